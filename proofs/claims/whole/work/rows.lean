section
-- ===== PART A: goes FIRST, ahead of the names: the tables' words, and 'selects' of the private methods out of them =====
/-- a private method of a class that the tables say can be made, by its rows of tables_1 -/
def lw_okq (q : MethodName × Nat) : Prop := (q.1.cls ≠ "java/lang/invoke/MethodHandle" ∧ q.1.cls ≠ "java/lang/invoke/VarHandle") ∧ Cond.instantiable q.1.cls q.2 ∈ tables_1 ∧ Cond.privateMethod q.1 ∈ tables_1 ∧ Cond.instanceMethod q.1 ∈ tables_1
theorem lw_p0 : lw_okq (⟨"YardActors$Actor", "hasRoom", "(I)Z"⟩, 8) := ⟨⟨by decide +kernel, by decide +kernel⟩, List.mem_of_getElem? (i := 61) (by decide +kernel), List.mem_of_getElem? (i := 170) (by decide +kernel), List.mem_of_getElem? (i := 171) (by decide +kernel)⟩
theorem lw_p1 : lw_okq (⟨"YardActors$Actor", "hasValue", "(I)Z"⟩, 8) := ⟨⟨by decide +kernel, by decide +kernel⟩, List.mem_of_getElem? (i := 61) (by decide +kernel), List.mem_of_getElem? (i := 178) (by decide +kernel), List.mem_of_getElem? (i := 179) (by decide +kernel)⟩
theorem lw_p2 : lw_okq (⟨"YardActors$Actor", "turn", "()I"⟩, 8) := ⟨⟨by decide +kernel, by decide +kernel⟩, List.mem_of_getElem? (i := 61) (by decide +kernel), List.mem_of_getElem? (i := 186) (by decide +kernel), List.mem_of_getElem? (i := 187) (by decide +kernel)⟩
theorem lw_p3 : lw_okq (⟨"YardActors$Actor", "isZero", "(I)Z"⟩, 8) := ⟨⟨by decide +kernel, by decide +kernel⟩, List.mem_of_getElem? (i := 61) (by decide +kernel), List.mem_of_getElem? (i := 190) (by decide +kernel), List.mem_of_getElem? (i := 191) (by decide +kernel)⟩
theorem lw_p4 : lw_okq (⟨"YardActors$Actor", "give", "(II)V"⟩, 8) := ⟨⟨by decide +kernel, by decide +kernel⟩, List.mem_of_getElem? (i := 61) (by decide +kernel), List.mem_of_getElem? (i := 210) (by decide +kernel), List.mem_of_getElem? (i := 211) (by decide +kernel)⟩
theorem lw_p5 : lw_okq (⟨"YardActors$Actor", "take", "(I)I"⟩, 8) := ⟨⟨by decide +kernel, by decide +kernel⟩, List.mem_of_getElem? (i := 61) (by decide +kernel), List.mem_of_getElem? (i := 218) (by decide +kernel), List.mem_of_getElem? (i := 219) (by decide +kernel)⟩
theorem lw_p6 : lw_okq (⟨"YardActors$Actor", "keep", "(I)V"⟩, 8) := ⟨⟨by decide +kernel, by decide +kernel⟩, List.mem_of_getElem? (i := 61) (by decide +kernel), List.mem_of_getElem? (i := 226) (by decide +kernel), List.mem_of_getElem? (i := 227) (by decide +kernel)⟩
theorem lw_p7 : lw_okq (⟨"YardActors$Yard", "stepDrawn", "(J)Z"⟩, 5) := ⟨⟨by decide +kernel, by decide +kernel⟩, List.mem_of_getElem? (i := 17) (by decide +kernel), List.mem_of_getElem? (i := 240) (by decide +kernel), List.mem_of_getElem? (i := 241) (by decide +kernel)⟩
theorem lw_p8 : lw_okq (⟨"YardActors$Yard", "listReady", "()I"⟩, 5) := ⟨⟨by decide +kernel, by decide +kernel⟩, List.mem_of_getElem? (i := 17) (by decide +kernel), List.mem_of_getElem? (i := 244) (by decide +kernel), List.mem_of_getElem? (i := 245) (by decide +kernel)⟩
theorem lw_p9 : lw_okq (⟨"YardActors", "settled", "()LYardActors$Yard;"⟩, 3) := ⟨⟨by decide +kernel, by decide +kernel⟩, List.mem_of_getElem? (i := 9) (by decide +kernel), List.mem_of_getElem? (i := 292) (by decide +kernel), List.mem_of_getElem? (i := 293) (by decide +kernel)⟩
theorem lw_p10 : lw_okq (⟨"YardActors$Yard", "stepRound", "()Z"⟩, 5) := ⟨⟨by decide +kernel, by decide +kernel⟩, List.mem_of_getElem? (i := 17) (by decide +kernel), List.mem_of_getElem? (i := 320) (by decide +kernel), List.mem_of_getElem? (i := 321) (by decide +kernel)⟩
theorem lw_p11 : lw_okq (⟨"YardActorsModel", "isActor", "(I)Z"⟩, 16) := ⟨⟨by decide +kernel, by decide +kernel⟩, List.mem_of_getElem? (i := 341) (by decide +kernel), List.mem_of_getElem? (i := 404) (by decide +kernel), List.mem_of_getElem? (i := 405) (by decide +kernel)⟩
theorem lw_p12 : lw_okq (⟨"YardActorsModel", "canAct", "(II)Z"⟩, 16) := ⟨⟨by decide +kernel, by decide +kernel⟩, List.mem_of_getElem? (i := 341) (by decide +kernel), List.mem_of_getElem? (i := 422) (by decide +kernel), List.mem_of_getElem? (i := 423) (by decide +kernel)⟩
theorem lw_p13 : lw_okq (⟨"YardActorsModel", "hasRoom", "(III)Z"⟩, 16) := ⟨⟨by decide +kernel, by decide +kernel⟩, List.mem_of_getElem? (i := 341) (by decide +kernel), List.mem_of_getElem? (i := 426) (by decide +kernel), List.mem_of_getElem? (i := 427) (by decide +kernel)⟩
theorem lw_p14 : lw_okq (⟨"YardActorsModel", "hasValue", "(III)Z"⟩, 16) := ⟨⟨by decide +kernel, by decide +kernel⟩, List.mem_of_getElem? (i := 341) (by decide +kernel), List.mem_of_getElem? (i := 430) (by decide +kernel), List.mem_of_getElem? (i := 431) (by decide +kernel)⟩
theorem lw_p15 : lw_okq (⟨"YardActorsModel", "look", "(III)I"⟩, 16) := ⟨⟨by decide +kernel, by decide +kernel⟩, List.mem_of_getElem? (i := 341) (by decide +kernel), List.mem_of_getElem? (i := 434) (by decide +kernel), List.mem_of_getElem? (i := 435) (by decide +kernel)⟩
def lw_privs_1 : List (MethodName × Nat) := [(⟨"YardActors$Actor", "hasRoom", "(I)Z"⟩, 8), (⟨"YardActors$Actor", "hasValue", "(I)Z"⟩, 8), (⟨"YardActors$Actor", "turn", "()I"⟩, 8), (⟨"YardActors$Actor", "isZero", "(I)Z"⟩, 8), (⟨"YardActors$Actor", "give", "(II)V"⟩, 8), (⟨"YardActors$Actor", "take", "(I)I"⟩, 8), (⟨"YardActors$Actor", "keep", "(I)V"⟩, 8), (⟨"YardActors$Yard", "stepDrawn", "(J)Z"⟩, 5), (⟨"YardActors$Yard", "listReady", "()I"⟩, 5), (⟨"YardActors", "settled", "()LYardActors$Yard;"⟩, 3), (⟨"YardActors$Yard", "stepRound", "()Z"⟩, 5), (⟨"YardActorsModel", "isActor", "(I)Z"⟩, 16), (⟨"YardActorsModel", "canAct", "(II)Z"⟩, 16), (⟨"YardActorsModel", "hasRoom", "(III)Z"⟩, 16), (⟨"YardActorsModel", "hasValue", "(III)Z"⟩, 16), (⟨"YardActorsModel", "look", "(III)I"⟩, 16)]
theorem lw_r1 : ∀ q ∈ lw_privs_1, lw_okq q := List.forall_mem_cons.mpr ⟨lw_p0, List.forall_mem_cons.mpr ⟨lw_p1, List.forall_mem_cons.mpr ⟨lw_p2, List.forall_mem_cons.mpr ⟨lw_p3, List.forall_mem_cons.mpr ⟨lw_p4, List.forall_mem_cons.mpr ⟨lw_p5, List.forall_mem_cons.mpr ⟨lw_p6, List.forall_mem_cons.mpr ⟨lw_p7, List.forall_mem_cons.mpr ⟨lw_p8, List.forall_mem_cons.mpr ⟨lw_p9, List.forall_mem_cons.mpr ⟨lw_p10, List.forall_mem_cons.mpr ⟨lw_p11, List.forall_mem_cons.mpr ⟨lw_p12, List.forall_mem_cons.mpr ⟨lw_p13, List.forall_mem_cons.mpr ⟨lw_p14, List.forall_mem_cons.mpr ⟨lw_p15, fun _ h => absurd h List.not_mem_nil⟩⟩⟩⟩⟩⟩⟩⟩⟩⟩⟩⟩⟩⟩⟩⟩
theorem lw_p16 : lw_okq (⟨"YardActorsModel", "doAct", "(II)V"⟩, 16) := ⟨⟨by decide +kernel, by decide +kernel⟩, List.mem_of_getElem? (i := 341) (by decide +kernel), List.mem_of_getElem? (i := 442) (by decide +kernel), List.mem_of_getElem? (i := 443) (by decide +kernel)⟩
theorem lw_p17 : lw_okq (⟨"YardActorsModel", "give", "(IIII)V"⟩, 16) := ⟨⟨by decide +kernel, by decide +kernel⟩, List.mem_of_getElem? (i := 341) (by decide +kernel), List.mem_of_getElem? (i := 446) (by decide +kernel), List.mem_of_getElem? (i := 447) (by decide +kernel)⟩
theorem lw_p18 : lw_okq (⟨"YardActorsModel", "take", "(III)I"⟩, 16) := ⟨⟨by decide +kernel, by decide +kernel⟩, List.mem_of_getElem? (i := 341) (by decide +kernel), List.mem_of_getElem? (i := 450) (by decide +kernel), List.mem_of_getElem? (i := 451) (by decide +kernel)⟩
theorem lw_p19 : lw_okq (⟨"YardActorsModel", "isSink", "(I)Z"⟩, 16) := ⟨⟨by decide +kernel, by decide +kernel⟩, List.mem_of_getElem? (i := 341) (by decide +kernel), List.mem_of_getElem? (i := 468) (by decide +kernel), List.mem_of_getElem? (i := 469) (by decide +kernel)⟩
theorem lw_p20 : lw_okq (⟨"YardActorsModel", "isChannel", "(I)Z"⟩, 16) := ⟨⟨by decide +kernel, by decide +kernel⟩, List.mem_of_getElem? (i := 341) (by decide +kernel), List.mem_of_getElem? (i := 481) (by decide +kernel), List.mem_of_getElem? (i := 482) (by decide +kernel)⟩
theorem lw_p21 : lw_okq (⟨"YardActorsModel", "settle", "()V"⟩, 16) := ⟨⟨by decide +kernel, by decide +kernel⟩, List.mem_of_getElem? (i := 341) (by decide +kernel), List.mem_of_getElem? (i := 493) (by decide +kernel), List.mem_of_getElem? (i := 494) (by decide +kernel)⟩
def lw_privs_2 : List (MethodName × Nat) := [(⟨"YardActorsModel", "doAct", "(II)V"⟩, 16), (⟨"YardActorsModel", "give", "(IIII)V"⟩, 16), (⟨"YardActorsModel", "take", "(III)I"⟩, 16), (⟨"YardActorsModel", "isSink", "(I)Z"⟩, 16), (⟨"YardActorsModel", "isChannel", "(I)Z"⟩, 16), (⟨"YardActorsModel", "settle", "()V"⟩, 16)]
theorem lw_r2 : ∀ q ∈ lw_privs_2, lw_okq q := List.forall_mem_cons.mpr ⟨lw_p16, List.forall_mem_cons.mpr ⟨lw_p17, List.forall_mem_cons.mpr ⟨lw_p18, List.forall_mem_cons.mpr ⟨lw_p19, List.forall_mem_cons.mpr ⟨lw_p20, List.forall_mem_cons.mpr ⟨lw_p21, fun _ h => absurd h List.not_mem_nil⟩⟩⟩⟩⟩⟩
def lw_privs : List (MethodName × Nat) := lw_privs_1 ++ (lw_privs_2)
def lw_tbl : List Cond := k2_sels lw_privs ++ tables_1
theorem lw_privs_ok : ∀ q ∈ lw_privs, lw_okq q := by
  show ∀ q ∈ lw_privs_1 ++ (lw_privs_2), lw_okq q
  exact List.forall_mem_append.mpr ⟨lw_r1, lw_r2⟩
end
section
/-! NAMES, by program: classes S YardActors, A Actor, C Channel, Y Yard, M the reference, L the law -/
def R_A : String := "YardActors$Actor"
def F_A : u_T := fun k => match k with
  | 0 => ("YardActors$Actor", "kind", "I", true)
  | 1 => ("YardActors$Actor", "a", "I", true)
  | 2 => ("YardActors$Actor", "b", "I", true)
  | 3 => ("YardActors$Actor", "ins", "[LYardActors$Channel;", true)
  | 4 => ("YardActors$Actor", "outs", "[LYardActors$Channel;", true)
  | 5 => ("YardActors$Actor", "row", "[I", true)
  | 6 => ("YardActors$Actor", "told", "I", false)
  | _ => ("YardActors$Actor", "times", "I", false)
def t_A : Nat → FieldType := fun k => match k with
  | 0 => .int
  | 1 => .int
  | 2 => .int
  | 3 => .array (.object "YardActors$Channel")
  | 4 => .array (.object "YardActors$Channel")
  | 5 => .array .int
  | 6 => .int
  | _ => .int
theorem n_A : ∀ a, a < 8 → ∀ b, b < 8 → a ≠ b → (F_A a).2.1 ≠ (F_A b).2.1 := by decide +kernel
theorem t_A_ok : ∀ k, k < 8 → parseFieldDescriptor (F_A k).2.2.1 = some (t_A k) := by decide +kernel
theorem i_A : ∀ w ∈ u_ws R_A F_A 8, w ∈ lw_tbl := by decide +kernel
def R_C : String := "YardActors$Channel"
def F_C : u_T := fun k => match k with
  | 0 => ("YardActors$Channel", "room", "I", true)
  | 1 => ("YardActors$Channel", "ring", "[I", true)
  | 2 => ("YardActors$Channel", "first", "I", false)
  | _ => ("YardActors$Channel", "count", "I", false)
def t_C : Nat → FieldType := fun k => match k with
  | 0 => .int
  | 1 => .array .int
  | 2 => .int
  | _ => .int
theorem n_C : ∀ a, a < 4 → ∀ b, b < 4 → a ≠ b → (F_C a).2.1 ≠ (F_C b).2.1 := by decide +kernel
theorem t_C_ok : ∀ k, k < 4 → parseFieldDescriptor (F_C k).2.2.1 = some (t_C k) := by decide +kernel
theorem i_C : ∀ w ∈ u_ws R_C F_C 4, w ∈ lw_tbl := by decide +kernel
def R_Y : String := "YardActors$Yard"
def F_Y : u_T := fun k => match k with
  | 0 => ("YardActors$Yard", "actors", "[LYardActors$Actor;", true)
  | 1 => ("YardActors$Yard", "channels", "[LYardActors$Channel;", true)
  | 2 => ("YardActors$Yard", "ready", "[I", true)
  | 3 => ("YardActors$Yard", "actorCount", "I", false)
  | _ => ("YardActors$Yard", "channelCount", "I", false)
def t_Y : Nat → FieldType := fun k => match k with
  | 0 => .array (.object "YardActors$Actor")
  | 1 => .array (.object "YardActors$Channel")
  | 2 => .array .int
  | 3 => .int
  | _ => .int
theorem n_Y : ∀ a, a < 5 → ∀ b, b < 5 → a ≠ b → (F_Y a).2.1 ≠ (F_Y b).2.1 := by decide +kernel
theorem t_Y_ok : ∀ k, k < 5 → parseFieldDescriptor (F_Y k).2.2.1 = some (t_Y k) := by decide +kernel
theorem i_Y : ∀ w ∈ u_ws R_Y F_Y 5, w ∈ lw_tbl := by decide +kernel
def R_S : String := "YardActors"
def F_S : u_T := fun k => match k with
  | 0 => ("YardActors", "now", "LYardActors$Yard;", true)
  | 1 => ("YardActors", "last", "LYardActors$Yard;", true)
  | _ => ("YardActors", "lastIsSettled", "Z", false)
def t_S : Nat → FieldType := fun k => match k with
  | 0 => .object "YardActors$Yard"
  | 1 => .object "YardActors$Yard"
  | _ => .boolean
theorem n_S : ∀ a, a < 3 → ∀ b, b < 3 → a ≠ b → (F_S a).2.1 ≠ (F_S b).2.1 := by decide +kernel
theorem t_S_ok : ∀ k, k < 3 → parseFieldDescriptor (F_S k).2.2.1 = some (t_S k) := by decide +kernel
theorem i_S : ∀ w ∈ u_ws R_S F_S 3, w ∈ lw_tbl := by decide +kernel
def R_M : String := "YardActorsModel"
def F_M : u_T := fun k => match k with
  | 0 => ("YardActorsModel", "actors", "I", false)
  | 1 => ("YardActorsModel", "kinds", "[I", true)
  | 2 => ("YardActorsModel", "as", "[I", true)
  | 3 => ("YardActorsModel", "bs", "[I", true)
  | 4 => ("YardActorsModel", "toldCounts", "[I", true)
  | 5 => ("YardActorsModel", "told", "[I", true)
  | 6 => ("YardActorsModel", "channels", "I", false)
  | 7 => ("YardActorsModel", "rooms", "[I", true)
  | 8 => ("YardActorsModel", "ins", "[I", true)
  | 9 => ("YardActorsModel", "outs", "[I", true)
  | 10 => ("YardActorsModel", "acted", "[I", true)
  | 11 => ("YardActorsModel", "turns", "[I", true)
  | 12 => ("YardActorsModel", "keptCounts", "[I", true)
  | 13 => ("YardActorsModel", "kept", "[I", true)
  | 14 => ("YardActorsModel", "counts", "[I", true)
  | _ => ("YardActorsModel", "values", "[I", true)
def t_M : Nat → FieldType := fun k => match k with
  | 0 => .int
  | 1 => .array .int
  | 2 => .array .int
  | 3 => .array .int
  | 4 => .array .int
  | 5 => .array .int
  | 6 => .int
  | 7 => .array .int
  | 8 => .array .int
  | 9 => .array .int
  | 10 => .array .int
  | 11 => .array .int
  | 12 => .array .int
  | 13 => .array .int
  | 14 => .array .int
  | _ => .array .int
theorem n_M : ∀ a, a < 16 → ∀ b, b < 16 → a ≠ b → (F_M a).2.1 ≠ (F_M b).2.1 := by decide +kernel
theorem t_M_ok : ∀ k, k < 16 → parseFieldDescriptor (F_M k).2.2.1 = some (t_M k) := by decide +kernel
theorem i_M : ∀ w ∈ u_ws R_M F_M 16, w ∈ lw_tbl := by decide +kernel
def R_L : String := "YardActorsLaw"
abbrev ycl : List vw_C := [(R_A, F_A, 8), (R_C, F_C, 4), (R_Y, F_Y, 5), (R_S, F_S, 3), (R_M, F_M, 16)]
abbrev k_A : Nat := 0
abbrev k_C : Nat := 1
abbrev k_Y : Nat := 2
abbrev k_S : Nat := 3
abbrev k_M : Nat := 4
def lg_tbl : List Cond := lw_tbl.filter goodWord
theorem lg_in {w : Cond} (h : w ∈ lw_tbl) (hg : goodWord w = true) : w ∈ lg_tbl := List.mem_filter.mpr ⟨h, hg⟩
theorem lg_good {w : Cond} (h : w ∈ lg_tbl) : goodWord w = true := (List.mem_filter.mp h).2
theorem lg_lw {w : Cond} (h : w ∈ lg_tbl) : w ∈ lw_tbl := (List.mem_filter.mp h).1
theorem lw_in1 {w : Cond} {i : Nat} (h : tables_1_1[i]? = some w) : w ∈ lw_tbl := List.mem_append_right _ (List.mem_append_left _ (List.mem_of_getElem? h))
theorem lw_in2 {w : Cond} {i : Nat} (h : tables_1_2[i]? = some w) : w ∈ lw_tbl := List.mem_append_right _ (List.mem_append_right _ (List.mem_append_left _ (List.mem_of_getElem? h)))
theorem lw_in3 {w : Cond} {i : Nat} (h : tables_1_3[i]? = some w) : w ∈ lw_tbl := List.mem_append_right _ (List.mem_append_right _ (List.mem_append_right _ (List.mem_of_getElem? h)))
theorem j_A : ∀ w ∈ u_ws R_A F_A 8, w ∈ lg_tbl := fun w h => lg_in (i_A w h) (List.all_eq_true.mp (show (u_ws R_A F_A 8).all goodWord = true by decide +kernel) w h)
theorem j_C : ∀ w ∈ u_ws R_C F_C 4, w ∈ lg_tbl := fun w h => lg_in (i_C w h) (List.all_eq_true.mp (show (u_ws R_C F_C 4).all goodWord = true by decide +kernel) w h)
theorem j_Y : ∀ w ∈ u_ws R_Y F_Y 5, w ∈ lg_tbl := fun w h => lg_in (i_Y w h) (List.all_eq_true.mp (show (u_ws R_Y F_Y 5).all goodWord = true by decide +kernel) w h)
theorem j_S : ∀ w ∈ u_ws R_S F_S 3, w ∈ lg_tbl := fun w h => lg_in (i_S w h) (List.all_eq_true.mp (show (u_ws R_S F_S 3).all goodWord = true by decide +kernel) w h)
theorem j_M : ∀ w ∈ u_ws R_M F_M 16, w ∈ lg_tbl := fun w h => lg_in (i_M w h) (List.all_eq_true.mp (show (u_ws R_M F_M 16).all goodWord = true by decide +kernel) w h)
abbrev b_S_init : ByteArray := prog_1_method_1_code
def y_S_init : MethodName := ⟨"YardActors", "<init>", "()V"⟩
def w_S_init : List Cond := .code y_S_init b_S_init 1 none :: lg_tbl
abbrev b_Y_init : ByteArray := prog_4_method_1_code
def y_Y_init : MethodName := ⟨"YardActors$Yard", "<init>", "()V"⟩
def w_Y_init : List Cond := .code y_Y_init b_Y_init 1 none :: lg_tbl
abbrev b_S_actor : ByteArray := prog_1_method_2_code
def y_S_actor : MethodName := ⟨"YardActors", "actor", "(III)I"⟩
def w_S_actor : List Cond := .code y_S_actor b_S_actor 5 (some .int) :: lg_tbl
abbrev b_Y_addActor : ByteArray := prog_4_method_2_code
def y_Y_addActor : MethodName := ⟨"YardActors$Yard", "addActor", "(III)I"⟩
def w_Y_addActor : List Cond := .code y_Y_addActor b_Y_addActor 4 (some .int) :: lg_tbl
abbrev b_A_init : ByteArray := prog_2_method_1_code
def y_A_init : MethodName := ⟨"YardActors$Actor", "<init>", "(III)V"⟩
def w_A_init : List Cond := .code y_A_init b_A_init 4 none :: lg_tbl
abbrev b_S_value : ByteArray := prog_1_method_3_code
def y_S_value : MethodName := ⟨"YardActors", "value", "(II)Z"⟩
def w_S_value : List Cond := .code y_S_value b_S_value 4 (some .boolean) :: lg_tbl
abbrev b_Y_findKind : ByteArray := prog_4_method_5_code
def y_Y_findKind : MethodName := ⟨"YardActors$Yard", "findKind", "(II)LYardActors$Actor;"⟩
def w_Y_findKind : List Cond := .code y_Y_findKind b_Y_findKind 4 (some (.object "YardActors$Actor")) :: lg_tbl
abbrev b_Y_findActor : ByteArray := prog_4_method_4_code
def y_Y_findActor : MethodName := ⟨"YardActors$Yard", "findActor", "(I)LYardActors$Actor;"⟩
def w_Y_findActor : List Cond := .code y_Y_findActor b_Y_findActor 2 (some (.object "YardActors$Actor")) :: lg_tbl
abbrev b_A_isKind : ByteArray := prog_2_method_2_code
def y_A_isKind : MethodName := ⟨"YardActors$Actor", "isKind", "(I)Z"⟩
def w_A_isKind : List Cond := .code y_A_isKind b_A_isKind 2 (some .boolean) :: lg_tbl
abbrev b_A_tell : ByteArray := prog_2_method_5_code
def y_A_tell : MethodName := ⟨"YardActors$Actor", "tell", "(I)Z"⟩
def w_A_tell : List Cond := .code y_A_tell b_A_tell 2 (some .boolean) :: lg_tbl
abbrev b_S_channel : ByteArray := prog_1_method_4_code
def y_S_channel : MethodName := ⟨"YardActors", "channel", "(IIIII)I"⟩
def w_S_channel : List Cond := .code y_S_channel b_S_channel 7 (some .int) :: lg_tbl
abbrev b_Y_join : ByteArray := prog_4_method_3_code
def y_Y_join : MethodName := ⟨"YardActors$Yard", "join", "(IIIII)I"⟩
def w_Y_join : List Cond := .code y_Y_join b_Y_join 9 (some .int) :: lg_tbl
abbrev b_A_hasFreeOut : ByteArray := prog_2_method_7_code
def y_A_hasFreeOut : MethodName := ⟨"YardActors$Actor", "hasFreeOut", "(I)Z"⟩
def w_A_hasFreeOut : List Cond := .code y_A_hasFreeOut b_A_hasFreeOut 2 (some .boolean) :: lg_tbl
abbrev b_A_hasFreeIn : ByteArray := prog_2_method_6_code
def y_A_hasFreeIn : MethodName := ⟨"YardActors$Actor", "hasFreeIn", "(I)Z"⟩
def w_A_hasFreeIn : List Cond := .code y_A_hasFreeIn b_A_hasFreeIn 2 (some .boolean) :: lg_tbl
abbrev b_C_init : ByteArray := prog_3_method_1_code
def y_C_init : MethodName := ⟨"YardActors$Channel", "<init>", "(I)V"⟩
def w_C_init : List Cond := .code y_C_init b_C_init 2 none :: lg_tbl
abbrev b_A_joinOut : ByteArray := prog_2_method_9_code
def y_A_joinOut : MethodName := ⟨"YardActors$Actor", "joinOut", "(ILYardActors$Channel;)V"⟩
def w_A_joinOut : List Cond := .code y_A_joinOut b_A_joinOut 3 none :: lg_tbl
abbrev b_A_joinIn : ByteArray := prog_2_method_8_code
def y_A_joinIn : MethodName := ⟨"YardActors$Actor", "joinIn", "(ILYardActors$Channel;)V"⟩
def w_A_joinIn : List Cond := .code y_A_joinIn b_A_joinIn 3 none :: lg_tbl
abbrev b_S_can : ByteArray := prog_1_method_5_code
def y_S_can : MethodName := ⟨"YardActors", "can", "(I)Z"⟩
def w_S_can : List Cond := .code y_S_can b_S_can 3 (some .boolean) :: lg_tbl
abbrev b_A_isReady : ByteArray := prog_2_method_10_code
def y_A_isReady : MethodName := ⟨"YardActors$Actor", "isReady", "()Z"⟩
def w_A_isReady : List Cond := .code y_A_isReady b_A_isReady 1 (some .boolean) :: lg_tbl
abbrev b_A_hasRoom : ByteArray := prog_2_method_15_code
def y_A_hasRoom : MethodName := ⟨"YardActors$Actor", "hasRoom", "(I)Z"⟩
def w_A_hasRoom : List Cond := .code y_A_hasRoom b_A_hasRoom 3 (some .boolean) :: lg_tbl
abbrev b_C_isFull : ByteArray := prog_3_method_3_code
def y_C_isFull : MethodName := ⟨"YardActors$Channel", "isFull", "()Z"⟩
def w_C_isFull : List Cond := .code y_C_isFull b_C_isFull 1 (some .boolean) :: lg_tbl
abbrev b_A_hasValue : ByteArray := prog_2_method_13_code
def y_A_hasValue : MethodName := ⟨"YardActors$Actor", "hasValue", "(I)Z"⟩
def w_A_hasValue : List Cond := .code y_A_hasValue b_A_hasValue 3 (some .boolean) :: lg_tbl
abbrev b_C_size : ByteArray := prog_3_method_2_code
def y_C_size : MethodName := ⟨"YardActors$Channel", "size", "()I"⟩
def w_C_size : List Cond := .code y_C_size b_C_size 1 (some .int) :: lg_tbl
abbrev b_A_turn : ByteArray := prog_2_method_12_code
def y_A_turn : MethodName := ⟨"YardActors$Actor", "turn", "()I"⟩
def w_A_turn : List Cond := .code y_A_turn b_A_turn 1 (some .int) :: lg_tbl
abbrev b_A_isZero : ByteArray := prog_2_method_14_code
def y_A_isZero : MethodName := ⟨"YardActors$Actor", "isZero", "(I)Z"⟩
def w_A_isZero : List Cond := .code y_A_isZero b_A_isZero 3 (some .boolean) :: lg_tbl
abbrev b_C_peek : ByteArray := prog_3_method_4_code
def y_C_peek : MethodName := ⟨"YardActors$Channel", "peek", "(I)I"⟩
def w_C_peek : List Cond := .code y_C_peek b_C_peek 2 (some .int) :: lg_tbl
abbrev b_S_act : ByteArray := prog_1_method_6_code
def y_S_act : MethodName := ⟨"YardActors", "act", "(I)Z"⟩
def w_S_act : List Cond := .code y_S_act b_S_act 3 (some .boolean) :: lg_tbl
abbrev b_A_step : ByteArray := prog_2_method_11_code
def y_A_step : MethodName := ⟨"YardActors$Actor", "step", "()V"⟩
def w_A_step : List Cond := .code y_A_step b_A_step 4 none :: lg_tbl
abbrev b_A_rowValue : ByteArray := prog_2_method_4_code
def y_A_rowValue : MethodName := ⟨"YardActors$Actor", "rowValue", "(I)I"⟩
def w_A_rowValue : List Cond := .code y_A_rowValue b_A_rowValue 2 (some .int) :: lg_tbl
abbrev b_A_give : ByteArray := prog_2_method_17_code
def y_A_give : MethodName := ⟨"YardActors$Actor", "give", "(II)V"⟩
def w_A_give : List Cond := .code y_A_give b_A_give 4 none :: lg_tbl
abbrev b_C_put : ByteArray := prog_3_method_5_code
def y_C_put : MethodName := ⟨"YardActors$Channel", "put", "(I)V"⟩
def w_C_put : List Cond := .code y_C_put b_C_put 2 none :: lg_tbl
abbrev b_A_take : ByteArray := prog_2_method_16_code
def y_A_take : MethodName := ⟨"YardActors$Actor", "take", "(I)I"⟩
def w_A_take : List Cond := .code y_A_take b_A_take 3 (some .int) :: lg_tbl
abbrev b_C_take : ByteArray := prog_3_method_6_code
def y_C_take : MethodName := ⟨"YardActors$Channel", "take", "()I"⟩
def w_C_take : List Cond := .code y_C_take b_C_take 2 (some .int) :: lg_tbl
abbrev b_A_keep : ByteArray := prog_2_method_18_code
def y_A_keep : MethodName := ⟨"YardActors$Actor", "keep", "(I)V"⟩
def w_A_keep : List Cond := .code y_A_keep b_A_keep 2 none :: lg_tbl
abbrev b_S_run : ByteArray := prog_1_method_7_code
def y_S_run : MethodName := ⟨"YardActors", "run", "(JI)I"⟩
def w_S_run : List Cond := .code y_S_run b_S_run 4 (some .int) :: lg_tbl
abbrev b_Y_stepBySeed : ByteArray := prog_4_method_8_code
def y_Y_stepBySeed : MethodName := ⟨"YardActors$Yard", "stepBySeed", "(JI)I"⟩
def w_Y_stepBySeed : List Cond := .code y_Y_stepBySeed b_Y_stepBySeed 8 (some .int) :: lg_tbl
abbrev b_Y_stepDrawn : ByteArray := prog_4_method_9_code
def y_Y_stepDrawn : MethodName := ⟨"YardActors$Yard", "stepDrawn", "(J)Z"⟩
def w_Y_stepDrawn : List Cond := .code y_Y_stepDrawn b_Y_stepDrawn 6 (some .boolean) :: lg_tbl
abbrev b_Y_listReady : ByteArray := prog_4_method_10_code
def y_Y_listReady : MethodName := ⟨"YardActors$Yard", "listReady", "()I"⟩
def w_Y_listReady : List Cond := .code y_Y_listReady b_Y_listReady 4 (some .int) :: lg_tbl
abbrev b_S_acted : ByteArray := prog_1_method_8_code
def y_S_acted : MethodName := ⟨"YardActors", "acted", "(I)I"⟩
def w_S_acted : List Cond := .code y_S_acted b_S_acted 2 (some .int) :: lg_tbl
abbrev b_S_timesOf : ByteArray := prog_1_method_18_code
def y_S_timesOf : MethodName := ⟨"YardActors", "timesOf", "(LYardActors$Actor;)I"⟩
def w_S_timesOf : List Cond := .code y_S_timesOf b_S_timesOf 1 (some .int) :: lg_tbl
abbrev b_A_times : ByteArray := prog_2_method_3_code
def y_A_times : MethodName := ⟨"YardActors$Actor", "times", "()I"⟩
def w_A_times : List Cond := .code y_A_times b_A_times 1 (some .int) :: lg_tbl
abbrev b_S_kept : ByteArray := prog_1_method_9_code
def y_S_kept : MethodName := ⟨"YardActors", "kept", "(I)I"⟩
def w_S_kept : List Cond := .code y_S_kept b_S_kept 2 (some .int) :: lg_tbl
abbrev b_S_at : ByteArray := prog_1_method_10_code
def y_S_at : MethodName := ⟨"YardActors", "at", "(II)J"⟩
def w_S_at : List Cond := .code y_S_at b_S_at 3 (some .long) :: lg_tbl
abbrev b_S_keptValue : ByteArray := prog_1_method_19_code
def y_S_keptValue : MethodName := ⟨"YardActors", "keptValue", "(LYardActors$Actor;I)J"⟩
def w_S_keptValue : List Cond := .code y_S_keptValue b_S_keptValue 2 (some .long) :: lg_tbl
abbrev b_S_waits : ByteArray := prog_1_method_11_code
def y_S_waits : MethodName := ⟨"YardActors", "waits", "(I)I"⟩
def w_S_waits : List Cond := .code y_S_waits b_S_waits 3 (some .int) :: lg_tbl
abbrev b_Y_findChannel : ByteArray := prog_4_method_6_code
def y_Y_findChannel : MethodName := ⟨"YardActors$Yard", "findChannel", "(I)LYardActors$Channel;"⟩
def w_Y_findChannel : List Cond := .code y_Y_findChannel b_Y_findChannel 2 (some (.object "YardActors$Channel")) :: lg_tbl
abbrev b_S_waiting : ByteArray := prog_1_method_12_code
def y_S_waiting : MethodName := ⟨"YardActors", "waiting", "(II)J"⟩
def w_S_waiting : List Cond := .code y_S_waiting b_S_waiting 4 (some .long) :: lg_tbl
abbrev b_S_keptAtLast : ByteArray := prog_1_method_13_code
def y_S_keptAtLast : MethodName := ⟨"YardActors", "keptAtLast", "(I)I"⟩
def w_S_keptAtLast : List Cond := .code y_S_keptAtLast b_S_keptAtLast 2 (some .int) :: lg_tbl
abbrev b_S_settled : ByteArray := prog_1_method_17_code
def y_S_settled : MethodName := ⟨"YardActors", "settled", "()LYardActors$Yard;"⟩
def w_S_settled : List Cond := .code y_S_settled b_S_settled 1 (some (.object "YardActors$Yard")) :: lg_tbl
abbrev b_Y_copyFrom : ByteArray := prog_4_method_13_code
def y_Y_copyFrom : MethodName := ⟨"YardActors$Yard", "copyFrom", "(LYardActors$Yard;)V"⟩
def w_Y_copyFrom : List Cond := .code y_Y_copyFrom b_Y_copyFrom 5 none :: lg_tbl
abbrev b_A_copyFrom : ByteArray := prog_2_method_19_code
def y_A_copyFrom : MethodName := ⟨"YardActors$Actor", "copyFrom", "(LYardActors$Actor;)V"⟩
def w_A_copyFrom : List Cond := .code y_A_copyFrom b_A_copyFrom 2 none :: lg_tbl
abbrev b_C_copyFrom : ByteArray := prog_3_method_7_code
def y_C_copyFrom : MethodName := ⟨"YardActors$Channel", "copyFrom", "(LYardActors$Channel;)V"⟩
def w_C_copyFrom : List Cond := .code y_C_copyFrom b_C_copyFrom 2 none :: lg_tbl
abbrev b_Y_settle : ByteArray := prog_4_method_11_code
def y_Y_settle : MethodName := ⟨"YardActors$Yard", "settle", "()V"⟩
def w_Y_settle : List Cond := .code y_Y_settle b_Y_settle 2 none :: lg_tbl
abbrev b_Y_stepRound : ByteArray := prog_4_method_12_code
def y_Y_stepRound : MethodName := ⟨"YardActors$Yard", "stepRound", "()Z"⟩
def w_Y_stepRound : List Cond := .code y_Y_stepRound b_Y_stepRound 5 (some .boolean) :: lg_tbl
abbrev b_S_atLast : ByteArray := prog_1_method_14_code
def y_S_atLast : MethodName := ⟨"YardActors", "atLast", "(II)J"⟩
def w_S_atLast : List Cond := .code y_S_atLast b_S_atLast 3 (some .long) :: lg_tbl
abbrev b_S_actedAtLast : ByteArray := prog_1_method_15_code
def y_S_actedAtLast : MethodName := ⟨"YardActors", "actedAtLast", "(I)I"⟩
def w_S_actedAtLast : List Cond := .code y_S_actedAtLast b_S_actedAtLast 2 (some .int) :: lg_tbl
abbrev b_S_fullAtLast : ByteArray := prog_1_method_16_code
def y_S_fullAtLast : MethodName := ⟨"YardActors", "fullAtLast", "(I)I"⟩
def w_S_fullAtLast : List Cond := .code y_S_fullAtLast b_S_fullAtLast 2 (some .int) :: lg_tbl
abbrev b_Y_findFull : ByteArray := prog_4_method_7_code
def y_Y_findFull : MethodName := ⟨"YardActors$Yard", "findFull", "(I)I"⟩
def w_Y_findFull : List Cond := .code y_Y_findFull b_Y_findFull 5 (some .int) :: lg_tbl
abbrev b_M_init : ByteArray := prog_6_method_1_code
def y_M_init : MethodName := ⟨"YardActorsModel", "<init>", "()V"⟩
def w_M_init : List Cond := .code y_M_init b_M_init 2 none :: lg_tbl
abbrev b_M_actor : ByteArray := prog_6_method_8_code
def y_M_actor : MethodName := ⟨"YardActorsModel", "actor", "(III)I"⟩
def w_M_actor : List Cond := .code y_M_actor b_M_actor 4 (some .int) :: lg_tbl
abbrev b_M_value : ByteArray := prog_6_method_9_code
def y_M_value : MethodName := ⟨"YardActorsModel", "value", "(II)Z"⟩
def w_M_value : List Cond := .code y_M_value b_M_value 3 (some .boolean) :: lg_tbl
abbrev b_M_isActor : ByteArray := prog_6_method_3_code
def y_M_isActor : MethodName := ⟨"YardActorsModel", "isActor", "(I)Z"⟩
def w_M_isActor : List Cond := .code y_M_isActor b_M_isActor 2 (some .boolean) :: lg_tbl
abbrev b_M_channel : ByteArray := prog_6_method_10_code
def y_M_channel : MethodName := ⟨"YardActorsModel", "channel", "(IIIII)I"⟩
def w_M_channel : List Cond := .code y_M_channel b_M_channel 7 (some .int) :: lg_tbl
abbrev b_M_outsOf : ByteArray := prog_6_method_7_code
def y_M_outsOf : MethodName := ⟨"YardActorsModel", "outsOf", "(I)I"⟩
def w_M_outsOf : List Cond := .code y_M_outsOf b_M_outsOf 1 (some .int) :: lg_tbl
abbrev b_M_insOf : ByteArray := prog_6_method_6_code
def y_M_insOf : MethodName := ⟨"YardActorsModel", "insOf", "(I)I"⟩
def w_M_insOf : List Cond := .code y_M_insOf b_M_insOf 1 (some .int) :: lg_tbl
abbrev b_M_can : ByteArray := prog_6_method_18_code
def y_M_can : MethodName := ⟨"YardActorsModel", "can", "(I)Z"⟩
def w_M_can : List Cond := .code y_M_can b_M_can 2 (some .boolean) :: lg_tbl
abbrev b_M_canAct : ByteArray := prog_6_method_16_code
def y_M_canAct : MethodName := ⟨"YardActorsModel", "canAct", "(II)Z"⟩
def w_M_canAct : List Cond := .code y_M_canAct b_M_canAct 4 (some .boolean) :: lg_tbl
abbrev b_M_hasRoom : ByteArray := prog_6_method_12_code
def y_M_hasRoom : MethodName := ⟨"YardActorsModel", "hasRoom", "(III)Z"⟩
def w_M_hasRoom : List Cond := .code y_M_hasRoom b_M_hasRoom 5 (some .boolean) :: lg_tbl
abbrev b_M_hasValue : ByteArray := prog_6_method_11_code
def y_M_hasValue : MethodName := ⟨"YardActorsModel", "hasValue", "(III)Z"⟩
def w_M_hasValue : List Cond := .code y_M_hasValue b_M_hasValue 5 (some .boolean) :: lg_tbl
abbrev b_M_look : ByteArray := prog_6_method_13_code
def y_M_look : MethodName := ⟨"YardActorsModel", "look", "(III)I"⟩
def w_M_look : List Cond := .code y_M_look b_M_look 4 (some .int) :: lg_tbl
abbrev b_M_act : ByteArray := prog_6_method_19_code
def y_M_act : MethodName := ⟨"YardActorsModel", "act", "(I)Z"⟩
def w_M_act : List Cond := .code y_M_act b_M_act 2 (some .boolean) :: lg_tbl
abbrev b_M_doAct : ByteArray := prog_6_method_17_code
def y_M_doAct : MethodName := ⟨"YardActorsModel", "doAct", "(II)V"⟩
def w_M_doAct : List Cond := .code y_M_doAct b_M_doAct 7 none :: lg_tbl
abbrev b_M_give : ByteArray := prog_6_method_15_code
def y_M_give : MethodName := ⟨"YardActorsModel", "give", "(IIII)V"⟩
def w_M_give : List Cond := .code y_M_give b_M_give 6 none :: lg_tbl
abbrev b_M_take : ByteArray := prog_6_method_14_code
def y_M_take : MethodName := ⟨"YardActorsModel", "take", "(III)I"⟩
def w_M_take : List Cond := .code y_M_take b_M_take 8 (some .int) :: lg_tbl
abbrev b_M_run : ByteArray := prog_6_method_20_code
def y_M_run : MethodName := ⟨"YardActorsModel", "run", "(JI)I"⟩
def w_M_run : List Cond := .code y_M_run b_M_run 10 (some .int) :: lg_tbl
abbrev b_M_acted : ByteArray := prog_6_method_21_code
def y_M_acted : MethodName := ⟨"YardActorsModel", "acted", "(I)I"⟩
def w_M_acted : List Cond := .code y_M_acted b_M_acted 2 (some .int) :: lg_tbl
abbrev b_M_kept : ByteArray := prog_6_method_22_code
def y_M_kept : MethodName := ⟨"YardActorsModel", "kept", "(I)I"⟩
def w_M_kept : List Cond := .code y_M_kept b_M_kept 2 (some .int) :: lg_tbl
abbrev b_M_isSink : ByteArray := prog_6_method_4_code
def y_M_isSink : MethodName := ⟨"YardActorsModel", "isSink", "(I)Z"⟩
def w_M_isSink : List Cond := .code y_M_isSink b_M_isSink 2 (some .boolean) :: lg_tbl
abbrev b_M_at : ByteArray := prog_6_method_23_code
def y_M_at : MethodName := ⟨"YardActorsModel", "at", "(II)J"⟩
def w_M_at : List Cond := .code y_M_at b_M_at 3 (some .long) :: lg_tbl
abbrev b_M_waits : ByteArray := prog_6_method_24_code
def y_M_waits : MethodName := ⟨"YardActorsModel", "waits", "(I)I"⟩
def w_M_waits : List Cond := .code y_M_waits b_M_waits 2 (some .int) :: lg_tbl
abbrev b_M_isChannel : ByteArray := prog_6_method_5_code
def y_M_isChannel : MethodName := ⟨"YardActorsModel", "isChannel", "(I)Z"⟩
def w_M_isChannel : List Cond := .code y_M_isChannel b_M_isChannel 2 (some .boolean) :: lg_tbl
abbrev b_M_waiting : ByteArray := prog_6_method_25_code
def y_M_waiting : MethodName := ⟨"YardActorsModel", "waiting", "(II)J"⟩
def w_M_waiting : List Cond := .code y_M_waiting b_M_waiting 3 (some .long) :: lg_tbl
abbrev b_M_keptAtLast : ByteArray := prog_6_method_27_code
def y_M_keptAtLast : MethodName := ⟨"YardActorsModel", "keptAtLast", "(I)I"⟩
def w_M_keptAtLast : List Cond := .code y_M_keptAtLast b_M_keptAtLast 2 (some .int) :: lg_tbl
abbrev b_M_settle : ByteArray := prog_6_method_26_code
def y_M_settle : MethodName := ⟨"YardActorsModel", "settle", "()V"⟩
def w_M_settle : List Cond := .code y_M_settle b_M_settle 2 none :: lg_tbl
abbrev b_M_atLast : ByteArray := prog_6_method_28_code
def y_M_atLast : MethodName := ⟨"YardActorsModel", "atLast", "(II)J"⟩
def w_M_atLast : List Cond := .code y_M_atLast b_M_atLast 3 (some .long) :: lg_tbl
abbrev b_M_actedAtLast : ByteArray := prog_6_method_29_code
def y_M_actedAtLast : MethodName := ⟨"YardActorsModel", "actedAtLast", "(I)I"⟩
def w_M_actedAtLast : List Cond := .code y_M_actedAtLast b_M_actedAtLast 2 (some .int) :: lg_tbl
abbrev b_M_fullAtLast : ByteArray := prog_6_method_30_code
def y_M_fullAtLast : MethodName := ⟨"YardActorsModel", "fullAtLast", "(I)I"⟩
def w_M_fullAtLast : List Cond := .code y_M_fullAtLast b_M_fullAtLast 5 (some .int) :: lg_tbl
theorem mc_S_init : Cond.code y_S_init b_S_init 1 none ∈ lg_tbl := lg_in (lw_in1 (i := 12) rfl) rfl
theorem mc_Y_init : Cond.code y_Y_init b_Y_init 1 none ∈ lg_tbl := lg_in (lw_in1 (i := 20) rfl) rfl
theorem mc_S_actor : Cond.code y_S_actor b_S_actor 5 (some .int) ∈ lg_tbl := lg_in (lw_in1 (i := 56) rfl) rfl
theorem mc_Y_addActor : Cond.code y_Y_addActor b_Y_addActor 4 (some .int) ∈ lg_tbl := lg_in (lw_in1 (i := 60) rfl) rfl
theorem mc_A_init : Cond.code y_A_init b_A_init 4 none ∈ lg_tbl := lg_in (lw_in1 (i := 64) rfl) rfl
theorem mc_S_value : Cond.code y_S_value b_S_value 4 (some .boolean) ∈ lg_tbl := lg_in (lw_in1 (i := 97) rfl) rfl
theorem mc_Y_findKind : Cond.code y_Y_findKind b_Y_findKind 4 (some (.object "YardActors$Actor")) ∈ lg_tbl := lg_in (lw_in1 (i := 101) rfl) rfl
theorem mc_Y_findActor : Cond.code y_Y_findActor b_Y_findActor 2 (some (.object "YardActors$Actor")) ∈ lg_tbl := lg_in (lw_in1 (i := 105) rfl) rfl
theorem mc_A_isKind : Cond.code y_A_isKind b_A_isKind 2 (some .boolean) ∈ lg_tbl := lg_in (lw_in1 (i := 109) rfl) rfl
theorem mc_A_tell : Cond.code y_A_tell b_A_tell 2 (some .boolean) ∈ lg_tbl := lg_in (lw_in1 (i := 113) rfl) rfl
theorem mc_S_channel : Cond.code y_S_channel b_S_channel 7 (some .int) ∈ lg_tbl := lg_in (lw_in1 (i := 117) rfl) rfl
theorem mc_Y_join : Cond.code y_Y_join b_Y_join 9 (some .int) ∈ lg_tbl := lg_in (lw_in1 (i := 121) rfl) rfl
theorem mc_A_hasFreeOut : Cond.code y_A_hasFreeOut b_A_hasFreeOut 2 (some .boolean) ∈ lg_tbl := lg_in (lw_in1 (i := 125) rfl) rfl
theorem mc_A_hasFreeIn : Cond.code y_A_hasFreeIn b_A_hasFreeIn 2 (some .boolean) ∈ lg_tbl := lg_in (lw_in1 (i := 131) rfl) rfl
theorem mc_C_init : Cond.code y_C_init b_C_init 2 none ∈ lg_tbl := lg_in (lw_in1 (i := 137) rfl) rfl
theorem mc_A_joinOut : Cond.code y_A_joinOut b_A_joinOut 3 none ∈ lg_tbl := lg_in (lw_in1 (i := 155) rfl) rfl
theorem mc_A_joinIn : Cond.code y_A_joinIn b_A_joinIn 3 none ∈ lg_tbl := lg_in (lw_in1 (i := 159) rfl) rfl
theorem mc_S_can : Cond.code y_S_can b_S_can 3 (some .boolean) ∈ lg_tbl := lg_in (lw_in1 (i := 163) rfl) rfl
theorem mc_A_isReady : Cond.code y_A_isReady b_A_isReady 1 (some .boolean) ∈ lg_tbl := lg_in (lw_in1 (i := 168) rfl) rfl
theorem mc_A_hasRoom : Cond.code y_A_hasRoom b_A_hasRoom 3 (some .boolean) ∈ lg_tbl := lg_in (lw_in1 (i := 172) rfl) rfl
theorem mc_C_isFull : Cond.code y_C_isFull b_C_isFull 1 (some .boolean) ∈ lg_tbl := lg_in (lw_in1 (i := 176) rfl) rfl
theorem mc_A_hasValue : Cond.code y_A_hasValue b_A_hasValue 3 (some .boolean) ∈ lg_tbl := lg_in (lw_in1 (i := 180) rfl) rfl
theorem mc_C_size : Cond.code y_C_size b_C_size 1 (some .int) ∈ lg_tbl := lg_in (lw_in1 (i := 184) rfl) rfl
theorem mc_A_turn : Cond.code y_A_turn b_A_turn 1 (some .int) ∈ lg_tbl := lg_in (lw_in1 (i := 188) rfl) rfl
theorem mc_A_isZero : Cond.code y_A_isZero b_A_isZero 3 (some .boolean) ∈ lg_tbl := lg_in (lw_in1 (i := 192) rfl) rfl
theorem mc_C_peek : Cond.code y_C_peek b_C_peek 2 (some .int) ∈ lg_tbl := lg_in (lw_in1 (i := 196) rfl) rfl
theorem mc_S_act : Cond.code y_S_act b_S_act 3 (some .boolean) ∈ lg_tbl := lg_in (lw_in1 (i := 200) rfl) rfl
theorem mc_A_step : Cond.code y_A_step b_A_step 4 none ∈ lg_tbl := lg_in (lw_in1 (i := 204) rfl) rfl
theorem mc_A_rowValue : Cond.code y_A_rowValue b_A_rowValue 2 (some .int) ∈ lg_tbl := lg_in (lw_in1 (i := 208) rfl) rfl
theorem mc_A_give : Cond.code y_A_give b_A_give 4 none ∈ lg_tbl := lg_in (lw_in1 (i := 212) rfl) rfl
theorem mc_C_put : Cond.code y_C_put b_C_put 2 none ∈ lg_tbl := lg_in (lw_in1 (i := 216) rfl) rfl
theorem mc_A_take : Cond.code y_A_take b_A_take 3 (some .int) ∈ lg_tbl := lg_in (lw_in1 (i := 220) rfl) rfl
theorem mc_C_take : Cond.code y_C_take b_C_take 2 (some .int) ∈ lg_tbl := lg_in (lw_in1 (i := 224) rfl) rfl
theorem mc_A_keep : Cond.code y_A_keep b_A_keep 2 none ∈ lg_tbl := lg_in (lw_in1 (i := 228) rfl) rfl
theorem mc_S_run : Cond.code y_S_run b_S_run 4 (some .int) ∈ lg_tbl := lg_in (lw_in1 (i := 232) rfl) rfl
theorem mc_Y_stepBySeed : Cond.code y_Y_stepBySeed b_Y_stepBySeed 8 (some .int) ∈ lg_tbl := lg_in (lw_in1 (i := 236) rfl) rfl
theorem mc_Y_stepDrawn : Cond.code y_Y_stepDrawn b_Y_stepDrawn 6 (some .boolean) ∈ lg_tbl := lg_in (lw_in2 (i := 2) rfl) rfl
theorem mc_Y_listReady : Cond.code y_Y_listReady b_Y_listReady 4 (some .int) ∈ lg_tbl := lg_in (lw_in2 (i := 6) rfl) rfl
theorem mc_S_acted : Cond.code y_S_acted b_S_acted 2 (some .int) ∈ lg_tbl := lg_in (lw_in2 (i := 12) rfl) rfl
theorem mc_S_timesOf : Cond.code y_S_timesOf b_S_timesOf 1 (some .int) ∈ lg_tbl := lg_in (lw_in2 (i := 15) rfl) rfl
theorem mc_A_times : Cond.code y_A_times b_A_times 1 (some .int) ∈ lg_tbl := lg_in (lw_in2 (i := 19) rfl) rfl
theorem mc_S_kept : Cond.code y_S_kept b_S_kept 2 (some .int) ∈ lg_tbl := lg_in (lw_in2 (i := 23) rfl) rfl
theorem mc_S_at : Cond.code y_S_at b_S_at 3 (some .long) ∈ lg_tbl := lg_in (lw_in2 (i := 27) rfl) rfl
theorem mc_S_keptValue : Cond.code y_S_keptValue b_S_keptValue 2 (some .long) ∈ lg_tbl := lg_in (lw_in2 (i := 30) rfl) rfl
theorem mc_S_waits : Cond.code y_S_waits b_S_waits 3 (some .int) ∈ lg_tbl := lg_in (lw_in2 (i := 36) rfl) rfl
theorem mc_Y_findChannel : Cond.code y_Y_findChannel b_Y_findChannel 2 (some (.object "YardActors$Channel")) ∈ lg_tbl := lg_in (lw_in2 (i := 40) rfl) rfl
theorem mc_S_waiting : Cond.code y_S_waiting b_S_waiting 4 (some .long) ∈ lg_tbl := lg_in (lw_in2 (i := 45) rfl) rfl
theorem mc_S_keptAtLast : Cond.code y_S_keptAtLast b_S_keptAtLast 2 (some .int) ∈ lg_tbl := lg_in (lw_in2 (i := 50) rfl) rfl
theorem mc_S_settled : Cond.code y_S_settled b_S_settled 1 (some (.object "YardActors$Yard")) ∈ lg_tbl := lg_in (lw_in2 (i := 54) rfl) rfl
theorem mc_Y_copyFrom : Cond.code y_Y_copyFrom b_Y_copyFrom 5 none ∈ lg_tbl := lg_in (lw_in2 (i := 58) rfl) rfl
theorem mc_A_copyFrom : Cond.code y_A_copyFrom b_A_copyFrom 2 none ∈ lg_tbl := lg_in (lw_in2 (i := 62) rfl) rfl
theorem mc_C_copyFrom : Cond.code y_C_copyFrom b_C_copyFrom 2 none ∈ lg_tbl := lg_in (lw_in2 (i := 73) rfl) rfl
theorem mc_Y_settle : Cond.code y_Y_settle b_Y_settle 2 none ∈ lg_tbl := lg_in (lw_in2 (i := 78) rfl) rfl
theorem mc_Y_stepRound : Cond.code y_Y_stepRound b_Y_stepRound 5 (some .boolean) ∈ lg_tbl := lg_in (lw_in2 (i := 82) rfl) rfl
theorem mc_S_atLast : Cond.code y_S_atLast b_S_atLast 3 (some .long) ∈ lg_tbl := lg_in (lw_in2 (i := 86) rfl) rfl
theorem mc_S_actedAtLast : Cond.code y_S_actedAtLast b_S_actedAtLast 2 (some .int) ∈ lg_tbl := lg_in (lw_in2 (i := 90) rfl) rfl
theorem mc_S_fullAtLast : Cond.code y_S_fullAtLast b_S_fullAtLast 2 (some .int) ∈ lg_tbl := lg_in (lw_in2 (i := 94) rfl) rfl
theorem mc_Y_findFull : Cond.code y_Y_findFull b_Y_findFull 5 (some .int) ∈ lg_tbl := lg_in (lw_in2 (i := 98) rfl) rfl
theorem mc_M_init : Cond.code y_M_init b_M_init 2 none ∈ lg_tbl := lg_in (lw_in2 (i := 104) rfl) rfl
theorem mc_M_actor : Cond.code y_M_actor b_M_actor 4 (some .int) ∈ lg_tbl := lg_in (lw_in2 (i := 158) rfl) rfl
theorem mc_M_value : Cond.code y_M_value b_M_value 3 (some .boolean) ∈ lg_tbl := lg_in (lw_in2 (i := 162) rfl) rfl
theorem mc_M_isActor : Cond.code y_M_isActor b_M_isActor 2 (some .boolean) ∈ lg_tbl := lg_in (lw_in2 (i := 166) rfl) rfl
theorem mc_M_channel : Cond.code y_M_channel b_M_channel 7 (some .int) ∈ lg_tbl := lg_in (lw_in2 (i := 170) rfl) rfl
theorem mc_M_outsOf : Cond.code y_M_outsOf b_M_outsOf 1 (some .int) ∈ lg_tbl := lg_in (lw_in2 (i := 173) rfl) rfl
theorem mc_M_insOf : Cond.code y_M_insOf b_M_insOf 1 (some .int) ∈ lg_tbl := lg_in (lw_in2 (i := 176) rfl) rfl
theorem mc_M_can : Cond.code y_M_can b_M_can 2 (some .boolean) ∈ lg_tbl := lg_in (lw_in2 (i := 180) rfl) rfl
theorem mc_M_canAct : Cond.code y_M_canAct b_M_canAct 4 (some .boolean) ∈ lg_tbl := lg_in (lw_in2 (i := 184) rfl) rfl
theorem mc_M_hasRoom : Cond.code y_M_hasRoom b_M_hasRoom 5 (some .boolean) ∈ lg_tbl := lg_in (lw_in2 (i := 188) rfl) rfl
theorem mc_M_hasValue : Cond.code y_M_hasValue b_M_hasValue 5 (some .boolean) ∈ lg_tbl := lg_in (lw_in2 (i := 192) rfl) rfl
theorem mc_M_look : Cond.code y_M_look b_M_look 4 (some .int) ∈ lg_tbl := lg_in (lw_in2 (i := 196) rfl) rfl
theorem mc_M_act : Cond.code y_M_act b_M_act 2 (some .boolean) ∈ lg_tbl := lg_in (lw_in2 (i := 200) rfl) rfl
theorem mc_M_doAct : Cond.code y_M_doAct b_M_doAct 7 none ∈ lg_tbl := lg_in (lw_in2 (i := 204) rfl) rfl
theorem mc_M_give : Cond.code y_M_give b_M_give 6 none ∈ lg_tbl := lg_in (lw_in2 (i := 208) rfl) rfl
theorem mc_M_take : Cond.code y_M_take b_M_take 8 (some .int) ∈ lg_tbl := lg_in (lw_in2 (i := 212) rfl) rfl
theorem mc_M_run : Cond.code y_M_run b_M_run 10 (some .int) ∈ lg_tbl := lg_in (lw_in2 (i := 216) rfl) rfl
theorem mc_M_acted : Cond.code y_M_acted b_M_acted 2 (some .int) ∈ lg_tbl := lg_in (lw_in2 (i := 222) rfl) rfl
theorem mc_M_kept : Cond.code y_M_kept b_M_kept 2 (some .int) ∈ lg_tbl := lg_in (lw_in2 (i := 226) rfl) rfl
theorem mc_M_isSink : Cond.code y_M_isSink b_M_isSink 2 (some .boolean) ∈ lg_tbl := lg_in (lw_in2 (i := 230) rfl) rfl
theorem mc_M_at : Cond.code y_M_at b_M_at 3 (some .long) ∈ lg_tbl := lg_in (lw_in2 (i := 234) rfl) rfl
theorem mc_M_waits : Cond.code y_M_waits b_M_waits 2 (some .int) ∈ lg_tbl := lg_in (lw_in2 (i := 239) rfl) rfl
theorem mc_M_isChannel : Cond.code y_M_isChannel b_M_isChannel 2 (some .boolean) ∈ lg_tbl := lg_in (lw_in3 (i := 3) rfl) rfl
theorem mc_M_waiting : Cond.code y_M_waiting b_M_waiting 3 (some .long) ∈ lg_tbl := lg_in (lw_in3 (i := 7) rfl) rfl
theorem mc_M_keptAtLast : Cond.code y_M_keptAtLast b_M_keptAtLast 2 (some .int) ∈ lg_tbl := lg_in (lw_in3 (i := 11) rfl) rfl
theorem mc_M_settle : Cond.code y_M_settle b_M_settle 2 none ∈ lg_tbl := lg_in (lw_in3 (i := 15) rfl) rfl
theorem mc_M_atLast : Cond.code y_M_atLast b_M_atLast 3 (some .long) ∈ lg_tbl := lg_in (lw_in3 (i := 19) rfl) rfl
theorem mc_M_actedAtLast : Cond.code y_M_actedAtLast b_M_actedAtLast 2 (some .int) ∈ lg_tbl := lg_in (lw_in3 (i := 23) rfl) rfl
theorem mc_M_fullAtLast : Cond.code y_M_fullAtLast b_M_fullAtLast 5 (some .int) ∈ lg_tbl := lg_in (lw_in3 (i := 27) rfl) rfl
theorem yg_sub {y : MethodName} {b : ByteArray} {n : Nat} {r : Option FieldType} {c : Cond} (hc : c ∈ lg_tbl) : GoodIn (Cond.code y b n r :: lg_tbl) (c :: lg_tbl) := fun w hw => by
  have hm : w ∈ lg_tbl := (List.mem_cons.mp hw).elim (fun e => e ▸ hc) id
  exact ⟨List.mem_cons_of_mem _ hm, good_of_word (lg_good hm)⟩
theorem yg_call {y y2 : MethodName} {b b2 : ByteArray} {n n2 idx : Nat} {r r2 : Option FieldType} {own C : String} (hc : Cond.code y2 b2 n2 r2 ∈ lg_tbl) (h1 : Cond.methodLink own idx y2 ∈ lg_tbl) (h2 : Cond.instanceMethod y2 ∈ lg_tbl) (h3 : Cond.selects C y2 y2 ∈ lg_tbl) (h4 : Cond.initialized C ∈ lg_tbl) : GoodIn (Cond.code y b n r :: lg_tbl) (wsV own idx C y2 (Cond.code y2 b2 n2 r2 :: lg_tbl)) := fun w hw => by
  rcases List.mem_append.mp hw with h | h
  · have hm : w ∈ lg_tbl := by
      rcases List.mem_cons.mp h with e | h
      · exact e ▸ h1
      · rcases List.mem_cons.mp h with e | h
        · exact e ▸ h2
        · rcases List.mem_cons.mp h with e | h
          · exact e ▸ h3
          · rcases List.mem_cons.mp h with e | h
            · exact e ▸ h4
            · cases h
    exact ⟨List.mem_cons_of_mem _ hm, good_of_word (lg_good hm)⟩
  · exact yg_sub hc w h
theorem mi_L : Cond.initialized "YardActorsLaw" ∈ lg_tbl := lg_in (lw_in1 (i := 0) (by decide +kernel)) (by decide +kernel)
theorem mi_S : Cond.initialized "YardActors" ∈ lg_tbl := lg_in (lw_in1 (i := 1) (by decide +kernel)) (by decide +kernel)
theorem mi_Y : Cond.initialized "YardActors$Yard" ∈ lg_tbl := lg_in (lw_in1 (i := 2) (by decide +kernel)) (by decide +kernel)
theorem mi_M : Cond.initialized "YardActorsModel" ∈ lg_tbl := lg_in (lw_in1 (i := 3) (by decide +kernel)) (by decide +kernel)
theorem mi_A : Cond.initialized "YardActors$Actor" ∈ lg_tbl := lg_in (lw_in1 (i := 4) (by decide +kernel)) (by decide +kernel)
theorem mi_C : Cond.initialized "YardActors$Channel" ∈ lg_tbl := lg_in (lw_in1 (i := 5) (by decide +kernel)) (by decide +kernel)
theorem mi_Math : Cond.initialized "java/lang/Math" ∈ lg_tbl := lg_in (lw_in1 (i := 6) (by decide +kernel)) (by decide +kernel)
theorem mi_System : Cond.initialized "java/lang/System" ∈ lg_tbl := lg_in (lw_in1 (i := 7) (by decide +kernel)) (by decide +kernel)
theorem mk_L_7 : Cond.classLink "YardActorsLaw" 7 "YardActors" ∈ lg_tbl := lg_in (lw_in1 (i := 8) (by decide +kernel)) (by decide +kernel)
theorem mn_S : Cond.instantiable "YardActors" 3 ∈ lg_tbl := lg_in (lw_in1 (i := 9) (by decide +kernel)) (by decide +kernel)
theorem ml_L_9 : Cond.methodLink "YardActorsLaw" 9 y_S_init ∈ lg_tbl := lg_in (lw_in1 (i := 10) (by decide +kernel)) (by decide +kernel)
theorem mm_S_init : Cond.instanceMethod y_S_init ∈ lg_tbl := lg_in (lw_in1 (i := 11) (by decide +kernel)) (by decide +kernel)
theorem ml_S_5 : Cond.methodLink "YardActors" 5 ⟨"java/lang/Object", "<init>", "()V"⟩ ∈ lg_tbl := lg_in (lw_in1 (i := 13) (by decide +kernel)) (by decide +kernel)
theorem mk_S_11 : Cond.classLink "YardActors" 11 "YardActors$Yard" ∈ lg_tbl := lg_in (lw_in1 (i := 16) (by decide +kernel)) (by decide +kernel)
theorem mn_Y : Cond.instantiable "YardActors$Yard" 5 ∈ lg_tbl := lg_in (lw_in1 (i := 17) (by decide +kernel)) (by decide +kernel)
theorem ml_S_13 : Cond.methodLink "YardActors" 13 y_Y_init ∈ lg_tbl := lg_in (lw_in1 (i := 18) (by decide +kernel)) (by decide +kernel)
theorem mm_Y_init : Cond.instanceMethod y_Y_init ∈ lg_tbl := lg_in (lw_in1 (i := 19) (by decide +kernel)) (by decide +kernel)
theorem ml_Y_3 : Cond.methodLink "YardActors$Yard" 3 ⟨"java/lang/Object", "<init>", "()V"⟩ ∈ lg_tbl := lg_in (lw_in1 (i := 21) (by decide +kernel)) (by decide +kernel)
theorem mk_Y_9 : Cond.classLink "YardActors$Yard" 9 "YardActors$Actor" ∈ lg_tbl := lg_in (lw_in1 (i := 22) (by decide +kernel)) (by decide +kernel)
theorem mk_Y_17 : Cond.classLink "YardActors$Yard" 17 "YardActors$Channel" ∈ lg_tbl := lg_in (lw_in1 (i := 24) (by decide +kernel)) (by decide +kernel)
theorem mf_Y_11 : Cond.fieldLink "YardActors$Yard" 11 "YardActors$Yard" "actors" "[LYardActors$Actor;" ∈ lg_tbl := lg_in (lw_in1 (i := 26) (by decide +kernel)) (by decide +kernel)
theorem mf_Y_19 : Cond.fieldLink "YardActors$Yard" 19 "YardActors$Yard" "channels" "[LYardActors$Channel;" ∈ lg_tbl := lg_in (lw_in1 (i := 27) (by decide +kernel)) (by decide +kernel)
theorem mf_Y_23 : Cond.fieldLink "YardActors$Yard" 23 "YardActors$Yard" "ready" "[I" ∈ lg_tbl := lg_in (lw_in1 (i := 28) (by decide +kernel)) (by decide +kernel)
theorem mf_Y_27 : Cond.fieldLink "YardActors$Yard" 27 "YardActors$Yard" "actorCount" "I" ∈ lg_tbl := lg_in (lw_in1 (i := 29) (by decide +kernel)) (by decide +kernel)
theorem mf_Y_31 : Cond.fieldLink "YardActors$Yard" 31 "YardActors$Yard" "channelCount" "I" ∈ lg_tbl := lg_in (lw_in1 (i := 30) (by decide +kernel)) (by decide +kernel)
theorem ma_int : Cond.arrayClass .int ∈ lg_tbl := lg_in (lw_in1 (i := 42) (by decide +kernel)) (by decide +kernel)
theorem mf_S_14 : Cond.fieldLink "YardActors" 14 "YardActors" "now" "LYardActors$Yard;" ∈ lg_tbl := lg_in (lw_in1 (i := 43) (by decide +kernel)) (by decide +kernel)
theorem mf_S_18 : Cond.fieldLink "YardActors" 18 "YardActors" "last" "LYardActors$Yard;" ∈ lg_tbl := lg_in (lw_in1 (i := 44) (by decide +kernel)) (by decide +kernel)
theorem mf_S_21 : Cond.fieldLink "YardActors" 21 "YardActors" "lastIsSettled" "Z" ∈ lg_tbl := lg_in (lw_in1 (i := 45) (by decide +kernel)) (by decide +kernel)
theorem ml_L_13 : Cond.methodLink "YardActorsLaw" 13 y_S_actor ∈ lg_tbl := lg_in (lw_in1 (i := 53) (by decide +kernel)) (by decide +kernel)
theorem mm_S_actor : Cond.instanceMethod y_S_actor ∈ lg_tbl := lg_in (lw_in1 (i := 54) (by decide +kernel)) (by decide +kernel)
theorem ml_S_25 : Cond.methodLink "YardActors" 25 y_Y_addActor ∈ lg_tbl := lg_in (lw_in1 (i := 57) (by decide +kernel)) (by decide +kernel)
theorem mm_Y_addActor : Cond.instanceMethod y_Y_addActor ∈ lg_tbl := lg_in (lw_in1 (i := 58) (by decide +kernel)) (by decide +kernel)
theorem mn_A : Cond.instantiable "YardActors$Actor" 8 ∈ lg_tbl := lg_in (lw_in1 (i := 61) (by decide +kernel)) (by decide +kernel)
theorem ml_Y_34 : Cond.methodLink "YardActors$Yard" 34 y_A_init ∈ lg_tbl := lg_in (lw_in1 (i := 62) (by decide +kernel)) (by decide +kernel)
theorem mm_A_init : Cond.instanceMethod y_A_init ∈ lg_tbl := lg_in (lw_in1 (i := 63) (by decide +kernel)) (by decide +kernel)
theorem ml_A_3 : Cond.methodLink "YardActors$Actor" 3 ⟨"java/lang/Object", "<init>", "()V"⟩ ∈ lg_tbl := lg_in (lw_in1 (i := 65) (by decide +kernel)) (by decide +kernel)
theorem mk_A_21 : Cond.classLink "YardActors$Actor" 21 "YardActors$Channel" ∈ lg_tbl := lg_in (lw_in1 (i := 66) (by decide +kernel)) (by decide +kernel)
theorem mf_A_9 : Cond.fieldLink "YardActors$Actor" 9 "YardActors$Actor" "kind" "I" ∈ lg_tbl := lg_in (lw_in1 (i := 69) (by decide +kernel)) (by decide +kernel)
theorem mf_A_15 : Cond.fieldLink "YardActors$Actor" 15 "YardActors$Actor" "a" "I" ∈ lg_tbl := lg_in (lw_in1 (i := 70) (by decide +kernel)) (by decide +kernel)
theorem mf_A_18 : Cond.fieldLink "YardActors$Actor" 18 "YardActors$Actor" "b" "I" ∈ lg_tbl := lg_in (lw_in1 (i := 71) (by decide +kernel)) (by decide +kernel)
theorem mf_A_23 : Cond.fieldLink "YardActors$Actor" 23 "YardActors$Actor" "ins" "[LYardActors$Channel;" ∈ lg_tbl := lg_in (lw_in1 (i := 72) (by decide +kernel)) (by decide +kernel)
theorem mf_A_27 : Cond.fieldLink "YardActors$Actor" 27 "YardActors$Actor" "outs" "[LYardActors$Channel;" ∈ lg_tbl := lg_in (lw_in1 (i := 73) (by decide +kernel)) (by decide +kernel)
theorem mf_A_34 : Cond.fieldLink "YardActors$Actor" 34 "YardActors$Actor" "row" "[I" ∈ lg_tbl := lg_in (lw_in1 (i := 74) (by decide +kernel)) (by decide +kernel)
theorem mf_A_37 : Cond.fieldLink "YardActors$Actor" 37 "YardActors$Actor" "told" "I" ∈ lg_tbl := lg_in (lw_in1 (i := 75) (by decide +kernel)) (by decide +kernel)
theorem mf_A_40 : Cond.fieldLink "YardActors$Actor" 40 "YardActors$Actor" "times" "I" ∈ lg_tbl := lg_in (lw_in1 (i := 76) (by decide +kernel)) (by decide +kernel)
theorem ml_L_18 : Cond.methodLink "YardActorsLaw" 18 y_S_value ∈ lg_tbl := lg_in (lw_in1 (i := 94) (by decide +kernel)) (by decide +kernel)
theorem mm_S_value : Cond.instanceMethod y_S_value ∈ lg_tbl := lg_in (lw_in1 (i := 95) (by decide +kernel)) (by decide +kernel)
theorem ml_S_29 : Cond.methodLink "YardActors" 29 y_Y_findKind ∈ lg_tbl := lg_in (lw_in1 (i := 98) (by decide +kernel)) (by decide +kernel)
theorem mm_Y_findKind : Cond.instanceMethod y_Y_findKind ∈ lg_tbl := lg_in (lw_in1 (i := 99) (by decide +kernel)) (by decide +kernel)
theorem ml_Y_37 : Cond.methodLink "YardActors$Yard" 37 y_Y_findActor ∈ lg_tbl := lg_in (lw_in1 (i := 102) (by decide +kernel)) (by decide +kernel)
theorem mm_Y_findActor : Cond.instanceMethod y_Y_findActor ∈ lg_tbl := lg_in (lw_in1 (i := 103) (by decide +kernel)) (by decide +kernel)
theorem ml_Y_58 : Cond.methodLink "YardActors$Yard" 58 y_A_isKind ∈ lg_tbl := lg_in (lw_in1 (i := 106) (by decide +kernel)) (by decide +kernel)
theorem mm_A_isKind : Cond.instanceMethod y_A_isKind ∈ lg_tbl := lg_in (lw_in1 (i := 107) (by decide +kernel)) (by decide +kernel)
theorem ml_S_33 : Cond.methodLink "YardActors" 33 y_A_tell ∈ lg_tbl := lg_in (lw_in1 (i := 110) (by decide +kernel)) (by decide +kernel)
theorem mm_A_tell : Cond.instanceMethod y_A_tell ∈ lg_tbl := lg_in (lw_in1 (i := 111) (by decide +kernel)) (by decide +kernel)
theorem ml_L_23 : Cond.methodLink "YardActorsLaw" 23 y_S_channel ∈ lg_tbl := lg_in (lw_in1 (i := 114) (by decide +kernel)) (by decide +kernel)
theorem mm_S_channel : Cond.instanceMethod y_S_channel ∈ lg_tbl := lg_in (lw_in1 (i := 115) (by decide +kernel)) (by decide +kernel)
theorem ml_S_39 : Cond.methodLink "YardActors" 39 y_Y_join ∈ lg_tbl := lg_in (lw_in1 (i := 118) (by decide +kernel)) (by decide +kernel)
theorem mm_Y_join : Cond.instanceMethod y_Y_join ∈ lg_tbl := lg_in (lw_in1 (i := 119) (by decide +kernel)) (by decide +kernel)
theorem ml_Y_41 : Cond.methodLink "YardActors$Yard" 41 y_A_hasFreeOut ∈ lg_tbl := lg_in (lw_in1 (i := 122) (by decide +kernel)) (by decide +kernel)
theorem mm_A_hasFreeOut : Cond.instanceMethod y_A_hasFreeOut ∈ lg_tbl := lg_in (lw_in1 (i := 123) (by decide +kernel)) (by decide +kernel)
theorem ml_Y_45 : Cond.methodLink "YardActors$Yard" 45 y_A_hasFreeIn ∈ lg_tbl := lg_in (lw_in1 (i := 128) (by decide +kernel)) (by decide +kernel)
theorem mm_A_hasFreeIn : Cond.instanceMethod y_A_hasFreeIn ∈ lg_tbl := lg_in (lw_in1 (i := 129) (by decide +kernel)) (by decide +kernel)
theorem mn_C : Cond.instantiable "YardActors$Channel" 4 ∈ lg_tbl := lg_in (lw_in1 (i := 134) (by decide +kernel)) (by decide +kernel)
theorem ml_Y_48 : Cond.methodLink "YardActors$Yard" 48 y_C_init ∈ lg_tbl := lg_in (lw_in1 (i := 135) (by decide +kernel)) (by decide +kernel)
theorem mm_C_init : Cond.instanceMethod y_C_init ∈ lg_tbl := lg_in (lw_in1 (i := 136) (by decide +kernel)) (by decide +kernel)
theorem ml_C_3 : Cond.methodLink "YardActors$Channel" 3 ⟨"java/lang/Object", "<init>", "()V"⟩ ∈ lg_tbl := lg_in (lw_in1 (i := 138) (by decide +kernel)) (by decide +kernel)
theorem mf_C_9 : Cond.fieldLink "YardActors$Channel" 9 "YardActors$Channel" "room" "I" ∈ lg_tbl := lg_in (lw_in1 (i := 139) (by decide +kernel)) (by decide +kernel)
theorem mf_C_15 : Cond.fieldLink "YardActors$Channel" 15 "YardActors$Channel" "ring" "[I" ∈ lg_tbl := lg_in (lw_in1 (i := 140) (by decide +kernel)) (by decide +kernel)
theorem mf_C_19 : Cond.fieldLink "YardActors$Channel" 19 "YardActors$Channel" "first" "I" ∈ lg_tbl := lg_in (lw_in1 (i := 141) (by decide +kernel)) (by decide +kernel)
theorem mf_C_22 : Cond.fieldLink "YardActors$Channel" 22 "YardActors$Channel" "count" "I" ∈ lg_tbl := lg_in (lw_in1 (i := 142) (by decide +kernel)) (by decide +kernel)
theorem ml_Y_51 : Cond.methodLink "YardActors$Yard" 51 y_A_joinOut ∈ lg_tbl := lg_in (lw_in1 (i := 152) (by decide +kernel)) (by decide +kernel)
theorem mm_A_joinOut : Cond.instanceMethod y_A_joinOut ∈ lg_tbl := lg_in (lw_in1 (i := 153) (by decide +kernel)) (by decide +kernel)
theorem ml_Y_55 : Cond.methodLink "YardActors$Yard" 55 y_A_joinIn ∈ lg_tbl := lg_in (lw_in1 (i := 156) (by decide +kernel)) (by decide +kernel)
theorem mm_A_joinIn : Cond.instanceMethod y_A_joinIn ∈ lg_tbl := lg_in (lw_in1 (i := 157) (by decide +kernel)) (by decide +kernel)
theorem ml_L_28 : Cond.methodLink "YardActorsLaw" 28 y_S_can ∈ lg_tbl := lg_in (lw_in1 (i := 160) (by decide +kernel)) (by decide +kernel)
theorem mm_S_can : Cond.instanceMethod y_S_can ∈ lg_tbl := lg_in (lw_in1 (i := 161) (by decide +kernel)) (by decide +kernel)
theorem ml_S_43 : Cond.methodLink "YardActors" 43 y_Y_findActor ∈ lg_tbl := lg_in (lw_in1 (i := 164) (by decide +kernel)) (by decide +kernel)
theorem ml_S_47 : Cond.methodLink "YardActors" 47 y_A_isReady ∈ lg_tbl := lg_in (lw_in1 (i := 165) (by decide +kernel)) (by decide +kernel)
theorem mm_A_isReady : Cond.instanceMethod y_A_isReady ∈ lg_tbl := lg_in (lw_in1 (i := 166) (by decide +kernel)) (by decide +kernel)
theorem ml_A_49 : Cond.methodLink "YardActors$Actor" 49 y_A_hasRoom ∈ lg_tbl := lg_in (lw_in1 (i := 169) (by decide +kernel)) (by decide +kernel)
theorem mm_A_hasRoom : Cond.instanceMethod y_A_hasRoom ∈ lg_tbl := lg_in (lw_in1 (i := 171) (by decide +kernel)) (by decide +kernel)
theorem ml_A_84 : Cond.methodLink "YardActors$Actor" 84 y_C_isFull ∈ lg_tbl := lg_in (lw_in1 (i := 173) (by decide +kernel)) (by decide +kernel)
theorem mm_C_isFull : Cond.instanceMethod y_C_isFull ∈ lg_tbl := lg_in (lw_in1 (i := 174) (by decide +kernel)) (by decide +kernel)
theorem ml_A_53 : Cond.methodLink "YardActors$Actor" 53 y_A_hasValue ∈ lg_tbl := lg_in (lw_in1 (i := 177) (by decide +kernel)) (by decide +kernel)
theorem mm_A_hasValue : Cond.instanceMethod y_A_hasValue ∈ lg_tbl := lg_in (lw_in1 (i := 179) (by decide +kernel)) (by decide +kernel)
theorem ml_A_78 : Cond.methodLink "YardActors$Actor" 78 y_C_size ∈ lg_tbl := lg_in (lw_in1 (i := 181) (by decide +kernel)) (by decide +kernel)
theorem mm_C_size : Cond.instanceMethod y_C_size ∈ lg_tbl := lg_in (lw_in1 (i := 182) (by decide +kernel)) (by decide +kernel)
theorem ml_A_56 : Cond.methodLink "YardActors$Actor" 56 y_A_turn ∈ lg_tbl := lg_in (lw_in1 (i := 185) (by decide +kernel)) (by decide +kernel)
theorem mm_A_turn : Cond.instanceMethod y_A_turn ∈ lg_tbl := lg_in (lw_in1 (i := 187) (by decide +kernel)) (by decide +kernel)
theorem ml_A_60 : Cond.methodLink "YardActors$Actor" 60 y_A_isZero ∈ lg_tbl := lg_in (lw_in1 (i := 189) (by decide +kernel)) (by decide +kernel)
theorem mm_A_isZero : Cond.instanceMethod y_A_isZero ∈ lg_tbl := lg_in (lw_in1 (i := 191) (by decide +kernel)) (by decide +kernel)
theorem ml_A_81 : Cond.methodLink "YardActors$Actor" 81 y_C_peek ∈ lg_tbl := lg_in (lw_in1 (i := 193) (by decide +kernel)) (by decide +kernel)
theorem mm_C_peek : Cond.instanceMethod y_C_peek ∈ lg_tbl := lg_in (lw_in1 (i := 194) (by decide +kernel)) (by decide +kernel)
theorem ml_L_33 : Cond.methodLink "YardActorsLaw" 33 y_S_act ∈ lg_tbl := lg_in (lw_in1 (i := 197) (by decide +kernel)) (by decide +kernel)
theorem mm_S_act : Cond.instanceMethod y_S_act ∈ lg_tbl := lg_in (lw_in1 (i := 198) (by decide +kernel)) (by decide +kernel)
theorem ml_S_51 : Cond.methodLink "YardActors" 51 y_A_step ∈ lg_tbl := lg_in (lw_in1 (i := 201) (by decide +kernel)) (by decide +kernel)
theorem mm_A_step : Cond.instanceMethod y_A_step ∈ lg_tbl := lg_in (lw_in1 (i := 202) (by decide +kernel)) (by decide +kernel)
theorem ml_A_63 : Cond.methodLink "YardActors$Actor" 63 y_A_rowValue ∈ lg_tbl := lg_in (lw_in1 (i := 205) (by decide +kernel)) (by decide +kernel)
theorem mm_A_rowValue : Cond.instanceMethod y_A_rowValue ∈ lg_tbl := lg_in (lw_in1 (i := 206) (by decide +kernel)) (by decide +kernel)
theorem ml_A_67 : Cond.methodLink "YardActors$Actor" 67 y_A_give ∈ lg_tbl := lg_in (lw_in1 (i := 209) (by decide +kernel)) (by decide +kernel)
theorem mm_A_give : Cond.instanceMethod y_A_give ∈ lg_tbl := lg_in (lw_in1 (i := 211) (by decide +kernel)) (by decide +kernel)
theorem ml_A_90 : Cond.methodLink "YardActors$Actor" 90 y_C_put ∈ lg_tbl := lg_in (lw_in1 (i := 213) (by decide +kernel)) (by decide +kernel)
theorem mm_C_put : Cond.instanceMethod y_C_put ∈ lg_tbl := lg_in (lw_in1 (i := 214) (by decide +kernel)) (by decide +kernel)
theorem ml_A_71 : Cond.methodLink "YardActors$Actor" 71 y_A_take ∈ lg_tbl := lg_in (lw_in1 (i := 217) (by decide +kernel)) (by decide +kernel)
theorem mm_A_take : Cond.instanceMethod y_A_take ∈ lg_tbl := lg_in (lw_in1 (i := 219) (by decide +kernel)) (by decide +kernel)
theorem ml_A_88 : Cond.methodLink "YardActors$Actor" 88 y_C_take ∈ lg_tbl := lg_in (lw_in1 (i := 221) (by decide +kernel)) (by decide +kernel)
theorem mm_C_take : Cond.instanceMethod y_C_take ∈ lg_tbl := lg_in (lw_in1 (i := 222) (by decide +kernel)) (by decide +kernel)
theorem ml_A_74 : Cond.methodLink "YardActors$Actor" 74 y_A_keep ∈ lg_tbl := lg_in (lw_in1 (i := 225) (by decide +kernel)) (by decide +kernel)
theorem mm_A_keep : Cond.instanceMethod y_A_keep ∈ lg_tbl := lg_in (lw_in1 (i := 227) (by decide +kernel)) (by decide +kernel)
theorem ml_L_39 : Cond.methodLink "YardActorsLaw" 39 y_S_run ∈ lg_tbl := lg_in (lw_in1 (i := 229) (by decide +kernel)) (by decide +kernel)
theorem mm_S_run : Cond.instanceMethod y_S_run ∈ lg_tbl := lg_in (lw_in1 (i := 230) (by decide +kernel)) (by decide +kernel)
theorem ml_S_54 : Cond.methodLink "YardActors" 54 y_Y_stepBySeed ∈ lg_tbl := lg_in (lw_in1 (i := 233) (by decide +kernel)) (by decide +kernel)
theorem mm_Y_stepBySeed : Cond.instanceMethod y_Y_stepBySeed ∈ lg_tbl := lg_in (lw_in1 (i := 234) (by decide +kernel)) (by decide +kernel)
theorem mq_Y_69 : Cond.constantLong "YardActors$Yard" 69 (6364136223846793005) ∈ lg_tbl := lg_in (lw_in1 (i := 237) (by decide +kernel)) (by decide +kernel)
theorem mq_Y_71 : Cond.constantLong "YardActors$Yard" 71 (1442695040888963407) ∈ lg_tbl := lg_in (lw_in1 (i := 238) (by decide +kernel)) (by decide +kernel)
theorem ml_Y_73 : Cond.methodLink "YardActors$Yard" 73 y_Y_stepDrawn ∈ lg_tbl := lg_in (lw_in1 (i := 239) (by decide +kernel)) (by decide +kernel)
theorem mm_Y_stepDrawn : Cond.instanceMethod y_Y_stepDrawn ∈ lg_tbl := lg_in (lw_in2 (i := 1) (by decide +kernel)) (by decide +kernel)
theorem ml_Y_77 : Cond.methodLink "YardActors$Yard" 77 y_Y_listReady ∈ lg_tbl := lg_in (lw_in2 (i := 3) (by decide +kernel)) (by decide +kernel)
theorem mm_Y_listReady : Cond.instanceMethod y_Y_listReady ∈ lg_tbl := lg_in (lw_in2 (i := 5) (by decide +kernel)) (by decide +kernel)
theorem ml_Y_84 : Cond.methodLink "YardActors$Yard" 84 y_A_isReady ∈ lg_tbl := lg_in (lw_in2 (i := 7) (by decide +kernel)) (by decide +kernel)
theorem ml_Y_81 : Cond.methodLink "YardActors$Yard" 81 y_A_step ∈ lg_tbl := lg_in (lw_in2 (i := 8) (by decide +kernel)) (by decide +kernel)
theorem ml_L_44 : Cond.methodLink "YardActorsLaw" 44 y_S_acted ∈ lg_tbl := lg_in (lw_in2 (i := 9) (by decide +kernel)) (by decide +kernel)
theorem mm_S_acted : Cond.instanceMethod y_S_acted ∈ lg_tbl := lg_in (lw_in2 (i := 10) (by decide +kernel)) (by decide +kernel)
theorem ml_S_58 : Cond.methodLink "YardActors" 58 y_S_timesOf ∈ lg_tbl := lg_in (lw_in2 (i := 13) (by decide +kernel)) (by decide +kernel)
theorem mt_S_timesOf : Cond.static y_S_timesOf ∈ lg_tbl := lg_in (lw_in2 (i := 14) (by decide +kernel)) (by decide +kernel)
theorem ml_S_96 : Cond.methodLink "YardActors" 96 y_A_times ∈ lg_tbl := lg_in (lw_in2 (i := 16) (by decide +kernel)) (by decide +kernel)
theorem mm_A_times : Cond.instanceMethod y_A_times ∈ lg_tbl := lg_in (lw_in2 (i := 17) (by decide +kernel)) (by decide +kernel)
theorem ml_L_49 : Cond.methodLink "YardActorsLaw" 49 y_S_kept ∈ lg_tbl := lg_in (lw_in2 (i := 20) (by decide +kernel)) (by decide +kernel)
theorem mm_S_kept : Cond.instanceMethod y_S_kept ∈ lg_tbl := lg_in (lw_in2 (i := 21) (by decide +kernel)) (by decide +kernel)
theorem ml_L_53 : Cond.methodLink "YardActorsLaw" 53 y_S_at ∈ lg_tbl := lg_in (lw_in2 (i := 24) (by decide +kernel)) (by decide +kernel)
theorem mm_S_at : Cond.instanceMethod y_S_at ∈ lg_tbl := lg_in (lw_in2 (i := 25) (by decide +kernel)) (by decide +kernel)
theorem ml_S_62 : Cond.methodLink "YardActors" 62 y_S_keptValue ∈ lg_tbl := lg_in (lw_in2 (i := 28) (by decide +kernel)) (by decide +kernel)
theorem mt_S_keptValue : Cond.static y_S_keptValue ∈ lg_tbl := lg_in (lw_in2 (i := 29) (by decide +kernel)) (by decide +kernel)
theorem mq_S_76 : Cond.constantLong "YardActors" 76 (-9223372036854775808) ∈ lg_tbl := lg_in (lw_in2 (i := 31) (by decide +kernel)) (by decide +kernel)
theorem ml_S_99 : Cond.methodLink "YardActors" 99 y_A_rowValue ∈ lg_tbl := lg_in (lw_in2 (i := 32) (by decide +kernel)) (by decide +kernel)
theorem ml_L_58 : Cond.methodLink "YardActorsLaw" 58 y_S_waits ∈ lg_tbl := lg_in (lw_in2 (i := 33) (by decide +kernel)) (by decide +kernel)
theorem mm_S_waits : Cond.instanceMethod y_S_waits ∈ lg_tbl := lg_in (lw_in2 (i := 34) (by decide +kernel)) (by decide +kernel)
theorem ml_S_66 : Cond.methodLink "YardActors" 66 y_Y_findChannel ∈ lg_tbl := lg_in (lw_in2 (i := 37) (by decide +kernel)) (by decide +kernel)
theorem mm_Y_findChannel : Cond.instanceMethod y_Y_findChannel ∈ lg_tbl := lg_in (lw_in2 (i := 38) (by decide +kernel)) (by decide +kernel)
theorem ml_S_70 : Cond.methodLink "YardActors" 70 y_C_size ∈ lg_tbl := lg_in (lw_in2 (i := 41) (by decide +kernel)) (by decide +kernel)
theorem ml_L_62 : Cond.methodLink "YardActorsLaw" 62 y_S_waiting ∈ lg_tbl := lg_in (lw_in2 (i := 42) (by decide +kernel)) (by decide +kernel)
theorem mm_S_waiting : Cond.instanceMethod y_S_waiting ∈ lg_tbl := lg_in (lw_in2 (i := 43) (by decide +kernel)) (by decide +kernel)
theorem ml_S_78 : Cond.methodLink "YardActors" 78 y_C_peek ∈ lg_tbl := lg_in (lw_in2 (i := 46) (by decide +kernel)) (by decide +kernel)
theorem ml_L_66 : Cond.methodLink "YardActorsLaw" 66 y_S_keptAtLast ∈ lg_tbl := lg_in (lw_in2 (i := 47) (by decide +kernel)) (by decide +kernel)
theorem mm_S_keptAtLast : Cond.instanceMethod y_S_keptAtLast ∈ lg_tbl := lg_in (lw_in2 (i := 48) (by decide +kernel)) (by decide +kernel)
theorem ml_S_82 : Cond.methodLink "YardActors" 82 y_S_settled ∈ lg_tbl := lg_in (lw_in2 (i := 51) (by decide +kernel)) (by decide +kernel)
theorem mm_S_settled : Cond.instanceMethod y_S_settled ∈ lg_tbl := lg_in (lw_in2 (i := 53) (by decide +kernel)) (by decide +kernel)
theorem ml_S_89 : Cond.methodLink "YardActors" 89 y_Y_copyFrom ∈ lg_tbl := lg_in (lw_in2 (i := 55) (by decide +kernel)) (by decide +kernel)
theorem mm_Y_copyFrom : Cond.instanceMethod y_Y_copyFrom ∈ lg_tbl := lg_in (lw_in2 (i := 56) (by decide +kernel)) (by decide +kernel)
theorem ml_Y_90 : Cond.methodLink "YardActors$Yard" 90 y_A_copyFrom ∈ lg_tbl := lg_in (lw_in2 (i := 59) (by decide +kernel)) (by decide +kernel)
theorem mm_A_copyFrom : Cond.instanceMethod y_A_copyFrom ∈ lg_tbl := lg_in (lw_in2 (i := 60) (by decide +kernel)) (by decide +kernel)
theorem ml_A_93 : Cond.methodLink "YardActors$Actor" 93 ⟨"java/lang/Math", "min", "(II)I"⟩ ∈ lg_tbl := lg_in (lw_in2 (i := 63) (by decide +kernel)) (by decide +kernel)
theorem ml_A_99 : Cond.methodLink "YardActors$Actor" 99 ⟨"java/lang/System", "arraycopy", "(Ljava/lang/Object;ILjava/lang/Object;II)V"⟩ ∈ lg_tbl := lg_in (lw_in2 (i := 66) (by decide +kernel)) (by decide +kernel)
theorem ml_Y_61 : Cond.methodLink "YardActors$Yard" 61 y_Y_findChannel ∈ lg_tbl := lg_in (lw_in2 (i := 69) (by decide +kernel)) (by decide +kernel)
theorem ml_Y_94 : Cond.methodLink "YardActors$Yard" 94 y_C_copyFrom ∈ lg_tbl := lg_in (lw_in2 (i := 70) (by decide +kernel)) (by decide +kernel)
theorem mm_C_copyFrom : Cond.instanceMethod y_C_copyFrom ∈ lg_tbl := lg_in (lw_in2 (i := 71) (by decide +kernel)) (by decide +kernel)
theorem ml_C_25 : Cond.methodLink "YardActors$Channel" 25 ⟨"java/lang/System", "arraycopy", "(Ljava/lang/Object;ILjava/lang/Object;II)V"⟩ ∈ lg_tbl := lg_in (lw_in2 (i := 74) (by decide +kernel)) (by decide +kernel)
theorem ml_S_93 : Cond.methodLink "YardActors" 93 y_Y_settle ∈ lg_tbl := lg_in (lw_in2 (i := 75) (by decide +kernel)) (by decide +kernel)
theorem mm_Y_settle : Cond.instanceMethod y_Y_settle ∈ lg_tbl := lg_in (lw_in2 (i := 76) (by decide +kernel)) (by decide +kernel)
theorem ml_Y_87 : Cond.methodLink "YardActors$Yard" 87 y_Y_stepRound ∈ lg_tbl := lg_in (lw_in2 (i := 79) (by decide +kernel)) (by decide +kernel)
theorem mm_Y_stepRound : Cond.instanceMethod y_Y_stepRound ∈ lg_tbl := lg_in (lw_in2 (i := 81) (by decide +kernel)) (by decide +kernel)
theorem ml_L_70 : Cond.methodLink "YardActorsLaw" 70 y_S_atLast ∈ lg_tbl := lg_in (lw_in2 (i := 83) (by decide +kernel)) (by decide +kernel)
theorem mm_S_atLast : Cond.instanceMethod y_S_atLast ∈ lg_tbl := lg_in (lw_in2 (i := 84) (by decide +kernel)) (by decide +kernel)
theorem ml_L_74 : Cond.methodLink "YardActorsLaw" 74 y_S_actedAtLast ∈ lg_tbl := lg_in (lw_in2 (i := 87) (by decide +kernel)) (by decide +kernel)
theorem mm_S_actedAtLast : Cond.instanceMethod y_S_actedAtLast ∈ lg_tbl := lg_in (lw_in2 (i := 88) (by decide +kernel)) (by decide +kernel)
theorem ml_L_78 : Cond.methodLink "YardActorsLaw" 78 y_S_fullAtLast ∈ lg_tbl := lg_in (lw_in2 (i := 91) (by decide +kernel)) (by decide +kernel)
theorem mm_S_fullAtLast : Cond.instanceMethod y_S_fullAtLast ∈ lg_tbl := lg_in (lw_in2 (i := 92) (by decide +kernel)) (by decide +kernel)
theorem ml_S_86 : Cond.methodLink "YardActors" 86 y_Y_findFull ∈ lg_tbl := lg_in (lw_in2 (i := 95) (by decide +kernel)) (by decide +kernel)
theorem mm_Y_findFull : Cond.instanceMethod y_Y_findFull ∈ lg_tbl := lg_in (lw_in2 (i := 96) (by decide +kernel)) (by decide +kernel)
theorem ml_Y_65 : Cond.methodLink "YardActors$Yard" 65 y_C_isFull ∈ lg_tbl := lg_in (lw_in2 (i := 99) (by decide +kernel)) (by decide +kernel)
theorem mk_L_10 : Cond.classLink "YardActorsLaw" 10 "YardActorsModel" ∈ lg_tbl := lg_in (lw_in2 (i := 100) (by decide +kernel)) (by decide +kernel)
theorem mn_M : Cond.instantiable "YardActorsModel" 16 ∈ lg_tbl := lg_in (lw_in2 (i := 101) (by decide +kernel)) (by decide +kernel)
theorem ml_L_12 : Cond.methodLink "YardActorsLaw" 12 y_M_init ∈ lg_tbl := lg_in (lw_in2 (i := 102) (by decide +kernel)) (by decide +kernel)
theorem mm_M_init : Cond.instanceMethod y_M_init ∈ lg_tbl := lg_in (lw_in2 (i := 103) (by decide +kernel)) (by decide +kernel)
theorem ml_M_1 : Cond.methodLink "YardActorsModel" 1 ⟨"java/lang/Object", "<init>", "()V"⟩ ∈ lg_tbl := lg_in (lw_in2 (i := 105) (by decide +kernel)) (by decide +kernel)
theorem mf_M_52 : Cond.fieldLink "YardActorsModel" 52 "YardActorsModel" "actors" "I" ∈ lg_tbl := lg_in (lw_in2 (i := 106) (by decide +kernel)) (by decide +kernel)
theorem mf_M_7 : Cond.fieldLink "YardActorsModel" 7 "YardActorsModel" "kinds" "[I" ∈ lg_tbl := lg_in (lw_in2 (i := 107) (by decide +kernel)) (by decide +kernel)
theorem mf_M_13 : Cond.fieldLink "YardActorsModel" 13 "YardActorsModel" "as" "[I" ∈ lg_tbl := lg_in (lw_in2 (i := 108) (by decide +kernel)) (by decide +kernel)
theorem mf_M_16 : Cond.fieldLink "YardActorsModel" 16 "YardActorsModel" "bs" "[I" ∈ lg_tbl := lg_in (lw_in2 (i := 109) (by decide +kernel)) (by decide +kernel)
theorem mf_M_19 : Cond.fieldLink "YardActorsModel" 19 "YardActorsModel" "toldCounts" "[I" ∈ lg_tbl := lg_in (lw_in2 (i := 110) (by decide +kernel)) (by decide +kernel)
theorem mf_M_22 : Cond.fieldLink "YardActorsModel" 22 "YardActorsModel" "told" "[I" ∈ lg_tbl := lg_in (lw_in2 (i := 111) (by decide +kernel)) (by decide +kernel)
theorem mf_M_60 : Cond.fieldLink "YardActorsModel" 60 "YardActorsModel" "channels" "I" ∈ lg_tbl := lg_in (lw_in2 (i := 112) (by decide +kernel)) (by decide +kernel)
theorem mf_M_25 : Cond.fieldLink "YardActorsModel" 25 "YardActorsModel" "rooms" "[I" ∈ lg_tbl := lg_in (lw_in2 (i := 113) (by decide +kernel)) (by decide +kernel)
theorem mf_M_28 : Cond.fieldLink "YardActorsModel" 28 "YardActorsModel" "ins" "[I" ∈ lg_tbl := lg_in (lw_in2 (i := 114) (by decide +kernel)) (by decide +kernel)
theorem mf_M_31 : Cond.fieldLink "YardActorsModel" 31 "YardActorsModel" "outs" "[I" ∈ lg_tbl := lg_in (lw_in2 (i := 115) (by decide +kernel)) (by decide +kernel)
theorem mf_M_34 : Cond.fieldLink "YardActorsModel" 34 "YardActorsModel" "acted" "[I" ∈ lg_tbl := lg_in (lw_in2 (i := 116) (by decide +kernel)) (by decide +kernel)
theorem mf_M_37 : Cond.fieldLink "YardActorsModel" 37 "YardActorsModel" "turns" "[I" ∈ lg_tbl := lg_in (lw_in2 (i := 117) (by decide +kernel)) (by decide +kernel)
theorem mf_M_40 : Cond.fieldLink "YardActorsModel" 40 "YardActorsModel" "keptCounts" "[I" ∈ lg_tbl := lg_in (lw_in2 (i := 118) (by decide +kernel)) (by decide +kernel)
theorem mf_M_43 : Cond.fieldLink "YardActorsModel" 43 "YardActorsModel" "kept" "[I" ∈ lg_tbl := lg_in (lw_in2 (i := 119) (by decide +kernel)) (by decide +kernel)
theorem mf_M_46 : Cond.fieldLink "YardActorsModel" 46 "YardActorsModel" "counts" "[I" ∈ lg_tbl := lg_in (lw_in2 (i := 120) (by decide +kernel)) (by decide +kernel)
theorem mf_M_49 : Cond.fieldLink "YardActorsModel" 49 "YardActorsModel" "values" "[I" ∈ lg_tbl := lg_in (lw_in2 (i := 121) (by decide +kernel)) (by decide +kernel)
theorem ml_L_17 : Cond.methodLink "YardActorsLaw" 17 y_M_actor ∈ lg_tbl := lg_in (lw_in2 (i := 155) (by decide +kernel)) (by decide +kernel)
theorem mm_M_actor : Cond.instanceMethod y_M_actor ∈ lg_tbl := lg_in (lw_in2 (i := 156) (by decide +kernel)) (by decide +kernel)
theorem ml_L_22 : Cond.methodLink "YardActorsLaw" 22 y_M_value ∈ lg_tbl := lg_in (lw_in2 (i := 159) (by decide +kernel)) (by decide +kernel)
theorem mm_M_value : Cond.instanceMethod y_M_value ∈ lg_tbl := lg_in (lw_in2 (i := 160) (by decide +kernel)) (by decide +kernel)
theorem ml_M_56 : Cond.methodLink "YardActorsModel" 56 y_M_isActor ∈ lg_tbl := lg_in (lw_in2 (i := 163) (by decide +kernel)) (by decide +kernel)
theorem mm_M_isActor : Cond.instanceMethod y_M_isActor ∈ lg_tbl := lg_in (lw_in2 (i := 165) (by decide +kernel)) (by decide +kernel)
theorem ml_L_27 : Cond.methodLink "YardActorsLaw" 27 y_M_channel ∈ lg_tbl := lg_in (lw_in2 (i := 167) (by decide +kernel)) (by decide +kernel)
theorem mm_M_channel : Cond.instanceMethod y_M_channel ∈ lg_tbl := lg_in (lw_in2 (i := 168) (by decide +kernel)) (by decide +kernel)
theorem ml_M_63 : Cond.methodLink "YardActorsModel" 63 y_M_outsOf ∈ lg_tbl := lg_in (lw_in2 (i := 171) (by decide +kernel)) (by decide +kernel)
theorem mt_M_outsOf : Cond.static y_M_outsOf ∈ lg_tbl := lg_in (lw_in2 (i := 172) (by decide +kernel)) (by decide +kernel)
theorem ml_M_67 : Cond.methodLink "YardActorsModel" 67 y_M_insOf ∈ lg_tbl := lg_in (lw_in2 (i := 174) (by decide +kernel)) (by decide +kernel)
theorem mt_M_insOf : Cond.static y_M_insOf ∈ lg_tbl := lg_in (lw_in2 (i := 175) (by decide +kernel)) (by decide +kernel)
theorem ml_L_32 : Cond.methodLink "YardActorsLaw" 32 y_M_can ∈ lg_tbl := lg_in (lw_in2 (i := 177) (by decide +kernel)) (by decide +kernel)
theorem mm_M_can : Cond.instanceMethod y_M_can ∈ lg_tbl := lg_in (lw_in2 (i := 178) (by decide +kernel)) (by decide +kernel)
theorem ml_M_88 : Cond.methodLink "YardActorsModel" 88 y_M_canAct ∈ lg_tbl := lg_in (lw_in2 (i := 181) (by decide +kernel)) (by decide +kernel)
theorem mm_M_canAct : Cond.instanceMethod y_M_canAct ∈ lg_tbl := lg_in (lw_in2 (i := 183) (by decide +kernel)) (by decide +kernel)
theorem ml_M_70 : Cond.methodLink "YardActorsModel" 70 y_M_hasRoom ∈ lg_tbl := lg_in (lw_in2 (i := 185) (by decide +kernel)) (by decide +kernel)
theorem mm_M_hasRoom : Cond.instanceMethod y_M_hasRoom ∈ lg_tbl := lg_in (lw_in2 (i := 187) (by decide +kernel)) (by decide +kernel)
theorem ml_M_74 : Cond.methodLink "YardActorsModel" 74 y_M_hasValue ∈ lg_tbl := lg_in (lw_in2 (i := 189) (by decide +kernel)) (by decide +kernel)
theorem mm_M_hasValue : Cond.instanceMethod y_M_hasValue ∈ lg_tbl := lg_in (lw_in2 (i := 191) (by decide +kernel)) (by decide +kernel)
theorem ml_M_77 : Cond.methodLink "YardActorsModel" 77 y_M_look ∈ lg_tbl := lg_in (lw_in2 (i := 193) (by decide +kernel)) (by decide +kernel)
theorem mm_M_look : Cond.instanceMethod y_M_look ∈ lg_tbl := lg_in (lw_in2 (i := 195) (by decide +kernel)) (by decide +kernel)
theorem ml_L_36 : Cond.methodLink "YardActorsLaw" 36 y_M_act ∈ lg_tbl := lg_in (lw_in2 (i := 197) (by decide +kernel)) (by decide +kernel)
theorem mm_M_act : Cond.instanceMethod y_M_act ∈ lg_tbl := lg_in (lw_in2 (i := 198) (by decide +kernel)) (by decide +kernel)
theorem ml_M_92 : Cond.methodLink "YardActorsModel" 92 y_M_doAct ∈ lg_tbl := lg_in (lw_in2 (i := 201) (by decide +kernel)) (by decide +kernel)
theorem mm_M_doAct : Cond.instanceMethod y_M_doAct ∈ lg_tbl := lg_in (lw_in2 (i := 203) (by decide +kernel)) (by decide +kernel)
theorem ml_M_81 : Cond.methodLink "YardActorsModel" 81 y_M_give ∈ lg_tbl := lg_in (lw_in2 (i := 205) (by decide +kernel)) (by decide +kernel)
theorem mm_M_give : Cond.instanceMethod y_M_give ∈ lg_tbl := lg_in (lw_in2 (i := 207) (by decide +kernel)) (by decide +kernel)
theorem ml_M_85 : Cond.methodLink "YardActorsModel" 85 y_M_take ∈ lg_tbl := lg_in (lw_in2 (i := 209) (by decide +kernel)) (by decide +kernel)
theorem mm_M_take : Cond.instanceMethod y_M_take ∈ lg_tbl := lg_in (lw_in2 (i := 211) (by decide +kernel)) (by decide +kernel)
theorem ml_L_43 : Cond.methodLink "YardActorsLaw" 43 y_M_run ∈ lg_tbl := lg_in (lw_in2 (i := 213) (by decide +kernel)) (by decide +kernel)
theorem mm_M_run : Cond.instanceMethod y_M_run ∈ lg_tbl := lg_in (lw_in2 (i := 214) (by decide +kernel)) (by decide +kernel)
theorem mq_M_96 : Cond.constantLong "YardActorsModel" 96 (6364136223846793005) ∈ lg_tbl := lg_in (lw_in2 (i := 217) (by decide +kernel)) (by decide +kernel)
theorem mq_M_98 : Cond.constantLong "YardActorsModel" 98 (1442695040888963407) ∈ lg_tbl := lg_in (lw_in2 (i := 218) (by decide +kernel)) (by decide +kernel)
theorem ml_L_48 : Cond.methodLink "YardActorsLaw" 48 y_M_acted ∈ lg_tbl := lg_in (lw_in2 (i := 219) (by decide +kernel)) (by decide +kernel)
theorem mm_M_acted : Cond.instanceMethod y_M_acted ∈ lg_tbl := lg_in (lw_in2 (i := 220) (by decide +kernel)) (by decide +kernel)
theorem ml_L_52 : Cond.methodLink "YardActorsLaw" 52 y_M_kept ∈ lg_tbl := lg_in (lw_in2 (i := 223) (by decide +kernel)) (by decide +kernel)
theorem mm_M_kept : Cond.instanceMethod y_M_kept ∈ lg_tbl := lg_in (lw_in2 (i := 224) (by decide +kernel)) (by decide +kernel)
theorem ml_M_100 : Cond.methodLink "YardActorsModel" 100 y_M_isSink ∈ lg_tbl := lg_in (lw_in2 (i := 227) (by decide +kernel)) (by decide +kernel)
theorem mm_M_isSink : Cond.instanceMethod y_M_isSink ∈ lg_tbl := lg_in (lw_in2 (i := 229) (by decide +kernel)) (by decide +kernel)
theorem ml_L_57 : Cond.methodLink "YardActorsLaw" 57 y_M_at ∈ lg_tbl := lg_in (lw_in2 (i := 231) (by decide +kernel)) (by decide +kernel)
theorem mm_M_at : Cond.instanceMethod y_M_at ∈ lg_tbl := lg_in (lw_in2 (i := 232) (by decide +kernel)) (by decide +kernel)
theorem mq_M_103 : Cond.constantLong "YardActorsModel" 103 (-9223372036854775808) ∈ lg_tbl := lg_in (lw_in2 (i := 235) (by decide +kernel)) (by decide +kernel)
theorem ml_L_61 : Cond.methodLink "YardActorsLaw" 61 y_M_waits ∈ lg_tbl := lg_in (lw_in2 (i := 236) (by decide +kernel)) (by decide +kernel)
theorem mm_M_waits : Cond.instanceMethod y_M_waits ∈ lg_tbl := lg_in (lw_in2 (i := 237) (by decide +kernel)) (by decide +kernel)
theorem ml_M_105 : Cond.methodLink "YardActorsModel" 105 y_M_isChannel ∈ lg_tbl := lg_in (lw_in3 (i := 0) (by decide +kernel)) (by decide +kernel)
theorem mm_M_isChannel : Cond.instanceMethod y_M_isChannel ∈ lg_tbl := lg_in (lw_in3 (i := 2) (by decide +kernel)) (by decide +kernel)
theorem ml_L_65 : Cond.methodLink "YardActorsLaw" 65 y_M_waiting ∈ lg_tbl := lg_in (lw_in3 (i := 4) (by decide +kernel)) (by decide +kernel)
theorem mm_M_waiting : Cond.instanceMethod y_M_waiting ∈ lg_tbl := lg_in (lw_in3 (i := 5) (by decide +kernel)) (by decide +kernel)
theorem ml_L_69 : Cond.methodLink "YardActorsLaw" 69 y_M_keptAtLast ∈ lg_tbl := lg_in (lw_in3 (i := 8) (by decide +kernel)) (by decide +kernel)
theorem mm_M_keptAtLast : Cond.instanceMethod y_M_keptAtLast ∈ lg_tbl := lg_in (lw_in3 (i := 9) (by decide +kernel)) (by decide +kernel)
theorem ml_M_108 : Cond.methodLink "YardActorsModel" 108 y_M_settle ∈ lg_tbl := lg_in (lw_in3 (i := 12) (by decide +kernel)) (by decide +kernel)
theorem mm_M_settle : Cond.instanceMethod y_M_settle ∈ lg_tbl := lg_in (lw_in3 (i := 14) (by decide +kernel)) (by decide +kernel)
theorem ml_L_73 : Cond.methodLink "YardActorsLaw" 73 y_M_atLast ∈ lg_tbl := lg_in (lw_in3 (i := 16) (by decide +kernel)) (by decide +kernel)
theorem mm_M_atLast : Cond.instanceMethod y_M_atLast ∈ lg_tbl := lg_in (lw_in3 (i := 17) (by decide +kernel)) (by decide +kernel)
theorem ml_L_77 : Cond.methodLink "YardActorsLaw" 77 y_M_actedAtLast ∈ lg_tbl := lg_in (lw_in3 (i := 20) (by decide +kernel)) (by decide +kernel)
theorem mm_M_actedAtLast : Cond.instanceMethod y_M_actedAtLast ∈ lg_tbl := lg_in (lw_in3 (i := 21) (by decide +kernel)) (by decide +kernel)
theorem ml_L_81 : Cond.methodLink "YardActorsLaw" 81 y_M_fullAtLast ∈ lg_tbl := lg_in (lw_in3 (i := 24) (by decide +kernel)) (by decide +kernel)
theorem mm_M_fullAtLast : Cond.instanceMethod y_M_fullAtLast ∈ lg_tbl := lg_in (lw_in3 (i := 25) (by decide +kernel)) (by decide +kernel)
theorem mq_L_37 : Cond.constantLong "YardActorsLaw" 37 (4294967295) ∈ lg_tbl := lg_in (lw_in3 (i := 28) (by decide +kernel)) (by decide +kernel)
theorem ms_S_actor : Cond.selects "YardActors" y_S_actor y_S_actor ∈ lg_tbl := lg_in (lw_in1 (i := 55) (by decide +kernel)) (by decide +kernel)
theorem ms_Y_addActor : Cond.selects "YardActors$Yard" y_Y_addActor y_Y_addActor ∈ lg_tbl := lg_in (lw_in1 (i := 59) (by decide +kernel)) (by decide +kernel)
theorem ms_S_value : Cond.selects "YardActors" y_S_value y_S_value ∈ lg_tbl := lg_in (lw_in1 (i := 96) (by decide +kernel)) (by decide +kernel)
theorem ms_Y_findKind : Cond.selects "YardActors$Yard" y_Y_findKind y_Y_findKind ∈ lg_tbl := lg_in (lw_in1 (i := 100) (by decide +kernel)) (by decide +kernel)
theorem ms_Y_findActor : Cond.selects "YardActors$Yard" y_Y_findActor y_Y_findActor ∈ lg_tbl := lg_in (lw_in1 (i := 104) (by decide +kernel)) (by decide +kernel)
theorem ms_A_isKind : Cond.selects "YardActors$Actor" y_A_isKind y_A_isKind ∈ lg_tbl := lg_in (lw_in1 (i := 108) (by decide +kernel)) (by decide +kernel)
theorem ms_A_tell : Cond.selects "YardActors$Actor" y_A_tell y_A_tell ∈ lg_tbl := lg_in (lw_in1 (i := 112) (by decide +kernel)) (by decide +kernel)
theorem ms_S_channel : Cond.selects "YardActors" y_S_channel y_S_channel ∈ lg_tbl := lg_in (lw_in1 (i := 116) (by decide +kernel)) (by decide +kernel)
theorem ms_Y_join : Cond.selects "YardActors$Yard" y_Y_join y_Y_join ∈ lg_tbl := lg_in (lw_in1 (i := 120) (by decide +kernel)) (by decide +kernel)
theorem ms_A_hasFreeOut : Cond.selects "YardActors$Actor" y_A_hasFreeOut y_A_hasFreeOut ∈ lg_tbl := lg_in (lw_in1 (i := 124) (by decide +kernel)) (by decide +kernel)
theorem ms_A_hasFreeIn : Cond.selects "YardActors$Actor" y_A_hasFreeIn y_A_hasFreeIn ∈ lg_tbl := lg_in (lw_in1 (i := 130) (by decide +kernel)) (by decide +kernel)
theorem ms_A_joinOut : Cond.selects "YardActors$Actor" y_A_joinOut y_A_joinOut ∈ lg_tbl := lg_in (lw_in1 (i := 154) (by decide +kernel)) (by decide +kernel)
theorem ms_A_joinIn : Cond.selects "YardActors$Actor" y_A_joinIn y_A_joinIn ∈ lg_tbl := lg_in (lw_in1 (i := 158) (by decide +kernel)) (by decide +kernel)
theorem ms_S_can : Cond.selects "YardActors" y_S_can y_S_can ∈ lg_tbl := lg_in (lw_in1 (i := 162) (by decide +kernel)) (by decide +kernel)
theorem ms_A_isReady : Cond.selects "YardActors$Actor" y_A_isReady y_A_isReady ∈ lg_tbl := lg_in (lw_in1 (i := 167) (by decide +kernel)) (by decide +kernel)
theorem ms_C_isFull : Cond.selects "YardActors$Channel" y_C_isFull y_C_isFull ∈ lg_tbl := lg_in (lw_in1 (i := 175) (by decide +kernel)) (by decide +kernel)
theorem ms_C_size : Cond.selects "YardActors$Channel" y_C_size y_C_size ∈ lg_tbl := lg_in (lw_in1 (i := 183) (by decide +kernel)) (by decide +kernel)
theorem ms_C_peek : Cond.selects "YardActors$Channel" y_C_peek y_C_peek ∈ lg_tbl := lg_in (lw_in1 (i := 195) (by decide +kernel)) (by decide +kernel)
theorem ms_S_act : Cond.selects "YardActors" y_S_act y_S_act ∈ lg_tbl := lg_in (lw_in1 (i := 199) (by decide +kernel)) (by decide +kernel)
theorem ms_A_step : Cond.selects "YardActors$Actor" y_A_step y_A_step ∈ lg_tbl := lg_in (lw_in1 (i := 203) (by decide +kernel)) (by decide +kernel)
theorem ms_A_rowValue : Cond.selects "YardActors$Actor" y_A_rowValue y_A_rowValue ∈ lg_tbl := lg_in (lw_in1 (i := 207) (by decide +kernel)) (by decide +kernel)
theorem ms_C_put : Cond.selects "YardActors$Channel" y_C_put y_C_put ∈ lg_tbl := lg_in (lw_in1 (i := 215) (by decide +kernel)) (by decide +kernel)
theorem ms_C_take : Cond.selects "YardActors$Channel" y_C_take y_C_take ∈ lg_tbl := lg_in (lw_in1 (i := 223) (by decide +kernel)) (by decide +kernel)
theorem ms_S_run : Cond.selects "YardActors" y_S_run y_S_run ∈ lg_tbl := lg_in (lw_in1 (i := 231) (by decide +kernel)) (by decide +kernel)
theorem ms_Y_stepBySeed : Cond.selects "YardActors$Yard" y_Y_stepBySeed y_Y_stepBySeed ∈ lg_tbl := lg_in (lw_in1 (i := 235) (by decide +kernel)) (by decide +kernel)
theorem ms_S_acted : Cond.selects "YardActors" y_S_acted y_S_acted ∈ lg_tbl := lg_in (lw_in2 (i := 11) (by decide +kernel)) (by decide +kernel)
theorem ms_A_times : Cond.selects "YardActors$Actor" y_A_times y_A_times ∈ lg_tbl := lg_in (lw_in2 (i := 18) (by decide +kernel)) (by decide +kernel)
theorem ms_S_kept : Cond.selects "YardActors" y_S_kept y_S_kept ∈ lg_tbl := lg_in (lw_in2 (i := 22) (by decide +kernel)) (by decide +kernel)
theorem ms_S_at : Cond.selects "YardActors" y_S_at y_S_at ∈ lg_tbl := lg_in (lw_in2 (i := 26) (by decide +kernel)) (by decide +kernel)
theorem ms_S_waits : Cond.selects "YardActors" y_S_waits y_S_waits ∈ lg_tbl := lg_in (lw_in2 (i := 35) (by decide +kernel)) (by decide +kernel)
theorem ms_Y_findChannel : Cond.selects "YardActors$Yard" y_Y_findChannel y_Y_findChannel ∈ lg_tbl := lg_in (lw_in2 (i := 39) (by decide +kernel)) (by decide +kernel)
theorem ms_S_waiting : Cond.selects "YardActors" y_S_waiting y_S_waiting ∈ lg_tbl := lg_in (lw_in2 (i := 44) (by decide +kernel)) (by decide +kernel)
theorem ms_S_keptAtLast : Cond.selects "YardActors" y_S_keptAtLast y_S_keptAtLast ∈ lg_tbl := lg_in (lw_in2 (i := 49) (by decide +kernel)) (by decide +kernel)
theorem ms_Y_copyFrom : Cond.selects "YardActors$Yard" y_Y_copyFrom y_Y_copyFrom ∈ lg_tbl := lg_in (lw_in2 (i := 57) (by decide +kernel)) (by decide +kernel)
theorem ms_A_copyFrom : Cond.selects "YardActors$Actor" y_A_copyFrom y_A_copyFrom ∈ lg_tbl := lg_in (lw_in2 (i := 61) (by decide +kernel)) (by decide +kernel)
theorem ms_C_copyFrom : Cond.selects "YardActors$Channel" y_C_copyFrom y_C_copyFrom ∈ lg_tbl := lg_in (lw_in2 (i := 72) (by decide +kernel)) (by decide +kernel)
theorem ms_Y_settle : Cond.selects "YardActors$Yard" y_Y_settle y_Y_settle ∈ lg_tbl := lg_in (lw_in2 (i := 77) (by decide +kernel)) (by decide +kernel)
theorem ms_S_atLast : Cond.selects "YardActors" y_S_atLast y_S_atLast ∈ lg_tbl := lg_in (lw_in2 (i := 85) (by decide +kernel)) (by decide +kernel)
theorem ms_S_actedAtLast : Cond.selects "YardActors" y_S_actedAtLast y_S_actedAtLast ∈ lg_tbl := lg_in (lw_in2 (i := 89) (by decide +kernel)) (by decide +kernel)
theorem ms_S_fullAtLast : Cond.selects "YardActors" y_S_fullAtLast y_S_fullAtLast ∈ lg_tbl := lg_in (lw_in2 (i := 93) (by decide +kernel)) (by decide +kernel)
theorem ms_Y_findFull : Cond.selects "YardActors$Yard" y_Y_findFull y_Y_findFull ∈ lg_tbl := lg_in (lw_in2 (i := 97) (by decide +kernel)) (by decide +kernel)
theorem ms_M_actor : Cond.selects "YardActorsModel" y_M_actor y_M_actor ∈ lg_tbl := lg_in (lw_in2 (i := 157) (by decide +kernel)) (by decide +kernel)
theorem ms_M_value : Cond.selects "YardActorsModel" y_M_value y_M_value ∈ lg_tbl := lg_in (lw_in2 (i := 161) (by decide +kernel)) (by decide +kernel)
theorem ms_M_channel : Cond.selects "YardActorsModel" y_M_channel y_M_channel ∈ lg_tbl := lg_in (lw_in2 (i := 169) (by decide +kernel)) (by decide +kernel)
theorem ms_M_can : Cond.selects "YardActorsModel" y_M_can y_M_can ∈ lg_tbl := lg_in (lw_in2 (i := 179) (by decide +kernel)) (by decide +kernel)
theorem ms_M_act : Cond.selects "YardActorsModel" y_M_act y_M_act ∈ lg_tbl := lg_in (lw_in2 (i := 199) (by decide +kernel)) (by decide +kernel)
theorem ms_M_run : Cond.selects "YardActorsModel" y_M_run y_M_run ∈ lg_tbl := lg_in (lw_in2 (i := 215) (by decide +kernel)) (by decide +kernel)
theorem ms_M_acted : Cond.selects "YardActorsModel" y_M_acted y_M_acted ∈ lg_tbl := lg_in (lw_in2 (i := 221) (by decide +kernel)) (by decide +kernel)
theorem ms_M_kept : Cond.selects "YardActorsModel" y_M_kept y_M_kept ∈ lg_tbl := lg_in (lw_in2 (i := 225) (by decide +kernel)) (by decide +kernel)
theorem ms_M_at : Cond.selects "YardActorsModel" y_M_at y_M_at ∈ lg_tbl := lg_in (lw_in2 (i := 233) (by decide +kernel)) (by decide +kernel)
theorem ms_M_waits : Cond.selects "YardActorsModel" y_M_waits y_M_waits ∈ lg_tbl := lg_in (lw_in2 (i := 238) (by decide +kernel)) (by decide +kernel)
theorem ms_M_waiting : Cond.selects "YardActorsModel" y_M_waiting y_M_waiting ∈ lg_tbl := lg_in (lw_in3 (i := 6) (by decide +kernel)) (by decide +kernel)
theorem ms_M_keptAtLast : Cond.selects "YardActorsModel" y_M_keptAtLast y_M_keptAtLast ∈ lg_tbl := lg_in (lw_in3 (i := 10) (by decide +kernel)) (by decide +kernel)
theorem ms_M_atLast : Cond.selects "YardActorsModel" y_M_atLast y_M_atLast ∈ lg_tbl := lg_in (lw_in3 (i := 18) (by decide +kernel)) (by decide +kernel)
theorem ms_M_actedAtLast : Cond.selects "YardActorsModel" y_M_actedAtLast y_M_actedAtLast ∈ lg_tbl := lg_in (lw_in3 (i := 22) (by decide +kernel)) (by decide +kernel)
theorem ms_M_fullAtLast : Cond.selects "YardActorsModel" y_M_fullAtLast y_M_fullAtLast ∈ lg_tbl := lg_in (lw_in3 (i := 26) (by decide +kernel)) (by decide +kernel)
theorem ms_A_hasRoom : Cond.selects "YardActors$Actor" y_A_hasRoom y_A_hasRoom ∈ lg_tbl := lg_in (List.mem_append_left _ (by decide +kernel)) (by decide +kernel)
theorem ms_A_hasValue : Cond.selects "YardActors$Actor" y_A_hasValue y_A_hasValue ∈ lg_tbl := lg_in (List.mem_append_left _ (by decide +kernel)) (by decide +kernel)
theorem ms_A_turn : Cond.selects "YardActors$Actor" y_A_turn y_A_turn ∈ lg_tbl := lg_in (List.mem_append_left _ (by decide +kernel)) (by decide +kernel)
theorem ms_A_isZero : Cond.selects "YardActors$Actor" y_A_isZero y_A_isZero ∈ lg_tbl := lg_in (List.mem_append_left _ (by decide +kernel)) (by decide +kernel)
theorem ms_A_give : Cond.selects "YardActors$Actor" y_A_give y_A_give ∈ lg_tbl := lg_in (List.mem_append_left _ (by decide +kernel)) (by decide +kernel)
theorem ms_A_take : Cond.selects "YardActors$Actor" y_A_take y_A_take ∈ lg_tbl := lg_in (List.mem_append_left _ (by decide +kernel)) (by decide +kernel)
theorem ms_A_keep : Cond.selects "YardActors$Actor" y_A_keep y_A_keep ∈ lg_tbl := lg_in (List.mem_append_left _ (by decide +kernel)) (by decide +kernel)
theorem ms_Y_stepDrawn : Cond.selects "YardActors$Yard" y_Y_stepDrawn y_Y_stepDrawn ∈ lg_tbl := lg_in (List.mem_append_left _ (by decide +kernel)) (by decide +kernel)
theorem ms_Y_listReady : Cond.selects "YardActors$Yard" y_Y_listReady y_Y_listReady ∈ lg_tbl := lg_in (List.mem_append_left _ (by decide +kernel)) (by decide +kernel)
theorem ms_S_settled : Cond.selects "YardActors" y_S_settled y_S_settled ∈ lg_tbl := lg_in (List.mem_append_left _ (by decide +kernel)) (by decide +kernel)
theorem ms_Y_stepRound : Cond.selects "YardActors$Yard" y_Y_stepRound y_Y_stepRound ∈ lg_tbl := lg_in (List.mem_append_left _ (by decide +kernel)) (by decide +kernel)
theorem ms_M_isActor : Cond.selects "YardActorsModel" y_M_isActor y_M_isActor ∈ lg_tbl := lg_in (List.mem_append_left _ (by decide +kernel)) (by decide +kernel)
theorem ms_M_canAct : Cond.selects "YardActorsModel" y_M_canAct y_M_canAct ∈ lg_tbl := lg_in (List.mem_append_left _ (by decide +kernel)) (by decide +kernel)
theorem ms_M_hasRoom : Cond.selects "YardActorsModel" y_M_hasRoom y_M_hasRoom ∈ lg_tbl := lg_in (List.mem_append_left _ (by decide +kernel)) (by decide +kernel)
theorem ms_M_hasValue : Cond.selects "YardActorsModel" y_M_hasValue y_M_hasValue ∈ lg_tbl := lg_in (List.mem_append_left _ (by decide +kernel)) (by decide +kernel)
theorem ms_M_look : Cond.selects "YardActorsModel" y_M_look y_M_look ∈ lg_tbl := lg_in (List.mem_append_left _ (by decide +kernel)) (by decide +kernel)
theorem ms_M_doAct : Cond.selects "YardActorsModel" y_M_doAct y_M_doAct ∈ lg_tbl := lg_in (List.mem_append_left _ (by decide +kernel)) (by decide +kernel)
theorem ms_M_give : Cond.selects "YardActorsModel" y_M_give y_M_give ∈ lg_tbl := lg_in (List.mem_append_left _ (by decide +kernel)) (by decide +kernel)
theorem ms_M_take : Cond.selects "YardActorsModel" y_M_take y_M_take ∈ lg_tbl := lg_in (List.mem_append_left _ (by decide +kernel)) (by decide +kernel)
theorem ms_M_isSink : Cond.selects "YardActorsModel" y_M_isSink y_M_isSink ∈ lg_tbl := lg_in (List.mem_append_left _ (by decide +kernel)) (by decide +kernel)
theorem ms_M_isChannel : Cond.selects "YardActorsModel" y_M_isChannel y_M_isChannel ∈ lg_tbl := lg_in (List.mem_append_left _ (by decide +kernel)) (by decide +kernel)
theorem ms_M_settle : Cond.selects "YardActorsModel" y_M_settle y_M_settle ∈ lg_tbl := lg_in (List.mem_append_left _ (by decide +kernel)) (by decide +kernel)
end
section
/-! each instruction, by program: A C Y S -/
theorem d_S_init_0 : decode b_S_init 0 = .ok (.aload_n 0, 1) := by decide +kernel
theorem d_S_init_1 : decode b_S_init 1 = .ok (.invokespecial 5, 3) := by decide +kernel
theorem d_S_init_4 : decode b_S_init 4 = .ok (.aload_n 0, 1) := by decide +kernel
theorem d_S_init_5 : decode b_S_init 5 = .ok (.new 11, 3) := by decide +kernel
theorem d_S_init_8 : decode b_S_init 8 = .ok (.dup, 1) := by decide +kernel
theorem d_S_init_9 : decode b_S_init 9 = .ok (.invokespecial 13, 3) := by decide +kernel
theorem d_S_init_12 : decode b_S_init 12 = .ok (.putfield 14, 3) := by decide +kernel
theorem d_S_init_15 : decode b_S_init 15 = .ok (.aload_n 0, 1) := by decide +kernel
theorem d_S_init_16 : decode b_S_init 16 = .ok (.new 11, 3) := by decide +kernel
theorem d_S_init_19 : decode b_S_init 19 = .ok (.dup, 1) := by decide +kernel
theorem d_S_init_20 : decode b_S_init 20 = .ok (.invokespecial 13, 3) := by decide +kernel
theorem d_S_init_23 : decode b_S_init 23 = .ok (.putfield 18, 3) := by decide +kernel
theorem d_S_init_26 : decode b_S_init 26 = .ok (.aload_n 0, 1) := by decide +kernel
theorem d_S_init_27 : decode b_S_init 27 = .ok (.iconst 0, 1) := by decide +kernel
theorem d_S_init_28 : decode b_S_init 28 = .ok (.putfield 21, 3) := by decide +kernel
theorem d_S_init_31 : decode b_S_init 31 = .ok (.return_, 1) := by decide +kernel
theorem d_S_actor_0 : decode b_S_actor 0 = .ok (.aload_n 0, 1) := by decide +kernel
theorem d_S_actor_1 : decode b_S_actor 1 = .ok (.getfield 14, 3) := by decide +kernel
theorem d_S_actor_4 : decode b_S_actor 4 = .ok (.iload_n 1, 1) := by decide +kernel
theorem d_S_actor_5 : decode b_S_actor 5 = .ok (.iload_n 2, 1) := by decide +kernel
theorem d_S_actor_6 : decode b_S_actor 6 = .ok (.iload_n 3, 1) := by decide +kernel
theorem d_S_actor_7 : decode b_S_actor 7 = .ok (.invokevirtual 25, 3) := by decide +kernel
theorem d_S_actor_10 : decode b_S_actor 10 = .ok (.istore 4, 2) := by decide +kernel
theorem d_S_actor_12 : decode b_S_actor 12 = .ok (.iload 4, 2) := by decide +kernel
theorem d_S_actor_14 : decode b_S_actor 14 = .ok (.iconst (-1), 1) := by decide +kernel
theorem d_S_actor_15 : decode b_S_actor 15 = .ok (.if_icmp .eq 19, 3) := by decide +kernel
theorem d_S_actor_18 : decode b_S_actor 18 = .ok (.aload_n 0, 1) := by decide +kernel
theorem d_S_actor_19 : decode b_S_actor 19 = .ok (.getfield 18, 3) := by decide +kernel
theorem d_S_actor_22 : decode b_S_actor 22 = .ok (.iload_n 1, 1) := by decide +kernel
theorem d_S_actor_23 : decode b_S_actor 23 = .ok (.iload_n 2, 1) := by decide +kernel
theorem d_S_actor_24 : decode b_S_actor 24 = .ok (.iload_n 3, 1) := by decide +kernel
theorem d_S_actor_25 : decode b_S_actor 25 = .ok (.invokevirtual 25, 3) := by decide +kernel
theorem d_S_actor_28 : decode b_S_actor 28 = .ok (.pop, 1) := by decide +kernel
theorem d_S_actor_29 : decode b_S_actor 29 = .ok (.aload_n 0, 1) := by decide +kernel
theorem d_S_actor_30 : decode b_S_actor 30 = .ok (.iconst 0, 1) := by decide +kernel
theorem d_S_actor_31 : decode b_S_actor 31 = .ok (.putfield 21, 3) := by decide +kernel
theorem d_S_actor_34 : decode b_S_actor 34 = .ok (.iload 4, 2) := by decide +kernel
theorem d_S_actor_36 : decode b_S_actor 36 = .ok (.ireturn, 1) := by decide +kernel
theorem d_S_value_0 : decode b_S_value 0 = .ok (.aload_n 0, 1) := by decide +kernel
theorem d_S_value_1 : decode b_S_value 1 = .ok (.getfield 14, 3) := by decide +kernel
theorem d_S_value_4 : decode b_S_value 4 = .ok (.iload_n 1, 1) := by decide +kernel
theorem d_S_value_5 : decode b_S_value 5 = .ok (.iconst 0, 1) := by decide +kernel
theorem d_S_value_6 : decode b_S_value 6 = .ok (.invokevirtual 29, 3) := by decide +kernel
theorem d_S_value_9 : decode b_S_value 9 = .ok (.astore_n 3, 1) := by decide +kernel
theorem d_S_value_10 : decode b_S_value 10 = .ok (.aload_n 3, 1) := by decide +kernel
theorem d_S_value_11 : decode b_S_value 11 = .ok (.ifnull 11, 3) := by decide +kernel
theorem d_S_value_14 : decode b_S_value 14 = .ok (.aload_n 3, 1) := by decide +kernel
theorem d_S_value_15 : decode b_S_value 15 = .ok (.iload_n 2, 1) := by decide +kernel
theorem d_S_value_16 : decode b_S_value 16 = .ok (.invokevirtual 33, 3) := by decide +kernel
theorem d_S_value_19 : decode b_S_value 19 = .ok (.ifCond .ne 5, 3) := by decide +kernel
theorem d_S_value_22 : decode b_S_value 22 = .ok (.iconst 0, 1) := by decide +kernel
theorem d_S_value_23 : decode b_S_value 23 = .ok (.ireturn, 1) := by decide +kernel
theorem d_S_value_24 : decode b_S_value 24 = .ok (.aload_n 0, 1) := by decide +kernel
theorem d_S_value_25 : decode b_S_value 25 = .ok (.iconst 0, 1) := by decide +kernel
theorem d_S_value_26 : decode b_S_value 26 = .ok (.putfield 21, 3) := by decide +kernel
theorem d_S_value_29 : decode b_S_value 29 = .ok (.iconst 1, 1) := by decide +kernel
theorem d_S_value_30 : decode b_S_value 30 = .ok (.ireturn, 1) := by decide +kernel
theorem d_S_channel_0 : decode b_S_channel 0 = .ok (.aload_n 0, 1) := by decide +kernel
theorem d_S_channel_1 : decode b_S_channel 1 = .ok (.getfield 14, 3) := by decide +kernel
theorem d_S_channel_4 : decode b_S_channel 4 = .ok (.iload_n 1, 1) := by decide +kernel
theorem d_S_channel_5 : decode b_S_channel 5 = .ok (.iload_n 2, 1) := by decide +kernel
theorem d_S_channel_6 : decode b_S_channel 6 = .ok (.iload_n 3, 1) := by decide +kernel
theorem d_S_channel_7 : decode b_S_channel 7 = .ok (.iload 4, 2) := by decide +kernel
theorem d_S_channel_9 : decode b_S_channel 9 = .ok (.iload 5, 2) := by decide +kernel
theorem d_S_channel_11 : decode b_S_channel 11 = .ok (.invokevirtual 39, 3) := by decide +kernel
theorem d_S_channel_14 : decode b_S_channel 14 = .ok (.istore 6, 2) := by decide +kernel
theorem d_S_channel_16 : decode b_S_channel 16 = .ok (.iload 6, 2) := by decide +kernel
theorem d_S_channel_18 : decode b_S_channel 18 = .ok (.iconst (-1), 1) := by decide +kernel
theorem d_S_channel_19 : decode b_S_channel 19 = .ok (.if_icmp .eq 23, 3) := by decide +kernel
theorem d_S_channel_22 : decode b_S_channel 22 = .ok (.aload_n 0, 1) := by decide +kernel
theorem d_S_channel_23 : decode b_S_channel 23 = .ok (.getfield 18, 3) := by decide +kernel
theorem d_S_channel_26 : decode b_S_channel 26 = .ok (.iload_n 1, 1) := by decide +kernel
theorem d_S_channel_27 : decode b_S_channel 27 = .ok (.iload_n 2, 1) := by decide +kernel
theorem d_S_channel_28 : decode b_S_channel 28 = .ok (.iload_n 3, 1) := by decide +kernel
theorem d_S_channel_29 : decode b_S_channel 29 = .ok (.iload 4, 2) := by decide +kernel
theorem d_S_channel_31 : decode b_S_channel 31 = .ok (.iload 5, 2) := by decide +kernel
theorem d_S_channel_33 : decode b_S_channel 33 = .ok (.invokevirtual 39, 3) := by decide +kernel
theorem d_S_channel_36 : decode b_S_channel 36 = .ok (.pop, 1) := by decide +kernel
theorem d_S_channel_37 : decode b_S_channel 37 = .ok (.aload_n 0, 1) := by decide +kernel
theorem d_S_channel_38 : decode b_S_channel 38 = .ok (.iconst 0, 1) := by decide +kernel
theorem d_S_channel_39 : decode b_S_channel 39 = .ok (.putfield 21, 3) := by decide +kernel
theorem d_S_channel_42 : decode b_S_channel 42 = .ok (.iload 6, 2) := by decide +kernel
theorem d_S_channel_44 : decode b_S_channel 44 = .ok (.ireturn, 1) := by decide +kernel
theorem d_S_can_0 : decode b_S_can 0 = .ok (.aload_n 0, 1) := by decide +kernel
theorem d_S_can_1 : decode b_S_can 1 = .ok (.getfield 14, 3) := by decide +kernel
theorem d_S_can_4 : decode b_S_can 4 = .ok (.iload_n 1, 1) := by decide +kernel
theorem d_S_can_5 : decode b_S_can 5 = .ok (.invokevirtual 43, 3) := by decide +kernel
theorem d_S_can_8 : decode b_S_can 8 = .ok (.astore_n 2, 1) := by decide +kernel
theorem d_S_can_9 : decode b_S_can 9 = .ok (.aload_n 2, 1) := by decide +kernel
theorem d_S_can_10 : decode b_S_can 10 = .ok (.ifnull 14, 3) := by decide +kernel
theorem d_S_can_13 : decode b_S_can 13 = .ok (.aload_n 2, 1) := by decide +kernel
theorem d_S_can_14 : decode b_S_can 14 = .ok (.invokevirtual 47, 3) := by decide +kernel
theorem d_S_can_17 : decode b_S_can 17 = .ok (.ifCond .eq 7, 3) := by decide +kernel
theorem d_S_can_20 : decode b_S_can 20 = .ok (.iconst 1, 1) := by decide +kernel
theorem d_S_can_21 : decode b_S_can 21 = .ok (.goto 4, 3) := by decide +kernel
theorem d_S_can_24 : decode b_S_can 24 = .ok (.iconst 0, 1) := by decide +kernel
theorem d_S_can_25 : decode b_S_can 25 = .ok (.ireturn, 1) := by decide +kernel
theorem d_S_act_0 : decode b_S_act 0 = .ok (.aload_n 0, 1) := by decide +kernel
theorem d_S_act_1 : decode b_S_act 1 = .ok (.getfield 14, 3) := by decide +kernel
theorem d_S_act_4 : decode b_S_act 4 = .ok (.iload_n 1, 1) := by decide +kernel
theorem d_S_act_5 : decode b_S_act 5 = .ok (.invokevirtual 43, 3) := by decide +kernel
theorem d_S_act_8 : decode b_S_act 8 = .ok (.astore_n 2, 1) := by decide +kernel
theorem d_S_act_9 : decode b_S_act 9 = .ok (.aload_n 2, 1) := by decide +kernel
theorem d_S_act_10 : decode b_S_act 10 = .ok (.ifnull 10, 3) := by decide +kernel
theorem d_S_act_13 : decode b_S_act 13 = .ok (.aload_n 2, 1) := by decide +kernel
theorem d_S_act_14 : decode b_S_act 14 = .ok (.invokevirtual 47, 3) := by decide +kernel
theorem d_S_act_17 : decode b_S_act 17 = .ok (.ifCond .ne 5, 3) := by decide +kernel
theorem d_S_act_20 : decode b_S_act 20 = .ok (.iconst 0, 1) := by decide +kernel
theorem d_S_act_21 : decode b_S_act 21 = .ok (.ireturn, 1) := by decide +kernel
theorem d_S_act_22 : decode b_S_act 22 = .ok (.aload_n 2, 1) := by decide +kernel
theorem d_S_act_23 : decode b_S_act 23 = .ok (.invokevirtual 51, 3) := by decide +kernel
theorem d_S_act_26 : decode b_S_act 26 = .ok (.iconst 1, 1) := by decide +kernel
theorem d_S_act_27 : decode b_S_act 27 = .ok (.ireturn, 1) := by decide +kernel
theorem d_S_run_0 : decode b_S_run 0 = .ok (.iload_n 3, 1) := by decide +kernel
theorem d_S_run_1 : decode b_S_run 1 = .ok (.ifCond .lt 10, 3) := by decide +kernel
theorem d_S_run_4 : decode b_S_run 4 = .ok (.iload_n 3, 1) := by decide +kernel
theorem d_S_run_5 : decode b_S_run 5 = .ok (.sipush 2000, 3) := by decide +kernel
theorem d_S_run_8 : decode b_S_run 8 = .ok (.if_icmp .le 5, 3) := by decide +kernel
theorem d_S_run_11 : decode b_S_run 11 = .ok (.iconst (-1), 1) := by decide +kernel
theorem d_S_run_12 : decode b_S_run 12 = .ok (.ireturn, 1) := by decide +kernel
theorem d_S_run_13 : decode b_S_run 13 = .ok (.aload_n 0, 1) := by decide +kernel
theorem d_S_run_14 : decode b_S_run 14 = .ok (.getfield 14, 3) := by decide +kernel
theorem d_S_run_17 : decode b_S_run 17 = .ok (.lload_n 1, 1) := by decide +kernel
theorem d_S_run_18 : decode b_S_run 18 = .ok (.iload_n 3, 1) := by decide +kernel
theorem d_S_run_19 : decode b_S_run 19 = .ok (.invokevirtual 54, 3) := by decide +kernel
theorem d_S_run_22 : decode b_S_run 22 = .ok (.ireturn, 1) := by decide +kernel
theorem d_S_acted_0 : decode b_S_acted 0 = .ok (.aload_n 0, 1) := by decide +kernel
theorem d_S_acted_1 : decode b_S_acted 1 = .ok (.getfield 14, 3) := by decide +kernel
theorem d_S_acted_4 : decode b_S_acted 4 = .ok (.iload_n 1, 1) := by decide +kernel
theorem d_S_acted_5 : decode b_S_acted 5 = .ok (.invokevirtual 43, 3) := by decide +kernel
theorem d_S_acted_8 : decode b_S_acted 8 = .ok (.invokestatic 58, 3) := by decide +kernel
theorem d_S_acted_11 : decode b_S_acted 11 = .ok (.ireturn, 1) := by decide +kernel
theorem d_S_kept_0 : decode b_S_kept 0 = .ok (.aload_n 0, 1) := by decide +kernel
theorem d_S_kept_1 : decode b_S_kept 1 = .ok (.getfield 14, 3) := by decide +kernel
theorem d_S_kept_4 : decode b_S_kept 4 = .ok (.iload_n 1, 1) := by decide +kernel
theorem d_S_kept_5 : decode b_S_kept 5 = .ok (.bipush 6, 2) := by decide +kernel
theorem d_S_kept_7 : decode b_S_kept 7 = .ok (.invokevirtual 29, 3) := by decide +kernel
theorem d_S_kept_10 : decode b_S_kept 10 = .ok (.invokestatic 58, 3) := by decide +kernel
theorem d_S_kept_13 : decode b_S_kept 13 = .ok (.ireturn, 1) := by decide +kernel
theorem d_S_at_0 : decode b_S_at 0 = .ok (.aload_n 0, 1) := by decide +kernel
theorem d_S_at_1 : decode b_S_at 1 = .ok (.getfield 14, 3) := by decide +kernel
theorem d_S_at_4 : decode b_S_at 4 = .ok (.iload_n 1, 1) := by decide +kernel
theorem d_S_at_5 : decode b_S_at 5 = .ok (.bipush 6, 2) := by decide +kernel
theorem d_S_at_7 : decode b_S_at 7 = .ok (.invokevirtual 29, 3) := by decide +kernel
theorem d_S_at_10 : decode b_S_at 10 = .ok (.iload_n 2, 1) := by decide +kernel
theorem d_S_at_11 : decode b_S_at 11 = .ok (.invokestatic 62, 3) := by decide +kernel
theorem d_S_at_14 : decode b_S_at 14 = .ok (.lreturn, 1) := by decide +kernel
theorem d_S_waits_0 : decode b_S_waits 0 = .ok (.aload_n 0, 1) := by decide +kernel
theorem d_S_waits_1 : decode b_S_waits 1 = .ok (.getfield 14, 3) := by decide +kernel
theorem d_S_waits_4 : decode b_S_waits 4 = .ok (.iload_n 1, 1) := by decide +kernel
theorem d_S_waits_5 : decode b_S_waits 5 = .ok (.invokevirtual 66, 3) := by decide +kernel
theorem d_S_waits_8 : decode b_S_waits 8 = .ok (.astore_n 2, 1) := by decide +kernel
theorem d_S_waits_9 : decode b_S_waits 9 = .ok (.aload_n 2, 1) := by decide +kernel
theorem d_S_waits_10 : decode b_S_waits 10 = .ok (.ifnonnull 7, 3) := by decide +kernel
theorem d_S_waits_13 : decode b_S_waits 13 = .ok (.iconst (-1), 1) := by decide +kernel
theorem d_S_waits_14 : decode b_S_waits 14 = .ok (.goto 7, 3) := by decide +kernel
theorem d_S_waits_17 : decode b_S_waits 17 = .ok (.aload_n 2, 1) := by decide +kernel
theorem d_S_waits_18 : decode b_S_waits 18 = .ok (.invokevirtual 70, 3) := by decide +kernel
theorem d_S_waits_21 : decode b_S_waits 21 = .ok (.ireturn, 1) := by decide +kernel
theorem d_S_waiting_0 : decode b_S_waiting 0 = .ok (.aload_n 0, 1) := by decide +kernel
theorem d_S_waiting_1 : decode b_S_waiting 1 = .ok (.getfield 14, 3) := by decide +kernel
theorem d_S_waiting_4 : decode b_S_waiting 4 = .ok (.iload_n 1, 1) := by decide +kernel
theorem d_S_waiting_5 : decode b_S_waiting 5 = .ok (.invokevirtual 66, 3) := by decide +kernel
theorem d_S_waiting_8 : decode b_S_waiting 8 = .ok (.astore_n 3, 1) := by decide +kernel
theorem d_S_waiting_9 : decode b_S_waiting 9 = .ok (.aload_n 3, 1) := by decide +kernel
theorem d_S_waiting_10 : decode b_S_waiting 10 = .ok (.ifnull 15, 3) := by decide +kernel
theorem d_S_waiting_13 : decode b_S_waiting 13 = .ok (.iload_n 2, 1) := by decide +kernel
theorem d_S_waiting_14 : decode b_S_waiting 14 = .ok (.ifCond .lt 11, 3) := by decide +kernel
theorem d_S_waiting_17 : decode b_S_waiting 17 = .ok (.iload_n 2, 1) := by decide +kernel
theorem d_S_waiting_18 : decode b_S_waiting 18 = .ok (.aload_n 3, 1) := by decide +kernel
theorem d_S_waiting_19 : decode b_S_waiting 19 = .ok (.invokevirtual 70, 3) := by decide +kernel
theorem d_S_waiting_22 : decode b_S_waiting 22 = .ok (.if_icmp .lt 7, 3) := by decide +kernel
theorem d_S_waiting_25 : decode b_S_waiting 25 = .ok (.ldc2_w 76, 3) := by decide +kernel
theorem d_S_waiting_28 : decode b_S_waiting 28 = .ok (.lreturn, 1) := by decide +kernel
theorem d_S_waiting_29 : decode b_S_waiting 29 = .ok (.aload_n 3, 1) := by decide +kernel
theorem d_S_waiting_30 : decode b_S_waiting 30 = .ok (.iload_n 2, 1) := by decide +kernel
theorem d_S_waiting_31 : decode b_S_waiting 31 = .ok (.invokevirtual 78, 3) := by decide +kernel
theorem d_S_waiting_34 : decode b_S_waiting 34 = .ok (.i2l, 1) := by decide +kernel
theorem d_S_waiting_35 : decode b_S_waiting 35 = .ok (.lreturn, 1) := by decide +kernel
theorem d_S_keptAtLast_0 : decode b_S_keptAtLast 0 = .ok (.aload_n 0, 1) := by decide +kernel
theorem d_S_keptAtLast_1 : decode b_S_keptAtLast 1 = .ok (.invokevirtual 82, 3) := by decide +kernel
theorem d_S_keptAtLast_4 : decode b_S_keptAtLast 4 = .ok (.iload_n 1, 1) := by decide +kernel
theorem d_S_keptAtLast_5 : decode b_S_keptAtLast 5 = .ok (.bipush 6, 2) := by decide +kernel
theorem d_S_keptAtLast_7 : decode b_S_keptAtLast 7 = .ok (.invokevirtual 29, 3) := by decide +kernel
theorem d_S_keptAtLast_10 : decode b_S_keptAtLast 10 = .ok (.invokestatic 58, 3) := by decide +kernel
theorem d_S_keptAtLast_13 : decode b_S_keptAtLast 13 = .ok (.ireturn, 1) := by decide +kernel
theorem d_S_atLast_0 : decode b_S_atLast 0 = .ok (.aload_n 0, 1) := by decide +kernel
theorem d_S_atLast_1 : decode b_S_atLast 1 = .ok (.invokevirtual 82, 3) := by decide +kernel
theorem d_S_atLast_4 : decode b_S_atLast 4 = .ok (.iload_n 1, 1) := by decide +kernel
theorem d_S_atLast_5 : decode b_S_atLast 5 = .ok (.bipush 6, 2) := by decide +kernel
theorem d_S_atLast_7 : decode b_S_atLast 7 = .ok (.invokevirtual 29, 3) := by decide +kernel
theorem d_S_atLast_10 : decode b_S_atLast 10 = .ok (.iload_n 2, 1) := by decide +kernel
theorem d_S_atLast_11 : decode b_S_atLast 11 = .ok (.invokestatic 62, 3) := by decide +kernel
theorem d_S_atLast_14 : decode b_S_atLast 14 = .ok (.lreturn, 1) := by decide +kernel
theorem d_S_actedAtLast_0 : decode b_S_actedAtLast 0 = .ok (.aload_n 0, 1) := by decide +kernel
theorem d_S_actedAtLast_1 : decode b_S_actedAtLast 1 = .ok (.invokevirtual 82, 3) := by decide +kernel
theorem d_S_actedAtLast_4 : decode b_S_actedAtLast 4 = .ok (.iload_n 1, 1) := by decide +kernel
theorem d_S_actedAtLast_5 : decode b_S_actedAtLast 5 = .ok (.invokevirtual 43, 3) := by decide +kernel
theorem d_S_actedAtLast_8 : decode b_S_actedAtLast 8 = .ok (.invokestatic 58, 3) := by decide +kernel
theorem d_S_actedAtLast_11 : decode b_S_actedAtLast 11 = .ok (.ireturn, 1) := by decide +kernel
theorem d_S_fullAtLast_0 : decode b_S_fullAtLast 0 = .ok (.aload_n 0, 1) := by decide +kernel
theorem d_S_fullAtLast_1 : decode b_S_fullAtLast 1 = .ok (.invokevirtual 82, 3) := by decide +kernel
theorem d_S_fullAtLast_4 : decode b_S_fullAtLast 4 = .ok (.iload_n 1, 1) := by decide +kernel
theorem d_S_fullAtLast_5 : decode b_S_fullAtLast 5 = .ok (.invokevirtual 86, 3) := by decide +kernel
theorem d_S_fullAtLast_8 : decode b_S_fullAtLast 8 = .ok (.ireturn, 1) := by decide +kernel
theorem d_S_settled_0 : decode b_S_settled 0 = .ok (.aload_n 0, 1) := by decide +kernel
theorem d_S_settled_1 : decode b_S_settled 1 = .ok (.getfield 21, 3) := by decide +kernel
theorem d_S_settled_4 : decode b_S_settled 4 = .ok (.ifCond .ne 26, 3) := by decide +kernel
theorem d_S_settled_7 : decode b_S_settled 7 = .ok (.aload_n 0, 1) := by decide +kernel
theorem d_S_settled_8 : decode b_S_settled 8 = .ok (.getfield 18, 3) := by decide +kernel
theorem d_S_settled_11 : decode b_S_settled 11 = .ok (.aload_n 0, 1) := by decide +kernel
theorem d_S_settled_12 : decode b_S_settled 12 = .ok (.getfield 14, 3) := by decide +kernel
theorem d_S_settled_15 : decode b_S_settled 15 = .ok (.invokevirtual 89, 3) := by decide +kernel
theorem d_S_settled_18 : decode b_S_settled 18 = .ok (.aload_n 0, 1) := by decide +kernel
theorem d_S_settled_19 : decode b_S_settled 19 = .ok (.getfield 18, 3) := by decide +kernel
theorem d_S_settled_22 : decode b_S_settled 22 = .ok (.invokevirtual 93, 3) := by decide +kernel
theorem d_S_settled_25 : decode b_S_settled 25 = .ok (.aload_n 0, 1) := by decide +kernel
theorem d_S_settled_26 : decode b_S_settled 26 = .ok (.iconst 1, 1) := by decide +kernel
theorem d_S_settled_27 : decode b_S_settled 27 = .ok (.putfield 21, 3) := by decide +kernel
theorem d_S_settled_30 : decode b_S_settled 30 = .ok (.aload_n 0, 1) := by decide +kernel
theorem d_S_settled_31 : decode b_S_settled 31 = .ok (.getfield 18, 3) := by decide +kernel
theorem d_S_settled_34 : decode b_S_settled 34 = .ok (.areturn, 1) := by decide +kernel
theorem d_S_timesOf_0 : decode b_S_timesOf 0 = .ok (.aload_n 0, 1) := by decide +kernel
theorem d_S_timesOf_1 : decode b_S_timesOf 1 = .ok (.ifnonnull 7, 3) := by decide +kernel
theorem d_S_timesOf_4 : decode b_S_timesOf 4 = .ok (.iconst (-1), 1) := by decide +kernel
theorem d_S_timesOf_5 : decode b_S_timesOf 5 = .ok (.goto 7, 3) := by decide +kernel
theorem d_S_timesOf_8 : decode b_S_timesOf 8 = .ok (.aload_n 0, 1) := by decide +kernel
theorem d_S_timesOf_9 : decode b_S_timesOf 9 = .ok (.invokevirtual 96, 3) := by decide +kernel
theorem d_S_timesOf_12 : decode b_S_timesOf 12 = .ok (.ireturn, 1) := by decide +kernel
theorem d_S_keptValue_0 : decode b_S_keptValue 0 = .ok (.aload_n 0, 1) := by decide +kernel
theorem d_S_keptValue_1 : decode b_S_keptValue 1 = .ok (.ifnull 15, 3) := by decide +kernel
theorem d_S_keptValue_4 : decode b_S_keptValue 4 = .ok (.iload_n 1, 1) := by decide +kernel
theorem d_S_keptValue_5 : decode b_S_keptValue 5 = .ok (.ifCond .lt 11, 3) := by decide +kernel
theorem d_S_keptValue_8 : decode b_S_keptValue 8 = .ok (.iload_n 1, 1) := by decide +kernel
theorem d_S_keptValue_9 : decode b_S_keptValue 9 = .ok (.aload_n 0, 1) := by decide +kernel
theorem d_S_keptValue_10 : decode b_S_keptValue 10 = .ok (.invokevirtual 96, 3) := by decide +kernel
theorem d_S_keptValue_13 : decode b_S_keptValue 13 = .ok (.if_icmp .lt 7, 3) := by decide +kernel
theorem d_S_keptValue_16 : decode b_S_keptValue 16 = .ok (.ldc2_w 76, 3) := by decide +kernel
theorem d_S_keptValue_19 : decode b_S_keptValue 19 = .ok (.lreturn, 1) := by decide +kernel
theorem d_S_keptValue_20 : decode b_S_keptValue 20 = .ok (.aload_n 0, 1) := by decide +kernel
theorem d_S_keptValue_21 : decode b_S_keptValue 21 = .ok (.iload_n 1, 1) := by decide +kernel
theorem d_S_keptValue_22 : decode b_S_keptValue 22 = .ok (.invokevirtual 99, 3) := by decide +kernel
theorem d_S_keptValue_25 : decode b_S_keptValue 25 = .ok (.i2l, 1) := by decide +kernel
theorem d_S_keptValue_26 : decode b_S_keptValue 26 = .ok (.lreturn, 1) := by decide +kernel
theorem d_A_init_0 : decode b_A_init 0 = .ok (.aload_n 0, 1) := by decide +kernel
theorem d_A_init_1 : decode b_A_init 1 = .ok (.invokespecial 3, 3) := by decide +kernel
theorem d_A_init_4 : decode b_A_init 4 = .ok (.aload_n 0, 1) := by decide +kernel
theorem d_A_init_5 : decode b_A_init 5 = .ok (.iload_n 1, 1) := by decide +kernel
theorem d_A_init_6 : decode b_A_init 6 = .ok (.putfield 9, 3) := by decide +kernel
theorem d_A_init_9 : decode b_A_init 9 = .ok (.aload_n 0, 1) := by decide +kernel
theorem d_A_init_10 : decode b_A_init 10 = .ok (.iload_n 2, 1) := by decide +kernel
theorem d_A_init_11 : decode b_A_init 11 = .ok (.putfield 15, 3) := by decide +kernel
theorem d_A_init_14 : decode b_A_init 14 = .ok (.aload_n 0, 1) := by decide +kernel
theorem d_A_init_15 : decode b_A_init 15 = .ok (.iload_n 3, 1) := by decide +kernel
theorem d_A_init_16 : decode b_A_init 16 = .ok (.putfield 18, 3) := by decide +kernel
theorem d_A_init_19 : decode b_A_init 19 = .ok (.aload_n 0, 1) := by decide +kernel
theorem d_A_init_20 : decode b_A_init 20 = .ok (.iconst 2, 1) := by decide +kernel
theorem d_A_init_21 : decode b_A_init 21 = .ok (.anewarray 21, 3) := by decide +kernel
theorem d_A_init_24 : decode b_A_init 24 = .ok (.putfield 23, 3) := by decide +kernel
theorem d_A_init_27 : decode b_A_init 27 = .ok (.aload_n 0, 1) := by decide +kernel
theorem d_A_init_28 : decode b_A_init 28 = .ok (.iconst 2, 1) := by decide +kernel
theorem d_A_init_29 : decode b_A_init 29 = .ok (.anewarray 21, 3) := by decide +kernel
theorem d_A_init_32 : decode b_A_init 32 = .ok (.putfield 27, 3) := by decide +kernel
theorem d_A_init_35 : decode b_A_init 35 = .ok (.aload_n 0, 1) := by decide +kernel
theorem d_A_init_36 : decode b_A_init 36 = .ok (.getstatic 30, 3) := by decide +kernel
theorem d_A_init_39 : decode b_A_init 39 = .ok (.iload_n 1, 1) := by decide +kernel
theorem d_A_init_40 : decode b_A_init 40 = .ok (.iaload, 1) := by decide +kernel
theorem d_A_init_41 : decode b_A_init 41 = .ok (.newarray .int, 2) := by decide +kernel
theorem d_A_init_43 : decode b_A_init 43 = .ok (.putfield 34, 3) := by decide +kernel
theorem d_A_init_46 : decode b_A_init 46 = .ok (.aload_n 0, 1) := by decide +kernel
theorem d_A_init_47 : decode b_A_init 47 = .ok (.iconst 0, 1) := by decide +kernel
theorem d_A_init_48 : decode b_A_init 48 = .ok (.putfield 37, 3) := by decide +kernel
theorem d_A_init_51 : decode b_A_init 51 = .ok (.aload_n 0, 1) := by decide +kernel
theorem d_A_init_52 : decode b_A_init 52 = .ok (.iconst 0, 1) := by decide +kernel
theorem d_A_init_53 : decode b_A_init 53 = .ok (.putfield 40, 3) := by decide +kernel
theorem d_A_init_56 : decode b_A_init 56 = .ok (.return_, 1) := by decide +kernel
theorem d_A_isKind_0 : decode b_A_isKind 0 = .ok (.aload_n 0, 1) := by decide +kernel
theorem d_A_isKind_1 : decode b_A_isKind 1 = .ok (.getfield 9, 3) := by decide +kernel
theorem d_A_isKind_4 : decode b_A_isKind 4 = .ok (.iload_n 1, 1) := by decide +kernel
theorem d_A_isKind_5 : decode b_A_isKind 5 = .ok (.if_icmp .ne 7, 3) := by decide +kernel
theorem d_A_isKind_8 : decode b_A_isKind 8 = .ok (.iconst 1, 1) := by decide +kernel
theorem d_A_isKind_9 : decode b_A_isKind 9 = .ok (.goto 4, 3) := by decide +kernel
theorem d_A_isKind_12 : decode b_A_isKind 12 = .ok (.iconst 0, 1) := by decide +kernel
theorem d_A_isKind_13 : decode b_A_isKind 13 = .ok (.ireturn, 1) := by decide +kernel
theorem d_A_times_0 : decode b_A_times 0 = .ok (.aload_n 0, 1) := by decide +kernel
theorem d_A_times_1 : decode b_A_times 1 = .ok (.getfield 40, 3) := by decide +kernel
theorem d_A_times_4 : decode b_A_times 4 = .ok (.ireturn, 1) := by decide +kernel
theorem d_A_rowValue_0 : decode b_A_rowValue 0 = .ok (.iload_n 1, 1) := by decide +kernel
theorem d_A_rowValue_1 : decode b_A_rowValue 1 = .ok (.ifCond .lt 21, 3) := by decide +kernel
theorem d_A_rowValue_4 : decode b_A_rowValue 4 = .ok (.iload_n 1, 1) := by decide +kernel
theorem d_A_rowValue_5 : decode b_A_rowValue 5 = .ok (.aload_n 0, 1) := by decide +kernel
theorem d_A_rowValue_6 : decode b_A_rowValue 6 = .ok (.getfield 34, 3) := by decide +kernel
theorem d_A_rowValue_9 : decode b_A_rowValue 9 = .ok (.arraylength, 1) := by decide +kernel
theorem d_A_rowValue_10 : decode b_A_rowValue 10 = .ok (.if_icmp .ge 12, 3) := by decide +kernel
theorem d_A_rowValue_13 : decode b_A_rowValue 13 = .ok (.aload_n 0, 1) := by decide +kernel
theorem d_A_rowValue_14 : decode b_A_rowValue 14 = .ok (.getfield 34, 3) := by decide +kernel
theorem d_A_rowValue_17 : decode b_A_rowValue 17 = .ok (.iload_n 1, 1) := by decide +kernel
theorem d_A_rowValue_18 : decode b_A_rowValue 18 = .ok (.iaload, 1) := by decide +kernel
theorem d_A_rowValue_19 : decode b_A_rowValue 19 = .ok (.goto 4, 3) := by decide +kernel
theorem d_A_rowValue_22 : decode b_A_rowValue 22 = .ok (.iconst 0, 1) := by decide +kernel
theorem d_A_rowValue_23 : decode b_A_rowValue 23 = .ok (.ireturn, 1) := by decide +kernel
theorem d_A_tell_0 : decode b_A_tell 0 = .ok (.aload_n 0, 1) := by decide +kernel
theorem d_A_tell_1 : decode b_A_tell 1 = .ok (.getfield 37, 3) := by decide +kernel
theorem d_A_tell_4 : decode b_A_tell 4 = .ok (.aload_n 0, 1) := by decide +kernel
theorem d_A_tell_5 : decode b_A_tell 5 = .ok (.getfield 34, 3) := by decide +kernel
theorem d_A_tell_8 : decode b_A_tell 8 = .ok (.arraylength, 1) := by decide +kernel
theorem d_A_tell_9 : decode b_A_tell 9 = .ok (.if_icmp .lt 5, 3) := by decide +kernel
theorem d_A_tell_12 : decode b_A_tell 12 = .ok (.iconst 0, 1) := by decide +kernel
theorem d_A_tell_13 : decode b_A_tell 13 = .ok (.ireturn, 1) := by decide +kernel
theorem d_A_tell_14 : decode b_A_tell 14 = .ok (.aload_n 0, 1) := by decide +kernel
theorem d_A_tell_15 : decode b_A_tell 15 = .ok (.getfield 34, 3) := by decide +kernel
theorem d_A_tell_18 : decode b_A_tell 18 = .ok (.aload_n 0, 1) := by decide +kernel
theorem d_A_tell_19 : decode b_A_tell 19 = .ok (.getfield 37, 3) := by decide +kernel
theorem d_A_tell_22 : decode b_A_tell 22 = .ok (.iload_n 1, 1) := by decide +kernel
theorem d_A_tell_23 : decode b_A_tell 23 = .ok (.iastore, 1) := by decide +kernel
theorem d_A_tell_24 : decode b_A_tell 24 = .ok (.aload_n 0, 1) := by decide +kernel
theorem d_A_tell_25 : decode b_A_tell 25 = .ok (.dup, 1) := by decide +kernel
theorem d_A_tell_26 : decode b_A_tell 26 = .ok (.getfield 37, 3) := by decide +kernel
theorem d_A_tell_29 : decode b_A_tell 29 = .ok (.iconst 1, 1) := by decide +kernel
theorem d_A_tell_30 : decode b_A_tell 30 = .ok (.iadd, 1) := by decide +kernel
theorem d_A_tell_31 : decode b_A_tell 31 = .ok (.putfield 37, 3) := by decide +kernel
theorem d_A_tell_34 : decode b_A_tell 34 = .ok (.iconst 1, 1) := by decide +kernel
theorem d_A_tell_35 : decode b_A_tell 35 = .ok (.ireturn, 1) := by decide +kernel
theorem d_A_hasFreeIn_0 : decode b_A_hasFreeIn 0 = .ok (.iload_n 1, 1) := by decide +kernel
theorem d_A_hasFreeIn_1 : decode b_A_hasFreeIn 1 = .ok (.ifCond .lt 28, 3) := by decide +kernel
theorem d_A_hasFreeIn_4 : decode b_A_hasFreeIn 4 = .ok (.iload_n 1, 1) := by decide +kernel
theorem d_A_hasFreeIn_5 : decode b_A_hasFreeIn 5 = .ok (.getstatic 43, 3) := by decide +kernel
theorem d_A_hasFreeIn_8 : decode b_A_hasFreeIn 8 = .ok (.aload_n 0, 1) := by decide +kernel
theorem d_A_hasFreeIn_9 : decode b_A_hasFreeIn 9 = .ok (.getfield 9, 3) := by decide +kernel
theorem d_A_hasFreeIn_12 : decode b_A_hasFreeIn 12 = .ok (.iaload, 1) := by decide +kernel
theorem d_A_hasFreeIn_13 : decode b_A_hasFreeIn 13 = .ok (.if_icmp .ge 16, 3) := by decide +kernel
theorem d_A_hasFreeIn_16 : decode b_A_hasFreeIn 16 = .ok (.aload_n 0, 1) := by decide +kernel
theorem d_A_hasFreeIn_17 : decode b_A_hasFreeIn 17 = .ok (.getfield 23, 3) := by decide +kernel
theorem d_A_hasFreeIn_20 : decode b_A_hasFreeIn 20 = .ok (.iload_n 1, 1) := by decide +kernel
theorem d_A_hasFreeIn_21 : decode b_A_hasFreeIn 21 = .ok (.aaload, 1) := by decide +kernel
theorem d_A_hasFreeIn_22 : decode b_A_hasFreeIn 22 = .ok (.ifnonnull 7, 3) := by decide +kernel
theorem d_A_hasFreeIn_25 : decode b_A_hasFreeIn 25 = .ok (.iconst 1, 1) := by decide +kernel
theorem d_A_hasFreeIn_26 : decode b_A_hasFreeIn 26 = .ok (.goto 4, 3) := by decide +kernel
theorem d_A_hasFreeIn_29 : decode b_A_hasFreeIn 29 = .ok (.iconst 0, 1) := by decide +kernel
theorem d_A_hasFreeIn_30 : decode b_A_hasFreeIn 30 = .ok (.ireturn, 1) := by decide +kernel
theorem d_A_hasFreeOut_0 : decode b_A_hasFreeOut 0 = .ok (.iload_n 1, 1) := by decide +kernel
theorem d_A_hasFreeOut_1 : decode b_A_hasFreeOut 1 = .ok (.ifCond .lt 28, 3) := by decide +kernel
theorem d_A_hasFreeOut_4 : decode b_A_hasFreeOut 4 = .ok (.iload_n 1, 1) := by decide +kernel
theorem d_A_hasFreeOut_5 : decode b_A_hasFreeOut 5 = .ok (.getstatic 46, 3) := by decide +kernel
theorem d_A_hasFreeOut_8 : decode b_A_hasFreeOut 8 = .ok (.aload_n 0, 1) := by decide +kernel
theorem d_A_hasFreeOut_9 : decode b_A_hasFreeOut 9 = .ok (.getfield 9, 3) := by decide +kernel
theorem d_A_hasFreeOut_12 : decode b_A_hasFreeOut 12 = .ok (.iaload, 1) := by decide +kernel
theorem d_A_hasFreeOut_13 : decode b_A_hasFreeOut 13 = .ok (.if_icmp .ge 16, 3) := by decide +kernel
theorem d_A_hasFreeOut_16 : decode b_A_hasFreeOut 16 = .ok (.aload_n 0, 1) := by decide +kernel
theorem d_A_hasFreeOut_17 : decode b_A_hasFreeOut 17 = .ok (.getfield 27, 3) := by decide +kernel
theorem d_A_hasFreeOut_20 : decode b_A_hasFreeOut 20 = .ok (.iload_n 1, 1) := by decide +kernel
theorem d_A_hasFreeOut_21 : decode b_A_hasFreeOut 21 = .ok (.aaload, 1) := by decide +kernel
theorem d_A_hasFreeOut_22 : decode b_A_hasFreeOut 22 = .ok (.ifnonnull 7, 3) := by decide +kernel
theorem d_A_hasFreeOut_25 : decode b_A_hasFreeOut 25 = .ok (.iconst 1, 1) := by decide +kernel
theorem d_A_hasFreeOut_26 : decode b_A_hasFreeOut 26 = .ok (.goto 4, 3) := by decide +kernel
theorem d_A_hasFreeOut_29 : decode b_A_hasFreeOut 29 = .ok (.iconst 0, 1) := by decide +kernel
theorem d_A_hasFreeOut_30 : decode b_A_hasFreeOut 30 = .ok (.ireturn, 1) := by decide +kernel
theorem d_A_joinIn_0 : decode b_A_joinIn 0 = .ok (.aload_n 0, 1) := by decide +kernel
theorem d_A_joinIn_1 : decode b_A_joinIn 1 = .ok (.getfield 23, 3) := by decide +kernel
theorem d_A_joinIn_4 : decode b_A_joinIn 4 = .ok (.iload_n 1, 1) := by decide +kernel
theorem d_A_joinIn_5 : decode b_A_joinIn 5 = .ok (.aload_n 2, 1) := by decide +kernel
theorem d_A_joinIn_6 : decode b_A_joinIn 6 = .ok (.aastore, 1) := by decide +kernel
theorem d_A_joinIn_7 : decode b_A_joinIn 7 = .ok (.return_, 1) := by decide +kernel
theorem d_A_joinOut_0 : decode b_A_joinOut 0 = .ok (.aload_n 0, 1) := by decide +kernel
theorem d_A_joinOut_1 : decode b_A_joinOut 1 = .ok (.getfield 27, 3) := by decide +kernel
theorem d_A_joinOut_4 : decode b_A_joinOut 4 = .ok (.iload_n 1, 1) := by decide +kernel
theorem d_A_joinOut_5 : decode b_A_joinOut 5 = .ok (.aload_n 2, 1) := by decide +kernel
theorem d_A_joinOut_6 : decode b_A_joinOut 6 = .ok (.aastore, 1) := by decide +kernel
theorem d_A_joinOut_7 : decode b_A_joinOut 7 = .ok (.return_, 1) := by decide +kernel
theorem d_A_isReady_0 : decode b_A_isReady 0 = .ok (.aload_n 0, 1) := by decide +kernel
theorem d_A_isReady_1 : decode b_A_isReady 1 = .ok (.getfield 40, 3) := by decide +kernel
theorem d_A_isReady_4 : decode b_A_isReady 4 = .ok (.bipush 100, 2) := by decide +kernel
theorem d_A_isReady_6 : decode b_A_isReady 6 = .ok (.if_icmp .lt 5, 3) := by decide +kernel
theorem d_A_isReady_9 : decode b_A_isReady 9 = .ok (.iconst 0, 1) := by decide +kernel
theorem d_A_isReady_10 : decode b_A_isReady 10 = .ok (.ireturn, 1) := by decide +kernel
theorem d_A_isReady_11 : decode b_A_isReady 11 = .ok (.aload_n 0, 1) := by decide +kernel
theorem d_A_isReady_12 : decode b_A_isReady 12 = .ok (.getfield 9, 3) := by decide +kernel
theorem d_A_isReady_15 : decode b_A_isReady 15 = .ok (.tableswitch 296 0 8 #[49, 74, 96, 121, 146, 176, 205, 228, 266], 49) := by decide +kernel
theorem d_A_isReady_64 : decode b_A_isReady 64 = .ok (.aload_n 0, 1) := by decide +kernel
theorem d_A_isReady_65 : decode b_A_isReady 65 = .ok (.getfield 40, 3) := by decide +kernel
theorem d_A_isReady_68 : decode b_A_isReady 68 = .ok (.aload_n 0, 1) := by decide +kernel
theorem d_A_isReady_69 : decode b_A_isReady 69 = .ok (.getfield 37, 3) := by decide +kernel
theorem d_A_isReady_72 : decode b_A_isReady 72 = .ok (.if_icmp .ge 15, 3) := by decide +kernel
theorem d_A_isReady_75 : decode b_A_isReady 75 = .ok (.aload_n 0, 1) := by decide +kernel
theorem d_A_isReady_76 : decode b_A_isReady 76 = .ok (.iconst 0, 1) := by decide +kernel
theorem d_A_isReady_77 : decode b_A_isReady 77 = .ok (.invokevirtual 49, 3) := by decide +kernel
theorem d_A_isReady_80 : decode b_A_isReady 80 = .ok (.ifCond .eq 7, 3) := by decide +kernel
theorem d_A_isReady_83 : decode b_A_isReady 83 = .ok (.iconst 1, 1) := by decide +kernel
theorem d_A_isReady_84 : decode b_A_isReady 84 = .ok (.goto 4, 3) := by decide +kernel
theorem d_A_isReady_87 : decode b_A_isReady 87 = .ok (.iconst 0, 1) := by decide +kernel
theorem d_A_isReady_88 : decode b_A_isReady 88 = .ok (.ireturn, 1) := by decide +kernel
theorem d_A_isReady_89 : decode b_A_isReady 89 = .ok (.aload_n 0, 1) := by decide +kernel
theorem d_A_isReady_90 : decode b_A_isReady 90 = .ok (.iconst 0, 1) := by decide +kernel
theorem d_A_isReady_91 : decode b_A_isReady 91 = .ok (.invokevirtual 53, 3) := by decide +kernel
theorem d_A_isReady_94 : decode b_A_isReady 94 = .ok (.ifCond .eq 15, 3) := by decide +kernel
theorem d_A_isReady_97 : decode b_A_isReady 97 = .ok (.aload_n 0, 1) := by decide +kernel
theorem d_A_isReady_98 : decode b_A_isReady 98 = .ok (.iconst 0, 1) := by decide +kernel
theorem d_A_isReady_99 : decode b_A_isReady 99 = .ok (.invokevirtual 49, 3) := by decide +kernel
theorem d_A_isReady_102 : decode b_A_isReady 102 = .ok (.ifCond .eq 7, 3) := by decide +kernel
theorem d_A_isReady_105 : decode b_A_isReady 105 = .ok (.iconst 1, 1) := by decide +kernel
theorem d_A_isReady_106 : decode b_A_isReady 106 = .ok (.goto 4, 3) := by decide +kernel
theorem d_A_isReady_109 : decode b_A_isReady 109 = .ok (.iconst 0, 1) := by decide +kernel
theorem d_A_isReady_110 : decode b_A_isReady 110 = .ok (.ireturn, 1) := by decide +kernel
theorem d_A_isReady_111 : decode b_A_isReady 111 = .ok (.aload_n 0, 1) := by decide +kernel
theorem d_A_isReady_112 : decode b_A_isReady 112 = .ok (.iconst 0, 1) := by decide +kernel
theorem d_A_isReady_113 : decode b_A_isReady 113 = .ok (.invokevirtual 53, 3) := by decide +kernel
theorem d_A_isReady_116 : decode b_A_isReady 116 = .ok (.ifCond .eq 18, 3) := by decide +kernel
theorem d_A_isReady_119 : decode b_A_isReady 119 = .ok (.aload_n 0, 1) := by decide +kernel
theorem d_A_isReady_120 : decode b_A_isReady 120 = .ok (.aload_n 0, 1) := by decide +kernel
theorem d_A_isReady_121 : decode b_A_isReady 121 = .ok (.invokevirtual 56, 3) := by decide +kernel
theorem d_A_isReady_124 : decode b_A_isReady 124 = .ok (.invokevirtual 49, 3) := by decide +kernel
theorem d_A_isReady_127 : decode b_A_isReady 127 = .ok (.ifCond .eq 7, 3) := by decide +kernel
theorem d_A_isReady_130 : decode b_A_isReady 130 = .ok (.iconst 1, 1) := by decide +kernel
theorem d_A_isReady_131 : decode b_A_isReady 131 = .ok (.goto 4, 3) := by decide +kernel
theorem d_A_isReady_134 : decode b_A_isReady 134 = .ok (.iconst 0, 1) := by decide +kernel
theorem d_A_isReady_135 : decode b_A_isReady 135 = .ok (.ireturn, 1) := by decide +kernel
theorem d_A_isReady_136 : decode b_A_isReady 136 = .ok (.aload_n 0, 1) := by decide +kernel
theorem d_A_isReady_137 : decode b_A_isReady 137 = .ok (.aload_n 0, 1) := by decide +kernel
theorem d_A_isReady_138 : decode b_A_isReady 138 = .ok (.invokevirtual 56, 3) := by decide +kernel
theorem d_A_isReady_141 : decode b_A_isReady 141 = .ok (.invokevirtual 53, 3) := by decide +kernel
theorem d_A_isReady_144 : decode b_A_isReady 144 = .ok (.ifCond .eq 15, 3) := by decide +kernel
theorem d_A_isReady_147 : decode b_A_isReady 147 = .ok (.aload_n 0, 1) := by decide +kernel
theorem d_A_isReady_148 : decode b_A_isReady 148 = .ok (.iconst 0, 1) := by decide +kernel
theorem d_A_isReady_149 : decode b_A_isReady 149 = .ok (.invokevirtual 49, 3) := by decide +kernel
theorem d_A_isReady_152 : decode b_A_isReady 152 = .ok (.ifCond .eq 7, 3) := by decide +kernel
theorem d_A_isReady_155 : decode b_A_isReady 155 = .ok (.iconst 1, 1) := by decide +kernel
theorem d_A_isReady_156 : decode b_A_isReady 156 = .ok (.goto 4, 3) := by decide +kernel
theorem d_A_isReady_159 : decode b_A_isReady 159 = .ok (.iconst 0, 1) := by decide +kernel
theorem d_A_isReady_160 : decode b_A_isReady 160 = .ok (.ireturn, 1) := by decide +kernel
theorem d_A_isReady_161 : decode b_A_isReady 161 = .ok (.aload_n 0, 1) := by decide +kernel
theorem d_A_isReady_162 : decode b_A_isReady 162 = .ok (.iconst 0, 1) := by decide +kernel
theorem d_A_isReady_163 : decode b_A_isReady 163 = .ok (.invokevirtual 53, 3) := by decide +kernel
theorem d_A_isReady_166 : decode b_A_isReady 166 = .ok (.ifCond .eq 23, 3) := by decide +kernel
theorem d_A_isReady_169 : decode b_A_isReady 169 = .ok (.aload_n 0, 1) := by decide +kernel
theorem d_A_isReady_170 : decode b_A_isReady 170 = .ok (.iconst 1, 1) := by decide +kernel
theorem d_A_isReady_171 : decode b_A_isReady 171 = .ok (.invokevirtual 53, 3) := by decide +kernel
theorem d_A_isReady_174 : decode b_A_isReady 174 = .ok (.ifCond .eq 15, 3) := by decide +kernel
theorem d_A_isReady_177 : decode b_A_isReady 177 = .ok (.aload_n 0, 1) := by decide +kernel
theorem d_A_isReady_178 : decode b_A_isReady 178 = .ok (.iconst 0, 1) := by decide +kernel
theorem d_A_isReady_179 : decode b_A_isReady 179 = .ok (.invokevirtual 49, 3) := by decide +kernel
theorem d_A_isReady_182 : decode b_A_isReady 182 = .ok (.ifCond .eq 7, 3) := by decide +kernel
theorem d_A_isReady_185 : decode b_A_isReady 185 = .ok (.iconst 1, 1) := by decide +kernel
theorem d_A_isReady_186 : decode b_A_isReady 186 = .ok (.goto 4, 3) := by decide +kernel
theorem d_A_isReady_189 : decode b_A_isReady 189 = .ok (.iconst 0, 1) := by decide +kernel
theorem d_A_isReady_190 : decode b_A_isReady 190 = .ok (.ireturn, 1) := by decide +kernel
theorem d_A_isReady_191 : decode b_A_isReady 191 = .ok (.aload_n 0, 1) := by decide +kernel
theorem d_A_isReady_192 : decode b_A_isReady 192 = .ok (.getfield 40, 3) := by decide +kernel
theorem d_A_isReady_195 : decode b_A_isReady 195 = .ok (.ifCond .eq 11, 3) := by decide +kernel
theorem d_A_isReady_198 : decode b_A_isReady 198 = .ok (.aload_n 0, 1) := by decide +kernel
theorem d_A_isReady_199 : decode b_A_isReady 199 = .ok (.iconst 0, 1) := by decide +kernel
theorem d_A_isReady_200 : decode b_A_isReady 200 = .ok (.invokevirtual 53, 3) := by decide +kernel
theorem d_A_isReady_203 : decode b_A_isReady 203 = .ok (.ifCond .eq 15, 3) := by decide +kernel
theorem d_A_isReady_206 : decode b_A_isReady 206 = .ok (.aload_n 0, 1) := by decide +kernel
theorem d_A_isReady_207 : decode b_A_isReady 207 = .ok (.iconst 0, 1) := by decide +kernel
theorem d_A_isReady_208 : decode b_A_isReady 208 = .ok (.invokevirtual 49, 3) := by decide +kernel
theorem d_A_isReady_211 : decode b_A_isReady 211 = .ok (.ifCond .eq 7, 3) := by decide +kernel
theorem d_A_isReady_214 : decode b_A_isReady 214 = .ok (.iconst 1, 1) := by decide +kernel
theorem d_A_isReady_215 : decode b_A_isReady 215 = .ok (.goto 4, 3) := by decide +kernel
theorem d_A_isReady_218 : decode b_A_isReady 218 = .ok (.iconst 0, 1) := by decide +kernel
theorem d_A_isReady_219 : decode b_A_isReady 219 = .ok (.ireturn, 1) := by decide +kernel
theorem d_A_isReady_220 : decode b_A_isReady 220 = .ok (.aload_n 0, 1) := by decide +kernel
theorem d_A_isReady_221 : decode b_A_isReady 221 = .ok (.iconst 0, 1) := by decide +kernel
theorem d_A_isReady_222 : decode b_A_isReady 222 = .ok (.invokevirtual 53, 3) := by decide +kernel
theorem d_A_isReady_225 : decode b_A_isReady 225 = .ok (.ifCond .eq 16, 3) := by decide +kernel
theorem d_A_isReady_228 : decode b_A_isReady 228 = .ok (.aload_n 0, 1) := by decide +kernel
theorem d_A_isReady_229 : decode b_A_isReady 229 = .ok (.getfield 40, 3) := by decide +kernel
theorem d_A_isReady_232 : decode b_A_isReady 232 = .ok (.bipush 60, 2) := by decide +kernel
theorem d_A_isReady_234 : decode b_A_isReady 234 = .ok (.if_icmp .ge 7, 3) := by decide +kernel
theorem d_A_isReady_237 : decode b_A_isReady 237 = .ok (.iconst 1, 1) := by decide +kernel
theorem d_A_isReady_238 : decode b_A_isReady 238 = .ok (.goto 4, 3) := by decide +kernel
theorem d_A_isReady_241 : decode b_A_isReady 241 = .ok (.iconst 0, 1) := by decide +kernel
theorem d_A_isReady_242 : decode b_A_isReady 242 = .ok (.ireturn, 1) := by decide +kernel
theorem d_A_isReady_243 : decode b_A_isReady 243 = .ok (.aload_n 0, 1) := by decide +kernel
theorem d_A_isReady_244 : decode b_A_isReady 244 = .ok (.iconst 0, 1) := by decide +kernel
theorem d_A_isReady_245 : decode b_A_isReady 245 = .ok (.invokevirtual 53, 3) := by decide +kernel
theorem d_A_isReady_248 : decode b_A_isReady 248 = .ok (.ifCond .eq 31, 3) := by decide +kernel
theorem d_A_isReady_251 : decode b_A_isReady 251 = .ok (.aload_n 0, 1) := by decide +kernel
theorem d_A_isReady_252 : decode b_A_isReady 252 = .ok (.iconst 1, 1) := by decide +kernel
theorem d_A_isReady_253 : decode b_A_isReady 253 = .ok (.invokevirtual 53, 3) := by decide +kernel
theorem d_A_isReady_256 : decode b_A_isReady 256 = .ok (.ifCond .eq 23, 3) := by decide +kernel
theorem d_A_isReady_259 : decode b_A_isReady 259 = .ok (.aload_n 0, 1) := by decide +kernel
theorem d_A_isReady_260 : decode b_A_isReady 260 = .ok (.iconst 0, 1) := by decide +kernel
theorem d_A_isReady_261 : decode b_A_isReady 261 = .ok (.invokevirtual 60, 3) := by decide +kernel
theorem d_A_isReady_264 : decode b_A_isReady 264 = .ok (.ifCond .ne 11, 3) := by decide +kernel
theorem d_A_isReady_267 : decode b_A_isReady 267 = .ok (.aload_n 0, 1) := by decide +kernel
theorem d_A_isReady_268 : decode b_A_isReady 268 = .ok (.iconst 0, 1) := by decide +kernel
theorem d_A_isReady_269 : decode b_A_isReady 269 = .ok (.invokevirtual 49, 3) := by decide +kernel
theorem d_A_isReady_272 : decode b_A_isReady 272 = .ok (.ifCond .eq 7, 3) := by decide +kernel
theorem d_A_isReady_275 : decode b_A_isReady 275 = .ok (.iconst 1, 1) := by decide +kernel
theorem d_A_isReady_276 : decode b_A_isReady 276 = .ok (.goto 4, 3) := by decide +kernel
theorem d_A_isReady_279 : decode b_A_isReady 279 = .ok (.iconst 0, 1) := by decide +kernel
theorem d_A_isReady_280 : decode b_A_isReady 280 = .ok (.ireturn, 1) := by decide +kernel
theorem d_A_isReady_281 : decode b_A_isReady 281 = .ok (.aload_n 0, 1) := by decide +kernel
theorem d_A_isReady_282 : decode b_A_isReady 282 = .ok (.iconst 0, 1) := by decide +kernel
theorem d_A_isReady_283 : decode b_A_isReady 283 = .ok (.invokevirtual 53, 3) := by decide +kernel
theorem d_A_isReady_286 : decode b_A_isReady 286 = .ok (.ifCond .eq 23, 3) := by decide +kernel
theorem d_A_isReady_289 : decode b_A_isReady 289 = .ok (.aload_n 0, 1) := by decide +kernel
theorem d_A_isReady_290 : decode b_A_isReady 290 = .ok (.iconst 0, 1) := by decide +kernel
theorem d_A_isReady_291 : decode b_A_isReady 291 = .ok (.invokevirtual 49, 3) := by decide +kernel
theorem d_A_isReady_294 : decode b_A_isReady 294 = .ok (.ifCond .eq 15, 3) := by decide +kernel
theorem d_A_isReady_297 : decode b_A_isReady 297 = .ok (.aload_n 0, 1) := by decide +kernel
theorem d_A_isReady_298 : decode b_A_isReady 298 = .ok (.iconst 1, 1) := by decide +kernel
theorem d_A_isReady_299 : decode b_A_isReady 299 = .ok (.invokevirtual 49, 3) := by decide +kernel
theorem d_A_isReady_302 : decode b_A_isReady 302 = .ok (.ifCond .eq 7, 3) := by decide +kernel
theorem d_A_isReady_305 : decode b_A_isReady 305 = .ok (.iconst 1, 1) := by decide +kernel
theorem d_A_isReady_306 : decode b_A_isReady 306 = .ok (.goto 4, 3) := by decide +kernel
theorem d_A_isReady_309 : decode b_A_isReady 309 = .ok (.iconst 0, 1) := by decide +kernel
theorem d_A_isReady_310 : decode b_A_isReady 310 = .ok (.ireturn, 1) := by decide +kernel
theorem d_A_isReady_311 : decode b_A_isReady 311 = .ok (.iconst 0, 1) := by decide +kernel
theorem d_A_isReady_312 : decode b_A_isReady 312 = .ok (.ireturn, 1) := by decide +kernel
theorem d_A_step_0 : decode b_A_step 0 = .ok (.aload_n 0, 1) := by decide +kernel
theorem d_A_step_1 : decode b_A_step 1 = .ok (.getfield 9, 3) := by decide +kernel
theorem d_A_step_4 : decode b_A_step 4 = .ok (.tableswitch 235 0 8 #[52, 68, 91, 107, 123, 142, 169, 181, 214], 52) := by decide +kernel
theorem d_A_step_56 : decode b_A_step 56 = .ok (.aload_n 0, 1) := by decide +kernel
theorem d_A_step_57 : decode b_A_step 57 = .ok (.iconst 0, 1) := by decide +kernel
theorem d_A_step_58 : decode b_A_step 58 = .ok (.aload_n 0, 1) := by decide +kernel
theorem d_A_step_59 : decode b_A_step 59 = .ok (.aload_n 0, 1) := by decide +kernel
theorem d_A_step_60 : decode b_A_step 60 = .ok (.getfield 40, 3) := by decide +kernel
theorem d_A_step_63 : decode b_A_step 63 = .ok (.invokevirtual 63, 3) := by decide +kernel
theorem d_A_step_66 : decode b_A_step 66 = .ok (.invokevirtual 67, 3) := by decide +kernel
theorem d_A_step_69 : decode b_A_step 69 = .ok (.goto 170, 3) := by decide +kernel
theorem d_A_step_72 : decode b_A_step 72 = .ok (.aload_n 0, 1) := by decide +kernel
theorem d_A_step_73 : decode b_A_step 73 = .ok (.iconst 0, 1) := by decide +kernel
theorem d_A_step_74 : decode b_A_step 74 = .ok (.aload_n 0, 1) := by decide +kernel
theorem d_A_step_75 : decode b_A_step 75 = .ok (.iconst 0, 1) := by decide +kernel
theorem d_A_step_76 : decode b_A_step 76 = .ok (.invokevirtual 71, 3) := by decide +kernel
theorem d_A_step_79 : decode b_A_step 79 = .ok (.aload_n 0, 1) := by decide +kernel
theorem d_A_step_80 : decode b_A_step 80 = .ok (.getfield 15, 3) := by decide +kernel
theorem d_A_step_83 : decode b_A_step 83 = .ok (.imul, 1) := by decide +kernel
theorem d_A_step_84 : decode b_A_step 84 = .ok (.aload_n 0, 1) := by decide +kernel
theorem d_A_step_85 : decode b_A_step 85 = .ok (.getfield 18, 3) := by decide +kernel
theorem d_A_step_88 : decode b_A_step 88 = .ok (.iadd, 1) := by decide +kernel
theorem d_A_step_89 : decode b_A_step 89 = .ok (.invokevirtual 67, 3) := by decide +kernel
theorem d_A_step_92 : decode b_A_step 92 = .ok (.goto 147, 3) := by decide +kernel
theorem d_A_step_95 : decode b_A_step 95 = .ok (.aload_n 0, 1) := by decide +kernel
theorem d_A_step_96 : decode b_A_step 96 = .ok (.aload_n 0, 1) := by decide +kernel
theorem d_A_step_97 : decode b_A_step 97 = .ok (.invokevirtual 56, 3) := by decide +kernel
theorem d_A_step_100 : decode b_A_step 100 = .ok (.aload_n 0, 1) := by decide +kernel
theorem d_A_step_101 : decode b_A_step 101 = .ok (.iconst 0, 1) := by decide +kernel
theorem d_A_step_102 : decode b_A_step 102 = .ok (.invokevirtual 71, 3) := by decide +kernel
theorem d_A_step_105 : decode b_A_step 105 = .ok (.invokevirtual 67, 3) := by decide +kernel
theorem d_A_step_108 : decode b_A_step 108 = .ok (.goto 131, 3) := by decide +kernel
theorem d_A_step_111 : decode b_A_step 111 = .ok (.aload_n 0, 1) := by decide +kernel
theorem d_A_step_112 : decode b_A_step 112 = .ok (.iconst 0, 1) := by decide +kernel
theorem d_A_step_113 : decode b_A_step 113 = .ok (.aload_n 0, 1) := by decide +kernel
theorem d_A_step_114 : decode b_A_step 114 = .ok (.aload_n 0, 1) := by decide +kernel
theorem d_A_step_115 : decode b_A_step 115 = .ok (.invokevirtual 56, 3) := by decide +kernel
theorem d_A_step_118 : decode b_A_step 118 = .ok (.invokevirtual 71, 3) := by decide +kernel
theorem d_A_step_121 : decode b_A_step 121 = .ok (.invokevirtual 67, 3) := by decide +kernel
theorem d_A_step_124 : decode b_A_step 124 = .ok (.goto 115, 3) := by decide +kernel
theorem d_A_step_127 : decode b_A_step 127 = .ok (.aload_n 0, 1) := by decide +kernel
theorem d_A_step_128 : decode b_A_step 128 = .ok (.iconst 0, 1) := by decide +kernel
theorem d_A_step_129 : decode b_A_step 129 = .ok (.aload_n 0, 1) := by decide +kernel
theorem d_A_step_130 : decode b_A_step 130 = .ok (.iconst 0, 1) := by decide +kernel
theorem d_A_step_131 : decode b_A_step 131 = .ok (.invokevirtual 71, 3) := by decide +kernel
theorem d_A_step_134 : decode b_A_step 134 = .ok (.aload_n 0, 1) := by decide +kernel
theorem d_A_step_135 : decode b_A_step 135 = .ok (.iconst 1, 1) := by decide +kernel
theorem d_A_step_136 : decode b_A_step 136 = .ok (.invokevirtual 71, 3) := by decide +kernel
theorem d_A_step_139 : decode b_A_step 139 = .ok (.iadd, 1) := by decide +kernel
theorem d_A_step_140 : decode b_A_step 140 = .ok (.invokevirtual 67, 3) := by decide +kernel
theorem d_A_step_143 : decode b_A_step 143 = .ok (.goto 96, 3) := by decide +kernel
theorem d_A_step_146 : decode b_A_step 146 = .ok (.aload_n 0, 1) := by decide +kernel
theorem d_A_step_147 : decode b_A_step 147 = .ok (.iconst 0, 1) := by decide +kernel
theorem d_A_step_148 : decode b_A_step 148 = .ok (.aload_n 0, 1) := by decide +kernel
theorem d_A_step_149 : decode b_A_step 149 = .ok (.getfield 40, 3) := by decide +kernel
theorem d_A_step_152 : decode b_A_step 152 = .ok (.ifCond .ne 10, 3) := by decide +kernel
theorem d_A_step_155 : decode b_A_step 155 = .ok (.aload_n 0, 1) := by decide +kernel
theorem d_A_step_156 : decode b_A_step 156 = .ok (.getfield 15, 3) := by decide +kernel
theorem d_A_step_159 : decode b_A_step 159 = .ok (.goto 8, 3) := by decide +kernel
theorem d_A_step_162 : decode b_A_step 162 = .ok (.aload_n 0, 1) := by decide +kernel
theorem d_A_step_163 : decode b_A_step 163 = .ok (.iconst 0, 1) := by decide +kernel
theorem d_A_step_164 : decode b_A_step 164 = .ok (.invokevirtual 71, 3) := by decide +kernel
theorem d_A_step_167 : decode b_A_step 167 = .ok (.invokevirtual 67, 3) := by decide +kernel
theorem d_A_step_170 : decode b_A_step 170 = .ok (.goto 69, 3) := by decide +kernel
theorem d_A_step_173 : decode b_A_step 173 = .ok (.aload_n 0, 1) := by decide +kernel
theorem d_A_step_174 : decode b_A_step 174 = .ok (.aload_n 0, 1) := by decide +kernel
theorem d_A_step_175 : decode b_A_step 175 = .ok (.iconst 0, 1) := by decide +kernel
theorem d_A_step_176 : decode b_A_step 176 = .ok (.invokevirtual 71, 3) := by decide +kernel
theorem d_A_step_179 : decode b_A_step 179 = .ok (.invokevirtual 74, 3) := by decide +kernel
theorem d_A_step_182 : decode b_A_step 182 = .ok (.goto 57, 3) := by decide +kernel
theorem d_A_step_185 : decode b_A_step 185 = .ok (.aload_n 0, 1) := by decide +kernel
theorem d_A_step_186 : decode b_A_step 186 = .ok (.iconst 0, 1) := by decide +kernel
theorem d_A_step_187 : decode b_A_step 187 = .ok (.invokevirtual 71, 3) := by decide +kernel
theorem d_A_step_190 : decode b_A_step 190 = .ok (.ifCond .eq 7, 3) := by decide +kernel
theorem d_A_step_193 : decode b_A_step 193 = .ok (.iconst 1, 1) := by decide +kernel
theorem d_A_step_194 : decode b_A_step 194 = .ok (.goto 4, 3) := by decide +kernel
theorem d_A_step_197 : decode b_A_step 197 = .ok (.iconst 0, 1) := by decide +kernel
theorem d_A_step_198 : decode b_A_step 198 = .ok (.istore_n 1, 1) := by decide +kernel
theorem d_A_step_199 : decode b_A_step 199 = .ok (.aload_n 0, 1) := by decide +kernel
theorem d_A_step_200 : decode b_A_step 200 = .ok (.iconst 1, 1) := by decide +kernel
theorem d_A_step_201 : decode b_A_step 201 = .ok (.invokevirtual 71, 3) := by decide +kernel
theorem d_A_step_204 : decode b_A_step 204 = .ok (.istore_n 2, 1) := by decide +kernel
theorem d_A_step_205 : decode b_A_step 205 = .ok (.iload_n 1, 1) := by decide +kernel
theorem d_A_step_206 : decode b_A_step 206 = .ok (.ifCond .eq 33, 3) := by decide +kernel
theorem d_A_step_209 : decode b_A_step 209 = .ok (.aload_n 0, 1) := by decide +kernel
theorem d_A_step_210 : decode b_A_step 210 = .ok (.iconst 0, 1) := by decide +kernel
theorem d_A_step_211 : decode b_A_step 211 = .ok (.iload_n 2, 1) := by decide +kernel
theorem d_A_step_212 : decode b_A_step 212 = .ok (.invokevirtual 67, 3) := by decide +kernel
theorem d_A_step_215 : decode b_A_step 215 = .ok (.goto 24, 3) := by decide +kernel
theorem d_A_step_218 : decode b_A_step 218 = .ok (.aload_n 0, 1) := by decide +kernel
theorem d_A_step_219 : decode b_A_step 219 = .ok (.iconst 0, 1) := by decide +kernel
theorem d_A_step_220 : decode b_A_step 220 = .ok (.invokevirtual 71, 3) := by decide +kernel
theorem d_A_step_223 : decode b_A_step 223 = .ok (.istore_n 3, 1) := by decide +kernel
theorem d_A_step_224 : decode b_A_step 224 = .ok (.aload_n 0, 1) := by decide +kernel
theorem d_A_step_225 : decode b_A_step 225 = .ok (.iconst 0, 1) := by decide +kernel
theorem d_A_step_226 : decode b_A_step 226 = .ok (.iload_n 3, 1) := by decide +kernel
theorem d_A_step_227 : decode b_A_step 227 = .ok (.invokevirtual 67, 3) := by decide +kernel
theorem d_A_step_230 : decode b_A_step 230 = .ok (.aload_n 0, 1) := by decide +kernel
theorem d_A_step_231 : decode b_A_step 231 = .ok (.iconst 1, 1) := by decide +kernel
theorem d_A_step_232 : decode b_A_step 232 = .ok (.iload_n 3, 1) := by decide +kernel
theorem d_A_step_233 : decode b_A_step 233 = .ok (.invokevirtual 67, 3) := by decide +kernel
theorem d_A_step_236 : decode b_A_step 236 = .ok (.goto 3, 3) := by decide +kernel
theorem d_A_step_239 : decode b_A_step 239 = .ok (.aload_n 0, 1) := by decide +kernel
theorem d_A_step_240 : decode b_A_step 240 = .ok (.dup, 1) := by decide +kernel
theorem d_A_step_241 : decode b_A_step 241 = .ok (.getfield 40, 3) := by decide +kernel
theorem d_A_step_244 : decode b_A_step 244 = .ok (.iconst 1, 1) := by decide +kernel
theorem d_A_step_245 : decode b_A_step 245 = .ok (.iadd, 1) := by decide +kernel
theorem d_A_step_246 : decode b_A_step 246 = .ok (.putfield 40, 3) := by decide +kernel
theorem d_A_step_249 : decode b_A_step 249 = .ok (.return_, 1) := by decide +kernel
theorem d_A_turn_0 : decode b_A_turn 0 = .ok (.aload_n 0, 1) := by decide +kernel
theorem d_A_turn_1 : decode b_A_turn 1 = .ok (.getfield 40, 3) := by decide +kernel
theorem d_A_turn_4 : decode b_A_turn 4 = .ok (.iconst 1, 1) := by decide +kernel
theorem d_A_turn_5 : decode b_A_turn 5 = .ok (.iand, 1) := by decide +kernel
theorem d_A_turn_6 : decode b_A_turn 6 = .ok (.ireturn, 1) := by decide +kernel
theorem d_A_hasValue_0 : decode b_A_hasValue 0 = .ok (.aload_n 0, 1) := by decide +kernel
theorem d_A_hasValue_1 : decode b_A_hasValue 1 = .ok (.getfield 23, 3) := by decide +kernel
theorem d_A_hasValue_4 : decode b_A_hasValue 4 = .ok (.iload_n 1, 1) := by decide +kernel
theorem d_A_hasValue_5 : decode b_A_hasValue 5 = .ok (.aaload, 1) := by decide +kernel
theorem d_A_hasValue_6 : decode b_A_hasValue 6 = .ok (.astore_n 2, 1) := by decide +kernel
theorem d_A_hasValue_7 : decode b_A_hasValue 7 = .ok (.aload_n 2, 1) := by decide +kernel
theorem d_A_hasValue_8 : decode b_A_hasValue 8 = .ok (.ifnull 14, 3) := by decide +kernel
theorem d_A_hasValue_11 : decode b_A_hasValue 11 = .ok (.aload_n 2, 1) := by decide +kernel
theorem d_A_hasValue_12 : decode b_A_hasValue 12 = .ok (.invokevirtual 78, 3) := by decide +kernel
theorem d_A_hasValue_15 : decode b_A_hasValue 15 = .ok (.ifCond .le 7, 3) := by decide +kernel
theorem d_A_hasValue_18 : decode b_A_hasValue 18 = .ok (.iconst 1, 1) := by decide +kernel
theorem d_A_hasValue_19 : decode b_A_hasValue 19 = .ok (.goto 4, 3) := by decide +kernel
theorem d_A_hasValue_22 : decode b_A_hasValue 22 = .ok (.iconst 0, 1) := by decide +kernel
theorem d_A_hasValue_23 : decode b_A_hasValue 23 = .ok (.ireturn, 1) := by decide +kernel
theorem d_A_isZero_0 : decode b_A_isZero 0 = .ok (.aload_n 0, 1) := by decide +kernel
theorem d_A_isZero_1 : decode b_A_isZero 1 = .ok (.getfield 23, 3) := by decide +kernel
theorem d_A_isZero_4 : decode b_A_isZero 4 = .ok (.iload_n 1, 1) := by decide +kernel
theorem d_A_isZero_5 : decode b_A_isZero 5 = .ok (.aaload, 1) := by decide +kernel
theorem d_A_isZero_6 : decode b_A_isZero 6 = .ok (.astore_n 2, 1) := by decide +kernel
theorem d_A_isZero_7 : decode b_A_isZero 7 = .ok (.aload_n 2, 1) := by decide +kernel
theorem d_A_isZero_8 : decode b_A_isZero 8 = .ok (.ifnull 15, 3) := by decide +kernel
theorem d_A_isZero_11 : decode b_A_isZero 11 = .ok (.aload_n 2, 1) := by decide +kernel
theorem d_A_isZero_12 : decode b_A_isZero 12 = .ok (.iconst 0, 1) := by decide +kernel
theorem d_A_isZero_13 : decode b_A_isZero 13 = .ok (.invokevirtual 81, 3) := by decide +kernel
theorem d_A_isZero_16 : decode b_A_isZero 16 = .ok (.ifCond .ne 7, 3) := by decide +kernel
theorem d_A_isZero_19 : decode b_A_isZero 19 = .ok (.iconst 1, 1) := by decide +kernel
theorem d_A_isZero_20 : decode b_A_isZero 20 = .ok (.goto 4, 3) := by decide +kernel
theorem d_A_isZero_23 : decode b_A_isZero 23 = .ok (.iconst 0, 1) := by decide +kernel
theorem d_A_isZero_24 : decode b_A_isZero 24 = .ok (.ireturn, 1) := by decide +kernel
theorem d_A_hasRoom_0 : decode b_A_hasRoom 0 = .ok (.aload_n 0, 1) := by decide +kernel
theorem d_A_hasRoom_1 : decode b_A_hasRoom 1 = .ok (.getfield 27, 3) := by decide +kernel
theorem d_A_hasRoom_4 : decode b_A_hasRoom 4 = .ok (.iload_n 1, 1) := by decide +kernel
theorem d_A_hasRoom_5 : decode b_A_hasRoom 5 = .ok (.aaload, 1) := by decide +kernel
theorem d_A_hasRoom_6 : decode b_A_hasRoom 6 = .ok (.astore_n 2, 1) := by decide +kernel
theorem d_A_hasRoom_7 : decode b_A_hasRoom 7 = .ok (.aload_n 2, 1) := by decide +kernel
theorem d_A_hasRoom_8 : decode b_A_hasRoom 8 = .ok (.ifnull 10, 3) := by decide +kernel
theorem d_A_hasRoom_11 : decode b_A_hasRoom 11 = .ok (.aload_n 2, 1) := by decide +kernel
theorem d_A_hasRoom_12 : decode b_A_hasRoom 12 = .ok (.invokevirtual 84, 3) := by decide +kernel
theorem d_A_hasRoom_15 : decode b_A_hasRoom 15 = .ok (.ifCond .ne 7, 3) := by decide +kernel
theorem d_A_hasRoom_18 : decode b_A_hasRoom 18 = .ok (.iconst 1, 1) := by decide +kernel
theorem d_A_hasRoom_19 : decode b_A_hasRoom 19 = .ok (.goto 4, 3) := by decide +kernel
theorem d_A_hasRoom_22 : decode b_A_hasRoom 22 = .ok (.iconst 0, 1) := by decide +kernel
theorem d_A_hasRoom_23 : decode b_A_hasRoom 23 = .ok (.ireturn, 1) := by decide +kernel
theorem d_A_take_0 : decode b_A_take 0 = .ok (.aload_n 0, 1) := by decide +kernel
theorem d_A_take_1 : decode b_A_take 1 = .ok (.getfield 23, 3) := by decide +kernel
theorem d_A_take_4 : decode b_A_take 4 = .ok (.iload_n 1, 1) := by decide +kernel
theorem d_A_take_5 : decode b_A_take 5 = .ok (.aaload, 1) := by decide +kernel
theorem d_A_take_6 : decode b_A_take 6 = .ok (.astore_n 2, 1) := by decide +kernel
theorem d_A_take_7 : decode b_A_take 7 = .ok (.aload_n 2, 1) := by decide +kernel
theorem d_A_take_8 : decode b_A_take 8 = .ok (.ifnonnull 7, 3) := by decide +kernel
theorem d_A_take_11 : decode b_A_take 11 = .ok (.iconst 0, 1) := by decide +kernel
theorem d_A_take_12 : decode b_A_take 12 = .ok (.goto 7, 3) := by decide +kernel
theorem d_A_take_15 : decode b_A_take 15 = .ok (.aload_n 2, 1) := by decide +kernel
theorem d_A_take_16 : decode b_A_take 16 = .ok (.invokevirtual 88, 3) := by decide +kernel
theorem d_A_take_19 : decode b_A_take 19 = .ok (.ireturn, 1) := by decide +kernel
theorem d_A_give_0 : decode b_A_give 0 = .ok (.aload_n 0, 1) := by decide +kernel
theorem d_A_give_1 : decode b_A_give 1 = .ok (.getfield 27, 3) := by decide +kernel
theorem d_A_give_4 : decode b_A_give 4 = .ok (.iload_n 1, 1) := by decide +kernel
theorem d_A_give_5 : decode b_A_give 5 = .ok (.aaload, 1) := by decide +kernel
theorem d_A_give_6 : decode b_A_give 6 = .ok (.astore_n 3, 1) := by decide +kernel
theorem d_A_give_7 : decode b_A_give 7 = .ok (.aload_n 3, 1) := by decide +kernel
theorem d_A_give_8 : decode b_A_give 8 = .ok (.ifnull 8, 3) := by decide +kernel
theorem d_A_give_11 : decode b_A_give 11 = .ok (.aload_n 3, 1) := by decide +kernel
theorem d_A_give_12 : decode b_A_give 12 = .ok (.iload_n 2, 1) := by decide +kernel
theorem d_A_give_13 : decode b_A_give 13 = .ok (.invokevirtual 90, 3) := by decide +kernel
theorem d_A_give_16 : decode b_A_give 16 = .ok (.return_, 1) := by decide +kernel
theorem d_A_keep_0 : decode b_A_keep 0 = .ok (.aload_n 0, 1) := by decide +kernel
theorem d_A_keep_1 : decode b_A_keep 1 = .ok (.getfield 40, 3) := by decide +kernel
theorem d_A_keep_4 : decode b_A_keep 4 = .ok (.aload_n 0, 1) := by decide +kernel
theorem d_A_keep_5 : decode b_A_keep 5 = .ok (.getfield 34, 3) := by decide +kernel
theorem d_A_keep_8 : decode b_A_keep 8 = .ok (.arraylength, 1) := by decide +kernel
theorem d_A_keep_9 : decode b_A_keep 9 = .ok (.if_icmp .ge 13, 3) := by decide +kernel
theorem d_A_keep_12 : decode b_A_keep 12 = .ok (.aload_n 0, 1) := by decide +kernel
theorem d_A_keep_13 : decode b_A_keep 13 = .ok (.getfield 34, 3) := by decide +kernel
theorem d_A_keep_16 : decode b_A_keep 16 = .ok (.aload_n 0, 1) := by decide +kernel
theorem d_A_keep_17 : decode b_A_keep 17 = .ok (.getfield 40, 3) := by decide +kernel
theorem d_A_keep_20 : decode b_A_keep 20 = .ok (.iload_n 1, 1) := by decide +kernel
theorem d_A_keep_21 : decode b_A_keep 21 = .ok (.iastore, 1) := by decide +kernel
theorem d_A_keep_22 : decode b_A_keep 22 = .ok (.return_, 1) := by decide +kernel
theorem d_A_copyFrom_0 : decode b_A_copyFrom 0 = .ok (.aload_n 1, 1) := by decide +kernel
theorem d_A_copyFrom_1 : decode b_A_copyFrom 1 = .ok (.getfield 34, 3) := by decide +kernel
theorem d_A_copyFrom_4 : decode b_A_copyFrom 4 = .ok (.iconst 0, 1) := by decide +kernel
theorem d_A_copyFrom_5 : decode b_A_copyFrom 5 = .ok (.aload_n 0, 1) := by decide +kernel
theorem d_A_copyFrom_6 : decode b_A_copyFrom 6 = .ok (.getfield 34, 3) := by decide +kernel
theorem d_A_copyFrom_9 : decode b_A_copyFrom 9 = .ok (.iconst 0, 1) := by decide +kernel
theorem d_A_copyFrom_10 : decode b_A_copyFrom 10 = .ok (.aload_n 1, 1) := by decide +kernel
theorem d_A_copyFrom_11 : decode b_A_copyFrom 11 = .ok (.getfield 34, 3) := by decide +kernel
theorem d_A_copyFrom_14 : decode b_A_copyFrom 14 = .ok (.arraylength, 1) := by decide +kernel
theorem d_A_copyFrom_15 : decode b_A_copyFrom 15 = .ok (.aload_n 0, 1) := by decide +kernel
theorem d_A_copyFrom_16 : decode b_A_copyFrom 16 = .ok (.getfield 34, 3) := by decide +kernel
theorem d_A_copyFrom_19 : decode b_A_copyFrom 19 = .ok (.arraylength, 1) := by decide +kernel
theorem d_A_copyFrom_20 : decode b_A_copyFrom 20 = .ok (.invokestatic 93, 3) := by decide +kernel
theorem d_A_copyFrom_23 : decode b_A_copyFrom 23 = .ok (.invokestatic 99, 3) := by decide +kernel
theorem d_A_copyFrom_26 : decode b_A_copyFrom 26 = .ok (.aload_n 0, 1) := by decide +kernel
theorem d_A_copyFrom_27 : decode b_A_copyFrom 27 = .ok (.aload_n 1, 1) := by decide +kernel
theorem d_A_copyFrom_28 : decode b_A_copyFrom 28 = .ok (.getfield 37, 3) := by decide +kernel
theorem d_A_copyFrom_31 : decode b_A_copyFrom 31 = .ok (.putfield 37, 3) := by decide +kernel
theorem d_A_copyFrom_34 : decode b_A_copyFrom 34 = .ok (.aload_n 0, 1) := by decide +kernel
theorem d_A_copyFrom_35 : decode b_A_copyFrom 35 = .ok (.aload_n 1, 1) := by decide +kernel
theorem d_A_copyFrom_36 : decode b_A_copyFrom 36 = .ok (.getfield 40, 3) := by decide +kernel
theorem d_A_copyFrom_39 : decode b_A_copyFrom 39 = .ok (.putfield 40, 3) := by decide +kernel
theorem d_A_copyFrom_42 : decode b_A_copyFrom 42 = .ok (.return_, 1) := by decide +kernel
theorem d_C_init_0 : decode b_C_init 0 = .ok (.aload_n 0, 1) := by decide +kernel
theorem d_C_init_1 : decode b_C_init 1 = .ok (.invokespecial 3, 3) := by decide +kernel
theorem d_C_init_4 : decode b_C_init 4 = .ok (.aload_n 0, 1) := by decide +kernel
theorem d_C_init_5 : decode b_C_init 5 = .ok (.iload_n 1, 1) := by decide +kernel
theorem d_C_init_6 : decode b_C_init 6 = .ok (.putfield 9, 3) := by decide +kernel
theorem d_C_init_9 : decode b_C_init 9 = .ok (.aload_n 0, 1) := by decide +kernel
theorem d_C_init_10 : decode b_C_init 10 = .ok (.bipush 8, 2) := by decide +kernel
theorem d_C_init_12 : decode b_C_init 12 = .ok (.newarray .int, 2) := by decide +kernel
theorem d_C_init_14 : decode b_C_init 14 = .ok (.putfield 15, 3) := by decide +kernel
theorem d_C_init_17 : decode b_C_init 17 = .ok (.aload_n 0, 1) := by decide +kernel
theorem d_C_init_18 : decode b_C_init 18 = .ok (.iconst 0, 1) := by decide +kernel
theorem d_C_init_19 : decode b_C_init 19 = .ok (.putfield 19, 3) := by decide +kernel
theorem d_C_init_22 : decode b_C_init 22 = .ok (.aload_n 0, 1) := by decide +kernel
theorem d_C_init_23 : decode b_C_init 23 = .ok (.iconst 0, 1) := by decide +kernel
theorem d_C_init_24 : decode b_C_init 24 = .ok (.putfield 22, 3) := by decide +kernel
theorem d_C_init_27 : decode b_C_init 27 = .ok (.return_, 1) := by decide +kernel
theorem d_C_size_0 : decode b_C_size 0 = .ok (.aload_n 0, 1) := by decide +kernel
theorem d_C_size_1 : decode b_C_size 1 = .ok (.getfield 22, 3) := by decide +kernel
theorem d_C_size_4 : decode b_C_size 4 = .ok (.ireturn, 1) := by decide +kernel
theorem d_C_isFull_0 : decode b_C_isFull 0 = .ok (.aload_n 0, 1) := by decide +kernel
theorem d_C_isFull_1 : decode b_C_isFull 1 = .ok (.getfield 22, 3) := by decide +kernel
theorem d_C_isFull_4 : decode b_C_isFull 4 = .ok (.aload_n 0, 1) := by decide +kernel
theorem d_C_isFull_5 : decode b_C_isFull 5 = .ok (.getfield 9, 3) := by decide +kernel
theorem d_C_isFull_8 : decode b_C_isFull 8 = .ok (.if_icmp .lt 7, 3) := by decide +kernel
theorem d_C_isFull_11 : decode b_C_isFull 11 = .ok (.iconst 1, 1) := by decide +kernel
theorem d_C_isFull_12 : decode b_C_isFull 12 = .ok (.goto 4, 3) := by decide +kernel
theorem d_C_isFull_15 : decode b_C_isFull 15 = .ok (.iconst 0, 1) := by decide +kernel
theorem d_C_isFull_16 : decode b_C_isFull 16 = .ok (.ireturn, 1) := by decide +kernel
theorem d_C_peek_0 : decode b_C_peek 0 = .ok (.aload_n 0, 1) := by decide +kernel
theorem d_C_peek_1 : decode b_C_peek 1 = .ok (.getfield 15, 3) := by decide +kernel
theorem d_C_peek_4 : decode b_C_peek 4 = .ok (.aload_n 0, 1) := by decide +kernel
theorem d_C_peek_5 : decode b_C_peek 5 = .ok (.getfield 19, 3) := by decide +kernel
theorem d_C_peek_8 : decode b_C_peek 8 = .ok (.iload_n 1, 1) := by decide +kernel
theorem d_C_peek_9 : decode b_C_peek 9 = .ok (.iadd, 1) := by decide +kernel
theorem d_C_peek_10 : decode b_C_peek 10 = .ok (.bipush 7, 2) := by decide +kernel
theorem d_C_peek_12 : decode b_C_peek 12 = .ok (.iand, 1) := by decide +kernel
theorem d_C_peek_13 : decode b_C_peek 13 = .ok (.iaload, 1) := by decide +kernel
theorem d_C_peek_14 : decode b_C_peek 14 = .ok (.ireturn, 1) := by decide +kernel
theorem d_C_put_0 : decode b_C_put 0 = .ok (.aload_n 0, 1) := by decide +kernel
theorem d_C_put_1 : decode b_C_put 1 = .ok (.getfield 15, 3) := by decide +kernel
theorem d_C_put_4 : decode b_C_put 4 = .ok (.aload_n 0, 1) := by decide +kernel
theorem d_C_put_5 : decode b_C_put 5 = .ok (.getfield 19, 3) := by decide +kernel
theorem d_C_put_8 : decode b_C_put 8 = .ok (.aload_n 0, 1) := by decide +kernel
theorem d_C_put_9 : decode b_C_put 9 = .ok (.getfield 22, 3) := by decide +kernel
theorem d_C_put_12 : decode b_C_put 12 = .ok (.iadd, 1) := by decide +kernel
theorem d_C_put_13 : decode b_C_put 13 = .ok (.bipush 7, 2) := by decide +kernel
theorem d_C_put_15 : decode b_C_put 15 = .ok (.iand, 1) := by decide +kernel
theorem d_C_put_16 : decode b_C_put 16 = .ok (.iload_n 1, 1) := by decide +kernel
theorem d_C_put_17 : decode b_C_put 17 = .ok (.iastore, 1) := by decide +kernel
theorem d_C_put_18 : decode b_C_put 18 = .ok (.aload_n 0, 1) := by decide +kernel
theorem d_C_put_19 : decode b_C_put 19 = .ok (.dup, 1) := by decide +kernel
theorem d_C_put_20 : decode b_C_put 20 = .ok (.getfield 22, 3) := by decide +kernel
theorem d_C_put_23 : decode b_C_put 23 = .ok (.iconst 1, 1) := by decide +kernel
theorem d_C_put_24 : decode b_C_put 24 = .ok (.iadd, 1) := by decide +kernel
theorem d_C_put_25 : decode b_C_put 25 = .ok (.putfield 22, 3) := by decide +kernel
theorem d_C_put_28 : decode b_C_put 28 = .ok (.return_, 1) := by decide +kernel
theorem d_C_take_0 : decode b_C_take 0 = .ok (.aload_n 0, 1) := by decide +kernel
theorem d_C_take_1 : decode b_C_take 1 = .ok (.getfield 15, 3) := by decide +kernel
theorem d_C_take_4 : decode b_C_take 4 = .ok (.aload_n 0, 1) := by decide +kernel
theorem d_C_take_5 : decode b_C_take 5 = .ok (.getfield 19, 3) := by decide +kernel
theorem d_C_take_8 : decode b_C_take 8 = .ok (.bipush 7, 2) := by decide +kernel
theorem d_C_take_10 : decode b_C_take 10 = .ok (.iand, 1) := by decide +kernel
theorem d_C_take_11 : decode b_C_take 11 = .ok (.iaload, 1) := by decide +kernel
theorem d_C_take_12 : decode b_C_take 12 = .ok (.istore_n 1, 1) := by decide +kernel
theorem d_C_take_13 : decode b_C_take 13 = .ok (.aload_n 0, 1) := by decide +kernel
theorem d_C_take_14 : decode b_C_take 14 = .ok (.aload_n 0, 1) := by decide +kernel
theorem d_C_take_15 : decode b_C_take 15 = .ok (.getfield 19, 3) := by decide +kernel
theorem d_C_take_18 : decode b_C_take 18 = .ok (.iconst 1, 1) := by decide +kernel
theorem d_C_take_19 : decode b_C_take 19 = .ok (.iadd, 1) := by decide +kernel
theorem d_C_take_20 : decode b_C_take 20 = .ok (.bipush 7, 2) := by decide +kernel
theorem d_C_take_22 : decode b_C_take 22 = .ok (.iand, 1) := by decide +kernel
theorem d_C_take_23 : decode b_C_take 23 = .ok (.putfield 19, 3) := by decide +kernel
theorem d_C_take_26 : decode b_C_take 26 = .ok (.aload_n 0, 1) := by decide +kernel
theorem d_C_take_27 : decode b_C_take 27 = .ok (.dup, 1) := by decide +kernel
theorem d_C_take_28 : decode b_C_take 28 = .ok (.getfield 22, 3) := by decide +kernel
theorem d_C_take_31 : decode b_C_take 31 = .ok (.iconst 1, 1) := by decide +kernel
theorem d_C_take_32 : decode b_C_take 32 = .ok (.isub, 1) := by decide +kernel
theorem d_C_take_33 : decode b_C_take 33 = .ok (.putfield 22, 3) := by decide +kernel
theorem d_C_take_36 : decode b_C_take 36 = .ok (.iload_n 1, 1) := by decide +kernel
theorem d_C_take_37 : decode b_C_take 37 = .ok (.ireturn, 1) := by decide +kernel
theorem d_C_copyFrom_0 : decode b_C_copyFrom 0 = .ok (.aload_n 1, 1) := by decide +kernel
theorem d_C_copyFrom_1 : decode b_C_copyFrom 1 = .ok (.getfield 15, 3) := by decide +kernel
theorem d_C_copyFrom_4 : decode b_C_copyFrom 4 = .ok (.iconst 0, 1) := by decide +kernel
theorem d_C_copyFrom_5 : decode b_C_copyFrom 5 = .ok (.aload_n 0, 1) := by decide +kernel
theorem d_C_copyFrom_6 : decode b_C_copyFrom 6 = .ok (.getfield 15, 3) := by decide +kernel
theorem d_C_copyFrom_9 : decode b_C_copyFrom 9 = .ok (.iconst 0, 1) := by decide +kernel
theorem d_C_copyFrom_10 : decode b_C_copyFrom 10 = .ok (.bipush 8, 2) := by decide +kernel
theorem d_C_copyFrom_12 : decode b_C_copyFrom 12 = .ok (.invokestatic 25, 3) := by decide +kernel
theorem d_C_copyFrom_15 : decode b_C_copyFrom 15 = .ok (.aload_n 0, 1) := by decide +kernel
theorem d_C_copyFrom_16 : decode b_C_copyFrom 16 = .ok (.aload_n 1, 1) := by decide +kernel
theorem d_C_copyFrom_17 : decode b_C_copyFrom 17 = .ok (.getfield 19, 3) := by decide +kernel
theorem d_C_copyFrom_20 : decode b_C_copyFrom 20 = .ok (.putfield 19, 3) := by decide +kernel
theorem d_C_copyFrom_23 : decode b_C_copyFrom 23 = .ok (.aload_n 0, 1) := by decide +kernel
theorem d_C_copyFrom_24 : decode b_C_copyFrom 24 = .ok (.aload_n 1, 1) := by decide +kernel
theorem d_C_copyFrom_25 : decode b_C_copyFrom 25 = .ok (.getfield 22, 3) := by decide +kernel
theorem d_C_copyFrom_28 : decode b_C_copyFrom 28 = .ok (.putfield 22, 3) := by decide +kernel
theorem d_C_copyFrom_31 : decode b_C_copyFrom 31 = .ok (.return_, 1) := by decide +kernel
theorem d_Y_init_0 : decode b_Y_init 0 = .ok (.aload_n 0, 1) := by decide +kernel
theorem d_Y_init_1 : decode b_Y_init 1 = .ok (.invokespecial 3, 3) := by decide +kernel
theorem d_Y_init_4 : decode b_Y_init 4 = .ok (.aload_n 0, 1) := by decide +kernel
theorem d_Y_init_5 : decode b_Y_init 5 = .ok (.bipush 10, 2) := by decide +kernel
theorem d_Y_init_7 : decode b_Y_init 7 = .ok (.anewarray 9, 3) := by decide +kernel
theorem d_Y_init_10 : decode b_Y_init 10 = .ok (.putfield 11, 3) := by decide +kernel
theorem d_Y_init_13 : decode b_Y_init 13 = .ok (.aload_n 0, 1) := by decide +kernel
theorem d_Y_init_14 : decode b_Y_init 14 = .ok (.bipush 16, 2) := by decide +kernel
theorem d_Y_init_16 : decode b_Y_init 16 = .ok (.anewarray 17, 3) := by decide +kernel
theorem d_Y_init_19 : decode b_Y_init 19 = .ok (.putfield 19, 3) := by decide +kernel
theorem d_Y_init_22 : decode b_Y_init 22 = .ok (.aload_n 0, 1) := by decide +kernel
theorem d_Y_init_23 : decode b_Y_init 23 = .ok (.bipush 10, 2) := by decide +kernel
theorem d_Y_init_25 : decode b_Y_init 25 = .ok (.newarray .int, 2) := by decide +kernel
theorem d_Y_init_27 : decode b_Y_init 27 = .ok (.putfield 23, 3) := by decide +kernel
theorem d_Y_init_30 : decode b_Y_init 30 = .ok (.aload_n 0, 1) := by decide +kernel
theorem d_Y_init_31 : decode b_Y_init 31 = .ok (.iconst 0, 1) := by decide +kernel
theorem d_Y_init_32 : decode b_Y_init 32 = .ok (.putfield 27, 3) := by decide +kernel
theorem d_Y_init_35 : decode b_Y_init 35 = .ok (.aload_n 0, 1) := by decide +kernel
theorem d_Y_init_36 : decode b_Y_init 36 = .ok (.iconst 0, 1) := by decide +kernel
theorem d_Y_init_37 : decode b_Y_init 37 = .ok (.putfield 31, 3) := by decide +kernel
theorem d_Y_init_40 : decode b_Y_init 40 = .ok (.return_, 1) := by decide +kernel
theorem d_Y_addActor_0 : decode b_Y_addActor 0 = .ok (.iload_n 1, 1) := by decide +kernel
theorem d_Y_addActor_1 : decode b_Y_addActor 1 = .ok (.ifCond .lt 18, 3) := by decide +kernel
theorem d_Y_addActor_4 : decode b_Y_addActor 4 = .ok (.iload_n 1, 1) := by decide +kernel
theorem d_Y_addActor_5 : decode b_Y_addActor 5 = .ok (.bipush 9, 2) := by decide +kernel
theorem d_Y_addActor_7 : decode b_Y_addActor 7 = .ok (.if_icmp .ge 12, 3) := by decide +kernel
theorem d_Y_addActor_10 : decode b_Y_addActor 10 = .ok (.aload_n 0, 1) := by decide +kernel
theorem d_Y_addActor_11 : decode b_Y_addActor 11 = .ok (.getfield 27, 3) := by decide +kernel
theorem d_Y_addActor_14 : decode b_Y_addActor 14 = .ok (.bipush 10, 2) := by decide +kernel
theorem d_Y_addActor_16 : decode b_Y_addActor 16 = .ok (.if_icmp .lt 5, 3) := by decide +kernel
theorem d_Y_addActor_19 : decode b_Y_addActor 19 = .ok (.iconst (-1), 1) := by decide +kernel
theorem d_Y_addActor_20 : decode b_Y_addActor 20 = .ok (.ireturn, 1) := by decide +kernel
theorem d_Y_addActor_21 : decode b_Y_addActor 21 = .ok (.aload_n 0, 1) := by decide +kernel
theorem d_Y_addActor_22 : decode b_Y_addActor 22 = .ok (.getfield 11, 3) := by decide +kernel
theorem d_Y_addActor_25 : decode b_Y_addActor 25 = .ok (.aload_n 0, 1) := by decide +kernel
theorem d_Y_addActor_26 : decode b_Y_addActor 26 = .ok (.getfield 27, 3) := by decide +kernel
theorem d_Y_addActor_29 : decode b_Y_addActor 29 = .ok (.new 9, 3) := by decide +kernel
theorem d_Y_addActor_32 : decode b_Y_addActor 32 = .ok (.dup, 1) := by decide +kernel
theorem d_Y_addActor_33 : decode b_Y_addActor 33 = .ok (.iload_n 1, 1) := by decide +kernel
theorem d_Y_addActor_34 : decode b_Y_addActor 34 = .ok (.iload_n 2, 1) := by decide +kernel
theorem d_Y_addActor_35 : decode b_Y_addActor 35 = .ok (.iload_n 3, 1) := by decide +kernel
theorem d_Y_addActor_36 : decode b_Y_addActor 36 = .ok (.invokespecial 34, 3) := by decide +kernel
theorem d_Y_addActor_39 : decode b_Y_addActor 39 = .ok (.aastore, 1) := by decide +kernel
theorem d_Y_addActor_40 : decode b_Y_addActor 40 = .ok (.aload_n 0, 1) := by decide +kernel
theorem d_Y_addActor_41 : decode b_Y_addActor 41 = .ok (.dup, 1) := by decide +kernel
theorem d_Y_addActor_42 : decode b_Y_addActor 42 = .ok (.getfield 27, 3) := by decide +kernel
theorem d_Y_addActor_45 : decode b_Y_addActor 45 = .ok (.iconst 1, 1) := by decide +kernel
theorem d_Y_addActor_46 : decode b_Y_addActor 46 = .ok (.iadd, 1) := by decide +kernel
theorem d_Y_addActor_47 : decode b_Y_addActor 47 = .ok (.putfield 27, 3) := by decide +kernel
theorem d_Y_addActor_50 : decode b_Y_addActor 50 = .ok (.aload_n 0, 1) := by decide +kernel
theorem d_Y_addActor_51 : decode b_Y_addActor 51 = .ok (.getfield 27, 3) := by decide +kernel
theorem d_Y_addActor_54 : decode b_Y_addActor 54 = .ok (.iconst 1, 1) := by decide +kernel
theorem d_Y_addActor_55 : decode b_Y_addActor 55 = .ok (.isub, 1) := by decide +kernel
theorem d_Y_addActor_56 : decode b_Y_addActor 56 = .ok (.ireturn, 1) := by decide +kernel
theorem d_Y_join_0 : decode b_Y_join 0 = .ok (.aload_n 0, 1) := by decide +kernel
theorem d_Y_join_1 : decode b_Y_join 1 = .ok (.iload_n 1, 1) := by decide +kernel
theorem d_Y_join_2 : decode b_Y_join 2 = .ok (.invokevirtual 37, 3) := by decide +kernel
theorem d_Y_join_5 : decode b_Y_join 5 = .ok (.astore 6, 2) := by decide +kernel
theorem d_Y_join_7 : decode b_Y_join 7 = .ok (.aload_n 0, 1) := by decide +kernel
theorem d_Y_join_8 : decode b_Y_join 8 = .ok (.iload_n 3, 1) := by decide +kernel
theorem d_Y_join_9 : decode b_Y_join 9 = .ok (.invokevirtual 37, 3) := by decide +kernel
theorem d_Y_join_12 : decode b_Y_join 12 = .ok (.astore 7, 2) := by decide +kernel
theorem d_Y_join_14 : decode b_Y_join 14 = .ok (.aload 6, 2) := by decide +kernel
theorem d_Y_join_16 : decode b_Y_join 16 = .ok (.ifnull 17, 3) := by decide +kernel
theorem d_Y_join_19 : decode b_Y_join 19 = .ok (.aload 7, 2) := by decide +kernel
theorem d_Y_join_21 : decode b_Y_join 21 = .ok (.ifnull 12, 3) := by decide +kernel
theorem d_Y_join_24 : decode b_Y_join 24 = .ok (.aload_n 0, 1) := by decide +kernel
theorem d_Y_join_25 : decode b_Y_join 25 = .ok (.getfield 31, 3) := by decide +kernel
theorem d_Y_join_28 : decode b_Y_join 28 = .ok (.bipush 16, 2) := by decide +kernel
theorem d_Y_join_30 : decode b_Y_join 30 = .ok (.if_icmp .lt 5, 3) := by decide +kernel
theorem d_Y_join_33 : decode b_Y_join 33 = .ok (.iconst (-1), 1) := by decide +kernel
theorem d_Y_join_34 : decode b_Y_join 34 = .ok (.ireturn, 1) := by decide +kernel
theorem d_Y_join_35 : decode b_Y_join 35 = .ok (.iload 5, 2) := by decide +kernel
theorem d_Y_join_37 : decode b_Y_join 37 = .ok (.iconst 1, 1) := by decide +kernel
theorem d_Y_join_38 : decode b_Y_join 38 = .ok (.if_icmp .lt 29, 3) := by decide +kernel
theorem d_Y_join_41 : decode b_Y_join 41 = .ok (.iload 5, 2) := by decide +kernel
theorem d_Y_join_43 : decode b_Y_join 43 = .ok (.bipush 8, 2) := by decide +kernel
theorem d_Y_join_45 : decode b_Y_join 45 = .ok (.if_icmp .gt 22, 3) := by decide +kernel
theorem d_Y_join_48 : decode b_Y_join 48 = .ok (.aload 6, 2) := by decide +kernel
theorem d_Y_join_50 : decode b_Y_join 50 = .ok (.iload_n 2, 1) := by decide +kernel
theorem d_Y_join_51 : decode b_Y_join 51 = .ok (.invokevirtual 41, 3) := by decide +kernel
theorem d_Y_join_54 : decode b_Y_join 54 = .ok (.ifCond .eq 13, 3) := by decide +kernel
theorem d_Y_join_57 : decode b_Y_join 57 = .ok (.aload 7, 2) := by decide +kernel
theorem d_Y_join_59 : decode b_Y_join 59 = .ok (.iload 4, 2) := by decide +kernel
theorem d_Y_join_61 : decode b_Y_join 61 = .ok (.invokevirtual 45, 3) := by decide +kernel
theorem d_Y_join_64 : decode b_Y_join 64 = .ok (.ifCond .ne 5, 3) := by decide +kernel
theorem d_Y_join_67 : decode b_Y_join 67 = .ok (.iconst (-1), 1) := by decide +kernel
theorem d_Y_join_68 : decode b_Y_join 68 = .ok (.ireturn, 1) := by decide +kernel
theorem d_Y_join_69 : decode b_Y_join 69 = .ok (.new 17, 3) := by decide +kernel
theorem d_Y_join_72 : decode b_Y_join 72 = .ok (.dup, 1) := by decide +kernel
theorem d_Y_join_73 : decode b_Y_join 73 = .ok (.iload 5, 2) := by decide +kernel
theorem d_Y_join_75 : decode b_Y_join 75 = .ok (.invokespecial 48, 3) := by decide +kernel
theorem d_Y_join_78 : decode b_Y_join 78 = .ok (.astore 8, 2) := by decide +kernel
theorem d_Y_join_80 : decode b_Y_join 80 = .ok (.aload 6, 2) := by decide +kernel
theorem d_Y_join_82 : decode b_Y_join 82 = .ok (.iload_n 2, 1) := by decide +kernel
theorem d_Y_join_83 : decode b_Y_join 83 = .ok (.aload 8, 2) := by decide +kernel
theorem d_Y_join_85 : decode b_Y_join 85 = .ok (.invokevirtual 51, 3) := by decide +kernel
theorem d_Y_join_88 : decode b_Y_join 88 = .ok (.aload 7, 2) := by decide +kernel
theorem d_Y_join_90 : decode b_Y_join 90 = .ok (.iload 4, 2) := by decide +kernel
theorem d_Y_join_92 : decode b_Y_join 92 = .ok (.aload 8, 2) := by decide +kernel
theorem d_Y_join_94 : decode b_Y_join 94 = .ok (.invokevirtual 55, 3) := by decide +kernel
theorem d_Y_join_97 : decode b_Y_join 97 = .ok (.aload_n 0, 1) := by decide +kernel
theorem d_Y_join_98 : decode b_Y_join 98 = .ok (.getfield 19, 3) := by decide +kernel
theorem d_Y_join_101 : decode b_Y_join 101 = .ok (.aload_n 0, 1) := by decide +kernel
theorem d_Y_join_102 : decode b_Y_join 102 = .ok (.getfield 31, 3) := by decide +kernel
theorem d_Y_join_105 : decode b_Y_join 105 = .ok (.aload 8, 2) := by decide +kernel
theorem d_Y_join_107 : decode b_Y_join 107 = .ok (.aastore, 1) := by decide +kernel
theorem d_Y_join_108 : decode b_Y_join 108 = .ok (.aload_n 0, 1) := by decide +kernel
theorem d_Y_join_109 : decode b_Y_join 109 = .ok (.dup, 1) := by decide +kernel
theorem d_Y_join_110 : decode b_Y_join 110 = .ok (.getfield 31, 3) := by decide +kernel
theorem d_Y_join_113 : decode b_Y_join 113 = .ok (.iconst 1, 1) := by decide +kernel
theorem d_Y_join_114 : decode b_Y_join 114 = .ok (.iadd, 1) := by decide +kernel
theorem d_Y_join_115 : decode b_Y_join 115 = .ok (.putfield 31, 3) := by decide +kernel
theorem d_Y_join_118 : decode b_Y_join 118 = .ok (.aload_n 0, 1) := by decide +kernel
theorem d_Y_join_119 : decode b_Y_join 119 = .ok (.getfield 31, 3) := by decide +kernel
theorem d_Y_join_122 : decode b_Y_join 122 = .ok (.iconst 1, 1) := by decide +kernel
theorem d_Y_join_123 : decode b_Y_join 123 = .ok (.isub, 1) := by decide +kernel
theorem d_Y_join_124 : decode b_Y_join 124 = .ok (.ireturn, 1) := by decide +kernel
theorem d_Y_findActor_0 : decode b_Y_findActor 0 = .ok (.iload_n 1, 1) := by decide +kernel
theorem d_Y_findActor_1 : decode b_Y_findActor 1 = .ok (.ifCond .lt 20, 3) := by decide +kernel
theorem d_Y_findActor_4 : decode b_Y_findActor 4 = .ok (.iload_n 1, 1) := by decide +kernel
theorem d_Y_findActor_5 : decode b_Y_findActor 5 = .ok (.aload_n 0, 1) := by decide +kernel
theorem d_Y_findActor_6 : decode b_Y_findActor 6 = .ok (.getfield 27, 3) := by decide +kernel
theorem d_Y_findActor_9 : decode b_Y_findActor 9 = .ok (.if_icmp .ge 12, 3) := by decide +kernel
theorem d_Y_findActor_12 : decode b_Y_findActor 12 = .ok (.aload_n 0, 1) := by decide +kernel
theorem d_Y_findActor_13 : decode b_Y_findActor 13 = .ok (.getfield 11, 3) := by decide +kernel
theorem d_Y_findActor_16 : decode b_Y_findActor 16 = .ok (.iload_n 1, 1) := by decide +kernel
theorem d_Y_findActor_17 : decode b_Y_findActor 17 = .ok (.aaload, 1) := by decide +kernel
theorem d_Y_findActor_18 : decode b_Y_findActor 18 = .ok (.goto 4, 3) := by decide +kernel
theorem d_Y_findActor_21 : decode b_Y_findActor 21 = .ok (.aconst_null, 1) := by decide +kernel
theorem d_Y_findActor_22 : decode b_Y_findActor 22 = .ok (.areturn, 1) := by decide +kernel
theorem d_Y_findKind_0 : decode b_Y_findKind 0 = .ok (.aload_n 0, 1) := by decide +kernel
theorem d_Y_findKind_1 : decode b_Y_findKind 1 = .ok (.iload_n 1, 1) := by decide +kernel
theorem d_Y_findKind_2 : decode b_Y_findKind 2 = .ok (.invokevirtual 37, 3) := by decide +kernel
theorem d_Y_findKind_5 : decode b_Y_findKind 5 = .ok (.astore_n 3, 1) := by decide +kernel
theorem d_Y_findKind_6 : decode b_Y_findKind 6 = .ok (.aload_n 3, 1) := by decide +kernel
theorem d_Y_findKind_7 : decode b_Y_findKind 7 = .ok (.ifnull 15, 3) := by decide +kernel
theorem d_Y_findKind_10 : decode b_Y_findKind 10 = .ok (.aload_n 3, 1) := by decide +kernel
theorem d_Y_findKind_11 : decode b_Y_findKind 11 = .ok (.iload_n 2, 1) := by decide +kernel
theorem d_Y_findKind_12 : decode b_Y_findKind 12 = .ok (.invokevirtual 58, 3) := by decide +kernel
theorem d_Y_findKind_15 : decode b_Y_findKind 15 = .ok (.ifCond .eq 7, 3) := by decide +kernel
theorem d_Y_findKind_18 : decode b_Y_findKind 18 = .ok (.aload_n 3, 1) := by decide +kernel
theorem d_Y_findKind_19 : decode b_Y_findKind 19 = .ok (.goto 4, 3) := by decide +kernel
theorem d_Y_findKind_22 : decode b_Y_findKind 22 = .ok (.aconst_null, 1) := by decide +kernel
theorem d_Y_findKind_23 : decode b_Y_findKind 23 = .ok (.areturn, 1) := by decide +kernel
theorem d_Y_findChannel_0 : decode b_Y_findChannel 0 = .ok (.iload_n 1, 1) := by decide +kernel
theorem d_Y_findChannel_1 : decode b_Y_findChannel 1 = .ok (.ifCond .lt 20, 3) := by decide +kernel
theorem d_Y_findChannel_4 : decode b_Y_findChannel 4 = .ok (.iload_n 1, 1) := by decide +kernel
theorem d_Y_findChannel_5 : decode b_Y_findChannel 5 = .ok (.aload_n 0, 1) := by decide +kernel
theorem d_Y_findChannel_6 : decode b_Y_findChannel 6 = .ok (.getfield 31, 3) := by decide +kernel
theorem d_Y_findChannel_9 : decode b_Y_findChannel 9 = .ok (.if_icmp .ge 12, 3) := by decide +kernel
theorem d_Y_findChannel_12 : decode b_Y_findChannel 12 = .ok (.aload_n 0, 1) := by decide +kernel
theorem d_Y_findChannel_13 : decode b_Y_findChannel 13 = .ok (.getfield 19, 3) := by decide +kernel
theorem d_Y_findChannel_16 : decode b_Y_findChannel 16 = .ok (.iload_n 1, 1) := by decide +kernel
theorem d_Y_findChannel_17 : decode b_Y_findChannel 17 = .ok (.aaload, 1) := by decide +kernel
theorem d_Y_findChannel_18 : decode b_Y_findChannel 18 = .ok (.goto 4, 3) := by decide +kernel
theorem d_Y_findChannel_21 : decode b_Y_findChannel 21 = .ok (.aconst_null, 1) := by decide +kernel
theorem d_Y_findChannel_22 : decode b_Y_findChannel 22 = .ok (.areturn, 1) := by decide +kernel
theorem d_Y_findFull_0 : decode b_Y_findFull 0 = .ok (.iconst 0, 1) := by decide +kernel
theorem d_Y_findFull_1 : decode b_Y_findFull 1 = .ok (.istore_n 2, 1) := by decide +kernel
theorem d_Y_findFull_2 : decode b_Y_findFull 2 = .ok (.iconst 0, 1) := by decide +kernel
theorem d_Y_findFull_3 : decode b_Y_findFull 3 = .ok (.istore_n 3, 1) := by decide +kernel
theorem d_Y_findFull_4 : decode b_Y_findFull 4 = .ok (.iload_n 3, 1) := by decide +kernel
theorem d_Y_findFull_5 : decode b_Y_findFull 5 = .ok (.aload_n 0, 1) := by decide +kernel
theorem d_Y_findFull_6 : decode b_Y_findFull 6 = .ok (.getfield 31, 3) := by decide +kernel
theorem d_Y_findFull_9 : decode b_Y_findFull 9 = .ok (.if_icmp .ge 39, 3) := by decide +kernel
theorem d_Y_findFull_12 : decode b_Y_findFull 12 = .ok (.aload_n 0, 1) := by decide +kernel
theorem d_Y_findFull_13 : decode b_Y_findFull 13 = .ok (.iload_n 3, 1) := by decide +kernel
theorem d_Y_findFull_14 : decode b_Y_findFull 14 = .ok (.invokevirtual 61, 3) := by decide +kernel
theorem d_Y_findFull_17 : decode b_Y_findFull 17 = .ok (.astore 4, 2) := by decide +kernel
theorem d_Y_findFull_19 : decode b_Y_findFull 19 = .ok (.aload 4, 2) := by decide +kernel
theorem d_Y_findFull_21 : decode b_Y_findFull 21 = .ok (.ifnull 21, 3) := by decide +kernel
theorem d_Y_findFull_24 : decode b_Y_findFull 24 = .ok (.aload 4, 2) := by decide +kernel
theorem d_Y_findFull_26 : decode b_Y_findFull 26 = .ok (.invokevirtual 65, 3) := by decide +kernel
theorem d_Y_findFull_29 : decode b_Y_findFull 29 = .ok (.ifCond .eq 13, 3) := by decide +kernel
theorem d_Y_findFull_32 : decode b_Y_findFull 32 = .ok (.iload_n 2, 1) := by decide +kernel
theorem d_Y_findFull_33 : decode b_Y_findFull 33 = .ok (.iload_n 1, 1) := by decide +kernel
theorem d_Y_findFull_34 : decode b_Y_findFull 34 = .ok (.if_icmp .ne 5, 3) := by decide +kernel
theorem d_Y_findFull_37 : decode b_Y_findFull 37 = .ok (.iload_n 3, 1) := by decide +kernel
theorem d_Y_findFull_38 : decode b_Y_findFull 38 = .ok (.ireturn, 1) := by decide +kernel
theorem d_Y_findFull_39 : decode b_Y_findFull 39 = .ok (.iinc 2 1, 3) := by decide +kernel
theorem d_Y_findFull_42 : decode b_Y_findFull 42 = .ok (.iinc 3 1, 3) := by decide +kernel
theorem d_Y_findFull_45 : decode b_Y_findFull 45 = .ok (.goto (-41), 3) := by decide +kernel
theorem d_Y_findFull_48 : decode b_Y_findFull 48 = .ok (.iconst (-1), 1) := by decide +kernel
theorem d_Y_findFull_49 : decode b_Y_findFull 49 = .ok (.ireturn, 1) := by decide +kernel
theorem d_Y_stepBySeed_0 : decode b_Y_stepBySeed 0 = .ok (.lload_n 1, 1) := by decide +kernel
theorem d_Y_stepBySeed_1 : decode b_Y_stepBySeed 1 = .ok (.lstore 4, 2) := by decide +kernel
theorem d_Y_stepBySeed_3 : decode b_Y_stepBySeed 3 = .ok (.iconst 0, 1) := by decide +kernel
theorem d_Y_stepBySeed_4 : decode b_Y_stepBySeed 4 = .ok (.istore 6, 2) := by decide +kernel
theorem d_Y_stepBySeed_6 : decode b_Y_stepBySeed 6 = .ok (.iconst 0, 1) := by decide +kernel
theorem d_Y_stepBySeed_7 : decode b_Y_stepBySeed 7 = .ok (.istore 7, 2) := by decide +kernel
theorem d_Y_stepBySeed_9 : decode b_Y_stepBySeed 9 = .ok (.iload 7, 2) := by decide +kernel
theorem d_Y_stepBySeed_11 : decode b_Y_stepBySeed 11 = .ok (.iload_n 3, 1) := by decide +kernel
theorem d_Y_stepBySeed_12 : decode b_Y_stepBySeed 12 = .ok (.if_icmp .ge 39, 3) := by decide +kernel
theorem d_Y_stepBySeed_15 : decode b_Y_stepBySeed 15 = .ok (.lload 4, 2) := by decide +kernel
theorem d_Y_stepBySeed_17 : decode b_Y_stepBySeed 17 = .ok (.ldc2_w 69, 3) := by decide +kernel
theorem d_Y_stepBySeed_20 : decode b_Y_stepBySeed 20 = .ok (.lmul, 1) := by decide +kernel
theorem d_Y_stepBySeed_21 : decode b_Y_stepBySeed 21 = .ok (.ldc2_w 71, 3) := by decide +kernel
theorem d_Y_stepBySeed_24 : decode b_Y_stepBySeed 24 = .ok (.ladd, 1) := by decide +kernel
theorem d_Y_stepBySeed_25 : decode b_Y_stepBySeed 25 = .ok (.lstore 4, 2) := by decide +kernel
theorem d_Y_stepBySeed_27 : decode b_Y_stepBySeed 27 = .ok (.aload_n 0, 1) := by decide +kernel
theorem d_Y_stepBySeed_28 : decode b_Y_stepBySeed 28 = .ok (.lload 4, 2) := by decide +kernel
theorem d_Y_stepBySeed_30 : decode b_Y_stepBySeed 30 = .ok (.bipush 33, 2) := by decide +kernel
theorem d_Y_stepBySeed_32 : decode b_Y_stepBySeed 32 = .ok (.lushr, 1) := by decide +kernel
theorem d_Y_stepBySeed_33 : decode b_Y_stepBySeed 33 = .ok (.invokevirtual 73, 3) := by decide +kernel
theorem d_Y_stepBySeed_36 : decode b_Y_stepBySeed 36 = .ok (.ifCond .ne 6, 3) := by decide +kernel
theorem d_Y_stepBySeed_39 : decode b_Y_stepBySeed 39 = .ok (.goto 12, 3) := by decide +kernel
theorem d_Y_stepBySeed_42 : decode b_Y_stepBySeed 42 = .ok (.iinc 6 1, 3) := by decide +kernel
theorem d_Y_stepBySeed_45 : decode b_Y_stepBySeed 45 = .ok (.iinc 7 1, 3) := by decide +kernel
theorem d_Y_stepBySeed_48 : decode b_Y_stepBySeed 48 = .ok (.goto (-39), 3) := by decide +kernel
theorem d_Y_stepBySeed_51 : decode b_Y_stepBySeed 51 = .ok (.iload 6, 2) := by decide +kernel
theorem d_Y_stepBySeed_53 : decode b_Y_stepBySeed 53 = .ok (.ireturn, 1) := by decide +kernel
theorem d_Y_stepDrawn_0 : decode b_Y_stepDrawn 0 = .ok (.aload_n 0, 1) := by decide +kernel
theorem d_Y_stepDrawn_1 : decode b_Y_stepDrawn 1 = .ok (.invokevirtual 77, 3) := by decide +kernel
theorem d_Y_stepDrawn_4 : decode b_Y_stepDrawn 4 = .ok (.istore_n 3, 1) := by decide +kernel
theorem d_Y_stepDrawn_5 : decode b_Y_stepDrawn 5 = .ok (.iload_n 3, 1) := by decide +kernel
theorem d_Y_stepDrawn_6 : decode b_Y_stepDrawn 6 = .ok (.ifCond .gt 5, 3) := by decide +kernel
theorem d_Y_stepDrawn_9 : decode b_Y_stepDrawn 9 = .ok (.iconst 0, 1) := by decide +kernel
theorem d_Y_stepDrawn_10 : decode b_Y_stepDrawn 10 = .ok (.ireturn, 1) := by decide +kernel
theorem d_Y_stepDrawn_11 : decode b_Y_stepDrawn 11 = .ok (.lload_n 1, 1) := by decide +kernel
theorem d_Y_stepDrawn_12 : decode b_Y_stepDrawn 12 = .ok (.iload_n 3, 1) := by decide +kernel
theorem d_Y_stepDrawn_13 : decode b_Y_stepDrawn 13 = .ok (.i2l, 1) := by decide +kernel
theorem d_Y_stepDrawn_14 : decode b_Y_stepDrawn 14 = .ok (.lrem, 1) := by decide +kernel
theorem d_Y_stepDrawn_15 : decode b_Y_stepDrawn 15 = .ok (.l2i, 1) := by decide +kernel
theorem d_Y_stepDrawn_16 : decode b_Y_stepDrawn 16 = .ok (.istore 4, 2) := by decide +kernel
theorem d_Y_stepDrawn_18 : decode b_Y_stepDrawn 18 = .ok (.iload 4, 2) := by decide +kernel
theorem d_Y_stepDrawn_20 : decode b_Y_stepDrawn 20 = .ok (.ifCond .lt 10, 3) := by decide +kernel
theorem d_Y_stepDrawn_23 : decode b_Y_stepDrawn 23 = .ok (.iload 4, 2) := by decide +kernel
theorem d_Y_stepDrawn_25 : decode b_Y_stepDrawn 25 = .ok (.bipush 10, 2) := by decide +kernel
theorem d_Y_stepDrawn_27 : decode b_Y_stepDrawn 27 = .ok (.if_icmp .lt 5, 3) := by decide +kernel
theorem d_Y_stepDrawn_30 : decode b_Y_stepDrawn 30 = .ok (.iconst 0, 1) := by decide +kernel
theorem d_Y_stepDrawn_31 : decode b_Y_stepDrawn 31 = .ok (.ireturn, 1) := by decide +kernel
theorem d_Y_stepDrawn_32 : decode b_Y_stepDrawn 32 = .ok (.aload_n 0, 1) := by decide +kernel
theorem d_Y_stepDrawn_33 : decode b_Y_stepDrawn 33 = .ok (.aload_n 0, 1) := by decide +kernel
theorem d_Y_stepDrawn_34 : decode b_Y_stepDrawn 34 = .ok (.getfield 23, 3) := by decide +kernel
theorem d_Y_stepDrawn_37 : decode b_Y_stepDrawn 37 = .ok (.iload 4, 2) := by decide +kernel
theorem d_Y_stepDrawn_39 : decode b_Y_stepDrawn 39 = .ok (.iaload, 1) := by decide +kernel
theorem d_Y_stepDrawn_40 : decode b_Y_stepDrawn 40 = .ok (.invokevirtual 37, 3) := by decide +kernel
theorem d_Y_stepDrawn_43 : decode b_Y_stepDrawn 43 = .ok (.astore 5, 2) := by decide +kernel
theorem d_Y_stepDrawn_45 : decode b_Y_stepDrawn 45 = .ok (.aload 5, 2) := by decide +kernel
theorem d_Y_stepDrawn_47 : decode b_Y_stepDrawn 47 = .ok (.ifnonnull 5, 3) := by decide +kernel
theorem d_Y_stepDrawn_50 : decode b_Y_stepDrawn 50 = .ok (.iconst 0, 1) := by decide +kernel
theorem d_Y_stepDrawn_51 : decode b_Y_stepDrawn 51 = .ok (.ireturn, 1) := by decide +kernel
theorem d_Y_stepDrawn_52 : decode b_Y_stepDrawn 52 = .ok (.aload 5, 2) := by decide +kernel
theorem d_Y_stepDrawn_54 : decode b_Y_stepDrawn 54 = .ok (.invokevirtual 81, 3) := by decide +kernel
theorem d_Y_stepDrawn_57 : decode b_Y_stepDrawn 57 = .ok (.iconst 1, 1) := by decide +kernel
theorem d_Y_stepDrawn_58 : decode b_Y_stepDrawn 58 = .ok (.ireturn, 1) := by decide +kernel
theorem d_Y_listReady_0 : decode b_Y_listReady 0 = .ok (.iconst 0, 1) := by decide +kernel
theorem d_Y_listReady_1 : decode b_Y_listReady 1 = .ok (.istore_n 1, 1) := by decide +kernel
theorem d_Y_listReady_2 : decode b_Y_listReady 2 = .ok (.iconst 0, 1) := by decide +kernel
theorem d_Y_listReady_3 : decode b_Y_listReady 3 = .ok (.istore_n 2, 1) := by decide +kernel
theorem d_Y_listReady_4 : decode b_Y_listReady 4 = .ok (.iload_n 2, 1) := by decide +kernel
theorem d_Y_listReady_5 : decode b_Y_listReady 5 = .ok (.aload_n 0, 1) := by decide +kernel
theorem d_Y_listReady_6 : decode b_Y_listReady 6 = .ok (.getfield 27, 3) := by decide +kernel
theorem d_Y_listReady_9 : decode b_Y_listReady 9 = .ok (.if_icmp .ge 36, 3) := by decide +kernel
theorem d_Y_listReady_12 : decode b_Y_listReady 12 = .ok (.aload_n 0, 1) := by decide +kernel
theorem d_Y_listReady_13 : decode b_Y_listReady 13 = .ok (.iload_n 2, 1) := by decide +kernel
theorem d_Y_listReady_14 : decode b_Y_listReady 14 = .ok (.invokevirtual 37, 3) := by decide +kernel
theorem d_Y_listReady_17 : decode b_Y_listReady 17 = .ok (.astore_n 3, 1) := by decide +kernel
theorem d_Y_listReady_18 : decode b_Y_listReady 18 = .ok (.aload_n 3, 1) := by decide +kernel
theorem d_Y_listReady_19 : decode b_Y_listReady 19 = .ok (.ifnull 20, 3) := by decide +kernel
theorem d_Y_listReady_22 : decode b_Y_listReady 22 = .ok (.aload_n 3, 1) := by decide +kernel
theorem d_Y_listReady_23 : decode b_Y_listReady 23 = .ok (.invokevirtual 84, 3) := by decide +kernel
theorem d_Y_listReady_26 : decode b_Y_listReady 26 = .ok (.ifCond .eq 13, 3) := by decide +kernel
theorem d_Y_listReady_29 : decode b_Y_listReady 29 = .ok (.aload_n 0, 1) := by decide +kernel
theorem d_Y_listReady_30 : decode b_Y_listReady 30 = .ok (.getfield 23, 3) := by decide +kernel
theorem d_Y_listReady_33 : decode b_Y_listReady 33 = .ok (.iload_n 1, 1) := by decide +kernel
theorem d_Y_listReady_34 : decode b_Y_listReady 34 = .ok (.iload_n 2, 1) := by decide +kernel
theorem d_Y_listReady_35 : decode b_Y_listReady 35 = .ok (.iastore, 1) := by decide +kernel
theorem d_Y_listReady_36 : decode b_Y_listReady 36 = .ok (.iinc 1 1, 3) := by decide +kernel
theorem d_Y_listReady_39 : decode b_Y_listReady 39 = .ok (.iinc 2 1, 3) := by decide +kernel
theorem d_Y_listReady_42 : decode b_Y_listReady 42 = .ok (.goto (-38), 3) := by decide +kernel
theorem d_Y_listReady_45 : decode b_Y_listReady 45 = .ok (.iload_n 1, 1) := by decide +kernel
theorem d_Y_listReady_46 : decode b_Y_listReady 46 = .ok (.ireturn, 1) := by decide +kernel
theorem d_Y_settle_0 : decode b_Y_settle 0 = .ok (.iconst 0, 1) := by decide +kernel
theorem d_Y_settle_1 : decode b_Y_settle 1 = .ok (.istore_n 1, 1) := by decide +kernel
theorem d_Y_settle_2 : decode b_Y_settle 2 = .ok (.iload_n 1, 1) := by decide +kernel
theorem d_Y_settle_3 : decode b_Y_settle 3 = .ok (.sipush 1000, 3) := by decide +kernel
theorem d_Y_settle_6 : decode b_Y_settle 6 = .ok (.if_icmp .gt 19, 3) := by decide +kernel
theorem d_Y_settle_9 : decode b_Y_settle 9 = .ok (.aload_n 0, 1) := by decide +kernel
theorem d_Y_settle_10 : decode b_Y_settle 10 = .ok (.invokevirtual 87, 3) := by decide +kernel
theorem d_Y_settle_13 : decode b_Y_settle 13 = .ok (.ifCond .ne 6, 3) := by decide +kernel
theorem d_Y_settle_16 : decode b_Y_settle 16 = .ok (.goto 9, 3) := by decide +kernel
theorem d_Y_settle_19 : decode b_Y_settle 19 = .ok (.iinc 1 1, 3) := by decide +kernel
theorem d_Y_settle_22 : decode b_Y_settle 22 = .ok (.goto (-20), 3) := by decide +kernel
theorem d_Y_settle_25 : decode b_Y_settle 25 = .ok (.return_, 1) := by decide +kernel
theorem d_Y_stepRound_0 : decode b_Y_stepRound 0 = .ok (.iconst 0, 1) := by decide +kernel
theorem d_Y_stepRound_1 : decode b_Y_stepRound 1 = .ok (.istore_n 1, 1) := by decide +kernel
theorem d_Y_stepRound_2 : decode b_Y_stepRound 2 = .ok (.iconst 0, 1) := by decide +kernel
theorem d_Y_stepRound_3 : decode b_Y_stepRound 3 = .ok (.istore_n 2, 1) := by decide +kernel
theorem d_Y_stepRound_4 : decode b_Y_stepRound 4 = .ok (.iload_n 2, 1) := by decide +kernel
theorem d_Y_stepRound_5 : decode b_Y_stepRound 5 = .ok (.aload_n 0, 1) := by decide +kernel
theorem d_Y_stepRound_6 : decode b_Y_stepRound 6 = .ok (.getfield 27, 3) := by decide +kernel
theorem d_Y_stepRound_9 : decode b_Y_stepRound 9 = .ok (.if_icmp .ge 51, 3) := by decide +kernel
theorem d_Y_stepRound_12 : decode b_Y_stepRound 12 = .ok (.aload_n 0, 1) := by decide +kernel
theorem d_Y_stepRound_13 : decode b_Y_stepRound 13 = .ok (.iload_n 2, 1) := by decide +kernel
theorem d_Y_stepRound_14 : decode b_Y_stepRound 14 = .ok (.invokevirtual 37, 3) := by decide +kernel
theorem d_Y_stepRound_17 : decode b_Y_stepRound 17 = .ok (.astore_n 3, 1) := by decide +kernel
theorem d_Y_stepRound_18 : decode b_Y_stepRound 18 = .ok (.iconst 0, 1) := by decide +kernel
theorem d_Y_stepRound_19 : decode b_Y_stepRound 19 = .ok (.istore 4, 2) := by decide +kernel
theorem d_Y_stepRound_21 : decode b_Y_stepRound 21 = .ok (.iload 4, 2) := by decide +kernel
theorem d_Y_stepRound_23 : decode b_Y_stepRound 23 = .ok (.bipush 100, 2) := by decide +kernel
theorem d_Y_stepRound_25 : decode b_Y_stepRound 25 = .ok (.if_icmp .ge 29, 3) := by decide +kernel
theorem d_Y_stepRound_28 : decode b_Y_stepRound 28 = .ok (.aload_n 3, 1) := by decide +kernel
theorem d_Y_stepRound_29 : decode b_Y_stepRound 29 = .ok (.ifnull 25, 3) := by decide +kernel
theorem d_Y_stepRound_32 : decode b_Y_stepRound 32 = .ok (.aload_n 3, 1) := by decide +kernel
theorem d_Y_stepRound_33 : decode b_Y_stepRound 33 = .ok (.invokevirtual 84, 3) := by decide +kernel
theorem d_Y_stepRound_36 : decode b_Y_stepRound 36 = .ok (.ifCond .ne 6, 3) := by decide +kernel
theorem d_Y_stepRound_39 : decode b_Y_stepRound 39 = .ok (.goto 15, 3) := by decide +kernel
theorem d_Y_stepRound_42 : decode b_Y_stepRound 42 = .ok (.aload_n 3, 1) := by decide +kernel
theorem d_Y_stepRound_43 : decode b_Y_stepRound 43 = .ok (.invokevirtual 81, 3) := by decide +kernel
theorem d_Y_stepRound_46 : decode b_Y_stepRound 46 = .ok (.iconst 1, 1) := by decide +kernel
theorem d_Y_stepRound_47 : decode b_Y_stepRound 47 = .ok (.istore_n 1, 1) := by decide +kernel
theorem d_Y_stepRound_48 : decode b_Y_stepRound 48 = .ok (.iinc 4 1, 3) := by decide +kernel
theorem d_Y_stepRound_51 : decode b_Y_stepRound 51 = .ok (.goto (-30), 3) := by decide +kernel
theorem d_Y_stepRound_54 : decode b_Y_stepRound 54 = .ok (.iinc 2 1, 3) := by decide +kernel
theorem d_Y_stepRound_57 : decode b_Y_stepRound 57 = .ok (.goto (-53), 3) := by decide +kernel
theorem d_Y_stepRound_60 : decode b_Y_stepRound 60 = .ok (.iload_n 1, 1) := by decide +kernel
theorem d_Y_stepRound_61 : decode b_Y_stepRound 61 = .ok (.ireturn, 1) := by decide +kernel
theorem d_Y_copyFrom_0 : decode b_Y_copyFrom 0 = .ok (.iconst 0, 1) := by decide +kernel
theorem d_Y_copyFrom_1 : decode b_Y_copyFrom 1 = .ok (.istore_n 2, 1) := by decide +kernel
theorem d_Y_copyFrom_2 : decode b_Y_copyFrom 2 = .ok (.iload_n 2, 1) := by decide +kernel
theorem d_Y_copyFrom_3 : decode b_Y_copyFrom 3 = .ok (.aload_n 0, 1) := by decide +kernel
theorem d_Y_copyFrom_4 : decode b_Y_copyFrom 4 = .ok (.getfield 27, 3) := by decide +kernel
theorem d_Y_copyFrom_7 : decode b_Y_copyFrom 7 = .ok (.if_icmp .ge 37, 3) := by decide +kernel
theorem d_Y_copyFrom_10 : decode b_Y_copyFrom 10 = .ok (.aload_n 0, 1) := by decide +kernel
theorem d_Y_copyFrom_11 : decode b_Y_copyFrom 11 = .ok (.iload_n 2, 1) := by decide +kernel
theorem d_Y_copyFrom_12 : decode b_Y_copyFrom 12 = .ok (.invokevirtual 37, 3) := by decide +kernel
theorem d_Y_copyFrom_15 : decode b_Y_copyFrom 15 = .ok (.astore_n 3, 1) := by decide +kernel
theorem d_Y_copyFrom_16 : decode b_Y_copyFrom 16 = .ok (.aload_n 1, 1) := by decide +kernel
theorem d_Y_copyFrom_17 : decode b_Y_copyFrom 17 = .ok (.iload_n 2, 1) := by decide +kernel
theorem d_Y_copyFrom_18 : decode b_Y_copyFrom 18 = .ok (.invokevirtual 37, 3) := by decide +kernel
theorem d_Y_copyFrom_21 : decode b_Y_copyFrom 21 = .ok (.astore 4, 2) := by decide +kernel
theorem d_Y_copyFrom_23 : decode b_Y_copyFrom 23 = .ok (.aload_n 3, 1) := by decide +kernel
theorem d_Y_copyFrom_24 : decode b_Y_copyFrom 24 = .ok (.ifnull 14, 3) := by decide +kernel
theorem d_Y_copyFrom_27 : decode b_Y_copyFrom 27 = .ok (.aload 4, 2) := by decide +kernel
theorem d_Y_copyFrom_29 : decode b_Y_copyFrom 29 = .ok (.ifnull 9, 3) := by decide +kernel
theorem d_Y_copyFrom_32 : decode b_Y_copyFrom 32 = .ok (.aload_n 3, 1) := by decide +kernel
theorem d_Y_copyFrom_33 : decode b_Y_copyFrom 33 = .ok (.aload 4, 2) := by decide +kernel
theorem d_Y_copyFrom_35 : decode b_Y_copyFrom 35 = .ok (.invokevirtual 90, 3) := by decide +kernel
theorem d_Y_copyFrom_38 : decode b_Y_copyFrom 38 = .ok (.iinc 2 1, 3) := by decide +kernel
theorem d_Y_copyFrom_41 : decode b_Y_copyFrom 41 = .ok (.goto (-39), 3) := by decide +kernel
theorem d_Y_copyFrom_44 : decode b_Y_copyFrom 44 = .ok (.iconst 0, 1) := by decide +kernel
theorem d_Y_copyFrom_45 : decode b_Y_copyFrom 45 = .ok (.istore_n 2, 1) := by decide +kernel
theorem d_Y_copyFrom_46 : decode b_Y_copyFrom 46 = .ok (.iload_n 2, 1) := by decide +kernel
theorem d_Y_copyFrom_47 : decode b_Y_copyFrom 47 = .ok (.aload_n 0, 1) := by decide +kernel
theorem d_Y_copyFrom_48 : decode b_Y_copyFrom 48 = .ok (.getfield 31, 3) := by decide +kernel
theorem d_Y_copyFrom_51 : decode b_Y_copyFrom 51 = .ok (.if_icmp .ge 37, 3) := by decide +kernel
theorem d_Y_copyFrom_54 : decode b_Y_copyFrom 54 = .ok (.aload_n 0, 1) := by decide +kernel
theorem d_Y_copyFrom_55 : decode b_Y_copyFrom 55 = .ok (.iload_n 2, 1) := by decide +kernel
theorem d_Y_copyFrom_56 : decode b_Y_copyFrom 56 = .ok (.invokevirtual 61, 3) := by decide +kernel
theorem d_Y_copyFrom_59 : decode b_Y_copyFrom 59 = .ok (.astore_n 3, 1) := by decide +kernel
theorem d_Y_copyFrom_60 : decode b_Y_copyFrom 60 = .ok (.aload_n 1, 1) := by decide +kernel
theorem d_Y_copyFrom_61 : decode b_Y_copyFrom 61 = .ok (.iload_n 2, 1) := by decide +kernel
theorem d_Y_copyFrom_62 : decode b_Y_copyFrom 62 = .ok (.invokevirtual 61, 3) := by decide +kernel
theorem d_Y_copyFrom_65 : decode b_Y_copyFrom 65 = .ok (.astore 4, 2) := by decide +kernel
theorem d_Y_copyFrom_67 : decode b_Y_copyFrom 67 = .ok (.aload_n 3, 1) := by decide +kernel
theorem d_Y_copyFrom_68 : decode b_Y_copyFrom 68 = .ok (.ifnull 14, 3) := by decide +kernel
theorem d_Y_copyFrom_71 : decode b_Y_copyFrom 71 = .ok (.aload 4, 2) := by decide +kernel
theorem d_Y_copyFrom_73 : decode b_Y_copyFrom 73 = .ok (.ifnull 9, 3) := by decide +kernel
theorem d_Y_copyFrom_76 : decode b_Y_copyFrom 76 = .ok (.aload_n 3, 1) := by decide +kernel
theorem d_Y_copyFrom_77 : decode b_Y_copyFrom 77 = .ok (.aload 4, 2) := by decide +kernel
theorem d_Y_copyFrom_79 : decode b_Y_copyFrom 79 = .ok (.invokevirtual 94, 3) := by decide +kernel
theorem d_Y_copyFrom_82 : decode b_Y_copyFrom 82 = .ok (.iinc 2 1, 3) := by decide +kernel
theorem d_Y_copyFrom_85 : decode b_Y_copyFrom 85 = .ok (.goto (-39), 3) := by decide +kernel
theorem d_Y_copyFrom_88 : decode b_Y_copyFrom 88 = .ok (.return_, 1) := by decide +kernel
end
section
/-! each instruction, by program: M -/
theorem d_M_init_0 : decode b_M_init 0 = .ok (.aload_n 0, 1) := by decide +kernel
theorem d_M_init_1 : decode b_M_init 1 = .ok (.invokespecial 1, 3) := by decide +kernel
theorem d_M_init_4 : decode b_M_init 4 = .ok (.aload_n 0, 1) := by decide +kernel
theorem d_M_init_5 : decode b_M_init 5 = .ok (.bipush 10, 2) := by decide +kernel
theorem d_M_init_7 : decode b_M_init 7 = .ok (.newarray .int, 2) := by decide +kernel
theorem d_M_init_9 : decode b_M_init 9 = .ok (.putfield 7, 3) := by decide +kernel
theorem d_M_init_12 : decode b_M_init 12 = .ok (.aload_n 0, 1) := by decide +kernel
theorem d_M_init_13 : decode b_M_init 13 = .ok (.bipush 10, 2) := by decide +kernel
theorem d_M_init_15 : decode b_M_init 15 = .ok (.newarray .int, 2) := by decide +kernel
theorem d_M_init_17 : decode b_M_init 17 = .ok (.putfield 13, 3) := by decide +kernel
theorem d_M_init_20 : decode b_M_init 20 = .ok (.aload_n 0, 1) := by decide +kernel
theorem d_M_init_21 : decode b_M_init 21 = .ok (.bipush 10, 2) := by decide +kernel
theorem d_M_init_23 : decode b_M_init 23 = .ok (.newarray .int, 2) := by decide +kernel
theorem d_M_init_25 : decode b_M_init 25 = .ok (.putfield 16, 3) := by decide +kernel
theorem d_M_init_28 : decode b_M_init 28 = .ok (.aload_n 0, 1) := by decide +kernel
theorem d_M_init_29 : decode b_M_init 29 = .ok (.bipush 10, 2) := by decide +kernel
theorem d_M_init_31 : decode b_M_init 31 = .ok (.newarray .int, 2) := by decide +kernel
theorem d_M_init_33 : decode b_M_init 33 = .ok (.putfield 19, 3) := by decide +kernel
theorem d_M_init_36 : decode b_M_init 36 = .ok (.aload_n 0, 1) := by decide +kernel
theorem d_M_init_37 : decode b_M_init 37 = .ok (.sipush 200, 3) := by decide +kernel
theorem d_M_init_40 : decode b_M_init 40 = .ok (.newarray .int, 2) := by decide +kernel
theorem d_M_init_42 : decode b_M_init 42 = .ok (.putfield 22, 3) := by decide +kernel
theorem d_M_init_45 : decode b_M_init 45 = .ok (.aload_n 0, 1) := by decide +kernel
theorem d_M_init_46 : decode b_M_init 46 = .ok (.bipush 16, 2) := by decide +kernel
theorem d_M_init_48 : decode b_M_init 48 = .ok (.newarray .int, 2) := by decide +kernel
theorem d_M_init_50 : decode b_M_init 50 = .ok (.putfield 25, 3) := by decide +kernel
theorem d_M_init_53 : decode b_M_init 53 = .ok (.aload_n 0, 1) := by decide +kernel
theorem d_M_init_54 : decode b_M_init 54 = .ok (.bipush 20, 2) := by decide +kernel
theorem d_M_init_56 : decode b_M_init 56 = .ok (.newarray .int, 2) := by decide +kernel
theorem d_M_init_58 : decode b_M_init 58 = .ok (.putfield 28, 3) := by decide +kernel
theorem d_M_init_61 : decode b_M_init 61 = .ok (.aload_n 0, 1) := by decide +kernel
theorem d_M_init_62 : decode b_M_init 62 = .ok (.bipush 20, 2) := by decide +kernel
theorem d_M_init_64 : decode b_M_init 64 = .ok (.newarray .int, 2) := by decide +kernel
theorem d_M_init_66 : decode b_M_init 66 = .ok (.putfield 31, 3) := by decide +kernel
theorem d_M_init_69 : decode b_M_init 69 = .ok (.aload_n 0, 1) := by decide +kernel
theorem d_M_init_70 : decode b_M_init 70 = .ok (.bipush 20, 2) := by decide +kernel
theorem d_M_init_72 : decode b_M_init 72 = .ok (.newarray .int, 2) := by decide +kernel
theorem d_M_init_74 : decode b_M_init 74 = .ok (.putfield 34, 3) := by decide +kernel
theorem d_M_init_77 : decode b_M_init 77 = .ok (.aload_n 0, 1) := by decide +kernel
theorem d_M_init_78 : decode b_M_init 78 = .ok (.bipush 20, 2) := by decide +kernel
theorem d_M_init_80 : decode b_M_init 80 = .ok (.newarray .int, 2) := by decide +kernel
theorem d_M_init_82 : decode b_M_init 82 = .ok (.putfield 37, 3) := by decide +kernel
theorem d_M_init_85 : decode b_M_init 85 = .ok (.aload_n 0, 1) := by decide +kernel
theorem d_M_init_86 : decode b_M_init 86 = .ok (.bipush 20, 2) := by decide +kernel
theorem d_M_init_88 : decode b_M_init 88 = .ok (.newarray .int, 2) := by decide +kernel
theorem d_M_init_90 : decode b_M_init 90 = .ok (.putfield 40, 3) := by decide +kernel
theorem d_M_init_93 : decode b_M_init 93 = .ok (.aload_n 0, 1) := by decide +kernel
theorem d_M_init_94 : decode b_M_init 94 = .ok (.sipush 1200, 3) := by decide +kernel
theorem d_M_init_97 : decode b_M_init 97 = .ok (.newarray .int, 2) := by decide +kernel
theorem d_M_init_99 : decode b_M_init 99 = .ok (.putfield 43, 3) := by decide +kernel
theorem d_M_init_102 : decode b_M_init 102 = .ok (.aload_n 0, 1) := by decide +kernel
theorem d_M_init_103 : decode b_M_init 103 = .ok (.bipush 32, 2) := by decide +kernel
theorem d_M_init_105 : decode b_M_init 105 = .ok (.newarray .int, 2) := by decide +kernel
theorem d_M_init_107 : decode b_M_init 107 = .ok (.putfield 46, 3) := by decide +kernel
theorem d_M_init_110 : decode b_M_init 110 = .ok (.aload_n 0, 1) := by decide +kernel
theorem d_M_init_111 : decode b_M_init 111 = .ok (.sipush 256, 3) := by decide +kernel
theorem d_M_init_114 : decode b_M_init 114 = .ok (.newarray .int, 2) := by decide +kernel
theorem d_M_init_116 : decode b_M_init 116 = .ok (.putfield 49, 3) := by decide +kernel
theorem d_M_init_119 : decode b_M_init 119 = .ok (.iconst 0, 1) := by decide +kernel
theorem d_M_init_120 : decode b_M_init 120 = .ok (.istore_n 1, 1) := by decide +kernel
theorem d_M_init_121 : decode b_M_init 121 = .ok (.iload_n 1, 1) := by decide +kernel
theorem d_M_init_122 : decode b_M_init 122 = .ok (.bipush 20, 2) := by decide +kernel
theorem d_M_init_124 : decode b_M_init 124 = .ok (.if_icmp .ge 23, 3) := by decide +kernel
theorem d_M_init_127 : decode b_M_init 127 = .ok (.aload_n 0, 1) := by decide +kernel
theorem d_M_init_128 : decode b_M_init 128 = .ok (.getfield 28, 3) := by decide +kernel
theorem d_M_init_131 : decode b_M_init 131 = .ok (.iload_n 1, 1) := by decide +kernel
theorem d_M_init_132 : decode b_M_init 132 = .ok (.iconst (-1), 1) := by decide +kernel
theorem d_M_init_133 : decode b_M_init 133 = .ok (.iastore, 1) := by decide +kernel
theorem d_M_init_134 : decode b_M_init 134 = .ok (.aload_n 0, 1) := by decide +kernel
theorem d_M_init_135 : decode b_M_init 135 = .ok (.getfield 31, 3) := by decide +kernel
theorem d_M_init_138 : decode b_M_init 138 = .ok (.iload_n 1, 1) := by decide +kernel
theorem d_M_init_139 : decode b_M_init 139 = .ok (.iconst (-1), 1) := by decide +kernel
theorem d_M_init_140 : decode b_M_init 140 = .ok (.iastore, 1) := by decide +kernel
theorem d_M_init_141 : decode b_M_init 141 = .ok (.iinc 1 1, 3) := by decide +kernel
theorem d_M_init_144 : decode b_M_init 144 = .ok (.goto (-23), 3) := by decide +kernel
theorem d_M_init_147 : decode b_M_init 147 = .ok (.return_, 1) := by decide +kernel
theorem d_M_isActor_0 : decode b_M_isActor 0 = .ok (.iload_n 1, 1) := by decide +kernel
theorem d_M_isActor_1 : decode b_M_isActor 1 = .ok (.ifCond .lt 15, 3) := by decide +kernel
theorem d_M_isActor_4 : decode b_M_isActor 4 = .ok (.iload_n 1, 1) := by decide +kernel
theorem d_M_isActor_5 : decode b_M_isActor 5 = .ok (.aload_n 0, 1) := by decide +kernel
theorem d_M_isActor_6 : decode b_M_isActor 6 = .ok (.getfield 52, 3) := by decide +kernel
theorem d_M_isActor_9 : decode b_M_isActor 9 = .ok (.if_icmp .ge 7, 3) := by decide +kernel
theorem d_M_isActor_12 : decode b_M_isActor 12 = .ok (.iconst 1, 1) := by decide +kernel
theorem d_M_isActor_13 : decode b_M_isActor 13 = .ok (.goto 4, 3) := by decide +kernel
theorem d_M_isActor_16 : decode b_M_isActor 16 = .ok (.iconst 0, 1) := by decide +kernel
theorem d_M_isActor_17 : decode b_M_isActor 17 = .ok (.ireturn, 1) := by decide +kernel
theorem d_M_isSink_0 : decode b_M_isSink 0 = .ok (.aload_n 0, 1) := by decide +kernel
theorem d_M_isSink_1 : decode b_M_isSink 1 = .ok (.iload_n 1, 1) := by decide +kernel
theorem d_M_isSink_2 : decode b_M_isSink 2 = .ok (.invokevirtual 56, 3) := by decide +kernel
theorem d_M_isSink_5 : decode b_M_isSink 5 = .ok (.ifCond .eq 18, 3) := by decide +kernel
theorem d_M_isSink_8 : decode b_M_isSink 8 = .ok (.aload_n 0, 1) := by decide +kernel
theorem d_M_isSink_9 : decode b_M_isSink 9 = .ok (.getfield 7, 3) := by decide +kernel
theorem d_M_isSink_12 : decode b_M_isSink 12 = .ok (.iload_n 1, 1) := by decide +kernel
theorem d_M_isSink_13 : decode b_M_isSink 13 = .ok (.iaload, 1) := by decide +kernel
theorem d_M_isSink_14 : decode b_M_isSink 14 = .ok (.bipush 6, 2) := by decide +kernel
theorem d_M_isSink_16 : decode b_M_isSink 16 = .ok (.if_icmp .ne 7, 3) := by decide +kernel
theorem d_M_isSink_19 : decode b_M_isSink 19 = .ok (.iconst 1, 1) := by decide +kernel
theorem d_M_isSink_20 : decode b_M_isSink 20 = .ok (.goto 4, 3) := by decide +kernel
theorem d_M_isSink_23 : decode b_M_isSink 23 = .ok (.iconst 0, 1) := by decide +kernel
theorem d_M_isSink_24 : decode b_M_isSink 24 = .ok (.ireturn, 1) := by decide +kernel
theorem d_M_isChannel_0 : decode b_M_isChannel 0 = .ok (.iload_n 1, 1) := by decide +kernel
theorem d_M_isChannel_1 : decode b_M_isChannel 1 = .ok (.ifCond .lt 15, 3) := by decide +kernel
theorem d_M_isChannel_4 : decode b_M_isChannel 4 = .ok (.iload_n 1, 1) := by decide +kernel
theorem d_M_isChannel_5 : decode b_M_isChannel 5 = .ok (.aload_n 0, 1) := by decide +kernel
theorem d_M_isChannel_6 : decode b_M_isChannel 6 = .ok (.getfield 60, 3) := by decide +kernel
theorem d_M_isChannel_9 : decode b_M_isChannel 9 = .ok (.if_icmp .ge 7, 3) := by decide +kernel
theorem d_M_isChannel_12 : decode b_M_isChannel 12 = .ok (.iconst 1, 1) := by decide +kernel
theorem d_M_isChannel_13 : decode b_M_isChannel 13 = .ok (.goto 4, 3) := by decide +kernel
theorem d_M_isChannel_16 : decode b_M_isChannel 16 = .ok (.iconst 0, 1) := by decide +kernel
theorem d_M_isChannel_17 : decode b_M_isChannel 17 = .ok (.ireturn, 1) := by decide +kernel
theorem d_M_insOf_0 : decode b_M_insOf 0 = .ok (.iload_n 0, 1) := by decide +kernel
theorem d_M_insOf_1 : decode b_M_insOf 1 = .ok (.ifCond .ne 7, 3) := by decide +kernel
theorem d_M_insOf_4 : decode b_M_insOf 4 = .ok (.iconst 0, 1) := by decide +kernel
theorem d_M_insOf_5 : decode b_M_insOf 5 = .ok (.goto 24, 3) := by decide +kernel
theorem d_M_insOf_8 : decode b_M_insOf 8 = .ok (.iload_n 0, 1) := by decide +kernel
theorem d_M_insOf_9 : decode b_M_insOf 9 = .ok (.iconst 3, 1) := by decide +kernel
theorem d_M_insOf_10 : decode b_M_insOf 10 = .ok (.if_icmp .eq 14, 3) := by decide +kernel
theorem d_M_insOf_13 : decode b_M_insOf 13 = .ok (.iload_n 0, 1) := by decide +kernel
theorem d_M_insOf_14 : decode b_M_insOf 14 = .ok (.iconst 4, 1) := by decide +kernel
theorem d_M_insOf_15 : decode b_M_insOf 15 = .ok (.if_icmp .eq 9, 3) := by decide +kernel
theorem d_M_insOf_18 : decode b_M_insOf 18 = .ok (.iload_n 0, 1) := by decide +kernel
theorem d_M_insOf_19 : decode b_M_insOf 19 = .ok (.bipush 7, 2) := by decide +kernel
theorem d_M_insOf_21 : decode b_M_insOf 21 = .ok (.if_icmp .ne 7, 3) := by decide +kernel
theorem d_M_insOf_24 : decode b_M_insOf 24 = .ok (.iconst 2, 1) := by decide +kernel
theorem d_M_insOf_25 : decode b_M_insOf 25 = .ok (.goto 4, 3) := by decide +kernel
theorem d_M_insOf_28 : decode b_M_insOf 28 = .ok (.iconst 1, 1) := by decide +kernel
theorem d_M_insOf_29 : decode b_M_insOf 29 = .ok (.ireturn, 1) := by decide +kernel
theorem d_M_outsOf_0 : decode b_M_outsOf 0 = .ok (.iload_n 0, 1) := by decide +kernel
theorem d_M_outsOf_1 : decode b_M_outsOf 1 = .ok (.bipush 6, 2) := by decide +kernel
theorem d_M_outsOf_3 : decode b_M_outsOf 3 = .ok (.if_icmp .ne 7, 3) := by decide +kernel
theorem d_M_outsOf_6 : decode b_M_outsOf 6 = .ok (.iconst 0, 1) := by decide +kernel
theorem d_M_outsOf_7 : decode b_M_outsOf 7 = .ok (.goto 19, 3) := by decide +kernel
theorem d_M_outsOf_10 : decode b_M_outsOf 10 = .ok (.iload_n 0, 1) := by decide +kernel
theorem d_M_outsOf_11 : decode b_M_outsOf 11 = .ok (.iconst 2, 1) := by decide +kernel
theorem d_M_outsOf_12 : decode b_M_outsOf 12 = .ok (.if_icmp .eq 9, 3) := by decide +kernel
theorem d_M_outsOf_15 : decode b_M_outsOf 15 = .ok (.iload_n 0, 1) := by decide +kernel
theorem d_M_outsOf_16 : decode b_M_outsOf 16 = .ok (.bipush 8, 2) := by decide +kernel
theorem d_M_outsOf_18 : decode b_M_outsOf 18 = .ok (.if_icmp .ne 7, 3) := by decide +kernel
theorem d_M_outsOf_21 : decode b_M_outsOf 21 = .ok (.iconst 2, 1) := by decide +kernel
theorem d_M_outsOf_22 : decode b_M_outsOf 22 = .ok (.goto 4, 3) := by decide +kernel
theorem d_M_outsOf_25 : decode b_M_outsOf 25 = .ok (.iconst 1, 1) := by decide +kernel
theorem d_M_outsOf_26 : decode b_M_outsOf 26 = .ok (.ireturn, 1) := by decide +kernel
theorem d_M_actor_0 : decode b_M_actor 0 = .ok (.aload_n 0, 1) := by decide +kernel
theorem d_M_actor_1 : decode b_M_actor 1 = .ok (.getfield 52, 3) := by decide +kernel
theorem d_M_actor_4 : decode b_M_actor 4 = .ok (.bipush 10, 2) := by decide +kernel
theorem d_M_actor_6 : decode b_M_actor 6 = .ok (.if_icmp .eq 13, 3) := by decide +kernel
theorem d_M_actor_9 : decode b_M_actor 9 = .ok (.iload_n 1, 1) := by decide +kernel
theorem d_M_actor_10 : decode b_M_actor 10 = .ok (.ifCond .lt 9, 3) := by decide +kernel
theorem d_M_actor_13 : decode b_M_actor 13 = .ok (.iload_n 1, 1) := by decide +kernel
theorem d_M_actor_14 : decode b_M_actor 14 = .ok (.bipush 8, 2) := by decide +kernel
theorem d_M_actor_16 : decode b_M_actor 16 = .ok (.if_icmp .le 5, 3) := by decide +kernel
theorem d_M_actor_19 : decode b_M_actor 19 = .ok (.iconst (-1), 1) := by decide +kernel
theorem d_M_actor_20 : decode b_M_actor 20 = .ok (.ireturn, 1) := by decide +kernel
theorem d_M_actor_21 : decode b_M_actor 21 = .ok (.aload_n 0, 1) := by decide +kernel
theorem d_M_actor_22 : decode b_M_actor 22 = .ok (.getfield 7, 3) := by decide +kernel
theorem d_M_actor_25 : decode b_M_actor 25 = .ok (.aload_n 0, 1) := by decide +kernel
theorem d_M_actor_26 : decode b_M_actor 26 = .ok (.getfield 52, 3) := by decide +kernel
theorem d_M_actor_29 : decode b_M_actor 29 = .ok (.iload_n 1, 1) := by decide +kernel
theorem d_M_actor_30 : decode b_M_actor 30 = .ok (.iastore, 1) := by decide +kernel
theorem d_M_actor_31 : decode b_M_actor 31 = .ok (.aload_n 0, 1) := by decide +kernel
theorem d_M_actor_32 : decode b_M_actor 32 = .ok (.getfield 13, 3) := by decide +kernel
theorem d_M_actor_35 : decode b_M_actor 35 = .ok (.aload_n 0, 1) := by decide +kernel
theorem d_M_actor_36 : decode b_M_actor 36 = .ok (.getfield 52, 3) := by decide +kernel
theorem d_M_actor_39 : decode b_M_actor 39 = .ok (.iload_n 2, 1) := by decide +kernel
theorem d_M_actor_40 : decode b_M_actor 40 = .ok (.iastore, 1) := by decide +kernel
theorem d_M_actor_41 : decode b_M_actor 41 = .ok (.aload_n 0, 1) := by decide +kernel
theorem d_M_actor_42 : decode b_M_actor 42 = .ok (.getfield 16, 3) := by decide +kernel
theorem d_M_actor_45 : decode b_M_actor 45 = .ok (.aload_n 0, 1) := by decide +kernel
theorem d_M_actor_46 : decode b_M_actor 46 = .ok (.getfield 52, 3) := by decide +kernel
theorem d_M_actor_49 : decode b_M_actor 49 = .ok (.iload_n 3, 1) := by decide +kernel
theorem d_M_actor_50 : decode b_M_actor 50 = .ok (.iastore, 1) := by decide +kernel
theorem d_M_actor_51 : decode b_M_actor 51 = .ok (.aload_n 0, 1) := by decide +kernel
theorem d_M_actor_52 : decode b_M_actor 52 = .ok (.dup, 1) := by decide +kernel
theorem d_M_actor_53 : decode b_M_actor 53 = .ok (.getfield 52, 3) := by decide +kernel
theorem d_M_actor_56 : decode b_M_actor 56 = .ok (.iconst 1, 1) := by decide +kernel
theorem d_M_actor_57 : decode b_M_actor 57 = .ok (.iadd, 1) := by decide +kernel
theorem d_M_actor_58 : decode b_M_actor 58 = .ok (.putfield 52, 3) := by decide +kernel
theorem d_M_actor_61 : decode b_M_actor 61 = .ok (.aload_n 0, 1) := by decide +kernel
theorem d_M_actor_62 : decode b_M_actor 62 = .ok (.getfield 52, 3) := by decide +kernel
theorem d_M_actor_65 : decode b_M_actor 65 = .ok (.iconst 1, 1) := by decide +kernel
theorem d_M_actor_66 : decode b_M_actor 66 = .ok (.isub, 1) := by decide +kernel
theorem d_M_actor_67 : decode b_M_actor 67 = .ok (.ireturn, 1) := by decide +kernel
theorem d_M_value_0 : decode b_M_value 0 = .ok (.aload_n 0, 1) := by decide +kernel
theorem d_M_value_1 : decode b_M_value 1 = .ok (.iload_n 1, 1) := by decide +kernel
theorem d_M_value_2 : decode b_M_value 2 = .ok (.invokevirtual 56, 3) := by decide +kernel
theorem d_M_value_5 : decode b_M_value 5 = .ok (.ifCond .eq 23, 3) := by decide +kernel
theorem d_M_value_8 : decode b_M_value 8 = .ok (.aload_n 0, 1) := by decide +kernel
theorem d_M_value_9 : decode b_M_value 9 = .ok (.getfield 7, 3) := by decide +kernel
theorem d_M_value_12 : decode b_M_value 12 = .ok (.iload_n 1, 1) := by decide +kernel
theorem d_M_value_13 : decode b_M_value 13 = .ok (.iaload, 1) := by decide +kernel
theorem d_M_value_14 : decode b_M_value 14 = .ok (.ifCond .ne 14, 3) := by decide +kernel
theorem d_M_value_17 : decode b_M_value 17 = .ok (.aload_n 0, 1) := by decide +kernel
theorem d_M_value_18 : decode b_M_value 18 = .ok (.getfield 19, 3) := by decide +kernel
theorem d_M_value_21 : decode b_M_value 21 = .ok (.iload_n 1, 1) := by decide +kernel
theorem d_M_value_22 : decode b_M_value 22 = .ok (.iaload, 1) := by decide +kernel
theorem d_M_value_23 : decode b_M_value 23 = .ok (.bipush 20, 2) := by decide +kernel
theorem d_M_value_25 : decode b_M_value 25 = .ok (.if_icmp .ne 5, 3) := by decide +kernel
theorem d_M_value_28 : decode b_M_value 28 = .ok (.iconst 0, 1) := by decide +kernel
theorem d_M_value_29 : decode b_M_value 29 = .ok (.ireturn, 1) := by decide +kernel
theorem d_M_value_30 : decode b_M_value 30 = .ok (.aload_n 0, 1) := by decide +kernel
theorem d_M_value_31 : decode b_M_value 31 = .ok (.getfield 22, 3) := by decide +kernel
theorem d_M_value_34 : decode b_M_value 34 = .ok (.bipush 20, 2) := by decide +kernel
theorem d_M_value_36 : decode b_M_value 36 = .ok (.iload_n 1, 1) := by decide +kernel
theorem d_M_value_37 : decode b_M_value 37 = .ok (.imul, 1) := by decide +kernel
theorem d_M_value_38 : decode b_M_value 38 = .ok (.aload_n 0, 1) := by decide +kernel
theorem d_M_value_39 : decode b_M_value 39 = .ok (.getfield 19, 3) := by decide +kernel
theorem d_M_value_42 : decode b_M_value 42 = .ok (.iload_n 1, 1) := by decide +kernel
theorem d_M_value_43 : decode b_M_value 43 = .ok (.iaload, 1) := by decide +kernel
theorem d_M_value_44 : decode b_M_value 44 = .ok (.iadd, 1) := by decide +kernel
theorem d_M_value_45 : decode b_M_value 45 = .ok (.iload_n 2, 1) := by decide +kernel
theorem d_M_value_46 : decode b_M_value 46 = .ok (.iastore, 1) := by decide +kernel
theorem d_M_value_47 : decode b_M_value 47 = .ok (.aload_n 0, 1) := by decide +kernel
theorem d_M_value_48 : decode b_M_value 48 = .ok (.getfield 19, 3) := by decide +kernel
theorem d_M_value_51 : decode b_M_value 51 = .ok (.iload_n 1, 1) := by decide +kernel
theorem d_M_value_52 : decode b_M_value 52 = .ok (.dup2, 1) := by decide +kernel
theorem d_M_value_53 : decode b_M_value 53 = .ok (.iaload, 1) := by decide +kernel
theorem d_M_value_54 : decode b_M_value 54 = .ok (.iconst 1, 1) := by decide +kernel
theorem d_M_value_55 : decode b_M_value 55 = .ok (.iadd, 1) := by decide +kernel
theorem d_M_value_56 : decode b_M_value 56 = .ok (.iastore, 1) := by decide +kernel
theorem d_M_value_57 : decode b_M_value 57 = .ok (.iconst 1, 1) := by decide +kernel
theorem d_M_value_58 : decode b_M_value 58 = .ok (.ireturn, 1) := by decide +kernel
theorem d_M_channel_0 : decode b_M_channel 0 = .ok (.aload_n 0, 1) := by decide +kernel
theorem d_M_channel_1 : decode b_M_channel 1 = .ok (.iload_n 1, 1) := by decide +kernel
theorem d_M_channel_2 : decode b_M_channel 2 = .ok (.invokevirtual 56, 3) := by decide +kernel
theorem d_M_channel_5 : decode b_M_channel 5 = .ok (.ifCond .eq 46, 3) := by decide +kernel
theorem d_M_channel_8 : decode b_M_channel 8 = .ok (.aload_n 0, 1) := by decide +kernel
theorem d_M_channel_9 : decode b_M_channel 9 = .ok (.iload_n 3, 1) := by decide +kernel
theorem d_M_channel_10 : decode b_M_channel 10 = .ok (.invokevirtual 56, 3) := by decide +kernel
theorem d_M_channel_13 : decode b_M_channel 13 = .ok (.ifCond .eq 38, 3) := by decide +kernel
theorem d_M_channel_16 : decode b_M_channel 16 = .ok (.iload_n 2, 1) := by decide +kernel
theorem d_M_channel_17 : decode b_M_channel 17 = .ok (.ifCond .lt 34, 3) := by decide +kernel
theorem d_M_channel_20 : decode b_M_channel 20 = .ok (.iload 4, 2) := by decide +kernel
theorem d_M_channel_22 : decode b_M_channel 22 = .ok (.ifCond .lt 29, 3) := by decide +kernel
theorem d_M_channel_25 : decode b_M_channel 25 = .ok (.iload 5, 2) := by decide +kernel
theorem d_M_channel_27 : decode b_M_channel 27 = .ok (.iconst 1, 1) := by decide +kernel
theorem d_M_channel_28 : decode b_M_channel 28 = .ok (.if_icmp .lt 23, 3) := by decide +kernel
theorem d_M_channel_31 : decode b_M_channel 31 = .ok (.iload 5, 2) := by decide +kernel
theorem d_M_channel_33 : decode b_M_channel 33 = .ok (.bipush 8, 2) := by decide +kernel
theorem d_M_channel_35 : decode b_M_channel 35 = .ok (.if_icmp .gt 16, 3) := by decide +kernel
theorem d_M_channel_38 : decode b_M_channel 38 = .ok (.aload_n 0, 1) := by decide +kernel
theorem d_M_channel_39 : decode b_M_channel 39 = .ok (.getfield 60, 3) := by decide +kernel
theorem d_M_channel_42 : decode b_M_channel 42 = .ok (.bipush 16, 2) := by decide +kernel
theorem d_M_channel_44 : decode b_M_channel 44 = .ok (.if_icmp .ge 7, 3) := by decide +kernel
theorem d_M_channel_47 : decode b_M_channel 47 = .ok (.iconst 1, 1) := by decide +kernel
theorem d_M_channel_48 : decode b_M_channel 48 = .ok (.goto 4, 3) := by decide +kernel
theorem d_M_channel_51 : decode b_M_channel 51 = .ok (.iconst 0, 1) := by decide +kernel
theorem d_M_channel_52 : decode b_M_channel 52 = .ok (.istore 6, 2) := by decide +kernel
theorem d_M_channel_54 : decode b_M_channel 54 = .ok (.iload 6, 2) := by decide +kernel
theorem d_M_channel_56 : decode b_M_channel 56 = .ok (.ifCond .eq 57, 3) := by decide +kernel
theorem d_M_channel_59 : decode b_M_channel 59 = .ok (.iload_n 2, 1) := by decide +kernel
theorem d_M_channel_60 : decode b_M_channel 60 = .ok (.aload_n 0, 1) := by decide +kernel
theorem d_M_channel_61 : decode b_M_channel 61 = .ok (.getfield 7, 3) := by decide +kernel
theorem d_M_channel_64 : decode b_M_channel 64 = .ok (.iload_n 1, 1) := by decide +kernel
theorem d_M_channel_65 : decode b_M_channel 65 = .ok (.iaload, 1) := by decide +kernel
theorem d_M_channel_66 : decode b_M_channel 66 = .ok (.invokestatic 63, 3) := by decide +kernel
theorem d_M_channel_69 : decode b_M_channel 69 = .ok (.if_icmp .ge 44, 3) := by decide +kernel
theorem d_M_channel_72 : decode b_M_channel 72 = .ok (.iload 4, 2) := by decide +kernel
theorem d_M_channel_74 : decode b_M_channel 74 = .ok (.aload_n 0, 1) := by decide +kernel
theorem d_M_channel_75 : decode b_M_channel 75 = .ok (.getfield 7, 3) := by decide +kernel
theorem d_M_channel_78 : decode b_M_channel 78 = .ok (.iload_n 3, 1) := by decide +kernel
theorem d_M_channel_79 : decode b_M_channel 79 = .ok (.iaload, 1) := by decide +kernel
theorem d_M_channel_80 : decode b_M_channel 80 = .ok (.invokestatic 67, 3) := by decide +kernel
theorem d_M_channel_83 : decode b_M_channel 83 = .ok (.if_icmp .ge 30, 3) := by decide +kernel
theorem d_M_channel_86 : decode b_M_channel 86 = .ok (.aload_n 0, 1) := by decide +kernel
theorem d_M_channel_87 : decode b_M_channel 87 = .ok (.getfield 31, 3) := by decide +kernel
theorem d_M_channel_90 : decode b_M_channel 90 = .ok (.iconst 2, 1) := by decide +kernel
theorem d_M_channel_91 : decode b_M_channel 91 = .ok (.iload_n 1, 1) := by decide +kernel
theorem d_M_channel_92 : decode b_M_channel 92 = .ok (.imul, 1) := by decide +kernel
theorem d_M_channel_93 : decode b_M_channel 93 = .ok (.iload_n 2, 1) := by decide +kernel
theorem d_M_channel_94 : decode b_M_channel 94 = .ok (.iadd, 1) := by decide +kernel
theorem d_M_channel_95 : decode b_M_channel 95 = .ok (.iaload, 1) := by decide +kernel
theorem d_M_channel_96 : decode b_M_channel 96 = .ok (.ifCond .ge 17, 3) := by decide +kernel
theorem d_M_channel_99 : decode b_M_channel 99 = .ok (.aload_n 0, 1) := by decide +kernel
theorem d_M_channel_100 : decode b_M_channel 100 = .ok (.getfield 28, 3) := by decide +kernel
theorem d_M_channel_103 : decode b_M_channel 103 = .ok (.iconst 2, 1) := by decide +kernel
theorem d_M_channel_104 : decode b_M_channel 104 = .ok (.iload_n 3, 1) := by decide +kernel
theorem d_M_channel_105 : decode b_M_channel 105 = .ok (.imul, 1) := by decide +kernel
theorem d_M_channel_106 : decode b_M_channel 106 = .ok (.iload 4, 2) := by decide +kernel
theorem d_M_channel_108 : decode b_M_channel 108 = .ok (.iadd, 1) := by decide +kernel
theorem d_M_channel_109 : decode b_M_channel 109 = .ok (.iaload, 1) := by decide +kernel
theorem d_M_channel_110 : decode b_M_channel 110 = .ok (.ifCond .lt 5, 3) := by decide +kernel
theorem d_M_channel_113 : decode b_M_channel 113 = .ok (.iconst (-1), 1) := by decide +kernel
theorem d_M_channel_114 : decode b_M_channel 114 = .ok (.ireturn, 1) := by decide +kernel
theorem d_M_channel_115 : decode b_M_channel 115 = .ok (.aload_n 0, 1) := by decide +kernel
theorem d_M_channel_116 : decode b_M_channel 116 = .ok (.getfield 31, 3) := by decide +kernel
theorem d_M_channel_119 : decode b_M_channel 119 = .ok (.iconst 2, 1) := by decide +kernel
theorem d_M_channel_120 : decode b_M_channel 120 = .ok (.iload_n 1, 1) := by decide +kernel
theorem d_M_channel_121 : decode b_M_channel 121 = .ok (.imul, 1) := by decide +kernel
theorem d_M_channel_122 : decode b_M_channel 122 = .ok (.iload_n 2, 1) := by decide +kernel
theorem d_M_channel_123 : decode b_M_channel 123 = .ok (.iadd, 1) := by decide +kernel
theorem d_M_channel_124 : decode b_M_channel 124 = .ok (.aload_n 0, 1) := by decide +kernel
theorem d_M_channel_125 : decode b_M_channel 125 = .ok (.getfield 60, 3) := by decide +kernel
theorem d_M_channel_128 : decode b_M_channel 128 = .ok (.iastore, 1) := by decide +kernel
theorem d_M_channel_129 : decode b_M_channel 129 = .ok (.aload_n 0, 1) := by decide +kernel
theorem d_M_channel_130 : decode b_M_channel 130 = .ok (.getfield 28, 3) := by decide +kernel
theorem d_M_channel_133 : decode b_M_channel 133 = .ok (.iconst 2, 1) := by decide +kernel
theorem d_M_channel_134 : decode b_M_channel 134 = .ok (.iload_n 3, 1) := by decide +kernel
theorem d_M_channel_135 : decode b_M_channel 135 = .ok (.imul, 1) := by decide +kernel
theorem d_M_channel_136 : decode b_M_channel 136 = .ok (.iload 4, 2) := by decide +kernel
theorem d_M_channel_138 : decode b_M_channel 138 = .ok (.iadd, 1) := by decide +kernel
theorem d_M_channel_139 : decode b_M_channel 139 = .ok (.aload_n 0, 1) := by decide +kernel
theorem d_M_channel_140 : decode b_M_channel 140 = .ok (.getfield 60, 3) := by decide +kernel
theorem d_M_channel_143 : decode b_M_channel 143 = .ok (.iastore, 1) := by decide +kernel
theorem d_M_channel_144 : decode b_M_channel 144 = .ok (.aload_n 0, 1) := by decide +kernel
theorem d_M_channel_145 : decode b_M_channel 145 = .ok (.getfield 25, 3) := by decide +kernel
theorem d_M_channel_148 : decode b_M_channel 148 = .ok (.aload_n 0, 1) := by decide +kernel
theorem d_M_channel_149 : decode b_M_channel 149 = .ok (.getfield 60, 3) := by decide +kernel
theorem d_M_channel_152 : decode b_M_channel 152 = .ok (.iload 5, 2) := by decide +kernel
theorem d_M_channel_154 : decode b_M_channel 154 = .ok (.iastore, 1) := by decide +kernel
theorem d_M_channel_155 : decode b_M_channel 155 = .ok (.aload_n 0, 1) := by decide +kernel
theorem d_M_channel_156 : decode b_M_channel 156 = .ok (.dup, 1) := by decide +kernel
theorem d_M_channel_157 : decode b_M_channel 157 = .ok (.getfield 60, 3) := by decide +kernel
theorem d_M_channel_160 : decode b_M_channel 160 = .ok (.iconst 1, 1) := by decide +kernel
theorem d_M_channel_161 : decode b_M_channel 161 = .ok (.iadd, 1) := by decide +kernel
theorem d_M_channel_162 : decode b_M_channel 162 = .ok (.putfield 60, 3) := by decide +kernel
theorem d_M_channel_165 : decode b_M_channel 165 = .ok (.aload_n 0, 1) := by decide +kernel
theorem d_M_channel_166 : decode b_M_channel 166 = .ok (.getfield 60, 3) := by decide +kernel
theorem d_M_channel_169 : decode b_M_channel 169 = .ok (.iconst 1, 1) := by decide +kernel
theorem d_M_channel_170 : decode b_M_channel 170 = .ok (.isub, 1) := by decide +kernel
theorem d_M_channel_171 : decode b_M_channel 171 = .ok (.ireturn, 1) := by decide +kernel
theorem d_M_hasValue_0 : decode b_M_hasValue 0 = .ok (.aload_n 0, 1) := by decide +kernel
theorem d_M_hasValue_1 : decode b_M_hasValue 1 = .ok (.getfield 28, 3) := by decide +kernel
theorem d_M_hasValue_4 : decode b_M_hasValue 4 = .ok (.iconst 2, 1) := by decide +kernel
theorem d_M_hasValue_5 : decode b_M_hasValue 5 = .ok (.iload_n 2, 1) := by decide +kernel
theorem d_M_hasValue_6 : decode b_M_hasValue 6 = .ok (.imul, 1) := by decide +kernel
theorem d_M_hasValue_7 : decode b_M_hasValue 7 = .ok (.iload_n 3, 1) := by decide +kernel
theorem d_M_hasValue_8 : decode b_M_hasValue 8 = .ok (.iadd, 1) := by decide +kernel
theorem d_M_hasValue_9 : decode b_M_hasValue 9 = .ok (.iaload, 1) := by decide +kernel
theorem d_M_hasValue_10 : decode b_M_hasValue 10 = .ok (.istore 4, 2) := by decide +kernel
theorem d_M_hasValue_12 : decode b_M_hasValue 12 = .ok (.iload 4, 2) := by decide +kernel
theorem d_M_hasValue_14 : decode b_M_hasValue 14 = .ok (.ifCond .lt 22, 3) := by decide +kernel
theorem d_M_hasValue_17 : decode b_M_hasValue 17 = .ok (.aload_n 0, 1) := by decide +kernel
theorem d_M_hasValue_18 : decode b_M_hasValue 18 = .ok (.getfield 46, 3) := by decide +kernel
theorem d_M_hasValue_21 : decode b_M_hasValue 21 = .ok (.bipush 16, 2) := by decide +kernel
theorem d_M_hasValue_23 : decode b_M_hasValue 23 = .ok (.iload_n 1, 1) := by decide +kernel
theorem d_M_hasValue_24 : decode b_M_hasValue 24 = .ok (.imul, 1) := by decide +kernel
theorem d_M_hasValue_25 : decode b_M_hasValue 25 = .ok (.iload 4, 2) := by decide +kernel
theorem d_M_hasValue_27 : decode b_M_hasValue 27 = .ok (.iadd, 1) := by decide +kernel
theorem d_M_hasValue_28 : decode b_M_hasValue 28 = .ok (.iaload, 1) := by decide +kernel
theorem d_M_hasValue_29 : decode b_M_hasValue 29 = .ok (.ifCond .le 7, 3) := by decide +kernel
theorem d_M_hasValue_32 : decode b_M_hasValue 32 = .ok (.iconst 1, 1) := by decide +kernel
theorem d_M_hasValue_33 : decode b_M_hasValue 33 = .ok (.goto 4, 3) := by decide +kernel
theorem d_M_hasValue_36 : decode b_M_hasValue 36 = .ok (.iconst 0, 1) := by decide +kernel
theorem d_M_hasValue_37 : decode b_M_hasValue 37 = .ok (.ireturn, 1) := by decide +kernel
theorem d_M_hasRoom_0 : decode b_M_hasRoom 0 = .ok (.aload_n 0, 1) := by decide +kernel
theorem d_M_hasRoom_1 : decode b_M_hasRoom 1 = .ok (.getfield 31, 3) := by decide +kernel
theorem d_M_hasRoom_4 : decode b_M_hasRoom 4 = .ok (.iconst 2, 1) := by decide +kernel
theorem d_M_hasRoom_5 : decode b_M_hasRoom 5 = .ok (.iload_n 2, 1) := by decide +kernel
theorem d_M_hasRoom_6 : decode b_M_hasRoom 6 = .ok (.imul, 1) := by decide +kernel
theorem d_M_hasRoom_7 : decode b_M_hasRoom 7 = .ok (.iload_n 3, 1) := by decide +kernel
theorem d_M_hasRoom_8 : decode b_M_hasRoom 8 = .ok (.iadd, 1) := by decide +kernel
theorem d_M_hasRoom_9 : decode b_M_hasRoom 9 = .ok (.iaload, 1) := by decide +kernel
theorem d_M_hasRoom_10 : decode b_M_hasRoom 10 = .ok (.istore 4, 2) := by decide +kernel
theorem d_M_hasRoom_12 : decode b_M_hasRoom 12 = .ok (.iload 4, 2) := by decide +kernel
theorem d_M_hasRoom_14 : decode b_M_hasRoom 14 = .ok (.ifCond .lt 25, 3) := by decide +kernel
theorem d_M_hasRoom_17 : decode b_M_hasRoom 17 = .ok (.aload_n 0, 1) := by decide +kernel
theorem d_M_hasRoom_18 : decode b_M_hasRoom 18 = .ok (.getfield 46, 3) := by decide +kernel
theorem d_M_hasRoom_21 : decode b_M_hasRoom 21 = .ok (.bipush 16, 2) := by decide +kernel
theorem d_M_hasRoom_23 : decode b_M_hasRoom 23 = .ok (.iload_n 1, 1) := by decide +kernel
theorem d_M_hasRoom_24 : decode b_M_hasRoom 24 = .ok (.imul, 1) := by decide +kernel
theorem d_M_hasRoom_25 : decode b_M_hasRoom 25 = .ok (.iload 4, 2) := by decide +kernel
theorem d_M_hasRoom_27 : decode b_M_hasRoom 27 = .ok (.iadd, 1) := by decide +kernel
theorem d_M_hasRoom_28 : decode b_M_hasRoom 28 = .ok (.iaload, 1) := by decide +kernel
theorem d_M_hasRoom_29 : decode b_M_hasRoom 29 = .ok (.aload_n 0, 1) := by decide +kernel
theorem d_M_hasRoom_30 : decode b_M_hasRoom 30 = .ok (.getfield 25, 3) := by decide +kernel
theorem d_M_hasRoom_33 : decode b_M_hasRoom 33 = .ok (.iload 4, 2) := by decide +kernel
theorem d_M_hasRoom_35 : decode b_M_hasRoom 35 = .ok (.iaload, 1) := by decide +kernel
theorem d_M_hasRoom_36 : decode b_M_hasRoom 36 = .ok (.if_icmp .ge 7, 3) := by decide +kernel
theorem d_M_hasRoom_39 : decode b_M_hasRoom 39 = .ok (.iconst 1, 1) := by decide +kernel
theorem d_M_hasRoom_40 : decode b_M_hasRoom 40 = .ok (.goto 4, 3) := by decide +kernel
theorem d_M_hasRoom_43 : decode b_M_hasRoom 43 = .ok (.iconst 0, 1) := by decide +kernel
theorem d_M_hasRoom_44 : decode b_M_hasRoom 44 = .ok (.ireturn, 1) := by decide +kernel
theorem d_M_look_0 : decode b_M_look 0 = .ok (.aload_n 0, 1) := by decide +kernel
theorem d_M_look_1 : decode b_M_look 1 = .ok (.getfield 49, 3) := by decide +kernel
theorem d_M_look_4 : decode b_M_look 4 = .ok (.sipush 128, 3) := by decide +kernel
theorem d_M_look_7 : decode b_M_look 7 = .ok (.iload_n 1, 1) := by decide +kernel
theorem d_M_look_8 : decode b_M_look 8 = .ok (.imul, 1) := by decide +kernel
theorem d_M_look_9 : decode b_M_look 9 = .ok (.bipush 8, 2) := by decide +kernel
theorem d_M_look_11 : decode b_M_look 11 = .ok (.aload_n 0, 1) := by decide +kernel
theorem d_M_look_12 : decode b_M_look 12 = .ok (.getfield 28, 3) := by decide +kernel
theorem d_M_look_15 : decode b_M_look 15 = .ok (.iconst 2, 1) := by decide +kernel
theorem d_M_look_16 : decode b_M_look 16 = .ok (.iload_n 2, 1) := by decide +kernel
theorem d_M_look_17 : decode b_M_look 17 = .ok (.imul, 1) := by decide +kernel
theorem d_M_look_18 : decode b_M_look 18 = .ok (.iload_n 3, 1) := by decide +kernel
theorem d_M_look_19 : decode b_M_look 19 = .ok (.iadd, 1) := by decide +kernel
theorem d_M_look_20 : decode b_M_look 20 = .ok (.iaload, 1) := by decide +kernel
theorem d_M_look_21 : decode b_M_look 21 = .ok (.imul, 1) := by decide +kernel
theorem d_M_look_22 : decode b_M_look 22 = .ok (.iadd, 1) := by decide +kernel
theorem d_M_look_23 : decode b_M_look 23 = .ok (.iaload, 1) := by decide +kernel
theorem d_M_look_24 : decode b_M_look 24 = .ok (.ireturn, 1) := by decide +kernel
theorem d_M_take_0 : decode b_M_take 0 = .ok (.aload_n 0, 1) := by decide +kernel
theorem d_M_take_1 : decode b_M_take 1 = .ok (.getfield 28, 3) := by decide +kernel
theorem d_M_take_4 : decode b_M_take 4 = .ok (.iconst 2, 1) := by decide +kernel
theorem d_M_take_5 : decode b_M_take 5 = .ok (.iload_n 2, 1) := by decide +kernel
theorem d_M_take_6 : decode b_M_take 6 = .ok (.imul, 1) := by decide +kernel
theorem d_M_take_7 : decode b_M_take 7 = .ok (.iload_n 3, 1) := by decide +kernel
theorem d_M_take_8 : decode b_M_take 8 = .ok (.iadd, 1) := by decide +kernel
theorem d_M_take_9 : decode b_M_take 9 = .ok (.iaload, 1) := by decide +kernel
theorem d_M_take_10 : decode b_M_take 10 = .ok (.istore 4, 2) := by decide +kernel
theorem d_M_take_12 : decode b_M_take 12 = .ok (.sipush 128, 3) := by decide +kernel
theorem d_M_take_15 : decode b_M_take 15 = .ok (.iload_n 1, 1) := by decide +kernel
theorem d_M_take_16 : decode b_M_take 16 = .ok (.imul, 1) := by decide +kernel
theorem d_M_take_17 : decode b_M_take 17 = .ok (.bipush 8, 2) := by decide +kernel
theorem d_M_take_19 : decode b_M_take 19 = .ok (.iload 4, 2) := by decide +kernel
theorem d_M_take_21 : decode b_M_take 21 = .ok (.imul, 1) := by decide +kernel
theorem d_M_take_22 : decode b_M_take 22 = .ok (.iadd, 1) := by decide +kernel
theorem d_M_take_23 : decode b_M_take 23 = .ok (.istore 5, 2) := by decide +kernel
theorem d_M_take_25 : decode b_M_take 25 = .ok (.aload_n 0, 1) := by decide +kernel
theorem d_M_take_26 : decode b_M_take 26 = .ok (.getfield 49, 3) := by decide +kernel
theorem d_M_take_29 : decode b_M_take 29 = .ok (.iload 5, 2) := by decide +kernel
theorem d_M_take_31 : decode b_M_take 31 = .ok (.iaload, 1) := by decide +kernel
theorem d_M_take_32 : decode b_M_take 32 = .ok (.istore 6, 2) := by decide +kernel
theorem d_M_take_34 : decode b_M_take 34 = .ok (.aload_n 0, 1) := by decide +kernel
theorem d_M_take_35 : decode b_M_take 35 = .ok (.getfield 46, 3) := by decide +kernel
theorem d_M_take_38 : decode b_M_take 38 = .ok (.bipush 16, 2) := by decide +kernel
theorem d_M_take_40 : decode b_M_take 40 = .ok (.iload_n 1, 1) := by decide +kernel
theorem d_M_take_41 : decode b_M_take 41 = .ok (.imul, 1) := by decide +kernel
theorem d_M_take_42 : decode b_M_take 42 = .ok (.iload 4, 2) := by decide +kernel
theorem d_M_take_44 : decode b_M_take 44 = .ok (.iadd, 1) := by decide +kernel
theorem d_M_take_45 : decode b_M_take 45 = .ok (.dup2, 1) := by decide +kernel
theorem d_M_take_46 : decode b_M_take 46 = .ok (.iaload, 1) := by decide +kernel
theorem d_M_take_47 : decode b_M_take 47 = .ok (.iconst 1, 1) := by decide +kernel
theorem d_M_take_48 : decode b_M_take 48 = .ok (.isub, 1) := by decide +kernel
theorem d_M_take_49 : decode b_M_take 49 = .ok (.iastore, 1) := by decide +kernel
theorem d_M_take_50 : decode b_M_take 50 = .ok (.iconst 0, 1) := by decide +kernel
theorem d_M_take_51 : decode b_M_take 51 = .ok (.istore 7, 2) := by decide +kernel
theorem d_M_take_53 : decode b_M_take 53 = .ok (.iload 7, 2) := by decide +kernel
theorem d_M_take_55 : decode b_M_take 55 = .ok (.aload_n 0, 1) := by decide +kernel
theorem d_M_take_56 : decode b_M_take 56 = .ok (.getfield 46, 3) := by decide +kernel
theorem d_M_take_59 : decode b_M_take 59 = .ok (.bipush 16, 2) := by decide +kernel
theorem d_M_take_61 : decode b_M_take 61 = .ok (.iload_n 1, 1) := by decide +kernel
theorem d_M_take_62 : decode b_M_take 62 = .ok (.imul, 1) := by decide +kernel
theorem d_M_take_63 : decode b_M_take 63 = .ok (.iload 4, 2) := by decide +kernel
theorem d_M_take_65 : decode b_M_take 65 = .ok (.iadd, 1) := by decide +kernel
theorem d_M_take_66 : decode b_M_take 66 = .ok (.iaload, 1) := by decide +kernel
theorem d_M_take_67 : decode b_M_take 67 = .ok (.if_icmp .ge 31, 3) := by decide +kernel
theorem d_M_take_70 : decode b_M_take 70 = .ok (.aload_n 0, 1) := by decide +kernel
theorem d_M_take_71 : decode b_M_take 71 = .ok (.getfield 49, 3) := by decide +kernel
theorem d_M_take_74 : decode b_M_take 74 = .ok (.iload 5, 2) := by decide +kernel
theorem d_M_take_76 : decode b_M_take 76 = .ok (.iload 7, 2) := by decide +kernel
theorem d_M_take_78 : decode b_M_take 78 = .ok (.iadd, 1) := by decide +kernel
theorem d_M_take_79 : decode b_M_take 79 = .ok (.aload_n 0, 1) := by decide +kernel
theorem d_M_take_80 : decode b_M_take 80 = .ok (.getfield 49, 3) := by decide +kernel
theorem d_M_take_83 : decode b_M_take 83 = .ok (.iload 5, 2) := by decide +kernel
theorem d_M_take_85 : decode b_M_take 85 = .ok (.iload 7, 2) := by decide +kernel
theorem d_M_take_87 : decode b_M_take 87 = .ok (.iadd, 1) := by decide +kernel
theorem d_M_take_88 : decode b_M_take 88 = .ok (.iconst 1, 1) := by decide +kernel
theorem d_M_take_89 : decode b_M_take 89 = .ok (.iadd, 1) := by decide +kernel
theorem d_M_take_90 : decode b_M_take 90 = .ok (.iaload, 1) := by decide +kernel
theorem d_M_take_91 : decode b_M_take 91 = .ok (.iastore, 1) := by decide +kernel
theorem d_M_take_92 : decode b_M_take 92 = .ok (.iinc 7 1, 3) := by decide +kernel
theorem d_M_take_95 : decode b_M_take 95 = .ok (.goto (-42), 3) := by decide +kernel
theorem d_M_take_98 : decode b_M_take 98 = .ok (.iload 6, 2) := by decide +kernel
theorem d_M_take_100 : decode b_M_take 100 = .ok (.ireturn, 1) := by decide +kernel
theorem d_M_give_0 : decode b_M_give 0 = .ok (.aload_n 0, 1) := by decide +kernel
theorem d_M_give_1 : decode b_M_give 1 = .ok (.getfield 31, 3) := by decide +kernel
theorem d_M_give_4 : decode b_M_give 4 = .ok (.iconst 2, 1) := by decide +kernel
theorem d_M_give_5 : decode b_M_give 5 = .ok (.iload_n 2, 1) := by decide +kernel
theorem d_M_give_6 : decode b_M_give 6 = .ok (.imul, 1) := by decide +kernel
theorem d_M_give_7 : decode b_M_give 7 = .ok (.iload_n 3, 1) := by decide +kernel
theorem d_M_give_8 : decode b_M_give 8 = .ok (.iadd, 1) := by decide +kernel
theorem d_M_give_9 : decode b_M_give 9 = .ok (.iaload, 1) := by decide +kernel
theorem d_M_give_10 : decode b_M_give 10 = .ok (.istore 5, 2) := by decide +kernel
theorem d_M_give_12 : decode b_M_give 12 = .ok (.iload 5, 2) := by decide +kernel
theorem d_M_give_14 : decode b_M_give 14 = .ok (.ifCond .lt 50, 3) := by decide +kernel
theorem d_M_give_17 : decode b_M_give 17 = .ok (.aload_n 0, 1) := by decide +kernel
theorem d_M_give_18 : decode b_M_give 18 = .ok (.getfield 49, 3) := by decide +kernel
theorem d_M_give_21 : decode b_M_give 21 = .ok (.sipush 128, 3) := by decide +kernel
theorem d_M_give_24 : decode b_M_give 24 = .ok (.iload_n 1, 1) := by decide +kernel
theorem d_M_give_25 : decode b_M_give 25 = .ok (.imul, 1) := by decide +kernel
theorem d_M_give_26 : decode b_M_give 26 = .ok (.bipush 8, 2) := by decide +kernel
theorem d_M_give_28 : decode b_M_give 28 = .ok (.iload 5, 2) := by decide +kernel
theorem d_M_give_30 : decode b_M_give 30 = .ok (.imul, 1) := by decide +kernel
theorem d_M_give_31 : decode b_M_give 31 = .ok (.iadd, 1) := by decide +kernel
theorem d_M_give_32 : decode b_M_give 32 = .ok (.aload_n 0, 1) := by decide +kernel
theorem d_M_give_33 : decode b_M_give 33 = .ok (.getfield 46, 3) := by decide +kernel
theorem d_M_give_36 : decode b_M_give 36 = .ok (.bipush 16, 2) := by decide +kernel
theorem d_M_give_38 : decode b_M_give 38 = .ok (.iload_n 1, 1) := by decide +kernel
theorem d_M_give_39 : decode b_M_give 39 = .ok (.imul, 1) := by decide +kernel
theorem d_M_give_40 : decode b_M_give 40 = .ok (.iload 5, 2) := by decide +kernel
theorem d_M_give_42 : decode b_M_give 42 = .ok (.iadd, 1) := by decide +kernel
theorem d_M_give_43 : decode b_M_give 43 = .ok (.iaload, 1) := by decide +kernel
theorem d_M_give_44 : decode b_M_give 44 = .ok (.iadd, 1) := by decide +kernel
theorem d_M_give_45 : decode b_M_give 45 = .ok (.iload 4, 2) := by decide +kernel
theorem d_M_give_47 : decode b_M_give 47 = .ok (.iastore, 1) := by decide +kernel
theorem d_M_give_48 : decode b_M_give 48 = .ok (.aload_n 0, 1) := by decide +kernel
theorem d_M_give_49 : decode b_M_give 49 = .ok (.getfield 46, 3) := by decide +kernel
theorem d_M_give_52 : decode b_M_give 52 = .ok (.bipush 16, 2) := by decide +kernel
theorem d_M_give_54 : decode b_M_give 54 = .ok (.iload_n 1, 1) := by decide +kernel
theorem d_M_give_55 : decode b_M_give 55 = .ok (.imul, 1) := by decide +kernel
theorem d_M_give_56 : decode b_M_give 56 = .ok (.iload 5, 2) := by decide +kernel
theorem d_M_give_58 : decode b_M_give 58 = .ok (.iadd, 1) := by decide +kernel
theorem d_M_give_59 : decode b_M_give 59 = .ok (.dup2, 1) := by decide +kernel
theorem d_M_give_60 : decode b_M_give 60 = .ok (.iaload, 1) := by decide +kernel
theorem d_M_give_61 : decode b_M_give 61 = .ok (.iconst 1, 1) := by decide +kernel
theorem d_M_give_62 : decode b_M_give 62 = .ok (.iadd, 1) := by decide +kernel
theorem d_M_give_63 : decode b_M_give 63 = .ok (.iastore, 1) := by decide +kernel
theorem d_M_give_64 : decode b_M_give 64 = .ok (.return_, 1) := by decide +kernel
theorem d_M_canAct_0 : decode b_M_canAct 0 = .ok (.bipush 10, 2) := by decide +kernel
theorem d_M_canAct_2 : decode b_M_canAct 2 = .ok (.iload_n 1, 1) := by decide +kernel
theorem d_M_canAct_3 : decode b_M_canAct 3 = .ok (.imul, 1) := by decide +kernel
theorem d_M_canAct_4 : decode b_M_canAct 4 = .ok (.iload_n 2, 1) := by decide +kernel
theorem d_M_canAct_5 : decode b_M_canAct 5 = .ok (.iadd, 1) := by decide +kernel
theorem d_M_canAct_6 : decode b_M_canAct 6 = .ok (.istore_n 3, 1) := by decide +kernel
theorem d_M_canAct_7 : decode b_M_canAct 7 = .ok (.aload_n 0, 1) := by decide +kernel
theorem d_M_canAct_8 : decode b_M_canAct 8 = .ok (.getfield 34, 3) := by decide +kernel
theorem d_M_canAct_11 : decode b_M_canAct 11 = .ok (.iload_n 3, 1) := by decide +kernel
theorem d_M_canAct_12 : decode b_M_canAct 12 = .ok (.iaload, 1) := by decide +kernel
theorem d_M_canAct_13 : decode b_M_canAct 13 = .ok (.bipush 100, 2) := by decide +kernel
theorem d_M_canAct_15 : decode b_M_canAct 15 = .ok (.if_icmp .ne 5, 3) := by decide +kernel
theorem d_M_canAct_18 : decode b_M_canAct 18 = .ok (.iconst 0, 1) := by decide +kernel
theorem d_M_canAct_19 : decode b_M_canAct 19 = .ok (.ireturn, 1) := by decide +kernel
theorem d_M_canAct_20 : decode b_M_canAct 20 = .ok (.aload_n 0, 1) := by decide +kernel
theorem d_M_canAct_21 : decode b_M_canAct 21 = .ok (.getfield 7, 3) := by decide +kernel
theorem d_M_canAct_24 : decode b_M_canAct 24 = .ok (.iload_n 2, 1) := by decide +kernel
theorem d_M_canAct_25 : decode b_M_canAct 25 = .ok (.iaload, 1) := by decide +kernel
theorem d_M_canAct_26 : decode b_M_canAct 26 = .ok (.tableswitch 309 0 7 #[46, 77, 103, 134, 165, 201, 236, 263], 46) := by decide +kernel
theorem d_M_canAct_72 : decode b_M_canAct 72 = .ok (.aload_n 0, 1) := by decide +kernel
theorem d_M_canAct_73 : decode b_M_canAct 73 = .ok (.getfield 34, 3) := by decide +kernel
theorem d_M_canAct_76 : decode b_M_canAct 76 = .ok (.iload_n 3, 1) := by decide +kernel
theorem d_M_canAct_77 : decode b_M_canAct 77 = .ok (.iaload, 1) := by decide +kernel
theorem d_M_canAct_78 : decode b_M_canAct 78 = .ok (.aload_n 0, 1) := by decide +kernel
theorem d_M_canAct_79 : decode b_M_canAct 79 = .ok (.getfield 19, 3) := by decide +kernel
theorem d_M_canAct_82 : decode b_M_canAct 82 = .ok (.iload_n 2, 1) := by decide +kernel
theorem d_M_canAct_83 : decode b_M_canAct 83 = .ok (.iaload, 1) := by decide +kernel
theorem d_M_canAct_84 : decode b_M_canAct 84 = .ok (.if_icmp .ge 17, 3) := by decide +kernel
theorem d_M_canAct_87 : decode b_M_canAct 87 = .ok (.aload_n 0, 1) := by decide +kernel
theorem d_M_canAct_88 : decode b_M_canAct 88 = .ok (.iload_n 1, 1) := by decide +kernel
theorem d_M_canAct_89 : decode b_M_canAct 89 = .ok (.iload_n 2, 1) := by decide +kernel
theorem d_M_canAct_90 : decode b_M_canAct 90 = .ok (.iconst 0, 1) := by decide +kernel
theorem d_M_canAct_91 : decode b_M_canAct 91 = .ok (.invokevirtual 70, 3) := by decide +kernel
theorem d_M_canAct_94 : decode b_M_canAct 94 = .ok (.ifCond .eq 7, 3) := by decide +kernel
theorem d_M_canAct_97 : decode b_M_canAct 97 = .ok (.iconst 1, 1) := by decide +kernel
theorem d_M_canAct_98 : decode b_M_canAct 98 = .ok (.goto 4, 3) := by decide +kernel
theorem d_M_canAct_101 : decode b_M_canAct 101 = .ok (.iconst 0, 1) := by decide +kernel
theorem d_M_canAct_102 : decode b_M_canAct 102 = .ok (.ireturn, 1) := by decide +kernel
theorem d_M_canAct_103 : decode b_M_canAct 103 = .ok (.aload_n 0, 1) := by decide +kernel
theorem d_M_canAct_104 : decode b_M_canAct 104 = .ok (.iload_n 1, 1) := by decide +kernel
theorem d_M_canAct_105 : decode b_M_canAct 105 = .ok (.iload_n 2, 1) := by decide +kernel
theorem d_M_canAct_106 : decode b_M_canAct 106 = .ok (.iconst 0, 1) := by decide +kernel
theorem d_M_canAct_107 : decode b_M_canAct 107 = .ok (.invokevirtual 74, 3) := by decide +kernel
theorem d_M_canAct_110 : decode b_M_canAct 110 = .ok (.ifCond .eq 17, 3) := by decide +kernel
theorem d_M_canAct_113 : decode b_M_canAct 113 = .ok (.aload_n 0, 1) := by decide +kernel
theorem d_M_canAct_114 : decode b_M_canAct 114 = .ok (.iload_n 1, 1) := by decide +kernel
theorem d_M_canAct_115 : decode b_M_canAct 115 = .ok (.iload_n 2, 1) := by decide +kernel
theorem d_M_canAct_116 : decode b_M_canAct 116 = .ok (.iconst 0, 1) := by decide +kernel
theorem d_M_canAct_117 : decode b_M_canAct 117 = .ok (.invokevirtual 70, 3) := by decide +kernel
theorem d_M_canAct_120 : decode b_M_canAct 120 = .ok (.ifCond .eq 7, 3) := by decide +kernel
theorem d_M_canAct_123 : decode b_M_canAct 123 = .ok (.iconst 1, 1) := by decide +kernel
theorem d_M_canAct_124 : decode b_M_canAct 124 = .ok (.goto 4, 3) := by decide +kernel
theorem d_M_canAct_127 : decode b_M_canAct 127 = .ok (.iconst 0, 1) := by decide +kernel
theorem d_M_canAct_128 : decode b_M_canAct 128 = .ok (.ireturn, 1) := by decide +kernel
theorem d_M_canAct_129 : decode b_M_canAct 129 = .ok (.aload_n 0, 1) := by decide +kernel
theorem d_M_canAct_130 : decode b_M_canAct 130 = .ok (.iload_n 1, 1) := by decide +kernel
theorem d_M_canAct_131 : decode b_M_canAct 131 = .ok (.iload_n 2, 1) := by decide +kernel
theorem d_M_canAct_132 : decode b_M_canAct 132 = .ok (.iconst 0, 1) := by decide +kernel
theorem d_M_canAct_133 : decode b_M_canAct 133 = .ok (.invokevirtual 74, 3) := by decide +kernel
theorem d_M_canAct_136 : decode b_M_canAct 136 = .ok (.ifCond .eq 22, 3) := by decide +kernel
theorem d_M_canAct_139 : decode b_M_canAct 139 = .ok (.aload_n 0, 1) := by decide +kernel
theorem d_M_canAct_140 : decode b_M_canAct 140 = .ok (.iload_n 1, 1) := by decide +kernel
theorem d_M_canAct_141 : decode b_M_canAct 141 = .ok (.iload_n 2, 1) := by decide +kernel
theorem d_M_canAct_142 : decode b_M_canAct 142 = .ok (.aload_n 0, 1) := by decide +kernel
theorem d_M_canAct_143 : decode b_M_canAct 143 = .ok (.getfield 37, 3) := by decide +kernel
theorem d_M_canAct_146 : decode b_M_canAct 146 = .ok (.iload_n 3, 1) := by decide +kernel
theorem d_M_canAct_147 : decode b_M_canAct 147 = .ok (.iaload, 1) := by decide +kernel
theorem d_M_canAct_148 : decode b_M_canAct 148 = .ok (.invokevirtual 70, 3) := by decide +kernel
theorem d_M_canAct_151 : decode b_M_canAct 151 = .ok (.ifCond .eq 7, 3) := by decide +kernel
theorem d_M_canAct_154 : decode b_M_canAct 154 = .ok (.iconst 1, 1) := by decide +kernel
theorem d_M_canAct_155 : decode b_M_canAct 155 = .ok (.goto 4, 3) := by decide +kernel
theorem d_M_canAct_158 : decode b_M_canAct 158 = .ok (.iconst 0, 1) := by decide +kernel
theorem d_M_canAct_159 : decode b_M_canAct 159 = .ok (.ireturn, 1) := by decide +kernel
theorem d_M_canAct_160 : decode b_M_canAct 160 = .ok (.aload_n 0, 1) := by decide +kernel
theorem d_M_canAct_161 : decode b_M_canAct 161 = .ok (.iload_n 1, 1) := by decide +kernel
theorem d_M_canAct_162 : decode b_M_canAct 162 = .ok (.iload_n 2, 1) := by decide +kernel
theorem d_M_canAct_163 : decode b_M_canAct 163 = .ok (.aload_n 0, 1) := by decide +kernel
theorem d_M_canAct_164 : decode b_M_canAct 164 = .ok (.getfield 37, 3) := by decide +kernel
theorem d_M_canAct_167 : decode b_M_canAct 167 = .ok (.iload_n 3, 1) := by decide +kernel
theorem d_M_canAct_168 : decode b_M_canAct 168 = .ok (.iaload, 1) := by decide +kernel
theorem d_M_canAct_169 : decode b_M_canAct 169 = .ok (.invokevirtual 74, 3) := by decide +kernel
theorem d_M_canAct_172 : decode b_M_canAct 172 = .ok (.ifCond .eq 17, 3) := by decide +kernel
theorem d_M_canAct_175 : decode b_M_canAct 175 = .ok (.aload_n 0, 1) := by decide +kernel
theorem d_M_canAct_176 : decode b_M_canAct 176 = .ok (.iload_n 1, 1) := by decide +kernel
theorem d_M_canAct_177 : decode b_M_canAct 177 = .ok (.iload_n 2, 1) := by decide +kernel
theorem d_M_canAct_178 : decode b_M_canAct 178 = .ok (.iconst 0, 1) := by decide +kernel
theorem d_M_canAct_179 : decode b_M_canAct 179 = .ok (.invokevirtual 70, 3) := by decide +kernel
theorem d_M_canAct_182 : decode b_M_canAct 182 = .ok (.ifCond .eq 7, 3) := by decide +kernel
theorem d_M_canAct_185 : decode b_M_canAct 185 = .ok (.iconst 1, 1) := by decide +kernel
theorem d_M_canAct_186 : decode b_M_canAct 186 = .ok (.goto 4, 3) := by decide +kernel
theorem d_M_canAct_189 : decode b_M_canAct 189 = .ok (.iconst 0, 1) := by decide +kernel
theorem d_M_canAct_190 : decode b_M_canAct 190 = .ok (.ireturn, 1) := by decide +kernel
theorem d_M_canAct_191 : decode b_M_canAct 191 = .ok (.aload_n 0, 1) := by decide +kernel
theorem d_M_canAct_192 : decode b_M_canAct 192 = .ok (.iload_n 1, 1) := by decide +kernel
theorem d_M_canAct_193 : decode b_M_canAct 193 = .ok (.iload_n 2, 1) := by decide +kernel
theorem d_M_canAct_194 : decode b_M_canAct 194 = .ok (.iconst 0, 1) := by decide +kernel
theorem d_M_canAct_195 : decode b_M_canAct 195 = .ok (.invokevirtual 74, 3) := by decide +kernel
theorem d_M_canAct_198 : decode b_M_canAct 198 = .ok (.ifCond .eq 27, 3) := by decide +kernel
theorem d_M_canAct_201 : decode b_M_canAct 201 = .ok (.aload_n 0, 1) := by decide +kernel
theorem d_M_canAct_202 : decode b_M_canAct 202 = .ok (.iload_n 1, 1) := by decide +kernel
theorem d_M_canAct_203 : decode b_M_canAct 203 = .ok (.iload_n 2, 1) := by decide +kernel
theorem d_M_canAct_204 : decode b_M_canAct 204 = .ok (.iconst 1, 1) := by decide +kernel
theorem d_M_canAct_205 : decode b_M_canAct 205 = .ok (.invokevirtual 74, 3) := by decide +kernel
theorem d_M_canAct_208 : decode b_M_canAct 208 = .ok (.ifCond .eq 17, 3) := by decide +kernel
theorem d_M_canAct_211 : decode b_M_canAct 211 = .ok (.aload_n 0, 1) := by decide +kernel
theorem d_M_canAct_212 : decode b_M_canAct 212 = .ok (.iload_n 1, 1) := by decide +kernel
theorem d_M_canAct_213 : decode b_M_canAct 213 = .ok (.iload_n 2, 1) := by decide +kernel
theorem d_M_canAct_214 : decode b_M_canAct 214 = .ok (.iconst 0, 1) := by decide +kernel
theorem d_M_canAct_215 : decode b_M_canAct 215 = .ok (.invokevirtual 70, 3) := by decide +kernel
theorem d_M_canAct_218 : decode b_M_canAct 218 = .ok (.ifCond .eq 7, 3) := by decide +kernel
theorem d_M_canAct_221 : decode b_M_canAct 221 = .ok (.iconst 1, 1) := by decide +kernel
theorem d_M_canAct_222 : decode b_M_canAct 222 = .ok (.goto 4, 3) := by decide +kernel
theorem d_M_canAct_225 : decode b_M_canAct 225 = .ok (.iconst 0, 1) := by decide +kernel
theorem d_M_canAct_226 : decode b_M_canAct 226 = .ok (.ireturn, 1) := by decide +kernel
theorem d_M_canAct_227 : decode b_M_canAct 227 = .ok (.aload_n 0, 1) := by decide +kernel
theorem d_M_canAct_228 : decode b_M_canAct 228 = .ok (.getfield 34, 3) := by decide +kernel
theorem d_M_canAct_231 : decode b_M_canAct 231 = .ok (.iload_n 3, 1) := by decide +kernel
theorem d_M_canAct_232 : decode b_M_canAct 232 = .ok (.iaload, 1) := by decide +kernel
theorem d_M_canAct_233 : decode b_M_canAct 233 = .ok (.ifCond .eq 13, 3) := by decide +kernel
theorem d_M_canAct_236 : decode b_M_canAct 236 = .ok (.aload_n 0, 1) := by decide +kernel
theorem d_M_canAct_237 : decode b_M_canAct 237 = .ok (.iload_n 1, 1) := by decide +kernel
theorem d_M_canAct_238 : decode b_M_canAct 238 = .ok (.iload_n 2, 1) := by decide +kernel
theorem d_M_canAct_239 : decode b_M_canAct 239 = .ok (.iconst 0, 1) := by decide +kernel
theorem d_M_canAct_240 : decode b_M_canAct 240 = .ok (.invokevirtual 74, 3) := by decide +kernel
theorem d_M_canAct_243 : decode b_M_canAct 243 = .ok (.ifCond .eq 17, 3) := by decide +kernel
theorem d_M_canAct_246 : decode b_M_canAct 246 = .ok (.aload_n 0, 1) := by decide +kernel
theorem d_M_canAct_247 : decode b_M_canAct 247 = .ok (.iload_n 1, 1) := by decide +kernel
theorem d_M_canAct_248 : decode b_M_canAct 248 = .ok (.iload_n 2, 1) := by decide +kernel
theorem d_M_canAct_249 : decode b_M_canAct 249 = .ok (.iconst 0, 1) := by decide +kernel
theorem d_M_canAct_250 : decode b_M_canAct 250 = .ok (.invokevirtual 70, 3) := by decide +kernel
theorem d_M_canAct_253 : decode b_M_canAct 253 = .ok (.ifCond .eq 7, 3) := by decide +kernel
theorem d_M_canAct_256 : decode b_M_canAct 256 = .ok (.iconst 1, 1) := by decide +kernel
theorem d_M_canAct_257 : decode b_M_canAct 257 = .ok (.goto 4, 3) := by decide +kernel
theorem d_M_canAct_260 : decode b_M_canAct 260 = .ok (.iconst 0, 1) := by decide +kernel
theorem d_M_canAct_261 : decode b_M_canAct 261 = .ok (.ireturn, 1) := by decide +kernel
theorem d_M_canAct_262 : decode b_M_canAct 262 = .ok (.aload_n 0, 1) := by decide +kernel
theorem d_M_canAct_263 : decode b_M_canAct 263 = .ok (.iload_n 1, 1) := by decide +kernel
theorem d_M_canAct_264 : decode b_M_canAct 264 = .ok (.iload_n 2, 1) := by decide +kernel
theorem d_M_canAct_265 : decode b_M_canAct 265 = .ok (.iconst 0, 1) := by decide +kernel
theorem d_M_canAct_266 : decode b_M_canAct 266 = .ok (.invokevirtual 74, 3) := by decide +kernel
theorem d_M_canAct_269 : decode b_M_canAct 269 = .ok (.ifCond .eq 18, 3) := by decide +kernel
theorem d_M_canAct_272 : decode b_M_canAct 272 = .ok (.aload_n 0, 1) := by decide +kernel
theorem d_M_canAct_273 : decode b_M_canAct 273 = .ok (.getfield 40, 3) := by decide +kernel
theorem d_M_canAct_276 : decode b_M_canAct 276 = .ok (.iload_n 3, 1) := by decide +kernel
theorem d_M_canAct_277 : decode b_M_canAct 277 = .ok (.iaload, 1) := by decide +kernel
theorem d_M_canAct_278 : decode b_M_canAct 278 = .ok (.bipush 60, 2) := by decide +kernel
theorem d_M_canAct_280 : decode b_M_canAct 280 = .ok (.if_icmp .ge 7, 3) := by decide +kernel
theorem d_M_canAct_283 : decode b_M_canAct 283 = .ok (.iconst 1, 1) := by decide +kernel
theorem d_M_canAct_284 : decode b_M_canAct 284 = .ok (.goto 4, 3) := by decide +kernel
theorem d_M_canAct_287 : decode b_M_canAct 287 = .ok (.iconst 0, 1) := by decide +kernel
theorem d_M_canAct_288 : decode b_M_canAct 288 = .ok (.ireturn, 1) := by decide +kernel
theorem d_M_canAct_289 : decode b_M_canAct 289 = .ok (.aload_n 0, 1) := by decide +kernel
theorem d_M_canAct_290 : decode b_M_canAct 290 = .ok (.iload_n 1, 1) := by decide +kernel
theorem d_M_canAct_291 : decode b_M_canAct 291 = .ok (.iload_n 2, 1) := by decide +kernel
theorem d_M_canAct_292 : decode b_M_canAct 292 = .ok (.iconst 0, 1) := by decide +kernel
theorem d_M_canAct_293 : decode b_M_canAct 293 = .ok (.invokevirtual 74, 3) := by decide +kernel
theorem d_M_canAct_296 : decode b_M_canAct 296 = .ok (.ifCond .eq 37, 3) := by decide +kernel
theorem d_M_canAct_299 : decode b_M_canAct 299 = .ok (.aload_n 0, 1) := by decide +kernel
theorem d_M_canAct_300 : decode b_M_canAct 300 = .ok (.iload_n 1, 1) := by decide +kernel
theorem d_M_canAct_301 : decode b_M_canAct 301 = .ok (.iload_n 2, 1) := by decide +kernel
theorem d_M_canAct_302 : decode b_M_canAct 302 = .ok (.iconst 1, 1) := by decide +kernel
theorem d_M_canAct_303 : decode b_M_canAct 303 = .ok (.invokevirtual 74, 3) := by decide +kernel
theorem d_M_canAct_306 : decode b_M_canAct 306 = .ok (.ifCond .eq 27, 3) := by decide +kernel
theorem d_M_canAct_309 : decode b_M_canAct 309 = .ok (.aload_n 0, 1) := by decide +kernel
theorem d_M_canAct_310 : decode b_M_canAct 310 = .ok (.iload_n 1, 1) := by decide +kernel
theorem d_M_canAct_311 : decode b_M_canAct 311 = .ok (.iload_n 2, 1) := by decide +kernel
theorem d_M_canAct_312 : decode b_M_canAct 312 = .ok (.iconst 0, 1) := by decide +kernel
theorem d_M_canAct_313 : decode b_M_canAct 313 = .ok (.invokevirtual 77, 3) := by decide +kernel
theorem d_M_canAct_316 : decode b_M_canAct 316 = .ok (.ifCond .eq 13, 3) := by decide +kernel
theorem d_M_canAct_319 : decode b_M_canAct 319 = .ok (.aload_n 0, 1) := by decide +kernel
theorem d_M_canAct_320 : decode b_M_canAct 320 = .ok (.iload_n 1, 1) := by decide +kernel
theorem d_M_canAct_321 : decode b_M_canAct 321 = .ok (.iload_n 2, 1) := by decide +kernel
theorem d_M_canAct_322 : decode b_M_canAct 322 = .ok (.iconst 0, 1) := by decide +kernel
theorem d_M_canAct_323 : decode b_M_canAct 323 = .ok (.invokevirtual 70, 3) := by decide +kernel
theorem d_M_canAct_326 : decode b_M_canAct 326 = .ok (.ifCond .eq 7, 3) := by decide +kernel
theorem d_M_canAct_329 : decode b_M_canAct 329 = .ok (.iconst 1, 1) := by decide +kernel
theorem d_M_canAct_330 : decode b_M_canAct 330 = .ok (.goto 4, 3) := by decide +kernel
theorem d_M_canAct_333 : decode b_M_canAct 333 = .ok (.iconst 0, 1) := by decide +kernel
theorem d_M_canAct_334 : decode b_M_canAct 334 = .ok (.ireturn, 1) := by decide +kernel
theorem d_M_canAct_335 : decode b_M_canAct 335 = .ok (.aload_n 0, 1) := by decide +kernel
theorem d_M_canAct_336 : decode b_M_canAct 336 = .ok (.iload_n 1, 1) := by decide +kernel
theorem d_M_canAct_337 : decode b_M_canAct 337 = .ok (.iload_n 2, 1) := by decide +kernel
theorem d_M_canAct_338 : decode b_M_canAct 338 = .ok (.iconst 0, 1) := by decide +kernel
theorem d_M_canAct_339 : decode b_M_canAct 339 = .ok (.invokevirtual 74, 3) := by decide +kernel
theorem d_M_canAct_342 : decode b_M_canAct 342 = .ok (.ifCond .eq 27, 3) := by decide +kernel
theorem d_M_canAct_345 : decode b_M_canAct 345 = .ok (.aload_n 0, 1) := by decide +kernel
theorem d_M_canAct_346 : decode b_M_canAct 346 = .ok (.iload_n 1, 1) := by decide +kernel
theorem d_M_canAct_347 : decode b_M_canAct 347 = .ok (.iload_n 2, 1) := by decide +kernel
theorem d_M_canAct_348 : decode b_M_canAct 348 = .ok (.iconst 0, 1) := by decide +kernel
theorem d_M_canAct_349 : decode b_M_canAct 349 = .ok (.invokevirtual 70, 3) := by decide +kernel
theorem d_M_canAct_352 : decode b_M_canAct 352 = .ok (.ifCond .eq 17, 3) := by decide +kernel
theorem d_M_canAct_355 : decode b_M_canAct 355 = .ok (.aload_n 0, 1) := by decide +kernel
theorem d_M_canAct_356 : decode b_M_canAct 356 = .ok (.iload_n 1, 1) := by decide +kernel
theorem d_M_canAct_357 : decode b_M_canAct 357 = .ok (.iload_n 2, 1) := by decide +kernel
theorem d_M_canAct_358 : decode b_M_canAct 358 = .ok (.iconst 1, 1) := by decide +kernel
theorem d_M_canAct_359 : decode b_M_canAct 359 = .ok (.invokevirtual 70, 3) := by decide +kernel
theorem d_M_canAct_362 : decode b_M_canAct 362 = .ok (.ifCond .eq 7, 3) := by decide +kernel
theorem d_M_canAct_365 : decode b_M_canAct 365 = .ok (.iconst 1, 1) := by decide +kernel
theorem d_M_canAct_366 : decode b_M_canAct 366 = .ok (.goto 4, 3) := by decide +kernel
theorem d_M_canAct_369 : decode b_M_canAct 369 = .ok (.iconst 0, 1) := by decide +kernel
theorem d_M_canAct_370 : decode b_M_canAct 370 = .ok (.ireturn, 1) := by decide +kernel
theorem d_M_doAct_0 : decode b_M_doAct 0 = .ok (.bipush 10, 2) := by decide +kernel
theorem d_M_doAct_2 : decode b_M_doAct 2 = .ok (.iload_n 1, 1) := by decide +kernel
theorem d_M_doAct_3 : decode b_M_doAct 3 = .ok (.imul, 1) := by decide +kernel
theorem d_M_doAct_4 : decode b_M_doAct 4 = .ok (.iload_n 2, 1) := by decide +kernel
theorem d_M_doAct_5 : decode b_M_doAct 5 = .ok (.iadd, 1) := by decide +kernel
theorem d_M_doAct_6 : decode b_M_doAct 6 = .ok (.istore_n 3, 1) := by decide +kernel
theorem d_M_doAct_7 : decode b_M_doAct 7 = .ok (.aload_n 0, 1) := by decide +kernel
theorem d_M_doAct_8 : decode b_M_doAct 8 = .ok (.getfield 7, 3) := by decide +kernel
theorem d_M_doAct_11 : decode b_M_doAct 11 = .ok (.iload_n 2, 1) := by decide +kernel
theorem d_M_doAct_12 : decode b_M_doAct 12 = .ok (.iaload, 1) := by decide +kernel
theorem d_M_doAct_13 : decode b_M_doAct 13 = .ok (.tableswitch 313 0 7 #[47, 73, 104, 140, 176, 201, 236, 278], 47) := by decide +kernel
theorem d_M_doAct_60 : decode b_M_doAct 60 = .ok (.aload_n 0, 1) := by decide +kernel
theorem d_M_doAct_61 : decode b_M_doAct 61 = .ok (.iload_n 1, 1) := by decide +kernel
theorem d_M_doAct_62 : decode b_M_doAct 62 = .ok (.iload_n 2, 1) := by decide +kernel
theorem d_M_doAct_63 : decode b_M_doAct 63 = .ok (.iconst 0, 1) := by decide +kernel
theorem d_M_doAct_64 : decode b_M_doAct 64 = .ok (.aload_n 0, 1) := by decide +kernel
theorem d_M_doAct_65 : decode b_M_doAct 65 = .ok (.getfield 22, 3) := by decide +kernel
theorem d_M_doAct_68 : decode b_M_doAct 68 = .ok (.bipush 20, 2) := by decide +kernel
theorem d_M_doAct_70 : decode b_M_doAct 70 = .ok (.iload_n 2, 1) := by decide +kernel
theorem d_M_doAct_71 : decode b_M_doAct 71 = .ok (.imul, 1) := by decide +kernel
theorem d_M_doAct_72 : decode b_M_doAct 72 = .ok (.aload_n 0, 1) := by decide +kernel
theorem d_M_doAct_73 : decode b_M_doAct 73 = .ok (.getfield 34, 3) := by decide +kernel
theorem d_M_doAct_76 : decode b_M_doAct 76 = .ok (.iload_n 3, 1) := by decide +kernel
theorem d_M_doAct_77 : decode b_M_doAct 77 = .ok (.iaload, 1) := by decide +kernel
theorem d_M_doAct_78 : decode b_M_doAct 78 = .ok (.iadd, 1) := by decide +kernel
theorem d_M_doAct_79 : decode b_M_doAct 79 = .ok (.iaload, 1) := by decide +kernel
theorem d_M_doAct_80 : decode b_M_doAct 80 = .ok (.invokevirtual 81, 3) := by decide +kernel
theorem d_M_doAct_83 : decode b_M_doAct 83 = .ok (.goto 270, 3) := by decide +kernel
theorem d_M_doAct_86 : decode b_M_doAct 86 = .ok (.aload_n 0, 1) := by decide +kernel
theorem d_M_doAct_87 : decode b_M_doAct 87 = .ok (.iload_n 1, 1) := by decide +kernel
theorem d_M_doAct_88 : decode b_M_doAct 88 = .ok (.iload_n 2, 1) := by decide +kernel
theorem d_M_doAct_89 : decode b_M_doAct 89 = .ok (.iconst 0, 1) := by decide +kernel
theorem d_M_doAct_90 : decode b_M_doAct 90 = .ok (.aload_n 0, 1) := by decide +kernel
theorem d_M_doAct_91 : decode b_M_doAct 91 = .ok (.iload_n 1, 1) := by decide +kernel
theorem d_M_doAct_92 : decode b_M_doAct 92 = .ok (.iload_n 2, 1) := by decide +kernel
theorem d_M_doAct_93 : decode b_M_doAct 93 = .ok (.iconst 0, 1) := by decide +kernel
theorem d_M_doAct_94 : decode b_M_doAct 94 = .ok (.invokevirtual 85, 3) := by decide +kernel
theorem d_M_doAct_97 : decode b_M_doAct 97 = .ok (.aload_n 0, 1) := by decide +kernel
theorem d_M_doAct_98 : decode b_M_doAct 98 = .ok (.getfield 13, 3) := by decide +kernel
theorem d_M_doAct_101 : decode b_M_doAct 101 = .ok (.iload_n 2, 1) := by decide +kernel
theorem d_M_doAct_102 : decode b_M_doAct 102 = .ok (.iaload, 1) := by decide +kernel
theorem d_M_doAct_103 : decode b_M_doAct 103 = .ok (.imul, 1) := by decide +kernel
theorem d_M_doAct_104 : decode b_M_doAct 104 = .ok (.aload_n 0, 1) := by decide +kernel
theorem d_M_doAct_105 : decode b_M_doAct 105 = .ok (.getfield 16, 3) := by decide +kernel
theorem d_M_doAct_108 : decode b_M_doAct 108 = .ok (.iload_n 2, 1) := by decide +kernel
theorem d_M_doAct_109 : decode b_M_doAct 109 = .ok (.iaload, 1) := by decide +kernel
theorem d_M_doAct_110 : decode b_M_doAct 110 = .ok (.iadd, 1) := by decide +kernel
theorem d_M_doAct_111 : decode b_M_doAct 111 = .ok (.invokevirtual 81, 3) := by decide +kernel
theorem d_M_doAct_114 : decode b_M_doAct 114 = .ok (.goto 239, 3) := by decide +kernel
theorem d_M_doAct_117 : decode b_M_doAct 117 = .ok (.aload_n 0, 1) := by decide +kernel
theorem d_M_doAct_118 : decode b_M_doAct 118 = .ok (.iload_n 1, 1) := by decide +kernel
theorem d_M_doAct_119 : decode b_M_doAct 119 = .ok (.iload_n 2, 1) := by decide +kernel
theorem d_M_doAct_120 : decode b_M_doAct 120 = .ok (.aload_n 0, 1) := by decide +kernel
theorem d_M_doAct_121 : decode b_M_doAct 121 = .ok (.getfield 37, 3) := by decide +kernel
theorem d_M_doAct_124 : decode b_M_doAct 124 = .ok (.iload_n 3, 1) := by decide +kernel
theorem d_M_doAct_125 : decode b_M_doAct 125 = .ok (.iaload, 1) := by decide +kernel
theorem d_M_doAct_126 : decode b_M_doAct 126 = .ok (.aload_n 0, 1) := by decide +kernel
theorem d_M_doAct_127 : decode b_M_doAct 127 = .ok (.iload_n 1, 1) := by decide +kernel
theorem d_M_doAct_128 : decode b_M_doAct 128 = .ok (.iload_n 2, 1) := by decide +kernel
theorem d_M_doAct_129 : decode b_M_doAct 129 = .ok (.iconst 0, 1) := by decide +kernel
theorem d_M_doAct_130 : decode b_M_doAct 130 = .ok (.invokevirtual 85, 3) := by decide +kernel
theorem d_M_doAct_133 : decode b_M_doAct 133 = .ok (.invokevirtual 81, 3) := by decide +kernel
theorem d_M_doAct_136 : decode b_M_doAct 136 = .ok (.aload_n 0, 1) := by decide +kernel
theorem d_M_doAct_137 : decode b_M_doAct 137 = .ok (.getfield 37, 3) := by decide +kernel
theorem d_M_doAct_140 : decode b_M_doAct 140 = .ok (.iload_n 3, 1) := by decide +kernel
theorem d_M_doAct_141 : decode b_M_doAct 141 = .ok (.iconst 1, 1) := by decide +kernel
theorem d_M_doAct_142 : decode b_M_doAct 142 = .ok (.aload_n 0, 1) := by decide +kernel
theorem d_M_doAct_143 : decode b_M_doAct 143 = .ok (.getfield 37, 3) := by decide +kernel
theorem d_M_doAct_146 : decode b_M_doAct 146 = .ok (.iload_n 3, 1) := by decide +kernel
theorem d_M_doAct_147 : decode b_M_doAct 147 = .ok (.iaload, 1) := by decide +kernel
theorem d_M_doAct_148 : decode b_M_doAct 148 = .ok (.isub, 1) := by decide +kernel
theorem d_M_doAct_149 : decode b_M_doAct 149 = .ok (.iastore, 1) := by decide +kernel
theorem d_M_doAct_150 : decode b_M_doAct 150 = .ok (.goto 203, 3) := by decide +kernel
theorem d_M_doAct_153 : decode b_M_doAct 153 = .ok (.aload_n 0, 1) := by decide +kernel
theorem d_M_doAct_154 : decode b_M_doAct 154 = .ok (.iload_n 1, 1) := by decide +kernel
theorem d_M_doAct_155 : decode b_M_doAct 155 = .ok (.iload_n 2, 1) := by decide +kernel
theorem d_M_doAct_156 : decode b_M_doAct 156 = .ok (.iconst 0, 1) := by decide +kernel
theorem d_M_doAct_157 : decode b_M_doAct 157 = .ok (.aload_n 0, 1) := by decide +kernel
theorem d_M_doAct_158 : decode b_M_doAct 158 = .ok (.iload_n 1, 1) := by decide +kernel
theorem d_M_doAct_159 : decode b_M_doAct 159 = .ok (.iload_n 2, 1) := by decide +kernel
theorem d_M_doAct_160 : decode b_M_doAct 160 = .ok (.aload_n 0, 1) := by decide +kernel
theorem d_M_doAct_161 : decode b_M_doAct 161 = .ok (.getfield 37, 3) := by decide +kernel
theorem d_M_doAct_164 : decode b_M_doAct 164 = .ok (.iload_n 3, 1) := by decide +kernel
theorem d_M_doAct_165 : decode b_M_doAct 165 = .ok (.iaload, 1) := by decide +kernel
theorem d_M_doAct_166 : decode b_M_doAct 166 = .ok (.invokevirtual 85, 3) := by decide +kernel
theorem d_M_doAct_169 : decode b_M_doAct 169 = .ok (.invokevirtual 81, 3) := by decide +kernel
theorem d_M_doAct_172 : decode b_M_doAct 172 = .ok (.aload_n 0, 1) := by decide +kernel
theorem d_M_doAct_173 : decode b_M_doAct 173 = .ok (.getfield 37, 3) := by decide +kernel
theorem d_M_doAct_176 : decode b_M_doAct 176 = .ok (.iload_n 3, 1) := by decide +kernel
theorem d_M_doAct_177 : decode b_M_doAct 177 = .ok (.iconst 1, 1) := by decide +kernel
theorem d_M_doAct_178 : decode b_M_doAct 178 = .ok (.aload_n 0, 1) := by decide +kernel
theorem d_M_doAct_179 : decode b_M_doAct 179 = .ok (.getfield 37, 3) := by decide +kernel
theorem d_M_doAct_182 : decode b_M_doAct 182 = .ok (.iload_n 3, 1) := by decide +kernel
theorem d_M_doAct_183 : decode b_M_doAct 183 = .ok (.iaload, 1) := by decide +kernel
theorem d_M_doAct_184 : decode b_M_doAct 184 = .ok (.isub, 1) := by decide +kernel
theorem d_M_doAct_185 : decode b_M_doAct 185 = .ok (.iastore, 1) := by decide +kernel
theorem d_M_doAct_186 : decode b_M_doAct 186 = .ok (.goto 167, 3) := by decide +kernel
theorem d_M_doAct_189 : decode b_M_doAct 189 = .ok (.aload_n 0, 1) := by decide +kernel
theorem d_M_doAct_190 : decode b_M_doAct 190 = .ok (.iload_n 1, 1) := by decide +kernel
theorem d_M_doAct_191 : decode b_M_doAct 191 = .ok (.iload_n 2, 1) := by decide +kernel
theorem d_M_doAct_192 : decode b_M_doAct 192 = .ok (.iconst 0, 1) := by decide +kernel
theorem d_M_doAct_193 : decode b_M_doAct 193 = .ok (.aload_n 0, 1) := by decide +kernel
theorem d_M_doAct_194 : decode b_M_doAct 194 = .ok (.iload_n 1, 1) := by decide +kernel
theorem d_M_doAct_195 : decode b_M_doAct 195 = .ok (.iload_n 2, 1) := by decide +kernel
theorem d_M_doAct_196 : decode b_M_doAct 196 = .ok (.iconst 0, 1) := by decide +kernel
theorem d_M_doAct_197 : decode b_M_doAct 197 = .ok (.invokevirtual 85, 3) := by decide +kernel
theorem d_M_doAct_200 : decode b_M_doAct 200 = .ok (.aload_n 0, 1) := by decide +kernel
theorem d_M_doAct_201 : decode b_M_doAct 201 = .ok (.iload_n 1, 1) := by decide +kernel
theorem d_M_doAct_202 : decode b_M_doAct 202 = .ok (.iload_n 2, 1) := by decide +kernel
theorem d_M_doAct_203 : decode b_M_doAct 203 = .ok (.iconst 1, 1) := by decide +kernel
theorem d_M_doAct_204 : decode b_M_doAct 204 = .ok (.invokevirtual 85, 3) := by decide +kernel
theorem d_M_doAct_207 : decode b_M_doAct 207 = .ok (.iadd, 1) := by decide +kernel
theorem d_M_doAct_208 : decode b_M_doAct 208 = .ok (.invokevirtual 81, 3) := by decide +kernel
theorem d_M_doAct_211 : decode b_M_doAct 211 = .ok (.goto 142, 3) := by decide +kernel
theorem d_M_doAct_214 : decode b_M_doAct 214 = .ok (.aload_n 0, 1) := by decide +kernel
theorem d_M_doAct_215 : decode b_M_doAct 215 = .ok (.iload_n 1, 1) := by decide +kernel
theorem d_M_doAct_216 : decode b_M_doAct 216 = .ok (.iload_n 2, 1) := by decide +kernel
theorem d_M_doAct_217 : decode b_M_doAct 217 = .ok (.iconst 0, 1) := by decide +kernel
theorem d_M_doAct_218 : decode b_M_doAct 218 = .ok (.aload_n 0, 1) := by decide +kernel
theorem d_M_doAct_219 : decode b_M_doAct 219 = .ok (.getfield 34, 3) := by decide +kernel
theorem d_M_doAct_222 : decode b_M_doAct 222 = .ok (.iload_n 3, 1) := by decide +kernel
theorem d_M_doAct_223 : decode b_M_doAct 223 = .ok (.iaload, 1) := by decide +kernel
theorem d_M_doAct_224 : decode b_M_doAct 224 = .ok (.ifCond .ne 12, 3) := by decide +kernel
theorem d_M_doAct_227 : decode b_M_doAct 227 = .ok (.aload_n 0, 1) := by decide +kernel
theorem d_M_doAct_228 : decode b_M_doAct 228 = .ok (.getfield 13, 3) := by decide +kernel
theorem d_M_doAct_231 : decode b_M_doAct 231 = .ok (.iload_n 2, 1) := by decide +kernel
theorem d_M_doAct_232 : decode b_M_doAct 232 = .ok (.iaload, 1) := by decide +kernel
theorem d_M_doAct_233 : decode b_M_doAct 233 = .ok (.goto 10, 3) := by decide +kernel
theorem d_M_doAct_236 : decode b_M_doAct 236 = .ok (.aload_n 0, 1) := by decide +kernel
theorem d_M_doAct_237 : decode b_M_doAct 237 = .ok (.iload_n 1, 1) := by decide +kernel
theorem d_M_doAct_238 : decode b_M_doAct 238 = .ok (.iload_n 2, 1) := by decide +kernel
theorem d_M_doAct_239 : decode b_M_doAct 239 = .ok (.iconst 0, 1) := by decide +kernel
theorem d_M_doAct_240 : decode b_M_doAct 240 = .ok (.invokevirtual 85, 3) := by decide +kernel
theorem d_M_doAct_243 : decode b_M_doAct 243 = .ok (.invokevirtual 81, 3) := by decide +kernel
theorem d_M_doAct_246 : decode b_M_doAct 246 = .ok (.goto 107, 3) := by decide +kernel
theorem d_M_doAct_249 : decode b_M_doAct 249 = .ok (.aload_n 0, 1) := by decide +kernel
theorem d_M_doAct_250 : decode b_M_doAct 250 = .ok (.getfield 43, 3) := by decide +kernel
theorem d_M_doAct_253 : decode b_M_doAct 253 = .ok (.sipush 600, 3) := by decide +kernel
theorem d_M_doAct_256 : decode b_M_doAct 256 = .ok (.iload_n 1, 1) := by decide +kernel
theorem d_M_doAct_257 : decode b_M_doAct 257 = .ok (.imul, 1) := by decide +kernel
theorem d_M_doAct_258 : decode b_M_doAct 258 = .ok (.bipush 60, 2) := by decide +kernel
theorem d_M_doAct_260 : decode b_M_doAct 260 = .ok (.iload_n 2, 1) := by decide +kernel
theorem d_M_doAct_261 : decode b_M_doAct 261 = .ok (.imul, 1) := by decide +kernel
theorem d_M_doAct_262 : decode b_M_doAct 262 = .ok (.iadd, 1) := by decide +kernel
theorem d_M_doAct_263 : decode b_M_doAct 263 = .ok (.aload_n 0, 1) := by decide +kernel
theorem d_M_doAct_264 : decode b_M_doAct 264 = .ok (.getfield 40, 3) := by decide +kernel
theorem d_M_doAct_267 : decode b_M_doAct 267 = .ok (.iload_n 3, 1) := by decide +kernel
theorem d_M_doAct_268 : decode b_M_doAct 268 = .ok (.iaload, 1) := by decide +kernel
theorem d_M_doAct_269 : decode b_M_doAct 269 = .ok (.iadd, 1) := by decide +kernel
theorem d_M_doAct_270 : decode b_M_doAct 270 = .ok (.aload_n 0, 1) := by decide +kernel
theorem d_M_doAct_271 : decode b_M_doAct 271 = .ok (.iload_n 1, 1) := by decide +kernel
theorem d_M_doAct_272 : decode b_M_doAct 272 = .ok (.iload_n 2, 1) := by decide +kernel
theorem d_M_doAct_273 : decode b_M_doAct 273 = .ok (.iconst 0, 1) := by decide +kernel
theorem d_M_doAct_274 : decode b_M_doAct 274 = .ok (.invokevirtual 85, 3) := by decide +kernel
theorem d_M_doAct_277 : decode b_M_doAct 277 = .ok (.iastore, 1) := by decide +kernel
theorem d_M_doAct_278 : decode b_M_doAct 278 = .ok (.aload_n 0, 1) := by decide +kernel
theorem d_M_doAct_279 : decode b_M_doAct 279 = .ok (.getfield 40, 3) := by decide +kernel
theorem d_M_doAct_282 : decode b_M_doAct 282 = .ok (.iload_n 3, 1) := by decide +kernel
theorem d_M_doAct_283 : decode b_M_doAct 283 = .ok (.dup2, 1) := by decide +kernel
theorem d_M_doAct_284 : decode b_M_doAct 284 = .ok (.iaload, 1) := by decide +kernel
theorem d_M_doAct_285 : decode b_M_doAct 285 = .ok (.iconst 1, 1) := by decide +kernel
theorem d_M_doAct_286 : decode b_M_doAct 286 = .ok (.iadd, 1) := by decide +kernel
theorem d_M_doAct_287 : decode b_M_doAct 287 = .ok (.iastore, 1) := by decide +kernel
theorem d_M_doAct_288 : decode b_M_doAct 288 = .ok (.goto 65, 3) := by decide +kernel
theorem d_M_doAct_291 : decode b_M_doAct 291 = .ok (.aload_n 0, 1) := by decide +kernel
theorem d_M_doAct_292 : decode b_M_doAct 292 = .ok (.iload_n 1, 1) := by decide +kernel
theorem d_M_doAct_293 : decode b_M_doAct 293 = .ok (.iload_n 2, 1) := by decide +kernel
theorem d_M_doAct_294 : decode b_M_doAct 294 = .ok (.iconst 0, 1) := by decide +kernel
theorem d_M_doAct_295 : decode b_M_doAct 295 = .ok (.invokevirtual 85, 3) := by decide +kernel
theorem d_M_doAct_298 : decode b_M_doAct 298 = .ok (.istore 4, 2) := by decide +kernel
theorem d_M_doAct_300 : decode b_M_doAct 300 = .ok (.aload_n 0, 1) := by decide +kernel
theorem d_M_doAct_301 : decode b_M_doAct 301 = .ok (.iload_n 1, 1) := by decide +kernel
theorem d_M_doAct_302 : decode b_M_doAct 302 = .ok (.iload_n 2, 1) := by decide +kernel
theorem d_M_doAct_303 : decode b_M_doAct 303 = .ok (.iconst 1, 1) := by decide +kernel
theorem d_M_doAct_304 : decode b_M_doAct 304 = .ok (.invokevirtual 85, 3) := by decide +kernel
theorem d_M_doAct_307 : decode b_M_doAct 307 = .ok (.istore 5, 2) := by decide +kernel
theorem d_M_doAct_309 : decode b_M_doAct 309 = .ok (.iload 4, 2) := by decide +kernel
theorem d_M_doAct_311 : decode b_M_doAct 311 = .ok (.ifCond .eq 42, 3) := by decide +kernel
theorem d_M_doAct_314 : decode b_M_doAct 314 = .ok (.aload_n 0, 1) := by decide +kernel
theorem d_M_doAct_315 : decode b_M_doAct 315 = .ok (.iload_n 1, 1) := by decide +kernel
theorem d_M_doAct_316 : decode b_M_doAct 316 = .ok (.iload_n 2, 1) := by decide +kernel
theorem d_M_doAct_317 : decode b_M_doAct 317 = .ok (.iconst 0, 1) := by decide +kernel
theorem d_M_doAct_318 : decode b_M_doAct 318 = .ok (.iload 5, 2) := by decide +kernel
theorem d_M_doAct_320 : decode b_M_doAct 320 = .ok (.invokevirtual 81, 3) := by decide +kernel
theorem d_M_doAct_323 : decode b_M_doAct 323 = .ok (.goto 30, 3) := by decide +kernel
theorem d_M_doAct_326 : decode b_M_doAct 326 = .ok (.aload_n 0, 1) := by decide +kernel
theorem d_M_doAct_327 : decode b_M_doAct 327 = .ok (.iload_n 1, 1) := by decide +kernel
theorem d_M_doAct_328 : decode b_M_doAct 328 = .ok (.iload_n 2, 1) := by decide +kernel
theorem d_M_doAct_329 : decode b_M_doAct 329 = .ok (.iconst 0, 1) := by decide +kernel
theorem d_M_doAct_330 : decode b_M_doAct 330 = .ok (.invokevirtual 85, 3) := by decide +kernel
theorem d_M_doAct_333 : decode b_M_doAct 333 = .ok (.istore 6, 2) := by decide +kernel
theorem d_M_doAct_335 : decode b_M_doAct 335 = .ok (.aload_n 0, 1) := by decide +kernel
theorem d_M_doAct_336 : decode b_M_doAct 336 = .ok (.iload_n 1, 1) := by decide +kernel
theorem d_M_doAct_337 : decode b_M_doAct 337 = .ok (.iload_n 2, 1) := by decide +kernel
theorem d_M_doAct_338 : decode b_M_doAct 338 = .ok (.iconst 0, 1) := by decide +kernel
theorem d_M_doAct_339 : decode b_M_doAct 339 = .ok (.iload 6, 2) := by decide +kernel
theorem d_M_doAct_341 : decode b_M_doAct 341 = .ok (.invokevirtual 81, 3) := by decide +kernel
theorem d_M_doAct_344 : decode b_M_doAct 344 = .ok (.aload_n 0, 1) := by decide +kernel
theorem d_M_doAct_345 : decode b_M_doAct 345 = .ok (.iload_n 1, 1) := by decide +kernel
theorem d_M_doAct_346 : decode b_M_doAct 346 = .ok (.iload_n 2, 1) := by decide +kernel
theorem d_M_doAct_347 : decode b_M_doAct 347 = .ok (.iconst 1, 1) := by decide +kernel
theorem d_M_doAct_348 : decode b_M_doAct 348 = .ok (.iload 6, 2) := by decide +kernel
theorem d_M_doAct_350 : decode b_M_doAct 350 = .ok (.invokevirtual 81, 3) := by decide +kernel
theorem d_M_doAct_353 : decode b_M_doAct 353 = .ok (.aload_n 0, 1) := by decide +kernel
theorem d_M_doAct_354 : decode b_M_doAct 354 = .ok (.getfield 34, 3) := by decide +kernel
theorem d_M_doAct_357 : decode b_M_doAct 357 = .ok (.iload_n 3, 1) := by decide +kernel
theorem d_M_doAct_358 : decode b_M_doAct 358 = .ok (.dup2, 1) := by decide +kernel
theorem d_M_doAct_359 : decode b_M_doAct 359 = .ok (.iaload, 1) := by decide +kernel
theorem d_M_doAct_360 : decode b_M_doAct 360 = .ok (.iconst 1, 1) := by decide +kernel
theorem d_M_doAct_361 : decode b_M_doAct 361 = .ok (.iadd, 1) := by decide +kernel
theorem d_M_doAct_362 : decode b_M_doAct 362 = .ok (.iastore, 1) := by decide +kernel
theorem d_M_doAct_363 : decode b_M_doAct 363 = .ok (.return_, 1) := by decide +kernel
theorem d_M_can_0 : decode b_M_can 0 = .ok (.aload_n 0, 1) := by decide +kernel
theorem d_M_can_1 : decode b_M_can 1 = .ok (.iload_n 1, 1) := by decide +kernel
theorem d_M_can_2 : decode b_M_can 2 = .ok (.invokevirtual 56, 3) := by decide +kernel
theorem d_M_can_5 : decode b_M_can 5 = .ok (.ifCond .eq 16, 3) := by decide +kernel
theorem d_M_can_8 : decode b_M_can 8 = .ok (.aload_n 0, 1) := by decide +kernel
theorem d_M_can_9 : decode b_M_can 9 = .ok (.iconst 0, 1) := by decide +kernel
theorem d_M_can_10 : decode b_M_can 10 = .ok (.iload_n 1, 1) := by decide +kernel
theorem d_M_can_11 : decode b_M_can 11 = .ok (.invokevirtual 88, 3) := by decide +kernel
theorem d_M_can_14 : decode b_M_can 14 = .ok (.ifCond .eq 7, 3) := by decide +kernel
theorem d_M_can_17 : decode b_M_can 17 = .ok (.iconst 1, 1) := by decide +kernel
theorem d_M_can_18 : decode b_M_can 18 = .ok (.goto 4, 3) := by decide +kernel
theorem d_M_can_21 : decode b_M_can 21 = .ok (.iconst 0, 1) := by decide +kernel
theorem d_M_can_22 : decode b_M_can 22 = .ok (.ireturn, 1) := by decide +kernel
theorem d_M_act_0 : decode b_M_act 0 = .ok (.aload_n 0, 1) := by decide +kernel
theorem d_M_act_1 : decode b_M_act 1 = .ok (.iload_n 1, 1) := by decide +kernel
theorem d_M_act_2 : decode b_M_act 2 = .ok (.invokevirtual 56, 3) := by decide +kernel
theorem d_M_act_5 : decode b_M_act 5 = .ok (.ifCond .eq 12, 3) := by decide +kernel
theorem d_M_act_8 : decode b_M_act 8 = .ok (.aload_n 0, 1) := by decide +kernel
theorem d_M_act_9 : decode b_M_act 9 = .ok (.iconst 0, 1) := by decide +kernel
theorem d_M_act_10 : decode b_M_act 10 = .ok (.iload_n 1, 1) := by decide +kernel
theorem d_M_act_11 : decode b_M_act 11 = .ok (.invokevirtual 88, 3) := by decide +kernel
theorem d_M_act_14 : decode b_M_act 14 = .ok (.ifCond .ne 5, 3) := by decide +kernel
theorem d_M_act_17 : decode b_M_act 17 = .ok (.iconst 0, 1) := by decide +kernel
theorem d_M_act_18 : decode b_M_act 18 = .ok (.ireturn, 1) := by decide +kernel
theorem d_M_act_19 : decode b_M_act 19 = .ok (.aload_n 0, 1) := by decide +kernel
theorem d_M_act_20 : decode b_M_act 20 = .ok (.iconst 0, 1) := by decide +kernel
theorem d_M_act_21 : decode b_M_act 21 = .ok (.iload_n 1, 1) := by decide +kernel
theorem d_M_act_22 : decode b_M_act 22 = .ok (.invokevirtual 92, 3) := by decide +kernel
theorem d_M_act_25 : decode b_M_act 25 = .ok (.iconst 1, 1) := by decide +kernel
theorem d_M_act_26 : decode b_M_act 26 = .ok (.ireturn, 1) := by decide +kernel
theorem d_M_run_0 : decode b_M_run 0 = .ok (.iload_n 3, 1) := by decide +kernel
theorem d_M_run_1 : decode b_M_run 1 = .ok (.ifCond .lt 10, 3) := by decide +kernel
theorem d_M_run_4 : decode b_M_run 4 = .ok (.iload_n 3, 1) := by decide +kernel
theorem d_M_run_5 : decode b_M_run 5 = .ok (.sipush 2000, 3) := by decide +kernel
theorem d_M_run_8 : decode b_M_run 8 = .ok (.if_icmp .le 5, 3) := by decide +kernel
theorem d_M_run_11 : decode b_M_run 11 = .ok (.iconst (-1), 1) := by decide +kernel
theorem d_M_run_12 : decode b_M_run 12 = .ok (.ireturn, 1) := by decide +kernel
theorem d_M_run_13 : decode b_M_run 13 = .ok (.lload_n 1, 1) := by decide +kernel
theorem d_M_run_14 : decode b_M_run 14 = .ok (.lstore 4, 2) := by decide +kernel
theorem d_M_run_16 : decode b_M_run 16 = .ok (.iconst 0, 1) := by decide +kernel
theorem d_M_run_17 : decode b_M_run 17 = .ok (.istore 6, 2) := by decide +kernel
theorem d_M_run_19 : decode b_M_run 19 = .ok (.iload 6, 2) := by decide +kernel
theorem d_M_run_21 : decode b_M_run 21 = .ok (.iload_n 3, 1) := by decide +kernel
theorem d_M_run_22 : decode b_M_run 22 = .ok (.if_icmp .ge 133, 3) := by decide +kernel
theorem d_M_run_25 : decode b_M_run 25 = .ok (.iconst 0, 1) := by decide +kernel
theorem d_M_run_26 : decode b_M_run 26 = .ok (.istore 7, 2) := by decide +kernel
theorem d_M_run_28 : decode b_M_run 28 = .ok (.iconst 0, 1) := by decide +kernel
theorem d_M_run_29 : decode b_M_run 29 = .ok (.istore 8, 2) := by decide +kernel
theorem d_M_run_31 : decode b_M_run 31 = .ok (.iload 8, 2) := by decide +kernel
theorem d_M_run_33 : decode b_M_run 33 = .ok (.aload_n 0, 1) := by decide +kernel
theorem d_M_run_34 : decode b_M_run 34 = .ok (.getfield 52, 3) := by decide +kernel
theorem d_M_run_37 : decode b_M_run 37 = .ok (.if_icmp .ge 29, 3) := by decide +kernel
theorem d_M_run_40 : decode b_M_run 40 = .ok (.iload 7, 2) := by decide +kernel
theorem d_M_run_42 : decode b_M_run 42 = .ok (.aload_n 0, 1) := by decide +kernel
theorem d_M_run_43 : decode b_M_run 43 = .ok (.iconst 0, 1) := by decide +kernel
theorem d_M_run_44 : decode b_M_run 44 = .ok (.iload 8, 2) := by decide +kernel
theorem d_M_run_46 : decode b_M_run 46 = .ok (.invokevirtual 88, 3) := by decide +kernel
theorem d_M_run_49 : decode b_M_run 49 = .ok (.ifCond .eq 7, 3) := by decide +kernel
theorem d_M_run_52 : decode b_M_run 52 = .ok (.iconst 1, 1) := by decide +kernel
theorem d_M_run_53 : decode b_M_run 53 = .ok (.goto 4, 3) := by decide +kernel
theorem d_M_run_56 : decode b_M_run 56 = .ok (.iconst 0, 1) := by decide +kernel
theorem d_M_run_57 : decode b_M_run 57 = .ok (.iadd, 1) := by decide +kernel
theorem d_M_run_58 : decode b_M_run 58 = .ok (.istore 7, 2) := by decide +kernel
theorem d_M_run_60 : decode b_M_run 60 = .ok (.iinc 8 1, 3) := by decide +kernel
theorem d_M_run_63 : decode b_M_run 63 = .ok (.goto (-32), 3) := by decide +kernel
theorem d_M_run_66 : decode b_M_run 66 = .ok (.iload 7, 2) := by decide +kernel
theorem d_M_run_68 : decode b_M_run 68 = .ok (.ifCond .ne 6, 3) := by decide +kernel
theorem d_M_run_71 : decode b_M_run 71 = .ok (.iload 6, 2) := by decide +kernel
theorem d_M_run_73 : decode b_M_run 73 = .ok (.ireturn, 1) := by decide +kernel
theorem d_M_run_74 : decode b_M_run 74 = .ok (.lload 4, 2) := by decide +kernel
theorem d_M_run_76 : decode b_M_run 76 = .ok (.ldc2_w 96, 3) := by decide +kernel
theorem d_M_run_79 : decode b_M_run 79 = .ok (.lmul, 1) := by decide +kernel
theorem d_M_run_80 : decode b_M_run 80 = .ok (.ldc2_w 98, 3) := by decide +kernel
theorem d_M_run_83 : decode b_M_run 83 = .ok (.ladd, 1) := by decide +kernel
theorem d_M_run_84 : decode b_M_run 84 = .ok (.lstore 4, 2) := by decide +kernel
theorem d_M_run_86 : decode b_M_run 86 = .ok (.lload 4, 2) := by decide +kernel
theorem d_M_run_88 : decode b_M_run 88 = .ok (.bipush 33, 2) := by decide +kernel
theorem d_M_run_90 : decode b_M_run 90 = .ok (.lushr, 1) := by decide +kernel
theorem d_M_run_91 : decode b_M_run 91 = .ok (.iload 7, 2) := by decide +kernel
theorem d_M_run_93 : decode b_M_run 93 = .ok (.i2l, 1) := by decide +kernel
theorem d_M_run_94 : decode b_M_run 94 = .ok (.lrem, 1) := by decide +kernel
theorem d_M_run_95 : decode b_M_run 95 = .ok (.l2i, 1) := by decide +kernel
theorem d_M_run_96 : decode b_M_run 96 = .ok (.istore 8, 2) := by decide +kernel
theorem d_M_run_98 : decode b_M_run 98 = .ok (.iconst 0, 1) := by decide +kernel
theorem d_M_run_99 : decode b_M_run 99 = .ok (.istore 9, 2) := by decide +kernel
theorem d_M_run_101 : decode b_M_run 101 = .ok (.iload 8, 2) := by decide +kernel
theorem d_M_run_103 : decode b_M_run 103 = .ok (.ifCond .gt 13, 3) := by decide +kernel
theorem d_M_run_106 : decode b_M_run 106 = .ok (.aload_n 0, 1) := by decide +kernel
theorem d_M_run_107 : decode b_M_run 107 = .ok (.iconst 0, 1) := by decide +kernel
theorem d_M_run_108 : decode b_M_run 108 = .ok (.iload 9, 2) := by decide +kernel
theorem d_M_run_110 : decode b_M_run 110 = .ok (.invokevirtual 88, 3) := by decide +kernel
theorem d_M_run_113 : decode b_M_run 113 = .ok (.ifCond .ne 29, 3) := by decide +kernel
theorem d_M_run_116 : decode b_M_run 116 = .ok (.iload 8, 2) := by decide +kernel
theorem d_M_run_118 : decode b_M_run 118 = .ok (.aload_n 0, 1) := by decide +kernel
theorem d_M_run_119 : decode b_M_run 119 = .ok (.iconst 0, 1) := by decide +kernel
theorem d_M_run_120 : decode b_M_run 120 = .ok (.iload 9, 2) := by decide +kernel
theorem d_M_run_122 : decode b_M_run 122 = .ok (.invokevirtual 88, 3) := by decide +kernel
theorem d_M_run_125 : decode b_M_run 125 = .ok (.ifCond .eq 7, 3) := by decide +kernel
theorem d_M_run_128 : decode b_M_run 128 = .ok (.iconst 1, 1) := by decide +kernel
theorem d_M_run_129 : decode b_M_run 129 = .ok (.goto 4, 3) := by decide +kernel
theorem d_M_run_132 : decode b_M_run 132 = .ok (.iconst 0, 1) := by decide +kernel
theorem d_M_run_133 : decode b_M_run 133 = .ok (.isub, 1) := by decide +kernel
theorem d_M_run_134 : decode b_M_run 134 = .ok (.istore 8, 2) := by decide +kernel
theorem d_M_run_136 : decode b_M_run 136 = .ok (.iinc 9 1, 3) := by decide +kernel
theorem d_M_run_139 : decode b_M_run 139 = .ok (.goto (-38), 3) := by decide +kernel
theorem d_M_run_142 : decode b_M_run 142 = .ok (.aload_n 0, 1) := by decide +kernel
theorem d_M_run_143 : decode b_M_run 143 = .ok (.iconst 0, 1) := by decide +kernel
theorem d_M_run_144 : decode b_M_run 144 = .ok (.iload 9, 2) := by decide +kernel
theorem d_M_run_146 : decode b_M_run 146 = .ok (.invokevirtual 92, 3) := by decide +kernel
theorem d_M_run_149 : decode b_M_run 149 = .ok (.iinc 6 1, 3) := by decide +kernel
theorem d_M_run_152 : decode b_M_run 152 = .ok (.goto (-133), 3) := by decide +kernel
theorem d_M_run_155 : decode b_M_run 155 = .ok (.iload_n 3, 1) := by decide +kernel
theorem d_M_run_156 : decode b_M_run 156 = .ok (.ireturn, 1) := by decide +kernel
theorem d_M_acted_0 : decode b_M_acted 0 = .ok (.aload_n 0, 1) := by decide +kernel
theorem d_M_acted_1 : decode b_M_acted 1 = .ok (.iload_n 1, 1) := by decide +kernel
theorem d_M_acted_2 : decode b_M_acted 2 = .ok (.invokevirtual 56, 3) := by decide +kernel
theorem d_M_acted_5 : decode b_M_acted 5 = .ok (.ifCond .eq 12, 3) := by decide +kernel
theorem d_M_acted_8 : decode b_M_acted 8 = .ok (.aload_n 0, 1) := by decide +kernel
theorem d_M_acted_9 : decode b_M_acted 9 = .ok (.getfield 34, 3) := by decide +kernel
theorem d_M_acted_12 : decode b_M_acted 12 = .ok (.iload_n 1, 1) := by decide +kernel
theorem d_M_acted_13 : decode b_M_acted 13 = .ok (.iaload, 1) := by decide +kernel
theorem d_M_acted_14 : decode b_M_acted 14 = .ok (.goto 4, 3) := by decide +kernel
theorem d_M_acted_17 : decode b_M_acted 17 = .ok (.iconst (-1), 1) := by decide +kernel
theorem d_M_acted_18 : decode b_M_acted 18 = .ok (.ireturn, 1) := by decide +kernel
theorem d_M_kept_0 : decode b_M_kept 0 = .ok (.aload_n 0, 1) := by decide +kernel
theorem d_M_kept_1 : decode b_M_kept 1 = .ok (.iload_n 1, 1) := by decide +kernel
theorem d_M_kept_2 : decode b_M_kept 2 = .ok (.invokevirtual 100, 3) := by decide +kernel
theorem d_M_kept_5 : decode b_M_kept 5 = .ok (.ifCond .eq 12, 3) := by decide +kernel
theorem d_M_kept_8 : decode b_M_kept 8 = .ok (.aload_n 0, 1) := by decide +kernel
theorem d_M_kept_9 : decode b_M_kept 9 = .ok (.getfield 40, 3) := by decide +kernel
theorem d_M_kept_12 : decode b_M_kept 12 = .ok (.iload_n 1, 1) := by decide +kernel
theorem d_M_kept_13 : decode b_M_kept 13 = .ok (.iaload, 1) := by decide +kernel
theorem d_M_kept_14 : decode b_M_kept 14 = .ok (.goto 4, 3) := by decide +kernel
theorem d_M_kept_17 : decode b_M_kept 17 = .ok (.iconst (-1), 1) := by decide +kernel
theorem d_M_kept_18 : decode b_M_kept 18 = .ok (.ireturn, 1) := by decide +kernel
theorem d_M_at_0 : decode b_M_at 0 = .ok (.aload_n 0, 1) := by decide +kernel
theorem d_M_at_1 : decode b_M_at 1 = .ok (.iload_n 1, 1) := by decide +kernel
theorem d_M_at_2 : decode b_M_at 2 = .ok (.invokevirtual 100, 3) := by decide +kernel
theorem d_M_at_5 : decode b_M_at 5 = .ok (.ifCond .eq 32, 3) := by decide +kernel
theorem d_M_at_8 : decode b_M_at 8 = .ok (.iload_n 2, 1) := by decide +kernel
theorem d_M_at_9 : decode b_M_at 9 = .ok (.ifCond .lt 28, 3) := by decide +kernel
theorem d_M_at_12 : decode b_M_at 12 = .ok (.iload_n 2, 1) := by decide +kernel
theorem d_M_at_13 : decode b_M_at 13 = .ok (.aload_n 0, 1) := by decide +kernel
theorem d_M_at_14 : decode b_M_at 14 = .ok (.getfield 40, 3) := by decide +kernel
theorem d_M_at_17 : decode b_M_at 17 = .ok (.iload_n 1, 1) := by decide +kernel
theorem d_M_at_18 : decode b_M_at 18 = .ok (.iaload, 1) := by decide +kernel
theorem d_M_at_19 : decode b_M_at 19 = .ok (.if_icmp .ge 18, 3) := by decide +kernel
theorem d_M_at_22 : decode b_M_at 22 = .ok (.aload_n 0, 1) := by decide +kernel
theorem d_M_at_23 : decode b_M_at 23 = .ok (.getfield 43, 3) := by decide +kernel
theorem d_M_at_26 : decode b_M_at 26 = .ok (.bipush 60, 2) := by decide +kernel
theorem d_M_at_28 : decode b_M_at 28 = .ok (.iload_n 1, 1) := by decide +kernel
theorem d_M_at_29 : decode b_M_at 29 = .ok (.imul, 1) := by decide +kernel
theorem d_M_at_30 : decode b_M_at 30 = .ok (.iload_n 2, 1) := by decide +kernel
theorem d_M_at_31 : decode b_M_at 31 = .ok (.iadd, 1) := by decide +kernel
theorem d_M_at_32 : decode b_M_at 32 = .ok (.iaload, 1) := by decide +kernel
theorem d_M_at_33 : decode b_M_at 33 = .ok (.i2l, 1) := by decide +kernel
theorem d_M_at_34 : decode b_M_at 34 = .ok (.goto 6, 3) := by decide +kernel
theorem d_M_at_37 : decode b_M_at 37 = .ok (.ldc2_w 103, 3) := by decide +kernel
theorem d_M_at_40 : decode b_M_at 40 = .ok (.lreturn, 1) := by decide +kernel
theorem d_M_waits_0 : decode b_M_waits 0 = .ok (.aload_n 0, 1) := by decide +kernel
theorem d_M_waits_1 : decode b_M_waits 1 = .ok (.iload_n 1, 1) := by decide +kernel
theorem d_M_waits_2 : decode b_M_waits 2 = .ok (.invokevirtual 105, 3) := by decide +kernel
theorem d_M_waits_5 : decode b_M_waits 5 = .ok (.ifCond .eq 12, 3) := by decide +kernel
theorem d_M_waits_8 : decode b_M_waits 8 = .ok (.aload_n 0, 1) := by decide +kernel
theorem d_M_waits_9 : decode b_M_waits 9 = .ok (.getfield 46, 3) := by decide +kernel
theorem d_M_waits_12 : decode b_M_waits 12 = .ok (.iload_n 1, 1) := by decide +kernel
theorem d_M_waits_13 : decode b_M_waits 13 = .ok (.iaload, 1) := by decide +kernel
theorem d_M_waits_14 : decode b_M_waits 14 = .ok (.goto 4, 3) := by decide +kernel
theorem d_M_waits_17 : decode b_M_waits 17 = .ok (.iconst (-1), 1) := by decide +kernel
theorem d_M_waits_18 : decode b_M_waits 18 = .ok (.ireturn, 1) := by decide +kernel
theorem d_M_waiting_0 : decode b_M_waiting 0 = .ok (.aload_n 0, 1) := by decide +kernel
theorem d_M_waiting_1 : decode b_M_waiting 1 = .ok (.iload_n 1, 1) := by decide +kernel
theorem d_M_waiting_2 : decode b_M_waiting 2 = .ok (.invokevirtual 105, 3) := by decide +kernel
theorem d_M_waiting_5 : decode b_M_waiting 5 = .ok (.ifCond .eq 32, 3) := by decide +kernel
theorem d_M_waiting_8 : decode b_M_waiting 8 = .ok (.iload_n 2, 1) := by decide +kernel
theorem d_M_waiting_9 : decode b_M_waiting 9 = .ok (.ifCond .lt 28, 3) := by decide +kernel
theorem d_M_waiting_12 : decode b_M_waiting 12 = .ok (.iload_n 2, 1) := by decide +kernel
theorem d_M_waiting_13 : decode b_M_waiting 13 = .ok (.aload_n 0, 1) := by decide +kernel
theorem d_M_waiting_14 : decode b_M_waiting 14 = .ok (.getfield 46, 3) := by decide +kernel
theorem d_M_waiting_17 : decode b_M_waiting 17 = .ok (.iload_n 1, 1) := by decide +kernel
theorem d_M_waiting_18 : decode b_M_waiting 18 = .ok (.iaload, 1) := by decide +kernel
theorem d_M_waiting_19 : decode b_M_waiting 19 = .ok (.if_icmp .ge 18, 3) := by decide +kernel
theorem d_M_waiting_22 : decode b_M_waiting 22 = .ok (.aload_n 0, 1) := by decide +kernel
theorem d_M_waiting_23 : decode b_M_waiting 23 = .ok (.getfield 49, 3) := by decide +kernel
theorem d_M_waiting_26 : decode b_M_waiting 26 = .ok (.bipush 8, 2) := by decide +kernel
theorem d_M_waiting_28 : decode b_M_waiting 28 = .ok (.iload_n 1, 1) := by decide +kernel
theorem d_M_waiting_29 : decode b_M_waiting 29 = .ok (.imul, 1) := by decide +kernel
theorem d_M_waiting_30 : decode b_M_waiting 30 = .ok (.iload_n 2, 1) := by decide +kernel
theorem d_M_waiting_31 : decode b_M_waiting 31 = .ok (.iadd, 1) := by decide +kernel
theorem d_M_waiting_32 : decode b_M_waiting 32 = .ok (.iaload, 1) := by decide +kernel
theorem d_M_waiting_33 : decode b_M_waiting 33 = .ok (.i2l, 1) := by decide +kernel
theorem d_M_waiting_34 : decode b_M_waiting 34 = .ok (.goto 6, 3) := by decide +kernel
theorem d_M_waiting_37 : decode b_M_waiting 37 = .ok (.ldc2_w 103, 3) := by decide +kernel
theorem d_M_waiting_40 : decode b_M_waiting 40 = .ok (.lreturn, 1) := by decide +kernel
theorem d_M_settle_0 : decode b_M_settle 0 = .ok (.iconst 0, 1) := by decide +kernel
theorem d_M_settle_1 : decode b_M_settle 1 = .ok (.istore_n 1, 1) := by decide +kernel
theorem d_M_settle_2 : decode b_M_settle 2 = .ok (.iload_n 1, 1) := by decide +kernel
theorem d_M_settle_3 : decode b_M_settle 3 = .ok (.bipush 10, 2) := by decide +kernel
theorem d_M_settle_5 : decode b_M_settle 5 = .ok (.if_icmp .ge 54, 3) := by decide +kernel
theorem d_M_settle_8 : decode b_M_settle 8 = .ok (.aload_n 0, 1) := by decide +kernel
theorem d_M_settle_9 : decode b_M_settle 9 = .ok (.getfield 34, 3) := by decide +kernel
theorem d_M_settle_12 : decode b_M_settle 12 = .ok (.bipush 10, 2) := by decide +kernel
theorem d_M_settle_14 : decode b_M_settle 14 = .ok (.iload_n 1, 1) := by decide +kernel
theorem d_M_settle_15 : decode b_M_settle 15 = .ok (.iadd, 1) := by decide +kernel
theorem d_M_settle_16 : decode b_M_settle 16 = .ok (.aload_n 0, 1) := by decide +kernel
theorem d_M_settle_17 : decode b_M_settle 17 = .ok (.getfield 34, 3) := by decide +kernel
theorem d_M_settle_20 : decode b_M_settle 20 = .ok (.iload_n 1, 1) := by decide +kernel
theorem d_M_settle_21 : decode b_M_settle 21 = .ok (.iaload, 1) := by decide +kernel
theorem d_M_settle_22 : decode b_M_settle 22 = .ok (.iastore, 1) := by decide +kernel
theorem d_M_settle_23 : decode b_M_settle 23 = .ok (.aload_n 0, 1) := by decide +kernel
theorem d_M_settle_24 : decode b_M_settle 24 = .ok (.getfield 37, 3) := by decide +kernel
theorem d_M_settle_27 : decode b_M_settle 27 = .ok (.bipush 10, 2) := by decide +kernel
theorem d_M_settle_29 : decode b_M_settle 29 = .ok (.iload_n 1, 1) := by decide +kernel
theorem d_M_settle_30 : decode b_M_settle 30 = .ok (.iadd, 1) := by decide +kernel
theorem d_M_settle_31 : decode b_M_settle 31 = .ok (.aload_n 0, 1) := by decide +kernel
theorem d_M_settle_32 : decode b_M_settle 32 = .ok (.getfield 37, 3) := by decide +kernel
theorem d_M_settle_35 : decode b_M_settle 35 = .ok (.iload_n 1, 1) := by decide +kernel
theorem d_M_settle_36 : decode b_M_settle 36 = .ok (.iaload, 1) := by decide +kernel
theorem d_M_settle_37 : decode b_M_settle 37 = .ok (.iastore, 1) := by decide +kernel
theorem d_M_settle_38 : decode b_M_settle 38 = .ok (.aload_n 0, 1) := by decide +kernel
theorem d_M_settle_39 : decode b_M_settle 39 = .ok (.getfield 40, 3) := by decide +kernel
theorem d_M_settle_42 : decode b_M_settle 42 = .ok (.bipush 10, 2) := by decide +kernel
theorem d_M_settle_44 : decode b_M_settle 44 = .ok (.iload_n 1, 1) := by decide +kernel
theorem d_M_settle_45 : decode b_M_settle 45 = .ok (.iadd, 1) := by decide +kernel
theorem d_M_settle_46 : decode b_M_settle 46 = .ok (.aload_n 0, 1) := by decide +kernel
theorem d_M_settle_47 : decode b_M_settle 47 = .ok (.getfield 40, 3) := by decide +kernel
theorem d_M_settle_50 : decode b_M_settle 50 = .ok (.iload_n 1, 1) := by decide +kernel
theorem d_M_settle_51 : decode b_M_settle 51 = .ok (.iaload, 1) := by decide +kernel
theorem d_M_settle_52 : decode b_M_settle 52 = .ok (.iastore, 1) := by decide +kernel
theorem d_M_settle_53 : decode b_M_settle 53 = .ok (.iinc 1 1, 3) := by decide +kernel
theorem d_M_settle_56 : decode b_M_settle 56 = .ok (.goto (-54), 3) := by decide +kernel
theorem d_M_settle_59 : decode b_M_settle 59 = .ok (.iconst 0, 1) := by decide +kernel
theorem d_M_settle_60 : decode b_M_settle 60 = .ok (.istore_n 1, 1) := by decide +kernel
theorem d_M_settle_61 : decode b_M_settle 61 = .ok (.iload_n 1, 1) := by decide +kernel
theorem d_M_settle_62 : decode b_M_settle 62 = .ok (.sipush 600, 3) := by decide +kernel
theorem d_M_settle_65 : decode b_M_settle 65 = .ok (.if_icmp .ge 25, 3) := by decide +kernel
theorem d_M_settle_68 : decode b_M_settle 68 = .ok (.aload_n 0, 1) := by decide +kernel
theorem d_M_settle_69 : decode b_M_settle 69 = .ok (.getfield 43, 3) := by decide +kernel
theorem d_M_settle_72 : decode b_M_settle 72 = .ok (.sipush 600, 3) := by decide +kernel
theorem d_M_settle_75 : decode b_M_settle 75 = .ok (.iload_n 1, 1) := by decide +kernel
theorem d_M_settle_76 : decode b_M_settle 76 = .ok (.iadd, 1) := by decide +kernel
theorem d_M_settle_77 : decode b_M_settle 77 = .ok (.aload_n 0, 1) := by decide +kernel
theorem d_M_settle_78 : decode b_M_settle 78 = .ok (.getfield 43, 3) := by decide +kernel
theorem d_M_settle_81 : decode b_M_settle 81 = .ok (.iload_n 1, 1) := by decide +kernel
theorem d_M_settle_82 : decode b_M_settle 82 = .ok (.iaload, 1) := by decide +kernel
theorem d_M_settle_83 : decode b_M_settle 83 = .ok (.iastore, 1) := by decide +kernel
theorem d_M_settle_84 : decode b_M_settle 84 = .ok (.iinc 1 1, 3) := by decide +kernel
theorem d_M_settle_87 : decode b_M_settle 87 = .ok (.goto (-26), 3) := by decide +kernel
theorem d_M_settle_90 : decode b_M_settle 90 = .ok (.iconst 0, 1) := by decide +kernel
theorem d_M_settle_91 : decode b_M_settle 91 = .ok (.istore_n 1, 1) := by decide +kernel
theorem d_M_settle_92 : decode b_M_settle 92 = .ok (.iload_n 1, 1) := by decide +kernel
theorem d_M_settle_93 : decode b_M_settle 93 = .ok (.bipush 16, 2) := by decide +kernel
theorem d_M_settle_95 : decode b_M_settle 95 = .ok (.if_icmp .ge 24, 3) := by decide +kernel
theorem d_M_settle_98 : decode b_M_settle 98 = .ok (.aload_n 0, 1) := by decide +kernel
theorem d_M_settle_99 : decode b_M_settle 99 = .ok (.getfield 46, 3) := by decide +kernel
theorem d_M_settle_102 : decode b_M_settle 102 = .ok (.bipush 16, 2) := by decide +kernel
theorem d_M_settle_104 : decode b_M_settle 104 = .ok (.iload_n 1, 1) := by decide +kernel
theorem d_M_settle_105 : decode b_M_settle 105 = .ok (.iadd, 1) := by decide +kernel
theorem d_M_settle_106 : decode b_M_settle 106 = .ok (.aload_n 0, 1) := by decide +kernel
theorem d_M_settle_107 : decode b_M_settle 107 = .ok (.getfield 46, 3) := by decide +kernel
theorem d_M_settle_110 : decode b_M_settle 110 = .ok (.iload_n 1, 1) := by decide +kernel
theorem d_M_settle_111 : decode b_M_settle 111 = .ok (.iaload, 1) := by decide +kernel
theorem d_M_settle_112 : decode b_M_settle 112 = .ok (.iastore, 1) := by decide +kernel
theorem d_M_settle_113 : decode b_M_settle 113 = .ok (.iinc 1 1, 3) := by decide +kernel
theorem d_M_settle_116 : decode b_M_settle 116 = .ok (.goto (-24), 3) := by decide +kernel
theorem d_M_settle_119 : decode b_M_settle 119 = .ok (.iconst 0, 1) := by decide +kernel
theorem d_M_settle_120 : decode b_M_settle 120 = .ok (.istore_n 1, 1) := by decide +kernel
theorem d_M_settle_121 : decode b_M_settle 121 = .ok (.iload_n 1, 1) := by decide +kernel
theorem d_M_settle_122 : decode b_M_settle 122 = .ok (.sipush 128, 3) := by decide +kernel
theorem d_M_settle_125 : decode b_M_settle 125 = .ok (.if_icmp .ge 25, 3) := by decide +kernel
theorem d_M_settle_128 : decode b_M_settle 128 = .ok (.aload_n 0, 1) := by decide +kernel
theorem d_M_settle_129 : decode b_M_settle 129 = .ok (.getfield 49, 3) := by decide +kernel
theorem d_M_settle_132 : decode b_M_settle 132 = .ok (.sipush 128, 3) := by decide +kernel
theorem d_M_settle_135 : decode b_M_settle 135 = .ok (.iload_n 1, 1) := by decide +kernel
theorem d_M_settle_136 : decode b_M_settle 136 = .ok (.iadd, 1) := by decide +kernel
theorem d_M_settle_137 : decode b_M_settle 137 = .ok (.aload_n 0, 1) := by decide +kernel
theorem d_M_settle_138 : decode b_M_settle 138 = .ok (.getfield 49, 3) := by decide +kernel
theorem d_M_settle_141 : decode b_M_settle 141 = .ok (.iload_n 1, 1) := by decide +kernel
theorem d_M_settle_142 : decode b_M_settle 142 = .ok (.iaload, 1) := by decide +kernel
theorem d_M_settle_143 : decode b_M_settle 143 = .ok (.iastore, 1) := by decide +kernel
theorem d_M_settle_144 : decode b_M_settle 144 = .ok (.iinc 1 1, 3) := by decide +kernel
theorem d_M_settle_147 : decode b_M_settle 147 = .ok (.goto (-26), 3) := by decide +kernel
theorem d_M_settle_150 : decode b_M_settle 150 = .ok (.aload_n 0, 1) := by decide +kernel
theorem d_M_settle_151 : decode b_M_settle 151 = .ok (.getfield 52, 3) := by decide +kernel
theorem d_M_settle_154 : decode b_M_settle 154 = .ok (.iconst 1, 1) := by decide +kernel
theorem d_M_settle_155 : decode b_M_settle 155 = .ok (.isub, 1) := by decide +kernel
theorem d_M_settle_156 : decode b_M_settle 156 = .ok (.istore_n 1, 1) := by decide +kernel
theorem d_M_settle_157 : decode b_M_settle 157 = .ok (.iload_n 1, 1) := by decide +kernel
theorem d_M_settle_158 : decode b_M_settle 158 = .ok (.ifCond .lt 34, 3) := by decide +kernel
theorem d_M_settle_161 : decode b_M_settle 161 = .ok (.aload_n 0, 1) := by decide +kernel
theorem d_M_settle_162 : decode b_M_settle 162 = .ok (.iconst 1, 1) := by decide +kernel
theorem d_M_settle_163 : decode b_M_settle 163 = .ok (.iload_n 1, 1) := by decide +kernel
theorem d_M_settle_164 : decode b_M_settle 164 = .ok (.invokevirtual 88, 3) := by decide +kernel
theorem d_M_settle_167 : decode b_M_settle 167 = .ok (.ifCond .eq 19, 3) := by decide +kernel
theorem d_M_settle_170 : decode b_M_settle 170 = .ok (.aload_n 0, 1) := by decide +kernel
theorem d_M_settle_171 : decode b_M_settle 171 = .ok (.iconst 1, 1) := by decide +kernel
theorem d_M_settle_172 : decode b_M_settle 172 = .ok (.iload_n 1, 1) := by decide +kernel
theorem d_M_settle_173 : decode b_M_settle 173 = .ok (.invokevirtual 92, 3) := by decide +kernel
theorem d_M_settle_176 : decode b_M_settle 176 = .ok (.aload_n 0, 1) := by decide +kernel
theorem d_M_settle_177 : decode b_M_settle 177 = .ok (.getfield 52, 3) := by decide +kernel
theorem d_M_settle_180 : decode b_M_settle 180 = .ok (.iconst 1, 1) := by decide +kernel
theorem d_M_settle_181 : decode b_M_settle 181 = .ok (.isub, 1) := by decide +kernel
theorem d_M_settle_182 : decode b_M_settle 182 = .ok (.istore_n 1, 1) := by decide +kernel
theorem d_M_settle_183 : decode b_M_settle 183 = .ok (.goto (-26), 3) := by decide +kernel
theorem d_M_settle_186 : decode b_M_settle 186 = .ok (.iinc 1 (-1), 3) := by decide +kernel
theorem d_M_settle_189 : decode b_M_settle 189 = .ok (.goto (-32), 3) := by decide +kernel
theorem d_M_settle_192 : decode b_M_settle 192 = .ok (.return_, 1) := by decide +kernel
theorem d_M_keptAtLast_0 : decode b_M_keptAtLast 0 = .ok (.aload_n 0, 1) := by decide +kernel
theorem d_M_keptAtLast_1 : decode b_M_keptAtLast 1 = .ok (.invokevirtual 108, 3) := by decide +kernel
theorem d_M_keptAtLast_4 : decode b_M_keptAtLast 4 = .ok (.aload_n 0, 1) := by decide +kernel
theorem d_M_keptAtLast_5 : decode b_M_keptAtLast 5 = .ok (.iload_n 1, 1) := by decide +kernel
theorem d_M_keptAtLast_6 : decode b_M_keptAtLast 6 = .ok (.invokevirtual 100, 3) := by decide +kernel
theorem d_M_keptAtLast_9 : decode b_M_keptAtLast 9 = .ok (.ifCond .eq 15, 3) := by decide +kernel
theorem d_M_keptAtLast_12 : decode b_M_keptAtLast 12 = .ok (.aload_n 0, 1) := by decide +kernel
theorem d_M_keptAtLast_13 : decode b_M_keptAtLast 13 = .ok (.getfield 40, 3) := by decide +kernel
theorem d_M_keptAtLast_16 : decode b_M_keptAtLast 16 = .ok (.bipush 10, 2) := by decide +kernel
theorem d_M_keptAtLast_18 : decode b_M_keptAtLast 18 = .ok (.iload_n 1, 1) := by decide +kernel
theorem d_M_keptAtLast_19 : decode b_M_keptAtLast 19 = .ok (.iadd, 1) := by decide +kernel
theorem d_M_keptAtLast_20 : decode b_M_keptAtLast 20 = .ok (.iaload, 1) := by decide +kernel
theorem d_M_keptAtLast_21 : decode b_M_keptAtLast 21 = .ok (.goto 4, 3) := by decide +kernel
theorem d_M_keptAtLast_24 : decode b_M_keptAtLast 24 = .ok (.iconst (-1), 1) := by decide +kernel
theorem d_M_keptAtLast_25 : decode b_M_keptAtLast 25 = .ok (.ireturn, 1) := by decide +kernel
theorem d_M_atLast_0 : decode b_M_atLast 0 = .ok (.aload_n 0, 1) := by decide +kernel
theorem d_M_atLast_1 : decode b_M_atLast 1 = .ok (.invokevirtual 108, 3) := by decide +kernel
theorem d_M_atLast_4 : decode b_M_atLast 4 = .ok (.aload_n 0, 1) := by decide +kernel
theorem d_M_atLast_5 : decode b_M_atLast 5 = .ok (.iload_n 1, 1) := by decide +kernel
theorem d_M_atLast_6 : decode b_M_atLast 6 = .ok (.invokevirtual 100, 3) := by decide +kernel
theorem d_M_atLast_9 : decode b_M_atLast 9 = .ok (.ifCond .eq 39, 3) := by decide +kernel
theorem d_M_atLast_12 : decode b_M_atLast 12 = .ok (.iload_n 2, 1) := by decide +kernel
theorem d_M_atLast_13 : decode b_M_atLast 13 = .ok (.ifCond .lt 35, 3) := by decide +kernel
theorem d_M_atLast_16 : decode b_M_atLast 16 = .ok (.iload_n 2, 1) := by decide +kernel
theorem d_M_atLast_17 : decode b_M_atLast 17 = .ok (.aload_n 0, 1) := by decide +kernel
theorem d_M_atLast_18 : decode b_M_atLast 18 = .ok (.getfield 40, 3) := by decide +kernel
theorem d_M_atLast_21 : decode b_M_atLast 21 = .ok (.bipush 10, 2) := by decide +kernel
theorem d_M_atLast_23 : decode b_M_atLast 23 = .ok (.iload_n 1, 1) := by decide +kernel
theorem d_M_atLast_24 : decode b_M_atLast 24 = .ok (.iadd, 1) := by decide +kernel
theorem d_M_atLast_25 : decode b_M_atLast 25 = .ok (.iaload, 1) := by decide +kernel
theorem d_M_atLast_26 : decode b_M_atLast 26 = .ok (.if_icmp .ge 22, 3) := by decide +kernel
theorem d_M_atLast_29 : decode b_M_atLast 29 = .ok (.aload_n 0, 1) := by decide +kernel
theorem d_M_atLast_30 : decode b_M_atLast 30 = .ok (.getfield 43, 3) := by decide +kernel
theorem d_M_atLast_33 : decode b_M_atLast 33 = .ok (.sipush 600, 3) := by decide +kernel
theorem d_M_atLast_36 : decode b_M_atLast 36 = .ok (.bipush 60, 2) := by decide +kernel
theorem d_M_atLast_38 : decode b_M_atLast 38 = .ok (.iload_n 1, 1) := by decide +kernel
theorem d_M_atLast_39 : decode b_M_atLast 39 = .ok (.imul, 1) := by decide +kernel
theorem d_M_atLast_40 : decode b_M_atLast 40 = .ok (.iadd, 1) := by decide +kernel
theorem d_M_atLast_41 : decode b_M_atLast 41 = .ok (.iload_n 2, 1) := by decide +kernel
theorem d_M_atLast_42 : decode b_M_atLast 42 = .ok (.iadd, 1) := by decide +kernel
theorem d_M_atLast_43 : decode b_M_atLast 43 = .ok (.iaload, 1) := by decide +kernel
theorem d_M_atLast_44 : decode b_M_atLast 44 = .ok (.i2l, 1) := by decide +kernel
theorem d_M_atLast_45 : decode b_M_atLast 45 = .ok (.goto 6, 3) := by decide +kernel
theorem d_M_atLast_48 : decode b_M_atLast 48 = .ok (.ldc2_w 103, 3) := by decide +kernel
theorem d_M_atLast_51 : decode b_M_atLast 51 = .ok (.lreturn, 1) := by decide +kernel
theorem d_M_actedAtLast_0 : decode b_M_actedAtLast 0 = .ok (.aload_n 0, 1) := by decide +kernel
theorem d_M_actedAtLast_1 : decode b_M_actedAtLast 1 = .ok (.invokevirtual 108, 3) := by decide +kernel
theorem d_M_actedAtLast_4 : decode b_M_actedAtLast 4 = .ok (.aload_n 0, 1) := by decide +kernel
theorem d_M_actedAtLast_5 : decode b_M_actedAtLast 5 = .ok (.iload_n 1, 1) := by decide +kernel
theorem d_M_actedAtLast_6 : decode b_M_actedAtLast 6 = .ok (.invokevirtual 56, 3) := by decide +kernel
theorem d_M_actedAtLast_9 : decode b_M_actedAtLast 9 = .ok (.ifCond .eq 15, 3) := by decide +kernel
theorem d_M_actedAtLast_12 : decode b_M_actedAtLast 12 = .ok (.aload_n 0, 1) := by decide +kernel
theorem d_M_actedAtLast_13 : decode b_M_actedAtLast 13 = .ok (.getfield 34, 3) := by decide +kernel
theorem d_M_actedAtLast_16 : decode b_M_actedAtLast 16 = .ok (.bipush 10, 2) := by decide +kernel
theorem d_M_actedAtLast_18 : decode b_M_actedAtLast 18 = .ok (.iload_n 1, 1) := by decide +kernel
theorem d_M_actedAtLast_19 : decode b_M_actedAtLast 19 = .ok (.iadd, 1) := by decide +kernel
theorem d_M_actedAtLast_20 : decode b_M_actedAtLast 20 = .ok (.iaload, 1) := by decide +kernel
theorem d_M_actedAtLast_21 : decode b_M_actedAtLast 21 = .ok (.goto 4, 3) := by decide +kernel
theorem d_M_actedAtLast_24 : decode b_M_actedAtLast 24 = .ok (.iconst (-1), 1) := by decide +kernel
theorem d_M_actedAtLast_25 : decode b_M_actedAtLast 25 = .ok (.ireturn, 1) := by decide +kernel
theorem d_M_fullAtLast_0 : decode b_M_fullAtLast 0 = .ok (.aload_n 0, 1) := by decide +kernel
theorem d_M_fullAtLast_1 : decode b_M_fullAtLast 1 = .ok (.invokevirtual 108, 3) := by decide +kernel
theorem d_M_fullAtLast_4 : decode b_M_fullAtLast 4 = .ok (.iconst 0, 1) := by decide +kernel
theorem d_M_fullAtLast_5 : decode b_M_fullAtLast 5 = .ok (.istore_n 2, 1) := by decide +kernel
theorem d_M_fullAtLast_6 : decode b_M_fullAtLast 6 = .ok (.iconst 0, 1) := by decide +kernel
theorem d_M_fullAtLast_7 : decode b_M_fullAtLast 7 = .ok (.istore_n 3, 1) := by decide +kernel
theorem d_M_fullAtLast_8 : decode b_M_fullAtLast 8 = .ok (.iload_n 3, 1) := by decide +kernel
theorem d_M_fullAtLast_9 : decode b_M_fullAtLast 9 = .ok (.aload_n 0, 1) := by decide +kernel
theorem d_M_fullAtLast_10 : decode b_M_fullAtLast 10 = .ok (.getfield 60, 3) := by decide +kernel
theorem d_M_fullAtLast_13 : decode b_M_fullAtLast 13 = .ok (.if_icmp .ge 59, 3) := by decide +kernel
theorem d_M_fullAtLast_16 : decode b_M_fullAtLast 16 = .ok (.aload_n 0, 1) := by decide +kernel
theorem d_M_fullAtLast_17 : decode b_M_fullAtLast 17 = .ok (.getfield 46, 3) := by decide +kernel
theorem d_M_fullAtLast_20 : decode b_M_fullAtLast 20 = .ok (.bipush 16, 2) := by decide +kernel
theorem d_M_fullAtLast_22 : decode b_M_fullAtLast 22 = .ok (.iload_n 3, 1) := by decide +kernel
theorem d_M_fullAtLast_23 : decode b_M_fullAtLast 23 = .ok (.iadd, 1) := by decide +kernel
theorem d_M_fullAtLast_24 : decode b_M_fullAtLast 24 = .ok (.iaload, 1) := by decide +kernel
theorem d_M_fullAtLast_25 : decode b_M_fullAtLast 25 = .ok (.aload_n 0, 1) := by decide +kernel
theorem d_M_fullAtLast_26 : decode b_M_fullAtLast 26 = .ok (.getfield 25, 3) := by decide +kernel
theorem d_M_fullAtLast_29 : decode b_M_fullAtLast 29 = .ok (.iload_n 3, 1) := by decide +kernel
theorem d_M_fullAtLast_30 : decode b_M_fullAtLast 30 = .ok (.iaload, 1) := by decide +kernel
theorem d_M_fullAtLast_31 : decode b_M_fullAtLast 31 = .ok (.if_icmp .ne 7, 3) := by decide +kernel
theorem d_M_fullAtLast_34 : decode b_M_fullAtLast 34 = .ok (.iconst 1, 1) := by decide +kernel
theorem d_M_fullAtLast_35 : decode b_M_fullAtLast 35 = .ok (.goto 4, 3) := by decide +kernel
theorem d_M_fullAtLast_38 : decode b_M_fullAtLast 38 = .ok (.iconst 0, 1) := by decide +kernel
theorem d_M_fullAtLast_39 : decode b_M_fullAtLast 39 = .ok (.istore 4, 2) := by decide +kernel
theorem d_M_fullAtLast_41 : decode b_M_fullAtLast 41 = .ok (.iload 4, 2) := by decide +kernel
theorem d_M_fullAtLast_43 : decode b_M_fullAtLast 43 = .ok (.ifCond .eq 10, 3) := by decide +kernel
theorem d_M_fullAtLast_46 : decode b_M_fullAtLast 46 = .ok (.iload_n 2, 1) := by decide +kernel
theorem d_M_fullAtLast_47 : decode b_M_fullAtLast 47 = .ok (.iload_n 1, 1) := by decide +kernel
theorem d_M_fullAtLast_48 : decode b_M_fullAtLast 48 = .ok (.if_icmp .ne 5, 3) := by decide +kernel
theorem d_M_fullAtLast_51 : decode b_M_fullAtLast 51 = .ok (.iload_n 3, 1) := by decide +kernel
theorem d_M_fullAtLast_52 : decode b_M_fullAtLast 52 = .ok (.ireturn, 1) := by decide +kernel
theorem d_M_fullAtLast_53 : decode b_M_fullAtLast 53 = .ok (.iload_n 2, 1) := by decide +kernel
theorem d_M_fullAtLast_54 : decode b_M_fullAtLast 54 = .ok (.iload 4, 2) := by decide +kernel
theorem d_M_fullAtLast_56 : decode b_M_fullAtLast 56 = .ok (.ifCond .eq 7, 3) := by decide +kernel
theorem d_M_fullAtLast_59 : decode b_M_fullAtLast 59 = .ok (.iconst 1, 1) := by decide +kernel
theorem d_M_fullAtLast_60 : decode b_M_fullAtLast 60 = .ok (.goto 4, 3) := by decide +kernel
theorem d_M_fullAtLast_63 : decode b_M_fullAtLast 63 = .ok (.iconst 0, 1) := by decide +kernel
theorem d_M_fullAtLast_64 : decode b_M_fullAtLast 64 = .ok (.iadd, 1) := by decide +kernel
theorem d_M_fullAtLast_65 : decode b_M_fullAtLast 65 = .ok (.istore_n 2, 1) := by decide +kernel
theorem d_M_fullAtLast_66 : decode b_M_fullAtLast 66 = .ok (.iinc 3 1, 3) := by decide +kernel
theorem d_M_fullAtLast_69 : decode b_M_fullAtLast 69 = .ok (.goto (-61), 3) := by decide +kernel
theorem d_M_fullAtLast_72 : decode b_M_fullAtLast 72 = .ok (.iconst (-1), 1) := by decide +kernel
theorem d_M_fullAtLast_73 : decode b_M_fullAtLast 73 = .ok (.ireturn, 1) := by decide +kernel
end
section
/-! each instruction, by program: L -/
theorem d_L_law_0 : decode code 0 = .ok (.new 7, 3) := by decide +kernel
theorem d_L_law_3 : decode code 3 = .ok (.dup, 1) := by decide +kernel
theorem d_L_law_4 : decode code 4 = .ok (.invokespecial 9, 3) := by decide +kernel
theorem d_L_law_7 : decode code 7 = .ok (.astore_n 1, 1) := by decide +kernel
theorem d_L_law_8 : decode code 8 = .ok (.new 10, 3) := by decide +kernel
theorem d_L_law_11 : decode code 11 = .ok (.dup, 1) := by decide +kernel
theorem d_L_law_12 : decode code 12 = .ok (.invokespecial 12, 3) := by decide +kernel
theorem d_L_law_15 : decode code 15 = .ok (.astore_n 2, 1) := by decide +kernel
theorem d_L_law_16 : decode code 16 = .ok (.iconst 0, 1) := by decide +kernel
theorem d_L_law_17 : decode code 17 = .ok (.istore_n 3, 1) := by decide +kernel
theorem d_L_law_18 : decode code 18 = .ok (.iload_n 3, 1) := by decide +kernel
theorem d_L_law_19 : decode code 19 = .ok (.aload_n 0, 1) := by decide +kernel
theorem d_L_law_20 : decode code 20 = .ok (.arraylength, 1) := by decide +kernel
theorem d_L_law_21 : decode code 21 = .ok (.bipush 6, 2) := by decide +kernel
theorem d_L_law_23 : decode code 23 = .ok (.isub, 1) := by decide +kernel
theorem d_L_law_24 : decode code 24 = .ok (.if_icmp .gt 578, 3) := by decide +kernel
theorem d_L_law_27 : decode code 27 = .ok (.aload_n 0, 1) := by decide +kernel
theorem d_L_law_28 : decode code 28 = .ok (.iload_n 3, 1) := by decide +kernel
theorem d_L_law_29 : decode code 29 = .ok (.iaload, 1) := by decide +kernel
theorem d_L_law_30 : decode code 30 = .ok (.bipush 15, 2) := by decide +kernel
theorem d_L_law_32 : decode code 32 = .ok (.iand, 1) := by decide +kernel
theorem d_L_law_33 : decode code 33 = .ok (.tableswitch 563 0 14 #[75, 118, 151, 214, 237, 260, 323, 346, 369, 403, 426, 460, 483, 517, 540], 75) := by decide +kernel
theorem d_L_law_108 : decode code 108 = .ok (.aload_n 1, 1) := by decide +kernel
theorem d_L_law_109 : decode code 109 = .ok (.aload_n 0, 1) := by decide +kernel
theorem d_L_law_110 : decode code 110 = .ok (.iload_n 3, 1) := by decide +kernel
theorem d_L_law_111 : decode code 111 = .ok (.iconst 1, 1) := by decide +kernel
theorem d_L_law_112 : decode code 112 = .ok (.iadd, 1) := by decide +kernel
theorem d_L_law_113 : decode code 113 = .ok (.iaload, 1) := by decide +kernel
theorem d_L_law_114 : decode code 114 = .ok (.aload_n 0, 1) := by decide +kernel
theorem d_L_law_115 : decode code 115 = .ok (.iload_n 3, 1) := by decide +kernel
theorem d_L_law_116 : decode code 116 = .ok (.iconst 2, 1) := by decide +kernel
theorem d_L_law_117 : decode code 117 = .ok (.iadd, 1) := by decide +kernel
theorem d_L_law_118 : decode code 118 = .ok (.iaload, 1) := by decide +kernel
theorem d_L_law_119 : decode code 119 = .ok (.aload_n 0, 1) := by decide +kernel
theorem d_L_law_120 : decode code 120 = .ok (.iload_n 3, 1) := by decide +kernel
theorem d_L_law_121 : decode code 121 = .ok (.iconst 3, 1) := by decide +kernel
theorem d_L_law_122 : decode code 122 = .ok (.iadd, 1) := by decide +kernel
theorem d_L_law_123 : decode code 123 = .ok (.iaload, 1) := by decide +kernel
theorem d_L_law_124 : decode code 124 = .ok (.invokevirtual 13, 3) := by decide +kernel
theorem d_L_law_127 : decode code 127 = .ok (.aload_n 2, 1) := by decide +kernel
theorem d_L_law_128 : decode code 128 = .ok (.aload_n 0, 1) := by decide +kernel
theorem d_L_law_129 : decode code 129 = .ok (.iload_n 3, 1) := by decide +kernel
theorem d_L_law_130 : decode code 130 = .ok (.iconst 1, 1) := by decide +kernel
theorem d_L_law_131 : decode code 131 = .ok (.iadd, 1) := by decide +kernel
theorem d_L_law_132 : decode code 132 = .ok (.iaload, 1) := by decide +kernel
theorem d_L_law_133 : decode code 133 = .ok (.aload_n 0, 1) := by decide +kernel
theorem d_L_law_134 : decode code 134 = .ok (.iload_n 3, 1) := by decide +kernel
theorem d_L_law_135 : decode code 135 = .ok (.iconst 2, 1) := by decide +kernel
theorem d_L_law_136 : decode code 136 = .ok (.iadd, 1) := by decide +kernel
theorem d_L_law_137 : decode code 137 = .ok (.iaload, 1) := by decide +kernel
theorem d_L_law_138 : decode code 138 = .ok (.aload_n 0, 1) := by decide +kernel
theorem d_L_law_139 : decode code 139 = .ok (.iload_n 3, 1) := by decide +kernel
theorem d_L_law_140 : decode code 140 = .ok (.iconst 3, 1) := by decide +kernel
theorem d_L_law_141 : decode code 141 = .ok (.iadd, 1) := by decide +kernel
theorem d_L_law_142 : decode code 142 = .ok (.iaload, 1) := by decide +kernel
theorem d_L_law_143 : decode code 143 = .ok (.invokevirtual 17, 3) := by decide +kernel
theorem d_L_law_146 : decode code 146 = .ok (.if_icmp .eq 450, 3) := by decide +kernel
theorem d_L_law_149 : decode code 149 = .ok (.iconst 0, 1) := by decide +kernel
theorem d_L_law_150 : decode code 150 = .ok (.ireturn, 1) := by decide +kernel
theorem d_L_law_151 : decode code 151 = .ok (.aload_n 1, 1) := by decide +kernel
theorem d_L_law_152 : decode code 152 = .ok (.aload_n 0, 1) := by decide +kernel
theorem d_L_law_153 : decode code 153 = .ok (.iload_n 3, 1) := by decide +kernel
theorem d_L_law_154 : decode code 154 = .ok (.iconst 1, 1) := by decide +kernel
theorem d_L_law_155 : decode code 155 = .ok (.iadd, 1) := by decide +kernel
theorem d_L_law_156 : decode code 156 = .ok (.iaload, 1) := by decide +kernel
theorem d_L_law_157 : decode code 157 = .ok (.aload_n 0, 1) := by decide +kernel
theorem d_L_law_158 : decode code 158 = .ok (.iload_n 3, 1) := by decide +kernel
theorem d_L_law_159 : decode code 159 = .ok (.iconst 2, 1) := by decide +kernel
theorem d_L_law_160 : decode code 160 = .ok (.iadd, 1) := by decide +kernel
theorem d_L_law_161 : decode code 161 = .ok (.iaload, 1) := by decide +kernel
theorem d_L_law_162 : decode code 162 = .ok (.invokevirtual 18, 3) := by decide +kernel
theorem d_L_law_165 : decode code 165 = .ok (.aload_n 2, 1) := by decide +kernel
theorem d_L_law_166 : decode code 166 = .ok (.aload_n 0, 1) := by decide +kernel
theorem d_L_law_167 : decode code 167 = .ok (.iload_n 3, 1) := by decide +kernel
theorem d_L_law_168 : decode code 168 = .ok (.iconst 1, 1) := by decide +kernel
theorem d_L_law_169 : decode code 169 = .ok (.iadd, 1) := by decide +kernel
theorem d_L_law_170 : decode code 170 = .ok (.iaload, 1) := by decide +kernel
theorem d_L_law_171 : decode code 171 = .ok (.aload_n 0, 1) := by decide +kernel
theorem d_L_law_172 : decode code 172 = .ok (.iload_n 3, 1) := by decide +kernel
theorem d_L_law_173 : decode code 173 = .ok (.iconst 2, 1) := by decide +kernel
theorem d_L_law_174 : decode code 174 = .ok (.iadd, 1) := by decide +kernel
theorem d_L_law_175 : decode code 175 = .ok (.iaload, 1) := by decide +kernel
theorem d_L_law_176 : decode code 176 = .ok (.invokevirtual 22, 3) := by decide +kernel
theorem d_L_law_179 : decode code 179 = .ok (.if_icmp .eq 417, 3) := by decide +kernel
theorem d_L_law_182 : decode code 182 = .ok (.iconst 0, 1) := by decide +kernel
theorem d_L_law_183 : decode code 183 = .ok (.ireturn, 1) := by decide +kernel
theorem d_L_law_184 : decode code 184 = .ok (.aload_n 1, 1) := by decide +kernel
theorem d_L_law_185 : decode code 185 = .ok (.aload_n 0, 1) := by decide +kernel
theorem d_L_law_186 : decode code 186 = .ok (.iload_n 3, 1) := by decide +kernel
theorem d_L_law_187 : decode code 187 = .ok (.iconst 1, 1) := by decide +kernel
theorem d_L_law_188 : decode code 188 = .ok (.iadd, 1) := by decide +kernel
theorem d_L_law_189 : decode code 189 = .ok (.iaload, 1) := by decide +kernel
theorem d_L_law_190 : decode code 190 = .ok (.aload_n 0, 1) := by decide +kernel
theorem d_L_law_191 : decode code 191 = .ok (.iload_n 3, 1) := by decide +kernel
theorem d_L_law_192 : decode code 192 = .ok (.iconst 2, 1) := by decide +kernel
theorem d_L_law_193 : decode code 193 = .ok (.iadd, 1) := by decide +kernel
theorem d_L_law_194 : decode code 194 = .ok (.iaload, 1) := by decide +kernel
theorem d_L_law_195 : decode code 195 = .ok (.aload_n 0, 1) := by decide +kernel
theorem d_L_law_196 : decode code 196 = .ok (.iload_n 3, 1) := by decide +kernel
theorem d_L_law_197 : decode code 197 = .ok (.iconst 3, 1) := by decide +kernel
theorem d_L_law_198 : decode code 198 = .ok (.iadd, 1) := by decide +kernel
theorem d_L_law_199 : decode code 199 = .ok (.iaload, 1) := by decide +kernel
theorem d_L_law_200 : decode code 200 = .ok (.aload_n 0, 1) := by decide +kernel
theorem d_L_law_201 : decode code 201 = .ok (.iload_n 3, 1) := by decide +kernel
theorem d_L_law_202 : decode code 202 = .ok (.iconst 4, 1) := by decide +kernel
theorem d_L_law_203 : decode code 203 = .ok (.iadd, 1) := by decide +kernel
theorem d_L_law_204 : decode code 204 = .ok (.iaload, 1) := by decide +kernel
theorem d_L_law_205 : decode code 205 = .ok (.aload_n 0, 1) := by decide +kernel
theorem d_L_law_206 : decode code 206 = .ok (.iload_n 3, 1) := by decide +kernel
theorem d_L_law_207 : decode code 207 = .ok (.iconst 5, 1) := by decide +kernel
theorem d_L_law_208 : decode code 208 = .ok (.iadd, 1) := by decide +kernel
theorem d_L_law_209 : decode code 209 = .ok (.iaload, 1) := by decide +kernel
theorem d_L_law_210 : decode code 210 = .ok (.invokevirtual 23, 3) := by decide +kernel
theorem d_L_law_213 : decode code 213 = .ok (.aload_n 2, 1) := by decide +kernel
theorem d_L_law_214 : decode code 214 = .ok (.aload_n 0, 1) := by decide +kernel
theorem d_L_law_215 : decode code 215 = .ok (.iload_n 3, 1) := by decide +kernel
theorem d_L_law_216 : decode code 216 = .ok (.iconst 1, 1) := by decide +kernel
theorem d_L_law_217 : decode code 217 = .ok (.iadd, 1) := by decide +kernel
theorem d_L_law_218 : decode code 218 = .ok (.iaload, 1) := by decide +kernel
theorem d_L_law_219 : decode code 219 = .ok (.aload_n 0, 1) := by decide +kernel
theorem d_L_law_220 : decode code 220 = .ok (.iload_n 3, 1) := by decide +kernel
theorem d_L_law_221 : decode code 221 = .ok (.iconst 2, 1) := by decide +kernel
theorem d_L_law_222 : decode code 222 = .ok (.iadd, 1) := by decide +kernel
theorem d_L_law_223 : decode code 223 = .ok (.iaload, 1) := by decide +kernel
theorem d_L_law_224 : decode code 224 = .ok (.aload_n 0, 1) := by decide +kernel
theorem d_L_law_225 : decode code 225 = .ok (.iload_n 3, 1) := by decide +kernel
theorem d_L_law_226 : decode code 226 = .ok (.iconst 3, 1) := by decide +kernel
theorem d_L_law_227 : decode code 227 = .ok (.iadd, 1) := by decide +kernel
theorem d_L_law_228 : decode code 228 = .ok (.iaload, 1) := by decide +kernel
theorem d_L_law_229 : decode code 229 = .ok (.aload_n 0, 1) := by decide +kernel
theorem d_L_law_230 : decode code 230 = .ok (.iload_n 3, 1) := by decide +kernel
theorem d_L_law_231 : decode code 231 = .ok (.iconst 4, 1) := by decide +kernel
theorem d_L_law_232 : decode code 232 = .ok (.iadd, 1) := by decide +kernel
theorem d_L_law_233 : decode code 233 = .ok (.iaload, 1) := by decide +kernel
theorem d_L_law_234 : decode code 234 = .ok (.aload_n 0, 1) := by decide +kernel
theorem d_L_law_235 : decode code 235 = .ok (.iload_n 3, 1) := by decide +kernel
theorem d_L_law_236 : decode code 236 = .ok (.iconst 5, 1) := by decide +kernel
theorem d_L_law_237 : decode code 237 = .ok (.iadd, 1) := by decide +kernel
theorem d_L_law_238 : decode code 238 = .ok (.iaload, 1) := by decide +kernel
theorem d_L_law_239 : decode code 239 = .ok (.invokevirtual 27, 3) := by decide +kernel
theorem d_L_law_242 : decode code 242 = .ok (.if_icmp .eq 354, 3) := by decide +kernel
theorem d_L_law_245 : decode code 245 = .ok (.iconst 0, 1) := by decide +kernel
theorem d_L_law_246 : decode code 246 = .ok (.ireturn, 1) := by decide +kernel
theorem d_L_law_247 : decode code 247 = .ok (.aload_n 1, 1) := by decide +kernel
theorem d_L_law_248 : decode code 248 = .ok (.aload_n 0, 1) := by decide +kernel
theorem d_L_law_249 : decode code 249 = .ok (.iload_n 3, 1) := by decide +kernel
theorem d_L_law_250 : decode code 250 = .ok (.iconst 1, 1) := by decide +kernel
theorem d_L_law_251 : decode code 251 = .ok (.iadd, 1) := by decide +kernel
theorem d_L_law_252 : decode code 252 = .ok (.iaload, 1) := by decide +kernel
theorem d_L_law_253 : decode code 253 = .ok (.invokevirtual 28, 3) := by decide +kernel
theorem d_L_law_256 : decode code 256 = .ok (.aload_n 2, 1) := by decide +kernel
theorem d_L_law_257 : decode code 257 = .ok (.aload_n 0, 1) := by decide +kernel
theorem d_L_law_258 : decode code 258 = .ok (.iload_n 3, 1) := by decide +kernel
theorem d_L_law_259 : decode code 259 = .ok (.iconst 1, 1) := by decide +kernel
theorem d_L_law_260 : decode code 260 = .ok (.iadd, 1) := by decide +kernel
theorem d_L_law_261 : decode code 261 = .ok (.iaload, 1) := by decide +kernel
theorem d_L_law_262 : decode code 262 = .ok (.invokevirtual 32, 3) := by decide +kernel
theorem d_L_law_265 : decode code 265 = .ok (.if_icmp .eq 331, 3) := by decide +kernel
theorem d_L_law_268 : decode code 268 = .ok (.iconst 0, 1) := by decide +kernel
theorem d_L_law_269 : decode code 269 = .ok (.ireturn, 1) := by decide +kernel
theorem d_L_law_270 : decode code 270 = .ok (.aload_n 1, 1) := by decide +kernel
theorem d_L_law_271 : decode code 271 = .ok (.aload_n 0, 1) := by decide +kernel
theorem d_L_law_272 : decode code 272 = .ok (.iload_n 3, 1) := by decide +kernel
theorem d_L_law_273 : decode code 273 = .ok (.iconst 1, 1) := by decide +kernel
theorem d_L_law_274 : decode code 274 = .ok (.iadd, 1) := by decide +kernel
theorem d_L_law_275 : decode code 275 = .ok (.iaload, 1) := by decide +kernel
theorem d_L_law_276 : decode code 276 = .ok (.invokevirtual 33, 3) := by decide +kernel
theorem d_L_law_279 : decode code 279 = .ok (.aload_n 2, 1) := by decide +kernel
theorem d_L_law_280 : decode code 280 = .ok (.aload_n 0, 1) := by decide +kernel
theorem d_L_law_281 : decode code 281 = .ok (.iload_n 3, 1) := by decide +kernel
theorem d_L_law_282 : decode code 282 = .ok (.iconst 1, 1) := by decide +kernel
theorem d_L_law_283 : decode code 283 = .ok (.iadd, 1) := by decide +kernel
theorem d_L_law_284 : decode code 284 = .ok (.iaload, 1) := by decide +kernel
theorem d_L_law_285 : decode code 285 = .ok (.invokevirtual 36, 3) := by decide +kernel
theorem d_L_law_288 : decode code 288 = .ok (.if_icmp .eq 308, 3) := by decide +kernel
theorem d_L_law_291 : decode code 291 = .ok (.iconst 0, 1) := by decide +kernel
theorem d_L_law_292 : decode code 292 = .ok (.ireturn, 1) := by decide +kernel
theorem d_L_law_293 : decode code 293 = .ok (.aload_n 1, 1) := by decide +kernel
theorem d_L_law_294 : decode code 294 = .ok (.aload_n 0, 1) := by decide +kernel
theorem d_L_law_295 : decode code 295 = .ok (.iload_n 3, 1) := by decide +kernel
theorem d_L_law_296 : decode code 296 = .ok (.iconst 1, 1) := by decide +kernel
theorem d_L_law_297 : decode code 297 = .ok (.iadd, 1) := by decide +kernel
theorem d_L_law_298 : decode code 298 = .ok (.iaload, 1) := by decide +kernel
theorem d_L_law_299 : decode code 299 = .ok (.i2l, 1) := by decide +kernel
theorem d_L_law_300 : decode code 300 = .ok (.bipush 32, 2) := by decide +kernel
theorem d_L_law_302 : decode code 302 = .ok (.lshl, 1) := by decide +kernel
theorem d_L_law_303 : decode code 303 = .ok (.aload_n 0, 1) := by decide +kernel
theorem d_L_law_304 : decode code 304 = .ok (.iload_n 3, 1) := by decide +kernel
theorem d_L_law_305 : decode code 305 = .ok (.iconst 2, 1) := by decide +kernel
theorem d_L_law_306 : decode code 306 = .ok (.iadd, 1) := by decide +kernel
theorem d_L_law_307 : decode code 307 = .ok (.iaload, 1) := by decide +kernel
theorem d_L_law_308 : decode code 308 = .ok (.i2l, 1) := by decide +kernel
theorem d_L_law_309 : decode code 309 = .ok (.ldc2_w 37, 3) := by decide +kernel
theorem d_L_law_312 : decode code 312 = .ok (.land, 1) := by decide +kernel
theorem d_L_law_313 : decode code 313 = .ok (.lor, 1) := by decide +kernel
theorem d_L_law_314 : decode code 314 = .ok (.aload_n 0, 1) := by decide +kernel
theorem d_L_law_315 : decode code 315 = .ok (.iload_n 3, 1) := by decide +kernel
theorem d_L_law_316 : decode code 316 = .ok (.iconst 3, 1) := by decide +kernel
theorem d_L_law_317 : decode code 317 = .ok (.iadd, 1) := by decide +kernel
theorem d_L_law_318 : decode code 318 = .ok (.iaload, 1) := by decide +kernel
theorem d_L_law_319 : decode code 319 = .ok (.invokevirtual 39, 3) := by decide +kernel
theorem d_L_law_322 : decode code 322 = .ok (.aload_n 2, 1) := by decide +kernel
theorem d_L_law_323 : decode code 323 = .ok (.aload_n 0, 1) := by decide +kernel
theorem d_L_law_324 : decode code 324 = .ok (.iload_n 3, 1) := by decide +kernel
theorem d_L_law_325 : decode code 325 = .ok (.iconst 1, 1) := by decide +kernel
theorem d_L_law_326 : decode code 326 = .ok (.iadd, 1) := by decide +kernel
theorem d_L_law_327 : decode code 327 = .ok (.iaload, 1) := by decide +kernel
theorem d_L_law_328 : decode code 328 = .ok (.i2l, 1) := by decide +kernel
theorem d_L_law_329 : decode code 329 = .ok (.bipush 32, 2) := by decide +kernel
theorem d_L_law_331 : decode code 331 = .ok (.lshl, 1) := by decide +kernel
theorem d_L_law_332 : decode code 332 = .ok (.aload_n 0, 1) := by decide +kernel
theorem d_L_law_333 : decode code 333 = .ok (.iload_n 3, 1) := by decide +kernel
theorem d_L_law_334 : decode code 334 = .ok (.iconst 2, 1) := by decide +kernel
theorem d_L_law_335 : decode code 335 = .ok (.iadd, 1) := by decide +kernel
theorem d_L_law_336 : decode code 336 = .ok (.iaload, 1) := by decide +kernel
theorem d_L_law_337 : decode code 337 = .ok (.i2l, 1) := by decide +kernel
theorem d_L_law_338 : decode code 338 = .ok (.ldc2_w 37, 3) := by decide +kernel
theorem d_L_law_341 : decode code 341 = .ok (.land, 1) := by decide +kernel
theorem d_L_law_342 : decode code 342 = .ok (.lor, 1) := by decide +kernel
theorem d_L_law_343 : decode code 343 = .ok (.aload_n 0, 1) := by decide +kernel
theorem d_L_law_344 : decode code 344 = .ok (.iload_n 3, 1) := by decide +kernel
theorem d_L_law_345 : decode code 345 = .ok (.iconst 3, 1) := by decide +kernel
theorem d_L_law_346 : decode code 346 = .ok (.iadd, 1) := by decide +kernel
theorem d_L_law_347 : decode code 347 = .ok (.iaload, 1) := by decide +kernel
theorem d_L_law_348 : decode code 348 = .ok (.invokevirtual 43, 3) := by decide +kernel
theorem d_L_law_351 : decode code 351 = .ok (.if_icmp .eq 245, 3) := by decide +kernel
theorem d_L_law_354 : decode code 354 = .ok (.iconst 0, 1) := by decide +kernel
theorem d_L_law_355 : decode code 355 = .ok (.ireturn, 1) := by decide +kernel
theorem d_L_law_356 : decode code 356 = .ok (.aload_n 1, 1) := by decide +kernel
theorem d_L_law_357 : decode code 357 = .ok (.aload_n 0, 1) := by decide +kernel
theorem d_L_law_358 : decode code 358 = .ok (.iload_n 3, 1) := by decide +kernel
theorem d_L_law_359 : decode code 359 = .ok (.iconst 1, 1) := by decide +kernel
theorem d_L_law_360 : decode code 360 = .ok (.iadd, 1) := by decide +kernel
theorem d_L_law_361 : decode code 361 = .ok (.iaload, 1) := by decide +kernel
theorem d_L_law_362 : decode code 362 = .ok (.invokevirtual 44, 3) := by decide +kernel
theorem d_L_law_365 : decode code 365 = .ok (.aload_n 2, 1) := by decide +kernel
theorem d_L_law_366 : decode code 366 = .ok (.aload_n 0, 1) := by decide +kernel
theorem d_L_law_367 : decode code 367 = .ok (.iload_n 3, 1) := by decide +kernel
theorem d_L_law_368 : decode code 368 = .ok (.iconst 1, 1) := by decide +kernel
theorem d_L_law_369 : decode code 369 = .ok (.iadd, 1) := by decide +kernel
theorem d_L_law_370 : decode code 370 = .ok (.iaload, 1) := by decide +kernel
theorem d_L_law_371 : decode code 371 = .ok (.invokevirtual 48, 3) := by decide +kernel
theorem d_L_law_374 : decode code 374 = .ok (.if_icmp .eq 222, 3) := by decide +kernel
theorem d_L_law_377 : decode code 377 = .ok (.iconst 0, 1) := by decide +kernel
theorem d_L_law_378 : decode code 378 = .ok (.ireturn, 1) := by decide +kernel
theorem d_L_law_379 : decode code 379 = .ok (.aload_n 1, 1) := by decide +kernel
theorem d_L_law_380 : decode code 380 = .ok (.aload_n 0, 1) := by decide +kernel
theorem d_L_law_381 : decode code 381 = .ok (.iload_n 3, 1) := by decide +kernel
theorem d_L_law_382 : decode code 382 = .ok (.iconst 1, 1) := by decide +kernel
theorem d_L_law_383 : decode code 383 = .ok (.iadd, 1) := by decide +kernel
theorem d_L_law_384 : decode code 384 = .ok (.iaload, 1) := by decide +kernel
theorem d_L_law_385 : decode code 385 = .ok (.invokevirtual 49, 3) := by decide +kernel
theorem d_L_law_388 : decode code 388 = .ok (.aload_n 2, 1) := by decide +kernel
theorem d_L_law_389 : decode code 389 = .ok (.aload_n 0, 1) := by decide +kernel
theorem d_L_law_390 : decode code 390 = .ok (.iload_n 3, 1) := by decide +kernel
theorem d_L_law_391 : decode code 391 = .ok (.iconst 1, 1) := by decide +kernel
theorem d_L_law_392 : decode code 392 = .ok (.iadd, 1) := by decide +kernel
theorem d_L_law_393 : decode code 393 = .ok (.iaload, 1) := by decide +kernel
theorem d_L_law_394 : decode code 394 = .ok (.invokevirtual 52, 3) := by decide +kernel
theorem d_L_law_397 : decode code 397 = .ok (.if_icmp .eq 199, 3) := by decide +kernel
theorem d_L_law_400 : decode code 400 = .ok (.iconst 0, 1) := by decide +kernel
theorem d_L_law_401 : decode code 401 = .ok (.ireturn, 1) := by decide +kernel
theorem d_L_law_402 : decode code 402 = .ok (.aload_n 1, 1) := by decide +kernel
theorem d_L_law_403 : decode code 403 = .ok (.aload_n 0, 1) := by decide +kernel
theorem d_L_law_404 : decode code 404 = .ok (.iload_n 3, 1) := by decide +kernel
theorem d_L_law_405 : decode code 405 = .ok (.iconst 1, 1) := by decide +kernel
theorem d_L_law_406 : decode code 406 = .ok (.iadd, 1) := by decide +kernel
theorem d_L_law_407 : decode code 407 = .ok (.iaload, 1) := by decide +kernel
theorem d_L_law_408 : decode code 408 = .ok (.aload_n 0, 1) := by decide +kernel
theorem d_L_law_409 : decode code 409 = .ok (.iload_n 3, 1) := by decide +kernel
theorem d_L_law_410 : decode code 410 = .ok (.iconst 2, 1) := by decide +kernel
theorem d_L_law_411 : decode code 411 = .ok (.iadd, 1) := by decide +kernel
theorem d_L_law_412 : decode code 412 = .ok (.iaload, 1) := by decide +kernel
theorem d_L_law_413 : decode code 413 = .ok (.invokevirtual 53, 3) := by decide +kernel
theorem d_L_law_416 : decode code 416 = .ok (.aload_n 2, 1) := by decide +kernel
theorem d_L_law_417 : decode code 417 = .ok (.aload_n 0, 1) := by decide +kernel
theorem d_L_law_418 : decode code 418 = .ok (.iload_n 3, 1) := by decide +kernel
theorem d_L_law_419 : decode code 419 = .ok (.iconst 1, 1) := by decide +kernel
theorem d_L_law_420 : decode code 420 = .ok (.iadd, 1) := by decide +kernel
theorem d_L_law_421 : decode code 421 = .ok (.iaload, 1) := by decide +kernel
theorem d_L_law_422 : decode code 422 = .ok (.aload_n 0, 1) := by decide +kernel
theorem d_L_law_423 : decode code 423 = .ok (.iload_n 3, 1) := by decide +kernel
theorem d_L_law_424 : decode code 424 = .ok (.iconst 2, 1) := by decide +kernel
theorem d_L_law_425 : decode code 425 = .ok (.iadd, 1) := by decide +kernel
theorem d_L_law_426 : decode code 426 = .ok (.iaload, 1) := by decide +kernel
theorem d_L_law_427 : decode code 427 = .ok (.invokevirtual 57, 3) := by decide +kernel
theorem d_L_law_430 : decode code 430 = .ok (.lcmp, 1) := by decide +kernel
theorem d_L_law_431 : decode code 431 = .ok (.ifCond .eq 165, 3) := by decide +kernel
theorem d_L_law_434 : decode code 434 = .ok (.iconst 0, 1) := by decide +kernel
theorem d_L_law_435 : decode code 435 = .ok (.ireturn, 1) := by decide +kernel
theorem d_L_law_436 : decode code 436 = .ok (.aload_n 1, 1) := by decide +kernel
theorem d_L_law_437 : decode code 437 = .ok (.aload_n 0, 1) := by decide +kernel
theorem d_L_law_438 : decode code 438 = .ok (.iload_n 3, 1) := by decide +kernel
theorem d_L_law_439 : decode code 439 = .ok (.iconst 1, 1) := by decide +kernel
theorem d_L_law_440 : decode code 440 = .ok (.iadd, 1) := by decide +kernel
theorem d_L_law_441 : decode code 441 = .ok (.iaload, 1) := by decide +kernel
theorem d_L_law_442 : decode code 442 = .ok (.invokevirtual 58, 3) := by decide +kernel
theorem d_L_law_445 : decode code 445 = .ok (.aload_n 2, 1) := by decide +kernel
theorem d_L_law_446 : decode code 446 = .ok (.aload_n 0, 1) := by decide +kernel
theorem d_L_law_447 : decode code 447 = .ok (.iload_n 3, 1) := by decide +kernel
theorem d_L_law_448 : decode code 448 = .ok (.iconst 1, 1) := by decide +kernel
theorem d_L_law_449 : decode code 449 = .ok (.iadd, 1) := by decide +kernel
theorem d_L_law_450 : decode code 450 = .ok (.iaload, 1) := by decide +kernel
theorem d_L_law_451 : decode code 451 = .ok (.invokevirtual 61, 3) := by decide +kernel
theorem d_L_law_454 : decode code 454 = .ok (.if_icmp .eq 142, 3) := by decide +kernel
theorem d_L_law_457 : decode code 457 = .ok (.iconst 0, 1) := by decide +kernel
theorem d_L_law_458 : decode code 458 = .ok (.ireturn, 1) := by decide +kernel
theorem d_L_law_459 : decode code 459 = .ok (.aload_n 1, 1) := by decide +kernel
theorem d_L_law_460 : decode code 460 = .ok (.aload_n 0, 1) := by decide +kernel
theorem d_L_law_461 : decode code 461 = .ok (.iload_n 3, 1) := by decide +kernel
theorem d_L_law_462 : decode code 462 = .ok (.iconst 1, 1) := by decide +kernel
theorem d_L_law_463 : decode code 463 = .ok (.iadd, 1) := by decide +kernel
theorem d_L_law_464 : decode code 464 = .ok (.iaload, 1) := by decide +kernel
theorem d_L_law_465 : decode code 465 = .ok (.aload_n 0, 1) := by decide +kernel
theorem d_L_law_466 : decode code 466 = .ok (.iload_n 3, 1) := by decide +kernel
theorem d_L_law_467 : decode code 467 = .ok (.iconst 2, 1) := by decide +kernel
theorem d_L_law_468 : decode code 468 = .ok (.iadd, 1) := by decide +kernel
theorem d_L_law_469 : decode code 469 = .ok (.iaload, 1) := by decide +kernel
theorem d_L_law_470 : decode code 470 = .ok (.invokevirtual 62, 3) := by decide +kernel
theorem d_L_law_473 : decode code 473 = .ok (.aload_n 2, 1) := by decide +kernel
theorem d_L_law_474 : decode code 474 = .ok (.aload_n 0, 1) := by decide +kernel
theorem d_L_law_475 : decode code 475 = .ok (.iload_n 3, 1) := by decide +kernel
theorem d_L_law_476 : decode code 476 = .ok (.iconst 1, 1) := by decide +kernel
theorem d_L_law_477 : decode code 477 = .ok (.iadd, 1) := by decide +kernel
theorem d_L_law_478 : decode code 478 = .ok (.iaload, 1) := by decide +kernel
theorem d_L_law_479 : decode code 479 = .ok (.aload_n 0, 1) := by decide +kernel
theorem d_L_law_480 : decode code 480 = .ok (.iload_n 3, 1) := by decide +kernel
theorem d_L_law_481 : decode code 481 = .ok (.iconst 2, 1) := by decide +kernel
theorem d_L_law_482 : decode code 482 = .ok (.iadd, 1) := by decide +kernel
theorem d_L_law_483 : decode code 483 = .ok (.iaload, 1) := by decide +kernel
theorem d_L_law_484 : decode code 484 = .ok (.invokevirtual 65, 3) := by decide +kernel
theorem d_L_law_487 : decode code 487 = .ok (.lcmp, 1) := by decide +kernel
theorem d_L_law_488 : decode code 488 = .ok (.ifCond .eq 108, 3) := by decide +kernel
theorem d_L_law_491 : decode code 491 = .ok (.iconst 0, 1) := by decide +kernel
theorem d_L_law_492 : decode code 492 = .ok (.ireturn, 1) := by decide +kernel
theorem d_L_law_493 : decode code 493 = .ok (.aload_n 1, 1) := by decide +kernel
theorem d_L_law_494 : decode code 494 = .ok (.aload_n 0, 1) := by decide +kernel
theorem d_L_law_495 : decode code 495 = .ok (.iload_n 3, 1) := by decide +kernel
theorem d_L_law_496 : decode code 496 = .ok (.iconst 1, 1) := by decide +kernel
theorem d_L_law_497 : decode code 497 = .ok (.iadd, 1) := by decide +kernel
theorem d_L_law_498 : decode code 498 = .ok (.iaload, 1) := by decide +kernel
theorem d_L_law_499 : decode code 499 = .ok (.invokevirtual 66, 3) := by decide +kernel
theorem d_L_law_502 : decode code 502 = .ok (.aload_n 2, 1) := by decide +kernel
theorem d_L_law_503 : decode code 503 = .ok (.aload_n 0, 1) := by decide +kernel
theorem d_L_law_504 : decode code 504 = .ok (.iload_n 3, 1) := by decide +kernel
theorem d_L_law_505 : decode code 505 = .ok (.iconst 1, 1) := by decide +kernel
theorem d_L_law_506 : decode code 506 = .ok (.iadd, 1) := by decide +kernel
theorem d_L_law_507 : decode code 507 = .ok (.iaload, 1) := by decide +kernel
theorem d_L_law_508 : decode code 508 = .ok (.invokevirtual 69, 3) := by decide +kernel
theorem d_L_law_511 : decode code 511 = .ok (.if_icmp .eq 85, 3) := by decide +kernel
theorem d_L_law_514 : decode code 514 = .ok (.iconst 0, 1) := by decide +kernel
theorem d_L_law_515 : decode code 515 = .ok (.ireturn, 1) := by decide +kernel
theorem d_L_law_516 : decode code 516 = .ok (.aload_n 1, 1) := by decide +kernel
theorem d_L_law_517 : decode code 517 = .ok (.aload_n 0, 1) := by decide +kernel
theorem d_L_law_518 : decode code 518 = .ok (.iload_n 3, 1) := by decide +kernel
theorem d_L_law_519 : decode code 519 = .ok (.iconst 1, 1) := by decide +kernel
theorem d_L_law_520 : decode code 520 = .ok (.iadd, 1) := by decide +kernel
theorem d_L_law_521 : decode code 521 = .ok (.iaload, 1) := by decide +kernel
theorem d_L_law_522 : decode code 522 = .ok (.aload_n 0, 1) := by decide +kernel
theorem d_L_law_523 : decode code 523 = .ok (.iload_n 3, 1) := by decide +kernel
theorem d_L_law_524 : decode code 524 = .ok (.iconst 2, 1) := by decide +kernel
theorem d_L_law_525 : decode code 525 = .ok (.iadd, 1) := by decide +kernel
theorem d_L_law_526 : decode code 526 = .ok (.iaload, 1) := by decide +kernel
theorem d_L_law_527 : decode code 527 = .ok (.invokevirtual 70, 3) := by decide +kernel
theorem d_L_law_530 : decode code 530 = .ok (.aload_n 2, 1) := by decide +kernel
theorem d_L_law_531 : decode code 531 = .ok (.aload_n 0, 1) := by decide +kernel
theorem d_L_law_532 : decode code 532 = .ok (.iload_n 3, 1) := by decide +kernel
theorem d_L_law_533 : decode code 533 = .ok (.iconst 1, 1) := by decide +kernel
theorem d_L_law_534 : decode code 534 = .ok (.iadd, 1) := by decide +kernel
theorem d_L_law_535 : decode code 535 = .ok (.iaload, 1) := by decide +kernel
theorem d_L_law_536 : decode code 536 = .ok (.aload_n 0, 1) := by decide +kernel
theorem d_L_law_537 : decode code 537 = .ok (.iload_n 3, 1) := by decide +kernel
theorem d_L_law_538 : decode code 538 = .ok (.iconst 2, 1) := by decide +kernel
theorem d_L_law_539 : decode code 539 = .ok (.iadd, 1) := by decide +kernel
theorem d_L_law_540 : decode code 540 = .ok (.iaload, 1) := by decide +kernel
theorem d_L_law_541 : decode code 541 = .ok (.invokevirtual 73, 3) := by decide +kernel
theorem d_L_law_544 : decode code 544 = .ok (.lcmp, 1) := by decide +kernel
theorem d_L_law_545 : decode code 545 = .ok (.ifCond .eq 51, 3) := by decide +kernel
theorem d_L_law_548 : decode code 548 = .ok (.iconst 0, 1) := by decide +kernel
theorem d_L_law_549 : decode code 549 = .ok (.ireturn, 1) := by decide +kernel
theorem d_L_law_550 : decode code 550 = .ok (.aload_n 1, 1) := by decide +kernel
theorem d_L_law_551 : decode code 551 = .ok (.aload_n 0, 1) := by decide +kernel
theorem d_L_law_552 : decode code 552 = .ok (.iload_n 3, 1) := by decide +kernel
theorem d_L_law_553 : decode code 553 = .ok (.iconst 1, 1) := by decide +kernel
theorem d_L_law_554 : decode code 554 = .ok (.iadd, 1) := by decide +kernel
theorem d_L_law_555 : decode code 555 = .ok (.iaload, 1) := by decide +kernel
theorem d_L_law_556 : decode code 556 = .ok (.invokevirtual 74, 3) := by decide +kernel
theorem d_L_law_559 : decode code 559 = .ok (.aload_n 2, 1) := by decide +kernel
theorem d_L_law_560 : decode code 560 = .ok (.aload_n 0, 1) := by decide +kernel
theorem d_L_law_561 : decode code 561 = .ok (.iload_n 3, 1) := by decide +kernel
theorem d_L_law_562 : decode code 562 = .ok (.iconst 1, 1) := by decide +kernel
theorem d_L_law_563 : decode code 563 = .ok (.iadd, 1) := by decide +kernel
theorem d_L_law_564 : decode code 564 = .ok (.iaload, 1) := by decide +kernel
theorem d_L_law_565 : decode code 565 = .ok (.invokevirtual 77, 3) := by decide +kernel
theorem d_L_law_568 : decode code 568 = .ok (.if_icmp .eq 28, 3) := by decide +kernel
theorem d_L_law_571 : decode code 571 = .ok (.iconst 0, 1) := by decide +kernel
theorem d_L_law_572 : decode code 572 = .ok (.ireturn, 1) := by decide +kernel
theorem d_L_law_573 : decode code 573 = .ok (.aload_n 1, 1) := by decide +kernel
theorem d_L_law_574 : decode code 574 = .ok (.aload_n 0, 1) := by decide +kernel
theorem d_L_law_575 : decode code 575 = .ok (.iload_n 3, 1) := by decide +kernel
theorem d_L_law_576 : decode code 576 = .ok (.iconst 1, 1) := by decide +kernel
theorem d_L_law_577 : decode code 577 = .ok (.iadd, 1) := by decide +kernel
theorem d_L_law_578 : decode code 578 = .ok (.iaload, 1) := by decide +kernel
theorem d_L_law_579 : decode code 579 = .ok (.invokevirtual 78, 3) := by decide +kernel
theorem d_L_law_582 : decode code 582 = .ok (.aload_n 2, 1) := by decide +kernel
theorem d_L_law_583 : decode code 583 = .ok (.aload_n 0, 1) := by decide +kernel
theorem d_L_law_584 : decode code 584 = .ok (.iload_n 3, 1) := by decide +kernel
theorem d_L_law_585 : decode code 585 = .ok (.iconst 1, 1) := by decide +kernel
theorem d_L_law_586 : decode code 586 = .ok (.iadd, 1) := by decide +kernel
theorem d_L_law_587 : decode code 587 = .ok (.iaload, 1) := by decide +kernel
theorem d_L_law_588 : decode code 588 = .ok (.invokevirtual 81, 3) := by decide +kernel
theorem d_L_law_591 : decode code 591 = .ok (.if_icmp .eq 5, 3) := by decide +kernel
theorem d_L_law_594 : decode code 594 = .ok (.iconst 0, 1) := by decide +kernel
theorem d_L_law_595 : decode code 595 = .ok (.ireturn, 1) := by decide +kernel
theorem d_L_law_596 : decode code 596 = .ok (.iinc 3 6, 3) := by decide +kernel
theorem d_L_law_599 : decode code 599 = .ok (.goto (-581), 3) := by decide +kernel
theorem d_L_law_602 : decode code 602 = .ok (.iconst 1, 1) := by decide +kernel
theorem d_L_law_603 : decode code 603 = .ok (.ireturn, 1) := by decide +kernel
end
section
/-! THE YARD AS NUMBERS AND LISTS: what it is to act; that the end does not depend on the order -/
/-- what acting leaves alone: how many actors, kinds, a, b, the channel at an in, at an out, the rooms, what sources were told -/
abbrev yp_T : Type := Nat × (Nat → Nat) × (Nat → Int32) × (Nat → Int32) × (Nat → Nat → Option Nat) × (Nat → Nat → Option Nat) × (Nat → Nat) × (Nat → List Int32)
def yp_n (T : yp_T) : Nat := T.1
def yp_kd (T : yp_T) : Nat → Nat := T.2.1
def yp_a (T : yp_T) : Nat → Int32 := T.2.2.1
def yp_b (T : yp_T) : Nat → Int32 := T.2.2.2.1
def yp_ic (T : yp_T) : Nat → Nat → Option Nat := T.2.2.2.2.1
def yp_oc (T : yp_T) : Nat → Nat → Option Nat := T.2.2.2.2.2.1
def yp_rm (T : yp_T) : Nat → Nat := T.2.2.2.2.2.2.1
def yp_sr (T : yp_T) : Nat → List Int32 := T.2.2.2.2.2.2.2
/-- what acting changes: how often each acted, what each kept, what waits in each channel -/
abbrev yp_D : Type := (Nat → Nat) × (Nat → List Int32) × (Nat → List Int32)
/-- one act: from which ins it takes, what it gives to which outs, what it keeps -/
abbrev yp_P : Type := Bool × Bool × Option Int32 × Option Int32 × Option Int32
def yp_plan (kd : Nat) (a b : Int32) (sr : List Int32) (tm : Nat) (h0 h1 : Option Int32) : Option yp_P :=
  if 100 ≤ tm then none else
  match kd with
  | 0 => (sr[tm]?).map fun v => (false, false, some v, none, none)
  | 1 => h0.map fun v => (true, false, some (v * a + b), none, none)
  | 2 => h0.map fun v => if tm % 2 = 0 then (true, false, some v, none, none) else (true, false, none, some v, none)
  | 3 => if tm % 2 = 0 then h0.map fun v => (true, false, some v, none, none) else h1.map fun v => (false, true, some v, none, none)
  | 4 => h0.bind fun v => h1.map fun w => (true, true, some (v + w), none, none)
  | 5 => if tm = 0 then some (false, false, some a, none, none) else h0.map fun v => (true, false, some v, none, none)
  | 6 => if 60 ≤ tm then none else h0.map fun v => (true, false, none, none, some v)
  | 7 => h0.bind fun v => h1.map fun w => (true, true, if v = 0 then none else some w, none, none)
  | 8 => h0.map fun v => (true, false, some v, some v, none)
  | _ => none
def yp_hd (T : yp_T) (d : yp_D) (i k : Nat) : Option Int32 := (yp_ic T i k).bind fun c => (d.2.2 c).head?
def yp_pl (T : yp_T) (d : yp_D) (i : Nat) : Option yp_P := yp_plan (yp_kd T i) (yp_a T i) (yp_b T i) (yp_sr T i) (d.1 i) (yp_hd T d i 0) (yp_hd T d i 1)
def yp_roomb (T : yp_T) (d : yp_D) (i k : Nat) : Bool := match yp_oc T i k with
  | none => true
  | some c => decide ((d.2.2 c).length < yp_rm T c)
def yp_fitb (T : yp_T) (d : yp_D) (i : Nat) (p : yp_P) : Bool := (p.2.2.1.isNone || yp_roomb T d i 0) && (p.2.2.2.1.isNone || yp_roomb T d i 1)
def yp_canb (T : yp_T) (d : yp_D) (i : Nat) : Bool := match yp_pl T d i with
  | none => false
  | some p => yp_fitb T d i p
def yp_take (T : yp_T) (i : Nat) (p : yp_P) (c : Nat) : Bool := (p.1 && decide (yp_ic T i 0 = some c)) || (p.2.1 && decide (yp_ic T i 1 = some c))
def yp_give (T : yp_T) (i : Nat) (p : yp_P) (c : Nat) : List Int32 := (if yp_oc T i 0 = some c then p.2.2.1.toList else []) ++ (if yp_oc T i 1 = some c then p.2.2.2.1.toList else [])
def yp_q (T : yp_T) (i : Nat) (p : yp_P) (q : Nat → List Int32) : Nat → List Int32 := fun c => (if yp_take T i p c = true then (q c).tail else q c) ++ yp_give T i p c
def yp_kp (i : Nat) (p : yp_P) (k : Nat → List Int32) : Nat → List Int32 := match p.2.2.2.2 with
  | none => k
  | some v => va_up k i (k i ++ [v])
def yp_do (T : yp_T) (d : yp_D) (i : Nat) (p : yp_P) : yp_D := (va_up d.1 i (d.1 i + 1), yp_kp i p d.2.1, yp_q T i p d.2.2)
def yp_act (T : yp_T) (d : yp_D) (i : Nat) : yp_D := match yp_pl T d i with
  | none => d
  | some p => yp_do T d i p
/-- no in and no out has two channels, no channel two ins or two outs -/
def yp_wf (T : yp_T) : Prop := (∀ i j k k' c, yp_ic T i k = some c → yp_ic T j k' = some c → i = j ∧ k = k') ∧ (∀ i j k k' c, yp_oc T i k = some c → yp_oc T j k' = some c → i = j ∧ k = k')
theorem yp_can_of {T : yp_T} {d : yp_D} {i : Nat} (h : yp_canb T d i = true) : ∃ p, yp_pl T d i = some p ∧ yp_fitb T d i p = true := by
  unfold yp_canb at h
  cases e : yp_pl T d i with
  | none => rw [e] at h; cases h
  | some p => rw [e] at h; exact ⟨p, rfl, h⟩
theorem yp_can_mk {T : yp_T} {d : yp_D} {i : Nat} {p : yp_P} (h : yp_pl T d i = some p) (hf : yp_fitb T d i p = true) : yp_canb T d i = true := by
  unfold yp_canb; rw [h]; exact hf
theorem yp_act_of {T : yp_T} {d : yp_D} {i : Nat} {p : yp_P} (h : yp_pl T d i = some p) : yp_act T d i = yp_do T d i p := by
  unfold yp_act; rw [h]
/-- a plan stays when empty ins get values -/
theorem yp_mono {kd tm : Nat} {a b : Int32} {sr : List Int32} {h0 h1 h0' h1' : Option Int32} {p : yp_P} (e0 : ∀ v, h0 = some v → h0' = some v) (e1 : ∀ v, h1 = some v → h1' = some v) (h : yp_plan kd a b sr tm h0 h1 = some p) : yp_plan kd a b sr tm h0' h1' = some p := by
  unfold yp_plan at h ⊢
  by_cases h9 : 100 ≤ tm
  · rw [if_pos h9] at h; cases h
  · rw [if_neg h9] at h ⊢
    have m0 : ∀ (f : Int32 → yp_P), h0.map f = some p → h0'.map f = some p := fun f q => by
      cases h0 with
      | none => cases q
      | some v => rw [e0 v rfl]; exact q
    have m1 : ∀ (f : Int32 → yp_P), h1.map f = some p → h1'.map f = some p := fun f q => by
      cases h1 with
      | none => cases q
      | some v => rw [e1 v rfl]; exact q
    have mb : ∀ (f : Int32 → Int32 → yp_P), (h0.bind fun v => h1.map (f v)) = some p → (h0'.bind fun v => h1'.map (f v)) = some p := fun f q => by
      cases h0 with
      | none => cases q
      | some v =>
        rw [e0 v rfl]
        exact (by
          cases h1 with
          | none => cases q
          | some w => rw [e1 w rfl]; exact q)
    match kd, h with
    | 0, h => exact h
    | 1, h => exact m0 _ h
    | 2, h => exact m0 _ h
    | 3, h =>
      by_cases h8 : tm % 2 = 0
      · simp only [if_pos h8] at h ⊢; exact m0 _ h
      · simp only [if_neg h8] at h ⊢; exact m1 _ h
    | 4, h => exact mb _ h
    | 5, h =>
      by_cases h8 : tm = 0
      · simp only [if_pos h8] at h ⊢; exact h
      · simp only [if_neg h8] at h ⊢; exact m0 _ h
    | 6, h =>
      by_cases h8 : 60 ≤ tm
      · simp only [if_pos h8] at h; cases h
      · simp only [if_neg h8] at h ⊢; exact m0 _ h
    | 7, h => exact mb _ h
    | 8, h => exact m0 _ h
    | k + 9, h => cases h
/-- who takes from an in has a value there -/
theorem yp_heads {kd tm : Nat} {a b : Int32} {sr : List Int32} {h0 h1 : Option Int32} {p : yp_P} (h : yp_plan kd a b sr tm h0 h1 = some p) : (p.1 = true → h0 ≠ none) ∧ (p.2.1 = true → h1 ≠ none) := by
  unfold yp_plan at h
  by_cases h9 : 100 ≤ tm
  · rw [if_pos h9] at h; cases h
  · rw [if_neg h9] at h
    match kd, h with
    | 0, h =>
      cases e : sr[tm]? with
      | none => rw [e] at h; cases h
      | some v => rw [e] at h; cases h; exact ⟨fun q => (by cases q), fun q => (by cases q)⟩
    | 1, h =>
      cases h0 with
      | none => cases h
      | some v => cases h; exact ⟨fun _ q => (by cases q), fun q => (by cases q)⟩
    | 2, h =>
      cases h0 with
      | none => cases h
      | some v =>
        by_cases h8 : tm % 2 = 0
        · simp only [Option.map_some, if_pos h8] at h; cases h; exact ⟨fun _ q => (by cases q), fun q => (by cases q)⟩
        · simp only [Option.map_some, if_neg h8] at h; cases h; exact ⟨fun _ q => (by cases q), fun q => (by cases q)⟩
    | 3, h =>
      by_cases h8 : tm % 2 = 0
      · simp only [if_pos h8] at h
        cases h0 with
        | none => cases h
        | some v => cases h; exact ⟨fun _ q => (by cases q), fun q => (by cases q)⟩
      · simp only [if_neg h8] at h
        cases h1 with
        | none => cases h
        | some v => cases h; exact ⟨fun q => (by cases q), fun _ q => (by cases q)⟩
    | 4, h =>
      cases h0 with
      | none => cases h
      | some v =>
        cases h1 with
        | none => cases h
        | some w => exact ⟨fun _ q => (by cases q), fun _ q => (by cases q)⟩
    | 5, h =>
      by_cases h8 : tm = 0
      · simp only [if_pos h8] at h; cases h; exact ⟨fun q => (by cases q), fun q => (by cases q)⟩
      · simp only [if_neg h8] at h
        cases h0 with
        | none => cases h
        | some v => cases h; exact ⟨fun _ q => (by cases q), fun q => (by cases q)⟩
    | 6, h =>
      by_cases h8 : 60 ≤ tm
      · simp only [if_pos h8] at h; cases h
      · simp only [if_neg h8] at h
        cases h0 with
        | none => cases h
        | some v => cases h; exact ⟨fun _ q => (by cases q), fun q => (by cases q)⟩
    | 7, h =>
      cases h0 with
      | none => cases h
      | some v =>
        cases h1 with
        | none => cases h
        | some w => exact ⟨fun _ q => (by cases q), fun _ q => (by cases q)⟩
    | 8, h =>
      cases h0 with
      | none => cases h
      | some v => cases h; exact ⟨fun _ q => (by cases q), fun q => (by cases q)⟩
    | k + 9, h => cases h
theorem yp_plan_lt {kd tm : Nat} {a b : Int32} {sr : List Int32} {h0 h1 : Option Int32} {p : yp_P} (h : yp_plan kd a b sr tm h0 h1 = some p) : tm < 100 := by
  unfold yp_plan at h
  by_cases h9 : 100 ≤ tm
  · rw [if_pos h9] at h; cases h
  · omega
/-- who takes from a channel finds a value there -/
theorem yp_take_ne {T : yp_T} {d : yp_D} {i : Nat} {p : yp_P} (h : yp_pl T d i = some p) {c : Nat} (ht : yp_take T i p c = true) : d.2.2 c ≠ [] := by
  have hh := yp_heads h
  unfold yp_take at ht
  intro hq
  rcases Bool.or_eq_true _ _ ▸ ht with h1 | h1
  · obtain ⟨h2, h3⟩ := Bool.and_eq_true _ _ ▸ h1
    have h4 : yp_ic T i 0 = some c := of_decide_eq_true h3
    apply hh.1 h2
    unfold yp_hd
    rw [h4]
    show (d.2.2 c).head? = none
    rw [hq]; rfl
  · obtain ⟨h2, h3⟩ := Bool.and_eq_true _ _ ▸ h1
    have h4 : yp_ic T i 1 = some c := of_decide_eq_true h3
    apply hh.2 h2
    unfold yp_hd
    rw [h4]
    show (d.2.2 c).head? = none
    rw [hq]; rfl
theorem yp_take_ic {T : yp_T} {i : Nat} {p : yp_P} {c : Nat} (ht : yp_take T i p c = true) : ∃ k, yp_ic T i k = some c := by
  unfold yp_take at ht
  rcases Bool.or_eq_true _ _ ▸ ht with h1 | h1
  · exact ⟨0, of_decide_eq_true (Bool.and_eq_true _ _ ▸ h1).2⟩
  · exact ⟨1, of_decide_eq_true (Bool.and_eq_true _ _ ▸ h1).2⟩
theorem yp_give_oc {T : yp_T} {i : Nat} {p : yp_P} {c : Nat} (hg : yp_give T i p c ≠ []) : ∃ k, yp_oc T i k = some c := by
  unfold yp_give at hg
  by_cases h0 : yp_oc T i 0 = some c
  · exact ⟨0, h0⟩
  · by_cases h1 : yp_oc T i 1 = some c
    · exact ⟨1, h1⟩
    · rw [if_neg h0, if_neg h1] at hg
      exact absurd rfl hg
theorem yp_take_other {T : yp_T} (hw : yp_wf T) {i j k : Nat} (hij : i ≠ j) {p : yp_P} {c : Nat} (hc : yp_ic T j k = some c) : yp_take T i p c = false := by
  cases h : yp_take T i p c with
  | false => rfl
  | true =>
    obtain ⟨k', hk'⟩ := yp_take_ic h
    exact absurd (hw.1 i j k' k c hk' hc).1 hij
theorem yp_give_other {T : yp_T} (hw : yp_wf T) {i j k : Nat} (hij : i ≠ j) {p : yp_P} {c : Nat} (hc : yp_oc T j k = some c) : yp_give T i p c = [] := by
  cases h : yp_give T i p c with
  | nil => rfl
  | cons x l =>
    obtain ⟨k', hk'⟩ := yp_give_oc (T := T) (i := i) (p := p) (c := c) (by rw [h]; exact fun q => by cases q)
    exact absurd (hw.2 i j k' k c hk' hc).1 hij
theorem yp_hd_keep {T : yp_T} (hw : yp_wf T) {d : yp_D} {i j k : Nat} (hij : i ≠ j) {p : yp_P} {v : Int32} (h : yp_hd T d j k = some v) : yp_hd T (yp_do T d i p) j k = some v := by
  unfold yp_hd at h ⊢
  cases e : yp_ic T j k with
  | none => rw [e] at h; cases h
  | some c =>
    rw [e] at h
    have h : (d.2.2 c).head? = some v := h
    show ((yp_do T d i p).2.2 c).head? = some v
    show (yp_q T i p d.2.2 c).head? = some v
    unfold yp_q
    rw [yp_take_other hw hij e]
    cases e2 : d.2.2 c with
    | nil => rw [e2] at h; cases h
    | cons x l => rw [e2] at h; exact h
theorem yp_pl_keep {T : yp_T} (hw : yp_wf T) {d : yp_D} {i j : Nat} (hij : i ≠ j) {p r : yp_P} (h : yp_pl T d j = some r) : yp_pl T (yp_do T d i p) j = some r := by
  unfold yp_pl at h ⊢
  have e : (yp_do T d i p).1 j = d.1 j := va_up_ne _ _ (Ne.symm hij)
  rw [e]
  exact yp_mono (fun v q => yp_hd_keep hw hij q) (fun v q => yp_hd_keep hw hij q) h
theorem yp_room_keep {T : yp_T} (hw : yp_wf T) {d : yp_D} {i j k : Nat} (hij : i ≠ j) {p : yp_P} (h : yp_roomb T d j k = true) : yp_roomb T (yp_do T d i p) j k = true := by
  unfold yp_roomb at h ⊢
  cases e : yp_oc T j k with
  | none => rfl
  | some c =>
    rw [e] at h
    have h : (d.2.2 c).length < yp_rm T c := of_decide_eq_true h
    show decide ((yp_q T i p d.2.2 c).length < yp_rm T c) = true
    apply decide_eq_true
    unfold yp_q
    rw [yp_give_other hw hij e, List.append_nil]
    by_cases ht : yp_take T i p c = true
    · rw [if_pos ht, List.length_tail]; omega
    · rw [if_neg ht]; exact h
theorem yp_fit_keep {T : yp_T} (hw : yp_wf T) {d : yp_D} {i j : Nat} (hij : i ≠ j) {p r : yp_P} (h : yp_fitb T d j r = true) : yp_fitb T (yp_do T d i p) j r = true := by
  unfold yp_fitb at h ⊢
  obtain ⟨h1, h2⟩ := Bool.and_eq_true _ _ ▸ h
  refine (Bool.and_eq_true _ _).symm ▸ ⟨?_, ?_⟩
  · rcases Bool.or_eq_true _ _ ▸ h1 with q | q
    · exact (Bool.or_eq_true _ _).symm ▸ Or.inl q
    · exact (Bool.or_eq_true _ _).symm ▸ Or.inr (yp_room_keep hw hij q)
  · rcases Bool.or_eq_true _ _ ▸ h2 with q | q
    · exact (Bool.or_eq_true _ _).symm ▸ Or.inl q
    · exact (Bool.or_eq_true _ _).symm ▸ Or.inr (yp_room_keep hw hij q)
theorem yp_kp_comm {i j : Nat} (hij : i ≠ j) (p r : yp_P) (k : Nat → List Int32) : yp_kp j r (yp_kp i p k) = yp_kp i p (yp_kp j r k) := by
  unfold yp_kp
  cases p.2.2.2.2 with
  | none => cases r.2.2.2.2 <;> rfl
  | some v =>
    cases r.2.2.2.2 with
    | none => rfl
    | some w =>
      funext x
      show va_up (va_up k i (k i ++ [v])) j (va_up k i (k i ++ [v]) j ++ [w]) x = va_up (va_up k j (k j ++ [w])) i (va_up k j (k j ++ [w]) i ++ [v]) x
      rw [va_up_ne k _ (Ne.symm hij), va_up_ne k _ hij]
      by_cases h1 : x = i
      · subst h1
        rw [va_up_self, va_up_ne _ _ hij, va_up_self]
      · by_cases h2 : x = j
        · subst h2
          rw [va_up_self, va_up_ne _ _ (Ne.symm hij), va_up_self]
        · rw [va_up_ne _ _ h2, va_up_ne _ _ h1, va_up_ne _ _ h1, va_up_ne _ _ h2]
theorem yp_tm_comm {i j : Nat} (hij : i ≠ j) (f : Nat → Nat) : va_up (va_up f i (f i + 1)) j (va_up f i (f i + 1) j + 1) = va_up (va_up f j (f j + 1)) i (va_up f j (f j + 1) i + 1) := by
  funext x
  rw [va_up_ne f _ (Ne.symm hij), va_up_ne f _ hij]
  by_cases h1 : x = i
  · subst h1
    rw [va_up_self, va_up_ne _ _ hij, va_up_self]
  · by_cases h2 : x = j
    · subst h2
      rw [va_up_self, va_up_ne _ _ (Ne.symm hij), va_up_self]
    · rw [va_up_ne _ _ h2, va_up_ne _ _ h1, va_up_ne _ _ h1, va_up_ne _ _ h2]
theorem yp_tail_app {q g : List Int32} (h : q ≠ []) : (q ++ g).tail = q.tail ++ g := by
  cases q with
  | nil => exact absurd rfl h
  | cons x l => rfl
theorem yp_q_comm {T : yp_T} (hw : yp_wf T) {d : yp_D} {i j : Nat} (hij : i ≠ j) {p r : yp_P} (hp : yp_pl T d i = some p) (hr : yp_pl T d j = some r) : yp_q T j r (yp_q T i p d.2.2) = yp_q T i p (yp_q T j r d.2.2) := by
  funext c
  have hi := fun h => yp_take_ne hp (c := c) h
  have hj := fun h => yp_take_ne hr (c := c) h
  have hg : yp_give T i p c = [] ∨ yp_give T j r c = [] := by
    cases e : yp_give T i p c with
    | nil => exact Or.inl rfl
    | cons x l =>
      obtain ⟨k, hk⟩ := yp_give_oc (T := T) (i := i) (p := p) (c := c) (by rw [e]; exact fun q => by cases q)
      exact Or.inr (yp_give_other hw (Ne.symm hij) hk)
  have ht : yp_take T i p c = true → yp_take T j r c = false := fun h => by
    obtain ⟨k, hk⟩ := yp_take_ic h
    exact yp_take_other hw (Ne.symm hij) hk
  unfold yp_q
  generalize hti : yp_take T i p c = ti at *
  generalize htj : yp_take T j r c = tj at *
  generalize yp_give T i p c = gi at *
  generalize yp_give T j r c = gj at *
  generalize d.2.2 c = q at *
  cases ti with
  | true =>
    have := ht rfl
    subst this
    have hq := hi rfl
    simp only [if_true, Bool.false_eq_true, if_false]
    rw [yp_tail_app hq]
    rcases hg with g | g <;> rw [g] <;> simp
  | false =>
    cases tj with
    | true =>
      have hq := hj rfl
      simp only [if_true, Bool.false_eq_true, if_false]
      rw [yp_tail_app hq]
      rcases hg with g | g <;> rw [g] <;> simp
    | false =>
      simp only [Bool.false_eq_true, if_false]
      rcases hg with g | g <;> rw [g] <;> simp
/-- TWO WHO CAN ACT: each still can behind the other, and it comes to the same -/
theorem yp_diam {T : yp_T} (hw : yp_wf T) {d : yp_D} {i j : Nat} (hij : i ≠ j) (hi : yp_canb T d i = true) (hj : yp_canb T d j = true) : yp_canb T (yp_act T d i) j = true ∧ yp_canb T (yp_act T d j) i = true ∧ yp_act T (yp_act T d i) j = yp_act T (yp_act T d j) i := by
  obtain ⟨p, hp, fp⟩ := yp_can_of hi
  obtain ⟨r, hr, fr⟩ := yp_can_of hj
  rw [yp_act_of hp, yp_act_of hr]
  have h1 := yp_pl_keep hw hij (p := p) hr
  have h2 := yp_pl_keep hw (Ne.symm hij) (p := r) hp
  refine ⟨yp_can_mk h1 (yp_fit_keep hw hij fr), yp_can_mk h2 (yp_fit_keep hw (Ne.symm hij) fp), ?_⟩
  rw [yp_act_of h1, yp_act_of h2]
  show (_, _, _) = (_, _, _)
  rw [show yp_q T j r (yp_do T d i p).2.2 = yp_q T i p (yp_do T d j r).2.2 from yp_q_comm hw hij hp hr, show yp_kp j r (yp_do T d i p).2.1 = yp_kp i p (yp_do T d j r).2.1 from yp_kp_comm hij p r d.2.1]
  have e : va_up (yp_do T d i p).1 j ((yp_do T d i p).1 j + 1) = va_up (yp_do T d j r).1 i ((yp_do T d j r).1 i + 1) := yp_tm_comm hij d.1
  rw [e]
def yp_path (T : yp_T) : Nat → yp_D → yp_D → Prop
  | 0, d, e => d = e
  | k + 1, d, e => ∃ i, i < yp_n T ∧ yp_canb T d i = true ∧ yp_path T k (yp_act T d i) e
def yp_norm (T : yp_T) (d : yp_D) : Prop := ∀ i, i < yp_n T → yp_canb T d i = false
theorem yp_strip {T : yp_T} (hw : yp_wf T) {N : yp_D} (hN : yp_norm T N) : ∀ (k : Nat) (d : yp_D) (j : Nat), yp_path T k d N → j < yp_n T → yp_canb T d j = true → ∃ k', k = k' + 1 ∧ yp_path T k' (yp_act T d j) N
  | 0, d, j, h, hj, hc => by
    have h : d = N := h
    subst h
    rw [hN j hj] at hc
    cases hc
  | k + 1, d, j, h, hj, hc => by
    obtain ⟨i, hi, ci, hp⟩ := h
    by_cases hij : i = j
    · subst hij
      exact ⟨k, rfl, hp⟩
    · obtain ⟨h1, h2, h3⟩ := yp_diam hw hij ci hc
      obtain ⟨k', hk, hp'⟩ := yp_strip hw hN k (yp_act T d i) j hp hj h1
      subst hk
      rw [h3] at hp'
      exact ⟨k' + 1, rfl, i, hi, h2, hp'⟩
theorem yp_strips {T : yp_T} (hw : yp_wf T) {N : yp_D} (hN : yp_norm T N) : ∀ (m : Nat) (d e : yp_D) (k : Nat), yp_path T m d e → yp_path T k d N → ∃ k', yp_path T k' e N
  | 0, d, e, k, h, hp => by
    have h : d = e := h
    subst h
    exact ⟨k, hp⟩
  | m + 1, d, e, k, h, hp => by
    obtain ⟨i, hi, ci, h⟩ := h
    obtain ⟨k', -, hp'⟩ := yp_strip hw hN k d i hp hi ci
    exact yp_strips hw hN m _ e k' h hp'
theorem yp_path_app {T : yp_T} : ∀ (m k : Nat) (d e f : yp_D), yp_path T m d e → yp_path T k e f → yp_path T (m + k) d f
  | 0, k, d, e, f, h, hp => by
    have h : d = e := h
    subst h
    rw [Nat.zero_add]
    exact hp
  | m + 1, k, d, e, f, h, hp => by
    obtain ⟨i, hi, ci, h⟩ := h
    rw [Nat.add_right_comm]
    exact ⟨i, hi, ci, yp_path_app m k _ e f h hp⟩
/-- N is how all ends, from d on -/
def yp_fin (T : yp_T) (d N : yp_D) : Prop := yp_norm T N ∧ ∃ k, yp_path T k d N
theorem yp_fin_fwd {T : yp_T} (hw : yp_wf T) {m : Nat} {d e N : yp_D} (h : yp_path T m d e) (hf : yp_fin T d N) : yp_fin T e N := by
  obtain ⟨hN, k, hp⟩ := hf
  exact ⟨hN, yp_strips hw hN m d e k h hp⟩
theorem yp_fin_bwd {T : yp_T} {m : Nat} {d e N : yp_D} (h : yp_path T m d e) (hf : yp_fin T e N) : yp_fin T d N := by
  obtain ⟨hN, k, hp⟩ := hf
  exact ⟨hN, m + k, yp_path_app m k d e N h hp⟩
theorem yp_fin_uniq {T : yp_T} (hw : yp_wf T) {d N M : yp_D} (h1 : yp_fin T d N) (h2 : yp_fin T d M) : N = M := by
  obtain ⟨hM, m, hm⟩ := h2
  obtain ⟨hN, k, hk⟩ := yp_fin_fwd hw hm h1
  cases k with
  | zero =>
    have hk : M = N := hk
    exact hk.symm
  | succ k =>
    obtain ⟨i, hi, ci, -⟩ := hk
    rw [hM i hi] at ci
    cases ci
theorem yp_path_1 {T : yp_T} {d : yp_D} {i : Nat} (hi : i < yp_n T) (hc : yp_canb T d i = true) : yp_path T 1 d (yp_act T d i) := ⟨i, hi, hc, rfl⟩
/-- the sum of how often each acted: grows with each act, and is at most 100 each -/
def yp_sum (f : Nat → Nat) : Nat → Nat
  | 0 => 0
  | n + 1 => yp_sum f n + f n
theorem yp_sum_congr {f g : Nat → Nat} : ∀ n, (∀ i, i < n → f i = g i) → yp_sum f n = yp_sum g n
  | 0, _ => rfl
  | n + 1, h => by
    show yp_sum f n + f n = yp_sum g n + g n
    rw [yp_sum_congr n (fun i hi => h i (Nat.lt_succ_of_lt hi)), h n (Nat.lt_succ_self n)]
theorem yp_sum_up {f : Nat → Nat} {i : Nat} : ∀ n, i < n → yp_sum (va_up f i (f i + 1)) n = yp_sum f n + 1
  | 0, h => absurd h (Nat.not_lt_zero _)
  | n + 1, h => by
    show yp_sum (va_up f i (f i + 1)) n + va_up f i (f i + 1) n = yp_sum f n + f n + 1
    by_cases hi : i = n
    · subst hi
      rw [va_up_self, yp_sum_congr (g := f) i (fun j hj => va_up_ne f (f i + 1) (Nat.ne_of_lt hj))]
      omega
    · rw [yp_sum_up n (by omega), va_up_ne f _ (Ne.symm hi)]
      omega
theorem yp_sum_le {f : Nat → Nat} {m : Nat} : ∀ n, (∀ i, i < n → f i ≤ m) → yp_sum f n ≤ m * n
  | 0, _ => Nat.le_refl _
  | n + 1, h => by
    have h1 := yp_sum_le n (fun i hi => h i (Nat.lt_succ_of_lt hi))
    have h2 := h n (Nat.lt_succ_self n)
    show yp_sum f n + f n ≤ m * (n + 1)
    rw [Nat.mul_succ]
    omega
theorem yp_can_lt {T : yp_T} {d : yp_D} {i : Nat} (h : yp_canb T d i = true) : d.1 i < 100 := by
  obtain ⟨p, hp, -⟩ := yp_can_of h
  exact yp_plan_lt hp
theorem yp_act_tm {T : yp_T} {d : yp_D} {i : Nat} (h : yp_canb T d i = true) : (yp_act T d i).1 = va_up d.1 i (d.1 i + 1) := by
  obtain ⟨p, hp, -⟩ := yp_can_of h
  rw [yp_act_of hp]
  rfl
theorem yp_act_le {T : yp_T} {d : yp_D} {i : Nat} (h : yp_canb T d i = true) (hd : ∀ j, d.1 j ≤ 100) : ∀ j, (yp_act T d i).1 j ≤ 100 := by
  intro j
  rw [yp_act_tm h]
  by_cases hj : j = i
  · subst hj
    rw [va_up_self]
    exact yp_can_lt h
  · rw [va_up_ne _ _ hj]
    exact hd j
theorem yp_path_sum {T : yp_T} : ∀ (k : Nat) (d e : yp_D), yp_path T k d e → yp_sum e.1 (yp_n T) = yp_sum d.1 (yp_n T) + k
  | 0, d, e, h => by
    have h : d = e := h
    subst h
    rfl
  | k + 1, d, e, h => by
    obtain ⟨i, hi, ci, h⟩ := h
    rw [yp_path_sum k _ e h, yp_act_tm ci, yp_sum_up _ hi]
    omega
theorem yp_path_le {T : yp_T} : ∀ (k : Nat) (d e : yp_D), yp_path T k d e → (∀ j, d.1 j ≤ 100) → ∀ j, e.1 j ≤ 100
  | 0, d, e, h, hd => by
    have h : d = e := h
    subst h
    exact hd
  | k + 1, d, e, h, hd => by
    obtain ⟨i, hi, ci, h⟩ := h
    exact yp_path_le k _ e h (yp_act_le ci hd)
/-- no way is longer than 100 acts each -/
theorem yp_path_short {T : yp_T} {k : Nat} {d e : yp_D} (h : yp_path T k d e) (hd : ∀ j, d.1 j ≤ 100) : k ≤ 100 * yp_n T := by
  have h1 := yp_path_sum k d e h
  have h2 := yp_sum_le (f := e.1) (m := 100) (yp_n T) (fun i _ => yp_path_le k d e h hd i)
  omega
end
section
/-! ACTING STEP BY STEP, AND WHO CAN ACT, KIND BY KIND -/
def yq_tk (t : Bool) (o : Option Nat) (q : Nat → List Int32) : Nat → List Int32 := fun c => if t = true ∧ o = some c then (q c).tail else q c
def yq_gv (g : Option Int32) (o : Option Nat) (q : Nat → List Int32) : Nat → List Int32 := fun c => if o = some c then q c ++ g.toList else q c
theorem yq_tk_f (o : Option Nat) (q : Nat → List Int32) : yq_tk false o q = q := by
  funext c
  unfold yq_tk
  rw [if_neg (fun h => by cases h.1)]
theorem yq_gv_n (o : Option Nat) (q : Nat → List Int32) : yq_gv none o q = q := by
  funext c
  unfold yq_gv
  by_cases h : o = some c
  · rw [if_pos h]; exact List.append_nil _
  · rw [if_neg h]
theorem yp_q_seq {T : yp_T} (hw : yp_wf T) (i : Nat) (p : yp_P) (q : Nat → List Int32) : yp_q T i p q = yq_gv p.2.2.2.1 (yp_oc T i 1) (yq_gv p.2.2.1 (yp_oc T i 0) (yq_tk p.2.1 (yp_ic T i 1) (yq_tk p.1 (yp_ic T i 0) q))) := by
  funext c
  unfold yp_q yp_take yp_give yq_gv yq_tk
  have hI : yp_ic T i 0 = some c → ¬ yp_ic T i 1 = some c := fun h1 h2 => by
    have := (hw.1 i i 0 1 c h1 h2).2
    omega
  have hO : yp_oc T i 0 = some c → ¬ yp_oc T i 1 = some c := fun h1 h2 => by
    have := (hw.2 i i 0 1 c h1 h2).2
    omega
  obtain ⟨t0, t1, g0, g1, k⟩ := p
  by_cases a0 : yp_ic T i 0 = some c
  · have a1 := hI a0
    by_cases b0 : yp_oc T i 0 = some c
    · have b1 := hO b0
      cases t0 <;> simp [a0, a1, b0, b1]
    · by_cases b1 : yp_oc T i 1 = some c <;> cases t0 <;> simp [a0, a1, b0, b1]
  · by_cases a1 : yp_ic T i 1 = some c
    · by_cases b0 : yp_oc T i 0 = some c
      · have b1 := hO b0
        cases t1 <;> simp [a0, a1, b0, b1]
      · by_cases b1 : yp_oc T i 1 = some c <;> cases t1 <;> simp [a0, a1, b0, b1]
    · by_cases b0 : yp_oc T i 0 = some c
      · have b1 := hO b0
        simp [a0, a1, b0, b1]
      · by_cases b1 : yp_oc T i 1 = some c <;> simp [a0, a1, b0, b1]
section YK
variable {T : yp_T} {d : yp_D} {i : Nat}
theorem yp_can100 (h : 100 ≤ d.1 i) : yp_canb T d i = false := by
  unfold yp_canb yp_pl yp_plan
  rw [if_pos h]
theorem yp_can0 (h : ¬ 100 ≤ d.1 i) (hk : yp_kd T i = 0) : yp_canb T d i = (decide (d.1 i < (yp_sr T i).length) && yp_roomb T d i 0) := by
  unfold yp_canb yp_pl yp_plan
  rw [if_neg h, hk]
  by_cases h1 : d.1 i < (yp_sr T i).length
  · rw [List.getElem?_eq_getElem h1]
    simp [yp_fitb, h1]
  · rw [List.getElem?_eq_none (by omega)]
    simp [h1]
theorem yp_can1 (h : ¬ 100 ≤ d.1 i) (hk : yp_kd T i = 1) : yp_canb T d i = ((yp_hd T d i 0).isSome && yp_roomb T d i 0) := by
  unfold yp_canb yp_pl yp_plan
  rw [if_neg h, hk]
  cases yp_hd T d i 0 <;> simp [yp_fitb]
theorem yp_can2 (h : ¬ 100 ≤ d.1 i) (hk : yp_kd T i = 2) : yp_canb T d i = ((yp_hd T d i 0).isSome && yp_roomb T d i (d.1 i % 2)) := by
  unfold yp_canb yp_pl yp_plan
  rw [if_neg h, hk]
  rcases Nat.mod_two_eq_zero_or_one (d.1 i) with e | e <;> cases yp_hd T d i 0 <;> simp [yp_fitb, e]
theorem yp_can3 (h : ¬ 100 ≤ d.1 i) (hk : yp_kd T i = 3) : yp_canb T d i = ((yp_hd T d i (d.1 i % 2)).isSome && yp_roomb T d i 0) := by
  unfold yp_canb yp_pl yp_plan
  rw [if_neg h, hk]
  rcases Nat.mod_two_eq_zero_or_one (d.1 i) with e | e
  · cases e2 : yp_hd T d i 0 <;> simp [yp_fitb, e, e2]
  · cases e2 : yp_hd T d i 1 <;> simp [yp_fitb, e, e2]
theorem yp_can4 (h : ¬ 100 ≤ d.1 i) (hk : yp_kd T i = 4) : yp_canb T d i = ((yp_hd T d i 0).isSome && (yp_hd T d i 1).isSome && yp_roomb T d i 0) := by
  unfold yp_canb yp_pl yp_plan
  rw [if_neg h, hk]
  cases yp_hd T d i 0 <;> cases yp_hd T d i 1 <;> simp [yp_fitb]
theorem yp_can5 (h : ¬ 100 ≤ d.1 i) (hk : yp_kd T i = 5) : yp_canb T d i = ((decide (d.1 i = 0) || (yp_hd T d i 0).isSome) && yp_roomb T d i 0) := by
  unfold yp_canb yp_pl yp_plan
  rw [if_neg h, hk]
  by_cases e : d.1 i = 0
  · simp [yp_fitb, e]
  · cases yp_hd T d i 0 <;> simp [yp_fitb, e]
theorem yp_can6 (h : ¬ 100 ≤ d.1 i) (hk : yp_kd T i = 6) : yp_canb T d i = ((yp_hd T d i 0).isSome && decide (d.1 i < 60)) := by
  unfold yp_canb yp_pl yp_plan
  rw [if_neg h, hk]
  by_cases e : 60 ≤ d.1 i
  · have e2 : ¬ d.1 i < 60 := by omega
    simp [e, e2]
  · have e2 : d.1 i < 60 := by omega
    cases yp_hd T d i 0 <;> simp [yp_fitb, e, e2]
theorem yp_can7 (h : ¬ 100 ≤ d.1 i) (hk : yp_kd T i = 7) : yp_canb T d i = ((yp_hd T d i 0).isSome && (yp_hd T d i 1).isSome && (decide (yp_hd T d i 0 = some 0) || yp_roomb T d i 0)) := by
  unfold yp_canb yp_pl yp_plan
  rw [if_neg h, hk]
  cases yp_hd T d i 0 with
  | none => simp
  | some v =>
    cases yp_hd T d i 1 with
    | none => simp
    | some w =>
      by_cases e : v = 0 <;> simp [yp_fitb, e]
theorem yp_can8 (h : ¬ 100 ≤ d.1 i) (hk : yp_kd T i = 8) : yp_canb T d i = ((yp_hd T d i 0).isSome && yp_roomb T d i 0 && yp_roomb T d i 1) := by
  unfold yp_canb yp_pl yp_plan
  rw [if_neg h, hk]
  cases yp_hd T d i 0 <;> simp [yp_fitb]
end YK
end
section
/-! A ROW OF EIGHT AS A QUEUE -/
def yrq (r : Nat → Int32) (f n : Nat) : List Int32 := (List.range n).map (fun k => r ((f + k) % 8))
theorem yrq_len (r : Nat → Int32) (f n : Nat) : (yrq r f n).length = n := by
  unfold yrq; rw [List.length_map, List.length_range]
theorem yrq_get {r : Nat → Int32} {f n k : Nat} (h : k < n) : (yrq r f n)[k]? = some (r ((f + k) % 8)) := by
  unfold yrq
  rw [List.getElem?_map, List.getElem?_range h]
  rfl
theorem yrq_head {r : Nat → Int32} {f n : Nat} (h : 0 < n) : (yrq r f n).head? = some (r (f % 8)) := by
  have := yrq_get (r := r) (f := f) h
  rw [List.head?_eq_getElem?, this, Nat.add_zero]
theorem yrq_nil {r : Nat → Int32} {f : Nat} : yrq r f 0 = [] := rfl
theorem yrq_pop {r : Nat → Int32} {f n : Nat} (h : 0 < n) : yrq r ((f + 1) % 8) (n - 1) = (yrq r f n).tail := by
  apply List.ext_getElem?
  intro k
  rw [List.getElem?_tail]
  by_cases hk : k < n - 1
  · rw [yrq_get hk, yrq_get (by omega)]
    congr 2
    omega
  · rw [List.getElem?_eq_none (by rw [yrq_len]; omega), List.getElem?_eq_none (by rw [yrq_len]; omega)]
theorem yrq_push {r : Nat → Int32} {f n : Nat} {v : Int32} (h : n < 8) : yrq (upd r ((f + n) % 8) v) f (n + 1) = yrq r f n ++ [v] := by
  apply List.ext_getElem?
  intro k
  by_cases hk : k < n
  · rw [yrq_get (by omega), List.getElem?_append_left (by rw [yrq_len]; exact hk), yrq_get hk]
    have : (f + k) % 8 ≠ (f + n) % 8 := by omega
    rw [pk_un this]
  · by_cases hk2 : k = n
    · subst hk2
      rw [yrq_get (by omega), List.getElem?_append_right (by rw [yrq_len]; omega), yrq_len, Nat.sub_self, pk_us]
      rfl
    · rw [List.getElem?_eq_none (by rw [yrq_len]; omega), List.getElem?_eq_none (by rw [List.length_append, yrq_len]; simp; omega)]
theorem yrq_congr {r r' : Nat → Int32} {f n : Nat} (h : ∀ j, j < 8 → r j = r' j) : yrq r f n = yrq r' f n := by
  unfold yrq
  apply List.map_congr_left
  intro k _
  exact h _ (Nat.mod_lt _ (by omega))
/-- what was told, or kept: the first n places of a row -/
def yrw (r : Nat → Int32) (n : Nat) : List Int32 := (List.range n).map r
theorem yrw_len (r : Nat → Int32) (n : Nat) : (yrw r n).length = n := by
  unfold yrw; rw [List.length_map, List.length_range]
theorem yrw_get {r : Nat → Int32} {n k : Nat} (h : k < n) : (yrw r n)[k]? = some (r k) := by
  unfold yrw
  rw [List.getElem?_map, List.getElem?_range h]
  rfl
theorem yrw_push {r : Nat → Int32} {n : Nat} {v : Int32} : yrw (upd r n v) (n + 1) = yrw r n ++ [v] := by
  apply List.ext_getElem?
  intro k
  by_cases hk : k < n
  · rw [yrw_get (by omega), List.getElem?_append_left (by rw [yrw_len]; exact hk), yrw_get hk]
    rw [pk_un (by omega)]
  · by_cases hk2 : k = n
    · subst hk2
      rw [yrw_get (by omega), List.getElem?_append_right (by rw [yrw_len]; omega), yrw_len, Nat.sub_self, pk_us]
      rfl
    · rw [List.getElem?_eq_none (by rw [yrw_len]; omega), List.getElem?_eq_none (by rw [List.length_append, yrw_len]; simp; omega)]
theorem yrw_congr {r r' : Nat → Int32} {n : Nat} (h : ∀ j, j < n → r j = r' j) : yrw r n = yrw r' n := by
  unfold yrw
  apply List.map_congr_left
  intro k hk
  exact h k (List.mem_range.mp hk)
end
section
/-! RUN: one behind the other, drawn by a seed -/
def yp_rdy (T : yp_T) (d : yp_D) (n : Nat) : List Nat := (List.range n).filter (fun i => yp_canb T d i)
theorem yp_rdy_0 (T : yp_T) (d : yp_D) : yp_rdy T d 0 = [] := rfl
theorem yp_rdy_s (T : yp_T) (d : yp_D) (n : Nat) : yp_rdy T d (n + 1) = yp_rdy T d n ++ (if yp_canb T d n = true then [n] else []) := by
  unfold yp_rdy
  rw [List.range_succ, List.filter_append]
  congr 1
  by_cases h : yp_canb T d n = true
  · rw [if_pos h, List.filter_cons_of_pos (by simpa using h)]; rfl
  · rw [if_neg h, List.filter_cons_of_neg (by simpa using h)]; rfl
theorem yp_rdy_in {T : yp_T} {d : yp_D} {n i : Nat} (h : i ∈ yp_rdy T d n) : i < n ∧ yp_canb T d i = true := by
  unfold yp_rdy at h
  obtain ⟨h1, h2⟩ := List.mem_filter.mp h
  exact ⟨List.mem_range.mp h1, by simpa using h2⟩
theorem yp_rdy_le (T : yp_T) (d : yp_D) (n : Nat) : (yp_rdy T d n).length ≤ n := by
  have h := List.length_filter_le (fun i => yp_canb T d i) (List.range n)
  rw [List.length_range] at h
  exact h
theorem yp_rdy_nil {T : yp_T} {d : yp_D} (h : yp_rdy T d (yp_n T) = []) : yp_norm T d := by
  intro i hi
  cases e : yp_canb T d i with
  | false => rfl
  | true =>
    have : i ∈ yp_rdy T d (yp_n T) := by
      unfold yp_rdy
      exact List.mem_filter.mpr ⟨List.mem_range.mpr hi, by simpa using e⟩
    rw [h] at this
    cases this
/-- x's next value, and the place that it draws out of n -/
def yp_nx (x : Int64) : Int64 := x * 6364136223846793005 + 1442695040888963407
def yp_ix (x : Int64) (n : Nat) : Nat := x.toBitVec.toNat / 8589934592 % n
theorem yp_ix_lt (x : Int64) {n : Nat} (h : 0 < n) : yp_ix x n < n := Nat.mod_lt _ h
def yp_dr (T : yp_T) (d : yp_D) (x : Int64) : Nat := (yp_rdy T d (yp_n T)).getD (yp_ix x (yp_rdy T d (yp_n T)).length) 0
def yp_run (T : yp_T) : Nat → Int64 → yp_D → yp_D × Nat
  | 0, _, d => (d, 0)
  | k + 1, x, d => if yp_rdy T d (yp_n T) = [] then (d, 0) else ((yp_run T k (yp_nx x) (yp_act T d (yp_dr T d (yp_nx x)))).1, (yp_run T k (yp_nx x) (yp_act T d (yp_dr T d (yp_nx x)))).2 + 1)
theorem yp_dr_ok {T : yp_T} {d : yp_D} {x : Int64} (h : yp_rdy T d (yp_n T) ≠ []) : yp_dr T d x < yp_n T ∧ yp_canb T d (yp_dr T d x) = true := by
  unfold yp_dr
  have hl : 0 < (yp_rdy T d (yp_n T)).length := List.length_pos_iff.mpr h
  have hx := yp_ix_lt x hl
  apply yp_rdy_in (n := yp_n T)
  rw [List.getD_eq_getElem?_getD, List.getElem?_eq_getElem hx]
  exact List.getElem_mem _
theorem yp_run_path {T : yp_T} : ∀ (k : Nat) (x : Int64) (d : yp_D), ∃ m, yp_path T m d (yp_run T k x d).1
  | 0, _, d => ⟨0, rfl⟩
  | k + 1, x, d => by
    unfold yp_run
    by_cases h : yp_rdy T d (yp_n T) = []
    · rw [if_pos h]; exact ⟨0, rfl⟩
    · rw [if_neg h]
      obtain ⟨m, hm⟩ := yp_run_path k (yp_nx x) (yp_act T d (yp_dr T d (yp_nx x)))
      obtain ⟨h1, h2⟩ := yp_dr_ok (x := yp_nx x) h
      exact ⟨m + 1, _, h1, h2, hm⟩
end
section
/-! WORLDS BY LOGICAL PLACES: every object has a place (family, number, number); ad says at which address it lies, g what is in it; X: the rest, which isn't touched -/
abbrev yl : Type := Nat × Nat × Nat
def yu {β : Type} (g : yl → β) (q : yl) (e : β) : yl → β := fun x => if x = q then e else g x
theorem yu_s {β : Type} (g : yl → β) (q : yl) (e : β) : yu g q e q = e := if_pos rfl
theorem yu_n {β : Type} (g : yl → β) {q x : yl} (e : β) (h : x ≠ q) : yu g q e x = g x := if_neg h
def wl (ad : yl → Nat) (LL : List yl) (g : yl → va_E) : va_W := LL.map (fun q => (ad q, g q))
theorem wl_len (ad : yl → Nat) (LL : List yl) (g : yl → va_E) : (wl ad LL g).length = LL.length := by
  unfold wl; rw [List.length_map]
theorem wl_at {ad : yl → Nat} {LL : List yl} {g : yl → va_E} {X : va_W} {i : Nat} {q : yl} (h : LL[i]? = some q) : (wl ad LL g ++ X)[i]? = some (ad q, g q) := by
  have hl : i < LL.length := (List.getElem?_eq_some_iff.mp h).1
  rw [List.getElem?_append_left (by rw [wl_len]; exact hl)]
  unfold wl
  rw [List.getElem?_map, h]
  rfl
theorem wl_get {ad : yl → Nat} {LL : List yl} {g : yl → va_E} {X : va_W} {q : yl} (h : q ∈ LL) : ∃ k : Nat, (wl ad LL g ++ X)[k]? = some (ad q, g q) := by
  obtain ⟨i, hi⟩ := List.getElem?_of_mem h
  exact ⟨i, wl_at hi⟩
theorem wl_set {A : Nat → Prop} {ad : yl → Nat} {LL : List yl} {g : yl → va_E} {X : va_W} {q : yl} {k : Nat} {e0 e : va_E} (hD : va_D A (wl ad LL g ++ X)) (h : q ∈ LL) (hk : (wl ad LL g ++ X)[k]? = some (ad q, e0)) : (wl ad LL g ++ X).set k (ad q, e) = wl ad LL (yu g q e) ++ X := by
  obtain ⟨i, hi⟩ := List.getElem?_of_mem h
  have hi' : (wl ad LL g ++ X)[i]? = some (ad q, g q) := wl_at hi
  have hik : i = k := hD.1 i k _ _ hi' hk rfl
  subst hik
  have hlt : i < LL.length := (List.getElem?_eq_some_iff.mp hi).1
  apply List.ext_getElem?
  intro j
  by_cases hj : j = i
  · subst hj
    rw [List.getElem?_set_self (by rw [List.length_append, wl_len]; omega), wl_at hi, yu_s]
  · rw [List.getElem?_set_ne (Ne.symm hj)]
    by_cases hjl : j < LL.length
    · have hq' : LL[j]? = some LL[j] := List.getElem?_eq_getElem hjl
      have hne : LL[j] ≠ q := fun e1 => hj (hD.1 j i _ _ (wl_at hq') hk (by rw [e1]))
      rw [wl_at hq', wl_at hq', yu_n _ _ hne]
    · rw [List.getElem?_append_right (by rw [wl_len]; omega), List.getElem?_append_right (by rw [wl_len]; omega), wl_len, wl_len]
theorem wl_congr {ad ad' : yl → Nat} {LL : List yl} {g g' : yl → va_E} (h : ∀ q, q ∈ LL → ad q = ad' q ∧ g q = g' q) : wl ad LL g = wl ad' LL g' := by
  unfold wl
  apply List.map_congr_left
  intro q hq
  rw [(h q hq).1, (h q hq).2]
theorem wl_push {ad : yl → Nat} {LL : List yl} {g : yl → va_E} {q : yl} {a : Nat} {e : va_E} (h : q ∉ LL) : wl (yu ad q a) (LL ++ [q]) (yu g q e) = wl ad LL g ++ [(a, e)] := by
  have h1 : wl (yu ad q a) LL (yu g q e) = wl ad LL g := wl_congr fun x hx => by
    have hne : x ≠ q := fun e => h (e ▸ hx)
    exact ⟨yu_n _ _ hne, yu_n _ _ hne⟩
  rw [← h1]
  unfold wl
  rw [List.map_append, List.map_cons, List.map_nil, yu_s, yu_s]
/-- what is carried along a walk: the world's cells, apart and in A, and that nothing outside A has changed since H0 -/
def yH (D : va_G) (cl : List vw_C) (A : Nat → Prop) (H0 H : Heap) (locs : List Loc) (ws : va_W) : Prop := va_P D cl ws H ∧ va_D A ws ∧ va_S A H0 H locs
theorem yH.pushed {D : va_G} {cl : List vw_C} {A : Nat → Prop} {H0 H : Heap} {locs : List Loc} {ad : yl → Nat} {LL : List yl} {g : yl → va_E} {X : va_W} {q : yl} {a : Nat} {e : va_E} (h : q ∉ LL) (hw : yH D cl A H0 H locs ((wl ad LL g ++ X) ++ [(a, e)])) : yH D cl A H0 H locs (wl (yu ad q a) (LL ++ [q]) (yu g q e) ++ X) := by
  rw [wl_push h]
  exact ⟨hw.1.swap, hw.2.1.swap, hw.2.2⟩
section YR
variable {p : Program} {l : Launch} {e : Env} {R : Room} {s : State} {m : MethodId} {args : Array Value} {below : List Frame} {meth : Method} {c : Code} {H : Heap} {locs : List Loc} {cells slots : Nat} {Q : State → Prop}
variable {cc : ByteArray} {D : va_G} {cl : List vw_C} {tys : List (ClassId × FieldType)} {A : Nat → Prop} {H0 : Heap} {ad : yl → Nat} {LL : List yl} {g : yl → va_E} {X : va_W} {q : yl} {pc : Nat} {ls : Array Slot} {rest : List Value}
theorem yr_get (hexec : p.tables.exec = Jvm.exec) (hb : c.code = cc) {own ref C : String} {T : u_T} {N ci index : Nat} {Ts : List Cond} {fs : List Value} {v : Value} (hts : ∀ w ∈ Ts, w.before args s = true) (hin : ∀ w ∈ u_ws C T N, w ∈ Ts) (hown : s.vm.findClass own = some m.cls) (hK : va_K D cl tys s) (hw : yH D cl A H0 H locs (wl ad LL g ++ X)) (hq : q ∈ LL) (hg : g q = .inr (ci, fs)) (hc : cl[ci]? = some (C, T, N)) (k : Nat) (hk : k < N) (hlink : (Cond.fieldLink own index ref (T k).2.1 (T k).2.2.1).before args s = true) (hsame : ∀ x, s.fieldFound? (T k).1 (T k).2.1 (T k).2.2.1 = some x → s.fieldFound? ref (T k).2.1 (T k).2.2.1 = some x) (hv : fs[k]? = some v) (hdg : decode cc pc = .ok (.getfield index, 3))
    (kk : W p l e R s m args below meth c H locs cells slots Q (F0 m (pc + 3) ls (v :: rest))) : W p l e R s m args below meth c H locs cells slots Q (F0 m pc ls (.ref (ad q) :: rest)) := by
  obtain ⟨k0, hk0⟩ := wl_get (ad := ad) (g := g) (X := X) hq
  rw [hg] at hk0
  exact va_get hexec hb hts hin hown hK hw.1 k0 hk0 hc k hk hlink hsame hv hdg kk
theorem yr_getN (hexec : p.tables.exec = Jvm.exec) (hb : c.code = cc) {own ref C host : String} {T : u_T} {N ci index : Nat} {Ts : List Cond} {fs : List Value} {v : Value} (hts : ∀ w ∈ Ts, w.before args s = true) (hin : ∀ w ∈ u_ws C T N, w ∈ Ts) (hown : s.vm.findClass own = some m.cls) (hK : va_K D cl tys s) (hw : yH D cl A H0 H locs (wl ad LL g ++ X)) (hq : q ∈ LL) (hg : g q = .inr (ci, fs)) (hc : cl[ci]? = some (C, T, N)) (k : Nat) (hk : k < N) (hlink : (Cond.fieldLinkNest own index ref (T k).2.1 (T k).2.2.1 host).before args s = true) (hsame : ∀ x, s.fieldFound? (T k).1 (T k).2.1 (T k).2.2.1 = some x → s.fieldFound? ref (T k).2.1 (T k).2.2.1 = some x) (hv : fs[k]? = some v) (hdg : decode cc pc = .ok (.getfield index, 3))
    (kk : W p l e R s m args below meth c H locs cells slots Q (F0 m (pc + 3) ls (v :: rest))) : W p l e R s m args below meth c H locs cells slots Q (F0 m pc ls (.ref (ad q) :: rest)) := by
  obtain ⟨k0, hk0⟩ := wl_get (ad := ad) (g := g) (X := X) hq
  rw [hg] at hk0
  exact va_getN hexec hb hts hin hown hK hw.1 k0 hk0 hc k hk hlink hsame hv hdg kk
theorem yr_put (hexec : p.tables.exec = Jvm.exec) (hb : c.code = cc) {own ref C : String} {T : u_T} {N ci index : Nat} {Ts : List Cond} {fs : List Value} {ty : FieldType} {v : Value} (hts : ∀ w ∈ Ts, w.before args s = true) (hin : ∀ w ∈ u_ws C T N, w ∈ Ts) (ty0 : Nat → FieldType) (hty : ∀ k, k < N → parseFieldDescriptor (T k).2.2.1 = some (ty0 k)) (hnm : ∀ a, a < N → ∀ b, b < N → a ≠ b → (T a).2.1 ≠ (T b).2.1) (hown : s.vm.findClass own = some m.cls) (hK : va_K D cl tys s) (hw : yH D cl A H0 H locs (wl ad LL g ++ X)) (hq : q ∈ LL) (hg : g q = .inr (ci, fs)) (hc : cl[ci]? = some (C, T, N)) (k : Nat) (hk : k < N) (hlink : (Cond.fieldLink own index ref (T k).2.1 (T k).2.2.1).before args s = true) (hsame : ∀ x, s.fieldFound? (T k).1 (T k).2.1 (T k).2.2.1 = some x → s.fieldFound? ref (T k).2.1 (T k).2.2.1 = some x) (hfin : (T k).2.2.2 = false) (hd : parseFieldDescriptor (T k).2.2.1 = some ty) (hn : narrow ty v = v) (hfit : fits ty v = true) (hl : k < fs.length) (hdg : decode cc pc = .ok (.putfield index, 3))
    (kk : ∀ (H1 : Heap) (locs1 : List Loc), yH D cl A H0 H1 locs1 (wl ad LL (yu g q (.inr (ci, fs.set k v))) ++ X) → W p l e R s m args below meth c H1 locs1 cells slots Q (F0 m (pc + 3) ls rest)) : W p l e R s m args below meth c H locs cells slots Q (F0 m pc ls (v :: .ref (ad q) :: rest)) := by
  obtain ⟨k0, hk0⟩ := wl_get (ad := ad) (g := g) (X := X) hq
  rw [hg] at hk0
  refine va_put hexec hb hts hin ty0 hty hnm hown hK hw.1 hw.2.1 hw.2.2 k0 hk0 hc k hk hlink hsame hfin hd hn hfit hl hdg (fun H1 locs1 hP hD hS => kk H1 locs1 ?_)
  rw [wl_set hw.2.1 hq hk0] at hP hD
  exact ⟨hP, hD, hS⟩
theorem yr_putF (hexec : p.tables.exec = Jvm.exec) (hb : c.code = cc) {own ref C : String} {T : u_T} {N ci index : Nat} {Ts : List Cond} {fs : List Value} {ty : FieldType} {v : Value} (hts : ∀ w ∈ Ts, w.before args s = true) (hin : ∀ w ∈ u_ws C T N, w ∈ Ts) (ty0 : Nat → FieldType) (hty : ∀ k, k < N → parseFieldDescriptor (T k).2.2.1 = some (ty0 k)) (hnm : ∀ a, a < N → ∀ b, b < N → a ≠ b → (T a).2.1 ≠ (T b).2.1) (hown : s.vm.findClass own = some m.cls) (hK : va_K D cl tys s) (hw : yH D cl A H0 H locs (wl ad LL g ++ X)) (hq : q ∈ LL) (hg : g q = .inr (ci, fs)) (hc : cl[ci]? = some (C, T, N)) (k : Nat) (hk : k < N) (hlink : (Cond.fieldLink own index ref (T k).2.1 (T k).2.2.1).before args s = true) (hsame : ∀ x, s.fieldFound? (T k).1 (T k).2.1 (T k).2.2.1 = some x → s.fieldFound? ref (T k).2.1 (T k).2.2.1 = some x) (hfin : (T k).2.2.2 = true) (hin2 : meth.name = "<init>") (hdecl : (T k).1 = own) (hd : parseFieldDescriptor (T k).2.2.1 = some ty) (hn : narrow ty v = v) (hfit : fits ty v = true) (hl : k < fs.length) (hdg : decode cc pc = .ok (.putfield index, 3))
    (kk : ∀ (H1 : Heap) (locs1 : List Loc), yH D cl A H0 H1 locs1 (wl ad LL (yu g q (.inr (ci, fs.set k v))) ++ X) → W p l e R s m args below meth c H1 locs1 cells slots Q (F0 m (pc + 3) ls rest)) : W p l e R s m args below meth c H locs cells slots Q (F0 m pc ls (v :: .ref (ad q) :: rest)) := by
  obtain ⟨k0, hk0⟩ := wl_get (ad := ad) (g := g) (X := X) hq
  rw [hg] at hk0
  refine va_putF hexec hb hts hin ty0 hty hnm hown hK hw.1 hw.2.1 hw.2.2 k0 hk0 hc k hk hlink hsame hfin hin2 hdecl hd hn hfit hl hdg (fun H1 locs1 hP hD hS => kk H1 locs1 ?_)
  rw [wl_set hw.2.1 hq hk0] at hP hD
  exact ⟨hP, hD, hS⟩
theorem yr_iald (hexec : p.tables.exec = Jvm.exec) (hb : c.code = cc) {cA : ClassId} {n : Nat} {f : Nat → Int32} {i : Int32} {v : Int32} (hK : va_K D cl tys s) (hw : yH D cl A H0 H locs (wl ad LL g ++ X)) (hq : q ∈ LL) (hg : g q = .inl (cA, n, .inl f)) (t0 : Nat) (ht : tys[t0]? = some (cA, .int)) (hin : vp_in i n) (hv : f i.toNatClampNeg = v) (hdg : decode cc pc = .ok (.iaload, 1))
    (kk : W p l e R s m args below meth c H locs cells slots Q (F0 m (pc + 1) ls (.int v :: rest))) : W p l e R s m args below meth c H locs cells slots Q (F0 m pc ls (.int i :: .ref (ad q) :: rest)) := by
  obtain ⟨k0, hk0⟩ := wl_get (ad := ad) (g := g) (X := X) hq
  rw [hg] at hk0
  subst hv
  exact va_iald hexec hb hK hw.1 k0 t0 hk0 ht hin hdg kk
theorem yr_iast (hexec : p.tables.exec = Jvm.exec) (hb : c.code = cc) {cA : ClassId} {n : Nat} {f : Nat → Int32} {i x : Int32} (hK : va_K D cl tys s) (hw : yH D cl A H0 H locs (wl ad LL g ++ X)) (hq : q ∈ LL) (hg : g q = .inl (cA, n, .inl f)) (t0 : Nat) (ht : tys[t0]? = some (cA, .int)) (hin : vp_in i n) (hdg : decode cc pc = .ok (.iastore, 1))
    (kk : ∀ (H1 : Heap) (locs1 : List Loc), yH D cl A H0 H1 locs1 (wl ad LL (yu g q (.inl (cA, n, .inl (upd f i.toNatClampNeg x)))) ++ X) → W p l e R s m args below meth c H1 locs1 cells slots Q (F0 m (pc + 1) ls rest)) : W p l e R s m args below meth c H locs cells slots Q (F0 m pc ls (.int x :: .int i :: .ref (ad q) :: rest)) := by
  obtain ⟨k0, hk0⟩ := wl_get (ad := ad) (g := g) (X := X) hq
  rw [hg] at hk0
  refine va_iast hexec hb hK hw.1 hw.2.1 hw.2.2 k0 t0 hk0 ht hin hdg (fun H1 locs1 hP hD hS => kk H1 locs1 ?_)
  rw [wl_set hw.2.1 hq hk0] at hP hD
  exact ⟨hP, hD, hS⟩
theorem yr_aldq (hexec : p.tables.exec = Jvm.exec) (hb : c.code = cc) {cA : ClassId} {C : String} {n : Nat} {f : Nat → Option Nat} {i : Int32} {v : Value} (hK : va_K D cl tys s) (hw : yH D cl A H0 H locs (wl ad LL g ++ X)) (hq : q ∈ LL) (hg : g q = .inl (cA, n, .inr (.inr (.inr (.inr f))))) (t0 : Nat) (ht : tys[t0]? = some (cA, .object C)) (hin : vp_in i n) (hv : va_rf (f i.toNatClampNeg) = v) (hdg : decode cc pc = .ok (.aaload, 1))
    (kk : W p l e R s m args below meth c H locs cells slots Q (F0 m (pc + 1) ls (v :: rest))) : W p l e R s m args below meth c H locs cells slots Q (F0 m pc ls (.int i :: .ref (ad q) :: rest)) := by
  obtain ⟨k0, hk0⟩ := wl_get (ad := ad) (g := g) (X := X) hq
  rw [hg] at hk0
  subst hv
  exact va_aldq hexec hb hK hw.1 k0 t0 hk0 ht hin hdg kk
theorem yr_astq (hexec : p.tables.exec = Jvm.exec) (hb : c.code = cc) {cA : ClassId} {r : vw_C} {n ci : Nat} {vs : List Value} {f : Nat → Option Nat} {i : Int32} {q2 : yl} (hK : va_K D cl tys s) (hw : yH D cl A H0 H locs (wl ad LL g ++ X)) (hq : q ∈ LL) (hg : g q = .inl (cA, n, .inr (.inr (.inr (.inr f))))) (t0 : Nat) (ht : tys[t0]? = some (cA, .object r.1)) (hq2 : q2 ∈ LL) (hg2 : g q2 = .inr (ci, vs)) (hc : cl[ci]? = some r) (hin : vp_in i n) (hdg : decode cc pc = .ok (.aastore, 1))
    (kk : ∀ (H1 : Heap) (locs1 : List Loc), yH D cl A H0 H1 locs1 (wl ad LL (yu g q (.inl (cA, n, .inr (.inr (.inr (.inr (va_up f i.toNatClampNeg (some (ad q2))))))))) ++ X) → W p l e R s m args below meth c H1 locs1 cells slots Q (F0 m (pc + 1) ls rest)) : W p l e R s m args below meth c H locs cells slots Q (F0 m pc ls (.ref (ad q2) :: .int i :: .ref (ad q) :: rest)) := by
  obtain ⟨k0, hk0⟩ := wl_get (ad := ad) (g := g) (X := X) hq
  obtain ⟨k2, hk2⟩ := wl_get (ad := ad) (g := g) (X := X) hq2
  rw [hg] at hk0
  rw [hg2] at hk2
  refine va_astq hexec hb hK hw.1 hw.2.1 hw.2.2 k0 t0 k2 ci hk0 ht hk2 hc hin hdg (fun H1 locs1 hP hD hS => kk H1 locs1 ?_)
  rw [wl_set hw.2.1 hq hk0] at hP hD
  exact ⟨hP, hD, hS⟩
theorem yr_alen (hexec : p.tables.exec = Jvm.exec) (hb : c.code = cc) {cA : ClassId} {x : vp_A} {ty : FieldType} {v : Int32} (hK : va_K D cl tys s) (hw : yH D cl A H0 H locs (wl ad LL g ++ X)) (hq : q ∈ LL) (hg : g q = .inl (cA, x)) (t0 : Nat) (ht : tys[t0]? = some (cA, ty)) (hv : Int32.ofNat x.1 = v) (hdg : decode cc pc = .ok (.arraylength, 1))
    (kk : W p l e R s m args below meth c H locs cells slots Q (F0 m (pc + 1) ls (.int v :: rest))) : W p l e R s m args below meth c H locs cells slots Q (F0 m pc ls (.ref (ad q) :: rest)) := by
  obtain ⟨k0, hk0⟩ := wl_get (ad := ad) (g := g) (X := X) hq
  rw [hg] at hk0
  exact va_alen hexec hb hK hw.1 k0 t0 hk0 ht hv hdg kk
end YR
end
section
/-! CONTRACTS OVER SUCH WORLDS: no frame rule is needed at a call, for the callee gets the whole world -/
/-- how many ins, how many outs, how long a row, by kind -/
def yt_ins (k : Nat) : Nat := [0, 1, 1, 2, 2, 1, 1, 2, 1].getD k 0
def yt_outs (k : Nat) : Nat := [1, 1, 2, 1, 1, 1, 0, 1, 2].getD k 0
def yt_rows (k : Nat) : Nat := [20, 0, 0, 0, 0, 0, 60, 0, 0].getD k 0
/-- a static array that nobody writes, and the entry by which Actor reaches it -/
def yZ (z : Nat × String × (Nat → Nat)) (A : Nat → Prop) (U : State) (H : Heap) : Prop := va_Nw (.fieldLinkNest "YardActors$Actor" z.1 "YardActors" z.2.1 "[I" "YardActors") U ∧ ∃ t : Nat, va_Z "YardActors" z.2.1 "[I" (.ref t) A U H ∧ va_T .int t 9 (fun j => .int (nI (z.2.2 j))) A U H
def yzs : List (Nat × String × (Nat → Nat)) := [(43, "INS", yt_ins), (46, "OUTS", yt_outs), (30, "ROWS", yt_rows)]
def yao : List String := ["YardActors$Actor", "YardActors$Channel"]
/-- the tables' side: classes, array classes (also by their names), static arrays; all that lies below b0 isn't ours -/
def yK (D : va_G) (cl : List vw_C) (tys : List (ClassId × FieldType)) (b0 : Nat) (U : State) : Prop :=
  va_K D cl tys U ∧ (∀ x ∈ tys, U.vm.findClass ("[" ++ x.2.toString) = some x.1) ∧ (∀ C ∈ yao, va_AO C U) ∧ ∀ z ∈ yzs, yZ z (fun q => b0 ≤ q) U U.heap
theorem yK.now {D : va_G} {cl : List vw_C} {tys : List (ClassId × FieldType)} {b0 : Nat} {A : Nat → Prop} {s U : State} {H : Heap} {locs : List Loc} (hK : yK D cl tys b0 s) (hS : va_S A s.heap H locs) (hAb : ∀ q, A q → b0 ≤ q) (hU : U.heap = H) (hW : s.WarmedH U.vm) : yK D cl tys b0 U := by
  have hvm := hW.alike
  have hk : ∀ a : Nat, a < s.heap.size → ¬ (fun q : Nat => b0 ≤ q) a → U.heap[a]? = s.heap[a]? := fun a h1 h2 => by
    rw [hU]
    exact hS.2.1 a h1 (fun h => h2 (hAb a h))
  refine ⟨va_K.moved hvm hK.1, fun x hx => by rw [hvm.findClass]; exact hK.2.1 x hx, fun C hC => (hK.2.2.1 C hC).moved hvm, fun z hz => ?_⟩
  obtain ⟨h0, t, h1, h2⟩ := hK.2.2.2 z hz
  exact ⟨va_Nw.warmF hW h0, t, (h1.kept hk).moved hvm, (h2.kept hk).moved hvm⟩
def yPre (D : va_G) (cl : List vw_C) (tys : List (ClassId × FieldType)) (b0 : Nat) (av : List Value) (ws : va_W) (sz : Nat) : Array Value → State → Prop :=
  va_Pc av (fun U => U.heap.size = sz ∧ va_P D cl ws U.heap ∧ yK D cl tys b0 U ∧ va_D (fun q => b0 ≤ q) ws ∧ b0 ≤ sz)
abbrev yB {S : Type} (D : va_G) (cl : List vw_C) (ws : va_W) (sz : Nat) (w' : S → va_W) : S → State → Prop := fun u t => va_P D cl (w' u) t.heap ∧ va_D (va_A ws sz) (w' u)
theorem yPre.blind {D : va_G} {cl : List vw_C} {tys : List (ClassId × FieldType)} {b0 : Nat} {av : List Value} {ws : va_W} {sz : Nat} : FrameBlind (yPre D cl tys b0 av ws sz) := by
  intro a U g mk q
  obtain ⟨q0, q1, q2, q3, q4⟩ := q
  exact ⟨q0, q1, q2, ⟨va_K.moved (u := U) (U := U.calling g mk a) (Vm.Alike.refl U.vm) q3.1, q3.2.1, fun C hC => (q3.2.2.1 C hC).moved (u := U) (U := U.calling g mk a) (Vm.Alike.refl U.vm), fun z hz => by
    obtain ⟨h0, t, h1, h2⟩ := q3.2.2.2 z hz
    exact ⟨va_Nw.same rfl (rfl : U.vm = (U.calling g mk a).vm) h0, t, h1.moved (u := U) (U := U.calling g mk a) (Vm.Alike.refl U.vm), h2.moved (u := U) (U := U.calling g mk a) (Vm.Alike.refl U.vm)⟩⟩, q4⟩
/-- what holds in a body, all in one -/
def yIn (p : Program) (s : State) (m : MethodId) (meth : Method) (c : Code) (cc : ByteArray) (ret : Option FieldType) (maxL : Nat) (Ts : List Cond) (args : Array Value) (own nm : String) (D : va_G) (cl : List vw_C) (tys : List (ClassId × FieldType)) (b0 : Nat) (A : Nat → Prop) : Prop :=
  p.tables.exec = Jvm.exec ∧ c.code = cc ∧ meth.sig.returnType = ret ∧ c.maxLocals = maxL ∧ (∀ w ∈ Ts, w.before args s = true) ∧ s.vm.findClass own = some m.cls ∧ meth.locks = false ∧ meth.name = nm ∧ yK D cl tys b0 s ∧ (∀ q, A q → b0 ≤ q) ∧ b0 ≤ s.heap.size ∧ (∀ q, s.heap.size ≤ q → A q)
section YC
variable {p : Program} {l : Launch} {e : Env} {R : Room} {s : State} {m : MethodId} {args : Array Value} {below : List Frame} {meth : Method} {c : Code} {H : Heap} {locs : List Loc} {cells slots : Nat} {Q : State → Prop}
variable {cc : ByteArray} {ret : Option FieldType} {maxL : Nat} {Ts : List Cond} {own nm : String} {D : va_G} {cl : List vw_C} {tys : List (ClassId × FieldType)} {b0 : Nat} {A : Nat → Prop}
theorem y_ofW {y : MethodName} {ws ws' : List Cond} {rm : Room} {av : List Value} {wv : va_W} {sz mc ms : Nat} {Qc : Array Value → State → Outcome → State → Prop} (hy : plainName y.cls = true) (hw : ws = Cond.code y cc maxL ret :: ws') (hlen : (lg_sl av).length ≤ maxL)
    (body : ∀ (p : Program) (e : Env) (s : State) (m : MethodId) (below : List Frame) (meth : Method) (c : Code) (ls : Array Slot), yIn p s m meth c cc ret maxL ws av.toArray y.cls y.name D cl tys b0 (va_A wv sz) → s.heap.size = sz → yH D cl (va_A wv sz) s.heap s.heap [] wv → lv_has ls maxL (lv_args 0 av) →
      W p l e (headSpec ws rm).room s m av.toArray below meth c s.heap [] 0 0 (MQ below Qc av.toArray s mc ms (va_A wv sz)) (F0 m 0 ls [])) : Met l y ws rm (yPre D cl tys b0 av wv sz) Qc mc ms (va_A wv sz) := by
  refine Met.ofW (cc := cc) (maxL := maxL) (ret := ret) hy hw ?_
  intro p e s m args below meth c s₁ B hml hv
  obtain ⟨rfl, hsz, hP, hK, hD0, hb0⟩ := hv
  have hts := atoms_spec (ws := ws) B.pre
  have hown : s.vm.findClass y.cls = some m.cls := findClass_of_methodNamed B.named
  have hnm : meth.name = y.name := (name_of_methodNamed B.named B.method).1
  subst hsz
  have hD := hD0.self (sz := s.heap.size)
  have hl := lv_entry av (n := maxL) hlen
  rw [lg_entry_eq]
  refine body p e s m below meth c _ ⟨B.exec, B.bytes, B.returns, hml, hts, hown, B.notSynchronized, hnm, hK, fun q hq => ?_, hb0, fun q h => Or.inr h⟩ rfl ⟨hP, hD, va_S.rf⟩ hl
  rcases hq with ⟨k, e0, hk⟩ | h
  · exact hD0.2 k _ hk
  · exact Nat.le_trans hb0 h
theorem y_preV {C : String} {b : Nat} {As : List Value} {ws : va_W} (hI : yIn p s m meth c cc ret maxL Ts args own nm D cl tys b0 A) (hw : yH D cl A s.heap H locs ws) (hr : ∃ cellB : Cell, H[b]? = some cellB ∧ cellB.vm.isStatics = false ∧ s.vm.findClass C = some cellB.cls) : PreV s H C b (yPre D cl tys b0 (.ref b :: As) ws H.size) As := by
  obtain ⟨-, -, -, -, -, -, -, -, hK, hAb, hb0, -⟩ := hI
  exact ⟨yPre.blind, hr, fun U hU hW => ⟨rfl, by rw [hU], by rw [hU]; exact hw.1, hK.now hw.2.2 hAb hU hW, hw.2.1.weaken (fun _ _ _ h => hAb _ h), Nat.le_trans hb0 hw.2.2.1⟩⟩
theorem y_preS {As : List Value} {ws : va_W} (hI : yIn p s m meth c cc ret maxL Ts args own nm D cl tys b0 A) (hw : yH D cl A s.heap H locs ws) : PreS s H (yPre D cl tys b0 As ws H.size) As := by
  obtain ⟨-, -, -, -, -, -, -, -, hK, hAb, hb0, -⟩ := hI
  exact ⟨yPre.blind, fun U hU hW => ⟨rfl, by rw [hU], by rw [hU]; exact hw.1, hK.now hw.2.2 hAb hU hW, hw.2.1.weaken (fun _ _ _ h => hAb _ h), Nat.le_trans hb0 hw.2.2.1⟩⟩
theorem y_recv {ad : yl → Nat} {LL : List yl} {g : yl → va_E} {X : va_W} {q : yl} {ci : Nat} {r : vw_C} {fs : List Value} (hK : va_K D cl tys s) (hw : yH D cl A s.heap H locs (wl ad LL g ++ X)) (hq : q ∈ LL) (hg : g q = .inr (ci, fs)) (hc : cl[ci]? = some r) : ∃ cellB : Cell, H[ad q]? = some cellB ∧ cellB.vm.isStatics = false ∧ s.vm.findClass r.1 = some cellB.cls := by
  obtain ⟨k0, hk0⟩ := wl_get (ad := ad) (g := g) (X := X) hq
  rw [hg] at hk0
  exact va_recv hK hw.1 hc hk0
theorem y_free {ws : va_W} {H0 : Heap} (hA : ∀ q, H0.size ≤ q → A q) (hw : yH D cl A H0 H locs ws) : ∀ q, va_A ws H.size q → A q := by
  intro q hq
  rcases hq with ⟨k, e0, hk⟩ | h
  · exact hw.2.1.2 k _ hk
  · exact hA q (Nat.le_trans hw.2.2.1 h)
variable {pc : Nat} {ls : Array Slot} {st0 rest : List Value} {mc ms : Nat} {a : Array Value} {ws : va_W} {H0 : Heap}
theorem yc_i {S : Type} {post : Int32 → S → Prop} {w' : S → va_W} (hr : va_Run p l e R s m args below meth c H locs cells slots mc ms (F0 m pc ls st0) rest (va_Qi post (yB D cl ws H.size w') (va_A ws H.size) a) (va_A ws H.size)) (hw : yH D cl A H0 H locs ws) (hA : ∀ q, H0.size ≤ q → A q)
    (kk : ∀ (r : Int32) (u : S) (H1 : Heap) (locs1 : List Loc), post r u → yH D cl A H0 H1 locs1 (w' u) → W p l e R s m args below meth c H1 locs1 (cells + mc) (slots + ms) Q (F0 m (pc + 3) ls (.int r :: rest))) : W p l e R s m args below meth c H locs cells slots Q (F0 m pc ls st0) := by
  have hF := y_free hA hw
  refine va_calli hr hw.2.2 (fun q _ h => hF q h) hF (fun r u t H1 locs1 ht hvm hp hB hz hk hS => kk r u H1 locs1 hp ⟨by rw [← ht]; exact hB.1, hB.2.weaken (fun _ _ _ h => hF _ h), hS⟩)
theorem yc_l {S : Type} {post : Int64 → S → Prop} {w' : S → va_W} (hr : va_Run p l e R s m args below meth c H locs cells slots mc ms (F0 m pc ls st0) rest (va_Ql post (yB D cl ws H.size w') (va_A ws H.size) a) (va_A ws H.size)) (hw : yH D cl A H0 H locs ws) (hA : ∀ q, H0.size ≤ q → A q)
    (kk : ∀ (r : Int64) (u : S) (H1 : Heap) (locs1 : List Loc), post r u → yH D cl A H0 H1 locs1 (w' u) → W p l e R s m args below meth c H1 locs1 (cells + mc) (slots + ms) Q (F0 m (pc + 3) ls (.long r :: rest))) : W p l e R s m args below meth c H locs cells slots Q (F0 m pc ls st0) := by
  have hF := y_free hA hw
  refine va_calll hr hw.2.2 (fun q _ h => hF q h) hF (fun r u t H1 locs1 ht hvm hp hB hz hk hS => kk r u H1 locs1 hp ⟨by rw [← ht]; exact hB.1, hB.2.weaken (fun _ _ _ h => hF _ h), hS⟩)
theorem yc_v {S : Type} {post : S → Prop} {w' : S → va_W} (hr : va_Run p l e R s m args below meth c H locs cells slots mc ms (F0 m pc ls st0) rest (va_Qv post (yB D cl ws H.size w') (va_A ws H.size) a) (va_A ws H.size)) (hw : yH D cl A H0 H locs ws) (hA : ∀ q, H0.size ≤ q → A q)
    (kk : ∀ (u : S) (H1 : Heap) (locs1 : List Loc), post u → yH D cl A H0 H1 locs1 (w' u) → W p l e R s m args below meth c H1 locs1 (cells + mc) (slots + ms) Q (F0 m (pc + 3) ls rest)) : W p l e R s m args below meth c H locs cells slots Q (F0 m pc ls st0) := by
  have hF := y_free hA hw
  refine va_callv hr hw.2.2 (fun q _ h => hF q h) hF (fun u t H1 locs1 ht hvm hp hB hz hk hS => kk u H1 locs1 hp ⟨by rw [← ht]; exact hB.1, hB.2.weaken (fun _ _ _ h => hF _ h), hS⟩)
theorem yc_q {S : Type} {post : Option Nat → S → Prop} {w' : S → va_W} (hr : va_Run p l e R s m args below meth c H locs cells slots mc ms (F0 m pc ls st0) rest (va_Qq post (yB D cl ws H.size w') (va_A ws H.size) a) (va_A ws H.size)) (hw : yH D cl A H0 H locs ws) (hA : ∀ q, H0.size ≤ q → A q)
    (kk : ∀ (r : Option Nat) (u : S) (H1 : Heap) (locs1 : List Loc), post r u → yH D cl A H0 H1 locs1 (w' u) → W p l e R s m args below meth c H1 locs1 (cells + mc) (slots + ms) Q (F0 m (pc + 3) ls (va_rf r :: rest))) : W p l e R s m args below meth c H locs cells slots Q (F0 m pc ls st0) := by
  have hF := y_free hA hw
  refine va_callq hr hw.2.2 (fun q _ h => hF q h) hF (fun r u t H1 locs1 ht hvm hp hB hz hk hS => kk r u H1 locs1 hp ⟨by rw [← ht]; exact hB.1, hB.2.weaken (fun _ _ _ h => hF _ h), hS⟩)
/-- the ends -/
theorem ye_i {S : Type} {post : Int32 → S → Prop} {w' : S → va_W} {wv : va_W} {sz : Nat} {v : Int32} (hI : yIn p s m meth c cc (some .int) maxL Ts args own nm D cl tys b0 (va_A wv sz)) (u : S) (hp : post v u) (hw : yH D cl (va_A wv sz) s.heap H locs (w' u)) (hdg : decode cc pc = .ok (.ireturn, 1)) : W p l e R s m args below meth c H locs cells slots (MQ below (va_Qi post (yB D cl wv sz w') (va_A wv sz)) args s cells slots (va_A wv sz)) (F0 m pc ls [.int v]) := by
  obtain ⟨hx, hb, hr, -, -, -, hlocks, -⟩ := hI
  exact W.iret hx hb hr (fun t ht hW => ⟨⟨v, u, rfl, hp, by rw [ht]; exact hw.1, hw.2.1⟩, hw.2.2.F ht⟩) hw.2.2.2.2 hdg hlocks
theorem ye_z {S : Type} {post : Int32 → S → Prop} {w' : S → va_W} {wv : va_W} {sz : Nat} {v : Int32} (hI : yIn p s m meth c cc (some .boolean) maxL Ts args own nm D cl tys b0 (va_A wv sz)) (hn : narrow .boolean (.int v) = .int v) (u : S) (hp : post v u) (hw : yH D cl (va_A wv sz) s.heap H locs (w' u)) (hdg : decode cc pc = .ok (.ireturn, 1)) : W p l e R s m args below meth c H locs cells slots (MQ below (va_Qi post (yB D cl wv sz w') (va_A wv sz)) args s cells slots (va_A wv sz)) (F0 m pc ls [.int v]) := by
  obtain ⟨hx, hb, hr, -, -, -, hlocks, -⟩ := hI
  exact W.zret hx hb hr hn (fun t ht hW => ⟨⟨v, u, rfl, hp, by rw [ht]; exact hw.1, hw.2.1⟩, hw.2.2.F ht⟩) hw.2.2.2.2 hdg hlocks
theorem ye_l {S : Type} {post : Int64 → S → Prop} {w' : S → va_W} {wv : va_W} {sz : Nat} {v : Int64} (hI : yIn p s m meth c cc (some .long) maxL Ts args own nm D cl tys b0 (va_A wv sz)) (u : S) (hp : post v u) (hw : yH D cl (va_A wv sz) s.heap H locs (w' u)) (hdg : decode cc pc = .ok (.lreturn, 1)) : W p l e R s m args below meth c H locs cells slots (MQ below (va_Ql post (yB D cl wv sz w') (va_A wv sz)) args s cells slots (va_A wv sz)) (F0 m pc ls [.long v]) := by
  obtain ⟨hx, hb, hr, -, -, -, hlocks, -⟩ := hI
  exact W.lret hx hb hr (fun t ht hW => ⟨⟨v, u, rfl, hp, by rw [ht]; exact hw.1, hw.2.1⟩, hw.2.2.F ht⟩) hw.2.2.2.2 hdg hlocks
theorem ye_v {S : Type} {post : S → Prop} {w' : S → va_W} {wv : va_W} {sz : Nat} (hI : yIn p s m meth c cc none maxL Ts args own nm D cl tys b0 (va_A wv sz)) (u : S) (hp : post u) (hw : yH D cl (va_A wv sz) s.heap H locs (w' u)) (hdg : decode cc pc = .ok (.return_, 1)) : W p l e R s m args below meth c H locs cells slots (MQ below (va_Qv post (yB D cl wv sz w') (va_A wv sz)) args s cells slots (va_A wv sz)) (F0 m pc ls []) := by
  obtain ⟨hx, hb, hr, -, -, -, hlocks, -⟩ := hI
  exact W.vret hx hb hr (fun t ht hW => ⟨⟨u, rfl, hp, by rw [ht]; exact hw.1, hw.2.1⟩, hw.2.2.F ht⟩) hw.2.2.2.2 hdg hlocks
theorem ye_q {S : Type} {post : Option Nat → S → Prop} {w' : S → va_W} {wv : va_W} {sz : Nat} {C : String} (r : Option Nat) {v : Value} (hv : v = va_rf r) (hI : yIn p s m meth c cc (some (.object C)) maxL Ts args own nm D cl tys b0 (va_A wv sz)) (u : S) (hp : post r u) (hw : yH D cl (va_A wv sz) s.heap H locs (w' u)) (hdg : decode cc pc = .ok (.areturn, 1)) : W p l e R s m args below meth c H locs cells slots (MQ below (va_Qq post (yB D cl wv sz w') (va_A wv sz)) args s cells slots (va_A wv sz)) (F0 m pc ls [v]) := by
  obtain ⟨hx, hb, hr, -, -, -, hlocks, -⟩ := hI
  subst hv
  exact W.aret hx hb hr (Or.inl ⟨C, rfl⟩) (va_rf_or r) (fun t ht hW => ⟨⟨r, u, rfl, hp, by rw [ht]; exact hw.1, hw.2.1⟩, hw.2.2.F ht⟩) hw.2.2.2.2 hdg hlocks
end YC
end
section
/-! THE CLASS'S STATE: flag; counts by yard; actors (kind, a, b, told, times); ins; outs; rows; channels (room, first, count); rings; the ready row -/
abbrev ya : Type := Nat × Int32 × Int32 × Nat × Nat
abbrev yc : Type := Nat × Nat × Nat
abbrev ys : Type := (Nat → Nat → Int32) × (Nat → Nat × Nat) × (Nat → Nat → ya) × (Nat → Nat → Nat → Option Nat) × (Nat → Nat → Nat → Option Nat) × (Nat → Nat → Nat → Int32) × (Nat → Nat → yc) × (Nat → Nat → Nat → Int32) × (Nat → Nat → Nat → Int32)
def s_fl (σ : ys) : Nat → Nat → Int32 := σ.1
def s_n (σ : ys) (y : Nat) : Nat := (σ.2.1 y).1
def s_nc (σ : ys) (y : Nat) : Nat := (σ.2.1 y).2
def s_ac (σ : ys) : Nat → Nat → ya := σ.2.2.1
def s_ic (σ : ys) : Nat → Nat → Nat → Option Nat := σ.2.2.2.1
def s_oc (σ : ys) : Nat → Nat → Nat → Option Nat := σ.2.2.2.2.1
def s_rw (σ : ys) : Nat → Nat → Nat → Int32 := σ.2.2.2.2.2.1
def s_ch (σ : ys) : Nat → Nat → yc := σ.2.2.2.2.2.2.1
def s_rg (σ : ys) : Nat → Nat → Nat → Int32 := σ.2.2.2.2.2.2.2.1
def s_rd (σ : ys) : Nat → Nat → Nat → Int32 := σ.2.2.2.2.2.2.2.2
def up2 {β : Type} (f : Nat → Nat → β) (y i : Nat) (v : β) : Nat → Nat → β := fun y' i' => if y' = y ∧ i' = i then v else f y' i'
theorem up2_s {β : Type} (f : Nat → Nat → β) (y i : Nat) (v : β) : up2 f y i v y i = v := if_pos ⟨rfl, rfl⟩
theorem up2_n {β : Type} (f : Nat → Nat → β) {y i y' i' : Nat} (v : β) (h : ¬ (y' = y ∧ i' = i)) : up2 f y i v y' i' = f y' i' := if_neg h
def sx_fl (σ : ys) (y i : Nat) (v : Int32) : ys := (up2 σ.1 y i v, σ.2)
def sx_cn (σ : ys) (y : Nat) (v : Nat × Nat) : ys := (σ.1, va_up σ.2.1 y v, σ.2.2)
def sx_ac (σ : ys) (y i : Nat) (v : ya) : ys := (σ.1, σ.2.1, up2 σ.2.2.1 y i v, σ.2.2.2)
def sx_ic (σ : ys) (y i : Nat) (v : Nat → Option Nat) : ys := (σ.1, σ.2.1, σ.2.2.1, up2 σ.2.2.2.1 y i v, σ.2.2.2.2)
def sx_oc (σ : ys) (y i : Nat) (v : Nat → Option Nat) : ys := (σ.1, σ.2.1, σ.2.2.1, σ.2.2.2.1, up2 σ.2.2.2.2.1 y i v, σ.2.2.2.2.2)
def sx_rw (σ : ys) (y i : Nat) (v : Nat → Int32) : ys := (σ.1, σ.2.1, σ.2.2.1, σ.2.2.2.1, σ.2.2.2.2.1, up2 σ.2.2.2.2.2.1 y i v, σ.2.2.2.2.2.2)
def sx_ch (σ : ys) (y i : Nat) (v : yc) : ys := (σ.1, σ.2.1, σ.2.2.1, σ.2.2.2.1, σ.2.2.2.2.1, σ.2.2.2.2.2.1, up2 σ.2.2.2.2.2.2.1 y i v, σ.2.2.2.2.2.2.2)
def sx_rg (σ : ys) (y i : Nat) (v : Nat → Int32) : ys := (σ.1, σ.2.1, σ.2.2.1, σ.2.2.2.1, σ.2.2.2.2.1, σ.2.2.2.2.2.1, σ.2.2.2.2.2.2.1, up2 σ.2.2.2.2.2.2.2.1 y i v, σ.2.2.2.2.2.2.2.2)
def sx_rd (σ : ys) (y i : Nat) (v : Nat → Int32) : ys := (σ.1, σ.2.1, σ.2.2.1, σ.2.2.2.1, σ.2.2.2.2.1, σ.2.2.2.2.2.1, σ.2.2.2.2.2.2.1, σ.2.2.2.2.2.2.2.1, up2 σ.2.2.2.2.2.2.2.2 y i v)
/-- the cells: 0 the object, 1 yards, 2 arrays of actors, 3 of channels, 4 ready rows, 5 actors, 6 ins, 7 outs, 8 rows, 9 channels, 10 rings; cc: the array classes (int, Actor, Channel) -/
def yG (cc : ClassId × ClassId × ClassId) (σ : ys) (ad : yl → Nat) (q : yl) : va_E :=
  match q with
  | (0, y, i) => .inr (k_S, [.ref (ad (1, 0, 0)), .ref (ad (1, 1, 0)), .int (s_fl σ y i)])
  | (1, y, _) => .inr (k_Y, [.ref (ad (2, y, 0)), .ref (ad (3, y, 0)), .ref (ad (4, y, 0)), .int (nI (s_n σ y)), .int (nI (s_nc σ y))])
  | (2, y, _) => .inl (cc.2.1, 10, .inr (.inr (.inr (.inr (fun j => if j < s_n σ y then some (ad (5, y, j)) else none)))))
  | (3, y, _) => .inl (cc.2.2, 16, .inr (.inr (.inr (.inr (fun j => if j < s_nc σ y then some (ad (9, y, j)) else none)))))
  | (4, y, i) => .inl (cc.1, 10, .inl (s_rd σ y i))
  | (5, y, i) => .inr (k_A, [.int (nI (s_ac σ y i).1), .int (s_ac σ y i).2.1, .int (s_ac σ y i).2.2.1, .ref (ad (6, y, i)), .ref (ad (7, y, i)), .ref (ad (8, y, i)), .int (nI (s_ac σ y i).2.2.2.1), .int (nI (s_ac σ y i).2.2.2.2)])
  | (6, y, i) => .inl (cc.2.2, 2, .inr (.inr (.inr (.inr (fun j => (s_ic σ y i j).map (fun c => ad (9, y, c)))))))
  | (7, y, i) => .inl (cc.2.2, 2, .inr (.inr (.inr (.inr (fun j => (s_oc σ y i j).map (fun c => ad (9, y, c)))))))
  | (8, y, i) => .inl (cc.1, yt_rows (s_ac σ y i).1, .inl (s_rw σ y i))
  | (9, y, c) => .inr (k_C, [.int (nI (s_ch σ y c).1), .ref (ad (10, y, c)), .int (nI (s_ch σ y c).2.1), .int (nI (s_ch σ y c).2.2)])
  | (10, y, c) => .inl (cc.1, 8, .inl (s_rg σ y c))
  | _ => .inr (0, [])
theorem yG_of {cc : ClassId × ClassId × ClassId} {σ σ' : ys} {ad : yl → Nat} {q : yl} {e : va_E} (he : yG cc σ' ad q = e) (ho : ∀ x, x ≠ q → yG cc σ ad x = yG cc σ' ad x) : yu (yG cc σ ad) q e = yG cc σ' ad := by
  funext x
  by_cases h : x = q
  · subst h; rw [yu_s, he]
  · rw [yu_n _ _ h, ho x h]

theorem yG_ch {cc : ClassId × ClassId × ClassId} (σ : ys) (ad : yl → Nat) (y i : Nat) (v : yc) : yu (yG cc σ ad) (9, y, i) (.inr (k_C, [.int (nI v.1), .ref (ad (10, y, i)), .int (nI v.2.1), .int (nI v.2.2)])) = yG cc (sx_ch σ y i v) ad := by
  refine yG_of ?_ ?_
  · show Sum.inr (k_C, [Value.int (nI (up2 (s_ch σ) y i v y i).1), Value.ref (ad (10, y, i)), Value.int (nI (up2 (s_ch σ) y i v y i).2.1), Value.int (nI (up2 (s_ch σ) y i v y i).2.2)]) = _
    rw [up2_s]
  · intro x hx
    obtain ⟨f, y', i'⟩ := x
    match f, hx with
    | 0, _ => rfl
    | 1, _ => rfl
    | 2, _ => rfl
    | 3, _ => rfl
    | 4, _ => rfl
    | 5, _ => rfl
    | 6, _ => rfl
    | 7, _ => rfl
    | 8, _ => rfl
    | 9, hx =>
      show _ = Sum.inr (k_C, [Value.int (nI (up2 (s_ch σ) y i v y' i').1), Value.ref (ad (10, y', i')), Value.int (nI (up2 (s_ch σ) y i v y' i').2.1), Value.int (nI (up2 (s_ch σ) y i v y' i').2.2)])
      rw [up2_n _ _ (fun h => hx (by rw [h.1, h.2]))]
      rfl
    | 10, _ => rfl
    | n + 11, _ => rfl
theorem yG_rg {cc : ClassId × ClassId × ClassId} (σ : ys) (ad : yl → Nat) (y i : Nat) (v : Nat → Int32) : yu (yG cc σ ad) (10, y, i) (.inl (cc.1, 8, .inl v)) = yG cc (sx_rg σ y i v) ad := by
  refine yG_of ?_ ?_
  · show Sum.inl (cc.1, 8, Sum.inl (up2 (s_rg σ) y i v y i)) = _
    rw [up2_s]
  · intro x hx
    obtain ⟨f, y', i'⟩ := x
    match f, hx with
    | 0, _ => rfl
    | 1, _ => rfl
    | 2, _ => rfl
    | 3, _ => rfl
    | 4, _ => rfl
    | 5, _ => rfl
    | 6, _ => rfl
    | 7, _ => rfl
    | 8, _ => rfl
    | 9, _ => rfl
    | 10, hx =>
      show _ = Sum.inl (cc.1, 8, Sum.inl (up2 (s_rg σ) y i v y' i'))
      rw [up2_n _ _ (fun h => hx (by rw [h.1, h.2]))]
      rfl
    | n + 11, _ => rfl
theorem yG_ic {cc : ClassId × ClassId × ClassId} (σ : ys) (ad : yl → Nat) (y i : Nat) (v : Nat → Option Nat) : yu (yG cc σ ad) (6, y, i) (.inl (cc.2.2, 2, .inr (.inr (.inr (.inr (fun j => (v j).map (fun c => ad (9, y, c)))))))) = yG cc (sx_ic σ y i v) ad := by
  refine yG_of ?_ ?_
  · show Sum.inl (cc.2.2, 2, Sum.inr (Sum.inr (Sum.inr (Sum.inr (fun j => ((up2 (s_ic σ) y i v y i) j).map (fun c => ad (9, y, c))))))) = _
    rw [up2_s]
  · intro x hx
    obtain ⟨f, y', i'⟩ := x
    match f, hx with
    | 0, _ => rfl
    | 1, _ => rfl
    | 2, _ => rfl
    | 3, _ => rfl
    | 4, _ => rfl
    | 5, _ => rfl
    | 6, hx =>
      show _ = Sum.inl (cc.2.2, 2, Sum.inr (Sum.inr (Sum.inr (Sum.inr (fun j => ((up2 (s_ic σ) y i v y' i') j).map (fun c => ad (9, y', c)))))))
      rw [up2_n _ _ (fun h => hx (by rw [h.1, h.2]))]
      rfl
    | 7, _ => rfl
    | 8, _ => rfl
    | 9, _ => rfl
    | 10, _ => rfl
    | n + 11, _ => rfl
theorem yG_oc {cc : ClassId × ClassId × ClassId} (σ : ys) (ad : yl → Nat) (y i : Nat) (v : Nat → Option Nat) : yu (yG cc σ ad) (7, y, i) (.inl (cc.2.2, 2, .inr (.inr (.inr (.inr (fun j => (v j).map (fun c => ad (9, y, c)))))))) = yG cc (sx_oc σ y i v) ad := by
  refine yG_of ?_ ?_
  · show Sum.inl (cc.2.2, 2, Sum.inr (Sum.inr (Sum.inr (Sum.inr (fun j => ((up2 (s_oc σ) y i v y i) j).map (fun c => ad (9, y, c))))))) = _
    rw [up2_s]
  · intro x hx
    obtain ⟨f, y', i'⟩ := x
    match f, hx with
    | 0, _ => rfl
    | 1, _ => rfl
    | 2, _ => rfl
    | 3, _ => rfl
    | 4, _ => rfl
    | 5, _ => rfl
    | 6, _ => rfl
    | 7, hx =>
      show _ = Sum.inl (cc.2.2, 2, Sum.inr (Sum.inr (Sum.inr (Sum.inr (fun j => ((up2 (s_oc σ) y i v y' i') j).map (fun c => ad (9, y', c)))))))
      rw [up2_n _ _ (fun h => hx (by rw [h.1, h.2]))]
      rfl
    | 8, _ => rfl
    | 9, _ => rfl
    | 10, _ => rfl
    | n + 11, _ => rfl
theorem yG_rw {cc : ClassId × ClassId × ClassId} (σ : ys) (ad : yl → Nat) (y i : Nat) (v : Nat → Int32) : yu (yG cc σ ad) (8, y, i) (.inl (cc.1, yt_rows (s_ac σ y i).1, .inl v)) = yG cc (sx_rw σ y i v) ad := by
  refine yG_of ?_ ?_
  · show Sum.inl (cc.1, yt_rows (s_ac σ y i).1, Sum.inl (up2 (s_rw σ) y i v y i)) = _
    rw [up2_s]
  · intro x hx
    obtain ⟨f, y', i'⟩ := x
    match f, hx with
    | 0, _ => rfl
    | 1, _ => rfl
    | 2, _ => rfl
    | 3, _ => rfl
    | 4, _ => rfl
    | 5, _ => rfl
    | 6, _ => rfl
    | 7, _ => rfl
    | 8, hx =>
      show _ = Sum.inl (cc.1, yt_rows (s_ac σ y' i').1, Sum.inl (up2 (s_rw σ) y i v y' i'))
      rw [up2_n _ _ (fun h => hx (by rw [h.1, h.2]))]
      rfl
    | 9, _ => rfl
    | 10, _ => rfl
    | n + 11, _ => rfl
theorem yG_ac {cc : ClassId × ClassId × ClassId} (σ : ys) (ad : yl → Nat) (y i : Nat) (v : ya) (hk : v.1 = (s_ac σ y i).1) : yu (yG cc σ ad) (5, y, i) (.inr (k_A, [.int (nI v.1), .int v.2.1, .int v.2.2.1, .ref (ad (6, y, i)), .ref (ad (7, y, i)), .ref (ad (8, y, i)), .int (nI v.2.2.2.1), .int (nI v.2.2.2.2)])) = yG cc (sx_ac σ y i v) ad := by
  refine yG_of ?_ ?_
  · show Sum.inr (k_A, [Value.int (nI (up2 (s_ac σ) y i v y i).1), Value.int (up2 (s_ac σ) y i v y i).2.1, Value.int (up2 (s_ac σ) y i v y i).2.2.1, Value.ref (ad (6, y, i)), Value.ref (ad (7, y, i)), Value.ref (ad (8, y, i)), Value.int (nI (up2 (s_ac σ) y i v y i).2.2.2.1), Value.int (nI (up2 (s_ac σ) y i v y i).2.2.2.2)]) = _
    rw [up2_s]
  · intro x hx
    obtain ⟨f, y', i'⟩ := x
    match f, hx with
    | 0, _ => rfl
    | 1, _ => rfl
    | 2, _ => rfl
    | 3, _ => rfl
    | 4, _ => rfl
    | 5, hx =>
      show _ = Sum.inr (k_A, [Value.int (nI (up2 (s_ac σ) y i v y' i').1), Value.int (up2 (s_ac σ) y i v y' i').2.1, Value.int (up2 (s_ac σ) y i v y' i').2.2.1, Value.ref (ad (6, y', i')), Value.ref (ad (7, y', i')), Value.ref (ad (8, y', i')), Value.int (nI (up2 (s_ac σ) y i v y' i').2.2.2.1), Value.int (nI (up2 (s_ac σ) y i v y' i').2.2.2.2)])
      rw [up2_n _ _ (fun h => hx (by rw [h.1, h.2]))]
      rfl
    | 6, _ => rfl
    | 7, _ => rfl
    | 8, _ =>
      show Sum.inl (cc.1, yt_rows (s_ac σ y' i').1, Sum.inl (s_rw σ y' i')) = Sum.inl (cc.1, yt_rows (up2 (s_ac σ) y i v y' i').1, Sum.inl (s_rw σ y' i'))
      by_cases h : y' = y ∧ i' = i
      · rw [h.1, h.2, up2_s, hk]
      · rw [up2_n _ _ h]
    | 9, _ => rfl
    | 10, _ => rfl
    | n + 11, _ => rfl
theorem yG_rd {cc : ClassId × ClassId × ClassId} (σ : ys) (ad : yl → Nat) (y i : Nat) (v : Nat → Int32) : yu (yG cc σ ad) (4, y, i) (.inl (cc.1, 10, .inl v)) = yG cc (sx_rd σ y i v) ad := by
  refine yG_of ?_ ?_
  · show Sum.inl (cc.1, 10, Sum.inl (up2 (s_rd σ) y i v y i)) = _
    rw [up2_s]
  · intro x hx
    obtain ⟨f, y', i'⟩ := x
    match f, hx with
    | 0, _ => rfl
    | 1, _ => rfl
    | 2, _ => rfl
    | 3, _ => rfl
    | 4, hx =>
      show _ = Sum.inl (cc.1, 10, Sum.inl (up2 (s_rd σ) y i v y' i'))
      rw [up2_n _ _ (fun h => hx (by rw [h.1, h.2]))]
      rfl
    | 5, _ => rfl
    | 6, _ => rfl
    | 7, _ => rfl
    | 8, _ => rfl
    | 9, _ => rfl
    | 10, _ => rfl
    | n + 11, _ => rfl
theorem yG_fl {cc : ClassId × ClassId × ClassId} (σ : ys) (ad : yl → Nat) (y i : Nat) (v : Int32) : yu (yG cc σ ad) (0, y, i) (.inr (k_S, [.ref (ad (1, 0, 0)), .ref (ad (1, 1, 0)), .int v])) = yG cc (sx_fl σ y i v) ad := by
  refine yG_of ?_ ?_
  · show Sum.inr (k_S, [Value.ref (ad (1, 0, 0)), Value.ref (ad (1, 1, 0)), Value.int (up2 (s_fl σ) y i v y i)]) = _
    rw [up2_s]
  · intro x hx
    obtain ⟨f, y', i'⟩ := x
    match f, hx with
    | 0, hx =>
      show _ = Sum.inr (k_S, [Value.ref (ad (1, 0, 0)), Value.ref (ad (1, 1, 0)), Value.int (up2 (s_fl σ) y i v y' i')])
      rw [up2_n _ _ (fun h => hx (by rw [h.1, h.2]))]
      rfl
    | 1, _ => rfl
    | 2, _ => rfl
    | 3, _ => rfl
    | 4, _ => rfl
    | 5, _ => rfl
    | 6, _ => rfl
    | 7, _ => rfl
    | 8, _ => rfl
    | 9, _ => rfl
    | 10, _ => rfl
    | n + 11, _ => rfl
/-- two worlds alike on the places that are there -/
theorem wl_alike {ad : yl → Nat} {LL : List yl} {g g' : yl → va_E} {X : va_W} (h : ∀ q, q ∈ LL → g q = g' q) : wl ad LL g ++ X = wl ad LL g' ++ X := by
  rw [wl_congr (ad := ad) (ad' := ad) (g := g) (g' := g') (fun q hq => ⟨rfl, h q hq⟩)]
/-- which places are there -/
def yL (σ : ys) (q : yl) : Prop := match q with
  | (0, y, i) => y = 0 ∧ i = 0
  | (1, y, i) => y < 2 ∧ i = 0
  | (2, y, i) => y < 2 ∧ i = 0
  | (3, y, i) => y < 2 ∧ i = 0
  | (4, y, i) => y < 2 ∧ i = 0
  | (5, y, i) => y < 2 ∧ i < s_n σ y
  | (6, y, i) => y < 2 ∧ i < s_n σ y
  | (7, y, i) => y < 2 ∧ i < s_n σ y
  | (8, y, i) => y < 2 ∧ i < s_n σ y
  | (9, y, i) => y < 2 ∧ i < s_nc σ y
  | (10, y, i) => y < 2 ∧ i < s_nc σ y
  | _ => False
/-- the yard as numbers and lists -/
def s_T (σ : ys) (y : Nat) : yp_T := (s_n σ y, fun i => (s_ac σ y i).1, fun i => (s_ac σ y i).2.1, fun i => (s_ac σ y i).2.2.1, s_ic σ y, s_oc σ y, fun c => (s_ch σ y c).1, fun i => yrw (s_rw σ y i) (s_ac σ y i).2.2.2.1)
def s_D (σ : ys) (y : Nat) : yp_D := (fun i => (s_ac σ y i).2.2.2.2, fun i => if (s_ac σ y i).1 = 6 then yrw (s_rw σ y i) (s_ac σ y i).2.2.2.2 else [], fun c => yrq (s_rg σ y c) (s_ch σ y c).2.1 (s_ch σ y c).2.2)
/-- what always holds of a yard -/
def yI (σ : ys) (y : Nat) : Prop :=
  (s_n σ y ≤ 10 ∧ (∀ i, s_n σ y ≤ i → s_ac σ y i = (0, 0, 0, 0, 0)) ∧ (∀ c, s_nc σ y ≤ c → s_ch σ y c = (1, 0, 0))) ∧ s_nc σ y ≤ 16 ∧
  (∀ i, (s_ac σ y i).1 < 9 ∧ (s_ac σ y i).2.2.2.1 ≤ 20 ∧ ((s_ac σ y i).1 ≠ 0 → (s_ac σ y i).2.2.2.1 = 0) ∧ (s_ac σ y i).2.2.2.2 ≤ 100 ∧ ((s_ac σ y i).1 = 6 → (s_ac σ y i).2.2.2.2 ≤ 60)) ∧
  (∀ c, 1 ≤ (s_ch σ y c).1 ∧ (s_ch σ y c).1 ≤ 8 ∧ (s_ch σ y c).2.1 < 8 ∧ (s_ch σ y c).2.2 ≤ (s_ch σ y c).1) ∧
  (∀ i j c, s_ic σ y i j = some c → i < s_n σ y ∧ j < yt_ins (s_ac σ y i).1 ∧ c < s_nc σ y) ∧
  (∀ i j c, s_oc σ y i j = some c → i < s_n σ y ∧ j < yt_outs (s_ac σ y i).1 ∧ c < s_nc σ y) ∧
  yp_wf (s_T σ y)
end
section
/-! HOW THE CLASS'S CONTRACTS ARE SAID -/
def yb (b : Bool) : Int32 := if b = true then 1 else 0
theorem yb_t : yb true = 1 := rfl
theorem yb_f : yb false = 0 := rfl
theorem yb_n (b : Bool) : narrow .boolean (.int (yb b)) = .int (yb b) := by cases b <;> decide
abbrev yty (cc : ClassId × ClassId × ClassId) : List (ClassId × FieldType) := [(cc.1, .int), (cc.2.1, .object "YardActors$Actor"), (cc.2.2, .object "YardActors$Channel")]
abbrev yW (cc : ClassId × ClassId × ClassId) (ad : yl → Nat) (LL : List yl) (X : va_W) (σ : ys) : va_W := wl ad LL (yG cc σ ad) ++ X
abbrev yPr (D : va_G) (cc : ClassId × ClassId × ClassId) (b0 : Nat) (av : List Value) (ws : va_W) (sz : Nat) : Array Value → State → Prop := yPre D ycl (yty cc) b0 av ws sz
abbrev yQi (D : va_G) (ws : va_W) (sz : Nat) (v : Int32) (ws' : va_W) : Array Value → State → Outcome → State → Prop := va_Qi (fun r (_ : Unit) => r = v) (yB D ycl ws sz (fun _ => ws')) (va_A ws sz)
abbrev yQl (D : va_G) (ws : va_W) (sz : Nat) (v : Int64) (ws' : va_W) : Array Value → State → Outcome → State → Prop := va_Ql (fun r (_ : Unit) => r = v) (yB D ycl ws sz (fun _ => ws')) (va_A ws sz)
abbrev yQq (D : va_G) (ws : va_W) (sz : Nat) (v : Option Nat) (ws' : va_W) : Array Value → State → Outcome → State → Prop := va_Qq (fun r (_ : Unit) => r = v) (yB D ycl ws sz (fun _ => ws')) (va_A ws sz)
abbrev yQv (D : va_G) (ws : va_W) (sz : Nat) (ws' : va_W) : Array Value → State → Outcome → State → Prop := va_Qv (fun (_ : Unit) => True) (yB D ycl ws sz (fun _ => ws')) (va_A ws sz)
theorem yg_callS {y y2 : MethodName} {b b2 : ByteArray} {n n2 idx : Nat} {r r2 : Option FieldType} {own : String} (hc : Cond.code y2 b2 n2 r2 ∈ lg_tbl) (h1 : Cond.methodLink own idx y2 ∈ lg_tbl) (h2 : Cond.static y2 ∈ lg_tbl) (h3 : Cond.initialized y2.cls ∈ lg_tbl) : GoodIn (Cond.code y b n r :: lg_tbl) (va_wsS own idx y2 (Cond.code y2 b2 n2 r2 :: lg_tbl)) := fun w hw => by
  rcases List.mem_append.mp hw with h | h
  · have hm : w ∈ lg_tbl := by
      rcases List.mem_cons.mp h with e | h
      · exact e ▸ h1
      · rcases List.mem_cons.mp h with e | h
        · exact e ▸ h2
        · rcases List.mem_cons.mp h with e | h
          · exact e ▸ h3
          · cases h
    exact ⟨List.mem_cons_of_mem _ hm, good_of_word (lg_good hm)⟩
  · exact yg_sub hc w h
section YWS
variable {D : va_G} {cl : List vw_C} {A : Nat → Prop} {H0 H : Heap} {locs : List Loc} {cc : ClassId × ClassId × ClassId} {ad : yl → Nat} {LL : List yl} {X : va_W} {σ : ys} {y i : Nat} {e : va_E}
theorem yw_ch (v : yc) (hw : yH D cl A H0 H locs (wl ad LL (yu (yG cc σ ad) (9, y, i) e) ++ X)) (he : e = .inr (k_C, [.int (nI v.1), .ref (ad (10, y, i)), .int (nI v.2.1), .int (nI v.2.2)])) : yH D cl A H0 H locs (yW cc ad LL X (sx_ch σ y i v)) := by
  subst he; rw [yG_ch] at hw; exact hw
theorem yw_rg (v : Nat → Int32) (hw : yH D cl A H0 H locs (wl ad LL (yu (yG cc σ ad) (10, y, i) e) ++ X)) (he : e = .inl (cc.1, 8, .inl v)) : yH D cl A H0 H locs (yW cc ad LL X (sx_rg σ y i v)) := by
  subst he; rw [yG_rg] at hw; exact hw
theorem yw_rw (v : Nat → Int32) (hw : yH D cl A H0 H locs (wl ad LL (yu (yG cc σ ad) (8, y, i) e) ++ X)) (he : e = .inl (cc.1, yt_rows (s_ac σ y i).1, .inl v)) : yH D cl A H0 H locs (yW cc ad LL X (sx_rw σ y i v)) := by
  subst he; rw [yG_rw] at hw; exact hw
theorem yw_ac (v : ya) (hw : yH D cl A H0 H locs (wl ad LL (yu (yG cc σ ad) (5, y, i) e) ++ X)) (hk : v.1 = (s_ac σ y i).1) (he : e = .inr (k_A, [.int (nI v.1), .int v.2.1, .int v.2.2.1, .ref (ad (6, y, i)), .ref (ad (7, y, i)), .ref (ad (8, y, i)), .int (nI v.2.2.2.1), .int (nI v.2.2.2.2)])) : yH D cl A H0 H locs (yW cc ad LL X (sx_ac σ y i v)) := by
  subst he; rw [yG_ac _ _ _ _ _ hk] at hw; exact hw
theorem yw_ic (v : Nat → Option Nat) (hw : yH D cl A H0 H locs (wl ad LL (yu (yG cc σ ad) (6, y, i) e) ++ X)) (he : e = .inl (cc.2.2, 2, .inr (.inr (.inr (.inr (fun j => (v j).map (fun c => ad (9, y, c)))))))) : yH D cl A H0 H locs (yW cc ad LL X (sx_ic σ y i v)) := by
  subst he; rw [yG_ic] at hw; exact hw
theorem yw_oc (v : Nat → Option Nat) (hw : yH D cl A H0 H locs (wl ad LL (yu (yG cc σ ad) (7, y, i) e) ++ X)) (he : e = .inl (cc.2.2, 2, .inr (.inr (.inr (.inr (fun j => (v j).map (fun c => ad (9, y, c)))))))) : yH D cl A H0 H locs (yW cc ad LL X (sx_oc σ y i v)) := by
  subst he; rw [yG_oc] at hw; exact hw
theorem yw_rd (v : Nat → Int32) (hw : yH D cl A H0 H locs (wl ad LL (yu (yG cc σ ad) (4, y, i) e) ++ X)) (he : e = .inl (cc.1, 10, .inl v)) : yH D cl A H0 H locs (yW cc ad LL X (sx_rd σ y i v)) := by
  subst he; rw [yG_rd] at hw; exact hw
theorem yw_fl (v : Int32) (hw : yH D cl A H0 H locs (wl ad LL (yu (yG cc σ ad) (0, y, i) e) ++ X)) (he : e = .inr (k_S, [.ref (ad (1, 0, 0)), .ref (ad (1, 1, 0)), .int v])) : yH D cl A H0 H locs (yW cc ad LL X (sx_fl σ y i v)) := by
  subst he; rw [yG_fl] at hw; exact hw
end YWS
theorem yand7 {n : Nat} (h : n < 2 ^ 32) : nI n &&& 7 = nI (n % 8) := pk_andN h 3 (by decide)
theorem yand1 {n : Nat} (h : n < 2 ^ 32) : nI n &&& 1 = nI (n % 2) := pk_andN h 1 (by decide)
end
section
/-! CHANNEL -/
theorem yo_ch {σ : ys} {y c : Nat} {v : yc} : s_ch (sx_ch σ y c v) y c = v := up2_s _ _ _ _
theorem up2_up2 {β : Type} (f : Nat → Nat → β) (y i : Nat) (a b : β) : up2 (up2 f y i a) y i b = up2 f y i b := by
  funext y1 i1
  by_cases h : y1 = y ∧ i1 = i
  · rw [h.1, h.2, up2_s, up2_s]
  · rw [up2_n _ _ h, up2_n _ _ h, up2_n _ _ h]
theorem yo_ch_ch {σ : ys} {y c : Nat} {v w : yc} : sx_ch (sx_ch σ y c v) y c w = sx_ch σ y c w := by
  unfold sx_ch
  rw [up2_up2]
theorem ydec {n : Nat} (h : 0 < n) : nI n - 1 = nI (n - 1) := by
  obtain ⟨k, rfl⟩ : ∃ k, n = k + 1 := ⟨n - 1, by omega⟩
  exact nI_pred k
/-- one more value in a channel; the first value of a channel goes -/
def yo_put (σ : ys) (y c : Nat) (v : Int32) : ys := sx_ch (sx_rg σ y c (upd (s_rg σ y c) (((s_ch σ y c).2.1 + (s_ch σ y c).2.2) % 8) v)) y c ((s_ch σ y c).1, (s_ch σ y c).2.1, (s_ch σ y c).2.2 + 1)
def yo_take (σ : ys) (y c : Nat) : ys := sx_ch σ y c ((s_ch σ y c).1, ((s_ch σ y c).2.1 + 1) % 8, (s_ch σ y c).2.2 - 1)
set_option maxHeartbeats 4000000 in
set_option maxRecDepth 100000 in
/-- size: how many values wait -/
theorem c_C_size (l : Launch) (D : va_G) (cc : ClassId × ClassId × ClassId) (ad : yl → Nat) (LL : List yl) (X : va_W) (b0 sz : Nat) (σ : ys) (y c : Nat) (h9 : (9, y, c) ∈ LL) (h10 : (10, y, c) ∈ LL) : Met l y_C_size w_C_size ({ frames := 0, cells := 0, slots := 0, locals := 0 }) (yPr D cc b0 [.ref (ad (9, y, c))] (yW cc ad LL X σ) sz) (yQi D (yW cc ad LL X σ) sz (nI (s_ch σ y c).2.2) (yW cc ad LL X σ)) 0 0 (va_A (yW cc ad LL X σ) sz) := by
  refine y_ofW (cc := b_C_size) (maxL := 1) (ret := (some .int)) (by decide) rfl (Nat.le_of_ble_eq_true rfl) ?_
  intro pv ev sv mv bv tv cv ls hI hsz hw hl
  obtain ⟨hx, hb, hr, hml, hts, hown, hlocks, hnm, hK, hAb, hb0, hA⟩ := id hI
  have ht : ∀ w ∈ lg_tbl, w.before _ sv = true := fun w h => hts w (List.mem_cons_of_mem _ h)
  have hl : lv_has ls 1 [(0, .ref (ad (9, y, c)))] := hl
  refine lv_aload_n hx hb d_C_size_0 rfl (lv_at hl 0 rfl) ?_
  refine yr_get (C := R_C) (T := F_C) (N := 4) (ci := k_C) hx hb ht j_C hown hK.1 hw (by assumption) (by rfl) rfl 3 (by decide) (ht _ mf_C_22) (fun _ h9 => h9) (by rfl) d_C_size_1 ?_
  exact ye_i hI () rfl hw d_C_size_4
set_option maxHeartbeats 4000000 in
set_option maxRecDepth 100000 in
/-- isFull: no room is left -/
theorem c_C_isFull (l : Launch) (D : va_G) (cc : ClassId × ClassId × ClassId) (ad : yl → Nat) (LL : List yl) (X : va_W) (b0 sz : Nat) (σ : ys) (y c : Nat) (h9 : (9, y, c) ∈ LL) (h10 : (10, y, c) ∈ LL) (hi : (s_ch σ y c).1 ≤ 8 ∧ (s_ch σ y c).2.1 < 8 ∧ (s_ch σ y c).2.2 ≤ 8) : Met l y_C_isFull w_C_isFull ({ frames := 0, cells := 0, slots := 0, locals := 0 }) (yPr D cc b0 [.ref (ad (9, y, c))] (yW cc ad LL X σ) sz) (yQi D (yW cc ad LL X σ) sz (yb (decide ((s_ch σ y c).1 ≤ (s_ch σ y c).2.2))) (yW cc ad LL X σ)) 0 0 (va_A (yW cc ad LL X σ) sz) := by
  refine y_ofW (cc := b_C_isFull) (maxL := 1) (ret := (some .boolean)) (by decide) rfl (Nat.le_of_ble_eq_true rfl) ?_
  intro pv ev sv mv bv tv cv ls hI hsz hw hl
  obtain ⟨hx, hb, hr, hml, hts, hown, hlocks, hnm, hK, hAb, hb0, hA⟩ := id hI
  have ht : ∀ w ∈ lg_tbl, w.before _ sv = true := fun w h => hts w (List.mem_cons_of_mem _ h)
  have hl : lv_has ls 1 [(0, .ref (ad (9, y, c)))] := hl
  refine lv_aload_n hx hb d_C_isFull_0 rfl (lv_at hl 0 rfl) ?_
  refine yr_get (C := R_C) (T := F_C) (N := 4) (ci := k_C) hx hb ht j_C hown hK.1 hw (by assumption) (by rfl) rfl 3 (by decide) (ht _ mf_C_22) (fun _ h9 => h9) (by rfl) d_C_isFull_1 ?_
  refine lv_aload_n hx hb d_C_isFull_4 rfl (lv_at hl 0 rfl) ?_
  refine yr_get (C := R_C) (T := F_C) (N := 4) (ci := k_C) hx hb ht j_C hown hK.1 hw (by assumption) (by rfl) rfl 0 (by decide) (ht _ mf_C_9) (fun _ h9 => h9) (by rfl) d_C_isFull_5 ?_
  refine lv_icmp_lt (tgt := 15) hx hb d_C_isFull_8 (by decide) (fun c_8 => ?_) (fun c_8 => ?_)
  · have e1 : (s_ch σ y c).2.2 < (s_ch σ y c).1 := (nI_ltI (by omega) (by omega)).mp c_8
    refine lv_iconst (v := 0) hx hb d_C_isFull_15 (by decide) ?_
    exact ye_z hI (by decide) () (by first | rfl | (rw [decide_eq_true (by omega)]; rfl) | (rw [decide_eq_false (by omega)]; rfl)) hw d_C_isFull_16
  · have e1 : ¬ (s_ch σ y c).2.2 < (s_ch σ y c).1 := fun h => c_8 ((nI_ltI (by omega) (by omega)).mpr h)
    refine lv_iconst (v := 1) hx hb d_C_isFull_11 (by decide) ?_
    refine lv_goto (tgt := 16) hx hb d_C_isFull_12 (by decide) ?_
    exact ye_z hI (by decide) () (by first | rfl | (rw [decide_eq_true (by omega)]; rfl) | (rw [decide_eq_false (by omega)]; rfl)) hw d_C_isFull_16
set_option maxHeartbeats 4000000 in
set_option maxRecDepth 100000 in
/-- peek: the j-th that waits -/
theorem c_C_peek (l : Launch) (D : va_G) (cc : ClassId × ClassId × ClassId) (ad : yl → Nat) (LL : List yl) (X : va_W) (b0 sz : Nat) (σ : ys) (y c : Nat) (h9 : (9, y, c) ∈ LL) (h10 : (10, y, c) ∈ LL) (hi : (s_ch σ y c).1 ≤ 8 ∧ (s_ch σ y c).2.1 < 8 ∧ (s_ch σ y c).2.2 ≤ 8) (j : Nat) (hj : j < 8) : Met l y_C_peek w_C_peek ({ frames := 0, cells := 0, slots := 0, locals := 0 }) (yPr D cc b0 [.ref (ad (9, y, c)), .int (nI j)] (yW cc ad LL X σ) sz) (yQi D (yW cc ad LL X σ) sz (s_rg σ y c (((s_ch σ y c).2.1 + j) % 8)) (yW cc ad LL X σ)) 0 0 (va_A (yW cc ad LL X σ) sz) := by
  refine y_ofW (cc := b_C_peek) (maxL := 2) (ret := (some .int)) (by decide) rfl (Nat.le_of_ble_eq_true rfl) ?_
  intro pv ev sv mv bv tv cv ls hI hsz hw hl
  obtain ⟨hx, hb, hr, hml, hts, hown, hlocks, hnm, hK, hAb, hb0, hA⟩ := id hI
  have ht : ∀ w ∈ lg_tbl, w.before _ sv = true := fun w h => hts w (List.mem_cons_of_mem _ h)
  have hl : lv_has ls 2 [(0, .ref (ad (9, y, c))), (1, .int (nI j))] := hl
  refine lv_aload_n hx hb d_C_peek_0 rfl (lv_at hl 0 rfl) ?_
  refine yr_get (C := R_C) (T := F_C) (N := 4) (ci := k_C) hx hb ht j_C hown hK.1 hw (by assumption) (by rfl) rfl 1 (by decide) (ht _ mf_C_15) (fun _ h9 => h9) (by rfl) d_C_peek_1 ?_
  refine lv_aload_n hx hb d_C_peek_4 rfl (lv_at hl 0 rfl) ?_
  refine yr_get (C := R_C) (T := F_C) (N := 4) (ci := k_C) hx hb ht j_C hown hK.1 hw (by assumption) (by rfl) rfl 2 (by decide) (ht _ mf_C_19) (fun _ h9 => h9) (by rfl) d_C_peek_5 ?_
  refine lv_iload_n hx hb d_C_peek_8 rfl (lv_at hl 1 rfl) ?_
  refine lv_iadd hx hb d_C_peek_9 ?_
  refine lv_bipush (v := 7) hx hb d_C_peek_10 (by decide) ?_
  refine lv_iand hx hb d_C_peek_12 ?_
  rw [nI_add, yand7 (by omega)]
  refine yr_iald (v := s_rg σ y c (((s_ch σ y c).2.1 + j) % 8)) hx hb hK.1 hw (by assumption) (by rfl) 0 rfl (vp_in_nI (by omega) (by omega)) (by rw [nI_clamp (by omega)]) d_C_peek_13 ?_
  exact ye_i hI () rfl hw d_C_peek_14
set_option maxHeartbeats 4000000 in
set_option maxRecDepth 100000 in
/-- put: one more value waits -/
theorem c_C_put (l : Launch) (D : va_G) (cc : ClassId × ClassId × ClassId) (ad : yl → Nat) (LL : List yl) (X : va_W) (b0 sz : Nat) (σ : ys) (y c : Nat) (h9 : (9, y, c) ∈ LL) (h10 : (10, y, c) ∈ LL) (hi : (s_ch σ y c).1 ≤ 8 ∧ (s_ch σ y c).2.1 < 8 ∧ (s_ch σ y c).2.2 ≤ 8) (v : Int32) : Met l y_C_put w_C_put ({ frames := 0, cells := 0, slots := 0, locals := 0 }) (yPr D cc b0 [.ref (ad (9, y, c)), .int v] (yW cc ad LL X σ) sz) (yQv D (yW cc ad LL X σ) sz (yW cc ad LL X (yo_put σ y c v))) 0 0 (va_A (yW cc ad LL X σ) sz) := by
  refine y_ofW (cc := b_C_put) (maxL := 2) (ret := none) (by decide) rfl (Nat.le_of_ble_eq_true rfl) ?_
  intro pv ev sv mv bv tv cv ls hI hsz hw hl
  obtain ⟨hx, hb, hr, hml, hts, hown, hlocks, hnm, hK, hAb, hb0, hA⟩ := id hI
  have ht : ∀ w ∈ lg_tbl, w.before _ sv = true := fun w h => hts w (List.mem_cons_of_mem _ h)
  have hl : lv_has ls 2 [(0, .ref (ad (9, y, c))), (1, .int v)] := hl
  refine lv_aload_n hx hb d_C_put_0 rfl (lv_at hl 0 rfl) ?_
  refine yr_get (C := R_C) (T := F_C) (N := 4) (ci := k_C) hx hb ht j_C hown hK.1 hw (by assumption) (by rfl) rfl 1 (by decide) (ht _ mf_C_15) (fun _ h9 => h9) (by rfl) d_C_put_1 ?_
  refine lv_aload_n hx hb d_C_put_4 rfl (lv_at hl 0 rfl) ?_
  refine yr_get (C := R_C) (T := F_C) (N := 4) (ci := k_C) hx hb ht j_C hown hK.1 hw (by assumption) (by rfl) rfl 2 (by decide) (ht _ mf_C_19) (fun _ h9 => h9) (by rfl) d_C_put_5 ?_
  refine lv_aload_n hx hb d_C_put_8 rfl (lv_at hl 0 rfl) ?_
  refine yr_get (C := R_C) (T := F_C) (N := 4) (ci := k_C) hx hb ht j_C hown hK.1 hw (by assumption) (by rfl) rfl 3 (by decide) (ht _ mf_C_22) (fun _ h9 => h9) (by rfl) d_C_put_9 ?_
  refine lv_iadd hx hb d_C_put_12 ?_
  refine lv_bipush (v := 7) hx hb d_C_put_13 (by decide) ?_
  refine lv_iand hx hb d_C_put_15 ?_
  rw [nI_add, yand7 (by omega)]
  refine lv_iload_n hx hb d_C_put_16 rfl (lv_at hl 1 rfl) ?_
  refine yr_iast hx hb hK.1 hw (by assumption) (by rfl) 0 rfl (vp_in_nI (by omega) (by omega)) d_C_put_17 (fun H locs hw => ?_)
  rw [nI_clamp (by omega)] at hw
  have hw := yw_rg _ hw rfl
  refine lv_aload_n hx hb d_C_put_18 rfl (lv_at hl 0 rfl) ?_
  refine lv_dup hx hb d_C_put_19 rfl ?_
  refine yr_get (C := R_C) (T := F_C) (N := 4) (ci := k_C) hx hb ht j_C hown hK.1 hw (by assumption) (by rfl) rfl 3 (by decide) (ht _ mf_C_22) (fun _ h9 => h9) (by rfl) d_C_put_20 ?_
  refine lv_iconst (v := 1) hx hb d_C_put_23 (by decide) ?_
  refine lv_iadd hx hb d_C_put_24 ?_
  rw [nI_1]
  refine yr_put (ty := .int) (C := R_C) (T := F_C) (N := 4) (ci := k_C) hx hb ht j_C t_C t_C_ok n_C hown hK.1 hw (by assumption) (by rfl) rfl 3 (by decide) (ht _ mf_C_22) (fun _ h9 => h9) rfl (by decide +kernel) rfl rfl (Nat.le_of_ble_eq_true rfl) d_C_put_25 (fun H locs hw => ?_)
  have hw := yw_ch ((s_ch σ y c).1, (s_ch σ y c).2.1, (s_ch σ y c).2.2 + 1) hw rfl
  exact ye_v hI () trivial hw d_C_put_28
set_option maxHeartbeats 4000000 in
set_option maxRecDepth 100000 in
/-- take: the first value goes -/
theorem c_C_take (l : Launch) (D : va_G) (cc : ClassId × ClassId × ClassId) (ad : yl → Nat) (LL : List yl) (X : va_W) (b0 sz : Nat) (σ : ys) (y c : Nat) (h9 : (9, y, c) ∈ LL) (h10 : (10, y, c) ∈ LL) (hi : (s_ch σ y c).1 ≤ 8 ∧ (s_ch σ y c).2.1 < 8 ∧ (s_ch σ y c).2.2 ≤ 8) (hp : 0 < (s_ch σ y c).2.2) : Met l y_C_take w_C_take ({ frames := 0, cells := 0, slots := 0, locals := 0 }) (yPr D cc b0 [.ref (ad (9, y, c))] (yW cc ad LL X σ) sz) (yQi D (yW cc ad LL X σ) sz (s_rg σ y c ((s_ch σ y c).2.1 % 8)) (yW cc ad LL X (yo_take σ y c))) 0 0 (va_A (yW cc ad LL X σ) sz) := by
  refine y_ofW (cc := b_C_take) (maxL := 2) (ret := (some .int)) (by decide) rfl (Nat.le_of_ble_eq_true rfl) ?_
  intro pv ev sv mv bv tv cv ls hI hsz hw hl
  obtain ⟨hx, hb, hr, hml, hts, hown, hlocks, hnm, hK, hAb, hb0, hA⟩ := id hI
  have ht : ∀ w ∈ lg_tbl, w.before _ sv = true := fun w h => hts w (List.mem_cons_of_mem _ h)
  have hl : lv_has ls 2 [(0, .ref (ad (9, y, c)))] := hl
  refine lv_aload_n hx hb d_C_take_0 rfl (lv_at hl 0 rfl) ?_
  refine yr_get (C := R_C) (T := F_C) (N := 4) (ci := k_C) hx hb ht j_C hown hK.1 hw (by assumption) (by rfl) rfl 1 (by decide) (ht _ mf_C_15) (fun _ h9 => h9) (by rfl) d_C_take_1 ?_
  refine lv_aload_n hx hb d_C_take_4 rfl (lv_at hl 0 rfl) ?_
  refine yr_get (C := R_C) (T := F_C) (N := 4) (ci := k_C) hx hb ht j_C hown hK.1 hw (by assumption) (by rfl) rfl 2 (by decide) (ht _ mf_C_19) (fun _ h9 => h9) (by rfl) d_C_take_5 ?_
  refine lv_bipush (v := 7) hx hb d_C_take_8 (by decide) ?_
  refine lv_iand hx hb d_C_take_10 ?_
  rw [yand7 (by omega)]
  refine yr_iald (v := s_rg σ y c ((s_ch σ y c).2.1 % 8)) hx hb hK.1 hw (by assumption) (by rfl) 0 rfl (vp_in_nI (by omega) (by omega)) (by rw [nI_clamp (by omega)]) d_C_take_11 ?_
  refine lv_istore_n (lv' := [(1, .int _), (0, .ref _)]) hx hb d_C_take_12 rfl hl (by decide) rfl (fun ls hl => ?_)
  refine lv_aload_n hx hb d_C_take_13 rfl (lv_at hl 1 rfl) ?_
  refine lv_aload_n hx hb d_C_take_14 rfl (lv_at hl 1 rfl) ?_
  refine yr_get (C := R_C) (T := F_C) (N := 4) (ci := k_C) hx hb ht j_C hown hK.1 hw (by assumption) (by rfl) rfl 2 (by decide) (ht _ mf_C_19) (fun _ h9 => h9) (by rfl) d_C_take_15 ?_
  refine lv_iconst (v := 1) hx hb d_C_take_18 (by decide) ?_
  refine lv_iadd hx hb d_C_take_19 ?_
  refine lv_bipush (v := 7) hx hb d_C_take_20 (by decide) ?_
  refine lv_iand hx hb d_C_take_22 ?_
  rw [nI_1, yand7 (by omega)]
  refine yr_put (ty := .int) (C := R_C) (T := F_C) (N := 4) (ci := k_C) hx hb ht j_C t_C t_C_ok n_C hown hK.1 hw (by assumption) (by rfl) rfl 2 (by decide) (ht _ mf_C_19) (fun _ h9 => h9) rfl (by decide +kernel) rfl rfl (Nat.le_of_ble_eq_true rfl) d_C_take_23 (fun H locs hw => ?_)
  have hw := yw_ch ((s_ch σ y c).1, ((s_ch σ y c).2.1 + 1) % 8, (s_ch σ y c).2.2) hw rfl
  refine lv_aload_n hx hb d_C_take_26 rfl (lv_at hl 1 rfl) ?_
  refine lv_dup hx hb d_C_take_27 rfl ?_
  refine yr_get (C := R_C) (T := F_C) (N := 4) (ci := k_C) hx hb ht j_C hown hK.1 hw (by assumption) (by rfl) rfl 3 (by decide) (ht _ mf_C_22) (fun _ h9 => h9) (by rfl) d_C_take_28 ?_
  rw [yo_ch]
  refine lv_iconst (v := 1) hx hb d_C_take_31 (by decide) ?_
  refine lv_isub hx hb d_C_take_32 ?_
  rw [ydec hp]
  refine yr_put (ty := .int) (C := R_C) (T := F_C) (N := 4) (ci := k_C) hx hb ht j_C t_C t_C_ok n_C hown hK.1 hw (by assumption) (by rfl) rfl 3 (by decide) (ht _ mf_C_22) (fun _ h9 => h9) rfl (by decide +kernel) rfl rfl (Nat.le_of_ble_eq_true rfl) d_C_take_33 (fun H locs hw => ?_)
  have hw := yw_ch ((s_ch σ y c).1, ((s_ch σ y c).2.1 + 1) % 8, (s_ch σ y c).2.2 - 1) hw (by simp [yo_ch])
  rw [yo_ch_ch] at hw
  refine lv_iload_n hx hb d_C_take_36 rfl (lv_at hl 0 rfl) ?_
  exact ye_i hI () rfl hw d_C_take_37
end
section
/-! ACTOR: the small methods -/
theorem yt_rows_le (k : Nat) : yt_rows k ≤ 60 := by
  unfold yt_rows
  match k with
  | 0 => decide
  | 1 => decide
  | 2 => decide
  | 3 => decide
  | 4 => decide
  | 5 => decide
  | 6 => decide
  | 7 => decide
  | 8 => decide
  | n + 9 => exact Nat.zero_le _
def yo_tell (σ : ys) (y i : Nat) (v : Int32) : ys := sx_ac (sx_rw σ y i (upd (s_rw σ y i) (s_ac σ y i).2.2.2.1 v)) y i ((s_ac σ y i).1, (s_ac σ y i).2.1, (s_ac σ y i).2.2.1, (s_ac σ y i).2.2.2.1 + 1, (s_ac σ y i).2.2.2.2)
def yo_give (σ : ys) (y i j : Nat) (v : Int32) : ys := match s_oc σ y i j with
  | none => σ
  | some c => yo_put σ y c v
theorem yo_give_n {σ : ys} {y i j : Nat} {v : Int32} (e : s_oc σ y i j = none) : yo_give σ y i j v = σ := by unfold yo_give; rw [e]
theorem yo_give_s {σ : ys} {y i j c : Nat} {v : Int32} (e : s_oc σ y i j = some c) : yo_give σ y i j v = yo_put σ y c v := by unfold yo_give; rw [e]
theorem yh_none {σ : ys} {y i j : Nat} (e : s_ic σ y i j = none) : yp_hd (s_T σ y) (s_D σ y) i j = none := by
  unfold yp_hd
  rw [show yp_ic (s_T σ y) i j = none from e]
  rfl
theorem yh_some {σ : ys} {y i j c : Nat} (e : s_ic σ y i j = some c) : yp_hd (s_T σ y) (s_D σ y) i j = (yrq (s_rg σ y c) (s_ch σ y c).2.1 (s_ch σ y c).2.2).head? := by
  unfold yp_hd
  rw [show yp_ic (s_T σ y) i j = some c from e]
  rfl
theorem yh_head {σ : ys} {y i j c : Nat} (e : s_ic σ y i j = some c) (h : 0 < (s_ch σ y c).2.2) : yp_hd (s_T σ y) (s_D σ y) i j = some (s_rg σ y c ((s_ch σ y c).2.1 % 8)) := by
  rw [yh_some e, yrq_head h]
theorem yh_some1 {σ : ys} {y i j c : Nat} (e : s_ic σ y i j = some c) (h : 0 < (s_ch σ y c).2.2) : (yp_hd (s_T σ y) (s_D σ y) i j).isSome = true := by
  rw [yh_head e h]; rfl
theorem yh_some0 {σ : ys} {y i j c : Nat} (e : s_ic σ y i j = some c) (h : ¬ 0 < (s_ch σ y c).2.2) : (yp_hd (s_T σ y) (s_D σ y) i j).isSome = false := by
  rw [yh_some e, show (s_ch σ y c).2.2 = 0 by omega]; rfl
theorem yr_none {σ : ys} {y i j : Nat} (e : s_oc σ y i j = none) : yp_roomb (s_T σ y) (s_D σ y) i j = true := by
  unfold yp_roomb
  rw [show yp_oc (s_T σ y) i j = none from e]
theorem yr_some {σ : ys} {y i j c : Nat} (e : s_oc σ y i j = some c) : yp_roomb (s_T σ y) (s_D σ y) i j = decide ((s_ch σ y c).2.2 < (s_ch σ y c).1) := by
  unfold yp_roomb
  rw [show yp_oc (s_T σ y) i j = some c from e]
  show decide ((yrq _ _ _).length < _) = _
  rw [yrq_len]
  rfl
set_option maxHeartbeats 4000000 in
set_option maxRecDepth 100000 in
/-- isKind -/
theorem c_A_isKind (l : Launch) (D : va_G) (cc : ClassId × ClassId × ClassId) (ad : yl → Nat) (LL : List yl) (X : va_W) (b0 sz : Nat) (σ : ys) (hL : ∀ q, yL σ q → q ∈ LL) (y i : Nat) (hy : y < 2) (hn : i < s_n σ y) (hi : yI σ y) (k : Nat) (hk : k < 9) : Met l y_A_isKind w_A_isKind ({ frames := 0, cells := 0, slots := 0, locals := 0 }) (yPr D cc b0 [.ref (ad (5, y, i)), .int (nI k)] (yW cc ad LL X σ) sz) (yQi D (yW cc ad LL X σ) sz (yb (decide ((s_ac σ y i).1 = k))) (yW cc ad LL X σ)) 0 0 (va_A (yW cc ad LL X σ) sz) := by
  have h5 : (5, y, i) ∈ LL := hL _ ⟨hy, hn⟩
  have h6 : (6, y, i) ∈ LL := hL _ ⟨hy, hn⟩
  have h7 : (7, y, i) ∈ LL := hL _ ⟨hy, hn⟩
  have h8 : (8, y, i) ∈ LL := hL _ ⟨hy, hn⟩
  obtain ⟨a1, a2, a3, a4, a5⟩ := hi.2.2.1 i
  refine y_ofW (cc := b_A_isKind) (maxL := 2) (ret := (some .boolean)) (by decide) rfl (Nat.le_of_ble_eq_true rfl) ?_
  intro pv ev sv mv bv tv cv ls hI hsz hw hl
  obtain ⟨hx, hb, hr, hml, hts, hown, hlocks, hnm, hK, hAb, hb0, hA⟩ := id hI
  have ht : ∀ w ∈ lg_tbl, w.before _ sv = true := fun w h => hts w (List.mem_cons_of_mem _ h)
  have hl : lv_has ls 2 [(0, .ref (ad (5, y, i))), (1, .int (nI k))] := hl
  refine lv_aload_n hx hb d_A_isKind_0 rfl (lv_at hl 0 rfl) ?_
  refine yr_get (C := R_A) (T := F_A) (N := 8) (ci := k_A) hx hb ht j_A hown hK.1 hw (by assumption) (by rfl) rfl 0 (by decide) (ht _ mf_A_9) (fun _ h9 => h9) (by rfl) d_A_isKind_1 ?_
  refine lv_iload_n hx hb d_A_isKind_4 rfl (lv_at hl 1 rfl) ?_
  refine lv_icmp_ne (tgt := 12) hx hb d_A_isKind_5 (by decide) (fun c_5 => ?_) (fun c_5 => ?_)
  · have e1 : ¬ (s_ac σ y i).1 = k := fun h => c_5 ((nI_eq (by omega) (by omega)).mpr h)
    refine lv_iconst (v := 0) hx hb d_A_isKind_12 (by decide) ?_
    exact ye_z hI (by decide) () (by first | rfl | (rw [decide_eq_true (by omega)]; rfl) | (rw [decide_eq_false (by omega)]; rfl)) hw d_A_isKind_13
  · have e1 : (s_ac σ y i).1 = k := (nI_eq (by omega) (by omega)).mp c_5
    refine lv_iconst (v := 1) hx hb d_A_isKind_8 (by decide) ?_
    refine lv_goto (tgt := 13) hx hb d_A_isKind_9 (by decide) ?_
    exact ye_z hI (by decide) () (by first | rfl | (rw [decide_eq_true (by omega)]; rfl) | (rw [decide_eq_false (by omega)]; rfl)) hw d_A_isKind_13
set_option maxHeartbeats 4000000 in
set_option maxRecDepth 100000 in
/-- times -/
theorem c_A_times (l : Launch) (D : va_G) (cc : ClassId × ClassId × ClassId) (ad : yl → Nat) (LL : List yl) (X : va_W) (b0 sz : Nat) (σ : ys) (hL : ∀ q, yL σ q → q ∈ LL) (y i : Nat) (hy : y < 2) (hn : i < s_n σ y) (hi : yI σ y) : Met l y_A_times w_A_times ({ frames := 0, cells := 0, slots := 0, locals := 0 }) (yPr D cc b0 [.ref (ad (5, y, i))] (yW cc ad LL X σ) sz) (yQi D (yW cc ad LL X σ) sz (nI (s_ac σ y i).2.2.2.2) (yW cc ad LL X σ)) 0 0 (va_A (yW cc ad LL X σ) sz) := by
  have h5 : (5, y, i) ∈ LL := hL _ ⟨hy, hn⟩
  have h6 : (6, y, i) ∈ LL := hL _ ⟨hy, hn⟩
  have h7 : (7, y, i) ∈ LL := hL _ ⟨hy, hn⟩
  have h8 : (8, y, i) ∈ LL := hL _ ⟨hy, hn⟩
  obtain ⟨a1, a2, a3, a4, a5⟩ := hi.2.2.1 i
  refine y_ofW (cc := b_A_times) (maxL := 1) (ret := (some .int)) (by decide) rfl (Nat.le_of_ble_eq_true rfl) ?_
  intro pv ev sv mv bv tv cv ls hI hsz hw hl
  obtain ⟨hx, hb, hr, hml, hts, hown, hlocks, hnm, hK, hAb, hb0, hA⟩ := id hI
  have ht : ∀ w ∈ lg_tbl, w.before _ sv = true := fun w h => hts w (List.mem_cons_of_mem _ h)
  have hl : lv_has ls 1 [(0, .ref (ad (5, y, i)))] := hl
  refine lv_aload_n hx hb d_A_times_0 rfl (lv_at hl 0 rfl) ?_
  refine yr_get (C := R_A) (T := F_A) (N := 8) (ci := k_A) hx hb ht j_A hown hK.1 hw (by assumption) (by rfl) rfl 7 (by decide) (ht _ mf_A_40) (fun _ h9 => h9) (by rfl) d_A_times_1 ?_
  exact ye_i hI () rfl hw d_A_times_4
set_option maxHeartbeats 4000000 in
set_option maxRecDepth 100000 in
/-- turn -/
theorem c_A_turn (l : Launch) (D : va_G) (cc : ClassId × ClassId × ClassId) (ad : yl → Nat) (LL : List yl) (X : va_W) (b0 sz : Nat) (σ : ys) (hL : ∀ q, yL σ q → q ∈ LL) (y i : Nat) (hy : y < 2) (hn : i < s_n σ y) (hi : yI σ y) : Met l y_A_turn w_A_turn ({ frames := 0, cells := 0, slots := 0, locals := 0 }) (yPr D cc b0 [.ref (ad (5, y, i))] (yW cc ad LL X σ) sz) (yQi D (yW cc ad LL X σ) sz (nI ((s_ac σ y i).2.2.2.2 % 2)) (yW cc ad LL X σ)) 0 0 (va_A (yW cc ad LL X σ) sz) := by
  have h5 : (5, y, i) ∈ LL := hL _ ⟨hy, hn⟩
  have h6 : (6, y, i) ∈ LL := hL _ ⟨hy, hn⟩
  have h7 : (7, y, i) ∈ LL := hL _ ⟨hy, hn⟩
  have h8 : (8, y, i) ∈ LL := hL _ ⟨hy, hn⟩
  obtain ⟨a1, a2, a3, a4, a5⟩ := hi.2.2.1 i
  refine y_ofW (cc := b_A_turn) (maxL := 1) (ret := (some .int)) (by decide) rfl (Nat.le_of_ble_eq_true rfl) ?_
  intro pv ev sv mv bv tv cv ls hI hsz hw hl
  obtain ⟨hx, hb, hr, hml, hts, hown, hlocks, hnm, hK, hAb, hb0, hA⟩ := id hI
  have ht : ∀ w ∈ lg_tbl, w.before _ sv = true := fun w h => hts w (List.mem_cons_of_mem _ h)
  have hl : lv_has ls 1 [(0, .ref (ad (5, y, i)))] := hl
  refine lv_aload_n hx hb d_A_turn_0 rfl (lv_at hl 0 rfl) ?_
  refine yr_get (C := R_A) (T := F_A) (N := 8) (ci := k_A) hx hb ht j_A hown hK.1 hw (by assumption) (by rfl) rfl 7 (by decide) (ht _ mf_A_40) (fun _ h9 => h9) (by rfl) d_A_turn_1 ?_
  refine lv_iconst (v := 1) hx hb d_A_turn_4 (by decide) ?_
  refine lv_iand hx hb d_A_turn_5 ?_
  rw [yand1 (by omega)]
  exact ye_i hI () rfl hw d_A_turn_6
set_option maxHeartbeats 4000000 in
set_option maxRecDepth 100000 in
/-- rowValue -/
theorem c_A_rowValue (l : Launch) (D : va_G) (cc : ClassId × ClassId × ClassId) (ad : yl → Nat) (LL : List yl) (X : va_W) (b0 sz : Nat) (σ : ys) (hL : ∀ q, yL σ q → q ∈ LL) (y i : Nat) (hy : y < 2) (hn : i < s_n σ y) (hi : yI σ y) (t : Nat) (ht2 : t < yt_rows (s_ac σ y i).1) : Met l y_A_rowValue w_A_rowValue ({ frames := 0, cells := 0, slots := 0, locals := 0 }) (yPr D cc b0 [.ref (ad (5, y, i)), .int (nI t)] (yW cc ad LL X σ) sz) (yQi D (yW cc ad LL X σ) sz (s_rw σ y i t) (yW cc ad LL X σ)) 0 0 (va_A (yW cc ad LL X σ) sz) := by
  have hr60 := yt_rows_le (s_ac σ y i).1
  have h5 : (5, y, i) ∈ LL := hL _ ⟨hy, hn⟩
  have h6 : (6, y, i) ∈ LL := hL _ ⟨hy, hn⟩
  have h7 : (7, y, i) ∈ LL := hL _ ⟨hy, hn⟩
  have h8 : (8, y, i) ∈ LL := hL _ ⟨hy, hn⟩
  obtain ⟨a1, a2, a3, a4, a5⟩ := hi.2.2.1 i
  refine y_ofW (cc := b_A_rowValue) (maxL := 2) (ret := (some .int)) (by decide) rfl (Nat.le_of_ble_eq_true rfl) ?_
  intro pv ev sv mv bv tv cv ls hI hsz hw hl
  obtain ⟨hx, hb, hr, hml, hts, hown, hlocks, hnm, hK, hAb, hb0, hA⟩ := id hI
  have ht : ∀ w ∈ lg_tbl, w.before _ sv = true := fun w h => hts w (List.mem_cons_of_mem _ h)
  have hl : lv_has ls 2 [(0, .ref (ad (5, y, i))), (1, .int (nI t))] := hl
  refine lv_iload_n hx hb d_A_rowValue_0 rfl (lv_at hl 1 rfl) ?_
  refine lv_if_lt (tgt := 22) hx hb d_A_rowValue_1 (by decide) (fun c_1 => by exact absurd c_1 (nI_pos (by omega))) (fun c_1 => ?_)
  refine lv_iload_n hx hb d_A_rowValue_4 rfl (lv_at hl 1 rfl) ?_
  refine lv_aload_n hx hb d_A_rowValue_5 rfl (lv_at hl 0 rfl) ?_
  refine yr_get (C := R_A) (T := F_A) (N := 8) (ci := k_A) hx hb ht j_A hown hK.1 hw (by assumption) (by rfl) rfl 5 (by decide) (ht _ mf_A_34) (fun _ h9 => h9) (by rfl) d_A_rowValue_6 ?_
  refine yr_alen (v := nI (yt_rows (s_ac σ y i).1)) hx hb hK.1 hw (by assumption) (by rfl) 0 rfl rfl d_A_rowValue_9 ?_
  refine lv_icmp_ge (tgt := 22) hx hb d_A_rowValue_10 (by decide) (fun c_10 => by exact absurd ((nI_leI (by omega) (by omega)).mp c_10) (by omega)) (fun c_10 => ?_)
  refine lv_aload_n hx hb d_A_rowValue_13 rfl (lv_at hl 0 rfl) ?_
  refine yr_get (C := R_A) (T := F_A) (N := 8) (ci := k_A) hx hb ht j_A hown hK.1 hw (by assumption) (by rfl) rfl 5 (by decide) (ht _ mf_A_34) (fun _ h9 => h9) (by rfl) d_A_rowValue_14 ?_
  refine lv_iload_n hx hb d_A_rowValue_17 rfl (lv_at hl 1 rfl) ?_
  refine yr_iald (v := s_rw σ y i t) hx hb hK.1 hw (by assumption) (by rfl) 0 rfl (vp_in_nI ht2 (by omega)) (by rw [nI_clamp (by omega)]) d_A_rowValue_18 ?_
  refine lv_goto (tgt := 23) hx hb d_A_rowValue_19 (by decide) ?_
  exact ye_i hI () rfl hw d_A_rowValue_23
set_option maxHeartbeats 4000000 in
set_option maxRecDepth 100000 in
/-- tell, refused -/
theorem c_A_tell_no (l : Launch) (D : va_G) (cc : ClassId × ClassId × ClassId) (ad : yl → Nat) (LL : List yl) (X : va_W) (b0 sz : Nat) (σ : ys) (hL : ∀ q, yL σ q → q ∈ LL) (y i : Nat) (hy : y < 2) (hn : i < s_n σ y) (hi : yI σ y) (v : Int32) (ht2 : ¬ (s_ac σ y i).2.2.2.1 < yt_rows (s_ac σ y i).1) : Met l y_A_tell w_A_tell ({ frames := 0, cells := 0, slots := 0, locals := 0 }) (yPr D cc b0 [.ref (ad (5, y, i)), .int v] (yW cc ad LL X σ) sz) (yQi D (yW cc ad LL X σ) sz 0 (yW cc ad LL X σ)) 0 0 (va_A (yW cc ad LL X σ) sz) := by
  have hr60 := yt_rows_le (s_ac σ y i).1
  have h5 : (5, y, i) ∈ LL := hL _ ⟨hy, hn⟩
  have h6 : (6, y, i) ∈ LL := hL _ ⟨hy, hn⟩
  have h7 : (7, y, i) ∈ LL := hL _ ⟨hy, hn⟩
  have h8 : (8, y, i) ∈ LL := hL _ ⟨hy, hn⟩
  obtain ⟨a1, a2, a3, a4, a5⟩ := hi.2.2.1 i
  refine y_ofW (cc := b_A_tell) (maxL := 2) (ret := (some .boolean)) (by decide) rfl (Nat.le_of_ble_eq_true rfl) ?_
  intro pv ev sv mv bv tv cv ls hI hsz hw hl
  obtain ⟨hx, hb, hr, hml, hts, hown, hlocks, hnm, hK, hAb, hb0, hA⟩ := id hI
  have ht : ∀ w ∈ lg_tbl, w.before _ sv = true := fun w h => hts w (List.mem_cons_of_mem _ h)
  have hl : lv_has ls 2 [(0, .ref (ad (5, y, i))), (1, .int v)] := hl
  refine lv_aload_n hx hb d_A_tell_0 rfl (lv_at hl 0 rfl) ?_
  refine yr_get (C := R_A) (T := F_A) (N := 8) (ci := k_A) hx hb ht j_A hown hK.1 hw (by assumption) (by rfl) rfl 6 (by decide) (ht _ mf_A_37) (fun _ h9 => h9) (by rfl) d_A_tell_1 ?_
  refine lv_aload_n hx hb d_A_tell_4 rfl (lv_at hl 0 rfl) ?_
  refine yr_get (C := R_A) (T := F_A) (N := 8) (ci := k_A) hx hb ht j_A hown hK.1 hw (by assumption) (by rfl) rfl 5 (by decide) (ht _ mf_A_34) (fun _ h9 => h9) (by rfl) d_A_tell_5 ?_
  refine yr_alen (v := nI (yt_rows (s_ac σ y i).1)) hx hb hK.1 hw (by assumption) (by rfl) 0 rfl rfl d_A_tell_8 ?_
  refine lv_icmp_lt (tgt := 14) hx hb d_A_tell_9 (by decide) (fun c_9 => by exact absurd ((nI_ltI (by omega) (by omega)).mp c_9) (by omega)) (fun c_9 => ?_)
  refine lv_iconst (v := 0) hx hb d_A_tell_12 (by decide) ?_
  exact ye_z hI (by decide) () (by first | rfl | (rw [decide_eq_true (by omega)]; rfl) | (rw [decide_eq_false (by omega)]; rfl)) hw d_A_tell_13
set_option maxHeartbeats 4000000 in
set_option maxRecDepth 100000 in
/-- tell -/
theorem c_A_tell (l : Launch) (D : va_G) (cc : ClassId × ClassId × ClassId) (ad : yl → Nat) (LL : List yl) (X : va_W) (b0 sz : Nat) (σ : ys) (hL : ∀ q, yL σ q → q ∈ LL) (y i : Nat) (hy : y < 2) (hn : i < s_n σ y) (hi : yI σ y) (v : Int32) (ht2 : (s_ac σ y i).2.2.2.1 < yt_rows (s_ac σ y i).1) : Met l y_A_tell w_A_tell ({ frames := 0, cells := 0, slots := 0, locals := 0 }) (yPr D cc b0 [.ref (ad (5, y, i)), .int v] (yW cc ad LL X σ) sz) (yQi D (yW cc ad LL X σ) sz 1 (yW cc ad LL X (yo_tell σ y i v))) 0 0 (va_A (yW cc ad LL X σ) sz) := by
  have hr60 := yt_rows_le (s_ac σ y i).1
  have h5 : (5, y, i) ∈ LL := hL _ ⟨hy, hn⟩
  have h6 : (6, y, i) ∈ LL := hL _ ⟨hy, hn⟩
  have h7 : (7, y, i) ∈ LL := hL _ ⟨hy, hn⟩
  have h8 : (8, y, i) ∈ LL := hL _ ⟨hy, hn⟩
  obtain ⟨a1, a2, a3, a4, a5⟩ := hi.2.2.1 i
  refine y_ofW (cc := b_A_tell) (maxL := 2) (ret := (some .boolean)) (by decide) rfl (Nat.le_of_ble_eq_true rfl) ?_
  intro pv ev sv mv bv tv cv ls hI hsz hw hl
  obtain ⟨hx, hb, hr, hml, hts, hown, hlocks, hnm, hK, hAb, hb0, hA⟩ := id hI
  have ht : ∀ w ∈ lg_tbl, w.before _ sv = true := fun w h => hts w (List.mem_cons_of_mem _ h)
  have hl : lv_has ls 2 [(0, .ref (ad (5, y, i))), (1, .int v)] := hl
  refine lv_aload_n hx hb d_A_tell_0 rfl (lv_at hl 0 rfl) ?_
  refine yr_get (C := R_A) (T := F_A) (N := 8) (ci := k_A) hx hb ht j_A hown hK.1 hw (by assumption) (by rfl) rfl 6 (by decide) (ht _ mf_A_37) (fun _ h9 => h9) (by rfl) d_A_tell_1 ?_
  refine lv_aload_n hx hb d_A_tell_4 rfl (lv_at hl 0 rfl) ?_
  refine yr_get (C := R_A) (T := F_A) (N := 8) (ci := k_A) hx hb ht j_A hown hK.1 hw (by assumption) (by rfl) rfl 5 (by decide) (ht _ mf_A_34) (fun _ h9 => h9) (by rfl) d_A_tell_5 ?_
  refine yr_alen (v := nI (yt_rows (s_ac σ y i).1)) hx hb hK.1 hw (by assumption) (by rfl) 0 rfl rfl d_A_tell_8 ?_
  refine lv_icmp_lt (tgt := 14) hx hb d_A_tell_9 (by decide) (fun c_9 => ?_) (fun c_9 => by exact absurd ((nI_ltI (by omega) (by omega)).mpr ht2) c_9)
  refine lv_aload_n hx hb d_A_tell_14 rfl (lv_at hl 0 rfl) ?_
  refine yr_get (C := R_A) (T := F_A) (N := 8) (ci := k_A) hx hb ht j_A hown hK.1 hw (by assumption) (by rfl) rfl 5 (by decide) (ht _ mf_A_34) (fun _ h9 => h9) (by rfl) d_A_tell_15 ?_
  refine lv_aload_n hx hb d_A_tell_18 rfl (lv_at hl 0 rfl) ?_
  refine yr_get (C := R_A) (T := F_A) (N := 8) (ci := k_A) hx hb ht j_A hown hK.1 hw (by assumption) (by rfl) rfl 6 (by decide) (ht _ mf_A_37) (fun _ h9 => h9) (by rfl) d_A_tell_19 ?_
  refine lv_iload_n hx hb d_A_tell_22 rfl (lv_at hl 1 rfl) ?_
  refine yr_iast hx hb hK.1 hw (by assumption) (by rfl) 0 rfl (vp_in_nI ht2 (by omega)) d_A_tell_23 (fun H locs hw => ?_)
  rw [nI_clamp (by omega)] at hw
  have hw := yw_rw _ hw rfl
  refine lv_aload_n hx hb d_A_tell_24 rfl (lv_at hl 0 rfl) ?_
  refine lv_dup hx hb d_A_tell_25 rfl ?_
  refine yr_get (C := R_A) (T := F_A) (N := 8) (ci := k_A) hx hb ht j_A hown hK.1 hw (by assumption) (by rfl) rfl 6 (by decide) (ht _ mf_A_37) (fun _ h9 => h9) (by rfl) d_A_tell_26 ?_
  refine lv_iconst (v := 1) hx hb d_A_tell_29 (by decide) ?_
  refine lv_iadd hx hb d_A_tell_30 ?_
  rw [nI_1]
  refine yr_put (ty := .int) (C := R_A) (T := F_A) (N := 8) (ci := k_A) hx hb ht j_A t_A t_A_ok n_A hown hK.1 hw (by assumption) (by rfl) rfl 6 (by decide) (ht _ mf_A_37) (fun _ h9 => h9) rfl (by decide +kernel) rfl rfl (Nat.le_of_ble_eq_true rfl) d_A_tell_31 (fun H locs hw => ?_)
  have hw := yw_ac ((s_ac σ y i).1, (s_ac σ y i).2.1, (s_ac σ y i).2.2.1, (s_ac σ y i).2.2.2.1 + 1, (s_ac σ y i).2.2.2.2) hw rfl rfl
  refine lv_iconst (v := 1) hx hb d_A_tell_34 (by decide) ?_
  exact ye_z hI (by decide) () rfl hw d_A_tell_35
set_option maxHeartbeats 4000000 in
set_option maxRecDepth 100000 in
/-- keep -/
theorem c_A_keep (l : Launch) (D : va_G) (cc : ClassId × ClassId × ClassId) (ad : yl → Nat) (LL : List yl) (X : va_W) (b0 sz : Nat) (σ : ys) (hL : ∀ q, yL σ q → q ∈ LL) (y i : Nat) (hy : y < 2) (hn : i < s_n σ y) (hi : yI σ y) (v : Int32) (ht2 : (s_ac σ y i).2.2.2.2 < yt_rows (s_ac σ y i).1) : Met l y_A_keep w_A_keep ({ frames := 0, cells := 0, slots := 0, locals := 0 }) (yPr D cc b0 [.ref (ad (5, y, i)), .int v] (yW cc ad LL X σ) sz) (yQv D (yW cc ad LL X σ) sz (yW cc ad LL X (sx_rw σ y i (upd (s_rw σ y i) (s_ac σ y i).2.2.2.2 v)))) 0 0 (va_A (yW cc ad LL X σ) sz) := by
  have hr60 := yt_rows_le (s_ac σ y i).1
  have h5 : (5, y, i) ∈ LL := hL _ ⟨hy, hn⟩
  have h6 : (6, y, i) ∈ LL := hL _ ⟨hy, hn⟩
  have h7 : (7, y, i) ∈ LL := hL _ ⟨hy, hn⟩
  have h8 : (8, y, i) ∈ LL := hL _ ⟨hy, hn⟩
  obtain ⟨a1, a2, a3, a4, a5⟩ := hi.2.2.1 i
  refine y_ofW (cc := b_A_keep) (maxL := 2) (ret := none) (by decide) rfl (Nat.le_of_ble_eq_true rfl) ?_
  intro pv ev sv mv bv tv cv ls hI hsz hw hl
  obtain ⟨hx, hb, hr, hml, hts, hown, hlocks, hnm, hK, hAb, hb0, hA⟩ := id hI
  have ht : ∀ w ∈ lg_tbl, w.before _ sv = true := fun w h => hts w (List.mem_cons_of_mem _ h)
  have hl : lv_has ls 2 [(0, .ref (ad (5, y, i))), (1, .int v)] := hl
  refine lv_aload_n hx hb d_A_keep_0 rfl (lv_at hl 0 rfl) ?_
  refine yr_get (C := R_A) (T := F_A) (N := 8) (ci := k_A) hx hb ht j_A hown hK.1 hw (by assumption) (by rfl) rfl 7 (by decide) (ht _ mf_A_40) (fun _ h9 => h9) (by rfl) d_A_keep_1 ?_
  refine lv_aload_n hx hb d_A_keep_4 rfl (lv_at hl 0 rfl) ?_
  refine yr_get (C := R_A) (T := F_A) (N := 8) (ci := k_A) hx hb ht j_A hown hK.1 hw (by assumption) (by rfl) rfl 5 (by decide) (ht _ mf_A_34) (fun _ h9 => h9) (by rfl) d_A_keep_5 ?_
  refine yr_alen (v := nI (yt_rows (s_ac σ y i).1)) hx hb hK.1 hw (by assumption) (by rfl) 0 rfl rfl d_A_keep_8 ?_
  refine lv_icmp_ge (tgt := 22) hx hb d_A_keep_9 (by decide) (fun c_9 => by exact absurd ((nI_leI (by omega) (by omega)).mp c_9) (by omega)) (fun c_9 => ?_)
  refine lv_aload_n hx hb d_A_keep_12 rfl (lv_at hl 0 rfl) ?_
  refine yr_get (C := R_A) (T := F_A) (N := 8) (ci := k_A) hx hb ht j_A hown hK.1 hw (by assumption) (by rfl) rfl 5 (by decide) (ht _ mf_A_34) (fun _ h9 => h9) (by rfl) d_A_keep_13 ?_
  refine lv_aload_n hx hb d_A_keep_16 rfl (lv_at hl 0 rfl) ?_
  refine yr_get (C := R_A) (T := F_A) (N := 8) (ci := k_A) hx hb ht j_A hown hK.1 hw (by assumption) (by rfl) rfl 7 (by decide) (ht _ mf_A_40) (fun _ h9 => h9) (by rfl) d_A_keep_17 ?_
  refine lv_iload_n hx hb d_A_keep_20 rfl (lv_at hl 1 rfl) ?_
  refine yr_iast hx hb hK.1 hw (by assumption) (by rfl) 0 rfl (vp_in_nI ht2 (by omega)) d_A_keep_21 (fun H locs hw => ?_)
  rw [nI_clamp (by omega)] at hw
  have hw := yw_rw _ hw rfl
  exact ye_v hI () trivial hw d_A_keep_22
set_option maxHeartbeats 4000000 in
set_option maxRecDepth 100000 in
/-- hasValue -/
theorem c_A_hasValue (l : Launch) (D : va_G) (cc : ClassId × ClassId × ClassId) (ad : yl → Nat) (LL : List yl) (X : va_W) (b0 sz : Nat) (σ : ys) (hL : ∀ q, yL σ q → q ∈ LL) (y i : Nat) (hy : y < 2) (hn : i < s_n σ y) (hi : yI σ y) (j : Nat) (hj : j < 2) : Met l y_A_hasValue w_A_hasValue ({ frames := 1, cells := 0, slots := 0, locals := 20 }) (yPr D cc b0 [.ref (ad (5, y, i)), .int (nI j)] (yW cc ad LL X σ) sz) (yQi D (yW cc ad LL X σ) sz (yb (yp_hd (s_T σ y) (s_D σ y) i j).isSome) (yW cc ad LL X σ)) 0 0 (va_A (yW cc ad LL X σ) sz) := by
  have h5 : (5, y, i) ∈ LL := hL _ ⟨hy, hn⟩
  have h6 : (6, y, i) ∈ LL := hL _ ⟨hy, hn⟩
  have h7 : (7, y, i) ∈ LL := hL _ ⟨hy, hn⟩
  have h8 : (8, y, i) ∈ LL := hL _ ⟨hy, hn⟩
  obtain ⟨a1, a2, a3, a4, a5⟩ := hi.2.2.1 i
  refine y_ofW (cc := b_A_hasValue) (maxL := 3) (ret := (some .boolean)) (by decide) rfl (Nat.le_of_ble_eq_true rfl) ?_
  intro pv ev sv mv bv tv cv ls hI hsz hw hl
  obtain ⟨hx, hb, hr, hml, hts, hown, hlocks, hnm, hK, hAb, hb0, hA⟩ := id hI
  have ht : ∀ w ∈ lg_tbl, w.before _ sv = true := fun w h => hts w (List.mem_cons_of_mem _ h)
  have hl : lv_has ls 3 [(0, .ref (ad (5, y, i))), (1, .int (nI j))] := hl
  cases e : s_ic σ y i j with
  | none =>
    refine lv_aload_n hx hb d_A_hasValue_0 rfl (lv_at hl 0 rfl) ?_
    refine yr_get (C := R_A) (T := F_A) (N := 8) (ci := k_A) hx hb ht j_A hown hK.1 hw (by assumption) (by rfl) rfl 3 (by decide) (ht _ mf_A_23) (fun _ h9 => h9) (by rfl) d_A_hasValue_1 ?_
    refine lv_iload_n hx hb d_A_hasValue_4 rfl (lv_at hl 1 rfl) ?_
    refine yr_aldq (v := .null) hx hb hK.1 hw (by assumption) (by rfl) 2 rfl (vp_in_nI (by omega) (by omega)) (by rw [nI_clamp (by omega)]; show va_rf ((s_ic σ y i j).map _) = _; rw [e]; rfl) d_A_hasValue_5 ?_
    refine lv_astore_nN (lv' := [(2, .null), (0, .ref _), (1, .int _)]) hx hb d_A_hasValue_6 rfl hl (by decide) rfl (fun ls hl => ?_)
    refine lv_aload_nN hx hb d_A_hasValue_7 rfl (lv_at hl 0 rfl) ?_
    refine lv_ifnullN (tgt := 22) hx hb d_A_hasValue_8 (by decide) ?_
    refine lv_iconst (v := 0) hx hb d_A_hasValue_22 (by decide) ?_
    exact ye_z hI (by decide) () (by rw [yh_none e]; rfl) hw d_A_hasValue_23
  | some c =>
    have hc := hi.2.2.2.2.1 i j c e
    have h9 : (9, y, c) ∈ LL := hL _ ⟨hy, hc.2.2⟩
    have h10 : (10, y, c) ∈ LL := hL _ ⟨hy, hc.2.2⟩
    obtain ⟨b1, b2, b3, b4⟩ := hi.2.2.2.1 c
    refine lv_aload_n hx hb d_A_hasValue_0 rfl (lv_at hl 0 rfl) ?_
    refine yr_get (C := R_A) (T := F_A) (N := 8) (ci := k_A) hx hb ht j_A hown hK.1 hw (by assumption) (by rfl) rfl 3 (by decide) (ht _ mf_A_23) (fun _ h9 => h9) (by rfl) d_A_hasValue_1 ?_
    refine lv_iload_n hx hb d_A_hasValue_4 rfl (lv_at hl 1 rfl) ?_
    refine yr_aldq (v := .ref (ad (9, y, c))) hx hb hK.1 hw (by assumption) (by rfl) 2 rfl (vp_in_nI (by omega) (by omega)) (by rw [nI_clamp (by omega)]; show va_rf ((s_ic σ y i j).map _) = _; rw [e]; rfl) d_A_hasValue_5 ?_
    refine lv_astore_n (lv' := [(2, .ref _), (0, .ref _), (1, .int _)]) hx hb d_A_hasValue_6 rfl hl (by decide) rfl (fun ls hl => ?_)
    refine lv_aload_n hx hb d_A_hasValue_7 rfl (lv_at hl 0 rfl) ?_
    refine lv_ifnull hx hb d_A_hasValue_8 ?_
    refine lv_aload_n hx hb d_A_hasValue_11 rfl (lv_at hl 0 rfl) ?_
    refine yc_i (va_runV (As := []) (rest := []) ⟨hx, hb, hml, hown, hts⟩ (c_C_size l D cc ad LL X b0 _ σ y c h9 h10) (cwV 0 hts (yg_call mc_C_size ml_A_78 mm_C_size ms_C_size mi_C) rfl rfl rfl (by decide +kernel) ⟨Nat.le_of_ble_eq_true rfl, Nat.le_of_ble_eq_true rfl⟩) (y_preV hI hw (y_recv hK.1 hw h9 (by rfl) rfl)) rfl rfl hl.1 rfl (lv_room (Nat.le_of_ble_eq_true rfl)) d_A_hasValue_12 ⟨Nat.le_of_ble_eq_true rfl, Nat.le_of_ble_eq_true rfl⟩) hw hA (fun r u H locs he hw => ?_)
    subst he
    refine lv_if_le (tgt := 22) hx hb d_A_hasValue_15 (by decide) (fun c_15 => ?_) (fun c_15 => ?_)
    · have e1 : ¬ 0 < (s_ch σ y c).2.2 := fun h => absurd c_15 (nI_nle h (by omega))
      refine lv_iconst (v := 0) hx hb d_A_hasValue_22 (by decide) ?_
      exact ye_z hI (by decide) () (by first | (rw [yh_some1 e e1]; rfl) | (rw [yh_some0 e e1]; rfl)) hw d_A_hasValue_23
    · have e1 : 0 < (s_ch σ y c).2.2 := by
        rcases Nat.eq_zero_or_pos (s_ch σ y c).2.2 with h | h
        · exact absurd (by rw [h]; decide) c_15
        · exact h
      refine lv_iconst (v := 1) hx hb d_A_hasValue_18 (by decide) ?_
      refine lv_goto (tgt := 23) hx hb d_A_hasValue_19 (by decide) ?_
      exact ye_z hI (by decide) () (by first | (rw [yh_some1 e e1]; rfl) | (rw [yh_some0 e e1]; rfl)) hw d_A_hasValue_23
set_option maxHeartbeats 4000000 in
set_option maxRecDepth 100000 in
/-- hasRoom -/
theorem c_A_hasRoom (l : Launch) (D : va_G) (cc : ClassId × ClassId × ClassId) (ad : yl → Nat) (LL : List yl) (X : va_W) (b0 sz : Nat) (σ : ys) (hL : ∀ q, yL σ q → q ∈ LL) (y i : Nat) (hy : y < 2) (hn : i < s_n σ y) (hi : yI σ y) (j : Nat) (hj : j < 2) : Met l y_A_hasRoom w_A_hasRoom ({ frames := 1, cells := 0, slots := 0, locals := 20 }) (yPr D cc b0 [.ref (ad (5, y, i)), .int (nI j)] (yW cc ad LL X σ) sz) (yQi D (yW cc ad LL X σ) sz (yb (yp_roomb (s_T σ y) (s_D σ y) i j)) (yW cc ad LL X σ)) 0 0 (va_A (yW cc ad LL X σ) sz) := by
  have h5 : (5, y, i) ∈ LL := hL _ ⟨hy, hn⟩
  have h6 : (6, y, i) ∈ LL := hL _ ⟨hy, hn⟩
  have h7 : (7, y, i) ∈ LL := hL _ ⟨hy, hn⟩
  have h8 : (8, y, i) ∈ LL := hL _ ⟨hy, hn⟩
  obtain ⟨a1, a2, a3, a4, a5⟩ := hi.2.2.1 i
  refine y_ofW (cc := b_A_hasRoom) (maxL := 3) (ret := (some .boolean)) (by decide) rfl (Nat.le_of_ble_eq_true rfl) ?_
  intro pv ev sv mv bv tv cv ls hI hsz hw hl
  obtain ⟨hx, hb, hr, hml, hts, hown, hlocks, hnm, hK, hAb, hb0, hA⟩ := id hI
  have ht : ∀ w ∈ lg_tbl, w.before _ sv = true := fun w h => hts w (List.mem_cons_of_mem _ h)
  have hl : lv_has ls 3 [(0, .ref (ad (5, y, i))), (1, .int (nI j))] := hl
  cases e : s_oc σ y i j with
  | none =>
    refine lv_aload_n hx hb d_A_hasRoom_0 rfl (lv_at hl 0 rfl) ?_
    refine yr_get (C := R_A) (T := F_A) (N := 8) (ci := k_A) hx hb ht j_A hown hK.1 hw (by assumption) (by rfl) rfl 4 (by decide) (ht _ mf_A_27) (fun _ h9 => h9) (by rfl) d_A_hasRoom_1 ?_
    refine lv_iload_n hx hb d_A_hasRoom_4 rfl (lv_at hl 1 rfl) ?_
    refine yr_aldq (v := .null) hx hb hK.1 hw (by assumption) (by rfl) 2 rfl (vp_in_nI (by omega) (by omega)) (by rw [nI_clamp (by omega)]; show va_rf ((s_oc σ y i j).map _) = _; rw [e]; rfl) d_A_hasRoom_5 ?_
    refine lv_astore_nN (lv' := [(2, .null), (0, .ref _), (1, .int _)]) hx hb d_A_hasRoom_6 rfl hl (by decide) rfl (fun ls hl => ?_)
    refine lv_aload_nN hx hb d_A_hasRoom_7 rfl (lv_at hl 0 rfl) ?_
    refine lv_ifnullN (tgt := 18) hx hb d_A_hasRoom_8 (by decide) ?_
    refine lv_iconst (v := 1) hx hb d_A_hasRoom_18 (by decide) ?_
    refine lv_goto (tgt := 23) hx hb d_A_hasRoom_19 (by decide) ?_
    exact ye_z hI (by decide) () (by rw [yr_none e]; rfl) hw d_A_hasRoom_23
  | some c =>
    have hc := hi.2.2.2.2.2.1 i j c e
    have h9 : (9, y, c) ∈ LL := hL _ ⟨hy, hc.2.2⟩
    have h10 : (10, y, c) ∈ LL := hL _ ⟨hy, hc.2.2⟩
    obtain ⟨b1, b2, b3, b4⟩ := hi.2.2.2.1 c
    refine lv_aload_n hx hb d_A_hasRoom_0 rfl (lv_at hl 0 rfl) ?_
    refine yr_get (C := R_A) (T := F_A) (N := 8) (ci := k_A) hx hb ht j_A hown hK.1 hw (by assumption) (by rfl) rfl 4 (by decide) (ht _ mf_A_27) (fun _ h9 => h9) (by rfl) d_A_hasRoom_1 ?_
    refine lv_iload_n hx hb d_A_hasRoom_4 rfl (lv_at hl 1 rfl) ?_
    refine yr_aldq (v := .ref (ad (9, y, c))) hx hb hK.1 hw (by assumption) (by rfl) 2 rfl (vp_in_nI (by omega) (by omega)) (by rw [nI_clamp (by omega)]; show va_rf ((s_oc σ y i j).map _) = _; rw [e]; rfl) d_A_hasRoom_5 ?_
    refine lv_astore_n (lv' := [(2, .ref _), (0, .ref _), (1, .int _)]) hx hb d_A_hasRoom_6 rfl hl (by decide) rfl (fun ls hl => ?_)
    refine lv_aload_n hx hb d_A_hasRoom_7 rfl (lv_at hl 0 rfl) ?_
    refine lv_ifnull hx hb d_A_hasRoom_8 ?_
    refine lv_aload_n hx hb d_A_hasRoom_11 rfl (lv_at hl 0 rfl) ?_
    refine yc_i (va_runV (As := []) (rest := []) ⟨hx, hb, hml, hown, hts⟩ (c_C_isFull l D cc ad LL X b0 _ σ y c h9 h10 ⟨by omega, by omega, by omega⟩) (cwV 0 hts (yg_call mc_C_isFull ml_A_84 mm_C_isFull ms_C_isFull mi_C) rfl rfl rfl (by decide +kernel) ⟨Nat.le_of_ble_eq_true rfl, Nat.le_of_ble_eq_true rfl⟩) (y_preV hI hw (y_recv hK.1 hw h9 (by rfl) rfl)) rfl rfl hl.1 rfl (lv_room (Nat.le_of_ble_eq_true rfl)) d_A_hasRoom_12 ⟨Nat.le_of_ble_eq_true rfl, Nat.le_of_ble_eq_true rfl⟩) hw hA (fun r u H locs he hw => ?_)
    subst he
    refine lv_if_ne (tgt := 22) hx hb d_A_hasRoom_15 (by decide) (fun c_15 => ?_) (fun c_15 => ?_)
    · have e1 : ¬ (s_ch σ y c).2.2 < (s_ch σ y c).1 := fun h => c_15 (by rw [decide_eq_false (by omega)]; rfl)
      refine lv_iconst (v := 0) hx hb d_A_hasRoom_22 (by decide) ?_
      exact ye_z hI (by decide) () (by rw [yr_some e]; first | rfl | (rw [decide_eq_true (by omega)]; rfl) | (rw [decide_eq_false (by omega)]; rfl)) hw d_A_hasRoom_23
    · have e1 : (s_ch σ y c).2.2 < (s_ch σ y c).1 := by
        by_cases h : (s_ch σ y c).2.2 < (s_ch σ y c).1
        · exact h
        · rw [decide_eq_true (by omega)] at c_15
          exact absurd c_15 (by decide)
      refine lv_iconst (v := 1) hx hb d_A_hasRoom_18 (by decide) ?_
      refine lv_goto (tgt := 23) hx hb d_A_hasRoom_19 (by decide) ?_
      exact ye_z hI (by decide) () (by rw [yr_some e]; first | rfl | (rw [decide_eq_true (by omega)]; rfl) | (rw [decide_eq_false (by omega)]; rfl)) hw d_A_hasRoom_23
set_option maxHeartbeats 4000000 in
set_option maxRecDepth 100000 in
/-- give -/
theorem c_A_give (l : Launch) (D : va_G) (cc : ClassId × ClassId × ClassId) (ad : yl → Nat) (LL : List yl) (X : va_W) (b0 sz : Nat) (σ : ys) (hL : ∀ q, yL σ q → q ∈ LL) (y i : Nat) (hy : y < 2) (hn : i < s_n σ y) (hi : yI σ y) (j : Nat) (hj : j < 2) (v : Int32) : Met l y_A_give w_A_give ({ frames := 1, cells := 0, slots := 0, locals := 21 }) (yPr D cc b0 [.ref (ad (5, y, i)), .int (nI j), .int v] (yW cc ad LL X σ) sz) (yQv D (yW cc ad LL X σ) sz (yW cc ad LL X (yo_give σ y i j v))) 0 0 (va_A (yW cc ad LL X σ) sz) := by
  have h5 : (5, y, i) ∈ LL := hL _ ⟨hy, hn⟩
  have h6 : (6, y, i) ∈ LL := hL _ ⟨hy, hn⟩
  have h7 : (7, y, i) ∈ LL := hL _ ⟨hy, hn⟩
  have h8 : (8, y, i) ∈ LL := hL _ ⟨hy, hn⟩
  obtain ⟨a1, a2, a3, a4, a5⟩ := hi.2.2.1 i
  refine y_ofW (cc := b_A_give) (maxL := 4) (ret := none) (by decide) rfl (Nat.le_of_ble_eq_true rfl) ?_
  intro pv ev sv mv bv tv cv ls hI hsz hw hl
  obtain ⟨hx, hb, hr, hml, hts, hown, hlocks, hnm, hK, hAb, hb0, hA⟩ := id hI
  have ht : ∀ w ∈ lg_tbl, w.before _ sv = true := fun w h => hts w (List.mem_cons_of_mem _ h)
  have hl : lv_has ls 4 [(0, .ref (ad (5, y, i))), (1, .int (nI j)), (2, .int v)] := hl
  cases e : s_oc σ y i j with
  | none =>
    refine lv_aload_n hx hb d_A_give_0 rfl (lv_at hl 0 rfl) ?_
    refine yr_get (C := R_A) (T := F_A) (N := 8) (ci := k_A) hx hb ht j_A hown hK.1 hw (by assumption) (by rfl) rfl 4 (by decide) (ht _ mf_A_27) (fun _ h9 => h9) (by rfl) d_A_give_1 ?_
    refine lv_iload_n hx hb d_A_give_4 rfl (lv_at hl 1 rfl) ?_
    refine yr_aldq (v := .null) hx hb hK.1 hw (by assumption) (by rfl) 2 rfl (vp_in_nI (by omega) (by omega)) (by rw [nI_clamp (by omega)]; show va_rf ((s_oc σ y i j).map _) = _; rw [e]; rfl) d_A_give_5 ?_
    refine lv_astore_nN (lv' := [(3, .null), (0, .ref _), (1, .int _), (2, .int _)]) hx hb d_A_give_6 rfl hl (by decide) rfl (fun ls hl => ?_)
    refine lv_aload_nN hx hb d_A_give_7 rfl (lv_at hl 0 rfl) ?_
    refine lv_ifnullN (tgt := 16) hx hb d_A_give_8 (by decide) ?_
    rw [yo_give_n e]
    exact ye_v hI () trivial hw d_A_give_16
  | some c =>
    have hc := hi.2.2.2.2.2.1 i j c e
    have h9 : (9, y, c) ∈ LL := hL _ ⟨hy, hc.2.2⟩
    have h10 : (10, y, c) ∈ LL := hL _ ⟨hy, hc.2.2⟩
    obtain ⟨b1, b2, b3, b4⟩ := hi.2.2.2.1 c
    refine lv_aload_n hx hb d_A_give_0 rfl (lv_at hl 0 rfl) ?_
    refine yr_get (C := R_A) (T := F_A) (N := 8) (ci := k_A) hx hb ht j_A hown hK.1 hw (by assumption) (by rfl) rfl 4 (by decide) (ht _ mf_A_27) (fun _ h9 => h9) (by rfl) d_A_give_1 ?_
    refine lv_iload_n hx hb d_A_give_4 rfl (lv_at hl 1 rfl) ?_
    refine yr_aldq (v := .ref (ad (9, y, c))) hx hb hK.1 hw (by assumption) (by rfl) 2 rfl (vp_in_nI (by omega) (by omega)) (by rw [nI_clamp (by omega)]; show va_rf ((s_oc σ y i j).map _) = _; rw [e]; rfl) d_A_give_5 ?_
    refine lv_astore_n (lv' := [(3, .ref _), (0, .ref _), (1, .int _), (2, .int _)]) hx hb d_A_give_6 rfl hl (by decide) rfl (fun ls hl => ?_)
    refine lv_aload_n hx hb d_A_give_7 rfl (lv_at hl 0 rfl) ?_
    refine lv_ifnull hx hb d_A_give_8 ?_
    refine lv_aload_n hx hb d_A_give_11 rfl (lv_at hl 0 rfl) ?_
    refine lv_iload_n hx hb d_A_give_12 rfl (lv_at hl 3 rfl) ?_
    refine yc_v (va_runV (As := [.int _]) (rest := []) ⟨hx, hb, hml, hown, hts⟩ (c_C_put l D cc ad LL X b0 _ σ y c h9 h10 ⟨by omega, by omega, by omega⟩ v) (cwV 1 hts (yg_call mc_C_put ml_A_90 mm_C_put ms_C_put mi_C) rfl rfl rfl (by decide +kernel) ⟨Nat.le_of_ble_eq_true rfl, Nat.le_of_ble_eq_true rfl⟩) (y_preV hI hw (y_recv hK.1 hw h9 (by rfl) rfl)) rfl rfl hl.1 rfl (lv_room (Nat.le_of_ble_eq_true rfl)) d_A_give_13 ⟨Nat.le_of_ble_eq_true rfl, Nat.le_of_ble_eq_true rfl⟩) hw hA (fun u H locs he hw => ?_)
    rw [yo_give_s e]
    exact ye_v hI () trivial hw d_A_give_16
set_option maxHeartbeats 4000000 in
set_option maxRecDepth 100000 in
/-- isZero, where a value waits -/
theorem c_A_isZero (l : Launch) (D : va_G) (cc : ClassId × ClassId × ClassId) (ad : yl → Nat) (LL : List yl) (X : va_W) (b0 sz : Nat) (σ : ys) (hL : ∀ q, yL σ q → q ∈ LL) (y i : Nat) (hy : y < 2) (hn : i < s_n σ y) (hi : yI σ y) (j : Nat) (hj : j < 2) (c : Nat) (e : s_ic σ y i j = some c) (hp : 0 < (s_ch σ y c).2.2) : Met l y_A_isZero w_A_isZero ({ frames := 1, cells := 0, slots := 0, locals := 21 }) (yPr D cc b0 [.ref (ad (5, y, i)), .int (nI j)] (yW cc ad LL X σ) sz) (yQi D (yW cc ad LL X σ) sz (yb (decide (yp_hd (s_T σ y) (s_D σ y) i j = some 0))) (yW cc ad LL X σ)) 0 0 (va_A (yW cc ad LL X σ) sz) := by
  have h5 : (5, y, i) ∈ LL := hL _ ⟨hy, hn⟩
  have h6 : (6, y, i) ∈ LL := hL _ ⟨hy, hn⟩
  have h7 : (7, y, i) ∈ LL := hL _ ⟨hy, hn⟩
  have h8 : (8, y, i) ∈ LL := hL _ ⟨hy, hn⟩
  obtain ⟨a1, a2, a3, a4, a5⟩ := hi.2.2.1 i
  refine y_ofW (cc := b_A_isZero) (maxL := 3) (ret := (some .boolean)) (by decide) rfl (Nat.le_of_ble_eq_true rfl) ?_
  intro pv ev sv mv bv tv cv ls hI hsz hw hl
  obtain ⟨hx, hb, hr, hml, hts, hown, hlocks, hnm, hK, hAb, hb0, hA⟩ := id hI
  have ht : ∀ w ∈ lg_tbl, w.before _ sv = true := fun w h => hts w (List.mem_cons_of_mem _ h)
  have hl : lv_has ls 3 [(0, .ref (ad (5, y, i))), (1, .int (nI j))] := hl
  have hc := hi.2.2.2.2.1 i j c e
  have h9 : (9, y, c) ∈ LL := hL _ ⟨hy, hc.2.2⟩
  have h10 : (10, y, c) ∈ LL := hL _ ⟨hy, hc.2.2⟩
  obtain ⟨b1, b2, b3, b4⟩ := hi.2.2.2.1 c
  refine lv_aload_n hx hb d_A_isZero_0 rfl (lv_at hl 0 rfl) ?_
  refine yr_get (C := R_A) (T := F_A) (N := 8) (ci := k_A) hx hb ht j_A hown hK.1 hw (by assumption) (by rfl) rfl 3 (by decide) (ht _ mf_A_23) (fun _ h9 => h9) (by rfl) d_A_isZero_1 ?_
  refine lv_iload_n hx hb d_A_isZero_4 rfl (lv_at hl 1 rfl) ?_
  refine yr_aldq (v := .ref (ad (9, y, c))) hx hb hK.1 hw (by assumption) (by rfl) 2 rfl (vp_in_nI (by omega) (by omega)) (by rw [nI_clamp (by omega)]; show va_rf ((s_ic σ y i j).map _) = _; rw [e]; rfl) d_A_isZero_5 ?_
  refine lv_astore_n (lv' := [(2, .ref _), (0, .ref _), (1, .int _)]) hx hb d_A_isZero_6 rfl hl (by decide) rfl (fun ls hl => ?_)
  refine lv_aload_n hx hb d_A_isZero_7 rfl (lv_at hl 0 rfl) ?_
  refine lv_ifnull hx hb d_A_isZero_8 ?_
  refine lv_aload_n hx hb d_A_isZero_11 rfl (lv_at hl 0 rfl) ?_
  refine lv_iconst (v := (nI 0)) hx hb d_A_isZero_12 (by decide) ?_
  refine yc_i (va_runV (As := [.int _]) (rest := []) ⟨hx, hb, hml, hown, hts⟩ (c_C_peek l D cc ad LL X b0 _ σ y c h9 h10 ⟨by omega, by omega, by omega⟩ 0 (by omega)) (cwV 1 hts (yg_call mc_C_peek ml_A_81 mm_C_peek ms_C_peek mi_C) rfl rfl rfl (by decide +kernel) ⟨Nat.le_of_ble_eq_true rfl, Nat.le_of_ble_eq_true rfl⟩) (y_preV hI hw (y_recv hK.1 hw h9 (by rfl) rfl)) rfl rfl hl.1 rfl (lv_room (Nat.le_of_ble_eq_true rfl)) d_A_isZero_13 ⟨Nat.le_of_ble_eq_true rfl, Nat.le_of_ble_eq_true rfl⟩) hw hA (fun r u H locs he hw => ?_)
  subst he
  refine lv_if_ne (tgt := 23) hx hb d_A_isZero_16 (by decide) (fun c_16 => ?_) (fun c_16 => ?_)
  · refine lv_iconst (v := 0) hx hb d_A_isZero_23 (by decide) ?_
    exact ye_z hI (by decide) () (by rw [yh_head e hp]; simp_all [yb]) hw d_A_isZero_24
  · refine lv_iconst (v := 1) hx hb d_A_isZero_19 (by decide) ?_
    refine lv_goto (tgt := 24) hx hb d_A_isZero_20 (by decide) ?_
    exact ye_z hI (by decide) () (by rw [yh_head e hp]; simp_all [yb]) hw d_A_isZero_24
set_option maxHeartbeats 4000000 in
set_option maxRecDepth 100000 in
/-- take, where a value waits -/
theorem c_A_take (l : Launch) (D : va_G) (cc : ClassId × ClassId × ClassId) (ad : yl → Nat) (LL : List yl) (X : va_W) (b0 sz : Nat) (σ : ys) (hL : ∀ q, yL σ q → q ∈ LL) (y i : Nat) (hy : y < 2) (hn : i < s_n σ y) (hi : yI σ y) (j : Nat) (hj : j < 2) (c : Nat) (e : s_ic σ y i j = some c) (hp : 0 < (s_ch σ y c).2.2) : Met l y_A_take w_A_take ({ frames := 1, cells := 0, slots := 0, locals := 21 }) (yPr D cc b0 [.ref (ad (5, y, i)), .int (nI j)] (yW cc ad LL X σ) sz) (yQi D (yW cc ad LL X σ) sz (s_rg σ y c ((s_ch σ y c).2.1 % 8)) (yW cc ad LL X (yo_take σ y c))) 0 0 (va_A (yW cc ad LL X σ) sz) := by
  have h5 : (5, y, i) ∈ LL := hL _ ⟨hy, hn⟩
  have h6 : (6, y, i) ∈ LL := hL _ ⟨hy, hn⟩
  have h7 : (7, y, i) ∈ LL := hL _ ⟨hy, hn⟩
  have h8 : (8, y, i) ∈ LL := hL _ ⟨hy, hn⟩
  obtain ⟨a1, a2, a3, a4, a5⟩ := hi.2.2.1 i
  refine y_ofW (cc := b_A_take) (maxL := 3) (ret := (some .int)) (by decide) rfl (Nat.le_of_ble_eq_true rfl) ?_
  intro pv ev sv mv bv tv cv ls hI hsz hw hl
  obtain ⟨hx, hb, hr, hml, hts, hown, hlocks, hnm, hK, hAb, hb0, hA⟩ := id hI
  have ht : ∀ w ∈ lg_tbl, w.before _ sv = true := fun w h => hts w (List.mem_cons_of_mem _ h)
  have hl : lv_has ls 3 [(0, .ref (ad (5, y, i))), (1, .int (nI j))] := hl
  have hc := hi.2.2.2.2.1 i j c e
  have h9 : (9, y, c) ∈ LL := hL _ ⟨hy, hc.2.2⟩
  have h10 : (10, y, c) ∈ LL := hL _ ⟨hy, hc.2.2⟩
  obtain ⟨b1, b2, b3, b4⟩ := hi.2.2.2.1 c
  refine lv_aload_n hx hb d_A_take_0 rfl (lv_at hl 0 rfl) ?_
  refine yr_get (C := R_A) (T := F_A) (N := 8) (ci := k_A) hx hb ht j_A hown hK.1 hw (by assumption) (by rfl) rfl 3 (by decide) (ht _ mf_A_23) (fun _ h9 => h9) (by rfl) d_A_take_1 ?_
  refine lv_iload_n hx hb d_A_take_4 rfl (lv_at hl 1 rfl) ?_
  refine yr_aldq (v := .ref (ad (9, y, c))) hx hb hK.1 hw (by assumption) (by rfl) 2 rfl (vp_in_nI (by omega) (by omega)) (by rw [nI_clamp (by omega)]; show va_rf ((s_ic σ y i j).map _) = _; rw [e]; rfl) d_A_take_5 ?_
  refine lv_astore_n (lv' := [(2, .ref _), (0, .ref _), (1, .int _)]) hx hb d_A_take_6 rfl hl (by decide) rfl (fun ls hl => ?_)
  refine lv_aload_n hx hb d_A_take_7 rfl (lv_at hl 0 rfl) ?_
  refine lv_ifnonnull (tgt := 15) hx hb d_A_take_8 (by decide) ?_
  refine lv_aload_n hx hb d_A_take_15 rfl (lv_at hl 0 rfl) ?_
  refine yc_i (va_runV (As := []) (rest := []) ⟨hx, hb, hml, hown, hts⟩ (c_C_take l D cc ad LL X b0 _ σ y c h9 h10 ⟨by omega, by omega, by omega⟩ hp) (cwV 0 hts (yg_call mc_C_take ml_A_88 mm_C_take ms_C_take mi_C) rfl rfl rfl (by decide +kernel) ⟨Nat.le_of_ble_eq_true rfl, Nat.le_of_ble_eq_true rfl⟩) (y_preV hI hw (y_recv hK.1 hw h9 (by rfl) rfl)) rfl rfl hl.1 rfl (lv_room (Nat.le_of_ble_eq_true rfl)) d_A_take_16 ⟨Nat.le_of_ble_eq_true rfl, Nat.le_of_ble_eq_true rfl⟩) hw hA (fun r u H locs he hw => ?_)
  subst he
  exact ye_i hI () rfl hw d_A_take_19
end
section
/-! ACTOR: isReady -/
theorem yb_0 {b : Bool} (h : yb b = 0) : b = false := by
  cases b with
  | false => rfl
  | true => exact absurd h (by decide)
theorem yb_1 {b : Bool} (h : ¬ yb b = 0) : b = true := by
  cases b with
  | true => rfl
  | false => exact absurd rfl h
theorem ytm {σ : ys} {y i : Nat} : (s_D σ y).1 i = (s_ac σ y i).2.2.2.2 := rfl
theorem ysr_len {σ : ys} {y i : Nat} : (yp_sr (s_T σ y) i).length = (s_ac σ y i).2.2.2.1 := yrw_len _ _
theorem yh_inv {σ : ys} {y i j : Nat} (h : (yp_hd (s_T σ y) (s_D σ y) i j).isSome = true) : ∃ c, s_ic σ y i j = some c ∧ 0 < (s_ch σ y c).2.2 := by
  cases e : s_ic σ y i j with
  | none => rw [yh_none e] at h; cases h
  | some c =>
    refine ⟨c, rfl, ?_⟩
    rcases Nat.eq_zero_or_pos (s_ch σ y c).2.2 with h0 | h0
    · rw [yh_some0 e (by omega)] at h; cases h
    · exact h0
set_option maxHeartbeats 4000000 in
set_option maxRecDepth 100000 in
/-- isReady: whether it can act -/
theorem c_A_isReady (l : Launch) (D : va_G) (cc : ClassId × ClassId × ClassId) (ad : yl → Nat) (LL : List yl) (X : va_W) (b0 sz : Nat) (σ : ys) (hL : ∀ q, yL σ q → q ∈ LL) (y i : Nat) (hy : y < 2) (hn : i < s_n σ y) (hi : yI σ y) : Met l y_A_isReady w_A_isReady ({ frames := 2, cells := 0, slots := 0, locals := 43 }) (yPr D cc b0 [.ref (ad (5, y, i))] (yW cc ad LL X σ) sz) (yQi D (yW cc ad LL X σ) sz (yb (yp_canb (s_T σ y) (s_D σ y) i)) (yW cc ad LL X σ)) 0 0 (va_A (yW cc ad LL X σ) sz) := by
  have h5 : (5, y, i) ∈ LL := hL _ ⟨hy, hn⟩
  have h6 : (6, y, i) ∈ LL := hL _ ⟨hy, hn⟩
  have h7 : (7, y, i) ∈ LL := hL _ ⟨hy, hn⟩
  have h8 : (8, y, i) ∈ LL := hL _ ⟨hy, hn⟩
  obtain ⟨a1, a2, a3, a4, a5⟩ := hi.2.2.1 i
  refine y_ofW (cc := b_A_isReady) (maxL := 1) (ret := (some .boolean)) (by decide) rfl (Nat.le_of_ble_eq_true rfl) ?_
  intro pv ev sv mv bv tv cv ls hI hsz hw hl
  obtain ⟨hx, hb, hr, hml, hts, hown, hlocks, hnm, hK, hAb, hb0, hA⟩ := id hI
  have ht : ∀ w ∈ lg_tbl, w.before _ sv = true := fun w h => hts w (List.mem_cons_of_mem _ h)
  have hl : lv_has ls 1 [(0, .ref (ad (5, y, i)))] := hl
  by_cases h100 : (s_ac σ y i).2.2.2.2 < 100
  · have h101 : ¬ 100 ≤ (s_D σ y).1 i := by show ¬ 100 ≤ (s_ac σ y i).2.2.2.2; omega
    have hks : (s_ac σ y i).1 = 0 ∨ (s_ac σ y i).1 = 1 ∨ (s_ac σ y i).1 = 2 ∨ (s_ac σ y i).1 = 3 ∨ (s_ac σ y i).1 = 4 ∨ (s_ac σ y i).1 = 5 ∨ (s_ac σ y i).1 = 6 ∨ (s_ac σ y i).1 = 7 ∨ (s_ac σ y i).1 = 8 := by omega
    rcases hks with hk | hk | hk | hk | hk | hk | hk | hk | hk
    · refine lv_aload_n hx hb d_A_isReady_0 rfl (lv_at hl 0 rfl) ?_
      refine yr_get (C := R_A) (T := F_A) (N := 8) (ci := k_A) hx hb ht j_A hown hK.1 hw (by assumption) (by rfl) rfl 7 (by decide) (ht _ mf_A_40) (fun _ h9 => h9) (by rfl) d_A_isReady_1 ?_
      refine lv_bipush (v := (nI 100)) hx hb d_A_isReady_4 (by decide) ?_
      refine lv_icmp_lt (tgt := 11) hx hb d_A_isReady_6 (by decide) (fun c_6 => ?_) (fun c_6 => by exact absurd ((nI_ltI (by omega) (by omega)).mpr h100) c_6)
      refine lv_aload_n hx hb d_A_isReady_11 rfl (lv_at hl 0 rfl) ?_
      refine yr_get (C := R_A) (T := F_A) (N := 8) (ci := k_A) hx hb ht j_A hown hK.1 hw (by assumption) (by rfl) rfl 0 (by decide) (ht _ mf_A_9) (fun _ h9 => h9) (by rfl) d_A_isReady_12 ?_
      rw [hk]
      refine lv_tableIn (off := 49) (tgt := 64) hx hb d_A_isReady_15 (by decide +kernel) (by decide +kernel) (by decide +kernel) (by decide) ?_
      refine lv_aload_n hx hb d_A_isReady_64 rfl (lv_at hl 0 rfl) ?_
      refine yr_get (C := R_A) (T := F_A) (N := 8) (ci := k_A) hx hb ht j_A hown hK.1 hw (by assumption) (by rfl) rfl 7 (by decide) (ht _ mf_A_40) (fun _ h9 => h9) (by rfl) d_A_isReady_65 ?_
      refine lv_aload_n hx hb d_A_isReady_68 rfl (lv_at hl 0 rfl) ?_
      refine yr_get (C := R_A) (T := F_A) (N := 8) (ci := k_A) hx hb ht j_A hown hK.1 hw (by assumption) (by rfl) rfl 6 (by decide) (ht _ mf_A_37) (fun _ h9 => h9) (by rfl) d_A_isReady_69 ?_
      refine lv_icmp_ge (tgt := 87) hx hb d_A_isReady_72 (by decide) (fun c_72 => ?_) (fun c_72 => ?_)
      · have e_72 : ¬ (s_ac σ y i).2.2.2.2 < (s_ac σ y i).2.2.2.1 := by
          have := (nI_leI (by omega) (by omega)).mp c_72
          omega
        refine lv_iconst (v := 0) hx hb d_A_isReady_87 (by decide) ?_
        exact ye_z hI (by decide) () (by rw [yp_can0 (T := s_T σ y) h101 hk]; simp [yb, ytm, ysr_len, e_72]) hw d_A_isReady_88
      · have e_72 : (s_ac σ y i).2.2.2.2 < (s_ac σ y i).2.2.2.1 := by
          rcases Nat.lt_or_ge (s_ac σ y i).2.2.2.2 (s_ac σ y i).2.2.2.1 with h | h
          · exact h
          · exact absurd ((nI_leI (by omega) (by omega)).mpr h) c_72
        refine lv_aload_n hx hb d_A_isReady_75 rfl (lv_at hl 0 rfl) ?_
        refine lv_iconst (v := (nI 0)) hx hb d_A_isReady_76 (by decide) ?_
        refine yc_i (va_runV (As := [.int _]) (rest := []) ⟨hx, hb, hml, hown, hts⟩ (c_A_hasRoom l D cc ad LL X b0 _ σ hL y i hy hn hi 0 (by omega)) (cwV 1 hts (yg_call mc_A_hasRoom ml_A_49 mm_A_hasRoom ms_A_hasRoom mi_A) rfl rfl rfl (by decide +kernel) ⟨Nat.le_of_ble_eq_true rfl, Nat.le_of_ble_eq_true rfl⟩) (y_preV hI hw (y_recv hK.1 hw h5 (by rfl) rfl)) rfl rfl hl.1 rfl (lv_room (Nat.le_of_ble_eq_true rfl)) d_A_isReady_77 ⟨Nat.le_of_ble_eq_true rfl, Nat.le_of_ble_eq_true rfl⟩) hw hA (fun r u H locs he hw => ?_)
        subst he
        refine lv_if_eq (tgt := 87) hx hb d_A_isReady_80 (by decide) (fun c_80 => ?_) (fun c_80 => ?_)
        · have e_80 := yb_0 c_80
          refine lv_iconst (v := 0) hx hb d_A_isReady_87 (by decide) ?_
          exact ye_z hI (by decide) () (by rw [yp_can0 (T := s_T σ y) h101 hk]; simp [yb, ytm, ysr_len, e_72, e_80]) hw d_A_isReady_88
        · have e_80 := yb_1 c_80
          refine lv_iconst (v := 1) hx hb d_A_isReady_83 (by decide) ?_
          refine lv_goto (tgt := 88) hx hb d_A_isReady_84 (by decide) ?_
          exact ye_z hI (by decide) () (by rw [yp_can0 (T := s_T σ y) h101 hk]; simp [yb, ytm, ysr_len, e_72, e_80]) hw d_A_isReady_88
    · refine lv_aload_n hx hb d_A_isReady_0 rfl (lv_at hl 0 rfl) ?_
      refine yr_get (C := R_A) (T := F_A) (N := 8) (ci := k_A) hx hb ht j_A hown hK.1 hw (by assumption) (by rfl) rfl 7 (by decide) (ht _ mf_A_40) (fun _ h9 => h9) (by rfl) d_A_isReady_1 ?_
      refine lv_bipush (v := (nI 100)) hx hb d_A_isReady_4 (by decide) ?_
      refine lv_icmp_lt (tgt := 11) hx hb d_A_isReady_6 (by decide) (fun c_6 => ?_) (fun c_6 => by exact absurd ((nI_ltI (by omega) (by omega)).mpr h100) c_6)
      refine lv_aload_n hx hb d_A_isReady_11 rfl (lv_at hl 0 rfl) ?_
      refine yr_get (C := R_A) (T := F_A) (N := 8) (ci := k_A) hx hb ht j_A hown hK.1 hw (by assumption) (by rfl) rfl 0 (by decide) (ht _ mf_A_9) (fun _ h9 => h9) (by rfl) d_A_isReady_12 ?_
      rw [hk]
      refine lv_tableIn (off := 74) (tgt := 89) hx hb d_A_isReady_15 (by decide +kernel) (by decide +kernel) (by decide +kernel) (by decide) ?_
      refine lv_aload_n hx hb d_A_isReady_89 rfl (lv_at hl 0 rfl) ?_
      refine lv_iconst (v := (nI 0)) hx hb d_A_isReady_90 (by decide) ?_
      refine yc_i (va_runV (As := [.int _]) (rest := []) ⟨hx, hb, hml, hown, hts⟩ (c_A_hasValue l D cc ad LL X b0 _ σ hL y i hy hn hi 0 (by omega)) (cwV 1 hts (yg_call mc_A_hasValue ml_A_53 mm_A_hasValue ms_A_hasValue mi_A) rfl rfl rfl (by decide +kernel) ⟨Nat.le_of_ble_eq_true rfl, Nat.le_of_ble_eq_true rfl⟩) (y_preV hI hw (y_recv hK.1 hw h5 (by rfl) rfl)) rfl rfl hl.1 rfl (lv_room (Nat.le_of_ble_eq_true rfl)) d_A_isReady_91 ⟨Nat.le_of_ble_eq_true rfl, Nat.le_of_ble_eq_true rfl⟩) hw hA (fun r u H locs he hw => ?_)
      subst he
      refine lv_if_eq (tgt := 109) hx hb d_A_isReady_94 (by decide) (fun c_94 => ?_) (fun c_94 => ?_)
      · have e_94 := yb_0 c_94
        refine lv_iconst (v := 0) hx hb d_A_isReady_109 (by decide) ?_
        exact ye_z hI (by decide) () (by rw [yp_can1 (T := s_T σ y) h101 hk]; simp [yb, ytm, ysr_len, e_94]) hw d_A_isReady_110
      · have e_94 := yb_1 c_94
        refine lv_aload_n hx hb d_A_isReady_97 rfl (lv_at hl 0 rfl) ?_
        refine lv_iconst (v := (nI 0)) hx hb d_A_isReady_98 (by decide) ?_
        refine yc_i (va_runV (As := [.int _]) (rest := []) ⟨hx, hb, hml, hown, hts⟩ (c_A_hasRoom l D cc ad LL X b0 _ σ hL y i hy hn hi 0 (by omega)) (cwV 1 hts (yg_call mc_A_hasRoom ml_A_49 mm_A_hasRoom ms_A_hasRoom mi_A) rfl rfl rfl (by decide +kernel) ⟨Nat.le_of_ble_eq_true rfl, Nat.le_of_ble_eq_true rfl⟩) (y_preV hI hw (y_recv hK.1 hw h5 (by rfl) rfl)) rfl rfl hl.1 rfl (lv_room (Nat.le_of_ble_eq_true rfl)) d_A_isReady_99 ⟨Nat.le_of_ble_eq_true rfl, Nat.le_of_ble_eq_true rfl⟩) hw hA (fun r u H locs he hw => ?_)
        subst he
        refine lv_if_eq (tgt := 109) hx hb d_A_isReady_102 (by decide) (fun c_102 => ?_) (fun c_102 => ?_)
        · have e_102 := yb_0 c_102
          refine lv_iconst (v := 0) hx hb d_A_isReady_109 (by decide) ?_
          exact ye_z hI (by decide) () (by rw [yp_can1 (T := s_T σ y) h101 hk]; simp [yb, ytm, ysr_len, e_94, e_102]) hw d_A_isReady_110
        · have e_102 := yb_1 c_102
          refine lv_iconst (v := 1) hx hb d_A_isReady_105 (by decide) ?_
          refine lv_goto (tgt := 110) hx hb d_A_isReady_106 (by decide) ?_
          exact ye_z hI (by decide) () (by rw [yp_can1 (T := s_T σ y) h101 hk]; simp [yb, ytm, ysr_len, e_94, e_102]) hw d_A_isReady_110
    · refine lv_aload_n hx hb d_A_isReady_0 rfl (lv_at hl 0 rfl) ?_
      refine yr_get (C := R_A) (T := F_A) (N := 8) (ci := k_A) hx hb ht j_A hown hK.1 hw (by assumption) (by rfl) rfl 7 (by decide) (ht _ mf_A_40) (fun _ h9 => h9) (by rfl) d_A_isReady_1 ?_
      refine lv_bipush (v := (nI 100)) hx hb d_A_isReady_4 (by decide) ?_
      refine lv_icmp_lt (tgt := 11) hx hb d_A_isReady_6 (by decide) (fun c_6 => ?_) (fun c_6 => by exact absurd ((nI_ltI (by omega) (by omega)).mpr h100) c_6)
      refine lv_aload_n hx hb d_A_isReady_11 rfl (lv_at hl 0 rfl) ?_
      refine yr_get (C := R_A) (T := F_A) (N := 8) (ci := k_A) hx hb ht j_A hown hK.1 hw (by assumption) (by rfl) rfl 0 (by decide) (ht _ mf_A_9) (fun _ h9 => h9) (by rfl) d_A_isReady_12 ?_
      rw [hk]
      refine lv_tableIn (off := 96) (tgt := 111) hx hb d_A_isReady_15 (by decide +kernel) (by decide +kernel) (by decide +kernel) (by decide) ?_
      refine lv_aload_n hx hb d_A_isReady_111 rfl (lv_at hl 0 rfl) ?_
      refine lv_iconst (v := (nI 0)) hx hb d_A_isReady_112 (by decide) ?_
      refine yc_i (va_runV (As := [.int _]) (rest := []) ⟨hx, hb, hml, hown, hts⟩ (c_A_hasValue l D cc ad LL X b0 _ σ hL y i hy hn hi 0 (by omega)) (cwV 1 hts (yg_call mc_A_hasValue ml_A_53 mm_A_hasValue ms_A_hasValue mi_A) rfl rfl rfl (by decide +kernel) ⟨Nat.le_of_ble_eq_true rfl, Nat.le_of_ble_eq_true rfl⟩) (y_preV hI hw (y_recv hK.1 hw h5 (by rfl) rfl)) rfl rfl hl.1 rfl (lv_room (Nat.le_of_ble_eq_true rfl)) d_A_isReady_113 ⟨Nat.le_of_ble_eq_true rfl, Nat.le_of_ble_eq_true rfl⟩) hw hA (fun r u H locs he hw => ?_)
      subst he
      refine lv_if_eq (tgt := 134) hx hb d_A_isReady_116 (by decide) (fun c_116 => ?_) (fun c_116 => ?_)
      · have e_116 := yb_0 c_116
        refine lv_iconst (v := 0) hx hb d_A_isReady_134 (by decide) ?_
        exact ye_z hI (by decide) () (by rw [yp_can2 (T := s_T σ y) h101 hk]; simp [yb, ytm, ysr_len, e_116]) hw d_A_isReady_135
      · have e_116 := yb_1 c_116
        refine lv_aload_n hx hb d_A_isReady_119 rfl (lv_at hl 0 rfl) ?_
        refine lv_aload_n hx hb d_A_isReady_120 rfl (lv_at hl 0 rfl) ?_
        refine yc_i (va_runV (As := []) (rest := [.ref _]) ⟨hx, hb, hml, hown, hts⟩ (c_A_turn l D cc ad LL X b0 _ σ hL y i hy hn hi) (cwV 0 hts (yg_call mc_A_turn ml_A_56 mm_A_turn ms_A_turn mi_A) rfl rfl rfl (by decide +kernel) ⟨Nat.le_of_ble_eq_true rfl, Nat.le_of_ble_eq_true rfl⟩) (y_preV hI hw (y_recv hK.1 hw h5 (by rfl) rfl)) rfl rfl hl.1 rfl (lv_room (Nat.le_of_ble_eq_true rfl)) d_A_isReady_121 ⟨Nat.le_of_ble_eq_true rfl, Nat.le_of_ble_eq_true rfl⟩) hw hA (fun r u H locs he hw => ?_)
        subst he
        refine yc_i (va_runV (As := [.int _]) (rest := []) ⟨hx, hb, hml, hown, hts⟩ (c_A_hasRoom l D cc ad LL X b0 _ σ hL y i hy hn hi ((s_ac σ y i).2.2.2.2 % 2) (Nat.mod_lt _ (by omega))) (cwV 1 hts (yg_call mc_A_hasRoom ml_A_49 mm_A_hasRoom ms_A_hasRoom mi_A) rfl rfl rfl (by decide +kernel) ⟨Nat.le_of_ble_eq_true rfl, Nat.le_of_ble_eq_true rfl⟩) (y_preV hI hw (y_recv hK.1 hw h5 (by rfl) rfl)) rfl rfl hl.1 rfl (lv_room (Nat.le_of_ble_eq_true rfl)) d_A_isReady_124 ⟨Nat.le_of_ble_eq_true rfl, Nat.le_of_ble_eq_true rfl⟩) hw hA (fun r u H locs he hw => ?_)
        subst he
        refine lv_if_eq (tgt := 134) hx hb d_A_isReady_127 (by decide) (fun c_127 => ?_) (fun c_127 => ?_)
        · have e_127 := yb_0 c_127
          refine lv_iconst (v := 0) hx hb d_A_isReady_134 (by decide) ?_
          exact ye_z hI (by decide) () (by rw [yp_can2 (T := s_T σ y) h101 hk]; simp [yb, ytm, ysr_len, e_116, e_127]) hw d_A_isReady_135
        · have e_127 := yb_1 c_127
          refine lv_iconst (v := 1) hx hb d_A_isReady_130 (by decide) ?_
          refine lv_goto (tgt := 135) hx hb d_A_isReady_131 (by decide) ?_
          exact ye_z hI (by decide) () (by rw [yp_can2 (T := s_T σ y) h101 hk]; simp [yb, ytm, ysr_len, e_116, e_127]) hw d_A_isReady_135
    · refine lv_aload_n hx hb d_A_isReady_0 rfl (lv_at hl 0 rfl) ?_
      refine yr_get (C := R_A) (T := F_A) (N := 8) (ci := k_A) hx hb ht j_A hown hK.1 hw (by assumption) (by rfl) rfl 7 (by decide) (ht _ mf_A_40) (fun _ h9 => h9) (by rfl) d_A_isReady_1 ?_
      refine lv_bipush (v := (nI 100)) hx hb d_A_isReady_4 (by decide) ?_
      refine lv_icmp_lt (tgt := 11) hx hb d_A_isReady_6 (by decide) (fun c_6 => ?_) (fun c_6 => by exact absurd ((nI_ltI (by omega) (by omega)).mpr h100) c_6)
      refine lv_aload_n hx hb d_A_isReady_11 rfl (lv_at hl 0 rfl) ?_
      refine yr_get (C := R_A) (T := F_A) (N := 8) (ci := k_A) hx hb ht j_A hown hK.1 hw (by assumption) (by rfl) rfl 0 (by decide) (ht _ mf_A_9) (fun _ h9 => h9) (by rfl) d_A_isReady_12 ?_
      rw [hk]
      refine lv_tableIn (off := 121) (tgt := 136) hx hb d_A_isReady_15 (by decide +kernel) (by decide +kernel) (by decide +kernel) (by decide) ?_
      refine lv_aload_n hx hb d_A_isReady_136 rfl (lv_at hl 0 rfl) ?_
      refine lv_aload_n hx hb d_A_isReady_137 rfl (lv_at hl 0 rfl) ?_
      refine yc_i (va_runV (As := []) (rest := [.ref _]) ⟨hx, hb, hml, hown, hts⟩ (c_A_turn l D cc ad LL X b0 _ σ hL y i hy hn hi) (cwV 0 hts (yg_call mc_A_turn ml_A_56 mm_A_turn ms_A_turn mi_A) rfl rfl rfl (by decide +kernel) ⟨Nat.le_of_ble_eq_true rfl, Nat.le_of_ble_eq_true rfl⟩) (y_preV hI hw (y_recv hK.1 hw h5 (by rfl) rfl)) rfl rfl hl.1 rfl (lv_room (Nat.le_of_ble_eq_true rfl)) d_A_isReady_138 ⟨Nat.le_of_ble_eq_true rfl, Nat.le_of_ble_eq_true rfl⟩) hw hA (fun r u H locs he hw => ?_)
      subst he
      refine yc_i (va_runV (As := [.int _]) (rest := []) ⟨hx, hb, hml, hown, hts⟩ (c_A_hasValue l D cc ad LL X b0 _ σ hL y i hy hn hi ((s_ac σ y i).2.2.2.2 % 2) (Nat.mod_lt _ (by omega))) (cwV 1 hts (yg_call mc_A_hasValue ml_A_53 mm_A_hasValue ms_A_hasValue mi_A) rfl rfl rfl (by decide +kernel) ⟨Nat.le_of_ble_eq_true rfl, Nat.le_of_ble_eq_true rfl⟩) (y_preV hI hw (y_recv hK.1 hw h5 (by rfl) rfl)) rfl rfl hl.1 rfl (lv_room (Nat.le_of_ble_eq_true rfl)) d_A_isReady_141 ⟨Nat.le_of_ble_eq_true rfl, Nat.le_of_ble_eq_true rfl⟩) hw hA (fun r u H locs he hw => ?_)
      subst he
      refine lv_if_eq (tgt := 159) hx hb d_A_isReady_144 (by decide) (fun c_144 => ?_) (fun c_144 => ?_)
      · have e_144 := yb_0 c_144
        refine lv_iconst (v := 0) hx hb d_A_isReady_159 (by decide) ?_
        exact ye_z hI (by decide) () (by rw [yp_can3 (T := s_T σ y) h101 hk]; simp [yb, ytm, ysr_len, e_144]) hw d_A_isReady_160
      · have e_144 := yb_1 c_144
        refine lv_aload_n hx hb d_A_isReady_147 rfl (lv_at hl 0 rfl) ?_
        refine lv_iconst (v := (nI 0)) hx hb d_A_isReady_148 (by decide) ?_
        refine yc_i (va_runV (As := [.int _]) (rest := []) ⟨hx, hb, hml, hown, hts⟩ (c_A_hasRoom l D cc ad LL X b0 _ σ hL y i hy hn hi 0 (by omega)) (cwV 1 hts (yg_call mc_A_hasRoom ml_A_49 mm_A_hasRoom ms_A_hasRoom mi_A) rfl rfl rfl (by decide +kernel) ⟨Nat.le_of_ble_eq_true rfl, Nat.le_of_ble_eq_true rfl⟩) (y_preV hI hw (y_recv hK.1 hw h5 (by rfl) rfl)) rfl rfl hl.1 rfl (lv_room (Nat.le_of_ble_eq_true rfl)) d_A_isReady_149 ⟨Nat.le_of_ble_eq_true rfl, Nat.le_of_ble_eq_true rfl⟩) hw hA (fun r u H locs he hw => ?_)
        subst he
        refine lv_if_eq (tgt := 159) hx hb d_A_isReady_152 (by decide) (fun c_152 => ?_) (fun c_152 => ?_)
        · have e_152 := yb_0 c_152
          refine lv_iconst (v := 0) hx hb d_A_isReady_159 (by decide) ?_
          exact ye_z hI (by decide) () (by rw [yp_can3 (T := s_T σ y) h101 hk]; simp [yb, ytm, ysr_len, e_144, e_152]) hw d_A_isReady_160
        · have e_152 := yb_1 c_152
          refine lv_iconst (v := 1) hx hb d_A_isReady_155 (by decide) ?_
          refine lv_goto (tgt := 160) hx hb d_A_isReady_156 (by decide) ?_
          exact ye_z hI (by decide) () (by rw [yp_can3 (T := s_T σ y) h101 hk]; simp [yb, ytm, ysr_len, e_144, e_152]) hw d_A_isReady_160
    · refine lv_aload_n hx hb d_A_isReady_0 rfl (lv_at hl 0 rfl) ?_
      refine yr_get (C := R_A) (T := F_A) (N := 8) (ci := k_A) hx hb ht j_A hown hK.1 hw (by assumption) (by rfl) rfl 7 (by decide) (ht _ mf_A_40) (fun _ h9 => h9) (by rfl) d_A_isReady_1 ?_
      refine lv_bipush (v := (nI 100)) hx hb d_A_isReady_4 (by decide) ?_
      refine lv_icmp_lt (tgt := 11) hx hb d_A_isReady_6 (by decide) (fun c_6 => ?_) (fun c_6 => by exact absurd ((nI_ltI (by omega) (by omega)).mpr h100) c_6)
      refine lv_aload_n hx hb d_A_isReady_11 rfl (lv_at hl 0 rfl) ?_
      refine yr_get (C := R_A) (T := F_A) (N := 8) (ci := k_A) hx hb ht j_A hown hK.1 hw (by assumption) (by rfl) rfl 0 (by decide) (ht _ mf_A_9) (fun _ h9 => h9) (by rfl) d_A_isReady_12 ?_
      rw [hk]
      refine lv_tableIn (off := 146) (tgt := 161) hx hb d_A_isReady_15 (by decide +kernel) (by decide +kernel) (by decide +kernel) (by decide) ?_
      refine lv_aload_n hx hb d_A_isReady_161 rfl (lv_at hl 0 rfl) ?_
      refine lv_iconst (v := (nI 0)) hx hb d_A_isReady_162 (by decide) ?_
      refine yc_i (va_runV (As := [.int _]) (rest := []) ⟨hx, hb, hml, hown, hts⟩ (c_A_hasValue l D cc ad LL X b0 _ σ hL y i hy hn hi 0 (by omega)) (cwV 1 hts (yg_call mc_A_hasValue ml_A_53 mm_A_hasValue ms_A_hasValue mi_A) rfl rfl rfl (by decide +kernel) ⟨Nat.le_of_ble_eq_true rfl, Nat.le_of_ble_eq_true rfl⟩) (y_preV hI hw (y_recv hK.1 hw h5 (by rfl) rfl)) rfl rfl hl.1 rfl (lv_room (Nat.le_of_ble_eq_true rfl)) d_A_isReady_163 ⟨Nat.le_of_ble_eq_true rfl, Nat.le_of_ble_eq_true rfl⟩) hw hA (fun r u H locs he hw => ?_)
      subst he
      refine lv_if_eq (tgt := 189) hx hb d_A_isReady_166 (by decide) (fun c_166 => ?_) (fun c_166 => ?_)
      · have e_166 := yb_0 c_166
        refine lv_iconst (v := 0) hx hb d_A_isReady_189 (by decide) ?_
        exact ye_z hI (by decide) () (by rw [yp_can4 (T := s_T σ y) h101 hk]; simp [yb, ytm, ysr_len, e_166]) hw d_A_isReady_190
      · have e_166 := yb_1 c_166
        refine lv_aload_n hx hb d_A_isReady_169 rfl (lv_at hl 0 rfl) ?_
        refine lv_iconst (v := (nI 1)) hx hb d_A_isReady_170 (by decide) ?_
        refine yc_i (va_runV (As := [.int _]) (rest := []) ⟨hx, hb, hml, hown, hts⟩ (c_A_hasValue l D cc ad LL X b0 _ σ hL y i hy hn hi 1 (by omega)) (cwV 1 hts (yg_call mc_A_hasValue ml_A_53 mm_A_hasValue ms_A_hasValue mi_A) rfl rfl rfl (by decide +kernel) ⟨Nat.le_of_ble_eq_true rfl, Nat.le_of_ble_eq_true rfl⟩) (y_preV hI hw (y_recv hK.1 hw h5 (by rfl) rfl)) rfl rfl hl.1 rfl (lv_room (Nat.le_of_ble_eq_true rfl)) d_A_isReady_171 ⟨Nat.le_of_ble_eq_true rfl, Nat.le_of_ble_eq_true rfl⟩) hw hA (fun r u H locs he hw => ?_)
        subst he
        refine lv_if_eq (tgt := 189) hx hb d_A_isReady_174 (by decide) (fun c_174 => ?_) (fun c_174 => ?_)
        · have e_174 := yb_0 c_174
          refine lv_iconst (v := 0) hx hb d_A_isReady_189 (by decide) ?_
          exact ye_z hI (by decide) () (by rw [yp_can4 (T := s_T σ y) h101 hk]; simp [yb, ytm, ysr_len, e_166, e_174]) hw d_A_isReady_190
        · have e_174 := yb_1 c_174
          refine lv_aload_n hx hb d_A_isReady_177 rfl (lv_at hl 0 rfl) ?_
          refine lv_iconst (v := (nI 0)) hx hb d_A_isReady_178 (by decide) ?_
          refine yc_i (va_runV (As := [.int _]) (rest := []) ⟨hx, hb, hml, hown, hts⟩ (c_A_hasRoom l D cc ad LL X b0 _ σ hL y i hy hn hi 0 (by omega)) (cwV 1 hts (yg_call mc_A_hasRoom ml_A_49 mm_A_hasRoom ms_A_hasRoom mi_A) rfl rfl rfl (by decide +kernel) ⟨Nat.le_of_ble_eq_true rfl, Nat.le_of_ble_eq_true rfl⟩) (y_preV hI hw (y_recv hK.1 hw h5 (by rfl) rfl)) rfl rfl hl.1 rfl (lv_room (Nat.le_of_ble_eq_true rfl)) d_A_isReady_179 ⟨Nat.le_of_ble_eq_true rfl, Nat.le_of_ble_eq_true rfl⟩) hw hA (fun r u H locs he hw => ?_)
          subst he
          refine lv_if_eq (tgt := 189) hx hb d_A_isReady_182 (by decide) (fun c_182 => ?_) (fun c_182 => ?_)
          · have e_182 := yb_0 c_182
            refine lv_iconst (v := 0) hx hb d_A_isReady_189 (by decide) ?_
            exact ye_z hI (by decide) () (by rw [yp_can4 (T := s_T σ y) h101 hk]; simp [yb, ytm, ysr_len, e_166, e_174, e_182]) hw d_A_isReady_190
          · have e_182 := yb_1 c_182
            refine lv_iconst (v := 1) hx hb d_A_isReady_185 (by decide) ?_
            refine lv_goto (tgt := 190) hx hb d_A_isReady_186 (by decide) ?_
            exact ye_z hI (by decide) () (by rw [yp_can4 (T := s_T σ y) h101 hk]; simp [yb, ytm, ysr_len, e_166, e_174, e_182]) hw d_A_isReady_190
    · refine lv_aload_n hx hb d_A_isReady_0 rfl (lv_at hl 0 rfl) ?_
      refine yr_get (C := R_A) (T := F_A) (N := 8) (ci := k_A) hx hb ht j_A hown hK.1 hw (by assumption) (by rfl) rfl 7 (by decide) (ht _ mf_A_40) (fun _ h9 => h9) (by rfl) d_A_isReady_1 ?_
      refine lv_bipush (v := (nI 100)) hx hb d_A_isReady_4 (by decide) ?_
      refine lv_icmp_lt (tgt := 11) hx hb d_A_isReady_6 (by decide) (fun c_6 => ?_) (fun c_6 => by exact absurd ((nI_ltI (by omega) (by omega)).mpr h100) c_6)
      refine lv_aload_n hx hb d_A_isReady_11 rfl (lv_at hl 0 rfl) ?_
      refine yr_get (C := R_A) (T := F_A) (N := 8) (ci := k_A) hx hb ht j_A hown hK.1 hw (by assumption) (by rfl) rfl 0 (by decide) (ht _ mf_A_9) (fun _ h9 => h9) (by rfl) d_A_isReady_12 ?_
      rw [hk]
      refine lv_tableIn (off := 176) (tgt := 191) hx hb d_A_isReady_15 (by decide +kernel) (by decide +kernel) (by decide +kernel) (by decide) ?_
      refine lv_aload_n hx hb d_A_isReady_191 rfl (lv_at hl 0 rfl) ?_
      refine yr_get (C := R_A) (T := F_A) (N := 8) (ci := k_A) hx hb ht j_A hown hK.1 hw (by assumption) (by rfl) rfl 7 (by decide) (ht _ mf_A_40) (fun _ h9 => h9) (by rfl) d_A_isReady_192 ?_
      refine lv_if_eq (tgt := 206) hx hb d_A_isReady_195 (by decide) (fun c_195 => ?_) (fun c_195 => ?_)
      · have e_195 : (s_ac σ y i).2.2.2.2 = 0 := by
          rw [← nI_0] at c_195
          exact (nI_eq (by omega) (by omega)).mp c_195
        refine lv_aload_n hx hb d_A_isReady_206 rfl (lv_at hl 0 rfl) ?_
        refine lv_iconst (v := (nI 0)) hx hb d_A_isReady_207 (by decide) ?_
        refine yc_i (va_runV (As := [.int _]) (rest := []) ⟨hx, hb, hml, hown, hts⟩ (c_A_hasRoom l D cc ad LL X b0 _ σ hL y i hy hn hi 0 (by omega)) (cwV 1 hts (yg_call mc_A_hasRoom ml_A_49 mm_A_hasRoom ms_A_hasRoom mi_A) rfl rfl rfl (by decide +kernel) ⟨Nat.le_of_ble_eq_true rfl, Nat.le_of_ble_eq_true rfl⟩) (y_preV hI hw (y_recv hK.1 hw h5 (by rfl) rfl)) rfl rfl hl.1 rfl (lv_room (Nat.le_of_ble_eq_true rfl)) d_A_isReady_208 ⟨Nat.le_of_ble_eq_true rfl, Nat.le_of_ble_eq_true rfl⟩) hw hA (fun r u H locs he hw => ?_)
        subst he
        refine lv_if_eq (tgt := 218) hx hb d_A_isReady_211 (by decide) (fun c_211 => ?_) (fun c_211 => ?_)
        · have e_211 := yb_0 c_211
          refine lv_iconst (v := 0) hx hb d_A_isReady_218 (by decide) ?_
          exact ye_z hI (by decide) () (by rw [yp_can5 (T := s_T σ y) h101 hk]; simp [yb, ytm, ysr_len, e_195, e_211]) hw d_A_isReady_219
        · have e_211 := yb_1 c_211
          refine lv_iconst (v := 1) hx hb d_A_isReady_214 (by decide) ?_
          refine lv_goto (tgt := 219) hx hb d_A_isReady_215 (by decide) ?_
          exact ye_z hI (by decide) () (by rw [yp_can5 (T := s_T σ y) h101 hk]; simp [yb, ytm, ysr_len, e_195, e_211]) hw d_A_isReady_219
      · have e_195 : ¬ (s_ac σ y i).2.2.2.2 = 0 := fun h => c_195 (by rw [h]; rfl)
        refine lv_aload_n hx hb d_A_isReady_198 rfl (lv_at hl 0 rfl) ?_
        refine lv_iconst (v := (nI 0)) hx hb d_A_isReady_199 (by decide) ?_
        refine yc_i (va_runV (As := [.int _]) (rest := []) ⟨hx, hb, hml, hown, hts⟩ (c_A_hasValue l D cc ad LL X b0 _ σ hL y i hy hn hi 0 (by omega)) (cwV 1 hts (yg_call mc_A_hasValue ml_A_53 mm_A_hasValue ms_A_hasValue mi_A) rfl rfl rfl (by decide +kernel) ⟨Nat.le_of_ble_eq_true rfl, Nat.le_of_ble_eq_true rfl⟩) (y_preV hI hw (y_recv hK.1 hw h5 (by rfl) rfl)) rfl rfl hl.1 rfl (lv_room (Nat.le_of_ble_eq_true rfl)) d_A_isReady_200 ⟨Nat.le_of_ble_eq_true rfl, Nat.le_of_ble_eq_true rfl⟩) hw hA (fun r u H locs he hw => ?_)
        subst he
        refine lv_if_eq (tgt := 218) hx hb d_A_isReady_203 (by decide) (fun c_203 => ?_) (fun c_203 => ?_)
        · have e_203 := yb_0 c_203
          refine lv_iconst (v := 0) hx hb d_A_isReady_218 (by decide) ?_
          exact ye_z hI (by decide) () (by rw [yp_can5 (T := s_T σ y) h101 hk]; simp [yb, ytm, ysr_len, e_195, e_203]) hw d_A_isReady_219
        · have e_203 := yb_1 c_203
          refine lv_aload_n hx hb d_A_isReady_206 rfl (lv_at hl 0 rfl) ?_
          refine lv_iconst (v := (nI 0)) hx hb d_A_isReady_207 (by decide) ?_
          refine yc_i (va_runV (As := [.int _]) (rest := []) ⟨hx, hb, hml, hown, hts⟩ (c_A_hasRoom l D cc ad LL X b0 _ σ hL y i hy hn hi 0 (by omega)) (cwV 1 hts (yg_call mc_A_hasRoom ml_A_49 mm_A_hasRoom ms_A_hasRoom mi_A) rfl rfl rfl (by decide +kernel) ⟨Nat.le_of_ble_eq_true rfl, Nat.le_of_ble_eq_true rfl⟩) (y_preV hI hw (y_recv hK.1 hw h5 (by rfl) rfl)) rfl rfl hl.1 rfl (lv_room (Nat.le_of_ble_eq_true rfl)) d_A_isReady_208 ⟨Nat.le_of_ble_eq_true rfl, Nat.le_of_ble_eq_true rfl⟩) hw hA (fun r u H locs he hw => ?_)
          subst he
          refine lv_if_eq (tgt := 218) hx hb d_A_isReady_211 (by decide) (fun c_211 => ?_) (fun c_211 => ?_)
          · have e_211 := yb_0 c_211
            refine lv_iconst (v := 0) hx hb d_A_isReady_218 (by decide) ?_
            exact ye_z hI (by decide) () (by rw [yp_can5 (T := s_T σ y) h101 hk]; simp [yb, ytm, ysr_len, e_195, e_203, e_211]) hw d_A_isReady_219
          · have e_211 := yb_1 c_211
            refine lv_iconst (v := 1) hx hb d_A_isReady_214 (by decide) ?_
            refine lv_goto (tgt := 219) hx hb d_A_isReady_215 (by decide) ?_
            exact ye_z hI (by decide) () (by rw [yp_can5 (T := s_T σ y) h101 hk]; simp [yb, ytm, ysr_len, e_195, e_203, e_211]) hw d_A_isReady_219
    · refine lv_aload_n hx hb d_A_isReady_0 rfl (lv_at hl 0 rfl) ?_
      refine yr_get (C := R_A) (T := F_A) (N := 8) (ci := k_A) hx hb ht j_A hown hK.1 hw (by assumption) (by rfl) rfl 7 (by decide) (ht _ mf_A_40) (fun _ h9 => h9) (by rfl) d_A_isReady_1 ?_
      refine lv_bipush (v := (nI 100)) hx hb d_A_isReady_4 (by decide) ?_
      refine lv_icmp_lt (tgt := 11) hx hb d_A_isReady_6 (by decide) (fun c_6 => ?_) (fun c_6 => by exact absurd ((nI_ltI (by omega) (by omega)).mpr h100) c_6)
      refine lv_aload_n hx hb d_A_isReady_11 rfl (lv_at hl 0 rfl) ?_
      refine yr_get (C := R_A) (T := F_A) (N := 8) (ci := k_A) hx hb ht j_A hown hK.1 hw (by assumption) (by rfl) rfl 0 (by decide) (ht _ mf_A_9) (fun _ h9 => h9) (by rfl) d_A_isReady_12 ?_
      rw [hk]
      refine lv_tableIn (off := 205) (tgt := 220) hx hb d_A_isReady_15 (by decide +kernel) (by decide +kernel) (by decide +kernel) (by decide) ?_
      refine lv_aload_n hx hb d_A_isReady_220 rfl (lv_at hl 0 rfl) ?_
      refine lv_iconst (v := (nI 0)) hx hb d_A_isReady_221 (by decide) ?_
      refine yc_i (va_runV (As := [.int _]) (rest := []) ⟨hx, hb, hml, hown, hts⟩ (c_A_hasValue l D cc ad LL X b0 _ σ hL y i hy hn hi 0 (by omega)) (cwV 1 hts (yg_call mc_A_hasValue ml_A_53 mm_A_hasValue ms_A_hasValue mi_A) rfl rfl rfl (by decide +kernel) ⟨Nat.le_of_ble_eq_true rfl, Nat.le_of_ble_eq_true rfl⟩) (y_preV hI hw (y_recv hK.1 hw h5 (by rfl) rfl)) rfl rfl hl.1 rfl (lv_room (Nat.le_of_ble_eq_true rfl)) d_A_isReady_222 ⟨Nat.le_of_ble_eq_true rfl, Nat.le_of_ble_eq_true rfl⟩) hw hA (fun r u H locs he hw => ?_)
      subst he
      refine lv_if_eq (tgt := 241) hx hb d_A_isReady_225 (by decide) (fun c_225 => ?_) (fun c_225 => ?_)
      · have e_225 := yb_0 c_225
        refine lv_iconst (v := 0) hx hb d_A_isReady_241 (by decide) ?_
        exact ye_z hI (by decide) () (by rw [yp_can6 (T := s_T σ y) h101 hk]; simp [yb, ytm, ysr_len, e_225]) hw d_A_isReady_242
      · have e_225 := yb_1 c_225
        refine lv_aload_n hx hb d_A_isReady_228 rfl (lv_at hl 0 rfl) ?_
        refine yr_get (C := R_A) (T := F_A) (N := 8) (ci := k_A) hx hb ht j_A hown hK.1 hw (by assumption) (by rfl) rfl 7 (by decide) (ht _ mf_A_40) (fun _ h9 => h9) (by rfl) d_A_isReady_229 ?_
        refine lv_bipush (v := (nI 60)) hx hb d_A_isReady_232 (by decide) ?_
        refine lv_icmp_ge (tgt := 241) hx hb d_A_isReady_234 (by decide) (fun c_234 => ?_) (fun c_234 => ?_)
        · have e_234 : ¬ (s_ac σ y i).2.2.2.2 < 60 := by
            have := (nI_leI (by omega) (by omega)).mp c_234
            omega
          refine lv_iconst (v := 0) hx hb d_A_isReady_241 (by decide) ?_
          exact ye_z hI (by decide) () (by rw [yp_can6 (T := s_T σ y) h101 hk]; simp [yb, ytm, ysr_len, e_225, e_234]) hw d_A_isReady_242
        · have e_234 : (s_ac σ y i).2.2.2.2 < 60 := by
            rcases Nat.lt_or_ge (s_ac σ y i).2.2.2.2 60 with h | h
            · exact h
            · exact absurd ((nI_leI (by omega) (by omega)).mpr h) c_234
          refine lv_iconst (v := 1) hx hb d_A_isReady_237 (by decide) ?_
          refine lv_goto (tgt := 242) hx hb d_A_isReady_238 (by decide) ?_
          exact ye_z hI (by decide) () (by rw [yp_can6 (T := s_T σ y) h101 hk]; simp [yb, ytm, ysr_len, e_225, e_234]) hw d_A_isReady_242
    · refine lv_aload_n hx hb d_A_isReady_0 rfl (lv_at hl 0 rfl) ?_
      refine yr_get (C := R_A) (T := F_A) (N := 8) (ci := k_A) hx hb ht j_A hown hK.1 hw (by assumption) (by rfl) rfl 7 (by decide) (ht _ mf_A_40) (fun _ h9 => h9) (by rfl) d_A_isReady_1 ?_
      refine lv_bipush (v := (nI 100)) hx hb d_A_isReady_4 (by decide) ?_
      refine lv_icmp_lt (tgt := 11) hx hb d_A_isReady_6 (by decide) (fun c_6 => ?_) (fun c_6 => by exact absurd ((nI_ltI (by omega) (by omega)).mpr h100) c_6)
      refine lv_aload_n hx hb d_A_isReady_11 rfl (lv_at hl 0 rfl) ?_
      refine yr_get (C := R_A) (T := F_A) (N := 8) (ci := k_A) hx hb ht j_A hown hK.1 hw (by assumption) (by rfl) rfl 0 (by decide) (ht _ mf_A_9) (fun _ h9 => h9) (by rfl) d_A_isReady_12 ?_
      rw [hk]
      refine lv_tableIn (off := 228) (tgt := 243) hx hb d_A_isReady_15 (by decide +kernel) (by decide +kernel) (by decide +kernel) (by decide) ?_
      refine lv_aload_n hx hb d_A_isReady_243 rfl (lv_at hl 0 rfl) ?_
      refine lv_iconst (v := (nI 0)) hx hb d_A_isReady_244 (by decide) ?_
      refine yc_i (va_runV (As := [.int _]) (rest := []) ⟨hx, hb, hml, hown, hts⟩ (c_A_hasValue l D cc ad LL X b0 _ σ hL y i hy hn hi 0 (by omega)) (cwV 1 hts (yg_call mc_A_hasValue ml_A_53 mm_A_hasValue ms_A_hasValue mi_A) rfl rfl rfl (by decide +kernel) ⟨Nat.le_of_ble_eq_true rfl, Nat.le_of_ble_eq_true rfl⟩) (y_preV hI hw (y_recv hK.1 hw h5 (by rfl) rfl)) rfl rfl hl.1 rfl (lv_room (Nat.le_of_ble_eq_true rfl)) d_A_isReady_245 ⟨Nat.le_of_ble_eq_true rfl, Nat.le_of_ble_eq_true rfl⟩) hw hA (fun r u H locs he hw => ?_)
      subst he
      refine lv_if_eq (tgt := 279) hx hb d_A_isReady_248 (by decide) (fun c_248 => ?_) (fun c_248 => ?_)
      · have e_248 := yb_0 c_248
        refine lv_iconst (v := 0) hx hb d_A_isReady_279 (by decide) ?_
        exact ye_z hI (by decide) () (by rw [yp_can7 (T := s_T σ y) h101 hk]; simp [yb, ytm, ysr_len, e_248]) hw d_A_isReady_280
      · have e_248 := yb_1 c_248
        obtain ⟨c0, ec0, hp0⟩ := yh_inv e_248
        refine lv_aload_n hx hb d_A_isReady_251 rfl (lv_at hl 0 rfl) ?_
        refine lv_iconst (v := (nI 1)) hx hb d_A_isReady_252 (by decide) ?_
        refine yc_i (va_runV (As := [.int _]) (rest := []) ⟨hx, hb, hml, hown, hts⟩ (c_A_hasValue l D cc ad LL X b0 _ σ hL y i hy hn hi 1 (by omega)) (cwV 1 hts (yg_call mc_A_hasValue ml_A_53 mm_A_hasValue ms_A_hasValue mi_A) rfl rfl rfl (by decide +kernel) ⟨Nat.le_of_ble_eq_true rfl, Nat.le_of_ble_eq_true rfl⟩) (y_preV hI hw (y_recv hK.1 hw h5 (by rfl) rfl)) rfl rfl hl.1 rfl (lv_room (Nat.le_of_ble_eq_true rfl)) d_A_isReady_253 ⟨Nat.le_of_ble_eq_true rfl, Nat.le_of_ble_eq_true rfl⟩) hw hA (fun r u H locs he hw => ?_)
        subst he
        refine lv_if_eq (tgt := 279) hx hb d_A_isReady_256 (by decide) (fun c_256 => ?_) (fun c_256 => ?_)
        · have e_256 := yb_0 c_256
          refine lv_iconst (v := 0) hx hb d_A_isReady_279 (by decide) ?_
          exact ye_z hI (by decide) () (by rw [yp_can7 (T := s_T σ y) h101 hk]; simp [yb, ytm, ysr_len, e_248, e_256]) hw d_A_isReady_280
        · have e_256 := yb_1 c_256
          refine lv_aload_n hx hb d_A_isReady_259 rfl (lv_at hl 0 rfl) ?_
          refine lv_iconst (v := (nI 0)) hx hb d_A_isReady_260 (by decide) ?_
          refine yc_i (va_runV (As := [.int _]) (rest := []) ⟨hx, hb, hml, hown, hts⟩ (c_A_isZero l D cc ad LL X b0 _ σ hL y i hy hn hi 0 (by omega) c0 ec0 hp0) (cwV 1 hts (yg_call mc_A_isZero ml_A_60 mm_A_isZero ms_A_isZero mi_A) rfl rfl rfl (by decide +kernel) ⟨Nat.le_of_ble_eq_true rfl, Nat.le_of_ble_eq_true rfl⟩) (y_preV hI hw (y_recv hK.1 hw h5 (by rfl) rfl)) rfl rfl hl.1 rfl (lv_room (Nat.le_of_ble_eq_true rfl)) d_A_isReady_261 ⟨Nat.le_of_ble_eq_true rfl, Nat.le_of_ble_eq_true rfl⟩) hw hA (fun r u H locs he hw => ?_)
          subst he
          refine lv_if_ne (tgt := 275) hx hb d_A_isReady_264 (by decide) (fun c_264 => ?_) (fun c_264 => ?_)
          · have e_264 := yb_1 c_264
            refine lv_iconst (v := 1) hx hb d_A_isReady_275 (by decide) ?_
            refine lv_goto (tgt := 280) hx hb d_A_isReady_276 (by decide) ?_
            exact ye_z hI (by decide) () (by rw [yp_can7 (T := s_T σ y) h101 hk]; simp [yb, ytm, ysr_len, e_248, e_256, e_264]) hw d_A_isReady_280
          · have e_264 := yb_0 c_264
            refine lv_aload_n hx hb d_A_isReady_267 rfl (lv_at hl 0 rfl) ?_
            refine lv_iconst (v := (nI 0)) hx hb d_A_isReady_268 (by decide) ?_
            refine yc_i (va_runV (As := [.int _]) (rest := []) ⟨hx, hb, hml, hown, hts⟩ (c_A_hasRoom l D cc ad LL X b0 _ σ hL y i hy hn hi 0 (by omega)) (cwV 1 hts (yg_call mc_A_hasRoom ml_A_49 mm_A_hasRoom ms_A_hasRoom mi_A) rfl rfl rfl (by decide +kernel) ⟨Nat.le_of_ble_eq_true rfl, Nat.le_of_ble_eq_true rfl⟩) (y_preV hI hw (y_recv hK.1 hw h5 (by rfl) rfl)) rfl rfl hl.1 rfl (lv_room (Nat.le_of_ble_eq_true rfl)) d_A_isReady_269 ⟨Nat.le_of_ble_eq_true rfl, Nat.le_of_ble_eq_true rfl⟩) hw hA (fun r u H locs he hw => ?_)
            subst he
            refine lv_if_eq (tgt := 279) hx hb d_A_isReady_272 (by decide) (fun c_272 => ?_) (fun c_272 => ?_)
            · have e_272 := yb_0 c_272
              refine lv_iconst (v := 0) hx hb d_A_isReady_279 (by decide) ?_
              exact ye_z hI (by decide) () (by rw [yp_can7 (T := s_T σ y) h101 hk]; simp [yb, ytm, ysr_len, e_248, e_256, e_264, e_272]) hw d_A_isReady_280
            · have e_272 := yb_1 c_272
              refine lv_iconst (v := 1) hx hb d_A_isReady_275 (by decide) ?_
              refine lv_goto (tgt := 280) hx hb d_A_isReady_276 (by decide) ?_
              exact ye_z hI (by decide) () (by rw [yp_can7 (T := s_T σ y) h101 hk]; simp [yb, ytm, ysr_len, e_248, e_256, e_264, e_272]) hw d_A_isReady_280
    · refine lv_aload_n hx hb d_A_isReady_0 rfl (lv_at hl 0 rfl) ?_
      refine yr_get (C := R_A) (T := F_A) (N := 8) (ci := k_A) hx hb ht j_A hown hK.1 hw (by assumption) (by rfl) rfl 7 (by decide) (ht _ mf_A_40) (fun _ h9 => h9) (by rfl) d_A_isReady_1 ?_
      refine lv_bipush (v := (nI 100)) hx hb d_A_isReady_4 (by decide) ?_
      refine lv_icmp_lt (tgt := 11) hx hb d_A_isReady_6 (by decide) (fun c_6 => ?_) (fun c_6 => by exact absurd ((nI_ltI (by omega) (by omega)).mpr h100) c_6)
      refine lv_aload_n hx hb d_A_isReady_11 rfl (lv_at hl 0 rfl) ?_
      refine yr_get (C := R_A) (T := F_A) (N := 8) (ci := k_A) hx hb ht j_A hown hK.1 hw (by assumption) (by rfl) rfl 0 (by decide) (ht _ mf_A_9) (fun _ h9 => h9) (by rfl) d_A_isReady_12 ?_
      rw [hk]
      refine lv_tableIn (off := 266) (tgt := 281) hx hb d_A_isReady_15 (by decide +kernel) (by decide +kernel) (by decide +kernel) (by decide) ?_
      refine lv_aload_n hx hb d_A_isReady_281 rfl (lv_at hl 0 rfl) ?_
      refine lv_iconst (v := (nI 0)) hx hb d_A_isReady_282 (by decide) ?_
      refine yc_i (va_runV (As := [.int _]) (rest := []) ⟨hx, hb, hml, hown, hts⟩ (c_A_hasValue l D cc ad LL X b0 _ σ hL y i hy hn hi 0 (by omega)) (cwV 1 hts (yg_call mc_A_hasValue ml_A_53 mm_A_hasValue ms_A_hasValue mi_A) rfl rfl rfl (by decide +kernel) ⟨Nat.le_of_ble_eq_true rfl, Nat.le_of_ble_eq_true rfl⟩) (y_preV hI hw (y_recv hK.1 hw h5 (by rfl) rfl)) rfl rfl hl.1 rfl (lv_room (Nat.le_of_ble_eq_true rfl)) d_A_isReady_283 ⟨Nat.le_of_ble_eq_true rfl, Nat.le_of_ble_eq_true rfl⟩) hw hA (fun r u H locs he hw => ?_)
      subst he
      refine lv_if_eq (tgt := 309) hx hb d_A_isReady_286 (by decide) (fun c_286 => ?_) (fun c_286 => ?_)
      · have e_286 := yb_0 c_286
        refine lv_iconst (v := 0) hx hb d_A_isReady_309 (by decide) ?_
        exact ye_z hI (by decide) () (by rw [yp_can8 (T := s_T σ y) h101 hk]; simp [yb, ytm, ysr_len, e_286]) hw d_A_isReady_310
      · have e_286 := yb_1 c_286
        refine lv_aload_n hx hb d_A_isReady_289 rfl (lv_at hl 0 rfl) ?_
        refine lv_iconst (v := (nI 0)) hx hb d_A_isReady_290 (by decide) ?_
        refine yc_i (va_runV (As := [.int _]) (rest := []) ⟨hx, hb, hml, hown, hts⟩ (c_A_hasRoom l D cc ad LL X b0 _ σ hL y i hy hn hi 0 (by omega)) (cwV 1 hts (yg_call mc_A_hasRoom ml_A_49 mm_A_hasRoom ms_A_hasRoom mi_A) rfl rfl rfl (by decide +kernel) ⟨Nat.le_of_ble_eq_true rfl, Nat.le_of_ble_eq_true rfl⟩) (y_preV hI hw (y_recv hK.1 hw h5 (by rfl) rfl)) rfl rfl hl.1 rfl (lv_room (Nat.le_of_ble_eq_true rfl)) d_A_isReady_291 ⟨Nat.le_of_ble_eq_true rfl, Nat.le_of_ble_eq_true rfl⟩) hw hA (fun r u H locs he hw => ?_)
        subst he
        refine lv_if_eq (tgt := 309) hx hb d_A_isReady_294 (by decide) (fun c_294 => ?_) (fun c_294 => ?_)
        · have e_294 := yb_0 c_294
          refine lv_iconst (v := 0) hx hb d_A_isReady_309 (by decide) ?_
          exact ye_z hI (by decide) () (by rw [yp_can8 (T := s_T σ y) h101 hk]; simp [yb, ytm, ysr_len, e_286, e_294]) hw d_A_isReady_310
        · have e_294 := yb_1 c_294
          refine lv_aload_n hx hb d_A_isReady_297 rfl (lv_at hl 0 rfl) ?_
          refine lv_iconst (v := (nI 1)) hx hb d_A_isReady_298 (by decide) ?_
          refine yc_i (va_runV (As := [.int _]) (rest := []) ⟨hx, hb, hml, hown, hts⟩ (c_A_hasRoom l D cc ad LL X b0 _ σ hL y i hy hn hi 1 (by omega)) (cwV 1 hts (yg_call mc_A_hasRoom ml_A_49 mm_A_hasRoom ms_A_hasRoom mi_A) rfl rfl rfl (by decide +kernel) ⟨Nat.le_of_ble_eq_true rfl, Nat.le_of_ble_eq_true rfl⟩) (y_preV hI hw (y_recv hK.1 hw h5 (by rfl) rfl)) rfl rfl hl.1 rfl (lv_room (Nat.le_of_ble_eq_true rfl)) d_A_isReady_299 ⟨Nat.le_of_ble_eq_true rfl, Nat.le_of_ble_eq_true rfl⟩) hw hA (fun r u H locs he hw => ?_)
          subst he
          refine lv_if_eq (tgt := 309) hx hb d_A_isReady_302 (by decide) (fun c_302 => ?_) (fun c_302 => ?_)
          · have e_302 := yb_0 c_302
            refine lv_iconst (v := 0) hx hb d_A_isReady_309 (by decide) ?_
            exact ye_z hI (by decide) () (by rw [yp_can8 (T := s_T σ y) h101 hk]; simp [yb, ytm, ysr_len, e_286, e_294, e_302]) hw d_A_isReady_310
          · have e_302 := yb_1 c_302
            refine lv_iconst (v := 1) hx hb d_A_isReady_305 (by decide) ?_
            refine lv_goto (tgt := 310) hx hb d_A_isReady_306 (by decide) ?_
            exact ye_z hI (by decide) () (by rw [yp_can8 (T := s_T σ y) h101 hk]; simp [yb, ytm, ysr_len, e_286, e_294, e_302]) hw d_A_isReady_310
  · refine lv_aload_n hx hb d_A_isReady_0 rfl (lv_at hl 0 rfl) ?_
    refine yr_get (C := R_A) (T := F_A) (N := 8) (ci := k_A) hx hb ht j_A hown hK.1 hw (by assumption) (by rfl) rfl 7 (by decide) (ht _ mf_A_40) (fun _ h9 => h9) (by rfl) d_A_isReady_1 ?_
    refine lv_bipush (v := (nI 100)) hx hb d_A_isReady_4 (by decide) ?_
    refine lv_icmp_lt (tgt := 11) hx hb d_A_isReady_6 (by decide) (fun c_6 => by exact absurd ((nI_ltI (by omega) (by omega)).mp c_6) h100) (fun c_6 => ?_)
    refine lv_iconst (v := 0) hx hb d_A_isReady_9 (by decide) ?_
    exact ye_z hI (by decide) () (by rw [yp_can100 (T := s_T σ y) (by show 100 ≤ (s_ac σ y i).2.2.2.2; omega)]; rfl) hw d_A_isReady_10
end
section
/-! WHAT THE SMALL CHANGES DO TO THE YARD AS NUMBERS AND LISTS -/
/-- nothing has changed outside yard y, nor how many there are -/
def yX (σ : ys) (y : Nat) (σ' : ys) : Prop := s_fl σ' = s_fl σ ∧ σ'.2.1 = σ.2.1 ∧ ∀ y', y' ≠ y → s_ac σ' y' = s_ac σ y' ∧ s_ic σ' y' = s_ic σ y' ∧ s_oc σ' y' = s_oc σ y' ∧ s_rw σ' y' = s_rw σ y' ∧ s_ch σ' y' = s_ch σ y' ∧ s_rg σ' y' = s_rg σ y'
theorem yX.rf {σ : ys} {y : Nat} : yX σ y σ := ⟨rfl, rfl, fun _ _ => ⟨rfl, rfl, rfl, rfl, rfl, rfl⟩⟩
theorem yX.tr {σ σ' σ'' : ys} {y : Nat} (h : yX σ y σ') (h' : yX σ' y σ'') : yX σ y σ'' := by
  refine ⟨h'.1.trans h.1, h'.2.1.trans h.2.1, fun y' hy => ?_⟩
  obtain ⟨a1, a2, a3, a4, a5, a6⟩ := h.2.2 y' hy
  obtain ⟨b1, b2, b3, b4, b5, b6⟩ := h'.2.2 y' hy
  exact ⟨b1.trans a1, b2.trans a2, b3.trans a3, b4.trans a4, b5.trans a5, b6.trans a6⟩
theorem up2_row {β : Type} (f : Nat → Nat → β) {y i y' : Nat} (v : β) (h : y' ≠ y) : up2 f y i v y' = f y' := by
  funext i'
  exact up2_n _ _ (fun q => h q.1)
theorem yX_ch {σ : ys} {y c : Nat} {v : yc} : yX σ y (sx_ch σ y c v) := ⟨rfl, rfl, fun y' hy => ⟨rfl, rfl, rfl, rfl, up2_row (s_ch σ) v hy, rfl⟩⟩
theorem yX_rg {σ : ys} {y c : Nat} {v : Nat → Int32} : yX σ y (sx_rg σ y c v) := ⟨rfl, rfl, fun y' hy => ⟨rfl, rfl, rfl, rfl, rfl, up2_row (s_rg σ) v hy⟩⟩
theorem yX_ac {σ : ys} {y c : Nat} {v : ya} : yX σ y (sx_ac σ y c v) := ⟨rfl, rfl, fun y' hy => ⟨up2_row (s_ac σ) v hy, rfl, rfl, rfl, rfl, rfl⟩⟩
theorem yX_rw {σ : ys} {y c : Nat} {v : Nat → Int32} : yX σ y (sx_rw σ y c v) := ⟨rfl, rfl, fun y' hy => ⟨rfl, rfl, rfl, up2_row (s_rw σ) v hy, rfl, rfl⟩⟩
theorem yX_rd {σ : ys} {y i : Nat} {v : Nat → Int32} : yX σ y (sx_rd σ y i v) := ⟨rfl, rfl, fun y' hy => ⟨rfl, rfl, rfl, rfl, rfl, rfl⟩⟩
theorem yX_put {σ : ys} {y c : Nat} {v : Int32} : yX σ y (yo_put σ y c v) := yX_rg.tr yX_ch
theorem yX_take {σ : ys} {y c : Nat} : yX σ y (yo_take σ y c) := yX_ch
theorem yX_give {σ : ys} {y i j : Nat} {v : Int32} : yX σ y (yo_give σ y i j v) := by
  unfold yo_give
  cases s_oc σ y i j with
  | none => exact yX.rf
  | some c => exact yX_put
theorem yX.sT {σ σ' : ys} {y y' : Nat} (h : yX σ y σ') (hy : y' ≠ y) : s_T σ' y' = s_T σ y' := by
  obtain ⟨a1, a2, a3, a4, a5, a6⟩ := h.2.2 y' hy
  unfold s_T s_n
  rw [a1, a2, a3, a4, a5, h.2.1]
theorem yX.sD {σ σ' : ys} {y y' : Nat} (h : yX σ y σ') (hy : y' ≠ y) : s_D σ' y' = s_D σ y' := by
  obtain ⟨a1, a2, a3, a4, a5, a6⟩ := h.2.2 y' hy
  unfold s_D
  rw [a1, a4, a5, a6]
theorem yX.sn {σ σ' : ys} {y : Nat} (h : yX σ y σ') (y' : Nat) : s_n σ' y' = s_n σ y' := by unfold s_n; rw [h.2.1]
theorem yX.snc {σ σ' : ys} {y : Nat} (h : yX σ y σ') (y' : Nat) : s_nc σ' y' = s_nc σ y' := by unfold s_nc; rw [h.2.1]
theorem yX.I {σ σ' : ys} {y y' : Nat} (h : yX σ y σ') (hy : y' ≠ y) (hi : yI σ y') : yI σ' y' := by
  obtain ⟨a1, a2, a3, a4, a5, a6⟩ := h.2.2 y' hy
  unfold yI at hi ⊢
  rw [h.sT hy, h.sn, h.snc, a1, a2, a3, a5]
  exact hi
theorem yX.L {σ σ' : ys} {y : Nat} (h : yX σ y σ') {LL : List yl} (hL : ∀ q, yL σ q → q ∈ LL) : ∀ q, yL σ' q → q ∈ LL := by
  intro q hq
  apply hL q
  obtain ⟨f, y', i'⟩ := q
  match f, hq with
  | 0, hq => exact hq
  | 1, hq => exact hq
  | 2, hq => exact hq
  | 3, hq => exact hq
  | 4, hq => exact hq
  | 5, hq => exact ⟨hq.1, by rw [← h.sn]; exact hq.2⟩
  | 6, hq => exact ⟨hq.1, by rw [← h.sn]; exact hq.2⟩
  | 7, hq => exact ⟨hq.1, by rw [← h.sn]; exact hq.2⟩
  | 8, hq => exact ⟨hq.1, by rw [← h.sn]; exact hq.2⟩
  | 9, hq => exact ⟨hq.1, by rw [← h.snc]; exact hq.2⟩
  | 10, hq => exact ⟨hq.1, by rw [← h.snc]; exact hq.2⟩
/-- room at an out -/
def yrm (σ : ys) (y i j : Nat) : Prop := ∀ c, s_oc σ y i j = some c → (s_ch σ y c).2.2 < (s_ch σ y c).1
theorem yrm_of {σ : ys} {y i j : Nat} (h : yp_roomb (s_T σ y) (s_D σ y) i j = true) : yrm σ y i j := fun c e => by
  rw [yr_some e] at h
  exact of_decide_eq_true h
/-- channels after a change of one of them -/
theorem s_ch_at {σ : ys} {y c c' : Nat} {v : yc} : s_ch (sx_ch σ y c v) y c' = if c' = c then v else s_ch σ y c' := by
  show up2 (s_ch σ) y c v y c' = _
  by_cases h : c' = c
  · rw [h, up2_s, if_pos rfl]
  · rw [up2_n _ _ (fun q => h q.2), if_neg h]
theorem s_rg_at {σ : ys} {y c c' : Nat} {v : Nat → Int32} : s_rg (sx_rg σ y c v) y c' = if c' = c then v else s_rg σ y c' := by
  show up2 (s_rg σ) y c v y c' = _
  by_cases h : c' = c
  · rw [h, up2_s, if_pos rfl]
  · rw [up2_n _ _ (fun q => h q.2), if_neg h]
theorem s_ac_at {σ : ys} {y c c' : Nat} {v : ya} : s_ac (sx_ac σ y c v) y c' = if c' = c then v else s_ac σ y c' := by
  show up2 (s_ac σ) y c v y c' = _
  by_cases h : c' = c
  · rw [h, up2_s, if_pos rfl]
  · rw [up2_n _ _ (fun q => h q.2), if_neg h]
theorem s_rw_at {σ : ys} {y c c' : Nat} {v : Nat → Int32} : s_rw (sx_rw σ y c v) y c' = if c' = c then v else s_rw σ y c' := by
  show up2 (s_rw σ) y c v y c' = _
  by_cases h : c' = c
  · rw [h, up2_s, if_pos rfl]
  · rw [up2_n _ _ (fun q => h q.2), if_neg h]
theorem ch_take {σ : ys} {y c c' : Nat} : s_ch (yo_take σ y c) y c' = if c' = c then ((s_ch σ y c).1, ((s_ch σ y c).2.1 + 1) % 8, (s_ch σ y c).2.2 - 1) else s_ch σ y c' := s_ch_at
theorem ch_put {σ : ys} {y c c' : Nat} {v : Int32} : s_ch (yo_put σ y c v) y c' = if c' = c then ((s_ch σ y c).1, (s_ch σ y c).2.1, (s_ch σ y c).2.2 + 1) else s_ch σ y c' := s_ch_at
theorem rg_put {σ : ys} {y c c' : Nat} {v : Int32} : s_rg (yo_put σ y c v) y c' = if c' = c then upd (s_rg σ y c) (((s_ch σ y c).2.1 + (s_ch σ y c).2.2) % 8) v else s_rg σ y c' := s_rg_at
theorem T_ch {σ σ' : ys} {y : Nat} (h1 : σ'.2.1 = σ.2.1) (h2 : s_ac σ' y = s_ac σ y) (h3 : s_ic σ' y = s_ic σ y) (h4 : s_oc σ' y = s_oc σ y) (h5 : s_rw σ' y = s_rw σ y) (h6 : ∀ c, (s_ch σ' y c).1 = (s_ch σ y c).1) : s_T σ' y = s_T σ y := by
  unfold s_T s_n
  rw [h1, h2, h3, h4, h5, show (fun c => (s_ch σ' y c).1) = fun c => (s_ch σ y c).1 from funext h6]
theorem T_take {σ : ys} {y c : Nat} : s_T (yo_take σ y c) y = s_T σ y := by
  refine T_ch rfl rfl rfl rfl rfl (fun c' => ?_)
  rw [ch_take]
  by_cases h : c' = c
  · rw [if_pos h, h]
  · rw [if_neg h]
theorem T_put {σ : ys} {y c : Nat} {v : Int32} : s_T (yo_put σ y c v) y = s_T σ y := by
  refine T_ch rfl rfl rfl rfl rfl (fun c' => ?_)
  rw [ch_put]
  by_cases h : c' = c
  · rw [if_pos h, h]
  · rw [if_neg h]
theorem T_give {σ : ys} {y i j : Nat} {v : Int32} : s_T (yo_give σ y i j v) y = s_T σ y := by
  unfold yo_give
  cases s_oc σ y i j with
  | none => rfl
  | some c => exact T_put
theorem D_take {σ : ys} {y c : Nat} (hp : 0 < (s_ch σ y c).2.2) : s_D (yo_take σ y c) y = ((s_D σ y).1, (s_D σ y).2.1, yq_tk true (some c) (s_D σ y).2.2) := by
  show (_, _, _) = (_, _, _)
  refine congrArg (fun z => ((s_D σ y).1, (s_D σ y).2.1, z)) ?_
  funext c'
  show yrq (s_rg σ y c') (s_ch (yo_take σ y c) y c').2.1 (s_ch (yo_take σ y c) y c').2.2 = yq_tk true (some c) (fun c => yrq (s_rg σ y c) (s_ch σ y c).2.1 (s_ch σ y c).2.2) c'
  unfold yq_tk
  rw [ch_take]
  by_cases h : c' = c
  · subst h
    rw [if_pos rfl, if_pos ⟨rfl, rfl⟩, yrq_pop hp]
  · rw [if_neg h, if_neg (fun q => h (Option.some.inj q.2).symm)]
theorem D_put {σ : ys} {y c : Nat} {v : Int32} (hp : (s_ch σ y c).2.2 < 8) : s_D (yo_put σ y c v) y = ((s_D σ y).1, (s_D σ y).2.1, yq_gv (some v) (some c) (s_D σ y).2.2) := by
  show (_, _, _) = (_, _, _)
  refine congrArg (fun z => ((s_D σ y).1, (s_D σ y).2.1, z)) ?_
  funext c'
  show yrq (s_rg (yo_put σ y c v) y c') (s_ch (yo_put σ y c v) y c').2.1 (s_ch (yo_put σ y c v) y c').2.2 = yq_gv (some v) (some c) (fun c => yrq (s_rg σ y c) (s_ch σ y c).2.1 (s_ch σ y c).2.2) c'
  unfold yq_gv
  rw [ch_put, rg_put]
  by_cases h : c' = c
  · subst h
    rw [if_pos rfl, if_pos rfl, if_pos rfl]
    exact yrq_push hp
  · rw [if_neg h, if_neg h, if_neg (fun q => h (Option.some.inj q).symm)]
theorem D_give {σ : ys} {y i j : Nat} {v : Int32} (hi : yI σ y) (hr : yrm σ y i j) : s_D (yo_give σ y i j v) y = ((s_D σ y).1, (s_D σ y).2.1, yq_gv (some v) (s_oc σ y i j) (s_D σ y).2.2) := by
  cases e : s_oc σ y i j with
  | none =>
    rw [yo_give_n e]
    refine congrArg (fun z => ((s_D σ y).1, (s_D σ y).2.1, z)) ?_
    funext c'
    unfold yq_gv
    rw [if_neg (fun q => by cases q)]
    rfl
  | some c =>
    rw [yo_give_s e]
    have h1 := hr c e
    have h2 := hi.2.2.2.1 c
    exact D_put (by omega)
theorem I_take {σ : ys} {y c : Nat} (hi : yI σ y) (hp : 0 < (s_ch σ y c).2.2) : yI (yo_take σ y c) y := by
  obtain ⟨h1, h2, h3, h4, h5, h6, h7⟩ := hi
  refine ⟨⟨h1.1, h1.2.1, fun c' hc' => ?_⟩, h2, h3, fun c' => ?_, h5, h6, by rw [T_take]; exact h7⟩
  · rw [ch_take]
    by_cases h : c' = c
    · rw [h] at hc'
      rw [h1.2.2 c hc'] at hp
      cases hp
    · rw [if_neg h]; exact h1.2.2 c' hc'
  rw [ch_take]
  by_cases h : c' = c
  · rw [if_pos h]
    have := h4 c
    refine ⟨this.1, this.2.1, Nat.mod_lt _ (by omega), ?_⟩
    show (s_ch σ y c).2.2 - 1 ≤ (s_ch σ y c).1
    omega
  · rw [if_neg h]; exact h4 c'
theorem I_put {σ : ys} {y c : Nat} {v : Int32} (hi : yI σ y) (hc : c < s_nc σ y) (hp : (s_ch σ y c).2.2 < (s_ch σ y c).1) : yI (yo_put σ y c v) y := by
  obtain ⟨h1, h2, h3, h4, h5, h6, h7⟩ := hi
  refine ⟨⟨h1.1, h1.2.1, fun c' hc' => ?_⟩, h2, h3, fun c' => ?_, h5, h6, by rw [T_put]; exact h7⟩
  · have hc' : s_nc σ y ≤ c' := hc'
    rw [ch_put, if_neg (by omega)]
    exact h1.2.2 c' hc'
  rw [ch_put]
  by_cases h : c' = c
  · rw [if_pos h]
    have := h4 c
    refine ⟨this.1, this.2.1, this.2.2.1, ?_⟩
    show (s_ch σ y c).2.2 + 1 ≤ (s_ch σ y c).1
    omega
  · rw [if_neg h]; exact h4 c'
theorem I_give {σ : ys} {y i j : Nat} {v : Int32} (hi : yI σ y) (hr : yrm σ y i j) : yI (yo_give σ y i j v) y := by
  cases e : s_oc σ y i j with
  | none => rw [yo_give_n e]; exact hi
  | some c => rw [yo_give_s e]; exact I_put hi (hi.2.2.2.2.2.1 i j c e).2.2 (hr c e)
theorem yrm_take {σ : ys} {y i j c : Nat} (hr : yrm σ y i j) : yrm (yo_take σ y c) y i j := by
  intro c' e
  have h := hr c' e
  rw [ch_take]
  by_cases h2 : c' = c
  · rw [if_pos h2]
    subst h2
    show (s_ch σ y c').2.2 - 1 < (s_ch σ y c').1
    omega
  · rw [if_neg h2]; exact h
theorem oc_give {σ : ys} {y i j : Nat} {v : Int32} : s_oc (yo_give σ y i j v) = s_oc σ := by
  unfold yo_give
  cases s_oc σ y i j with
  | none => rfl
  | some c => rfl
theorem ac_give {σ : ys} {y i j : Nat} {v : Int32} : s_ac (yo_give σ y i j v) = s_ac σ := by
  unfold yo_give
  cases s_oc σ y i j with
  | none => rfl
  | some c => rfl
theorem yrm_give {σ : ys} {y i j j' : Nat} {v : Int32} (hi : yI σ y) (hj : j ≠ j') (hr : yrm σ y i j') : yrm (yo_give σ y i j v) y i j' := by
  intro c' e
  rw [oc_give] at e
  have h := hr c' e
  cases e2 : s_oc σ y i j with
  | none => rw [yo_give_n e2]; exact h
  | some c =>
    rw [yo_give_s e2, ch_put]
    have hne : c' ≠ c := fun q => by
      subst q
      exact hj (hi.2.2.2.2.2.2.2 i i j j' c' e2 e).2
    rw [if_neg hne]
    exact h
theorem hv_take {σ : ys} {y i j j' c c' : Nat} (hi : yI σ y) (hj : j ≠ j') (e : s_ic σ y i j = some c) (e' : s_ic σ y i j' = some c') (hp : 0 < (s_ch σ y c').2.2) : s_ch (yo_take σ y c) y c' = s_ch σ y c' := by
  rw [ch_take]
  have hne : c' ≠ c := fun q => by
    subst q
    exact hj (hi.2.2.2.2.2.2.1 i i j j' c' e e').2
  rw [if_neg hne]
/-- one more act is counted -/
def yo_tick (σ : ys) (y i : Nat) : ys := sx_ac σ y i ((s_ac σ y i).1, (s_ac σ y i).2.1, (s_ac σ y i).2.2.1, (s_ac σ y i).2.2.2.1, (s_ac σ y i).2.2.2.2 + 1)
theorem ac_tick {σ : ys} {y i j : Nat} : s_ac (yo_tick σ y i) y j = if j = i then ((s_ac σ y i).1, (s_ac σ y i).2.1, (s_ac σ y i).2.2.1, (s_ac σ y i).2.2.2.1, (s_ac σ y i).2.2.2.2 + 1) else s_ac σ y j := s_ac_at
theorem ac_tick1 {σ : ys} {y i j : Nat} : (s_ac (yo_tick σ y i) y j).1 = (s_ac σ y j).1 := by
  rw [ac_tick]
  by_cases h : j = i
  · rw [if_pos h, h]
  · rw [if_neg h]
theorem T_tick {σ : ys} {y i : Nat} : s_T (yo_tick σ y i) y = s_T σ y := by
  have h : ∀ (β : Type) (f : Nat → ya → β), (∀ j r t, f j r = f j (r.1, r.2.1, r.2.2.1, r.2.2.2.1, t)) → (fun j => f j (s_ac (yo_tick σ y i) y j)) = fun j => f j (s_ac σ y j) := fun β f hf => by
    funext j
    rw [ac_tick]
    by_cases h : j = i
    · rw [if_pos h, h]; exact (hf i (s_ac σ y i) _).symm
    · rw [if_neg h]
  unfold s_T
  have e1 := h _ (fun _ r => r.1) (fun _ _ _ => rfl)
  have e2 := h _ (fun _ r => r.2.1) (fun _ _ _ => rfl)
  have e3 := h _ (fun _ r => r.2.2.1) (fun _ _ _ => rfl)
  have e4 := h _ (fun j r => yrw (s_rw σ y j) r.2.2.2.1) (fun _ _ _ => rfl)
  show (_, (fun j => (s_ac (yo_tick σ y i) y j).1), (fun j => (s_ac (yo_tick σ y i) y j).2.1), (fun j => (s_ac (yo_tick σ y i) y j).2.2.1), _, _, _, (fun j => yrw (s_rw σ y j) (s_ac (yo_tick σ y i) y j).2.2.2.1)) = _
  rw [e1, e2, e3, e4]
  rfl
theorem D_tick {σ : ys} {y i : Nat} (hk : (s_ac σ y i).1 ≠ 6) : s_D (yo_tick σ y i) y = (va_up (s_D σ y).1 i ((s_D σ y).1 i + 1), (s_D σ y).2.1, (s_D σ y).2.2) := by
  have e1 : (fun j => (s_ac (yo_tick σ y i) y j).2.2.2.2) = va_up (s_D σ y).1 i ((s_D σ y).1 i + 1) := by
    funext j
    rw [ac_tick]
    unfold va_up
    by_cases h : j = i
    · rw [if_pos h, if_pos h]; rfl
    · rw [if_neg h, if_neg h]; rfl
  have e2 : (fun j => if (s_ac (yo_tick σ y i) y j).1 = 6 then yrw (s_rw σ y j) (s_ac (yo_tick σ y i) y j).2.2.2.2 else []) = (s_D σ y).2.1 := by
    funext j
    rw [ac_tick]
    by_cases h : j = i
    · rw [if_pos h, if_neg hk, h]
      show [] = if (s_ac σ y i).1 = 6 then _ else _
      rw [if_neg hk]
    · rw [if_neg h]; rfl
  show (_, _, _) = (_, _, _)
  rw [← e1, ← e2]
  rfl
theorem D_tick6 {σ : ys} {y i : Nat} (hk : (s_ac σ y i).1 = 6) : s_D (yo_tick σ y i) y = (va_up (s_D σ y).1 i ((s_D σ y).1 i + 1), va_up (s_D σ y).2.1 i ((s_D σ y).2.1 i ++ [s_rw σ y i (s_ac σ y i).2.2.2.2]), (s_D σ y).2.2) := by
  have e1 : (fun j => (s_ac (yo_tick σ y i) y j).2.2.2.2) = va_up (s_D σ y).1 i ((s_D σ y).1 i + 1) := by
    funext j
    rw [ac_tick]
    unfold va_up
    by_cases h : j = i
    · rw [if_pos h, if_pos h]; rfl
    · rw [if_neg h, if_neg h]; rfl
  have e2 : (fun j => if (s_ac (yo_tick σ y i) y j).1 = 6 then yrw (s_rw σ y j) (s_ac (yo_tick σ y i) y j).2.2.2.2 else []) = va_up (s_D σ y).2.1 i ((s_D σ y).2.1 i ++ [s_rw σ y i (s_ac σ y i).2.2.2.2]) := by
    funext j
    rw [ac_tick]
    unfold va_up
    by_cases h : j = i
    · rw [if_pos h, if_pos hk, if_pos h, h]
      show yrw (s_rw σ y i) ((s_ac σ y i).2.2.2.2 + 1) = (if (s_ac σ y i).1 = 6 then yrw (s_rw σ y i) (s_ac σ y i).2.2.2.2 else []) ++ _
      rw [if_pos hk]
      unfold yrw
      rw [List.range_succ, List.map_append]
      rfl
    · rw [if_neg h, if_neg h]; rfl
  show (_, _, _) = (_, _, _)
  rw [← e1, ← e2]
  rfl
theorem I_tick {σ : ys} {y i : Nat} (hi : yI σ y) (hn : i < s_n σ y) (h1 : (s_ac σ y i).2.2.2.2 < 100) (h2 : (s_ac σ y i).1 = 6 → (s_ac σ y i).2.2.2.2 < 60) : yI (yo_tick σ y i) y := by
  obtain ⟨a1, a2, a3, a4, a5, a6, a7⟩ := hi
  refine ⟨⟨a1.1, fun j hj => ?_, a1.2.2⟩, a2, fun j => ?_, a4, fun j k c e => ?_, fun j k c e => ?_, by rw [T_tick]; exact a7⟩
  · have hj : s_n σ y ≤ j := hj
    rw [ac_tick, if_neg (by omega)]
    exact a1.2.1 j hj
  · rw [ac_tick]
    by_cases h : j = i
    · rw [if_pos h]
      obtain ⟨b1, b2, b3, b4, b5⟩ := a3 i
      exact ⟨b1, b2, b3, h1, fun q => h2 q⟩
    · rw [if_neg h]; exact a3 j
  · rw [ac_tick1]; exact a5 j k c e
  · rw [ac_tick1]; exact a6 j k c e
theorem yX_tick {σ : ys} {y i : Nat} : yX σ y (yo_tick σ y i) := yX_ac
/-- what an act does -/
def yStp (σ : ys) (y i : Nat) (σ' : ys) : Prop := yX σ y σ' ∧ s_T σ' y = s_T σ y ∧ s_D σ' y = yp_act (s_T σ y) (s_D σ y) i ∧ yI σ' y
/-- a sink's row gets one value more, behind those that it kept -/
def yo_keep (σ : ys) (y i : Nat) (v : Int32) : ys := sx_rw σ y i (upd (s_rw σ y i) (s_ac σ y i).2.2.2.2 v)
theorem T_keep {σ : ys} {y i : Nat} {v : Int32} (hi : yI σ y) (hk : (s_ac σ y i).1 = 6) : s_T (yo_keep σ y i v) y = s_T σ y := by
  have e4 : (fun j => yrw (s_rw (yo_keep σ y i v) y j) (s_ac σ y j).2.2.2.1) = fun j => yrw (s_rw σ y j) (s_ac σ y j).2.2.2.1 := by
    funext j
    show yrw (s_rw (sx_rw σ y i _) y j) _ = _
    rw [s_rw_at]
    by_cases h : j = i
    · rw [if_pos h, h, (hi.2.2.1 i).2.2.1 (by omega)]; rfl
    · rw [if_neg h]
  show (_, _, _, _, _, _, _, (fun j => yrw (s_rw (yo_keep σ y i v) y j) (s_ac σ y j).2.2.2.1)) = _
  rw [e4]
  rfl
theorem D_keep {σ : ys} {y i : Nat} {v : Int32} : s_D (yo_keep σ y i v) y = s_D σ y := by
  have e : (fun j => if (s_ac σ y j).1 = 6 then yrw (s_rw (yo_keep σ y i v) y j) (s_ac σ y j).2.2.2.2 else []) = (s_D σ y).2.1 := by
    funext j
    show (if (s_ac σ y j).1 = 6 then yrw (s_rw (sx_rw σ y i _) y j) _ else []) = if (s_ac σ y j).1 = 6 then yrw (s_rw σ y j) _ else []
    rw [s_rw_at]
    by_cases h : j = i
    · rw [if_pos h, h, yrw_congr (r' := s_rw σ y i) (fun k hk => pk_un (by omega))]
    · rw [if_neg h]
  show (_, (fun j => if (s_ac σ y j).1 = 6 then yrw (s_rw (yo_keep σ y i v) y j) (s_ac σ y j).2.2.2.2 else []), _) = _
  rw [e]
  rfl
theorem I_keep {σ : ys} {y i : Nat} {v : Int32} (hi : yI σ y) (hk : (s_ac σ y i).1 = 6) : yI (yo_keep σ y i v) y := by
  obtain ⟨a1, a2, a3, a4, a5, a6, a7⟩ := id hi
  exact ⟨a1, a2, a3, a4, a5, a6, by rw [T_keep hi hk]; exact a7⟩
theorem yStp_mk {σ σ1 : ys} {y i : Nat} {p : yp_P} (hi : yI σ y) (hn : i < s_n σ y) (hp : yp_pl (s_T σ y) (s_D σ y) i = some p) (hX : yX σ y σ1) (hT : s_T σ1 y = s_T σ y) (hD : s_D σ1 y = ((s_D σ y).1, (s_D σ y).2.1, yq_gv p.2.2.2.1 (s_oc σ y i 1) (yq_gv p.2.2.1 (s_oc σ y i 0) (yq_tk p.2.1 (s_ic σ y i 1) (yq_tk p.1 (s_ic σ y i 0) (s_D σ y).2.2))))) (hk : s_ac σ1 y i = s_ac σ y i) (h6 : (s_ac σ y i).1 ≠ 6) (hkp : p.2.2.2.2 = none) (hI : yI σ1 y) : yStp σ y i (yo_tick σ1 y i) := by
  have ht : (s_ac σ y i).2.2.2.2 < 100 := yp_plan_lt hp
  refine ⟨hX.tr yX_tick, T_tick.trans hT, ?_, I_tick hI (by rw [hX.sn]; exact hn) (by rw [hk]; exact ht) (fun q => absurd (by rw [← hk]; exact q) h6)⟩
  rw [D_tick (by rw [hk]; exact h6), hD, yp_act_of hp]
  show (_, _, _) = (_, yp_kp i p (s_D σ y).2.1, yp_q (s_T σ y) i p (s_D σ y).2.2)
  rw [yp_q_seq hi.2.2.2.2.2.2]
  unfold yp_kp
  rw [hkp]
  rfl
theorem yStp_mk6 {σ σ1 : ys} {y i c : Nat} {v : Int32} (hi : yI σ y) (hn : i < s_n σ y) (hk6 : (s_ac σ y i).1 = 6) (h60 : (s_ac σ y i).2.2.2.2 < 60) (hp : yp_pl (s_T σ y) (s_D σ y) i = some (true, false, none, none, some v)) (e : s_ic σ y i 0 = some c) (hp0 : 0 < (s_ch σ y c).2.2) (h1 : σ1 = yo_keep (yo_take σ y c) y i v) : yStp σ y i (yo_tick σ1 y i) := by
  subst h1
  have hit := I_take hi hp0
  have hk : s_ac (yo_keep (yo_take σ y c) y i v) y i = s_ac σ y i := rfl
  refine ⟨(yX_take.tr yX_rw).tr yX_tick, T_tick.trans ((T_keep hit hk6).trans T_take), ?_, I_tick (I_keep hit hk6) hn (by rw [hk]; omega) (fun _ => by rw [hk]; exact h60)⟩
  rw [D_tick6 (σ := yo_keep (yo_take σ y c) y i v) hk6, D_keep, D_take hp0, yp_act_of hp]
  show (_, _, _) = (_, yp_kp i (true, false, none, none, some v) (s_D σ y).2.1, yp_q (s_T σ y) i (true, false, none, none, some v) (s_D σ y).2.2)
  rw [yp_q_seq hi.2.2.2.2.2.2]
  show (_, va_up _ i (_ ++ [s_rw (sx_rw (yo_take σ y c) y i _) y i _]), _) = (_, va_up _ i (_ ++ [v]), yq_gv none _ (yq_gv none _ (yq_tk false _ (yq_tk true (s_ic σ y i 0) _))))
  rw [s_rw_at, if_pos rfl, yq_gv_n, yq_gv_n, yq_tk_f, e]
  show (_, va_up _ i (_ ++ [upd _ (s_ac σ y i).2.2.2.2 v (s_ac σ y i).2.2.2.2]), _) = _
  rw [pk_us]
section YPL
variable {T : yp_T} {d : yp_D} {i : Nat}
theorem ypl0 (h : ¬ 100 ≤ d.1 i) (hk : yp_kd T i = 0) {v : Int32} (hh : (yp_sr T i)[d.1 i]? = some v) : yp_pl T d i = some (false, false, some v, none, none) := by
  unfold yp_pl yp_plan; rw [if_neg h, hk, hh]; rfl
theorem ypl1 (h : ¬ 100 ≤ d.1 i) (hk : yp_kd T i = 1) {v : Int32} (hh : yp_hd T d i 0 = some v) : yp_pl T d i = some (true, false, some (v * yp_a T i + yp_b T i), none, none) := by
  unfold yp_pl yp_plan; rw [if_neg h, hk, hh]; rfl
theorem ypl2 (h : ¬ 100 ≤ d.1 i) (hk : yp_kd T i = 2) {v : Int32} (hh : yp_hd T d i 0 = some v) : yp_pl T d i = some (if d.1 i % 2 = 0 then (true, false, some v, none, none) else (true, false, none, some v, none)) := by
  unfold yp_pl yp_plan; rw [if_neg h, hk, hh]; rfl
theorem ypl3a (h : ¬ 100 ≤ d.1 i) (hk : yp_kd T i = 3) (h2 : d.1 i % 2 = 0) {v : Int32} (hh : yp_hd T d i 0 = some v) : yp_pl T d i = some (true, false, some v, none, none) := by
  unfold yp_pl yp_plan; rw [if_neg h, hk, hh]; simp [h2]
theorem ypl3b (h : ¬ 100 ≤ d.1 i) (hk : yp_kd T i = 3) (h2 : d.1 i % 2 = 1) {v : Int32} (hh : yp_hd T d i 1 = some v) : yp_pl T d i = some (false, true, some v, none, none) := by
  unfold yp_pl yp_plan; rw [if_neg h, hk, hh]; simp [h2]
theorem ypl4 (h : ¬ 100 ≤ d.1 i) (hk : yp_kd T i = 4) {v w : Int32} (hh : yp_hd T d i 0 = some v) (hh1 : yp_hd T d i 1 = some w) : yp_pl T d i = some (true, true, some (v + w), none, none) := by
  unfold yp_pl yp_plan; rw [if_neg h, hk, hh, hh1]; rfl
theorem ypl5a (h : ¬ 100 ≤ d.1 i) (hk : yp_kd T i = 5) (h2 : d.1 i = 0) : yp_pl T d i = some (false, false, some (yp_a T i), none, none) := by
  unfold yp_pl yp_plan; rw [if_neg h, hk]; simp [h2]
theorem ypl5b (h : ¬ 100 ≤ d.1 i) (hk : yp_kd T i = 5) (h2 : ¬ d.1 i = 0) {v : Int32} (hh : yp_hd T d i 0 = some v) : yp_pl T d i = some (true, false, some v, none, none) := by
  unfold yp_pl yp_plan; rw [if_neg h, hk, hh]; simp [h2]
theorem ypl6 (h : ¬ 100 ≤ d.1 i) (hk : yp_kd T i = 6) (h2 : d.1 i < 60) {v : Int32} (hh : yp_hd T d i 0 = some v) : yp_pl T d i = some (true, false, none, none, some v) := by
  unfold yp_pl yp_plan; rw [if_neg h, hk, hh]; simp [show ¬ 60 ≤ d.1 i by omega]
theorem ypl7 (h : ¬ 100 ≤ d.1 i) (hk : yp_kd T i = 7) {v w : Int32} (hh : yp_hd T d i 0 = some v) (hh1 : yp_hd T d i 1 = some w) : yp_pl T d i = some (true, true, if v = 0 then none else some w, none, none) := by
  unfold yp_pl yp_plan; rw [if_neg h, hk, hh, hh1]; rfl
theorem ypl8 (h : ¬ 100 ≤ d.1 i) (hk : yp_kd T i = 8) {v : Int32} (hh : yp_hd T d i 0 = some v) : yp_pl T d i = some (true, false, some v, some v, none) := by
  unfold yp_pl yp_plan; rw [if_neg h, hk, hh]; rfl
end YPL
end
section
/-! ACTOR: step -/
theorem y2_fin {σ : ys} {y i c0 : Nat} {v : Int32} (e0 : s_ic σ y i 0 = some c0) (z : (Nat → Nat) × (Nat → List Int32)) : ((z.1, z.2, yq_gv (some v) (s_oc (yo_take σ y c0) y i ((s_ac σ y i).2.2.2.2 % 2)) (yq_tk true (some c0) (s_D σ y).2.2)) : yp_D) = (z.1, z.2, yq_gv (if (s_D σ y).1 i % 2 = 0 then ((true, false, some v, none, none) : yp_P) else (true, false, none, some v, none)).2.2.2.1 (s_oc σ y i 1) (yq_gv (if (s_D σ y).1 i % 2 = 0 then ((true, false, some v, none, none) : yp_P) else (true, false, none, some v, none)).2.2.1 (s_oc σ y i 0) (yq_tk (if (s_D σ y).1 i % 2 = 0 then ((true, false, some v, none, none) : yp_P) else (true, false, none, some v, none)).2.1 (s_ic σ y i 1) (yq_tk (if (s_D σ y).1 i % 2 = 0 then ((true, false, some v, none, none) : yp_P) else (true, false, none, some v, none)).1 (s_ic σ y i 0) (s_D σ y).2.2)))) := by
  rcases Nat.mod_two_eq_zero_or_one (s_ac σ y i).2.2.2.2 with e | e
  · have e' : (s_D σ y).1 i % 2 = 0 := e
    rw [e, if_pos e', yq_gv_n, yq_tk_f, e0]; rfl
  · have e' : ¬ (s_D σ y).1 i % 2 = 0 := fun q => by have : (s_ac σ y i).2.2.2.2 % 2 = 0 := q; omega
    rw [e, if_neg e', yq_gv_n, yq_tk_f, e0]; rfl
theorem y3_fin {σ : ys} {y i c0 : Nat} (hi : yI σ y) (hn : i < s_n σ y) (h100 : ¬ 100 ≤ (s_D σ y).1 i) (hk : (s_ac σ y i).1 = 3) (e0 : s_ic σ y i ((s_ac σ y i).2.2.2.2 % 2) = some c0) (hp0 : 0 < (s_ch σ y c0).2.2) (hr : yrm (yo_take σ y c0) y i 0) (hac : s_ac (yo_give (yo_take σ y c0) y i 0 (s_rg σ y c0 ((s_ch σ y c0).2.1 % 8))) y i = s_ac σ y i) : yStp σ y i (yo_tick (yo_give (yo_take σ y c0) y i 0 (s_rg σ y c0 ((s_ch σ y c0).2.1 % 8))) y i) := by
  have hi1 := I_take hi hp0
  rcases Nat.mod_two_eq_zero_or_one (s_ac σ y i).2.2.2.2 with e | e
  · rw [e] at e0
    exact yStp_mk hi hn (ypl3a (T := s_T σ y) h100 hk e (yh_head e0 hp0)) (yX_take.tr yX_give) (T_give.trans T_take) (by rw [D_give hi1 hr, D_take hp0, yq_gv_n, yq_tk_f, e0]; try rfl) hac (by omega) rfl (I_give hi1 hr)
  · rw [e] at e0
    exact yStp_mk hi hn (ypl3b (T := s_T σ y) h100 hk e (yh_head e0 hp0)) (yX_take.tr yX_give) (T_give.trans T_take) (by rw [D_give hi1 hr, D_take hp0, yq_gv_n, yq_tk_f, e0]; try rfl) hac (by omega) rfl (I_give hi1 hr)
set_option maxHeartbeats 4000000 in
set_option maxRecDepth 100000 in
/-- step: an act of one that can act -/
theorem c_A_step (l : Launch) (D : va_G) (cc : ClassId × ClassId × ClassId) (ad : yl → Nat) (LL : List yl) (X : va_W) (b0 sz : Nat) (σ : ys) (hL : ∀ q, yL σ q → q ∈ LL) (y i : Nat) (hy : y < 2) (hn : i < s_n σ y) (hi : yI σ y) (hc : yp_canb (s_T σ y) (s_D σ y) i = true) : Met l y_A_step w_A_step ({ frames := 2, cells := 0, slots := 0, locals := 44 }) (yPr D cc b0 [.ref (ad (5, y, i))] (yW cc ad LL X σ) sz) (va_Qv (fun σ' : ys => yStp σ y i σ') (yB D ycl (yW cc ad LL X σ) sz (fun σ' => yW cc ad LL X σ')) (va_A (yW cc ad LL X σ) sz)) 0 0 (va_A (yW cc ad LL X σ) sz) := by
  have h5 : (5, y, i) ∈ LL := hL _ ⟨hy, hn⟩
  have h6 : (6, y, i) ∈ LL := hL _ ⟨hy, hn⟩
  have h7 : (7, y, i) ∈ LL := hL _ ⟨hy, hn⟩
  have h8 : (8, y, i) ∈ LL := hL _ ⟨hy, hn⟩
  obtain ⟨a1, a2, a3, a4, a5⟩ := hi.2.2.1 i
  refine y_ofW (cc := b_A_step) (maxL := 4) (ret := none) (by decide) rfl (Nat.le_of_ble_eq_true rfl) ?_
  intro pv ev sv mv bv tv cv ls hI hsz hw hl
  obtain ⟨hx, hb, hr, hml, hts, hown, hlocks, hnm, hK, hAb, hb0, hA⟩ := id hI
  have ht : ∀ w ∈ lg_tbl, w.before _ sv = true := fun w h => hts w (List.mem_cons_of_mem _ h)
  have hl : lv_has ls 4 [(0, .ref (ad (5, y, i)))] := hl
  have h100 : ¬ 100 ≤ (s_D σ y).1 i := Nat.not_le.mpr (yp_can_lt hc)
  have h99 : (s_ac σ y i).2.2.2.2 < 100 := yp_can_lt hc
  have hks : (s_ac σ y i).1 = 0 ∨ (s_ac σ y i).1 = 1 ∨ (s_ac σ y i).1 = 2 ∨ (s_ac σ y i).1 = 3 ∨ (s_ac σ y i).1 = 4 ∨ (s_ac σ y i).1 = 5 ∨ (s_ac σ y i).1 = 6 ∨ (s_ac σ y i).1 = 7 ∨ (s_ac σ y i).1 = 8 := by omega
  rcases hks with hk | hk | hk | hk | hk | hk | hk | hk | hk
  · rw [yp_can0 (T := s_T σ y) h100 hk] at hc
    obtain ⟨q1, q2⟩ := (Bool.and_eq_true _ _).mp hc
    have q1 : (s_ac σ y i).2.2.2.2 < (s_ac σ y i).2.2.2.1 := by have := of_decide_eq_true q1; rw [ysr_len] at this; exact this
    have hr := yrm_of q2
    have ht2 : (s_ac σ y i).2.2.2.2 < yt_rows (s_ac σ y i).1 := by rw [hk]; show _ < 20; omega
    refine lv_aload_n hx hb d_A_step_0 rfl (lv_at hl 0 rfl) ?_
    refine yr_get (C := R_A) (T := F_A) (N := 8) (ci := k_A) hx hb ht j_A hown hK.1 hw (by assumption) (by rfl) rfl 0 (by decide) (ht _ mf_A_9) (fun _ h9 => h9) (by rfl) d_A_step_1 ?_
    rw [hk]
    refine lv_tableIn (off := 52) (tgt := 56) hx hb d_A_step_4 (by decide +kernel) (by decide +kernel) (by decide +kernel) (by decide) ?_
    refine lv_aload_n hx hb d_A_step_56 rfl (lv_at hl 0 rfl) ?_
    refine lv_iconst (v := (nI 0)) hx hb d_A_step_57 (by decide) ?_
    refine lv_aload_n hx hb d_A_step_58 rfl (lv_at hl 0 rfl) ?_
    refine lv_aload_n hx hb d_A_step_59 rfl (lv_at hl 0 rfl) ?_
    refine yr_get (C := R_A) (T := F_A) (N := 8) (ci := k_A) hx hb ht j_A hown hK.1 hw (by assumption) (by rfl) rfl 7 (by decide) (ht _ mf_A_40) (fun _ h9 => h9) (by rfl) d_A_step_60 ?_
    refine yc_i (va_runV (As := [.int _]) (rest := [.int _, .ref _]) ⟨hx, hb, hml, hown, hts⟩ (c_A_rowValue l D cc ad LL X b0 _ σ hL y i hy hn hi (s_ac σ y i).2.2.2.2 ht2) (cwV 1 hts (yg_call mc_A_rowValue ml_A_63 mm_A_rowValue ms_A_rowValue mi_A) rfl rfl rfl (by decide +kernel) ⟨Nat.le_of_ble_eq_true rfl, Nat.le_of_ble_eq_true rfl⟩) (y_preV hI hw (y_recv hK.1 hw h5 (by rfl) rfl)) rfl rfl hl.1 rfl (lv_room (Nat.le_of_ble_eq_true rfl)) d_A_step_63 ⟨Nat.le_of_ble_eq_true rfl, Nat.le_of_ble_eq_true rfl⟩) hw hA (fun r u H locs he hw => ?_)
    subst he
    refine yc_v (va_runV (As := [.int _, .int _]) (rest := []) ⟨hx, hb, hml, hown, hts⟩ (c_A_give l D cc ad LL X b0 _ σ hL y i hy hn hi 0 (by omega) _) (cwV 2 hts (yg_call mc_A_give ml_A_67 mm_A_give ms_A_give mi_A) rfl rfl rfl (by decide +kernel) ⟨Nat.le_of_ble_eq_true rfl, Nat.le_of_ble_eq_true rfl⟩) (y_preV hI hw (y_recv hK.1 hw h5 (by rfl) rfl)) rfl rfl hl.1 rfl (lv_room (Nat.le_of_ble_eq_true rfl)) d_A_step_66 ⟨Nat.le_of_ble_eq_true rfl, Nat.le_of_ble_eq_true rfl⟩) hw hA (fun u H locs he hw => ?_)
    refine lv_goto (tgt := 239) hx hb d_A_step_69 (by decide) ?_
    have hw : yH D ycl (va_A (yW cc ad LL X σ) sz) sv.heap H locs (yW cc ad LL X (yo_give σ y i 0 (s_rw σ y i (s_ac σ y i).2.2.2.2))) := hw
    have hac : s_ac (yo_give σ y i 0 (s_rw σ y i (s_ac σ y i).2.2.2.2)) y i = s_ac σ y i := by rw [ac_give]
    refine lv_aload_n hx hb d_A_step_239 rfl (lv_at hl 0 rfl) ?_
    refine lv_dup hx hb d_A_step_240 rfl ?_
    refine yr_get (C := R_A) (T := F_A) (N := 8) (ci := k_A) hx hb ht j_A hown hK.1 hw (by assumption) (by rfl) rfl 7 (by decide) (ht _ mf_A_40) (fun _ h9 => h9) (by rfl) d_A_step_241 ?_
    rw [hac]
    refine lv_iconst (v := 1) hx hb d_A_step_244 (by decide) ?_
    refine lv_iadd hx hb d_A_step_245 ?_
    rw [nI_1]
    refine yr_put (ty := .int) (C := R_A) (T := F_A) (N := 8) (ci := k_A) hx hb ht j_A t_A t_A_ok n_A hown hK.1 hw (by assumption) (by rfl) rfl 7 (by decide) (ht _ mf_A_40) (fun _ h9 => h9) rfl (by decide +kernel) rfl rfl (Nat.le_of_ble_eq_true rfl) d_A_step_246 (fun H locs hw => ?_)
    have hw := yw_ac ((s_ac σ y i).1, (s_ac σ y i).2.1, (s_ac σ y i).2.2.1, (s_ac σ y i).2.2.2.1, (s_ac σ y i).2.2.2.2 + 1) hw (by rw [hac]) (by rw [hac]; rfl)
    have hw : yH D ycl (va_A (yW cc ad LL X σ) sz) sv.heap H locs (yW cc ad LL X (yo_tick (yo_give σ y i 0 (s_rw σ y i (s_ac σ y i).2.2.2.2)) y i)) := by unfold yo_tick; rw [hac]; exact hw
    exact ye_v hI (yo_tick (yo_give σ y i 0 (s_rw σ y i (s_ac σ y i).2.2.2.2)) y i) (yStp_mk hi hn (ypl0 (T := s_T σ y) h100 hk (yrw_get q1)) yX_give T_give (by rw [D_give hi hr, yq_gv_n, yq_tk_f, yq_tk_f]; try rfl) hac (by omega) rfl (I_give hi hr)) hw d_A_step_249
  · rw [yp_can1 (T := s_T σ y) h100 hk] at hc
    obtain ⟨q1, q2⟩ := (Bool.and_eq_true _ _).mp hc
    obtain ⟨c0, e0, hp0⟩ := yh_inv q1
    have hr := yrm_take (c := c0) (yrm_of q2)
    have hi1 := I_take hi hp0
    have hL1 := (yX_take (σ := σ) (y := y) (c := c0)).L hL
    refine lv_aload_n hx hb d_A_step_0 rfl (lv_at hl 0 rfl) ?_
    refine yr_get (C := R_A) (T := F_A) (N := 8) (ci := k_A) hx hb ht j_A hown hK.1 hw (by assumption) (by rfl) rfl 0 (by decide) (ht _ mf_A_9) (fun _ h9 => h9) (by rfl) d_A_step_1 ?_
    rw [hk]
    refine lv_tableIn (off := 68) (tgt := 72) hx hb d_A_step_4 (by decide +kernel) (by decide +kernel) (by decide +kernel) (by decide) ?_
    refine lv_aload_n hx hb d_A_step_72 rfl (lv_at hl 0 rfl) ?_
    refine lv_iconst (v := (nI 0)) hx hb d_A_step_73 (by decide) ?_
    refine lv_aload_n hx hb d_A_step_74 rfl (lv_at hl 0 rfl) ?_
    refine lv_iconst (v := (nI 0)) hx hb d_A_step_75 (by decide) ?_
    refine yc_i (va_runV (As := [.int _]) (rest := [.int _, .ref _]) ⟨hx, hb, hml, hown, hts⟩ (c_A_take l D cc ad LL X b0 _ σ hL y i hy hn hi 0 (by omega) c0 e0 hp0) (cwV 1 hts (yg_call mc_A_take ml_A_71 mm_A_take ms_A_take mi_A) rfl rfl rfl (by decide +kernel) ⟨Nat.le_of_ble_eq_true rfl, Nat.le_of_ble_eq_true rfl⟩) (y_preV hI hw (y_recv hK.1 hw h5 (by rfl) rfl)) rfl rfl hl.1 rfl (lv_room (Nat.le_of_ble_eq_true rfl)) d_A_step_76 ⟨Nat.le_of_ble_eq_true rfl, Nat.le_of_ble_eq_true rfl⟩) hw hA (fun r u H locs he hw => ?_)
    subst he
    refine lv_aload_n hx hb d_A_step_79 rfl (lv_at hl 0 rfl) ?_
    refine yr_get (C := R_A) (T := F_A) (N := 8) (ci := k_A) hx hb ht j_A hown hK.1 hw (by assumption) (by rfl) rfl 1 (by decide) (ht _ mf_A_15) (fun _ h9 => h9) (by rfl) d_A_step_80 ?_
    refine lv_imul hx hb d_A_step_83 ?_
    refine lv_aload_n hx hb d_A_step_84 rfl (lv_at hl 0 rfl) ?_
    refine yr_get (C := R_A) (T := F_A) (N := 8) (ci := k_A) hx hb ht j_A hown hK.1 hw (by assumption) (by rfl) rfl 2 (by decide) (ht _ mf_A_18) (fun _ h9 => h9) (by rfl) d_A_step_85 ?_
    refine lv_iadd hx hb d_A_step_88 ?_
    refine yc_v (va_runV (As := [.int _, .int _]) (rest := []) ⟨hx, hb, hml, hown, hts⟩ (c_A_give l D cc ad LL X b0 _ (yo_take σ y c0) hL1 y i hy hn hi1 0 (by omega) _) (cwV 2 hts (yg_call mc_A_give ml_A_67 mm_A_give ms_A_give mi_A) rfl rfl rfl (by decide +kernel) ⟨Nat.le_of_ble_eq_true rfl, Nat.le_of_ble_eq_true rfl⟩) (y_preV hI hw (y_recv hK.1 hw h5 (by rfl) rfl)) rfl rfl hl.1 rfl (lv_room (Nat.le_of_ble_eq_true rfl)) d_A_step_89 ⟨Nat.le_of_ble_eq_true rfl, Nat.le_of_ble_eq_true rfl⟩) hw hA (fun u H locs he hw => ?_)
    refine lv_goto (tgt := 239) hx hb d_A_step_92 (by decide) ?_
    have hw : yH D ycl (va_A (yW cc ad LL X σ) sz) sv.heap H locs (yW cc ad LL X (yo_give (yo_take σ y c0) y i 0 (((s_rg σ y c0 ((s_ch σ y c0).2.1 % 8))) * (s_ac σ y i).2.1 + (s_ac σ y i).2.2.1))) := hw
    have hac : s_ac (yo_give (yo_take σ y c0) y i 0 (((s_rg σ y c0 ((s_ch σ y c0).2.1 % 8))) * (s_ac σ y i).2.1 + (s_ac σ y i).2.2.1)) y i = s_ac σ y i := by rw [ac_give]; rfl
    refine lv_aload_n hx hb d_A_step_239 rfl (lv_at hl 0 rfl) ?_
    refine lv_dup hx hb d_A_step_240 rfl ?_
    refine yr_get (C := R_A) (T := F_A) (N := 8) (ci := k_A) hx hb ht j_A hown hK.1 hw (by assumption) (by rfl) rfl 7 (by decide) (ht _ mf_A_40) (fun _ h9 => h9) (by rfl) d_A_step_241 ?_
    rw [hac]
    refine lv_iconst (v := 1) hx hb d_A_step_244 (by decide) ?_
    refine lv_iadd hx hb d_A_step_245 ?_
    rw [nI_1]
    refine yr_put (ty := .int) (C := R_A) (T := F_A) (N := 8) (ci := k_A) hx hb ht j_A t_A t_A_ok n_A hown hK.1 hw (by assumption) (by rfl) rfl 7 (by decide) (ht _ mf_A_40) (fun _ h9 => h9) rfl (by decide +kernel) rfl rfl (Nat.le_of_ble_eq_true rfl) d_A_step_246 (fun H locs hw => ?_)
    have hw := yw_ac ((s_ac σ y i).1, (s_ac σ y i).2.1, (s_ac σ y i).2.2.1, (s_ac σ y i).2.2.2.1, (s_ac σ y i).2.2.2.2 + 1) hw (by rw [hac]) (by rw [hac]; rfl)
    have hw : yH D ycl (va_A (yW cc ad LL X σ) sz) sv.heap H locs (yW cc ad LL X (yo_tick (yo_give (yo_take σ y c0) y i 0 (((s_rg σ y c0 ((s_ch σ y c0).2.1 % 8))) * (s_ac σ y i).2.1 + (s_ac σ y i).2.2.1)) y i)) := by unfold yo_tick; rw [hac]; exact hw
    exact ye_v hI (yo_tick (yo_give (yo_take σ y c0) y i 0 (((s_rg σ y c0 ((s_ch σ y c0).2.1 % 8))) * (s_ac σ y i).2.1 + (s_ac σ y i).2.2.1)) y i) (yStp_mk hi hn (ypl1 (T := s_T σ y) h100 hk (yh_head e0 hp0)) (yX_take.tr yX_give) (T_give.trans T_take) (by rw [D_give hi1 hr, D_take hp0, yq_gv_n, yq_tk_f, e0]; try rfl) hac (by omega) rfl (I_give hi1 hr)) hw d_A_step_249
  · rw [yp_can2 (T := s_T σ y) h100 hk] at hc
    obtain ⟨q1, q2⟩ := (Bool.and_eq_true _ _).mp hc
    obtain ⟨c0, e0, hp0⟩ := yh_inv q1
    have hr : yrm (yo_take σ y c0) y i ((s_ac σ y i).2.2.2.2 % 2) := yrm_take (c := c0) (yrm_of q2)
    have hi1 := I_take hi hp0
    have hL1 := (yX_take (σ := σ) (y := y) (c := c0)).L hL
    refine lv_aload_n hx hb d_A_step_0 rfl (lv_at hl 0 rfl) ?_
    refine yr_get (C := R_A) (T := F_A) (N := 8) (ci := k_A) hx hb ht j_A hown hK.1 hw (by assumption) (by rfl) rfl 0 (by decide) (ht _ mf_A_9) (fun _ h9 => h9) (by rfl) d_A_step_1 ?_
    rw [hk]
    refine lv_tableIn (off := 91) (tgt := 95) hx hb d_A_step_4 (by decide +kernel) (by decide +kernel) (by decide +kernel) (by decide) ?_
    refine lv_aload_n hx hb d_A_step_95 rfl (lv_at hl 0 rfl) ?_
    refine lv_aload_n hx hb d_A_step_96 rfl (lv_at hl 0 rfl) ?_
    refine yc_i (va_runV (As := []) (rest := [.ref _]) ⟨hx, hb, hml, hown, hts⟩ (c_A_turn l D cc ad LL X b0 _ σ hL y i hy hn hi) (cwV 0 hts (yg_call mc_A_turn ml_A_56 mm_A_turn ms_A_turn mi_A) rfl rfl rfl (by decide +kernel) ⟨Nat.le_of_ble_eq_true rfl, Nat.le_of_ble_eq_true rfl⟩) (y_preV hI hw (y_recv hK.1 hw h5 (by rfl) rfl)) rfl rfl hl.1 rfl (lv_room (Nat.le_of_ble_eq_true rfl)) d_A_step_97 ⟨Nat.le_of_ble_eq_true rfl, Nat.le_of_ble_eq_true rfl⟩) hw hA (fun r u H locs he hw => ?_)
    subst he
    refine lv_aload_n hx hb d_A_step_100 rfl (lv_at hl 0 rfl) ?_
    refine lv_iconst (v := (nI 0)) hx hb d_A_step_101 (by decide) ?_
    refine yc_i (va_runV (As := [.int _]) (rest := [.int _, .ref _]) ⟨hx, hb, hml, hown, hts⟩ (c_A_take l D cc ad LL X b0 _ σ hL y i hy hn hi 0 (by omega) c0 e0 hp0) (cwV 1 hts (yg_call mc_A_take ml_A_71 mm_A_take ms_A_take mi_A) rfl rfl rfl (by decide +kernel) ⟨Nat.le_of_ble_eq_true rfl, Nat.le_of_ble_eq_true rfl⟩) (y_preV hI hw (y_recv hK.1 hw h5 (by rfl) rfl)) rfl rfl hl.1 rfl (lv_room (Nat.le_of_ble_eq_true rfl)) d_A_step_102 ⟨Nat.le_of_ble_eq_true rfl, Nat.le_of_ble_eq_true rfl⟩) hw hA (fun r u H locs he hw => ?_)
    subst he
    refine yc_v (va_runV (As := [.int _, .int _]) (rest := []) ⟨hx, hb, hml, hown, hts⟩ (c_A_give l D cc ad LL X b0 _ (yo_take σ y c0) hL1 y i hy hn hi1 ((s_ac σ y i).2.2.2.2 % 2) (Nat.mod_lt _ (by omega)) _) (cwV 2 hts (yg_call mc_A_give ml_A_67 mm_A_give ms_A_give mi_A) rfl rfl rfl (by decide +kernel) ⟨Nat.le_of_ble_eq_true rfl, Nat.le_of_ble_eq_true rfl⟩) (y_preV hI hw (y_recv hK.1 hw h5 (by rfl) rfl)) rfl rfl hl.1 rfl (lv_room (Nat.le_of_ble_eq_true rfl)) d_A_step_105 ⟨Nat.le_of_ble_eq_true rfl, Nat.le_of_ble_eq_true rfl⟩) hw hA (fun u H locs he hw => ?_)
    refine lv_goto (tgt := 239) hx hb d_A_step_108 (by decide) ?_
    have hw : yH D ycl (va_A (yW cc ad LL X σ) sz) sv.heap H locs (yW cc ad LL X (yo_give (yo_take σ y c0) y i ((s_ac σ y i).2.2.2.2 % 2) ((s_rg σ y c0 ((s_ch σ y c0).2.1 % 8))))) := hw
    have hac : s_ac (yo_give (yo_take σ y c0) y i ((s_ac σ y i).2.2.2.2 % 2) ((s_rg σ y c0 ((s_ch σ y c0).2.1 % 8)))) y i = s_ac σ y i := by rw [ac_give]; rfl
    refine lv_aload_n hx hb d_A_step_239 rfl (lv_at hl 0 rfl) ?_
    refine lv_dup hx hb d_A_step_240 rfl ?_
    refine yr_get (C := R_A) (T := F_A) (N := 8) (ci := k_A) hx hb ht j_A hown hK.1 hw (by assumption) (by rfl) rfl 7 (by decide) (ht _ mf_A_40) (fun _ h9 => h9) (by rfl) d_A_step_241 ?_
    rw [hac]
    refine lv_iconst (v := 1) hx hb d_A_step_244 (by decide) ?_
    refine lv_iadd hx hb d_A_step_245 ?_
    rw [nI_1]
    refine yr_put (ty := .int) (C := R_A) (T := F_A) (N := 8) (ci := k_A) hx hb ht j_A t_A t_A_ok n_A hown hK.1 hw (by assumption) (by rfl) rfl 7 (by decide) (ht _ mf_A_40) (fun _ h9 => h9) rfl (by decide +kernel) rfl rfl (Nat.le_of_ble_eq_true rfl) d_A_step_246 (fun H locs hw => ?_)
    have hw := yw_ac ((s_ac σ y i).1, (s_ac σ y i).2.1, (s_ac σ y i).2.2.1, (s_ac σ y i).2.2.2.1, (s_ac σ y i).2.2.2.2 + 1) hw (by rw [hac]) (by rw [hac]; rfl)
    have hw : yH D ycl (va_A (yW cc ad LL X σ) sz) sv.heap H locs (yW cc ad LL X (yo_tick (yo_give (yo_take σ y c0) y i ((s_ac σ y i).2.2.2.2 % 2) ((s_rg σ y c0 ((s_ch σ y c0).2.1 % 8)))) y i)) := by unfold yo_tick; rw [hac]; exact hw
    exact ye_v hI (yo_tick (yo_give (yo_take σ y c0) y i ((s_ac σ y i).2.2.2.2 % 2) ((s_rg σ y c0 ((s_ch σ y c0).2.1 % 8)))) y i) (yStp_mk hi hn (ypl2 (T := s_T σ y) h100 hk (yh_head e0 hp0)) (yX_take.tr yX_give) (T_give.trans T_take) (by rw [D_give hi1 hr, D_take hp0]; exact y2_fin e0 ((s_D σ y).1, (s_D σ y).2.1)) hac (by omega) (by rcases Nat.mod_two_eq_zero_or_one ((s_D σ y).1 i) with e | e <;> rw [e] <;> rfl) (I_give hi1 hr)) hw d_A_step_249
  · rw [yp_can3 (T := s_T σ y) h100 hk] at hc
    obtain ⟨q1, q2⟩ := (Bool.and_eq_true _ _).mp hc
    obtain ⟨c0, e0, hp0⟩ := yh_inv (j := (s_ac σ y i).2.2.2.2 % 2) q1
    have hr := yrm_take (c := c0) (yrm_of q2)
    have hi1 := I_take hi hp0
    have hL1 := (yX_take (σ := σ) (y := y) (c := c0)).L hL
    refine lv_aload_n hx hb d_A_step_0 rfl (lv_at hl 0 rfl) ?_
    refine yr_get (C := R_A) (T := F_A) (N := 8) (ci := k_A) hx hb ht j_A hown hK.1 hw (by assumption) (by rfl) rfl 0 (by decide) (ht _ mf_A_9) (fun _ h9 => h9) (by rfl) d_A_step_1 ?_
    rw [hk]
    refine lv_tableIn (off := 107) (tgt := 111) hx hb d_A_step_4 (by decide +kernel) (by decide +kernel) (by decide +kernel) (by decide) ?_
    refine lv_aload_n hx hb d_A_step_111 rfl (lv_at hl 0 rfl) ?_
    refine lv_iconst (v := (nI 0)) hx hb d_A_step_112 (by decide) ?_
    refine lv_aload_n hx hb d_A_step_113 rfl (lv_at hl 0 rfl) ?_
    refine lv_aload_n hx hb d_A_step_114 rfl (lv_at hl 0 rfl) ?_
    refine yc_i (va_runV (As := []) (rest := [.ref _, .int _, .ref _]) ⟨hx, hb, hml, hown, hts⟩ (c_A_turn l D cc ad LL X b0 _ σ hL y i hy hn hi) (cwV 0 hts (yg_call mc_A_turn ml_A_56 mm_A_turn ms_A_turn mi_A) rfl rfl rfl (by decide +kernel) ⟨Nat.le_of_ble_eq_true rfl, Nat.le_of_ble_eq_true rfl⟩) (y_preV hI hw (y_recv hK.1 hw h5 (by rfl) rfl)) rfl rfl hl.1 rfl (lv_room (Nat.le_of_ble_eq_true rfl)) d_A_step_115 ⟨Nat.le_of_ble_eq_true rfl, Nat.le_of_ble_eq_true rfl⟩) hw hA (fun r u H locs he hw => ?_)
    subst he
    refine yc_i (va_runV (As := [.int _]) (rest := [.int _, .ref _]) ⟨hx, hb, hml, hown, hts⟩ (c_A_take l D cc ad LL X b0 _ σ hL y i hy hn hi ((s_ac σ y i).2.2.2.2 % 2) (Nat.mod_lt _ (by omega)) c0 e0 hp0) (cwV 1 hts (yg_call mc_A_take ml_A_71 mm_A_take ms_A_take mi_A) rfl rfl rfl (by decide +kernel) ⟨Nat.le_of_ble_eq_true rfl, Nat.le_of_ble_eq_true rfl⟩) (y_preV hI hw (y_recv hK.1 hw h5 (by rfl) rfl)) rfl rfl hl.1 rfl (lv_room (Nat.le_of_ble_eq_true rfl)) d_A_step_118 ⟨Nat.le_of_ble_eq_true rfl, Nat.le_of_ble_eq_true rfl⟩) hw hA (fun r u H locs he hw => ?_)
    subst he
    refine yc_v (va_runV (As := [.int _, .int _]) (rest := []) ⟨hx, hb, hml, hown, hts⟩ (c_A_give l D cc ad LL X b0 _ (yo_take σ y c0) hL1 y i hy hn hi1 0 (by omega) _) (cwV 2 hts (yg_call mc_A_give ml_A_67 mm_A_give ms_A_give mi_A) rfl rfl rfl (by decide +kernel) ⟨Nat.le_of_ble_eq_true rfl, Nat.le_of_ble_eq_true rfl⟩) (y_preV hI hw (y_recv hK.1 hw h5 (by rfl) rfl)) rfl rfl hl.1 rfl (lv_room (Nat.le_of_ble_eq_true rfl)) d_A_step_121 ⟨Nat.le_of_ble_eq_true rfl, Nat.le_of_ble_eq_true rfl⟩) hw hA (fun u H locs he hw => ?_)
    refine lv_goto (tgt := 239) hx hb d_A_step_124 (by decide) ?_
    have hw : yH D ycl (va_A (yW cc ad LL X σ) sz) sv.heap H locs (yW cc ad LL X (yo_give (yo_take σ y c0) y i 0 ((s_rg σ y c0 ((s_ch σ y c0).2.1 % 8))))) := hw
    have hac : s_ac (yo_give (yo_take σ y c0) y i 0 ((s_rg σ y c0 ((s_ch σ y c0).2.1 % 8)))) y i = s_ac σ y i := by rw [ac_give]; rfl
    refine lv_aload_n hx hb d_A_step_239 rfl (lv_at hl 0 rfl) ?_
    refine lv_dup hx hb d_A_step_240 rfl ?_
    refine yr_get (C := R_A) (T := F_A) (N := 8) (ci := k_A) hx hb ht j_A hown hK.1 hw (by assumption) (by rfl) rfl 7 (by decide) (ht _ mf_A_40) (fun _ h9 => h9) (by rfl) d_A_step_241 ?_
    rw [hac]
    refine lv_iconst (v := 1) hx hb d_A_step_244 (by decide) ?_
    refine lv_iadd hx hb d_A_step_245 ?_
    rw [nI_1]
    refine yr_put (ty := .int) (C := R_A) (T := F_A) (N := 8) (ci := k_A) hx hb ht j_A t_A t_A_ok n_A hown hK.1 hw (by assumption) (by rfl) rfl 7 (by decide) (ht _ mf_A_40) (fun _ h9 => h9) rfl (by decide +kernel) rfl rfl (Nat.le_of_ble_eq_true rfl) d_A_step_246 (fun H locs hw => ?_)
    have hw := yw_ac ((s_ac σ y i).1, (s_ac σ y i).2.1, (s_ac σ y i).2.2.1, (s_ac σ y i).2.2.2.1, (s_ac σ y i).2.2.2.2 + 1) hw (by rw [hac]) (by rw [hac]; rfl)
    have hw : yH D ycl (va_A (yW cc ad LL X σ) sz) sv.heap H locs (yW cc ad LL X (yo_tick (yo_give (yo_take σ y c0) y i 0 ((s_rg σ y c0 ((s_ch σ y c0).2.1 % 8)))) y i)) := by unfold yo_tick; rw [hac]; exact hw
    exact ye_v hI (yo_tick (yo_give (yo_take σ y c0) y i 0 ((s_rg σ y c0 ((s_ch σ y c0).2.1 % 8)))) y i) (y3_fin hi hn h100 hk e0 hp0 hr hac) hw d_A_step_249
  · rw [yp_can4 (T := s_T σ y) h100 hk] at hc
    obtain ⟨q0, q2⟩ := (Bool.and_eq_true _ _).mp hc
    obtain ⟨q1, q3⟩ := (Bool.and_eq_true _ _).mp q0
    obtain ⟨c0, e0, hp0⟩ := yh_inv q1
    obtain ⟨c1, e1, hp1⟩ := yh_inv q3
    have hc1 := hv_take hi (show 0 ≠ 1 by omega) e0 e1 hp1
    have hp1t : 0 < (s_ch (yo_take σ y c0) y c1).2.2 := by rw [hc1]; exact hp1
    have hi1 := I_take hi hp0
    have hi2 := I_take hi1 hp1t
    have hL1 := (yX_take (σ := σ) (y := y) (c := c0)).L hL
    have hL2 := (yX_take (σ := yo_take σ y c0) (y := y) (c := c1)).L hL1
    have hr := yrm_take (c := c1) (yrm_take (c := c0) (yrm_of q2))
    refine lv_aload_n hx hb d_A_step_0 rfl (lv_at hl 0 rfl) ?_
    refine yr_get (C := R_A) (T := F_A) (N := 8) (ci := k_A) hx hb ht j_A hown hK.1 hw (by assumption) (by rfl) rfl 0 (by decide) (ht _ mf_A_9) (fun _ h9 => h9) (by rfl) d_A_step_1 ?_
    rw [hk]
    refine lv_tableIn (off := 123) (tgt := 127) hx hb d_A_step_4 (by decide +kernel) (by decide +kernel) (by decide +kernel) (by decide) ?_
    refine lv_aload_n hx hb d_A_step_127 rfl (lv_at hl 0 rfl) ?_
    refine lv_iconst (v := (nI 0)) hx hb d_A_step_128 (by decide) ?_
    refine lv_aload_n hx hb d_A_step_129 rfl (lv_at hl 0 rfl) ?_
    refine lv_iconst (v := (nI 0)) hx hb d_A_step_130 (by decide) ?_
    refine yc_i (va_runV (As := [.int _]) (rest := [.int _, .ref _]) ⟨hx, hb, hml, hown, hts⟩ (c_A_take l D cc ad LL X b0 _ σ hL y i hy hn hi 0 (by omega) c0 e0 hp0) (cwV 1 hts (yg_call mc_A_take ml_A_71 mm_A_take ms_A_take mi_A) rfl rfl rfl (by decide +kernel) ⟨Nat.le_of_ble_eq_true rfl, Nat.le_of_ble_eq_true rfl⟩) (y_preV hI hw (y_recv hK.1 hw h5 (by rfl) rfl)) rfl rfl hl.1 rfl (lv_room (Nat.le_of_ble_eq_true rfl)) d_A_step_131 ⟨Nat.le_of_ble_eq_true rfl, Nat.le_of_ble_eq_true rfl⟩) hw hA (fun r u H locs he hw => ?_)
    subst he
    refine lv_aload_n hx hb d_A_step_134 rfl (lv_at hl 0 rfl) ?_
    refine lv_iconst (v := (nI 1)) hx hb d_A_step_135 (by decide) ?_
    refine yc_i (va_runV (As := [.int _]) (rest := [.int _, .int _, .ref _]) ⟨hx, hb, hml, hown, hts⟩ (c_A_take l D cc ad LL X b0 _ (yo_take σ y c0) hL1 y i hy hn hi1 1 (by omega) c1 e1 hp1t) (cwV 1 hts (yg_call mc_A_take ml_A_71 mm_A_take ms_A_take mi_A) rfl rfl rfl (by decide +kernel) ⟨Nat.le_of_ble_eq_true rfl, Nat.le_of_ble_eq_true rfl⟩) (y_preV hI hw (y_recv hK.1 hw h5 (by rfl) rfl)) rfl rfl hl.1 rfl (lv_room (Nat.le_of_ble_eq_true rfl)) d_A_step_136 ⟨Nat.le_of_ble_eq_true rfl, Nat.le_of_ble_eq_true rfl⟩) hw hA (fun r u H locs he hw => ?_)
    subst he
    rw [hc1]
    refine lv_iadd hx hb d_A_step_139 ?_
    refine yc_v (va_runV (As := [.int _, .int _]) (rest := []) ⟨hx, hb, hml, hown, hts⟩ (c_A_give l D cc ad LL X b0 _ (yo_take (yo_take σ y c0) y c1) hL2 y i hy hn hi2 0 (by omega) _) (cwV 2 hts (yg_call mc_A_give ml_A_67 mm_A_give ms_A_give mi_A) rfl rfl rfl (by decide +kernel) ⟨Nat.le_of_ble_eq_true rfl, Nat.le_of_ble_eq_true rfl⟩) (y_preV hI hw (y_recv hK.1 hw h5 (by rfl) rfl)) rfl rfl hl.1 rfl (lv_room (Nat.le_of_ble_eq_true rfl)) d_A_step_140 ⟨Nat.le_of_ble_eq_true rfl, Nat.le_of_ble_eq_true rfl⟩) hw hA (fun u H locs he hw => ?_)
    refine lv_goto (tgt := 239) hx hb d_A_step_143 (by decide) ?_
    have hw : yH D ycl (va_A (yW cc ad LL X σ) sz) sv.heap H locs (yW cc ad LL X (yo_give (yo_take (yo_take σ y c0) y c1) y i 0 (((s_rg σ y c0 ((s_ch σ y c0).2.1 % 8))) + ((s_rg σ y c1 ((s_ch σ y c1).2.1 % 8)))))) := hw
    have hac : s_ac (yo_give (yo_take (yo_take σ y c0) y c1) y i 0 (((s_rg σ y c0 ((s_ch σ y c0).2.1 % 8))) + ((s_rg σ y c1 ((s_ch σ y c1).2.1 % 8))))) y i = s_ac σ y i := by rw [ac_give]; rfl
    refine lv_aload_n hx hb d_A_step_239 rfl (lv_at hl 0 rfl) ?_
    refine lv_dup hx hb d_A_step_240 rfl ?_
    refine yr_get (C := R_A) (T := F_A) (N := 8) (ci := k_A) hx hb ht j_A hown hK.1 hw (by assumption) (by rfl) rfl 7 (by decide) (ht _ mf_A_40) (fun _ h9 => h9) (by rfl) d_A_step_241 ?_
    rw [hac]
    refine lv_iconst (v := 1) hx hb d_A_step_244 (by decide) ?_
    refine lv_iadd hx hb d_A_step_245 ?_
    rw [nI_1]
    refine yr_put (ty := .int) (C := R_A) (T := F_A) (N := 8) (ci := k_A) hx hb ht j_A t_A t_A_ok n_A hown hK.1 hw (by assumption) (by rfl) rfl 7 (by decide) (ht _ mf_A_40) (fun _ h9 => h9) rfl (by decide +kernel) rfl rfl (Nat.le_of_ble_eq_true rfl) d_A_step_246 (fun H locs hw => ?_)
    have hw := yw_ac ((s_ac σ y i).1, (s_ac σ y i).2.1, (s_ac σ y i).2.2.1, (s_ac σ y i).2.2.2.1, (s_ac σ y i).2.2.2.2 + 1) hw (by rw [hac]) (by rw [hac]; rfl)
    have hw : yH D ycl (va_A (yW cc ad LL X σ) sz) sv.heap H locs (yW cc ad LL X (yo_tick (yo_give (yo_take (yo_take σ y c0) y c1) y i 0 (((s_rg σ y c0 ((s_ch σ y c0).2.1 % 8))) + ((s_rg σ y c1 ((s_ch σ y c1).2.1 % 8))))) y i)) := by unfold yo_tick; rw [hac]; exact hw
    exact ye_v hI (yo_tick (yo_give (yo_take (yo_take σ y c0) y c1) y i 0 (((s_rg σ y c0 ((s_ch σ y c0).2.1 % 8))) + ((s_rg σ y c1 ((s_ch σ y c1).2.1 % 8))))) y i) (yStp_mk hi hn (ypl4 (T := s_T σ y) h100 hk (yh_head e0 hp0) (yh_head e1 hp1)) ((yX_take.tr yX_take).tr yX_give) (T_give.trans (T_take.trans T_take)) (by rw [D_give hi2 hr, D_take hp1t, D_take hp0, yq_gv_n, e0, e1]; try rfl) hac (by omega) rfl (I_give hi2 hr)) hw d_A_step_249
  · rw [yp_can5 (T := s_T σ y) h100 hk] at hc
    obtain ⟨q1, q2⟩ := (Bool.and_eq_true _ _).mp hc
    have hr0 := yrm_of q2
    by_cases h0 : (s_ac σ y i).2.2.2.2 = 0
    · refine lv_aload_n hx hb d_A_step_0 rfl (lv_at hl 0 rfl) ?_
      refine yr_get (C := R_A) (T := F_A) (N := 8) (ci := k_A) hx hb ht j_A hown hK.1 hw (by assumption) (by rfl) rfl 0 (by decide) (ht _ mf_A_9) (fun _ h9 => h9) (by rfl) d_A_step_1 ?_
      rw [hk]
      refine lv_tableIn (off := 142) (tgt := 146) hx hb d_A_step_4 (by decide +kernel) (by decide +kernel) (by decide +kernel) (by decide) ?_
      refine lv_aload_n hx hb d_A_step_146 rfl (lv_at hl 0 rfl) ?_
      refine lv_iconst (v := (nI 0)) hx hb d_A_step_147 (by decide) ?_
      refine lv_aload_n hx hb d_A_step_148 rfl (lv_at hl 0 rfl) ?_
      refine yr_get (C := R_A) (T := F_A) (N := 8) (ci := k_A) hx hb ht j_A hown hK.1 hw (by assumption) (by rfl) rfl 7 (by decide) (ht _ mf_A_40) (fun _ h9 => h9) (by rfl) d_A_step_149 ?_
      refine lv_if_ne (tgt := 162) hx hb d_A_step_152 (by decide) (fun c_152 => by exact absurd (by rw [h0]; rfl) c_152) (fun c_152 => ?_)
      refine lv_aload_n hx hb d_A_step_155 rfl (lv_at hl 0 rfl) ?_
      refine yr_get (C := R_A) (T := F_A) (N := 8) (ci := k_A) hx hb ht j_A hown hK.1 hw (by assumption) (by rfl) rfl 1 (by decide) (ht _ mf_A_15) (fun _ h9 => h9) (by rfl) d_A_step_156 ?_
      refine lv_goto (tgt := 167) hx hb d_A_step_159 (by decide) ?_
      refine yc_v (va_runV (As := [.int _, .int _]) (rest := []) ⟨hx, hb, hml, hown, hts⟩ (c_A_give l D cc ad LL X b0 _ σ hL y i hy hn hi 0 (by omega) _) (cwV 2 hts (yg_call mc_A_give ml_A_67 mm_A_give ms_A_give mi_A) rfl rfl rfl (by decide +kernel) ⟨Nat.le_of_ble_eq_true rfl, Nat.le_of_ble_eq_true rfl⟩) (y_preV hI hw (y_recv hK.1 hw h5 (by rfl) rfl)) rfl rfl hl.1 rfl (lv_room (Nat.le_of_ble_eq_true rfl)) d_A_step_167 ⟨Nat.le_of_ble_eq_true rfl, Nat.le_of_ble_eq_true rfl⟩) hw hA (fun u H locs he hw => ?_)
      refine lv_goto (tgt := 239) hx hb d_A_step_170 (by decide) ?_
      have hw : yH D ycl (va_A (yW cc ad LL X σ) sz) sv.heap H locs (yW cc ad LL X (yo_give σ y i 0 (s_ac σ y i).2.1)) := hw
      have hac : s_ac (yo_give σ y i 0 (s_ac σ y i).2.1) y i = s_ac σ y i := by rw [ac_give]
      refine lv_aload_n hx hb d_A_step_239 rfl (lv_at hl 0 rfl) ?_
      refine lv_dup hx hb d_A_step_240 rfl ?_
      refine yr_get (C := R_A) (T := F_A) (N := 8) (ci := k_A) hx hb ht j_A hown hK.1 hw (by assumption) (by rfl) rfl 7 (by decide) (ht _ mf_A_40) (fun _ h9 => h9) (by rfl) d_A_step_241 ?_
      rw [hac]
      refine lv_iconst (v := 1) hx hb d_A_step_244 (by decide) ?_
      refine lv_iadd hx hb d_A_step_245 ?_
      rw [nI_1]
      refine yr_put (ty := .int) (C := R_A) (T := F_A) (N := 8) (ci := k_A) hx hb ht j_A t_A t_A_ok n_A hown hK.1 hw (by assumption) (by rfl) rfl 7 (by decide) (ht _ mf_A_40) (fun _ h9 => h9) rfl (by decide +kernel) rfl rfl (Nat.le_of_ble_eq_true rfl) d_A_step_246 (fun H locs hw => ?_)
      have hw := yw_ac ((s_ac σ y i).1, (s_ac σ y i).2.1, (s_ac σ y i).2.2.1, (s_ac σ y i).2.2.2.1, (s_ac σ y i).2.2.2.2 + 1) hw (by rw [hac]) (by rw [hac]; rfl)
      have hw : yH D ycl (va_A (yW cc ad LL X σ) sz) sv.heap H locs (yW cc ad LL X (yo_tick (yo_give σ y i 0 (s_ac σ y i).2.1) y i)) := by unfold yo_tick; rw [hac]; exact hw
      exact ye_v hI (yo_tick (yo_give σ y i 0 (s_ac σ y i).2.1) y i) (yStp_mk hi hn (ypl5a (T := s_T σ y) h100 hk h0) yX_give T_give (by rw [D_give hi hr0, yq_gv_n, yq_tk_f, yq_tk_f]; try rfl) hac (by omega) rfl (I_give hi hr0)) hw d_A_step_249
    · have q1 : (yp_hd (s_T σ y) (s_D σ y) i 0).isSome = true := by
        rcases (Bool.or_eq_true _ _).mp q1 with h | h
        · exact absurd (of_decide_eq_true h) h0
        · exact h
      obtain ⟨c0, e0, hp0⟩ := yh_inv q1
      have hr := yrm_take (c := c0) hr0
      have hi1 := I_take hi hp0
      have hL1 := (yX_take (σ := σ) (y := y) (c := c0)).L hL
      refine lv_aload_n hx hb d_A_step_0 rfl (lv_at hl 0 rfl) ?_
      refine yr_get (C := R_A) (T := F_A) (N := 8) (ci := k_A) hx hb ht j_A hown hK.1 hw (by assumption) (by rfl) rfl 0 (by decide) (ht _ mf_A_9) (fun _ h9 => h9) (by rfl) d_A_step_1 ?_
      rw [hk]
      refine lv_tableIn (off := 142) (tgt := 146) hx hb d_A_step_4 (by decide +kernel) (by decide +kernel) (by decide +kernel) (by decide) ?_
      refine lv_aload_n hx hb d_A_step_146 rfl (lv_at hl 0 rfl) ?_
      refine lv_iconst (v := (nI 0)) hx hb d_A_step_147 (by decide) ?_
      refine lv_aload_n hx hb d_A_step_148 rfl (lv_at hl 0 rfl) ?_
      refine yr_get (C := R_A) (T := F_A) (N := 8) (ci := k_A) hx hb ht j_A hown hK.1 hw (by assumption) (by rfl) rfl 7 (by decide) (ht _ mf_A_40) (fun _ h9 => h9) (by rfl) d_A_step_149 ?_
      refine lv_if_ne (tgt := 162) hx hb d_A_step_152 (by decide) (fun c_152 => ?_) (fun c_152 => by exact absurd ((nI_eq (by omega) (by omega)).mp (c_152.trans nI_0.symm)) h0)
      refine lv_aload_n hx hb d_A_step_162 rfl (lv_at hl 0 rfl) ?_
      refine lv_iconst (v := (nI 0)) hx hb d_A_step_163 (by decide) ?_
      refine yc_i (va_runV (As := [.int _]) (rest := [.int _, .ref _]) ⟨hx, hb, hml, hown, hts⟩ (c_A_take l D cc ad LL X b0 _ σ hL y i hy hn hi 0 (by omega) c0 e0 hp0) (cwV 1 hts (yg_call mc_A_take ml_A_71 mm_A_take ms_A_take mi_A) rfl rfl rfl (by decide +kernel) ⟨Nat.le_of_ble_eq_true rfl, Nat.le_of_ble_eq_true rfl⟩) (y_preV hI hw (y_recv hK.1 hw h5 (by rfl) rfl)) rfl rfl hl.1 rfl (lv_room (Nat.le_of_ble_eq_true rfl)) d_A_step_164 ⟨Nat.le_of_ble_eq_true rfl, Nat.le_of_ble_eq_true rfl⟩) hw hA (fun r u H locs he hw => ?_)
      subst he
      refine yc_v (va_runV (As := [.int _, .int _]) (rest := []) ⟨hx, hb, hml, hown, hts⟩ (c_A_give l D cc ad LL X b0 _ (yo_take σ y c0) hL1 y i hy hn hi1 0 (by omega) _) (cwV 2 hts (yg_call mc_A_give ml_A_67 mm_A_give ms_A_give mi_A) rfl rfl rfl (by decide +kernel) ⟨Nat.le_of_ble_eq_true rfl, Nat.le_of_ble_eq_true rfl⟩) (y_preV hI hw (y_recv hK.1 hw h5 (by rfl) rfl)) rfl rfl hl.1 rfl (lv_room (Nat.le_of_ble_eq_true rfl)) d_A_step_167 ⟨Nat.le_of_ble_eq_true rfl, Nat.le_of_ble_eq_true rfl⟩) hw hA (fun u H locs he hw => ?_)
      refine lv_goto (tgt := 239) hx hb d_A_step_170 (by decide) ?_
      have hw : yH D ycl (va_A (yW cc ad LL X σ) sz) sv.heap H locs (yW cc ad LL X (yo_give (yo_take σ y c0) y i 0 ((s_rg σ y c0 ((s_ch σ y c0).2.1 % 8))))) := hw
      have hac : s_ac (yo_give (yo_take σ y c0) y i 0 ((s_rg σ y c0 ((s_ch σ y c0).2.1 % 8)))) y i = s_ac σ y i := by rw [ac_give]; rfl
      refine lv_aload_n hx hb d_A_step_239 rfl (lv_at hl 0 rfl) ?_
      refine lv_dup hx hb d_A_step_240 rfl ?_
      refine yr_get (C := R_A) (T := F_A) (N := 8) (ci := k_A) hx hb ht j_A hown hK.1 hw (by assumption) (by rfl) rfl 7 (by decide) (ht _ mf_A_40) (fun _ h9 => h9) (by rfl) d_A_step_241 ?_
      rw [hac]
      refine lv_iconst (v := 1) hx hb d_A_step_244 (by decide) ?_
      refine lv_iadd hx hb d_A_step_245 ?_
      rw [nI_1]
      refine yr_put (ty := .int) (C := R_A) (T := F_A) (N := 8) (ci := k_A) hx hb ht j_A t_A t_A_ok n_A hown hK.1 hw (by assumption) (by rfl) rfl 7 (by decide) (ht _ mf_A_40) (fun _ h9 => h9) rfl (by decide +kernel) rfl rfl (Nat.le_of_ble_eq_true rfl) d_A_step_246 (fun H locs hw => ?_)
      have hw := yw_ac ((s_ac σ y i).1, (s_ac σ y i).2.1, (s_ac σ y i).2.2.1, (s_ac σ y i).2.2.2.1, (s_ac σ y i).2.2.2.2 + 1) hw (by rw [hac]) (by rw [hac]; rfl)
      have hw : yH D ycl (va_A (yW cc ad LL X σ) sz) sv.heap H locs (yW cc ad LL X (yo_tick (yo_give (yo_take σ y c0) y i 0 ((s_rg σ y c0 ((s_ch σ y c0).2.1 % 8)))) y i)) := by unfold yo_tick; rw [hac]; exact hw
      exact ye_v hI (yo_tick (yo_give (yo_take σ y c0) y i 0 ((s_rg σ y c0 ((s_ch σ y c0).2.1 % 8)))) y i) (yStp_mk hi hn (ypl5b (T := s_T σ y) h100 hk h0 (yh_head e0 hp0)) (yX_take.tr yX_give) (T_give.trans T_take) (by rw [D_give hi1 hr, D_take hp0, yq_gv_n, yq_tk_f, e0]; try rfl) hac (by omega) rfl (I_give hi1 hr)) hw d_A_step_249
  · rw [yp_can6 (T := s_T σ y) h100 hk] at hc
    obtain ⟨q1, q2⟩ := (Bool.and_eq_true _ _).mp hc
    obtain ⟨c0, e0, hp0⟩ := yh_inv q1
    have h60 : (s_ac σ y i).2.2.2.2 < 60 := of_decide_eq_true q2
    have hi1 := I_take hi hp0
    have hL1 := (yX_take (σ := σ) (y := y) (c := c0)).L hL
    have ht2 : (s_ac σ y i).2.2.2.2 < yt_rows (s_ac σ y i).1 := by rw [hk]; show _ < 60; omega
    refine lv_aload_n hx hb d_A_step_0 rfl (lv_at hl 0 rfl) ?_
    refine yr_get (C := R_A) (T := F_A) (N := 8) (ci := k_A) hx hb ht j_A hown hK.1 hw (by assumption) (by rfl) rfl 0 (by decide) (ht _ mf_A_9) (fun _ h9 => h9) (by rfl) d_A_step_1 ?_
    rw [hk]
    refine lv_tableIn (off := 169) (tgt := 173) hx hb d_A_step_4 (by decide +kernel) (by decide +kernel) (by decide +kernel) (by decide) ?_
    refine lv_aload_n hx hb d_A_step_173 rfl (lv_at hl 0 rfl) ?_
    refine lv_aload_n hx hb d_A_step_174 rfl (lv_at hl 0 rfl) ?_
    refine lv_iconst (v := (nI 0)) hx hb d_A_step_175 (by decide) ?_
    refine yc_i (va_runV (As := [.int _]) (rest := [.ref _]) ⟨hx, hb, hml, hown, hts⟩ (c_A_take l D cc ad LL X b0 _ σ hL y i hy hn hi 0 (by omega) c0 e0 hp0) (cwV 1 hts (yg_call mc_A_take ml_A_71 mm_A_take ms_A_take mi_A) rfl rfl rfl (by decide +kernel) ⟨Nat.le_of_ble_eq_true rfl, Nat.le_of_ble_eq_true rfl⟩) (y_preV hI hw (y_recv hK.1 hw h5 (by rfl) rfl)) rfl rfl hl.1 rfl (lv_room (Nat.le_of_ble_eq_true rfl)) d_A_step_176 ⟨Nat.le_of_ble_eq_true rfl, Nat.le_of_ble_eq_true rfl⟩) hw hA (fun r u H locs he hw => ?_)
    subst he
    refine yc_v (va_runV (As := [.int _]) (rest := []) ⟨hx, hb, hml, hown, hts⟩ (c_A_keep l D cc ad LL X b0 _ (yo_take σ y c0) hL1 y i hy hn hi1 _ ht2) (cwV 1 hts (yg_call mc_A_keep ml_A_74 mm_A_keep ms_A_keep mi_A) rfl rfl rfl (by decide +kernel) ⟨Nat.le_of_ble_eq_true rfl, Nat.le_of_ble_eq_true rfl⟩) (y_preV hI hw (y_recv hK.1 hw h5 (by rfl) rfl)) rfl rfl hl.1 rfl (lv_room (Nat.le_of_ble_eq_true rfl)) d_A_step_179 ⟨Nat.le_of_ble_eq_true rfl, Nat.le_of_ble_eq_true rfl⟩) hw hA (fun u H locs he hw => ?_)
    refine lv_goto (tgt := 239) hx hb d_A_step_182 (by decide) ?_
    have hw : yH D ycl (va_A (yW cc ad LL X σ) sz) sv.heap H locs (yW cc ad LL X (yo_keep (yo_take σ y c0) y i ((s_rg σ y c0 ((s_ch σ y c0).2.1 % 8))))) := hw
    have hac : s_ac (yo_keep (yo_take σ y c0) y i ((s_rg σ y c0 ((s_ch σ y c0).2.1 % 8)))) y i = s_ac σ y i := rfl
    refine lv_aload_n hx hb d_A_step_239 rfl (lv_at hl 0 rfl) ?_
    refine lv_dup hx hb d_A_step_240 rfl ?_
    refine yr_get (C := R_A) (T := F_A) (N := 8) (ci := k_A) hx hb ht j_A hown hK.1 hw (by assumption) (by rfl) rfl 7 (by decide) (ht _ mf_A_40) (fun _ h9 => h9) (by rfl) d_A_step_241 ?_
    rw [hac]
    refine lv_iconst (v := 1) hx hb d_A_step_244 (by decide) ?_
    refine lv_iadd hx hb d_A_step_245 ?_
    rw [nI_1]
    refine yr_put (ty := .int) (C := R_A) (T := F_A) (N := 8) (ci := k_A) hx hb ht j_A t_A t_A_ok n_A hown hK.1 hw (by assumption) (by rfl) rfl 7 (by decide) (ht _ mf_A_40) (fun _ h9 => h9) rfl (by decide +kernel) rfl rfl (Nat.le_of_ble_eq_true rfl) d_A_step_246 (fun H locs hw => ?_)
    have hw := yw_ac ((s_ac σ y i).1, (s_ac σ y i).2.1, (s_ac σ y i).2.2.1, (s_ac σ y i).2.2.2.1, (s_ac σ y i).2.2.2.2 + 1) hw (by rw [hac]) (by rw [hac]; rfl)
    have hw : yH D ycl (va_A (yW cc ad LL X σ) sz) sv.heap H locs (yW cc ad LL X (yo_tick (yo_keep (yo_take σ y c0) y i ((s_rg σ y c0 ((s_ch σ y c0).2.1 % 8)))) y i)) := by unfold yo_tick; rw [hac]; exact hw
    exact ye_v hI (yo_tick (yo_keep (yo_take σ y c0) y i ((s_rg σ y c0 ((s_ch σ y c0).2.1 % 8)))) y i) (yStp_mk6 hi hn hk h60 (ypl6 (T := s_T σ y) h100 hk h60 (yh_head e0 hp0)) e0 hp0 rfl) hw d_A_step_249
  · rw [yp_can7 (T := s_T σ y) h100 hk] at hc
    obtain ⟨q0, q2⟩ := (Bool.and_eq_true _ _).mp hc
    obtain ⟨q1, q3⟩ := (Bool.and_eq_true _ _).mp q0
    obtain ⟨c0, e0, hp0⟩ := yh_inv q1
    obtain ⟨c1, e1, hp1⟩ := yh_inv q3
    have hc1 := hv_take hi (show 0 ≠ 1 by omega) e0 e1 hp1
    have hp1t : 0 < (s_ch (yo_take σ y c0) y c1).2.2 := by rw [hc1]; exact hp1
    have hi1 := I_take hi hp0
    have hi2 := I_take hi1 hp1t
    have hL1 := (yX_take (σ := σ) (y := y) (c := c0)).L hL
    have hL2 := (yX_take (σ := yo_take σ y c0) (y := y) (c := c1)).L hL1
    have hpl := ypl7 (T := s_T σ y) h100 hk (yh_head e0 hp0) (yh_head e1 hp1)
    by_cases h0 : ((s_rg σ y c0 ((s_ch σ y c0).2.1 % 8))) = 0
    · rw [if_pos h0] at hpl
      refine lv_aload_n hx hb d_A_step_0 rfl (lv_at hl 0 rfl) ?_
      refine yr_get (C := R_A) (T := F_A) (N := 8) (ci := k_A) hx hb ht j_A hown hK.1 hw (by assumption) (by rfl) rfl 0 (by decide) (ht _ mf_A_9) (fun _ h9 => h9) (by rfl) d_A_step_1 ?_
      rw [hk]
      refine lv_tableIn (off := 181) (tgt := 185) hx hb d_A_step_4 (by decide +kernel) (by decide +kernel) (by decide +kernel) (by decide) ?_
      refine lv_aload_n hx hb d_A_step_185 rfl (lv_at hl 0 rfl) ?_
      refine lv_iconst (v := (nI 0)) hx hb d_A_step_186 (by decide) ?_
      refine yc_i (va_runV (As := [.int _]) (rest := []) ⟨hx, hb, hml, hown, hts⟩ (c_A_take l D cc ad LL X b0 _ σ hL y i hy hn hi 0 (by omega) c0 e0 hp0) (cwV 1 hts (yg_call mc_A_take ml_A_71 mm_A_take ms_A_take mi_A) rfl rfl rfl (by decide +kernel) ⟨Nat.le_of_ble_eq_true rfl, Nat.le_of_ble_eq_true rfl⟩) (y_preV hI hw (y_recv hK.1 hw h5 (by rfl) rfl)) rfl rfl hl.1 rfl (lv_room (Nat.le_of_ble_eq_true rfl)) d_A_step_187 ⟨Nat.le_of_ble_eq_true rfl, Nat.le_of_ble_eq_true rfl⟩) hw hA (fun r u H locs he hw => ?_)
      subst he
      refine lv_if_eq (tgt := 197) hx hb d_A_step_190 (by decide) (fun c_190 => ?_) (fun c_190 => by exact absurd h0 c_190)
      refine lv_iconst (v := 0) hx hb d_A_step_197 (by decide) ?_
      refine lv_istore_n (lv' := [(1, .int _), (0, .ref _)]) hx hb d_A_step_198 rfl hl (by decide) rfl (fun ls hl => ?_)
      refine lv_aload_n hx hb d_A_step_199 rfl (lv_at hl 1 rfl) ?_
      refine lv_iconst (v := (nI 1)) hx hb d_A_step_200 (by decide) ?_
      refine yc_i (va_runV (As := [.int _]) (rest := []) ⟨hx, hb, hml, hown, hts⟩ (c_A_take l D cc ad LL X b0 _ (yo_take σ y c0) hL1 y i hy hn hi1 1 (by omega) c1 e1 hp1t) (cwV 1 hts (yg_call mc_A_take ml_A_71 mm_A_take ms_A_take mi_A) rfl rfl rfl (by decide +kernel) ⟨Nat.le_of_ble_eq_true rfl, Nat.le_of_ble_eq_true rfl⟩) (y_preV hI hw (y_recv hK.1 hw h5 (by rfl) rfl)) rfl rfl hl.1 rfl (lv_room (Nat.le_of_ble_eq_true rfl)) d_A_step_201 ⟨Nat.le_of_ble_eq_true rfl, Nat.le_of_ble_eq_true rfl⟩) hw hA (fun r u H locs he hw => ?_)
      subst he
      rw [hc1]
      refine lv_istore_n (lv' := [(2, .int _), (1, .int _), (0, .ref _)]) hx hb d_A_step_204 rfl hl (by decide) rfl (fun ls hl => ?_)
      refine lv_iload_n hx hb d_A_step_205 rfl (lv_at hl 1 rfl) ?_
      refine lv_if_eq (tgt := 239) hx hb d_A_step_206 (by decide) (fun c_206 => ?_) (fun c_206 => by exact absurd rfl c_206)
      have hw : yH D ycl (va_A (yW cc ad LL X σ) sz) sv.heap H locs (yW cc ad LL X (yo_take (yo_take σ y c0) y c1)) := hw
      have hac : s_ac (yo_take (yo_take σ y c0) y c1) y i = s_ac σ y i := rfl
      refine lv_aload_n hx hb d_A_step_239 rfl (lv_at hl 2 rfl) ?_
      refine lv_dup hx hb d_A_step_240 rfl ?_
      refine yr_get (C := R_A) (T := F_A) (N := 8) (ci := k_A) hx hb ht j_A hown hK.1 hw (by assumption) (by rfl) rfl 7 (by decide) (ht _ mf_A_40) (fun _ h9 => h9) (by rfl) d_A_step_241 ?_
      rw [hac]
      refine lv_iconst (v := 1) hx hb d_A_step_244 (by decide) ?_
      refine lv_iadd hx hb d_A_step_245 ?_
      rw [nI_1]
      refine yr_put (ty := .int) (C := R_A) (T := F_A) (N := 8) (ci := k_A) hx hb ht j_A t_A t_A_ok n_A hown hK.1 hw (by assumption) (by rfl) rfl 7 (by decide) (ht _ mf_A_40) (fun _ h9 => h9) rfl (by decide +kernel) rfl rfl (Nat.le_of_ble_eq_true rfl) d_A_step_246 (fun H locs hw => ?_)
      have hw := yw_ac ((s_ac σ y i).1, (s_ac σ y i).2.1, (s_ac σ y i).2.2.1, (s_ac σ y i).2.2.2.1, (s_ac σ y i).2.2.2.2 + 1) hw (by rw [hac]) (by rw [hac]; rfl)
      have hw : yH D ycl (va_A (yW cc ad LL X σ) sz) sv.heap H locs (yW cc ad LL X (yo_tick (yo_take (yo_take σ y c0) y c1) y i)) := by unfold yo_tick; rw [hac]; exact hw
      exact ye_v hI (yo_tick (yo_take (yo_take σ y c0) y c1) y i) (yStp_mk hi hn hpl (yX_take.tr yX_take) (T_take.trans T_take) (by rw [D_take hp1t, D_take hp0, yq_gv_n, yq_gv_n, e0, e1]; try rfl) hac (by omega) rfl hi2) hw d_A_step_249
    · rw [if_neg h0] at hpl
      have q2 : yp_roomb (s_T σ y) (s_D σ y) i 0 = true := by
        rcases (Bool.or_eq_true _ _).mp q2 with h | h
        · have h := of_decide_eq_true h
          rw [yh_head e0 hp0] at h
          exact absurd (Option.some.inj h) h0
        · exact h
      have hr := yrm_take (c := c1) (yrm_take (c := c0) (yrm_of q2))
      refine lv_aload_n hx hb d_A_step_0 rfl (lv_at hl 0 rfl) ?_
      refine yr_get (C := R_A) (T := F_A) (N := 8) (ci := k_A) hx hb ht j_A hown hK.1 hw (by assumption) (by rfl) rfl 0 (by decide) (ht _ mf_A_9) (fun _ h9 => h9) (by rfl) d_A_step_1 ?_
      rw [hk]
      refine lv_tableIn (off := 181) (tgt := 185) hx hb d_A_step_4 (by decide +kernel) (by decide +kernel) (by decide +kernel) (by decide) ?_
      refine lv_aload_n hx hb d_A_step_185 rfl (lv_at hl 0 rfl) ?_
      refine lv_iconst (v := (nI 0)) hx hb d_A_step_186 (by decide) ?_
      refine yc_i (va_runV (As := [.int _]) (rest := []) ⟨hx, hb, hml, hown, hts⟩ (c_A_take l D cc ad LL X b0 _ σ hL y i hy hn hi 0 (by omega) c0 e0 hp0) (cwV 1 hts (yg_call mc_A_take ml_A_71 mm_A_take ms_A_take mi_A) rfl rfl rfl (by decide +kernel) ⟨Nat.le_of_ble_eq_true rfl, Nat.le_of_ble_eq_true rfl⟩) (y_preV hI hw (y_recv hK.1 hw h5 (by rfl) rfl)) rfl rfl hl.1 rfl (lv_room (Nat.le_of_ble_eq_true rfl)) d_A_step_187 ⟨Nat.le_of_ble_eq_true rfl, Nat.le_of_ble_eq_true rfl⟩) hw hA (fun r u H locs he hw => ?_)
      subst he
      refine lv_if_eq (tgt := 197) hx hb d_A_step_190 (by decide) (fun c_190 => by exact absurd c_190 h0) (fun c_190 => ?_)
      refine lv_iconst (v := 1) hx hb d_A_step_193 (by decide) ?_
      refine lv_goto (tgt := 198) hx hb d_A_step_194 (by decide) ?_
      refine lv_istore_n (lv' := [(1, .int _), (0, .ref _)]) hx hb d_A_step_198 rfl hl (by decide) rfl (fun ls hl => ?_)
      refine lv_aload_n hx hb d_A_step_199 rfl (lv_at hl 1 rfl) ?_
      refine lv_iconst (v := (nI 1)) hx hb d_A_step_200 (by decide) ?_
      refine yc_i (va_runV (As := [.int _]) (rest := []) ⟨hx, hb, hml, hown, hts⟩ (c_A_take l D cc ad LL X b0 _ (yo_take σ y c0) hL1 y i hy hn hi1 1 (by omega) c1 e1 hp1t) (cwV 1 hts (yg_call mc_A_take ml_A_71 mm_A_take ms_A_take mi_A) rfl rfl rfl (by decide +kernel) ⟨Nat.le_of_ble_eq_true rfl, Nat.le_of_ble_eq_true rfl⟩) (y_preV hI hw (y_recv hK.1 hw h5 (by rfl) rfl)) rfl rfl hl.1 rfl (lv_room (Nat.le_of_ble_eq_true rfl)) d_A_step_201 ⟨Nat.le_of_ble_eq_true rfl, Nat.le_of_ble_eq_true rfl⟩) hw hA (fun r u H locs he hw => ?_)
      subst he
      rw [hc1]
      refine lv_istore_n (lv' := [(2, .int _), (1, .int _), (0, .ref _)]) hx hb d_A_step_204 rfl hl (by decide) rfl (fun ls hl => ?_)
      refine lv_iload_n hx hb d_A_step_205 rfl (lv_at hl 1 rfl) ?_
      refine lv_if_eq (tgt := 239) hx hb d_A_step_206 (by decide) (fun c_206 => by exact absurd c_206 (by decide)) (fun c_206 => ?_)
      refine lv_aload_n hx hb d_A_step_209 rfl (lv_at hl 2 rfl) ?_
      refine lv_iconst (v := (nI 0)) hx hb d_A_step_210 (by decide) ?_
      refine lv_iload_n hx hb d_A_step_211 rfl (lv_at hl 0 rfl) ?_
      refine yc_v (va_runV (As := [.int _, .int _]) (rest := []) ⟨hx, hb, hml, hown, hts⟩ (c_A_give l D cc ad LL X b0 _ (yo_take (yo_take σ y c0) y c1) hL2 y i hy hn hi2 0 (by omega) _) (cwV 2 hts (yg_call mc_A_give ml_A_67 mm_A_give ms_A_give mi_A) rfl rfl rfl (by decide +kernel) ⟨Nat.le_of_ble_eq_true rfl, Nat.le_of_ble_eq_true rfl⟩) (y_preV hI hw (y_recv hK.1 hw h5 (by rfl) rfl)) rfl rfl hl.1 rfl (lv_room (Nat.le_of_ble_eq_true rfl)) d_A_step_212 ⟨Nat.le_of_ble_eq_true rfl, Nat.le_of_ble_eq_true rfl⟩) hw hA (fun u H locs he hw => ?_)
      refine lv_goto (tgt := 239) hx hb d_A_step_215 (by decide) ?_
      have hw : yH D ycl (va_A (yW cc ad LL X σ) sz) sv.heap H locs (yW cc ad LL X (yo_give (yo_take (yo_take σ y c0) y c1) y i 0 ((s_rg σ y c1 ((s_ch σ y c1).2.1 % 8))))) := hw
      have hac : s_ac (yo_give (yo_take (yo_take σ y c0) y c1) y i 0 ((s_rg σ y c1 ((s_ch σ y c1).2.1 % 8)))) y i = s_ac σ y i := by rw [ac_give]; rfl
      refine lv_aload_n hx hb d_A_step_239 rfl (lv_at hl 2 rfl) ?_
      refine lv_dup hx hb d_A_step_240 rfl ?_
      refine yr_get (C := R_A) (T := F_A) (N := 8) (ci := k_A) hx hb ht j_A hown hK.1 hw (by assumption) (by rfl) rfl 7 (by decide) (ht _ mf_A_40) (fun _ h9 => h9) (by rfl) d_A_step_241 ?_
      rw [hac]
      refine lv_iconst (v := 1) hx hb d_A_step_244 (by decide) ?_
      refine lv_iadd hx hb d_A_step_245 ?_
      rw [nI_1]
      refine yr_put (ty := .int) (C := R_A) (T := F_A) (N := 8) (ci := k_A) hx hb ht j_A t_A t_A_ok n_A hown hK.1 hw (by assumption) (by rfl) rfl 7 (by decide) (ht _ mf_A_40) (fun _ h9 => h9) rfl (by decide +kernel) rfl rfl (Nat.le_of_ble_eq_true rfl) d_A_step_246 (fun H locs hw => ?_)
      have hw := yw_ac ((s_ac σ y i).1, (s_ac σ y i).2.1, (s_ac σ y i).2.2.1, (s_ac σ y i).2.2.2.1, (s_ac σ y i).2.2.2.2 + 1) hw (by rw [hac]) (by rw [hac]; rfl)
      have hw : yH D ycl (va_A (yW cc ad LL X σ) sz) sv.heap H locs (yW cc ad LL X (yo_tick (yo_give (yo_take (yo_take σ y c0) y c1) y i 0 ((s_rg σ y c1 ((s_ch σ y c1).2.1 % 8)))) y i)) := by unfold yo_tick; rw [hac]; exact hw
      exact ye_v hI (yo_tick (yo_give (yo_take (yo_take σ y c0) y c1) y i 0 ((s_rg σ y c1 ((s_ch σ y c1).2.1 % 8)))) y i) (yStp_mk hi hn hpl ((yX_take.tr yX_take).tr yX_give) (T_give.trans (T_take.trans T_take)) (by rw [D_give hi2 hr, D_take hp1t, D_take hp0, yq_gv_n, e0, e1]; try rfl) hac (by omega) rfl (I_give hi2 hr)) hw d_A_step_249
  · rw [yp_can8 (T := s_T σ y) h100 hk] at hc
    obtain ⟨q0, q3⟩ := (Bool.and_eq_true _ _).mp hc
    obtain ⟨q1, q2⟩ := (Bool.and_eq_true _ _).mp q0
    obtain ⟨c0, e0, hp0⟩ := yh_inv q1
    have hr := yrm_take (c := c0) (yrm_of q2)
    have hr1 := yrm_take (c := c0) (yrm_of q3)
    have hi1 := I_take hi hp0
    have hL1 := (yX_take (σ := σ) (y := y) (c := c0)).L hL
    have hi2 := I_give (v := ((s_rg σ y c0 ((s_ch σ y c0).2.1 % 8)))) hi1 hr
    have hr2 := yrm_give (v := ((s_rg σ y c0 ((s_ch σ y c0).2.1 % 8)))) hi1 (show 0 ≠ 1 by omega) hr1
    have hx2 := yX_give (σ := yo_take σ y c0) (y := y) (i := i) (j := 0) (v := ((s_rg σ y c0 ((s_ch σ y c0).2.1 % 8))))
    have hL2 := hx2.L hL1
    have hn2 : i < s_n (yo_give (yo_take σ y c0) y i 0 ((s_rg σ y c0 ((s_ch σ y c0).2.1 % 8)))) y := by rw [hx2.sn]; exact hn
    refine lv_aload_n hx hb d_A_step_0 rfl (lv_at hl 0 rfl) ?_
    refine yr_get (C := R_A) (T := F_A) (N := 8) (ci := k_A) hx hb ht j_A hown hK.1 hw (by assumption) (by rfl) rfl 0 (by decide) (ht _ mf_A_9) (fun _ h9 => h9) (by rfl) d_A_step_1 ?_
    rw [hk]
    refine lv_tableIn (off := 214) (tgt := 218) hx hb d_A_step_4 (by decide +kernel) (by decide +kernel) (by decide +kernel) (by decide) ?_
    refine lv_aload_n hx hb d_A_step_218 rfl (lv_at hl 0 rfl) ?_
    refine lv_iconst (v := (nI 0)) hx hb d_A_step_219 (by decide) ?_
    refine yc_i (va_runV (As := [.int _]) (rest := []) ⟨hx, hb, hml, hown, hts⟩ (c_A_take l D cc ad LL X b0 _ σ hL y i hy hn hi 0 (by omega) c0 e0 hp0) (cwV 1 hts (yg_call mc_A_take ml_A_71 mm_A_take ms_A_take mi_A) rfl rfl rfl (by decide +kernel) ⟨Nat.le_of_ble_eq_true rfl, Nat.le_of_ble_eq_true rfl⟩) (y_preV hI hw (y_recv hK.1 hw h5 (by rfl) rfl)) rfl rfl hl.1 rfl (lv_room (Nat.le_of_ble_eq_true rfl)) d_A_step_220 ⟨Nat.le_of_ble_eq_true rfl, Nat.le_of_ble_eq_true rfl⟩) hw hA (fun r u H locs he hw => ?_)
    subst he
    refine lv_istore_n (lv' := [(3, .int _), (0, .ref _)]) hx hb d_A_step_223 rfl hl (by decide) rfl (fun ls hl => ?_)
    refine lv_aload_n hx hb d_A_step_224 rfl (lv_at hl 1 rfl) ?_
    refine lv_iconst (v := (nI 0)) hx hb d_A_step_225 (by decide) ?_
    refine lv_iload_n hx hb d_A_step_226 rfl (lv_at hl 0 rfl) ?_
    refine yc_v (va_runV (As := [.int _, .int _]) (rest := []) ⟨hx, hb, hml, hown, hts⟩ (c_A_give l D cc ad LL X b0 _ (yo_take σ y c0) hL1 y i hy hn hi1 0 (by omega) _) (cwV 2 hts (yg_call mc_A_give ml_A_67 mm_A_give ms_A_give mi_A) rfl rfl rfl (by decide +kernel) ⟨Nat.le_of_ble_eq_true rfl, Nat.le_of_ble_eq_true rfl⟩) (y_preV hI hw (y_recv hK.1 hw h5 (by rfl) rfl)) rfl rfl hl.1 rfl (lv_room (Nat.le_of_ble_eq_true rfl)) d_A_step_227 ⟨Nat.le_of_ble_eq_true rfl, Nat.le_of_ble_eq_true rfl⟩) hw hA (fun u H locs he hw => ?_)
    refine lv_aload_n hx hb d_A_step_230 rfl (lv_at hl 1 rfl) ?_
    refine lv_iconst (v := (nI 1)) hx hb d_A_step_231 (by decide) ?_
    refine lv_iload_n hx hb d_A_step_232 rfl (lv_at hl 0 rfl) ?_
    refine yc_v (va_runV (As := [.int _, .int _]) (rest := []) ⟨hx, hb, hml, hown, hts⟩ (c_A_give l D cc ad LL X b0 _ (yo_give (yo_take σ y c0) y i 0 ((s_rg σ y c0 ((s_ch σ y c0).2.1 % 8)))) hL2 y i hy hn2 hi2 1 (by omega) _) (cwV 2 hts (yg_call mc_A_give ml_A_67 mm_A_give ms_A_give mi_A) rfl rfl rfl (by decide +kernel) ⟨Nat.le_of_ble_eq_true rfl, Nat.le_of_ble_eq_true rfl⟩) (y_preV hI hw (y_recv hK.1 hw h5 (by rfl) rfl)) rfl rfl hl.1 rfl (lv_room (Nat.le_of_ble_eq_true rfl)) d_A_step_233 ⟨Nat.le_of_ble_eq_true rfl, Nat.le_of_ble_eq_true rfl⟩) hw hA (fun u H locs he hw => ?_)
    refine lv_goto (tgt := 239) hx hb d_A_step_236 (by decide) ?_
    have hw : yH D ycl (va_A (yW cc ad LL X σ) sz) sv.heap H locs (yW cc ad LL X (yo_give (yo_give (yo_take σ y c0) y i 0 ((s_rg σ y c0 ((s_ch σ y c0).2.1 % 8)))) y i 1 ((s_rg σ y c0 ((s_ch σ y c0).2.1 % 8))))) := hw
    have hac : s_ac (yo_give (yo_give (yo_take σ y c0) y i 0 ((s_rg σ y c0 ((s_ch σ y c0).2.1 % 8)))) y i 1 ((s_rg σ y c0 ((s_ch σ y c0).2.1 % 8)))) y i = s_ac σ y i := by rw [ac_give, ac_give]; rfl
    refine lv_aload_n hx hb d_A_step_239 rfl (lv_at hl 1 rfl) ?_
    refine lv_dup hx hb d_A_step_240 rfl ?_
    refine yr_get (C := R_A) (T := F_A) (N := 8) (ci := k_A) hx hb ht j_A hown hK.1 hw (by assumption) (by rfl) rfl 7 (by decide) (ht _ mf_A_40) (fun _ h9 => h9) (by rfl) d_A_step_241 ?_
    rw [hac]
    refine lv_iconst (v := 1) hx hb d_A_step_244 (by decide) ?_
    refine lv_iadd hx hb d_A_step_245 ?_
    rw [nI_1]
    refine yr_put (ty := .int) (C := R_A) (T := F_A) (N := 8) (ci := k_A) hx hb ht j_A t_A t_A_ok n_A hown hK.1 hw (by assumption) (by rfl) rfl 7 (by decide) (ht _ mf_A_40) (fun _ h9 => h9) rfl (by decide +kernel) rfl rfl (Nat.le_of_ble_eq_true rfl) d_A_step_246 (fun H locs hw => ?_)
    have hw := yw_ac ((s_ac σ y i).1, (s_ac σ y i).2.1, (s_ac σ y i).2.2.1, (s_ac σ y i).2.2.2.1, (s_ac σ y i).2.2.2.2 + 1) hw (by rw [hac]) (by rw [hac]; rfl)
    have hw : yH D ycl (va_A (yW cc ad LL X σ) sz) sv.heap H locs (yW cc ad LL X (yo_tick (yo_give (yo_give (yo_take σ y c0) y i 0 ((s_rg σ y c0 ((s_ch σ y c0).2.1 % 8)))) y i 1 ((s_rg σ y c0 ((s_ch σ y c0).2.1 % 8)))) y i)) := by unfold yo_tick; rw [hac]; exact hw
    exact ye_v hI (yo_tick (yo_give (yo_give (yo_take σ y c0) y i 0 ((s_rg σ y c0 ((s_ch σ y c0).2.1 % 8)))) y i 1 ((s_rg σ y c0 ((s_ch σ y c0).2.1 % 8)))) y i) (yStp_mk hi hn (ypl8 (T := s_T σ y) h100 hk (yh_head e0 hp0)) ((yX_take.tr yX_give).tr yX_give) (T_give.trans (T_give.trans T_take)) (by rw [D_give hi2 hr2, D_give hi1 hr, D_take hp0, oc_give, yq_tk_f, e0]; try rfl) hac (by omega) rfl (I_give hi2 hr2)) hw d_A_step_249
end
section
/-! YARD: finders -/
theorem yrf_s (a : Nat) : va_rf (some a) = .ref a := rfl
theorem yrf_n : va_rf none = .null := rfl
set_option maxHeartbeats 4000000 in
set_option maxRecDepth 100000 in
/-- Y_findActor: one that is there -/
theorem c_Y_findActor (l : Launch) (D : va_G) (cc : ClassId × ClassId × ClassId) (ad : yl → Nat) (LL : List yl) (X : va_W) (b0 sz : Nat) (σ : ys) (hL : ∀ q, yL σ q → q ∈ LL) (y : Nat) (hy : y < 2) (hi : yI σ y) (j : Nat) (hj : j < s_n σ y) : Met l y_Y_findActor w_Y_findActor ({ frames := 0, cells := 0, slots := 0, locals := 0 }) (yPr D cc b0 [.ref (ad (1, y, 0)), .int (nI j)] (yW cc ad LL X σ) sz) (yQq D (yW cc ad LL X σ) sz (some (ad (5, y, j))) (yW cc ad LL X σ)) 0 0 (va_A (yW cc ad LL X σ) sz) := by
  have g1 : (1, y, 0) ∈ LL := hL _ ⟨hy, rfl⟩
  have g2 : (2, y, 0) ∈ LL := hL _ ⟨hy, rfl⟩
  have g3 : (3, y, 0) ∈ LL := hL _ ⟨hy, rfl⟩
  have g4 : (4, y, 0) ∈ LL := hL _ ⟨hy, rfl⟩
  have hn10 := hi.1.1
  have hc16 := hi.2.1
  refine y_ofW (cc := b_Y_findActor) (maxL := 2) (ret := (some (.object "YardActors$Actor"))) (by decide) rfl (Nat.le_of_ble_eq_true rfl) ?_
  intro pv ev sv mv bv tv cv ls hI hsz hw hl
  obtain ⟨hx, hb, hr, hml, hts, hown, hlocks, hnm, hK, hAb, hb0, hA⟩ := id hI
  have ht : ∀ w ∈ lg_tbl, w.before _ sv = true := fun w h => hts w (List.mem_cons_of_mem _ h)
  have hl : lv_has ls 2 [(0, .ref (ad (1, y, 0))), (1, .int (nI j))] := hl
  refine lv_iload_n hx hb d_Y_findActor_0 rfl (lv_at hl 1 rfl) ?_
  refine lv_if_lt (tgt := 21) hx hb d_Y_findActor_1 (by decide) (fun c_1 => by exact absurd c_1 (nI_pos (by omega))) (fun c_1 => ?_)
  refine lv_iload_n hx hb d_Y_findActor_4 rfl (lv_at hl 1 rfl) ?_
  refine lv_aload_n hx hb d_Y_findActor_5 rfl (lv_at hl 0 rfl) ?_
  refine yr_get (C := R_Y) (T := F_Y) (N := 5) (ci := k_Y) hx hb ht j_Y hown hK.1 hw (by assumption) (by rfl) rfl 3 (by decide) (ht _ mf_Y_27) (fun _ h9 => h9) (by rfl) d_Y_findActor_6 ?_
  refine lv_icmp_ge (tgt := 21) hx hb d_Y_findActor_9 (by decide) (fun c_9 => by exact absurd ((nI_leI (by omega) (by omega)).mp c_9) (by omega)) (fun c_9 => ?_)
  refine lv_aload_n hx hb d_Y_findActor_12 rfl (lv_at hl 0 rfl) ?_
  refine yr_get (C := R_Y) (T := F_Y) (N := 5) (ci := k_Y) hx hb ht j_Y hown hK.1 hw (by assumption) (by rfl) rfl 0 (by decide) (ht _ mf_Y_11) (fun _ h9 => h9) (by rfl) d_Y_findActor_13 ?_
  refine lv_iload_n hx hb d_Y_findActor_16 rfl (lv_at hl 1 rfl) ?_
  refine yr_aldq (v := .ref (ad (5, y, j))) hx hb hK.1 hw (by assumption) (by rfl) 1 rfl (vp_in_nI (by omega) (by omega)) (by rw [nI_clamp (by omega)]; show va_rf (if j < s_n σ y then _ else _) = _; rw [if_pos hj]; rfl) d_Y_findActor_17 ?_
  refine lv_goto (tgt := 22) hx hb d_Y_findActor_18 (by decide) ?_
  exact ye_q (some (ad (5, y, j))) rfl hI () rfl hw d_Y_findActor_22
set_option maxHeartbeats 4000000 in
set_option maxRecDepth 100000 in
/-- Y_findActor: none such -/
theorem c_Y_findActor_no (l : Launch) (D : va_G) (cc : ClassId × ClassId × ClassId) (ad : yl → Nat) (LL : List yl) (X : va_W) (b0 sz : Nat) (σ : ys) (hL : ∀ q, yL σ q → q ∈ LL) (y : Nat) (hy : y < 2) (hi : yI σ y) (x : Int32) (hj : x < 0 ∨ nI (s_n σ y) ≤ x) : Met l y_Y_findActor w_Y_findActor ({ frames := 0, cells := 0, slots := 0, locals := 0 }) (yPr D cc b0 [.ref (ad (1, y, 0)), .int x] (yW cc ad LL X σ) sz) (yQq D (yW cc ad LL X σ) sz none (yW cc ad LL X σ)) 0 0 (va_A (yW cc ad LL X σ) sz) := by
  have g1 : (1, y, 0) ∈ LL := hL _ ⟨hy, rfl⟩
  have g2 : (2, y, 0) ∈ LL := hL _ ⟨hy, rfl⟩
  have g3 : (3, y, 0) ∈ LL := hL _ ⟨hy, rfl⟩
  have g4 : (4, y, 0) ∈ LL := hL _ ⟨hy, rfl⟩
  have hn10 := hi.1.1
  have hc16 := hi.2.1
  refine y_ofW (cc := b_Y_findActor) (maxL := 2) (ret := (some (.object "YardActors$Actor"))) (by decide) rfl (Nat.le_of_ble_eq_true rfl) ?_
  intro pv ev sv mv bv tv cv ls hI hsz hw hl
  obtain ⟨hx, hb, hr, hml, hts, hown, hlocks, hnm, hK, hAb, hb0, hA⟩ := id hI
  have ht : ∀ w ∈ lg_tbl, w.before _ sv = true := fun w h => hts w (List.mem_cons_of_mem _ h)
  have hl : lv_has ls 2 [(0, .ref (ad (1, y, 0))), (1, .int x)] := hl
  refine lv_iload_n hx hb d_Y_findActor_0 rfl (lv_at hl 1 rfl) ?_
  refine lv_if_lt (tgt := 21) hx hb d_Y_findActor_1 (by decide) (fun c_1 => ?_) (fun c_1 => ?_)
  · refine lv_null hx hb d_Y_findActor_21 ?_
    exact ye_q none rfl hI () rfl hw d_Y_findActor_22
  · refine lv_iload_n hx hb d_Y_findActor_4 rfl (lv_at hl 1 rfl) ?_
    refine lv_aload_n hx hb d_Y_findActor_5 rfl (lv_at hl 0 rfl) ?_
    refine yr_get (C := R_Y) (T := F_Y) (N := 5) (ci := k_Y) hx hb ht j_Y hown hK.1 hw (by assumption) (by rfl) rfl 3 (by decide) (ht _ mf_Y_27) (fun _ h9 => h9) (by rfl) d_Y_findActor_6 ?_
    refine lv_icmp_ge (tgt := 21) hx hb d_Y_findActor_9 (by decide) (fun c_9 => ?_) (fun c_9 => by exact (hj.elim (fun h => absurd h c_1) (fun h => absurd h c_9)))
    refine lv_null hx hb d_Y_findActor_21 ?_
    exact ye_q none rfl hI () rfl hw d_Y_findActor_22
set_option maxHeartbeats 4000000 in
set_option maxRecDepth 100000 in
/-- Y_findChannel: one that is there -/
theorem c_Y_findChannel (l : Launch) (D : va_G) (cc : ClassId × ClassId × ClassId) (ad : yl → Nat) (LL : List yl) (X : va_W) (b0 sz : Nat) (σ : ys) (hL : ∀ q, yL σ q → q ∈ LL) (y : Nat) (hy : y < 2) (hi : yI σ y) (j : Nat) (hj : j < s_nc σ y) : Met l y_Y_findChannel w_Y_findChannel ({ frames := 0, cells := 0, slots := 0, locals := 0 }) (yPr D cc b0 [.ref (ad (1, y, 0)), .int (nI j)] (yW cc ad LL X σ) sz) (yQq D (yW cc ad LL X σ) sz (some (ad (9, y, j))) (yW cc ad LL X σ)) 0 0 (va_A (yW cc ad LL X σ) sz) := by
  have g1 : (1, y, 0) ∈ LL := hL _ ⟨hy, rfl⟩
  have g2 : (2, y, 0) ∈ LL := hL _ ⟨hy, rfl⟩
  have g3 : (3, y, 0) ∈ LL := hL _ ⟨hy, rfl⟩
  have g4 : (4, y, 0) ∈ LL := hL _ ⟨hy, rfl⟩
  have hn10 := hi.1.1
  have hc16 := hi.2.1
  refine y_ofW (cc := b_Y_findChannel) (maxL := 2) (ret := (some (.object "YardActors$Channel"))) (by decide) rfl (Nat.le_of_ble_eq_true rfl) ?_
  intro pv ev sv mv bv tv cv ls hI hsz hw hl
  obtain ⟨hx, hb, hr, hml, hts, hown, hlocks, hnm, hK, hAb, hb0, hA⟩ := id hI
  have ht : ∀ w ∈ lg_tbl, w.before _ sv = true := fun w h => hts w (List.mem_cons_of_mem _ h)
  have hl : lv_has ls 2 [(0, .ref (ad (1, y, 0))), (1, .int (nI j))] := hl
  refine lv_iload_n hx hb d_Y_findChannel_0 rfl (lv_at hl 1 rfl) ?_
  refine lv_if_lt (tgt := 21) hx hb d_Y_findChannel_1 (by decide) (fun c_1 => by exact absurd c_1 (nI_pos (by omega))) (fun c_1 => ?_)
  refine lv_iload_n hx hb d_Y_findChannel_4 rfl (lv_at hl 1 rfl) ?_
  refine lv_aload_n hx hb d_Y_findChannel_5 rfl (lv_at hl 0 rfl) ?_
  refine yr_get (C := R_Y) (T := F_Y) (N := 5) (ci := k_Y) hx hb ht j_Y hown hK.1 hw (by assumption) (by rfl) rfl 4 (by decide) (ht _ mf_Y_31) (fun _ h9 => h9) (by rfl) d_Y_findChannel_6 ?_
  refine lv_icmp_ge (tgt := 21) hx hb d_Y_findChannel_9 (by decide) (fun c_9 => by exact absurd ((nI_leI (by omega) (by omega)).mp c_9) (by omega)) (fun c_9 => ?_)
  refine lv_aload_n hx hb d_Y_findChannel_12 rfl (lv_at hl 0 rfl) ?_
  refine yr_get (C := R_Y) (T := F_Y) (N := 5) (ci := k_Y) hx hb ht j_Y hown hK.1 hw (by assumption) (by rfl) rfl 1 (by decide) (ht _ mf_Y_19) (fun _ h9 => h9) (by rfl) d_Y_findChannel_13 ?_
  refine lv_iload_n hx hb d_Y_findChannel_16 rfl (lv_at hl 1 rfl) ?_
  refine yr_aldq (v := .ref (ad (9, y, j))) hx hb hK.1 hw (by assumption) (by rfl) 2 rfl (vp_in_nI (by omega) (by omega)) (by rw [nI_clamp (by omega)]; show va_rf (if j < s_nc σ y then _ else _) = _; rw [if_pos hj]; rfl) d_Y_findChannel_17 ?_
  refine lv_goto (tgt := 22) hx hb d_Y_findChannel_18 (by decide) ?_
  exact ye_q (some (ad (9, y, j))) rfl hI () rfl hw d_Y_findChannel_22
set_option maxHeartbeats 4000000 in
set_option maxRecDepth 100000 in
/-- Y_findChannel: none such -/
theorem c_Y_findChannel_no (l : Launch) (D : va_G) (cc : ClassId × ClassId × ClassId) (ad : yl → Nat) (LL : List yl) (X : va_W) (b0 sz : Nat) (σ : ys) (hL : ∀ q, yL σ q → q ∈ LL) (y : Nat) (hy : y < 2) (hi : yI σ y) (x : Int32) (hj : x < 0 ∨ nI (s_nc σ y) ≤ x) : Met l y_Y_findChannel w_Y_findChannel ({ frames := 0, cells := 0, slots := 0, locals := 0 }) (yPr D cc b0 [.ref (ad (1, y, 0)), .int x] (yW cc ad LL X σ) sz) (yQq D (yW cc ad LL X σ) sz none (yW cc ad LL X σ)) 0 0 (va_A (yW cc ad LL X σ) sz) := by
  have g1 : (1, y, 0) ∈ LL := hL _ ⟨hy, rfl⟩
  have g2 : (2, y, 0) ∈ LL := hL _ ⟨hy, rfl⟩
  have g3 : (3, y, 0) ∈ LL := hL _ ⟨hy, rfl⟩
  have g4 : (4, y, 0) ∈ LL := hL _ ⟨hy, rfl⟩
  have hn10 := hi.1.1
  have hc16 := hi.2.1
  refine y_ofW (cc := b_Y_findChannel) (maxL := 2) (ret := (some (.object "YardActors$Channel"))) (by decide) rfl (Nat.le_of_ble_eq_true rfl) ?_
  intro pv ev sv mv bv tv cv ls hI hsz hw hl
  obtain ⟨hx, hb, hr, hml, hts, hown, hlocks, hnm, hK, hAb, hb0, hA⟩ := id hI
  have ht : ∀ w ∈ lg_tbl, w.before _ sv = true := fun w h => hts w (List.mem_cons_of_mem _ h)
  have hl : lv_has ls 2 [(0, .ref (ad (1, y, 0))), (1, .int x)] := hl
  refine lv_iload_n hx hb d_Y_findChannel_0 rfl (lv_at hl 1 rfl) ?_
  refine lv_if_lt (tgt := 21) hx hb d_Y_findChannel_1 (by decide) (fun c_1 => ?_) (fun c_1 => ?_)
  · refine lv_null hx hb d_Y_findChannel_21 ?_
    exact ye_q none rfl hI () rfl hw d_Y_findChannel_22
  · refine lv_iload_n hx hb d_Y_findChannel_4 rfl (lv_at hl 1 rfl) ?_
    refine lv_aload_n hx hb d_Y_findChannel_5 rfl (lv_at hl 0 rfl) ?_
    refine yr_get (C := R_Y) (T := F_Y) (N := 5) (ci := k_Y) hx hb ht j_Y hown hK.1 hw (by assumption) (by rfl) rfl 4 (by decide) (ht _ mf_Y_31) (fun _ h9 => h9) (by rfl) d_Y_findChannel_6 ?_
    refine lv_icmp_ge (tgt := 21) hx hb d_Y_findChannel_9 (by decide) (fun c_9 => ?_) (fun c_9 => by exact (hj.elim (fun h => absurd h c_1) (fun h => absurd h c_9)))
    refine lv_null hx hb d_Y_findChannel_21 ?_
    exact ye_q none rfl hI () rfl hw d_Y_findChannel_22
set_option maxHeartbeats 4000000 in
set_option maxRecDepth 100000 in
theorem c_Y_findKind (l : Launch) (D : va_G) (cc : ClassId × ClassId × ClassId) (ad : yl → Nat) (LL : List yl) (X : va_W) (b0 sz : Nat) (σ : ys) (hL : ∀ q, yL σ q → q ∈ LL) (y : Nat) (hy : y < 2) (hi : yI σ y) (j : Nat) (hj : j < s_n σ y) (k : Nat) (hk : k < 9) (hkj : (s_ac σ y j).1 = k) : Met l y_Y_findKind w_Y_findKind ({ frames := 1, cells := 0, slots := 0, locals := 21 }) (yPr D cc b0 [.ref (ad (1, y, 0)), .int (nI j), .int (nI k)] (yW cc ad LL X σ) sz) (yQq D (yW cc ad LL X σ) sz (some (ad (5, y, j))) (yW cc ad LL X σ)) 0 0 (va_A (yW cc ad LL X σ) sz) := by
  have h5 : (5, y, j) ∈ LL := hL _ ⟨hy, hj⟩
  have g1 : (1, y, 0) ∈ LL := hL _ ⟨hy, rfl⟩
  have g2 : (2, y, 0) ∈ LL := hL _ ⟨hy, rfl⟩
  have g3 : (3, y, 0) ∈ LL := hL _ ⟨hy, rfl⟩
  have g4 : (4, y, 0) ∈ LL := hL _ ⟨hy, rfl⟩
  have hn10 := hi.1.1
  have hc16 := hi.2.1
  refine y_ofW (cc := b_Y_findKind) (maxL := 4) (ret := (some (.object "YardActors$Actor"))) (by decide) rfl (Nat.le_of_ble_eq_true rfl) ?_
  intro pv ev sv mv bv tv cv ls hI hsz hw hl
  obtain ⟨hx, hb, hr, hml, hts, hown, hlocks, hnm, hK, hAb, hb0, hA⟩ := id hI
  have ht : ∀ w ∈ lg_tbl, w.before _ sv = true := fun w h => hts w (List.mem_cons_of_mem _ h)
  have hl : lv_has ls 4 [(0, .ref (ad (1, y, 0))), (1, .int (nI j)), (2, .int (nI k))] := hl
  refine lv_aload_n hx hb d_Y_findKind_0 rfl (lv_at hl 0 rfl) ?_
  refine lv_iload_n hx hb d_Y_findKind_1 rfl (lv_at hl 1 rfl) ?_
  refine yc_q (va_runV (As := [.int _]) (rest := []) ⟨hx, hb, hml, hown, hts⟩ (c_Y_findActor l D cc ad LL X b0 _ σ hL y hy hi j hj) (cwV 1 hts (yg_call mc_Y_findActor ml_Y_37 mm_Y_findActor ms_Y_findActor mi_Y) rfl rfl rfl (by decide +kernel) ⟨Nat.le_of_ble_eq_true rfl, Nat.le_of_ble_eq_true rfl⟩) (y_preV hI hw (y_recv hK.1 hw g1 (by rfl) rfl)) rfl rfl hl.1 rfl (lv_room (Nat.le_of_ble_eq_true rfl)) d_Y_findKind_2 ⟨Nat.le_of_ble_eq_true rfl, Nat.le_of_ble_eq_true rfl⟩) hw hA (fun r u H locs he hw => ?_)
  subst he
  rw [yrf_s]
  refine lv_astore_n (lv' := [(3, .ref _), (0, .ref _), (1, .int _), (2, .int _)]) hx hb d_Y_findKind_5 rfl hl (by decide) rfl (fun ls hl => ?_)
  refine lv_aload_n hx hb d_Y_findKind_6 rfl (lv_at hl 0 rfl) ?_
  refine lv_ifnull hx hb d_Y_findKind_7 ?_
  refine lv_aload_n hx hb d_Y_findKind_10 rfl (lv_at hl 0 rfl) ?_
  refine lv_iload_n hx hb d_Y_findKind_11 rfl (lv_at hl 3 rfl) ?_
  refine yc_i (va_runV (As := [.int _]) (rest := []) ⟨hx, hb, hml, hown, hts⟩ (c_A_isKind l D cc ad LL X b0 _ σ hL y j hy hj hi k hk) (cwV 1 hts (yg_call mc_A_isKind ml_Y_58 mm_A_isKind ms_A_isKind mi_A) rfl rfl rfl (by decide +kernel) ⟨Nat.le_of_ble_eq_true rfl, Nat.le_of_ble_eq_true rfl⟩) (y_preV hI hw (y_recv hK.1 hw h5 (by rfl) rfl)) rfl rfl hl.1 rfl (lv_room (Nat.le_of_ble_eq_true rfl)) d_Y_findKind_12 ⟨Nat.le_of_ble_eq_true rfl, Nat.le_of_ble_eq_true rfl⟩) hw hA (fun r u H locs he hw => ?_)
  subst he
  refine lv_if_eq (tgt := 22) hx hb d_Y_findKind_15 (by decide) (fun c_15 => by exact absurd (yb_0 c_15) (by rw [decide_eq_true hkj]; decide)) (fun c_15 => ?_)
  refine lv_aload_n hx hb d_Y_findKind_18 rfl (lv_at hl 0 rfl) ?_
  refine lv_goto (tgt := 23) hx hb d_Y_findKind_19 (by decide) ?_
  exact ye_q (some (ad (5, y, j))) rfl hI () rfl hw d_Y_findKind_23
set_option maxHeartbeats 4000000 in
set_option maxRecDepth 100000 in
theorem c_Y_findKind_other (l : Launch) (D : va_G) (cc : ClassId × ClassId × ClassId) (ad : yl → Nat) (LL : List yl) (X : va_W) (b0 sz : Nat) (σ : ys) (hL : ∀ q, yL σ q → q ∈ LL) (y : Nat) (hy : y < 2) (hi : yI σ y) (j : Nat) (hj : j < s_n σ y) (k : Nat) (hk : k < 9) (hkj : ¬ (s_ac σ y j).1 = k) : Met l y_Y_findKind w_Y_findKind ({ frames := 1, cells := 0, slots := 0, locals := 21 }) (yPr D cc b0 [.ref (ad (1, y, 0)), .int (nI j), .int (nI k)] (yW cc ad LL X σ) sz) (yQq D (yW cc ad LL X σ) sz none (yW cc ad LL X σ)) 0 0 (va_A (yW cc ad LL X σ) sz) := by
  have h5 : (5, y, j) ∈ LL := hL _ ⟨hy, hj⟩
  have g1 : (1, y, 0) ∈ LL := hL _ ⟨hy, rfl⟩
  have g2 : (2, y, 0) ∈ LL := hL _ ⟨hy, rfl⟩
  have g3 : (3, y, 0) ∈ LL := hL _ ⟨hy, rfl⟩
  have g4 : (4, y, 0) ∈ LL := hL _ ⟨hy, rfl⟩
  have hn10 := hi.1.1
  have hc16 := hi.2.1
  refine y_ofW (cc := b_Y_findKind) (maxL := 4) (ret := (some (.object "YardActors$Actor"))) (by decide) rfl (Nat.le_of_ble_eq_true rfl) ?_
  intro pv ev sv mv bv tv cv ls hI hsz hw hl
  obtain ⟨hx, hb, hr, hml, hts, hown, hlocks, hnm, hK, hAb, hb0, hA⟩ := id hI
  have ht : ∀ w ∈ lg_tbl, w.before _ sv = true := fun w h => hts w (List.mem_cons_of_mem _ h)
  have hl : lv_has ls 4 [(0, .ref (ad (1, y, 0))), (1, .int (nI j)), (2, .int (nI k))] := hl
  refine lv_aload_n hx hb d_Y_findKind_0 rfl (lv_at hl 0 rfl) ?_
  refine lv_iload_n hx hb d_Y_findKind_1 rfl (lv_at hl 1 rfl) ?_
  refine yc_q (va_runV (As := [.int _]) (rest := []) ⟨hx, hb, hml, hown, hts⟩ (c_Y_findActor l D cc ad LL X b0 _ σ hL y hy hi j hj) (cwV 1 hts (yg_call mc_Y_findActor ml_Y_37 mm_Y_findActor ms_Y_findActor mi_Y) rfl rfl rfl (by decide +kernel) ⟨Nat.le_of_ble_eq_true rfl, Nat.le_of_ble_eq_true rfl⟩) (y_preV hI hw (y_recv hK.1 hw g1 (by rfl) rfl)) rfl rfl hl.1 rfl (lv_room (Nat.le_of_ble_eq_true rfl)) d_Y_findKind_2 ⟨Nat.le_of_ble_eq_true rfl, Nat.le_of_ble_eq_true rfl⟩) hw hA (fun r u H locs he hw => ?_)
  subst he
  rw [yrf_s]
  refine lv_astore_n (lv' := [(3, .ref _), (0, .ref _), (1, .int _), (2, .int _)]) hx hb d_Y_findKind_5 rfl hl (by decide) rfl (fun ls hl => ?_)
  refine lv_aload_n hx hb d_Y_findKind_6 rfl (lv_at hl 0 rfl) ?_
  refine lv_ifnull hx hb d_Y_findKind_7 ?_
  refine lv_aload_n hx hb d_Y_findKind_10 rfl (lv_at hl 0 rfl) ?_
  refine lv_iload_n hx hb d_Y_findKind_11 rfl (lv_at hl 3 rfl) ?_
  refine yc_i (va_runV (As := [.int _]) (rest := []) ⟨hx, hb, hml, hown, hts⟩ (c_A_isKind l D cc ad LL X b0 _ σ hL y j hy hj hi k hk) (cwV 1 hts (yg_call mc_A_isKind ml_Y_58 mm_A_isKind ms_A_isKind mi_A) rfl rfl rfl (by decide +kernel) ⟨Nat.le_of_ble_eq_true rfl, Nat.le_of_ble_eq_true rfl⟩) (y_preV hI hw (y_recv hK.1 hw h5 (by rfl) rfl)) rfl rfl hl.1 rfl (lv_room (Nat.le_of_ble_eq_true rfl)) d_Y_findKind_12 ⟨Nat.le_of_ble_eq_true rfl, Nat.le_of_ble_eq_true rfl⟩) hw hA (fun r u H locs he hw => ?_)
  subst he
  refine lv_if_eq (tgt := 22) hx hb d_Y_findKind_15 (by decide) (fun c_15 => ?_) (fun c_15 => by exact absurd (yb_1 c_15) (by rw [decide_eq_false hkj]; decide))
  refine lv_null hx hb d_Y_findKind_22 ?_
  exact ye_q none rfl hI () rfl hw d_Y_findKind_23
set_option maxHeartbeats 4000000 in
set_option maxRecDepth 100000 in
theorem c_Y_findKind_no (l : Launch) (D : va_G) (cc : ClassId × ClassId × ClassId) (ad : yl → Nat) (LL : List yl) (X : va_W) (b0 sz : Nat) (σ : ys) (hL : ∀ q, yL σ q → q ∈ LL) (y : Nat) (hy : y < 2) (hi : yI σ y) (x : Int32) (hj : x < 0 ∨ nI (s_n σ y) ≤ x) (k : Nat) : Met l y_Y_findKind w_Y_findKind ({ frames := 1, cells := 0, slots := 0, locals := 21 }) (yPr D cc b0 [.ref (ad (1, y, 0)), .int x, .int (nI k)] (yW cc ad LL X σ) sz) (yQq D (yW cc ad LL X σ) sz none (yW cc ad LL X σ)) 0 0 (va_A (yW cc ad LL X σ) sz) := by
  have g1 : (1, y, 0) ∈ LL := hL _ ⟨hy, rfl⟩
  have g2 : (2, y, 0) ∈ LL := hL _ ⟨hy, rfl⟩
  have g3 : (3, y, 0) ∈ LL := hL _ ⟨hy, rfl⟩
  have g4 : (4, y, 0) ∈ LL := hL _ ⟨hy, rfl⟩
  have hn10 := hi.1.1
  have hc16 := hi.2.1
  refine y_ofW (cc := b_Y_findKind) (maxL := 4) (ret := (some (.object "YardActors$Actor"))) (by decide) rfl (Nat.le_of_ble_eq_true rfl) ?_
  intro pv ev sv mv bv tv cv ls hI hsz hw hl
  obtain ⟨hx, hb, hr, hml, hts, hown, hlocks, hnm, hK, hAb, hb0, hA⟩ := id hI
  have ht : ∀ w ∈ lg_tbl, w.before _ sv = true := fun w h => hts w (List.mem_cons_of_mem _ h)
  have hl : lv_has ls 4 [(0, .ref (ad (1, y, 0))), (1, .int x), (2, .int (nI k))] := hl
  refine lv_aload_n hx hb d_Y_findKind_0 rfl (lv_at hl 0 rfl) ?_
  refine lv_iload_n hx hb d_Y_findKind_1 rfl (lv_at hl 1 rfl) ?_
  refine yc_q (va_runV (As := [.int _]) (rest := []) ⟨hx, hb, hml, hown, hts⟩ (c_Y_findActor_no l D cc ad LL X b0 _ σ hL y hy hi x hj) (cwV 1 hts (yg_call mc_Y_findActor ml_Y_37 mm_Y_findActor ms_Y_findActor mi_Y) rfl rfl rfl (by decide +kernel) ⟨Nat.le_of_ble_eq_true rfl, Nat.le_of_ble_eq_true rfl⟩) (y_preV hI hw (y_recv hK.1 hw g1 (by rfl) rfl)) rfl rfl hl.1 rfl (lv_room (Nat.le_of_ble_eq_true rfl)) d_Y_findKind_2 ⟨Nat.le_of_ble_eq_true rfl, Nat.le_of_ble_eq_true rfl⟩) hw hA (fun r u H locs he hw => ?_)
  subst he
  rw [yrf_n]
  refine lv_astore_nN (lv' := [(3, .null), (0, .ref _), (1, .int _), (2, .int _)]) hx hb d_Y_findKind_5 rfl hl (by decide) rfl (fun ls hl => ?_)
  refine lv_aload_nN hx hb d_Y_findKind_6 rfl (lv_at hl 0 rfl) ?_
  refine lv_ifnullN (tgt := 22) hx hb d_Y_findKind_7 (by decide) ?_
  refine lv_null hx hb d_Y_findKind_22 ?_
  exact ye_q none rfl hI () rfl hw d_Y_findKind_23
end
section
/-! YARD: listReady -/
theorem yinc (n : Nat) : nI n + Int32.ofInt 1 = nI (n + 1) := nI_1 n
theorem yrd_rd {σ : ys} {y i : Nat} {v w : Nat → Int32} : sx_rd (sx_rd σ y i v) y i w = sx_rd σ y i w := by
  unfold sx_rd
  rw [up2_up2]
theorem yrd_same {σ : ys} {y i : Nat} : sx_rd σ y i (s_rd σ y i) = σ := by
  have e : up2 (s_rd σ) y i (s_rd σ y i) = s_rd σ := by
    funext y' i'
    by_cases h : y' = y ∧ i' = i
    · rw [h.1, h.2, up2_s]
    · rw [up2_n _ _ h]
  unfold sx_rd
  show (_, _, _, _, _, _, _, _, up2 (s_rd σ) y i (s_rd σ y i)) = σ
  rw [e]
  rfl
theorem yrd_get {σ : ys} {y i : Nat} {v : Nat → Int32} : s_rd (sx_rd σ y i v) y i = v := up2_s _ _ _ _
theorem yrd_app {L : List Nat} {r : Nat → Int32} {i : Nat} (h : ∀ j, j < L.length → r j = nI (L.getD j 0)) : ∀ j, j < (L ++ [i]).length → upd r L.length (nI i) j = nI ((L ++ [i]).getD j 0) := by
  intro j hj
  rw [List.length_append] at hj
  have hj : j < L.length + 1 := hj
  by_cases h1 : j < L.length
  · rw [pk_un (by omega), h j h1]
    congr 1
    rw [List.getD_eq_getElem?_getD, List.getD_eq_getElem?_getD, List.getElem?_append_left h1]
  · have h2 : j = L.length := by omega
    subst h2
    rw [pk_us, List.getD_eq_getElem?_getD, List.getElem?_append_right (Nat.le_refl _), Nat.sub_self]
    rfl
set_option maxHeartbeats 4000000 in
set_option maxRecDepth 100000 in
/-- listReady: those who can act, by their numbers -/
theorem c_Y_listReady (l : Launch) (D : va_G) (cc : ClassId × ClassId × ClassId) (ad : yl → Nat) (LL : List yl) (X : va_W) (b0 sz : Nat) (σ : ys) (hL : ∀ q, yL σ q → q ∈ LL) (y : Nat) (hy : y < 2) (hi : yI σ y) : Met l y_Y_listReady w_Y_listReady ({ frames := 3, cells := 0, slots := 0, locals := 63 }) (yPr D cc b0 [.ref (ad (1, y, 0))] (yW cc ad LL X σ) sz) ((va_Qi (fun c (r : Nat → Int32) => c = nI (yp_rdy (s_T σ y) (s_D σ y) (s_n σ y)).length ∧ ∀ j, j < (yp_rdy (s_T σ y) (s_D σ y) (s_n σ y)).length → r j = nI ((yp_rdy (s_T σ y) (s_D σ y) (s_n σ y)).getD j 0)) (yB D ycl (yW cc ad LL X σ) sz (fun r => yW cc ad LL X (sx_rd σ y 0 r))) (va_A (yW cc ad LL X σ) sz))) 0 0 (va_A (yW cc ad LL X σ) sz) := by
  have g1 : (1, y, 0) ∈ LL := hL _ ⟨hy, rfl⟩
  have g2 : (2, y, 0) ∈ LL := hL _ ⟨hy, rfl⟩
  have g3 : (3, y, 0) ∈ LL := hL _ ⟨hy, rfl⟩
  have g4 : (4, y, 0) ∈ LL := hL _ ⟨hy, rfl⟩
  have hn10 := hi.1.1
  have hc16 := hi.2.1
  refine y_ofW (cc := b_Y_listReady) (maxL := 4) (ret := (some .int)) (by decide) rfl (Nat.le_of_ble_eq_true rfl) ?_
  intro pv ev sv mv bv tv cv ls hI hsz hw hl
  obtain ⟨hx, hb, hr, hml, hts, hown, hlocks, hnm, hK, hAb, hb0, hA⟩ := id hI
  have ht : ∀ w ∈ lg_tbl, w.before _ sv = true := fun w h => hts w (List.mem_cons_of_mem _ h)
  have hl : lv_has ls 4 [(0, .ref (ad (1, y, 0)))] := hl
  have loop : ∀ (f i : Nat) (r : Nat → Int32) (H : Heap) (locs : List Loc) (ls : Array Slot), i ≤ s_n σ y → s_n σ y - i < f → (∀ j, j < (yp_rdy (s_T σ y) (s_D σ y) i).length → r j = nI ((yp_rdy (s_T σ y) (s_D σ y) i).getD j 0)) → yH D ycl (va_A (yW cc ad LL X σ) sz) sv.heap H locs (yW cc ad LL X (sx_rd σ y 0 r)) → lv_has ls 4 [(2, .int (nI i)), (1, .int (nI (yp_rdy (s_T σ y) (s_D σ y) i).length)), (0, .ref (ad (1, y, 0)))] → W pv l ev (headSpec w_Y_listReady ({ frames := 3, cells := 0, slots := 0, locals := 63 })).room sv mv [.ref (ad (1, y, 0))].toArray bv tv cv H locs 0 0 (MQ bv (va_Qi (fun c (r : Nat → Int32) => c = nI (yp_rdy (s_T σ y) (s_D σ y) (s_n σ y)).length ∧ ∀ j, j < (yp_rdy (s_T σ y) (s_D σ y) (s_n σ y)).length → r j = nI ((yp_rdy (s_T σ y) (s_D σ y) (s_n σ y)).getD j 0)) (yB D ycl (yW cc ad LL X σ) sz (fun r => yW cc ad LL X (sx_rd σ y 0 r))) (va_A (yW cc ad LL X σ) sz)) [.ref (ad (1, y, 0))].toArray sv 0 0 (va_A (yW cc ad LL X σ) sz)) (F0 mv 4 ls []) := by
    intro f
    induction f with
    | zero => intro i r H locs ls h1 h2; omega
    | succ f ih =>
      intro i r H locs ls h1 h2 hr hw hl
      have hle := yp_rdy_le (s_T σ y) (s_D σ y) i
      by_cases hd : i < s_n σ y
      · have h5 : (5, y, i) ∈ LL := hL _ ⟨hy, hd⟩
        refine lv_iload_n hx hb d_Y_listReady_4 rfl (lv_at hl 0 rfl) ?_
        refine lv_aload_n hx hb d_Y_listReady_5 rfl (lv_at hl 2 rfl) ?_
        refine yr_get (C := R_Y) (T := F_Y) (N := 5) (ci := k_Y) hx hb ht j_Y hown hK.1 hw (by assumption) (by rfl) rfl 3 (by decide) (ht _ mf_Y_27) (fun _ h9 => h9) (by rfl) d_Y_listReady_6 ?_
        refine lv_icmp_ge (tgt := 45) hx hb d_Y_listReady_9 (by decide) (fun c_9 => by exact absurd ((nI_leI (a := s_n σ y) (b := i) (by omega) (by omega)).mp c_9) (Nat.not_le.mpr hd)) (fun c_9 => ?_)
        refine lv_aload_n hx hb d_Y_listReady_12 rfl (lv_at hl 2 rfl) ?_
        refine lv_iload_n hx hb d_Y_listReady_13 rfl (lv_at hl 0 rfl) ?_
        refine yc_q (va_runV (As := [.int _]) (rest := []) ⟨hx, hb, hml, hown, hts⟩ (c_Y_findActor l D cc ad LL X b0 _ (sx_rd σ y 0 r) hL y hy hi i hd) (cwV 1 hts (yg_call mc_Y_findActor ml_Y_37 mm_Y_findActor ms_Y_findActor mi_Y) rfl rfl rfl (by decide +kernel) ⟨Nat.le_of_ble_eq_true rfl, Nat.le_of_ble_eq_true rfl⟩) (y_preV hI hw (y_recv hK.1 hw g1 (by rfl) rfl)) rfl rfl hl.1 rfl (lv_room (Nat.le_of_ble_eq_true rfl)) d_Y_listReady_14 ⟨Nat.le_of_ble_eq_true rfl, Nat.le_of_ble_eq_true rfl⟩) hw hA (fun r u H locs he hw => ?_)
        subst he
        rw [yrf_s]
        refine lv_astore_n (lv' := [(3, .ref _), (2, .int _), (1, .int _), (0, .ref _)]) hx hb d_Y_listReady_17 rfl hl (by decide) rfl (fun ls hl => ?_)
        refine lv_aload_n hx hb d_Y_listReady_18 rfl (lv_at hl 0 rfl) ?_
        refine lv_ifnull hx hb d_Y_listReady_19 ?_
        refine lv_aload_n hx hb d_Y_listReady_22 rfl (lv_at hl 0 rfl) ?_
        refine yc_i (va_runV (As := []) (rest := []) ⟨hx, hb, hml, hown, hts⟩ (c_A_isReady l D cc ad LL X b0 _ (sx_rd σ y 0 r) hL y i hy hd hi) (cwV 0 hts (yg_call mc_A_isReady ml_Y_84 mm_A_isReady ms_A_isReady mi_A) rfl rfl rfl (by decide +kernel) ⟨Nat.le_of_ble_eq_true rfl, Nat.le_of_ble_eq_true rfl⟩) (y_preV hI hw (y_recv hK.1 hw h5 (by rfl) rfl)) rfl rfl hl.1 rfl (lv_room (Nat.le_of_ble_eq_true rfl)) d_Y_listReady_23 ⟨Nat.le_of_ble_eq_true rfl, Nat.le_of_ble_eq_true rfl⟩) hw hA (fun r u H locs he hw => ?_)
        subst he
        refine lv_if_eq (tgt := 39) hx hb d_Y_listReady_26 (by decide) (fun c_26 => ?_) (fun c_26 => ?_)
        · have e1 := yb_0 c_26
          refine lv_iinc (v := nI (i + 1)) (lv' := [(2, .int _), (3, .ref _), (1, .int _), (0, .ref _)]) hx hb d_Y_listReady_39 hl (k := 1) rfl (yinc i) (by decide) rfl (fun ls hl => ?_)
          refine lv_goto (tgt := 4) hx hb d_Y_listReady_42 (by decide) ?_
          exact ih (i + 1) r _ _ _ hd (by omega) (by rw [yp_rdy_s, if_neg (by rw [show yp_canb (s_T σ y) (s_D σ y) i = false from e1]; decide), List.append_nil]; exact hr) hw (by rw [yp_rdy_s, if_neg (by rw [show yp_canb (s_T σ y) (s_D σ y) i = false from e1]; decide), List.append_nil]; exact lv_sub hl [0, 2, 3] rfl)
        · have e1 := yb_1 c_26
          refine lv_aload_n hx hb d_Y_listReady_29 rfl (lv_at hl 3 rfl) ?_
          refine yr_get (C := R_Y) (T := F_Y) (N := 5) (ci := k_Y) hx hb ht j_Y hown hK.1 hw (by assumption) (by rfl) rfl 2 (by decide) (ht _ mf_Y_23) (fun _ h9 => h9) (by rfl) d_Y_listReady_30 ?_
          refine lv_iload_n hx hb d_Y_listReady_33 rfl (lv_at hl 2 rfl) ?_
          refine lv_iload_n hx hb d_Y_listReady_34 rfl (lv_at hl 1 rfl) ?_
          refine yr_iast hx hb hK.1 hw (by assumption) (by rfl) 0 rfl (vp_in_nI (by omega) (by omega)) d_Y_listReady_35 (fun H locs hw => ?_)
          rw [nI_clamp (by omega)] at hw
          have hw := yw_rd _ hw rfl
          rw [yrd_rd, yrd_get] at hw
          refine lv_iinc (v := nI ((yp_rdy (s_T σ y) (s_D σ y) i).length + 1)) (lv' := [(1, .int _), (3, .ref _), (2, .int _), (0, .ref _)]) hx hb d_Y_listReady_36 hl (k := 2) rfl (yinc _) (by decide) rfl (fun ls hl => ?_)
          refine lv_iinc (v := nI (i + 1)) (lv' := [(2, .int _), (1, .int _), (3, .ref _), (0, .ref _)]) hx hb d_Y_listReady_39 hl (k := 2) rfl (yinc i) (by decide) rfl (fun ls hl => ?_)
          refine lv_goto (tgt := 4) hx hb d_Y_listReady_42 (by decide) ?_
          have e2 : yp_rdy (s_T σ y) (s_D σ y) (i + 1) = yp_rdy (s_T σ y) (s_D σ y) i ++ [i] := by rw [yp_rdy_s, if_pos (show yp_canb (s_T σ y) (s_D σ y) i = true from e1)]
          exact ih (i + 1) _ _ _ _ hd (by omega) (by rw [e2]; exact yrd_app hr) hw (by rw [e2, List.length_append]; exact lv_sub hl [0, 1, 3] rfl)
      · have hie : i = s_n σ y := by omega
        subst hie
        refine lv_iload_n hx hb d_Y_listReady_4 rfl (lv_at hl 0 rfl) ?_
        refine lv_aload_n hx hb d_Y_listReady_5 rfl (lv_at hl 2 rfl) ?_
        refine yr_get (C := R_Y) (T := F_Y) (N := 5) (ci := k_Y) hx hb ht j_Y hown hK.1 hw (by assumption) (by rfl) rfl 3 (by decide) (ht _ mf_Y_27) (fun _ h9 => h9) (by rfl) d_Y_listReady_6 ?_
        refine lv_icmp_ge (tgt := 45) hx hb d_Y_listReady_9 (by decide) (fun c_9 => ?_) (fun c_9 => by exact absurd ((nI_leI (a := s_n σ y) (b := s_n σ y) (by omega) (by omega)).mpr (Nat.le_refl _)) c_9)
        refine lv_iload_n hx hb d_Y_listReady_45 rfl (lv_at hl 1 rfl) ?_
        exact ye_i hI r ⟨rfl, hr⟩ hw d_Y_listReady_46
  refine lv_iconst (v := (nI 0)) hx hb d_Y_listReady_0 (by decide) ?_
  refine lv_istore_n (lv' := [(1, .int _), (0, .ref _)]) hx hb d_Y_listReady_1 rfl hl (by decide) rfl (fun ls hl => ?_)
  refine lv_iconst (v := (nI 0)) hx hb d_Y_listReady_2 (by decide) ?_
  refine lv_istore_n (lv' := [(2, .int _), (1, .int _), (0, .ref _)]) hx hb d_Y_listReady_3 rfl hl (by decide) rfl (fun ls hl => ?_)
  exact loop (s_n σ y + 1) 0 (s_rd σ y 0) _ _ _ (Nat.zero_le _) (by omega) (fun j hj => absurd hj (by rw [yp_rdy_0]; exact Nat.not_lt_zero j)) (by rw [yrd_same]; exact hw) (lv_sub hl [0, 1, 2] rfl)
end
section
/-! YARD: stepDrawn, stepBySeed -/
def yDrw (σ : ys) (y m : Nat) (r : Int32) (σ' : ys) : Prop := yX σ y σ' ∧ s_T σ' y = s_T σ y ∧ yI σ' y ∧ (((yp_rdy (s_T σ y) (s_D σ y) (s_n σ y)) = [] ∧ r = 0 ∧ s_D σ' y = s_D σ y) ∨ ((yp_rdy (s_T σ y) (s_D σ y) (s_n σ y)) ≠ [] ∧ r = 1 ∧ s_D σ' y = yp_act (s_T σ y) (s_D σ y) ((yp_rdy (s_T σ y) (s_D σ y) (s_n σ y)).getD (m % (yp_rdy (s_T σ y) (s_D σ y) (s_n σ y)).length) 0)))
theorem wb_tb (n : Nat) : (lN n).toBitVec = BitVec.ofNat 64 n := rfl
theorem wb_inj {a b : Int64} (h : a.toBitVec = b.toBitVec) : a = b := Int64.toBitVec_inj.mp h
theorem wb_tn {n : Nat} (h : n < 2 ^ 64) : (lN n).toBitVec.toNat = n := by rw [wb_tb, BitVec.toNat_ofNat, Nat.mod_eq_of_lt h]
theorem wb_of (x : Int64) : ∃ n, n < 2 ^ 64 ∧ x = lN n := ⟨x.toBitVec.toNat, x.toBitVec.isLt, wb_inj (by rw [wb_tb]; simp)⟩
theorem wb_c : ∀ k, k < 64 → ((nI k).toInt64 &&& 63) = lN k := by decide +kernel
theorem wb_cu : ∀ k, k < 64 → ((nI k).toInt64.toUInt64 &&& Int64.toUInt64 63) = UInt64.ofNat k := by decide +kernel
theorem wb_sm : ∀ k, k < 64 → (BitVec.ofNat 64 k).smod 64 = BitVec.ofNat 64 k := by decide +kernel
theorem wb_pw {a b : Nat} (h : a ≤ b) : 2 ^ b = 2 ^ a * 2 ^ (b - a) := by rw [← Nat.pow_add]; congr 1; omega
theorem wb_lt2 {a b : Nat} (h : a < b) : 2 ^ a < 2 ^ b := Nat.pow_lt_pow_right (by decide) h
theorem wb_mod (n : Nat) : lN n = lN (n % 2 ^ 64) := wb_inj (by rw [wb_tb, wb_tb]; apply BitVec.eq_of_toNat_eq; rw [BitVec.toNat_ofNat, BitVec.toNat_ofNat, Nat.mod_mod])
theorem wb_shr {n k : Nat} (hn : n < 2 ^ 64) (hk : k < 64) : ((lN n).toUInt64 >>> ((nI k).toInt64.toUInt64 &&& Int64.toUInt64 63)).toInt64 = lN (n / 2 ^ k) := by
  rw [wb_cu k hk]
  apply wb_inj
  apply BitVec.eq_of_toNat_eq
  show ((lN n).toUInt64 >>> UInt64.ofNat k).toNat = (BitVec.ofNat 64 _).toNat
  have h1 : (UInt64.ofNat k).toNat = k := by
    show (BitVec.ofNat 64 k).toNat = k
    rw [BitVec.toNat_ofNat, Nat.mod_eq_of_lt (by omega)]
  have h2 : (lN n).toUInt64.toNat = n := wb_tn hn
  rw [UInt64.toNat_shiftRight, h1, h2, Nat.mod_eq_of_lt hk, Nat.shiftRight_eq_div_pow, BitVec.toNat_ofNat, Nat.mod_eq_of_lt (Nat.lt_of_le_of_lt (Nat.div_le_self _ _) hn)]
theorem wb_shl (n : Nat) {k : Nat} (hk : k < 64) : lN n <<< ((nI k).toInt64 &&& 63) = lN (n * 2 ^ k) := by
  rw [wb_c k hk]
  apply wb_inj
  rw [Int64.toBitVec_shiftLeft, wb_tb, wb_tb, wb_tb, wb_sm k hk]
  apply BitVec.eq_of_toNat_eq
  rw [BitVec.shiftLeft_eq', BitVec.toNat_shiftLeft, BitVec.toNat_ofNat, BitVec.toNat_ofNat, BitVec.toNat_ofNat, Nat.mod_eq_of_lt (show k < 2 ^ 64 by omega), Nat.shiftLeft_eq, Nat.mul_mod, Nat.mod_mod, ← Nat.mul_mod]
theorem wb_and {a b : Nat} (ha : a < 2 ^ 64) (hb : b < 2 ^ 64) : lN a &&& lN b = lN (a &&& b) := by
  apply wb_inj
  rw [Int64.toBitVec_and, wb_tb, wb_tb, wb_tb]
  apply BitVec.eq_of_toNat_eq
  rw [BitVec.toNat_and, BitVec.toNat_ofNat, BitVec.toNat_ofNat, BitVec.toNat_ofNat, Nat.mod_eq_of_lt ha, Nat.mod_eq_of_lt hb, Nat.mod_eq_of_lt (Nat.and_lt_two_pow _ hb)]
theorem wb_or {a b : Nat} (ha : a < 2 ^ 64) (hb : b < 2 ^ 64) : lN a ||| lN b = lN (a ||| b) := by
  apply wb_inj
  rw [Int64.toBitVec_or, wb_tb, wb_tb, wb_tb]
  apply BitVec.eq_of_toNat_eq
  rw [BitVec.toNat_or, BitVec.toNat_ofNat, BitVec.toNat_ofNat, BitVec.toNat_ofNat, Nat.mod_eq_of_lt ha, Nat.mod_eq_of_lt hb, Nat.mod_eq_of_lt (Nat.or_lt_two_pow ha hb)]
theorem wb_mask {n k : Nat} (hn : n < 2 ^ 64) (hk : k < 64) : lN n &&& lN (2 ^ k - 1) = lN (n % 2 ^ k) := by
  rw [wb_and hn (by have := wb_lt2 hk; omega), Nat.and_two_pow_sub_one_eq_mod]
theorem yush33 (x : Int64) : (x.toUInt64 >>> ((nI 33).toInt64.toUInt64 &&& Int64.toUInt64 63)).toInt64 = lN (x.toBitVec.toNat / 8589934592) := by
  obtain ⟨n, hn, rfl⟩ := wb_of x
  rw [wb_shr hn (by decide), wb_tn hn]
theorem yush_lt (x : Int64) : x.toBitVec.toNat / 8589934592 < 2 ^ 31 := by
  have := x.toBitVec.isLt
  omega
set_option maxHeartbeats 4000000 in
set_option maxRecDepth 100000 in
/-- stepDrawn: the one acts that is drawn -/
theorem c_Y_stepDrawn (l : Launch) (D : va_G) (cc : ClassId × ClassId × ClassId) (ad : yl → Nat) (LL : List yl) (X : va_W) (b0 sz : Nat) (σ : ys) (hL : ∀ q, yL σ q → q ∈ LL) (y : Nat) (hy : y < 2) (hi : yI σ y) (m : Nat) (hm : m < 2 ^ 31) : Met l y_Y_stepDrawn w_Y_stepDrawn ({ frames := 4, cells := 0, slots := 0, locals := 86 }) (yPr D cc b0 [.ref (ad (1, y, 0)), .long (lN m)] (yW cc ad LL X σ) sz) (va_Qi (fun r σ' => yDrw σ y m r σ') (yB D ycl (yW cc ad LL X σ) sz (fun σ' => yW cc ad LL X σ')) (va_A (yW cc ad LL X σ) sz)) 0 0 (va_A (yW cc ad LL X σ) sz) := by
  have g1 : (1, y, 0) ∈ LL := hL _ ⟨hy, rfl⟩
  have g2 : (2, y, 0) ∈ LL := hL _ ⟨hy, rfl⟩
  have g3 : (3, y, 0) ∈ LL := hL _ ⟨hy, rfl⟩
  have g4 : (4, y, 0) ∈ LL := hL _ ⟨hy, rfl⟩
  have hn10 := hi.1.1
  have hc16 := hi.2.1
  refine y_ofW (cc := b_Y_stepDrawn) (maxL := 6) (ret := (some .boolean)) (by decide) rfl (Nat.le_of_ble_eq_true rfl) ?_
  intro pv ev sv mv bv tv cv ls hI hsz hw hl
  obtain ⟨hx, hb, hr, hml, hts, hown, hlocks, hnm, hK, hAb, hb0, hA⟩ := id hI
  have ht : ∀ w ∈ lg_tbl, w.before _ sv = true := fun w h => hts w (List.mem_cons_of_mem _ h)
  have hl : lv_has ls 6 [(0, .ref (ad (1, y, 0))), (1, .long (lN m))] := hl
  have hle := yp_rdy_le (s_T σ y) (s_D σ y) (s_n σ y)
  by_cases hz : (yp_rdy (s_T σ y) (s_D σ y) (s_n σ y)) = []
  · refine lv_aload_n hx hb d_Y_stepDrawn_0 rfl (lv_at hl 0 rfl) ?_
    refine yc_i (va_runV (As := []) (rest := []) ⟨hx, hb, hml, hown, hts⟩ (c_Y_listReady l D cc ad LL X b0 _ σ hL y hy hi) (cwV 0 hts (yg_call mc_Y_listReady ml_Y_77 mm_Y_listReady ms_Y_listReady mi_Y) rfl rfl rfl (by decide +kernel) ⟨Nat.le_of_ble_eq_true rfl, Nat.le_of_ble_eq_true rfl⟩) (y_preV hI hw (y_recv hK.1 hw g1 (by rfl) rfl)) rfl rfl hl.1 rfl (lv_room (Nat.le_of_ble_eq_true rfl)) d_Y_stepDrawn_1 ⟨Nat.le_of_ble_eq_true rfl, Nat.le_of_ble_eq_true rfl⟩) hw hA (fun r rr H locs he hw => ?_)
    obtain ⟨rfl, hrd⟩ := he
    refine lv_istore_n (lv' := [(3, .int _), (0, .ref _), (1, .long _)]) hx hb d_Y_stepDrawn_4 rfl hl (by decide) rfl (fun ls hl => ?_)
    refine lv_iload_n hx hb d_Y_stepDrawn_5 rfl (lv_at hl 0 rfl) ?_
    refine lv_if_gt (tgt := 11) hx hb d_Y_stepDrawn_6 (by decide) (fun c_6 => by rw [hz] at c_6; exact absurd c_6 (by decide)) (fun c_6 => ?_)
    refine lv_iconst (v := 0) hx hb d_Y_stepDrawn_9 (by decide) ?_
    exact ye_z hI (by decide) (sx_rd σ y 0 rr) ⟨yX_rd, rfl, hi, Or.inl ⟨hz, rfl, rfl⟩⟩ hw d_Y_stepDrawn_10
  · have hpos : 0 < (yp_rdy (s_T σ y) (s_D σ y) (s_n σ y)).length := List.length_pos_iff.mpr hz
    have hix : (m % (yp_rdy (s_T σ y) (s_D σ y) (s_n σ y)).length) < (yp_rdy (s_T σ y) (s_D σ y) (s_n σ y)).length := Nat.mod_lt _ hpos
    obtain ⟨hai, hca⟩ := yp_rdy_in (T := s_T σ y) (d := s_D σ y) (n := s_n σ y) (i := ((yp_rdy (s_T σ y) (s_D σ y) (s_n σ y)).getD (m % (yp_rdy (s_T σ y) (s_D σ y) (s_n σ y)).length) 0)) (by rw [List.getD_eq_getElem?_getD, List.getElem?_eq_getElem hix]; exact List.getElem_mem _)
    have h5 : (5, y, ((yp_rdy (s_T σ y) (s_D σ y) (s_n σ y)).getD (m % (yp_rdy (s_T σ y) (s_D σ y) (s_n σ y)).length) 0)) ∈ LL := hL _ ⟨hy, hai⟩
    refine lv_aload_n hx hb d_Y_stepDrawn_0 rfl (lv_at hl 0 rfl) ?_
    refine yc_i (va_runV (As := []) (rest := []) ⟨hx, hb, hml, hown, hts⟩ (c_Y_listReady l D cc ad LL X b0 _ σ hL y hy hi) (cwV 0 hts (yg_call mc_Y_listReady ml_Y_77 mm_Y_listReady ms_Y_listReady mi_Y) rfl rfl rfl (by decide +kernel) ⟨Nat.le_of_ble_eq_true rfl, Nat.le_of_ble_eq_true rfl⟩) (y_preV hI hw (y_recv hK.1 hw g1 (by rfl) rfl)) rfl rfl hl.1 rfl (lv_room (Nat.le_of_ble_eq_true rfl)) d_Y_stepDrawn_1 ⟨Nat.le_of_ble_eq_true rfl, Nat.le_of_ble_eq_true rfl⟩) hw hA (fun r rr H locs he hw => ?_)
    obtain ⟨rfl, hrd⟩ := he
    refine lv_istore_n (lv' := [(3, .int _), (0, .ref _), (1, .long _)]) hx hb d_Y_stepDrawn_4 rfl hl (by decide) rfl (fun ls hl => ?_)
    refine lv_iload_n hx hb d_Y_stepDrawn_5 rfl (lv_at hl 0 rfl) ?_
    refine lv_if_gt (tgt := 11) hx hb d_Y_stepDrawn_6 (by decide) (fun c_6 => ?_) (fun c_6 => by exact absurd (nI_lt hpos (by omega)) c_6)
    refine lv_lload_n hx hb d_Y_stepDrawn_11 rfl (lv_at hl 2 rfl) ?_
    refine lv_iload_n hx hb d_Y_stepDrawn_12 rfl (lv_at hl 0 rfl) ?_
    refine lv_i2l hx hb d_Y_stepDrawn_13 rfl ?_
    rw [nI_l (by omega)]
    refine lv_lrem hx hb d_Y_stepDrawn_14 (fun h => absurd ((pk_lEQ (a := (yp_rdy (s_T σ y) (s_D σ y) (s_n σ y)).length) (b := 0) (by omega) (by omega)).mp h) (by omega)) ?_
    rw [pk_lRem (by omega) hpos (by omega)]
    refine lv_l2i hx hb d_Y_stepDrawn_15 rfl ?_
    rw [lN_i]
    refine lv_istore (lv' := [(4, .int _), (3, .int _), (0, .ref _), (1, .long _)]) hx hb d_Y_stepDrawn_16 hl (by decide) rfl (fun ls hl => ?_)
    refine lv_iload hx hb d_Y_stepDrawn_18 (lv_at hl 0 rfl) ?_
    refine lv_if_lt (tgt := 30) hx hb d_Y_stepDrawn_20 (by decide) (fun c_20 => by exact absurd c_20 (nI_pos (by omega))) (fun c_20 => ?_)
    refine lv_iload hx hb d_Y_stepDrawn_23 (lv_at hl 0 rfl) ?_
    refine lv_bipush (v := (nI 10)) hx hb d_Y_stepDrawn_25 (by decide) ?_
    refine lv_icmp_lt (tgt := 32) hx hb d_Y_stepDrawn_27 (by decide) (fun c_27 => ?_) (fun c_27 => by exact absurd (nI_lt (by omega) (by omega)) c_27)
    refine lv_aload_n hx hb d_Y_stepDrawn_32 rfl (lv_at hl 2 rfl) ?_
    refine lv_aload_n hx hb d_Y_stepDrawn_33 rfl (lv_at hl 2 rfl) ?_
    refine yr_get (C := R_Y) (T := F_Y) (N := 5) (ci := k_Y) hx hb ht j_Y hown hK.1 hw (by assumption) (by rfl) rfl 2 (by decide) (ht _ mf_Y_23) (fun _ h9 => h9) (by rfl) d_Y_stepDrawn_34 ?_
    refine lv_iload hx hb d_Y_stepDrawn_37 (lv_at hl 0 rfl) ?_
    refine yr_iald (v := nI ((yp_rdy (s_T σ y) (s_D σ y) (s_n σ y)).getD (m % (yp_rdy (s_T σ y) (s_D σ y) (s_n σ y)).length) 0)) hx hb hK.1 hw g4 (by rfl) 0 rfl (vp_in_nI (by omega) (by omega)) (by rw [nI_clamp (by omega), yrd_get]; exact hrd _ hix) d_Y_stepDrawn_39 ?_
    refine yc_q (va_runV (As := [.int _]) (rest := []) ⟨hx, hb, hml, hown, hts⟩ (c_Y_findActor l D cc ad LL X b0 _ (sx_rd σ y 0 rr) hL y hy hi ((yp_rdy (s_T σ y) (s_D σ y) (s_n σ y)).getD (m % (yp_rdy (s_T σ y) (s_D σ y) (s_n σ y)).length) 0) hai) (cwV 1 hts (yg_call mc_Y_findActor ml_Y_37 mm_Y_findActor ms_Y_findActor mi_Y) rfl rfl rfl (by decide +kernel) ⟨Nat.le_of_ble_eq_true rfl, Nat.le_of_ble_eq_true rfl⟩) (y_preV hI hw (y_recv hK.1 hw g1 (by rfl) rfl)) rfl rfl hl.1 rfl (lv_room (Nat.le_of_ble_eq_true rfl)) d_Y_stepDrawn_40 ⟨Nat.le_of_ble_eq_true rfl, Nat.le_of_ble_eq_true rfl⟩) hw hA (fun r u H locs he hw => ?_)
    subst he
    rw [yrf_s]
    refine lv_astore (lv' := [(5, .ref _), (4, .int _), (3, .int _), (0, .ref _), (1, .long _)]) hx hb d_Y_stepDrawn_43 hl (by decide) rfl (fun ls hl => ?_)
    refine lv_aload hx hb d_Y_stepDrawn_45 (lv_at hl 0 rfl) ?_
    refine lv_ifnonnull (tgt := 52) hx hb d_Y_stepDrawn_47 (by decide) ?_
    refine lv_aload hx hb d_Y_stepDrawn_52 (lv_at hl 0 rfl) ?_
    refine yc_v (va_runV (As := []) (rest := []) ⟨hx, hb, hml, hown, hts⟩ (c_A_step l D cc ad LL X b0 _ (sx_rd σ y 0 rr) hL y ((yp_rdy (s_T σ y) (s_D σ y) (s_n σ y)).getD (m % (yp_rdy (s_T σ y) (s_D σ y) (s_n σ y)).length) 0) hy hai hi hca) (cwV 0 hts (yg_call mc_A_step ml_Y_81 mm_A_step ms_A_step mi_A) rfl rfl rfl (by decide +kernel) ⟨Nat.le_of_ble_eq_true rfl, Nat.le_of_ble_eq_true rfl⟩) (y_preV hI hw (y_recv hK.1 hw h5 (by rfl) rfl)) rfl rfl hl.1 rfl (lv_room (Nat.le_of_ble_eq_true rfl)) d_Y_stepDrawn_54 ⟨Nat.le_of_ble_eq_true rfl, Nat.le_of_ble_eq_true rfl⟩) hw hA (fun u H locs he hw => ?_)
    refine lv_iconst (v := 1) hx hb d_Y_stepDrawn_57 (by decide) ?_
    exact ye_z hI (by decide) _ ⟨yX_rd.tr he.1, he.2.1, he.2.2.2, Or.inr ⟨hz, rfl, he.2.2.1⟩⟩ hw d_Y_stepDrawn_58
set_option maxHeartbeats 4000000 in
set_option maxRecDepth 100000 in
/-- stepBySeed: the run -/
theorem c_Y_stepBySeed (l : Launch) (D : va_G) (cc : ClassId × ClassId × ClassId) (ad : yl → Nat) (LL : List yl) (X : va_W) (b0 sz : Nat) (σ : ys) (hL : ∀ q, yL σ q → q ∈ LL) (y : Nat) (hy : y < 2) (hi : yI σ y) (x0 : Int64) (k : Nat) (hk : k ≤ 2000) : Met l y_Y_stepBySeed w_Y_stepBySeed ({ frames := 5, cells := 0, slots := 0, locals := 111 }) (yPr D cc b0 [.ref (ad (1, y, 0)), .long x0, .int (nI k)] (yW cc ad LL X σ) sz) (va_Qi (fun r σ' => yX σ y σ' ∧ s_T σ' y = s_T σ y ∧ yI σ' y ∧ r = nI (yp_run (s_T σ y) k x0 (s_D σ y)).2 ∧ s_D σ' y = (yp_run (s_T σ y) k x0 (s_D σ y)).1) (yB D ycl (yW cc ad LL X σ) sz (fun σ' => yW cc ad LL X σ')) (va_A (yW cc ad LL X σ) sz)) 0 0 (va_A (yW cc ad LL X σ) sz) := by
  have g1 : (1, y, 0) ∈ LL := hL _ ⟨hy, rfl⟩
  have g2 : (2, y, 0) ∈ LL := hL _ ⟨hy, rfl⟩
  have g3 : (3, y, 0) ∈ LL := hL _ ⟨hy, rfl⟩
  have g4 : (4, y, 0) ∈ LL := hL _ ⟨hy, rfl⟩
  have hn10 := hi.1.1
  have hc16 := hi.2.1
  refine y_ofW (cc := b_Y_stepBySeed) (maxL := 8) (ret := (some .int)) (by decide) rfl (Nat.le_of_ble_eq_true rfl) ?_
  intro pv ev sv mv bv tv cv ls hI hsz hw hl
  obtain ⟨hx, hb, hr, hml, hts, hown, hlocks, hnm, hK, hAb, hb0, hA⟩ := id hI
  have ht : ∀ w ∈ lg_tbl, w.before _ sv = true := fun w h => hts w (List.mem_cons_of_mem _ h)
  have hl : lv_has ls 8 [(0, .ref (ad (1, y, 0))), (1, .long x0), (3, .int (nI k))] := hl
  have loop : ∀ (f i : Nat) (x : Int64) (σ1 : ys) (H : Heap) (locs : List Loc) (ls : Array Slot), i + f = k → yX σ y σ1 → s_T σ1 y = s_T σ y → yI σ1 y → yp_run (s_T σ y) k x0 (s_D σ y) = ((yp_run (s_T σ y) f x (s_D σ1 y)).1, i + (yp_run (s_T σ y) f x (s_D σ1 y)).2) → yH D ycl (va_A (yW cc ad LL X σ) sz) sv.heap H locs (yW cc ad LL X σ1) → lv_has ls 8 [(7, .int (nI i)), (6, .int (nI i)), (4, .long x), (3, .int (nI k)), (0, .ref (ad (1, y, 0)))] → W pv l ev (headSpec w_Y_stepBySeed ({ frames := 5, cells := 0, slots := 0, locals := 111 })).room sv mv [.ref (ad (1, y, 0)), .long x0, .int (nI k)].toArray bv tv cv H locs 0 0 (MQ bv (va_Qi (fun r σ' => yX σ y σ' ∧ s_T σ' y = s_T σ y ∧ yI σ' y ∧ r = nI (yp_run (s_T σ y) k x0 (s_D σ y)).2 ∧ s_D σ' y = (yp_run (s_T σ y) k x0 (s_D σ y)).1) (yB D ycl (yW cc ad LL X σ) sz (fun σ' => yW cc ad LL X σ')) (va_A (yW cc ad LL X σ) sz)) [.ref (ad (1, y, 0)), .long x0, .int (nI k)].toArray sv 0 0 (va_A (yW cc ad LL X σ) sz)) (F0 mv 9 ls []) := by
    intro f
    induction f with
    | zero =>
      intro i x σ1 H locs ls hik hX hT hI1 hrun hw hl
      refine lv_iload hx hb d_Y_stepBySeed_9 (lv_at hl 0 rfl) ?_
      refine lv_iload_n hx hb d_Y_stepBySeed_11 rfl (lv_at hl 3 rfl) ?_
      refine lv_icmp_ge (tgt := 51) hx hb d_Y_stepBySeed_12 (by decide) (fun c_12 => ?_) (fun c_12 => by exact absurd (nI_le (by omega) (by omega)) c_12)
      refine lv_iload hx hb d_Y_stepBySeed_51 (lv_at hl 1 rfl) ?_
      exact ye_i hI σ1 ⟨hX, hT, hI1, by rw [hrun]; rfl, by rw [hrun]; rfl⟩ hw d_Y_stepBySeed_53
    | succ f ih =>
      intro i x σ1 H locs ls hik hX hT hI1 hrun hw hl
      have hL1 := hX.L hL
      refine lv_iload hx hb d_Y_stepBySeed_9 (lv_at hl 0 rfl) ?_
      refine lv_iload_n hx hb d_Y_stepBySeed_11 rfl (lv_at hl 3 rfl) ?_
      refine lv_icmp_ge (tgt := 51) hx hb d_Y_stepBySeed_12 (by decide) (fun c_12 => by exact absurd c_12 (nI_ge (by omega) (by omega))) (fun c_12 => ?_)
      refine lv_lload hx hb d_Y_stepBySeed_15 (lv_at hl 2 rfl) ?_
      refine lv_ldc2 hx hb hown (ht _ mq_Y_69) d_Y_stepBySeed_17 ?_
      refine lv_lmul hx hb d_Y_stepBySeed_20 ?_
      refine lv_ldc2 hx hb hown (ht _ mq_Y_71) d_Y_stepBySeed_21 ?_
      refine lv_ladd hx hb d_Y_stepBySeed_24 ?_
      rw [show x * 6364136223846793005 + 1442695040888963407 = yp_nx x from rfl]
      refine lv_lstore (lv' := [(4, .long _), (7, .int _), (6, .int _), (3, .int _), (0, .ref _)]) hx hb d_Y_stepBySeed_25 hl (by decide) rfl (fun ls hl => ?_)
      refine lv_aload_n hx hb d_Y_stepBySeed_27 rfl (lv_at hl 4 rfl) ?_
      refine lv_lload hx hb d_Y_stepBySeed_28 (lv_at hl 0 rfl) ?_
      refine lv_bipush (v := (nI 33)) hx hb d_Y_stepBySeed_30 (by decide) ?_
      refine lv_lushr hx hb d_Y_stepBySeed_32 rfl ?_
      rw [yush33]
      refine yc_i (va_runV (As := [.long _]) (rest := []) ⟨hx, hb, hml, hown, hts⟩ (c_Y_stepDrawn l D cc ad LL X b0 _ σ1 hL1 y hy hI1 _ (yush_lt _)) (cwV 1 hts (yg_call mc_Y_stepDrawn ml_Y_73 mm_Y_stepDrawn ms_Y_stepDrawn mi_Y) rfl rfl rfl (by decide +kernel) ⟨Nat.le_of_ble_eq_true rfl, Nat.le_of_ble_eq_true rfl⟩) (y_preV hI hw (y_recv hK.1 hw g1 (by rfl) rfl)) rfl rfl hl.1 rfl (lv_room (Nat.le_of_ble_eq_true rfl)) d_Y_stepBySeed_33 ⟨Nat.le_of_ble_eq_true rfl, Nat.le_of_ble_eq_true rfl⟩) hw hA (fun r u H locs he hw => ?_)
      obtain ⟨hX1, hT1, hI2, hd⟩ := he
      rw [hT] at hd
      rcases hd with ⟨hz, rfl, hD⟩ | ⟨hz, rfl, hD⟩
      · refine lv_if_ne (tgt := 42) hx hb d_Y_stepBySeed_36 (by decide) (fun c_36 => by exact absurd rfl c_36) (fun c_36 => ?_)
        refine lv_goto (tgt := 51) hx hb d_Y_stepBySeed_39 (by decide) ?_
        refine lv_iload hx hb d_Y_stepBySeed_51 (lv_at hl 2 rfl) ?_
        have e0 : yp_run (s_T σ y) (f + 1) x (s_D σ1 y) = (s_D σ1 y, 0) := by unfold yp_run; rw [if_pos (show yp_rdy (s_T σ y) (s_D σ1 y) (yp_n (s_T σ y)) = [] by have h := hz; rw [hX.sn y] at h; exact h)]
        rw [e0] at hrun
        exact ye_i hI u ⟨hX.tr hX1, hT1.trans hT, hI2, by rw [hrun]; rfl, by rw [hrun, hD]⟩ hw d_Y_stepBySeed_53
      · refine lv_if_ne (tgt := 42) hx hb d_Y_stepBySeed_36 (by decide) (fun c_36 => ?_) (fun c_36 => by exact absurd c_36 (by decide))
        refine lv_iinc (v := nI (i + 1)) (lv' := [(6, .int _), (4, .long _), (7, .int _), (3, .int _), (0, .ref _)]) hx hb d_Y_stepBySeed_42 hl (k := 2) rfl (yinc i) (by decide) rfl (fun ls hl => ?_)
        refine lv_iinc (v := nI (i + 1)) (lv' := [(7, .int _), (6, .int _), (4, .long _), (3, .int _), (0, .ref _)]) hx hb d_Y_stepBySeed_45 hl (k := 2) rfl (yinc i) (by decide) rfl (fun ls hl => ?_)
        refine lv_goto (tgt := 9) hx hb d_Y_stepBySeed_48 (by decide) ?_
        have hz' : yp_rdy (s_T σ y) (s_D σ1 y) (yp_n (s_T σ y)) ≠ [] := by have h := hz; rw [hX.sn y] at h; exact h
        have hD' : s_D u y = yp_act (s_T σ y) (s_D σ1 y) (yp_dr (s_T σ y) (s_D σ1 y) (yp_nx x)) := by rw [hD]; unfold yp_dr yp_ix; rw [hX.sn y]; rfl
        have e0 : yp_run (s_T σ y) (f + 1) x (s_D σ1 y) = ((yp_run (s_T σ y) f (yp_nx x) (s_D u y)).1, (yp_run (s_T σ y) f (yp_nx x) (s_D u y)).2 + 1) := by rw [hD']; show (if _ then _ else _) = _; rw [if_neg hz']
        exact ih (i + 1) (yp_nx x) u _ _ _ (by omega) (hX.tr hX1) (hT1.trans hT) hI2 (by rw [hrun, e0]; refine congrArg (fun z => (_, z)) ?_; omega) hw (lv_sub hl [0, 1, 2, 3, 4] rfl)
  refine lv_lload_n hx hb d_Y_stepBySeed_0 rfl (lv_at hl 1 rfl) ?_
  refine lv_lstore (lv' := [(4, .long _), (0, .ref _), (1, .long _), (3, .int _)]) hx hb d_Y_stepBySeed_1 hl (by decide) rfl (fun ls hl => ?_)
  refine lv_iconst (v := (nI 0)) hx hb d_Y_stepBySeed_3 (by decide) ?_
  refine lv_istore (lv' := [(6, .int _), (4, .long _), (0, .ref _), (1, .long _), (3, .int _)]) hx hb d_Y_stepBySeed_4 hl (by decide) rfl (fun ls hl => ?_)
  refine lv_iconst (v := (nI 0)) hx hb d_Y_stepBySeed_6 (by decide) ?_
  refine lv_istore (lv' := [(7, .int _), (6, .int _), (4, .long _), (0, .ref _), (1, .long _), (3, .int _)]) hx hb d_Y_stepBySeed_7 hl (by decide) rfl (fun ls hl => ?_)
  exact loop k 0 x0 σ _ _ _ (by omega) yX.rf rfl hi (by rw [Nat.zero_add]) hw (lv_sub hl [0, 1, 2, 5, 3] rfl)
end
section
/-! YARD: stepRound, settle -/
def yRnd (σ : ys) (y i : Nat) (b : Bool) (m : Nat) (σ1 : ys) : Prop := yX σ y σ1 ∧ s_T σ1 y = s_T σ y ∧ yI σ1 y ∧ yp_path (s_T σ y) m (s_D σ y) (s_D σ1 y) ∧ (b = false → m = 0 ∧ ∀ i', i' < i → yp_canb (s_T σ y) (s_D σ y) i' = false) ∧ (b = true → 0 < m)
theorem yRnd_step {σ σ1 u : ys} {y i : Nat} {b : Bool} {m : Nat} (hR : yRnd σ y i b m σ1) (hn : i < s_n σ y) (hc : yp_canb (s_T σ1 y) (s_D σ1 y) i = true) (hs : yStp σ1 y i u) : yRnd σ y i true (m + 1) u := by
  obtain ⟨h1, h2, h3, h4, h5, h6⟩ := hR
  obtain ⟨g1, g2, g3, g4⟩ := hs
  rw [h2] at hc g3
  refine ⟨h1.tr g1, g2.trans h2, g4, yp_path_app m 1 _ _ _ h4 ?_, fun q => (by cases q), fun _ => by omega⟩
  rw [g3]
  exact yp_path_1 hn hc
theorem yRnd_next1 {σ σ1 : ys} {y i : Nat} {m : Nat} (hR : yRnd σ y i true m σ1) : yRnd σ y (i + 1) true m σ1 := by
  obtain ⟨h1, h2, h3, h4, h5, h6⟩ := hR
  exact ⟨h1, h2, h3, h4, fun q => (by cases q), h6⟩
theorem yRnd_next0 {σ σ1 : ys} {y i : Nat} {b : Bool} {m : Nat} (hR : yRnd σ y i b m σ1) (hc : yp_canb (s_T σ1 y) (s_D σ1 y) i = false) : yRnd σ y (i + 1) b m σ1 := by
  obtain ⟨h1, h2, h3, h4, h5, h6⟩ := hR
  refine ⟨h1, h2, h3, h4, fun q => ?_, h6⟩
  obtain ⟨hm, hno⟩ := h5 q
  refine ⟨hm, fun i' hi' => ?_⟩
  by_cases h : i' = i
  · subst h
    subst hm
    have hD : s_D σ y = s_D σ1 y := h4
    rw [hD, ← h2]
    exact hc
  · exact hno i' (by omega)
set_option maxHeartbeats 4000000 in
set_option maxRecDepth 100000 in
/-- stepRound: each acts while it can, by their numbers -/
theorem c_Y_stepRound (l : Launch) (D : va_G) (cc : ClassId × ClassId × ClassId) (ad : yl → Nat) (LL : List yl) (X : va_W) (b0 sz : Nat) (σ : ys) (hL : ∀ q, yL σ q → q ∈ LL) (y : Nat) (hy : y < 2) (hi : yI σ y) : Met l y_Y_stepRound w_Y_stepRound ({ frames := 3, cells := 0, slots := 0, locals := 67 }) (yPr D cc b0 [.ref (ad (1, y, 0))] (yW cc ad LL X σ) sz) (va_Qi (fun r σ' => ∃ (b : Bool) (m : Nat), r = yb b ∧ yRnd σ y (s_n σ y) b m σ') (yB D ycl (yW cc ad LL X σ) sz (fun σ' => yW cc ad LL X σ')) (va_A (yW cc ad LL X σ) sz)) 0 0 (va_A (yW cc ad LL X σ) sz) := by
  have g1 : (1, y, 0) ∈ LL := hL _ ⟨hy, rfl⟩
  have g2 : (2, y, 0) ∈ LL := hL _ ⟨hy, rfl⟩
  have g3 : (3, y, 0) ∈ LL := hL _ ⟨hy, rfl⟩
  have g4 : (4, y, 0) ∈ LL := hL _ ⟨hy, rfl⟩
  have hn10 := hi.1.1
  have hc16 := hi.2.1
  refine y_ofW (cc := b_Y_stepRound) (maxL := 5) (ret := (some .boolean)) (by decide) rfl (Nat.le_of_ble_eq_true rfl) ?_
  intro pv ev sv mv bv tv cv ls hI hsz hw hl
  obtain ⟨hx, hb, hr, hml, hts, hown, hlocks, hnm, hK, hAb, hb0, hA⟩ := id hI
  have ht : ∀ w ∈ lg_tbl, w.before _ sv = true := fun w h => hts w (List.mem_cons_of_mem _ h)
  have hl : lv_has ls 5 [(0, .ref (ad (1, y, 0)))] := hl
  have loop : ∀ (f i : Nat) (b : Bool) (m : Nat) (σ1 : ys) (H : Heap) (locs : List Loc) (ls : Array Slot), i + f = s_n σ y → yRnd σ y i b m σ1 → yH D ycl (va_A (yW cc ad LL X σ) sz) sv.heap H locs (yW cc ad LL X σ1) → lv_has ls 5 [(2, .int (nI i)), (1, .int (yb b)), (0, .ref (ad (1, y, 0)))] → W pv l ev (headSpec w_Y_stepRound ({ frames := 3, cells := 0, slots := 0, locals := 67 })).room sv mv [.ref (ad (1, y, 0))].toArray bv tv cv H locs 0 0 (MQ bv (va_Qi (fun r σ' => ∃ (b : Bool) (m : Nat), r = yb b ∧ yRnd σ y (s_n σ y) b m σ') (yB D ycl (yW cc ad LL X σ) sz (fun σ' => yW cc ad LL X σ')) (va_A (yW cc ad LL X σ) sz)) [.ref (ad (1, y, 0))].toArray sv 0 0 (va_A (yW cc ad LL X σ) sz)) (F0 mv 4 ls []) := by
    intro f
    induction f with
    | zero =>
      intro i b m σ1 H locs ls hik hR hw hl
      have hie : i = s_n σ y := by omega
      subst hie
      refine lv_iload_n hx hb d_Y_stepRound_4 rfl (lv_at hl 0 rfl) ?_
      refine lv_aload_n hx hb d_Y_stepRound_5 rfl (lv_at hl 2 rfl) ?_
      refine yr_get (C := R_Y) (T := F_Y) (N := 5) (ci := k_Y) hx hb ht j_Y hown hK.1 hw (by assumption) (by rfl) rfl 3 (by decide) (ht _ mf_Y_27) (fun _ h9 => h9) (by rfl) d_Y_stepRound_6 ?_
      refine lv_icmp_ge (tgt := 60) hx hb d_Y_stepRound_9 (by decide) (fun c_9 => ?_) (fun c_9 => by exact absurd (by rw [hR.1.sn y]; exact nI_le (by omega) (by omega)) c_9)
      refine lv_iload_n hx hb d_Y_stepRound_60 rfl (lv_at hl 1 rfl) ?_
      exact ye_z hI (yb_n b) σ1 ⟨b, m, rfl, hR⟩ hw d_Y_stepRound_61
    | succ f ih =>
      intro i b m σ1 H locs ls hik hR hw hl
      have hd : i < s_n σ1 y := by rw [hR.1.sn y]; omega
      have hL0 := hR.1.L hL
      have hI0 := hR.2.2.1
      have inner : ∀ (g j : Nat) (b : Bool) (m : Nat) (σ1 : ys) (H : Heap) (locs : List Loc) (ls : Array Slot), j + g = 100 → yRnd σ y i b m σ1 → (0 < j → b = true) → yH D ycl (va_A (yW cc ad LL X σ) sz) sv.heap H locs (yW cc ad LL X σ1) → lv_has ls 5 [(4, .int (nI j)), (3, .ref (ad (5, y, i))), (2, .int (nI i)), (1, .int (yb b)), (0, .ref (ad (1, y, 0)))] → W pv l ev (headSpec w_Y_stepRound ({ frames := 3, cells := 0, slots := 0, locals := 67 })).room sv mv [.ref (ad (1, y, 0))].toArray bv tv cv H locs 0 0 (MQ bv (va_Qi (fun r σ' => ∃ (b : Bool) (m : Nat), r = yb b ∧ yRnd σ y (s_n σ y) b m σ') (yB D ycl (yW cc ad LL X σ) sz (fun σ' => yW cc ad LL X σ')) (va_A (yW cc ad LL X σ) sz)) [.ref (ad (1, y, 0))].toArray sv 0 0 (va_A (yW cc ad LL X σ) sz)) (F0 mv 21 ls []) := by
        intro g
        induction g with
        | zero =>
          intro j b m σ1 H locs ls hjg hR hjb hw hl
          refine lv_iload hx hb d_Y_stepRound_21 (lv_at hl 0 rfl) ?_
          refine lv_bipush (v := (nI 100)) hx hb d_Y_stepRound_23 (by decide) ?_
          refine lv_icmp_ge (tgt := 54) hx hb d_Y_stepRound_25 (by decide) (fun c_25 => ?_) (fun c_25 => by exact absurd (nI_le (by omega) (by omega)) c_25)
          refine lv_iinc (v := nI (i + 1)) (lv' := [(2, .int _), (4, .int _), (3, .ref _), (1, .int _), (0, .ref _)]) hx hb d_Y_stepRound_54 hl (k := 2) rfl (yinc i) (by decide) rfl (fun ls hl => ?_)
          refine lv_goto (tgt := 4) hx hb d_Y_stepRound_57 (by decide) ?_
          exact ih (i + 1) b m σ1 _ _ _ (by omega) (by have hb2 := hjb (by omega); subst hb2; exact yRnd_next1 hR) hw (lv_sub hl [0, 3, 4] rfl)
        | succ g ihg =>
          intro j b m σ1 H locs ls hjg hR hjb hw hl
          have hd1 : i < s_n σ1 y := by rw [hR.1.sn y]; omega
          have hL1 := hR.1.L hL
          have h5 : (5, y, i) ∈ LL := hL1 _ ⟨hy, hd1⟩
          refine lv_iload hx hb d_Y_stepRound_21 (lv_at hl 0 rfl) ?_
          refine lv_bipush (v := (nI 100)) hx hb d_Y_stepRound_23 (by decide) ?_
          refine lv_icmp_ge (tgt := 54) hx hb d_Y_stepRound_25 (by decide) (fun c_25 => by exact absurd c_25 (nI_ge (by omega) (by omega))) (fun c_25 => ?_)
          refine lv_aload_n hx hb d_Y_stepRound_28 rfl (lv_at hl 1 rfl) ?_
          refine lv_ifnull hx hb d_Y_stepRound_29 ?_
          refine lv_aload_n hx hb d_Y_stepRound_32 rfl (lv_at hl 1 rfl) ?_
          refine yc_i (va_runV (As := []) (rest := []) ⟨hx, hb, hml, hown, hts⟩ (c_A_isReady l D cc ad LL X b0 _ σ1 hL1 y i hy hd1 hR.2.2.1) (cwV 0 hts (yg_call mc_A_isReady ml_Y_84 mm_A_isReady ms_A_isReady mi_A) rfl rfl rfl (by decide +kernel) ⟨Nat.le_of_ble_eq_true rfl, Nat.le_of_ble_eq_true rfl⟩) (y_preV hI hw (y_recv hK.1 hw h5 (by rfl) rfl)) rfl rfl hl.1 rfl (lv_room (Nat.le_of_ble_eq_true rfl)) d_Y_stepRound_33 ⟨Nat.le_of_ble_eq_true rfl, Nat.le_of_ble_eq_true rfl⟩) hw hA (fun r u H locs he hw => ?_)
          subst he
          refine lv_if_ne (tgt := 42) hx hb d_Y_stepRound_36 (by decide) (fun c_36 => ?_) (fun c_36 => ?_)
          · have e1 := yb_1 c_36
            refine lv_aload_n hx hb d_Y_stepRound_42 rfl (lv_at hl 1 rfl) ?_
            refine yc_v (va_runV (As := []) (rest := []) ⟨hx, hb, hml, hown, hts⟩ (c_A_step l D cc ad LL X b0 _ σ1 hL1 y i hy hd1 hR.2.2.1 e1) (cwV 0 hts (yg_call mc_A_step ml_Y_81 mm_A_step ms_A_step mi_A) rfl rfl rfl (by decide +kernel) ⟨Nat.le_of_ble_eq_true rfl, Nat.le_of_ble_eq_true rfl⟩) (y_preV hI hw (y_recv hK.1 hw h5 (by rfl) rfl)) rfl rfl hl.1 rfl (lv_room (Nat.le_of_ble_eq_true rfl)) d_Y_stepRound_43 ⟨Nat.le_of_ble_eq_true rfl, Nat.le_of_ble_eq_true rfl⟩) hw hA (fun u H locs he hw => ?_)
            refine lv_iconst (v := (yb true)) hx hb d_Y_stepRound_46 (by decide) ?_
            refine lv_istore_n (lv' := [(1, .int _), (4, .int _), (3, .ref _), (2, .int _), (0, .ref _)]) hx hb d_Y_stepRound_47 rfl hl (by decide) rfl (fun ls hl => ?_)
            refine lv_iinc (v := nI (j + 1)) (lv' := [(4, .int _), (1, .int _), (3, .ref _), (2, .int _), (0, .ref _)]) hx hb d_Y_stepRound_48 hl (k := 1) rfl (yinc j) (by decide) rfl (fun ls hl => ?_)
            refine lv_goto (tgt := 21) hx hb d_Y_stepRound_51 (by decide) ?_
            exact ihg (j + 1) true (m + 1) u _ _ _ (by omega) (yRnd_step hR (by omega) e1 he) (fun _ => rfl) hw (lv_sub hl [0, 2, 3, 1, 4] rfl)
          · have e1 := yb_0 c_36
            refine lv_goto (tgt := 54) hx hb d_Y_stepRound_39 (by decide) ?_
            refine lv_iinc (v := nI (i + 1)) (lv' := [(2, .int _), (4, .int _), (3, .ref _), (1, .int _), (0, .ref _)]) hx hb d_Y_stepRound_54 hl (k := 2) rfl (yinc i) (by decide) rfl (fun ls hl => ?_)
            refine lv_goto (tgt := 4) hx hb d_Y_stepRound_57 (by decide) ?_
            exact ih (i + 1) b m σ1 _ _ _ (by omega) (yRnd_next0 hR e1) hw (lv_sub hl [0, 3, 4] rfl)
      have hn1 : s_n σ1 y ≤ 10 := by rw [hR.1.sn y]; exact hn10
      refine lv_iload_n hx hb d_Y_stepRound_4 rfl (lv_at hl 0 rfl) ?_
      refine lv_aload_n hx hb d_Y_stepRound_5 rfl (lv_at hl 2 rfl) ?_
      refine yr_get (C := R_Y) (T := F_Y) (N := 5) (ci := k_Y) hx hb ht j_Y hown hK.1 hw (by assumption) (by rfl) rfl 3 (by decide) (ht _ mf_Y_27) (fun _ h9 => h9) (by rfl) d_Y_stepRound_6 ?_
      refine lv_icmp_ge (tgt := 60) hx hb d_Y_stepRound_9 (by decide) (fun c_9 => by exact absurd ((nI_leI (by omega) (by omega)).mp c_9) (Nat.not_le.mpr hd)) (fun c_9 => ?_)
      refine lv_aload_n hx hb d_Y_stepRound_12 rfl (lv_at hl 2 rfl) ?_
      refine lv_iload_n hx hb d_Y_stepRound_13 rfl (lv_at hl 0 rfl) ?_
      refine yc_q (va_runV (As := [.int _]) (rest := []) ⟨hx, hb, hml, hown, hts⟩ (c_Y_findActor l D cc ad LL X b0 _ σ1 hL0 y hy hI0 i hd) (cwV 1 hts (yg_call mc_Y_findActor ml_Y_37 mm_Y_findActor ms_Y_findActor mi_Y) rfl rfl rfl (by decide +kernel) ⟨Nat.le_of_ble_eq_true rfl, Nat.le_of_ble_eq_true rfl⟩) (y_preV hI hw (y_recv hK.1 hw g1 (by rfl) rfl)) rfl rfl hl.1 rfl (lv_room (Nat.le_of_ble_eq_true rfl)) d_Y_stepRound_14 ⟨Nat.le_of_ble_eq_true rfl, Nat.le_of_ble_eq_true rfl⟩) hw hA (fun r u H locs he hw => ?_)
      subst he
      rw [yrf_s]
      refine lv_astore_n (lv' := [(3, .ref _), (2, .int _), (1, .int _), (0, .ref _)]) hx hb d_Y_stepRound_17 rfl hl (by decide) rfl (fun ls hl => ?_)
      refine lv_iconst (v := (nI 0)) hx hb d_Y_stepRound_18 (by decide) ?_
      refine lv_istore (lv' := [(4, .int _), (3, .ref _), (2, .int _), (1, .int _), (0, .ref _)]) hx hb d_Y_stepRound_19 hl (by decide) rfl (fun ls hl => ?_)
      exact inner 100 0 b m σ1 _ _ _ (by omega) hR (fun h => absurd h (by omega)) hw (lv_sub hl [0, 1, 2, 3, 4] rfl)
  refine lv_iconst (v := (yb false)) hx hb d_Y_stepRound_0 (by decide) ?_
  refine lv_istore_n (lv' := [(1, .int _), (0, .ref _)]) hx hb d_Y_stepRound_1 rfl hl (by decide) rfl (fun ls hl => ?_)
  refine lv_iconst (v := (nI 0)) hx hb d_Y_stepRound_2 (by decide) ?_
  refine lv_istore_n (lv' := [(2, .int _), (1, .int _), (0, .ref _)]) hx hb d_Y_stepRound_3 rfl hl (by decide) rfl (fun ls hl => ?_)
  exact loop (s_n σ y) 0 false 0 σ _ _ _ (by omega) ⟨yX.rf, rfl, hi, rfl, fun _ => ⟨rfl, fun _ h => absurd h (by omega)⟩, fun h => by cases h⟩ hw (lv_sub hl [0, 1, 2] rfl)
set_option maxHeartbeats 4000000 in
set_option maxRecDepth 100000 in
/-- settle: until nobody can act -/
theorem c_Y_settle (l : Launch) (D : va_G) (cc : ClassId × ClassId × ClassId) (ad : yl → Nat) (LL : List yl) (X : va_W) (b0 sz : Nat) (σ : ys) (hL : ∀ q, yL σ q → q ∈ LL) (y : Nat) (hy : y < 2) (hi : yI σ y) : Met l y_Y_settle w_Y_settle ({ frames := 4, cells := 0, slots := 0, locals := 91 }) (yPr D cc b0 [.ref (ad (1, y, 0))] (yW cc ad LL X σ) sz) (va_Qv (fun σ' => yX σ y σ' ∧ s_T σ' y = s_T σ y ∧ yI σ' y ∧ yp_fin (s_T σ y) (s_D σ y) (s_D σ' y)) (yB D ycl (yW cc ad LL X σ) sz (fun σ' => yW cc ad LL X σ')) (va_A (yW cc ad LL X σ) sz)) 0 0 (va_A (yW cc ad LL X σ) sz) := by
  have g1 : (1, y, 0) ∈ LL := hL _ ⟨hy, rfl⟩
  have g2 : (2, y, 0) ∈ LL := hL _ ⟨hy, rfl⟩
  have g3 : (3, y, 0) ∈ LL := hL _ ⟨hy, rfl⟩
  have g4 : (4, y, 0) ∈ LL := hL _ ⟨hy, rfl⟩
  have hn10 := hi.1.1
  have hc16 := hi.2.1
  refine y_ofW (cc := b_Y_settle) (maxL := 2) (ret := none) (by decide) rfl (Nat.le_of_ble_eq_true rfl) ?_
  intro pv ev sv mv bv tv cv ls hI hsz hw hl
  obtain ⟨hx, hb, hr, hml, hts, hown, hlocks, hnm, hK, hAb, hb0, hA⟩ := id hI
  have ht : ∀ w ∈ lg_tbl, w.before _ sv = true := fun w h => hts w (List.mem_cons_of_mem _ h)
  have hl : lv_has ls 2 [(0, .ref (ad (1, y, 0)))] := hl
  have loop : ∀ (f i m : Nat) (σ1 : ys) (H : Heap) (locs : List Loc) (ls : Array Slot), i + f = 1001 → i ≤ m → yX σ y σ1 → s_T σ1 y = s_T σ y → yI σ1 y → yp_path (s_T σ y) m (s_D σ y) (s_D σ1 y) → yH D ycl (va_A (yW cc ad LL X σ) sz) sv.heap H locs (yW cc ad LL X σ1) → lv_has ls 2 [(1, .int (nI i)), (0, .ref (ad (1, y, 0)))] → W pv l ev (headSpec w_Y_settle ({ frames := 4, cells := 0, slots := 0, locals := 91 })).room sv mv [.ref (ad (1, y, 0))].toArray bv tv cv H locs 0 0 (MQ bv (va_Qv (fun σ' => yX σ y σ' ∧ s_T σ' y = s_T σ y ∧ yI σ' y ∧ yp_fin (s_T σ y) (s_D σ y) (s_D σ' y)) (yB D ycl (yW cc ad LL X σ) sz (fun σ' => yW cc ad LL X σ')) (va_A (yW cc ad LL X σ) sz)) [.ref (ad (1, y, 0))].toArray sv 0 0 (va_A (yW cc ad LL X σ) sz)) (F0 mv 2 ls []) := by
    intro f
    induction f with
    | zero =>
      intro i m σ1 H locs ls hik him hX hT hI1 hp hw hl
      have h1 := yp_path_short hp (fun j => (hi.2.2.1 j).2.2.2.1)
      have h2 : yp_n (s_T σ y) ≤ 10 := hn10
      omega
    | succ f ih =>
      intro i m σ1 H locs ls hik him hX hT hI1 hp hw hl
      have hL1 := hX.L hL
      refine lv_iload_n hx hb d_Y_settle_2 rfl (lv_at hl 0 rfl) ?_
      refine lv_sipush (v := (nI 1000)) hx hb d_Y_settle_3 (by decide) ?_
      refine lv_icmp_gt (tgt := 25) hx hb d_Y_settle_6 (by decide) (fun c_6 => by exact absurd c_6 (nI_nlt (by omega) (by omega))) (fun c_6 => ?_)
      refine lv_aload_n hx hb d_Y_settle_9 rfl (lv_at hl 1 rfl) ?_
      refine yc_i (va_runV (As := []) (rest := []) ⟨hx, hb, hml, hown, hts⟩ (c_Y_stepRound l D cc ad LL X b0 _ σ1 hL1 y hy hI1) (cwV 0 hts (yg_call mc_Y_stepRound ml_Y_87 mm_Y_stepRound ms_Y_stepRound mi_Y) rfl rfl rfl (by decide +kernel) ⟨Nat.le_of_ble_eq_true rfl, Nat.le_of_ble_eq_true rfl⟩) (y_preV hI hw (y_recv hK.1 hw g1 (by rfl) rfl)) rfl rfl hl.1 rfl (lv_room (Nat.le_of_ble_eq_true rfl)) d_Y_settle_10 ⟨Nat.le_of_ble_eq_true rfl, Nat.le_of_ble_eq_true rfl⟩) hw hA (fun r u H locs he hw => ?_)
      obtain ⟨b, m', rfl, hR⟩ := he
      obtain ⟨hX1, hT1, hI2, hp1, hb0', hb1'⟩ := hR
      rw [hT] at hp1
      cases b with
      | false =>
        obtain ⟨hm, hno⟩ := hb0' rfl
        subst hm
        have hD : s_D σ1 y = s_D u y := hp1
        refine lv_if_ne (tgt := 19) hx hb d_Y_settle_13 (by decide) (fun c_13 => by exact absurd rfl c_13) (fun c_13 => ?_)
        refine lv_goto (tgt := 25) hx hb d_Y_settle_16 (by decide) ?_
        exact ye_v hI u ⟨hX.tr hX1, hT1.trans hT, hI2, ⟨fun i' hi' => by rw [← hD, ← hT]; exact hno i' (by rw [hX.sn y]; exact hi'), m, by rw [← hD]; exact hp⟩⟩ hw d_Y_settle_25
      | true =>
        have hm := hb1' rfl
        refine lv_if_ne (tgt := 19) hx hb d_Y_settle_13 (by decide) (fun c_13 => ?_) (fun c_13 => by exact absurd c_13 (by decide))
        refine lv_iinc (v := nI (i + 1)) (lv' := [(1, .int _), (0, .ref _)]) hx hb d_Y_settle_19 hl (k := 0) rfl (yinc i) (by decide) rfl (fun ls hl => ?_)
        refine lv_goto (tgt := 2) hx hb d_Y_settle_22 (by decide) ?_
        exact ih (i + 1) (m + m') u _ _ _ (by omega) (by omega) (hX.tr hX1) (hT1.trans hT) hI2 (yp_path_app m m' _ _ _ hp hp1) hw hl
  refine lv_iconst (v := (nI 0)) hx hb d_Y_settle_0 (by decide) ?_
  refine lv_istore_n (lv' := [(1, .int _), (0, .ref _)]) hx hb d_Y_settle_1 rfl hl (by decide) rfl (fun ls hl => ?_)
  exact loop 1001 0 0 σ _ _ _ (by omega) (by omega) yX.rf rfl hi rfl hw hl
end
section
/-! COPIES -/
theorem mw_native : Cond.native arraycopyName ∈ lg_tbl := lg_in (lw_in2 (i := 68) (by decide +kernel)) (by decide +kernel)
theorem mw_static : Cond.static arraycopyName ∈ lg_tbl := lg_in (lw_in2 (i := 67) (by decide +kernel)) (by decide +kernel)
theorem mw_smin : Cond.static Lib.Math.min.name ∈ lg_tbl := lg_in (lw_in2 (i := 64) (by decide +kernel)) (by decide +kernel)
theorem mw_cmin : Cond.code Lib.Math.min.name Lib.Math.min.code 2 (some .int) ∈ lg_tbl := lg_in (lw_in2 (i := 65) rfl) rfl
section YRC
variable {p : Program} {l : Launch} {e : Env} {R : Room} {s : State} {m : MethodId} {args : Array Value} {below : List Frame} {meth : Method} {c : Code} {H : Heap} {locs : List Loc} {cells slots : Nat} {Q : State → Prop}
variable {cc : ByteArray} {D : va_G} {cl : List vw_C} {tys : List (ClassId × FieldType)} {A : Nat → Prop} {H0 : Heap} {ad : yl → Nat} {LL : List yl} {g : yl → va_E} {X : va_W} {q q' : yl} {pc : Nat} {ls : Array Slot} {rest : List Value}
theorem yr_copyi (hexec : p.tables.exec = Jvm.exec) (hb : c.code = cc) (hml : c.maxLocals = ls.size) {own : String} {index : Nat} {cA : ClassId} {n0 n1 : Nat} {f f1 : Nat → Int32} {sp dp n : Int32} (hown : s.vm.findClass own = some m.cls) (hlink : (Cond.methodLink own index arraycopyName).before args s = true) (hnat : (Cond.native arraycopyName).before args s = true) (hstat : (Cond.static arraycopyName).before args s = true) (hini : (Cond.initialized "java/lang/System").before args s = true) (hK : va_K D cl tys s) (hw : yH D cl A H0 H locs (wl ad LL g ++ X)) (hq : q ∈ LL) (hg : g q = .inl (cA, n0, .inl f)) (hq' : q' ∈ LL) (hg' : g q' = .inl (cA, n1, .inl f1)) (t0 : Nat) (ht : tys[t0]? = some (cA, .int)) (h1 : ¬ sp < 0) (h2 : ¬ dp < 0) (h3 : ¬ n < 0) (h4 : sp.toNatClampNeg + n.toNatClampNeg ≤ n0) (h5 : dp.toNatClampNeg + n.toNatClampNeg ≤ n1) (hframes : 1 ≤ R.frames) (hlocals : (rest.map fun v => v.category).sum + (nativeFrameWords "java/lang/System" "arraycopy" 5 + 11) ≤ R.locals) (hdg : decode cc pc = .ok (.invokestatic index, 3))
    (kk : ∀ (H1 : Heap) (locs1 : List Loc), yH D cl A H0 H1 locs1 (wl ad LL (yu g q' (.inl (cA, n1, .inl (va_cpy f f1 sp.toNatClampNeg dp.toNatClampNeg n.toNatClampNeg)))) ++ X) → W p l e R s m args below meth c H1 locs1 cells slots Q (F0 m (pc + 3) ls rest)) : W p l e R s m args below meth c H locs cells slots Q (F0 m pc ls (.int n :: .int dp :: .ref (ad q') :: .int sp :: .ref (ad q) :: rest)) := by
  obtain ⟨k0, hk0⟩ := wl_get (ad := ad) (g := g) (X := X) hq
  obtain ⟨k1, hk1⟩ := wl_get (ad := ad) (g := g) (X := X) hq'
  rw [hg] at hk0
  rw [hg'] at hk1
  refine va_copyi hexec hb hml hown hlink hnat hstat hini hK hw.1 hw.2.1 hw.2.2 k0 k1 t0 t0 hk0 hk1 ht ht rfl h1 h2 h3 h4 h5 (fun _ _ => rfl) hframes hlocals hdg (fun H1 locs1 hP hD hS => kk H1 locs1 ?_)
  rw [wl_set hw.2.1 hq' hk1] at hP hD
  exact ⟨hP, hD, hS⟩
end YRC
def yo_cpc (σ : ys) (y z i : Nat) : ys := sx_ch (sx_rg σ y i (va_cpy (s_rg σ z i) (s_rg σ y i) 0 0 8)) y i ((s_ch σ y i).1, (s_ch σ z i).2.1, (s_ch σ z i).2.2)
def yo_cpa (σ : ys) (y z i : Nat) : ys := sx_ac (sx_rw σ y i (va_cpy (s_rw σ z i) (s_rw σ y i) 0 0 (yt_rows (s_ac σ y i).1))) y i ((s_ac σ y i).1, (s_ac σ y i).2.1, (s_ac σ y i).2.2.1, (s_ac σ z i).2.2.2.1, (s_ac σ z i).2.2.2.2)
theorem yo_ch_o {σ : ys} {y z c c' : Nat} {v : yc} (h : z ≠ y) : s_ch (sx_ch σ y c v) z c' = s_ch σ z c' := up2_n _ _ (fun q => h q.1)
theorem yo_ac_o {σ : ys} {y z c c' : Nat} {v : ya} (h : z ≠ y) : s_ac (sx_ac σ y c v) z c' = s_ac σ z c' := up2_n _ _ (fun q => h q.1)
theorem yo_ac {σ : ys} {y c : Nat} {v : ya} : s_ac (sx_ac σ y c v) y c = v := up2_s _ _ _ _
theorem yo_ac_ac {σ : ys} {y c : Nat} {v w : ya} : sx_ac (sx_ac σ y c v) y c w = sx_ac σ y c w := by
  unfold sx_ac
  rw [up2_up2]
set_option maxHeartbeats 4000000 in
set_option maxRecDepth 100000 in
/-- copyFrom of a channel -/
theorem c_C_copyFrom (l : Launch) (D : va_G) (cc : ClassId × ClassId × ClassId) (ad : yl → Nat) (LL : List yl) (X : va_W) (b0 sz : Nat) (σ : ys) (hL : ∀ q, yL σ q → q ∈ LL) (y z i : Nat) (hy : y < 2) (hz : z < 2) (hyz : z ≠ y) (hn : i < s_nc σ y) (hn2 : i < s_nc σ z) : Met l y_C_copyFrom w_C_copyFrom ({ frames := 1, cells := 0, slots := 0, locals := 48 }) (yPr D cc b0 [.ref (ad (9, y, i)), .ref (ad (9, z, i))] (yW cc ad LL X σ) sz) (yQv D (yW cc ad LL X σ) sz (yW cc ad LL X (yo_cpc σ y z i))) 0 0 (va_A (yW cc ad LL X σ) sz) := by
  have h9 : (9, y, i) ∈ LL := hL _ ⟨hy, hn⟩
  have h10 : (10, y, i) ∈ LL := hL _ ⟨hy, hn⟩
  have k9 : (9, z, i) ∈ LL := hL _ ⟨hz, hn2⟩
  have k10 : (10, z, i) ∈ LL := hL _ ⟨hz, hn2⟩
  refine y_ofW (cc := b_C_copyFrom) (maxL := 2) (ret := none) (by decide) rfl (Nat.le_of_ble_eq_true rfl) ?_
  intro pv ev sv mv bv tv cv ls hI hsz hw hl
  obtain ⟨hx, hb, hr, hml, hts, hown, hlocks, hnm, hK, hAb, hb0, hA⟩ := id hI
  have ht : ∀ w ∈ lg_tbl, w.before _ sv = true := fun w h => hts w (List.mem_cons_of_mem _ h)
  have hl : lv_has ls 2 [(0, .ref (ad (9, y, i))), (1, .ref (ad (9, z, i)))] := hl
  refine lv_aload_n hx hb d_C_copyFrom_0 rfl (lv_at hl 1 rfl) ?_
  refine yr_get (C := R_C) (T := F_C) (N := 4) (ci := k_C) hx hb ht j_C hown hK.1 hw k9 (by rfl) rfl 1 (by decide) (ht _ mf_C_15) (fun _ h9 => h9) (by rfl) d_C_copyFrom_1 ?_
  refine lv_iconst (v := (nI 0)) hx hb d_C_copyFrom_4 (by decide) ?_
  refine lv_aload_n hx hb d_C_copyFrom_5 rfl (lv_at hl 0 rfl) ?_
  refine yr_get (C := R_C) (T := F_C) (N := 4) (ci := k_C) hx hb ht j_C hown hK.1 hw h9 (by rfl) rfl 1 (by decide) (ht _ mf_C_15) (fun _ h9 => h9) (by rfl) d_C_copyFrom_6 ?_
  refine lv_iconst (v := (nI 0)) hx hb d_C_copyFrom_9 (by decide) ?_
  refine lv_bipush (v := (nI 8)) hx hb d_C_copyFrom_10 (by decide) ?_
  refine yr_copyi hx hb (by rw [hml]; exact hl.1.symm) hown (ht _ ml_C_25) (ht _ mw_native) (ht _ mw_static) (ht _ mi_System) hK.1 hw k10 (by rfl) h10 (by rfl) 0 rfl (sp := nI 0) (dp := nI 0) (n := nI 8) (by decide) (by decide) (nI_pos (by omega)) (by rw [nI_clamp (n := 0) (by omega), nI_clamp (by omega)]; omega) (by rw [nI_clamp (n := 0) (by omega), nI_clamp (by omega)]; omega) (Nat.le_of_ble_eq_true rfl) (Nat.le_of_ble_eq_true rfl) d_C_copyFrom_12 (fun H locs hw => ?_)
  rw [nI_clamp (by omega), nI_clamp (by omega)] at hw
  have hw := yw_rg _ hw rfl
  refine lv_aload_n hx hb d_C_copyFrom_15 rfl (lv_at hl 0 rfl) ?_
  refine lv_aload_n hx hb d_C_copyFrom_16 rfl (lv_at hl 1 rfl) ?_
  refine yr_get (C := R_C) (T := F_C) (N := 4) (ci := k_C) hx hb ht j_C hown hK.1 hw k9 (by rfl) rfl 2 (by decide) (ht _ mf_C_19) (fun _ h9 => h9) (by rfl) d_C_copyFrom_17 ?_
  refine yr_put (ty := .int) (C := R_C) (T := F_C) (N := 4) (ci := k_C) hx hb ht j_C t_C t_C_ok n_C hown hK.1 hw h9 (by rfl) rfl 2 (by decide) (ht _ mf_C_19) (fun _ h9 => h9) rfl (by decide +kernel) rfl rfl (Nat.le_of_ble_eq_true rfl) d_C_copyFrom_20 (fun H locs hw => ?_)
  have hw := yw_ch ((s_ch σ y i).1, (s_ch σ z i).2.1, (s_ch σ y i).2.2) hw rfl
  refine lv_aload_n hx hb d_C_copyFrom_23 rfl (lv_at hl 0 rfl) ?_
  refine lv_aload_n hx hb d_C_copyFrom_24 rfl (lv_at hl 1 rfl) ?_
  refine yr_get (C := R_C) (T := F_C) (N := 4) (ci := k_C) hx hb ht j_C hown hK.1 hw k9 (by rfl) rfl 3 (by decide) (ht _ mf_C_22) (fun _ h9 => h9) (by rfl) d_C_copyFrom_25 ?_
  rw [yo_ch_o hyz]
  refine yr_put (ty := .int) (C := R_C) (T := F_C) (N := 4) (ci := k_C) hx hb ht j_C t_C t_C_ok n_C hown hK.1 hw h9 (by rfl) rfl 3 (by decide) (ht _ mf_C_22) (fun _ h9 => h9) rfl (by decide +kernel) rfl rfl (Nat.le_of_ble_eq_true rfl) d_C_copyFrom_28 (fun H locs hw => ?_)
  have hw := yw_ch ((s_ch σ y i).1, (s_ch σ z i).2.1, (s_ch σ z i).2.2) hw (by simp [yo_ch]; rfl)
  rw [yo_ch_ch] at hw
  exact ye_v hI () trivial hw d_C_copyFrom_31
set_option maxHeartbeats 4000000 in
set_option maxRecDepth 100000 in
/-- copyFrom of an actor -/
theorem c_A_copyFrom (l : Launch) (D : va_G) (cc : ClassId × ClassId × ClassId) (ad : yl → Nat) (LL : List yl) (X : va_W) (b0 sz : Nat) (σ : ys) (hL : ∀ q, yL σ q → q ∈ LL) (y z i : Nat) (hy : y < 2) (hz : z < 2) (hyz : z ≠ y) (hn : i < s_n σ y) (hn2 : i < s_n σ z) (hkk : (s_ac σ z i).1 = (s_ac σ y i).1) : Met l y_A_copyFrom w_A_copyFrom ({ frames := 1, cells := 0, slots := 0, locals := 48 }) (yPr D cc b0 [.ref (ad (5, y, i)), .ref (ad (5, z, i))] (yW cc ad LL X σ) sz) (yQv D (yW cc ad LL X σ) sz (yW cc ad LL X (yo_cpa σ y z i))) 0 0 (va_A (yW cc ad LL X σ) sz) := by
  have h5 : (5, y, i) ∈ LL := hL _ ⟨hy, hn⟩
  have h8 : (8, y, i) ∈ LL := hL _ ⟨hy, hn⟩
  have k5 : (5, z, i) ∈ LL := hL _ ⟨hz, hn2⟩
  have k8 : (8, z, i) ∈ LL := hL _ ⟨hz, hn2⟩
  have hr60 := yt_rows_le (s_ac σ y i).1
  refine y_ofW (cc := b_A_copyFrom) (maxL := 2) (ret := none) (by decide) rfl (Nat.le_of_ble_eq_true rfl) ?_
  intro pv ev sv mv bv tv cv ls hI hsz hw hl
  obtain ⟨hx, hb, hr, hml, hts, hown, hlocks, hnm, hK, hAb, hb0, hA⟩ := id hI
  have ht : ∀ w ∈ lg_tbl, w.before _ sv = true := fun w h => hts w (List.mem_cons_of_mem _ h)
  have hl : lv_has ls 2 [(0, .ref (ad (5, y, i))), (1, .ref (ad (5, z, i)))] := hl
  refine lv_aload_n hx hb d_A_copyFrom_0 rfl (lv_at hl 1 rfl) ?_
  refine yr_get (C := R_A) (T := F_A) (N := 8) (ci := k_A) hx hb ht j_A hown hK.1 hw k5 (by rfl) rfl 5 (by decide) (ht _ mf_A_34) (fun _ h9 => h9) (by rfl) d_A_copyFrom_1 ?_
  refine lv_iconst (v := (nI 0)) hx hb d_A_copyFrom_4 (by decide) ?_
  refine lv_aload_n hx hb d_A_copyFrom_5 rfl (lv_at hl 0 rfl) ?_
  refine yr_get (C := R_A) (T := F_A) (N := 8) (ci := k_A) hx hb ht j_A hown hK.1 hw h5 (by rfl) rfl 5 (by decide) (ht _ mf_A_34) (fun _ h9 => h9) (by rfl) d_A_copyFrom_6 ?_
  refine lv_iconst (v := (nI 0)) hx hb d_A_copyFrom_9 (by decide) ?_
  refine lv_aload_n hx hb d_A_copyFrom_10 rfl (lv_at hl 1 rfl) ?_
  refine yr_get (C := R_A) (T := F_A) (N := 8) (ci := k_A) hx hb ht j_A hown hK.1 hw k5 (by rfl) rfl 5 (by decide) (ht _ mf_A_34) (fun _ h9 => h9) (by rfl) d_A_copyFrom_11 ?_
  refine yr_alen (v := nI (yt_rows (s_ac σ y i).1)) hx hb hK.1 hw k8 (by rfl) 0 rfl (by rw [← hkk]; rfl) d_A_copyFrom_14 ?_
  refine lv_aload_n hx hb d_A_copyFrom_15 rfl (lv_at hl 0 rfl) ?_
  refine yr_get (C := R_A) (T := F_A) (N := 8) (ci := k_A) hx hb ht j_A hown hK.1 hw h5 (by rfl) rfl 5 (by decide) (ht _ mf_A_34) (fun _ h9 => h9) (by rfl) d_A_copyFrom_16 ?_
  refine yr_alen (v := nI (yt_rows (s_ac σ y i).1)) hx hb hK.1 hw h8 (by rfl) 0 rfl rfl d_A_copyFrom_19 ?_
  refine va_mmin hx hb (by rw [hml]; exact hl.1.symm) hown (ht _ ml_A_93) (ht _ mw_smin) (ht _ mi_Math) (ht _ mw_cmin) (Nat.le_of_ble_eq_true rfl) (Nat.le_of_ble_eq_true rfl) (Nat.le_of_ble_eq_true rfl) (Nat.le_of_ble_eq_true rfl) d_A_copyFrom_20 ?_
  rw [ite_self]
  refine yr_copyi hx hb (by rw [hml]; exact hl.1.symm) hown (ht _ ml_A_99) (ht _ mw_native) (ht _ mw_static) (ht _ mi_System) hK.1 hw k8 (by show _ = Sum.inl (cc.1, (yt_rows (s_ac σ y i).1), Sum.inl (s_rw σ z i)); rw [← hkk]; rfl) h8 (by rfl) 0 rfl (sp := nI 0) (dp := nI 0) (n := nI (yt_rows (s_ac σ y i).1)) (by decide) (by decide) (nI_pos (by omega)) (by rw [nI_clamp (n := 0) (by omega), nI_clamp (by omega)]; omega) (by rw [nI_clamp (n := 0) (by omega), nI_clamp (by omega)]; omega) (Nat.le_of_ble_eq_true rfl) (Nat.le_of_ble_eq_true rfl) d_A_copyFrom_23 (fun H locs hw => ?_)
  rw [nI_clamp (by omega), nI_clamp (by omega)] at hw
  have hw := yw_rw _ hw rfl
  refine lv_aload_n hx hb d_A_copyFrom_26 rfl (lv_at hl 0 rfl) ?_
  refine lv_aload_n hx hb d_A_copyFrom_27 rfl (lv_at hl 1 rfl) ?_
  refine yr_get (C := R_A) (T := F_A) (N := 8) (ci := k_A) hx hb ht j_A hown hK.1 hw k5 (by rfl) rfl 6 (by decide) (ht _ mf_A_37) (fun _ h9 => h9) (by rfl) d_A_copyFrom_28 ?_
  refine yr_put (ty := .int) (C := R_A) (T := F_A) (N := 8) (ci := k_A) hx hb ht j_A t_A t_A_ok n_A hown hK.1 hw h5 (by rfl) rfl 6 (by decide) (ht _ mf_A_37) (fun _ h9 => h9) rfl (by decide +kernel) rfl rfl (Nat.le_of_ble_eq_true rfl) d_A_copyFrom_31 (fun H locs hw => ?_)
  have hw := yw_ac ((s_ac σ y i).1, (s_ac σ y i).2.1, (s_ac σ y i).2.2.1, (s_ac σ z i).2.2.2.1, (s_ac σ y i).2.2.2.2) hw rfl rfl
  refine lv_aload_n hx hb d_A_copyFrom_34 rfl (lv_at hl 0 rfl) ?_
  refine lv_aload_n hx hb d_A_copyFrom_35 rfl (lv_at hl 1 rfl) ?_
  refine yr_get (C := R_A) (T := F_A) (N := 8) (ci := k_A) hx hb ht j_A hown hK.1 hw k5 (by rfl) rfl 7 (by decide) (ht _ mf_A_40) (fun _ h9 => h9) (by rfl) d_A_copyFrom_36 ?_
  rw [yo_ac_o hyz]
  refine yr_put (ty := .int) (C := R_A) (T := F_A) (N := 8) (ci := k_A) hx hb ht j_A t_A t_A_ok n_A hown hK.1 hw h5 (by rfl) rfl 7 (by decide) (ht _ mf_A_40) (fun _ h9 => h9) rfl (by decide +kernel) rfl rfl (Nat.le_of_ble_eq_true rfl) d_A_copyFrom_39 (fun H locs hw => ?_)
  have hw := yw_ac ((s_ac σ y i).1, (s_ac σ y i).2.1, (s_ac σ y i).2.2.1, (s_ac σ z i).2.2.2.1, (s_ac σ z i).2.2.2.2) hw (by rw [yo_ac]) (by simp [yo_ac]; rfl)
  rw [yo_ac_ac] at hw
  exact ye_v hI () trivial hw d_A_copyFrom_42
end
section
/-! YARD: copyFrom -/
/-- built alike -/
def yE (σ : ys) (y z : Nat) : Prop := s_n σ y = s_n σ z ∧ s_nc σ y = s_nc σ z ∧ (∀ i, (s_ac σ y i).1 = (s_ac σ z i).1 ∧ (s_ac σ y i).2.1 = (s_ac σ z i).2.1 ∧ (s_ac σ y i).2.2.1 = (s_ac σ z i).2.2.1) ∧ s_ic σ y = s_ic σ z ∧ s_oc σ y = s_oc σ z ∧ ∀ c, (s_ch σ y c).1 = (s_ch σ z c).1
def yo_cpA (σ : ys) (y z : Nat) : Nat → ys
  | 0 => σ
  | i + 1 => yo_cpa (yo_cpA σ y z i) y z i
def yo_cpC (σ : ys) (y z : Nat) : Nat → ys
  | 0 => σ
  | i + 1 => yo_cpc (yo_cpC σ y z i) y z i
theorem cpa_X {σ : ys} {y z i : Nat} : yX σ y (yo_cpa σ y z i) := yX_rw.tr yX_ac
theorem cpc_X {σ : ys} {y z i : Nat} : yX σ y (yo_cpc σ y z i) := yX_rg.tr yX_ch
theorem cpA_X {σ : ys} {y z : Nat} : ∀ i, yX σ y (yo_cpA σ y z i)
  | 0 => yX.rf
  | i + 1 => (cpA_X i).tr cpa_X
theorem cpC_X {σ : ys} {y z : Nat} : ∀ i, yX σ y (yo_cpC σ y z i)
  | 0 => yX.rf
  | i + 1 => (cpC_X i).tr cpc_X
theorem cpa_ac {σ : ys} {y z i j : Nat} : s_ac (yo_cpa σ y z i) y j = if j = i then ((s_ac σ y i).1, (s_ac σ y i).2.1, (s_ac σ y i).2.2.1, (s_ac σ z i).2.2.2.1, (s_ac σ z i).2.2.2.2) else s_ac σ y j := s_ac_at
theorem cpa_rw {σ : ys} {y z i j : Nat} : s_rw (yo_cpa σ y z i) y j = if j = i then va_cpy (s_rw σ z i) (s_rw σ y i) 0 0 (yt_rows (s_ac σ y i).1) else s_rw σ y j := s_rw_at
theorem cpc_ch {σ : ys} {y z i j : Nat} : s_ch (yo_cpc σ y z i) y j = if j = i then ((s_ch σ y i).1, (s_ch σ z i).2.1, (s_ch σ z i).2.2) else s_ch σ y j := s_ch_at
theorem cpc_rg {σ : ys} {y z i j : Nat} : s_rg (yo_cpc σ y z i) y j = if j = i then va_cpy (s_rg σ z i) (s_rg σ y i) 0 0 8 else s_rg σ y j := s_rg_at
theorem cpA_ac {σ : ys} {y z : Nat} (h : z ≠ y) : ∀ i j, s_ac (yo_cpA σ y z i) y j = if j < i then ((s_ac σ y j).1, (s_ac σ y j).2.1, (s_ac σ y j).2.2.1, (s_ac σ z j).2.2.2.1, (s_ac σ z j).2.2.2.2) else s_ac σ y j
  | 0, j => by rw [if_neg (Nat.not_lt_zero j)]; rfl
  | i + 1, j => by
    show s_ac (yo_cpa (yo_cpA σ y z i) y z i) y j = _
    rw [cpa_ac, ((cpA_X i).2.2 z h).1]
    by_cases h1 : j = i
    · subst h1
      rw [if_pos rfl, if_pos (Nat.lt_succ_self j), cpA_ac h j j, if_neg (Nat.lt_irrefl j)]
    · rw [if_neg h1, cpA_ac h i j]
      by_cases h2 : j < i
      · rw [if_pos h2, if_pos (by omega)]
      · rw [if_neg h2, if_neg (by omega)]
theorem cpA_rw {σ : ys} {y z : Nat} (h : z ≠ y) : ∀ i j k, s_rw (yo_cpA σ y z i) y j k = if j < i ∧ k < yt_rows (s_ac σ y j).1 then s_rw σ z j k else s_rw σ y j k
  | 0, j, k => by rw [if_neg (fun q => Nat.not_lt_zero j q.1)]; rfl
  | i + 1, j, k => by
    show s_rw (yo_cpa (yo_cpA σ y z i) y z i) y j k = _
    rw [cpa_rw, ((cpA_X i).2.2 z h).2.2.2.1]
    by_cases h1 : j = i
    · subst h1
      rw [if_pos rfl, cpA_ac h j j, if_neg (Nat.lt_irrefl j)]
      unfold va_cpy
      by_cases h2 : k < yt_rows (s_ac σ y j).1
      · rw [if_pos ⟨Nat.zero_le _, by omega⟩, if_pos ⟨Nat.lt_succ_self j, h2⟩, Nat.zero_add, Nat.sub_zero]
      · rw [if_neg (fun q => h2 (by omega)), if_neg (fun q => h2 q.2), cpA_rw h j j k, if_neg (fun q => Nat.lt_irrefl j q.1)]
    · rw [if_neg h1, cpA_rw h i j k]
      by_cases h2 : j < i ∧ k < yt_rows (s_ac σ y j).1
      · rw [if_pos h2, if_pos ⟨by omega, h2.2⟩]
      · rw [if_neg h2, if_neg (fun q => h2 ⟨by omega, q.2⟩)]
theorem cpC_ch {σ : ys} {y z : Nat} (h : z ≠ y) : ∀ i j, s_ch (yo_cpC σ y z i) y j = if j < i then ((s_ch σ y j).1, (s_ch σ z j).2.1, (s_ch σ z j).2.2) else s_ch σ y j
  | 0, j => by rw [if_neg (Nat.not_lt_zero j)]; rfl
  | i + 1, j => by
    show s_ch (yo_cpc (yo_cpC σ y z i) y z i) y j = _
    rw [cpc_ch, ((cpC_X i).2.2 z h).2.2.2.2.1]
    by_cases h1 : j = i
    · subst h1
      rw [if_pos rfl, if_pos (Nat.lt_succ_self j), cpC_ch h j j, if_neg (Nat.lt_irrefl j)]
    · rw [if_neg h1, cpC_ch h i j]
      by_cases h2 : j < i
      · rw [if_pos h2, if_pos (by omega)]
      · rw [if_neg h2, if_neg (by omega)]
theorem cpC_rg {σ : ys} {y z : Nat} (h : z ≠ y) : ∀ i j k, k < 8 → s_rg (yo_cpC σ y z i) y j k = if j < i then s_rg σ z j k else s_rg σ y j k
  | 0, j, k, _ => by rw [if_neg (Nat.not_lt_zero j)]; rfl
  | i + 1, j, k, hk => by
    show s_rg (yo_cpc (yo_cpC σ y z i) y z i) y j k = _
    rw [cpc_rg, ((cpC_X i).2.2 z h).2.2.2.2.2]
    by_cases h1 : j = i
    · subst h1
      rw [if_pos rfl, if_pos (Nat.lt_succ_self j)]
      unfold va_cpy
      rw [if_pos ⟨Nat.zero_le _, by omega⟩, Nat.zero_add, Nat.sub_zero]
    · rw [if_neg h1, cpC_rg h i j k hk]
      by_cases h2 : j < i
      · rw [if_pos h2, if_pos (by omega)]
      · rw [if_neg h2, if_neg (by omega)]
theorem cpA_io {σ : ys} {y z : Nat} : ∀ i, s_ic (yo_cpA σ y z i) = s_ic σ ∧ s_oc (yo_cpA σ y z i) = s_oc σ ∧ s_ch (yo_cpA σ y z i) = s_ch σ ∧ s_rg (yo_cpA σ y z i) = s_rg σ
  | 0 => ⟨rfl, rfl, rfl, rfl⟩
  | i + 1 => cpA_io i
theorem cpC_io {σ : ys} {y z : Nat} : ∀ i, s_ic (yo_cpC σ y z i) = s_ic σ ∧ s_oc (yo_cpC σ y z i) = s_oc σ ∧ s_ac (yo_cpC σ y z i) = s_ac σ ∧ s_rw (yo_cpC σ y z i) = s_rw σ
  | 0 => ⟨rfl, rfl, rfl, rfl⟩
  | i + 1 => cpC_io i
theorem cpA_E {σ : ys} {y z : Nat} (hyz : z ≠ y) (hE : yE σ y z) {i : Nat} : yE (yo_cpA σ y z i) y z := by
  obtain ⟨e1, e2, e3, e4, e5, e6⟩ := hE
  obtain ⟨a1, a2, a3, a4⟩ := cpA_io (σ := σ) (y := y) (z := z) i
  refine ⟨by rw [(cpA_X i).sn, (cpA_X i).sn]; exact e1, by rw [(cpA_X i).snc, (cpA_X i).snc]; exact e2, fun j => ?_, by rw [a1]; exact e4, by rw [a2]; exact e5, by rw [a3]; exact e6⟩
  rw [cpA_ac hyz, ((cpA_X i).2.2 z hyz).1]
  by_cases h : j < i
  · rw [if_pos h]; exact e3 j
  · rw [if_neg h]; exact e3 j
theorem wf_io {σ : ys} {y : Nat} {σ' : ys} {y' : Nat} (h1 : s_ic σ' y' = s_ic σ y) (h2 : s_oc σ' y' = s_oc σ y) (h : yp_wf (s_T σ y)) : yp_wf (s_T σ' y') := by
  refine ⟨fun i j k k' c a b => ?_, fun i j k k' c a b => ?_⟩
  · have a : s_ic σ' y' i k = some c := a
    have b : s_ic σ' y' j k' = some c := b
    rw [h1] at a b
    exact h.1 i j k k' c a b
  · have a : s_oc σ' y' i k = some c := a
    have b : s_oc σ' y' j k' = some c := b
    rw [h2] at a b
    exact h.2 i j k k' c a b
theorem cpA_I {σ : ys} {y z : Nat} (hyz : z ≠ y) (hE : yE σ y z) (hi : yI σ y) (hi2 : yI σ z) (i : Nat) : yI (yo_cpA σ y z i) y := by
  obtain ⟨b1, b2, b3, b4, b5, b6, b7⟩ := id hi
  obtain ⟨e1, e2, e3, e4, e5, e6⟩ := id hE
  obtain ⟨a1, a2, a3, a4⟩ := cpA_io (σ := σ) (y := y) (z := z) i
  have hk : ∀ j, (s_ac (yo_cpA σ y z i) y j).1 = (s_ac σ y j).1 := fun j => by
    rw [cpA_ac hyz]
    by_cases h : j < i
    · rw [if_pos h]
    · rw [if_neg h]
  refine ⟨⟨by rw [(cpA_X i).sn]; exact b1.1, fun j hj => ?_, fun c hc => ?_⟩, by rw [(cpA_X i).snc]; exact b2, fun j => ?_, by rw [a3]; exact b4, fun j k c e => ?_, fun j k c e => ?_, wf_io (by rw [a1]) (by rw [a2]) b7⟩
  · rw [(cpA_X i).sn] at hj
    rw [cpA_ac hyz]
    by_cases h : j < i
    · rw [if_pos h, b1.2.1 j hj, hi2.1.2.1 j (by rw [← e1]; exact hj)]
    · rw [if_neg h]; exact b1.2.1 j hj
  · rw [(cpA_X i).snc] at hc
    rw [a3]; exact b1.2.2 c hc
  · rw [cpA_ac hyz]
    by_cases h : j < i
    · rw [if_pos h]
      obtain ⟨c1, c2, c3, c4, c5⟩ := hi2.2.2.1 j
      have ek := (e3 j).1
      exact ⟨by rw [ek]; exact c1, c2, fun q => c3 (by rw [← ek]; exact q), c4, fun q => c5 (by rw [← ek]; exact q)⟩
    · rw [if_neg h]; exact b3 j
  · rw [a1] at e
    rw [hk, (cpA_X i).sn, (cpA_X i).snc]
    exact b5 j k c e
  · rw [a2] at e
    rw [hk, (cpA_X i).sn, (cpA_X i).snc]
    exact b6 j k c e
theorem cpC_I {σ : ys} {y z : Nat} (hyz : z ≠ y) (hE : yE σ y z) (hi : yI σ y) (hi2 : yI σ z) (i : Nat) : yI (yo_cpC σ y z i) y := by
  obtain ⟨b1, b2, b3, b4, b5, b6, b7⟩ := id hi
  obtain ⟨e1, e2, e3, e4, e5, e6⟩ := id hE
  obtain ⟨a1, a2, a3, a4⟩ := cpC_io (σ := σ) (y := y) (z := z) i
  refine ⟨⟨by rw [(cpC_X i).sn]; exact b1.1, fun j hj => ?_, fun c hc => ?_⟩, by rw [(cpC_X i).snc]; exact b2, by rw [a3]; exact b3, fun c => ?_, by rw [a1, a3, (cpC_X i).sn, (cpC_X i).snc]; exact b5, by rw [a2, a3, (cpC_X i).sn, (cpC_X i).snc]; exact b6, wf_io (by rw [a1]) (by rw [a2]) b7⟩
  · rw [(cpC_X i).sn] at hj
    rw [a3]; exact b1.2.1 j hj
  · rw [(cpC_X i).snc] at hc
    rw [cpC_ch hyz]
    by_cases h : c < i
    · rw [if_pos h, b1.2.2 c hc, hi2.1.2.2 c (by rw [← e2]; exact hc)]
    · rw [if_neg h]; exact b1.2.2 c hc
  · rw [cpC_ch hyz]
    by_cases h : c < i
    · rw [if_pos h]
      obtain ⟨c1, c2, c3, c4⟩ := hi2.2.2.2.1 c
      have ek := e6 c
      exact ⟨by rw [ek]; exact c1, by rw [ek]; exact c2, c3, by rw [ek]; exact c4⟩
    · rw [if_neg h]; exact b4 c
theorem cp_final {σ : ys} {y z : Nat} (hyz : z ≠ y) (hE : yE σ y z) (hi : yI σ y) (hi2 : yI σ z) : yX σ y (yo_cpC (yo_cpA σ y z (s_n σ y)) y z (s_nc σ y)) ∧ s_T (yo_cpC (yo_cpA σ y z (s_n σ y)) y z (s_nc σ y)) y = s_T σ z ∧ s_D (yo_cpC (yo_cpA σ y z (s_n σ y)) y z (s_nc σ y)) y = s_D σ z ∧ yI (yo_cpC (yo_cpA σ y z (s_n σ y)) y z (s_nc σ y)) y := by
  obtain ⟨e1, e2, e3, e4, e5, e6⟩ := id hE
  have hX0 := cpA_X (σ := σ) (y := y) (z := z) (s_n σ y)
  have hX1 := cpC_X (σ := yo_cpA σ y z (s_n σ y)) (y := y) (z := z) (s_nc σ y)
  obtain ⟨a1, a2, a3, a4⟩ := cpA_io (σ := σ) (y := y) (z := z) (s_n σ y)
  obtain ⟨c1, c2, c3, c4⟩ := cpC_io (σ := yo_cpA σ y z (s_n σ y)) (y := y) (z := z) (s_nc σ y)
  generalize hσ : yo_cpC (yo_cpA σ y z (s_n σ y)) y z (s_nc σ y) = σ' at *
  have hac : s_ac σ' y = s_ac σ z := by
    funext j
    rw [c3, cpA_ac hyz]
    by_cases h : j < s_n σ y
    · rw [if_pos h, (e3 j).1, (e3 j).2.1, (e3 j).2.2]
    · rw [if_neg h, hi.1.2.1 j (by omega), hi2.1.2.1 j (by omega)]
  have hch : s_ch σ' y = s_ch σ z := by
    funext j
    rw [← hσ, cpC_ch hyz, a3]
    by_cases h : j < s_nc σ y
    · rw [if_pos h, e6 j]
    · rw [if_neg h, hi.1.2.2 j (by omega), hi2.1.2.2 j (by omega)]
  have hrw : ∀ j k, j < s_n σ y → k < yt_rows (s_ac σ z j).1 → s_rw σ' y j k = s_rw σ z j k := fun j k h1 h2 => by
    rw [c4, cpA_rw hyz, if_pos ⟨h1, by rw [(e3 j).1]; exact h2⟩]
  have hrg : ∀ j k, j < s_nc σ y → k < 8 → s_rg σ' y j k = s_rg σ z j k := fun j k h1 h2 => by
    rw [← hσ, cpC_rg hyz _ _ _ h2, if_pos h1, a4]
  have hT : s_T σ' y = s_T σ z := by
    have e : (fun i => yrw (s_rw σ' y i) (s_ac σ z i).2.2.2.1) = fun i => yrw (s_rw σ z i) (s_ac σ z i).2.2.2.1 := by
      funext i
      obtain ⟨q1, q2, q3, q4, q5⟩ := hi2.2.2.1 i
      by_cases h0 : (s_ac σ z i).1 = 0
      · by_cases h : i < s_n σ y
        · exact yrw_congr (fun j hj => hrw i j h (by rw [h0]; show j < 20; omega))
        · rw [hi2.1.2.1 i (by omega)]; rfl
      · rw [q3 h0]; rfl
    unfold s_T
    rw [hac, hch, c1, a1, c2, a2, e4, e5, e]
    congr 1
    rw [hX1.sn, hX0.sn]
    exact e1
  refine ⟨hX0.tr hX1, hT, ?_, ?_⟩
  · have e : (fun i => if (s_ac σ z i).1 = 6 then yrw (s_rw σ' y i) (s_ac σ z i).2.2.2.2 else []) = (s_D σ z).2.1 := by
      funext i
      show _ = if (s_ac σ z i).1 = 6 then yrw (s_rw σ z i) (s_ac σ z i).2.2.2.2 else []
      by_cases h0 : (s_ac σ z i).1 = 6
      · rw [if_pos h0, if_pos h0]
        by_cases h : i < s_n σ y
        · have := (hi2.2.2.1 i).2.2.2.2 h0
          exact yrw_congr (fun j hj => hrw i j h (by rw [h0]; show j < 60; omega))
        · rw [hi2.1.2.1 i (by omega)] at h0
          cases h0
      · rw [if_neg h0, if_neg h0]
    have e9 : (fun c => yrq (s_rg σ' y c) (s_ch σ z c).2.1 (s_ch σ z c).2.2) = (s_D σ z).2.2 := by
      funext c
      show _ = yrq (s_rg σ z c) (s_ch σ z c).2.1 (s_ch σ z c).2.2
      by_cases h : c < s_nc σ y
      · exact yrq_congr (fun j hj => hrg c j h hj)
      · rw [hi2.1.2.2 c (by omega)]; rfl
    unfold s_D
    rw [hac, hch, e, e9]
    rfl
  · unfold yI
    rw [hac, hch, hT, c1, a1, c2, a2, e4, e5, (hX0.tr hX1).sn, (hX0.tr hX1).snc, e1, e2]
    exact hi2
set_option maxHeartbeats 4000000 in
set_option maxRecDepth 100000 in
/-- copyFrom of a yard -/
theorem c_Y_copyFrom (l : Launch) (D : va_G) (cc : ClassId × ClassId × ClassId) (ad : yl → Nat) (LL : List yl) (X : va_W) (b0 sz : Nat) (σ : ys) (hL : ∀ q, yL σ q → q ∈ LL) (y z : Nat) (hy : y < 2) (hz : z < 2) (hyz : z ≠ y) (hE : yE σ y z) (hi : yI σ y) (hi2 : yI σ z) : Met l y_Y_copyFrom w_Y_copyFrom ({ frames := 2, cells := 0, slots := 0, locals := 69 }) (yPr D cc b0 [.ref (ad (1, y, 0)), .ref (ad (1, z, 0))] (yW cc ad LL X σ) sz) (va_Qv (fun σ' => yX σ y σ' ∧ s_T σ' y = s_T σ z ∧ s_D σ' y = s_D σ z ∧ yI σ' y) (yB D ycl (yW cc ad LL X σ) sz (fun σ' => yW cc ad LL X σ')) (va_A (yW cc ad LL X σ) sz)) 0 0 (va_A (yW cc ad LL X σ) sz) := by
  have g1 : (1, y, 0) ∈ LL := hL _ ⟨hy, rfl⟩
  have f1 : (1, z, 0) ∈ LL := hL _ ⟨hz, rfl⟩
  have hn10 := hi.1.1
  have hc16 := hi.2.1
  have hen := hE.1
  have hec := hE.2.1
  refine y_ofW (cc := b_Y_copyFrom) (maxL := 5) (ret := none) (by decide) rfl (Nat.le_of_ble_eq_true rfl) ?_
  intro pv ev sv mv bv tv cv ls hI hsz hw hl
  obtain ⟨hx, hb, hr, hml, hts, hown, hlocks, hnm, hK, hAb, hb0, hA⟩ := id hI
  have ht : ∀ w ∈ lg_tbl, w.before _ sv = true := fun w h => hts w (List.mem_cons_of_mem _ h)
  have hl : lv_has ls 5 [(0, .ref (ad (1, y, 0))), (1, .ref (ad (1, z, 0)))] := hl
  have loopC : ∀ (f i : Nat) (H : Heap) (locs : List Loc) (ls : Array Slot), i + f = s_nc σ y → yH D ycl (va_A (yW cc ad LL X σ) sz) sv.heap H locs (yW cc ad LL X (yo_cpC (yo_cpA σ y z (s_n σ y)) y z i)) → lv_has ls 5 [(2, .int (nI i)), (0, .ref (ad (1, y, 0))), (1, .ref (ad (1, z, 0)))] → W pv l ev (headSpec w_Y_copyFrom ({ frames := 2, cells := 0, slots := 0, locals := 69 })).room sv mv [.ref (ad (1, y, 0)), .ref (ad (1, z, 0))].toArray bv tv cv H locs 0 0 (MQ bv (va_Qv (fun σ' => yX σ y σ' ∧ s_T σ' y = s_T σ z ∧ s_D σ' y = s_D σ z ∧ yI σ' y) (yB D ycl (yW cc ad LL X σ) sz (fun σ' => yW cc ad LL X σ')) (va_A (yW cc ad LL X σ) sz)) [.ref (ad (1, y, 0)), .ref (ad (1, z, 0))].toArray sv 0 0 (va_A (yW cc ad LL X σ) sz)) (F0 mv 46 ls []) := by
    intro f
    induction f with
    | zero =>
      intro i H locs ls hik hw hl
      have hie : i = s_nc σ y := by omega
      subst hie
      have hX0 := cpA_X (σ := σ) (y := y) (z := z) (s_n σ y)
      have hXi := cpC_X (σ := yo_cpA σ y z (s_n σ y)) (y := y) (z := z) (s_nc σ y)
      refine lv_iload_n hx hb d_Y_copyFrom_46 rfl (lv_at hl 0 rfl) ?_
      refine lv_aload_n hx hb d_Y_copyFrom_47 rfl (lv_at hl 1 rfl) ?_
      refine yr_get (C := R_Y) (T := F_Y) (N := 5) (ci := k_Y) hx hb ht j_Y hown hK.1 hw (by assumption) (by rfl) rfl 4 (by decide) (ht _ mf_Y_31) (fun _ h9 => h9) (by rfl) d_Y_copyFrom_48 ?_
      refine lv_icmp_ge (tgt := 88) hx hb d_Y_copyFrom_51 (by decide) (fun c_51 => ?_) (fun c_51 => by exact absurd (by rw [(hX0.tr hXi).snc y]; exact nI_le (by omega) (by omega)) c_51)
      exact ye_v hI _ (cp_final hyz hE hi hi2) hw d_Y_copyFrom_88
    | succ f ih =>
      intro i H locs ls hik hw hl
      have hX0 := cpA_X (σ := σ) (y := y) (z := z) (s_n σ y)
      have hI0 := cpA_I hyz hE hi hi2 (s_n σ y)
      have hI0z := hX0.I hyz hi2
      have hXi := cpC_X (σ := yo_cpA σ y z (s_n σ y)) (y := y) (z := z) i
      have hIi := cpC_I hyz (cpA_E hyz hE) hI0 hI0z i
      have hIz := hXi.I hyz hI0z
      have hLi := hXi.L (hX0.L hL)
      have hd : i < s_nc (yo_cpC (yo_cpA σ y z (s_n σ y)) y z i) y := by rw [(hX0.tr hXi).snc y]; omega
      have hdz : i < s_nc (yo_cpC (yo_cpA σ y z (s_n σ y)) y z i) z := by rw [(hX0.tr hXi).snc z]; omega
      have hb16 : s_nc (yo_cpC (yo_cpA σ y z (s_n σ y)) y z i) y ≤ 16 := by rw [(hX0.tr hXi).snc y]; exact hc16
      have h9 : (9, y, i) ∈ LL := hLi _ ⟨hy, hd⟩
      refine lv_iload_n hx hb d_Y_copyFrom_46 rfl (lv_at hl 0 rfl) ?_
      refine lv_aload_n hx hb d_Y_copyFrom_47 rfl (lv_at hl 1 rfl) ?_
      refine yr_get (C := R_Y) (T := F_Y) (N := 5) (ci := k_Y) hx hb ht j_Y hown hK.1 hw (by assumption) (by rfl) rfl 4 (by decide) (ht _ mf_Y_31) (fun _ h9 => h9) (by rfl) d_Y_copyFrom_48 ?_
      refine lv_icmp_ge (tgt := 88) hx hb d_Y_copyFrom_51 (by decide) (fun c_51 => by exact absurd ((nI_leI (by omega) (by omega)).mp c_51) (Nat.not_le.mpr hd)) (fun c_51 => ?_)
      refine lv_aload_n hx hb d_Y_copyFrom_54 rfl (lv_at hl 1 rfl) ?_
      refine lv_iload_n hx hb d_Y_copyFrom_55 rfl (lv_at hl 0 rfl) ?_
      refine yc_q (va_runV (As := [.int _]) (rest := []) ⟨hx, hb, hml, hown, hts⟩ (c_Y_findChannel l D cc ad LL X b0 _ (yo_cpC (yo_cpA σ y z (s_n σ y)) y z i) hLi y hy hIi i hd) (cwV 1 hts (yg_call mc_Y_findChannel ml_Y_61 mm_Y_findChannel ms_Y_findChannel mi_Y) rfl rfl rfl (by decide +kernel) ⟨Nat.le_of_ble_eq_true rfl, Nat.le_of_ble_eq_true rfl⟩) (y_preV hI hw (y_recv hK.1 hw g1 (by rfl) rfl)) rfl rfl hl.1 rfl (lv_room (Nat.le_of_ble_eq_true rfl)) d_Y_copyFrom_56 ⟨Nat.le_of_ble_eq_true rfl, Nat.le_of_ble_eq_true rfl⟩) hw hA (fun r u H locs he hw => ?_)
      subst he
      rw [yrf_s]
      refine lv_astore_n (lv' := [(3, .ref _), (2, .int _), (0, .ref _), (1, .ref _)]) hx hb d_Y_copyFrom_59 rfl hl (by decide) rfl (fun ls hl => ?_)
      refine lv_aload_n hx hb d_Y_copyFrom_60 rfl (lv_at hl 3 rfl) ?_
      refine lv_iload_n hx hb d_Y_copyFrom_61 rfl (lv_at hl 1 rfl) ?_
      refine yc_q (va_runV (As := [.int _]) (rest := []) ⟨hx, hb, hml, hown, hts⟩ (c_Y_findChannel l D cc ad LL X b0 _ (yo_cpC (yo_cpA σ y z (s_n σ y)) y z i) hLi z hz hIz i hdz) (cwV 1 hts (yg_call mc_Y_findChannel ml_Y_61 mm_Y_findChannel ms_Y_findChannel mi_Y) rfl rfl rfl (by decide +kernel) ⟨Nat.le_of_ble_eq_true rfl, Nat.le_of_ble_eq_true rfl⟩) (y_preV hI hw (y_recv hK.1 hw f1 (by rfl) rfl)) rfl rfl hl.1 rfl (lv_room (Nat.le_of_ble_eq_true rfl)) d_Y_copyFrom_62 ⟨Nat.le_of_ble_eq_true rfl, Nat.le_of_ble_eq_true rfl⟩) hw hA (fun r u H locs he hw => ?_)
      subst he
      rw [yrf_s]
      refine lv_astore (lv' := [(4, .ref _), (3, .ref _), (2, .int _), (0, .ref _), (1, .ref _)]) hx hb d_Y_copyFrom_65 hl (by decide) rfl (fun ls hl => ?_)
      refine lv_aload_n hx hb d_Y_copyFrom_67 rfl (lv_at hl 1 rfl) ?_
      refine lv_ifnull hx hb d_Y_copyFrom_68 ?_
      refine lv_aload hx hb d_Y_copyFrom_71 (lv_at hl 0 rfl) ?_
      refine lv_ifnull hx hb d_Y_copyFrom_73 ?_
      refine lv_aload_n hx hb d_Y_copyFrom_76 rfl (lv_at hl 1 rfl) ?_
      refine lv_aload hx hb d_Y_copyFrom_77 (lv_at hl 0 rfl) ?_
      refine yc_v (va_runV (As := [.ref _]) (rest := []) ⟨hx, hb, hml, hown, hts⟩ (c_C_copyFrom l D cc ad LL X b0 _ (yo_cpC (yo_cpA σ y z (s_n σ y)) y z i) hLi y z i hy hz hyz hd hdz) (cwV 1 hts (yg_call mc_C_copyFrom ml_Y_94 mm_C_copyFrom ms_C_copyFrom mi_C) rfl rfl rfl (by decide +kernel) ⟨Nat.le_of_ble_eq_true rfl, Nat.le_of_ble_eq_true rfl⟩) (y_preV hI hw (y_recv hK.1 hw h9 (by rfl) rfl)) rfl rfl hl.1 rfl (lv_room (Nat.le_of_ble_eq_true rfl)) d_Y_copyFrom_79 ⟨Nat.le_of_ble_eq_true rfl, Nat.le_of_ble_eq_true rfl⟩) hw hA (fun u H locs he hw => ?_)
      refine lv_iinc (v := nI (i + 1)) (lv' := [(2, .int _), (4, .ref _), (3, .ref _), (0, .ref _), (1, .ref _)]) hx hb d_Y_copyFrom_82 hl (k := 2) rfl (yinc i) (by decide) rfl (fun ls hl => ?_)
      refine lv_goto (tgt := 46) hx hb d_Y_copyFrom_85 (by decide) ?_
      exact ih (i + 1) _ _ _ (by omega) hw (lv_sub hl [0, 3, 4] rfl)
  have loopA : ∀ (f i : Nat) (H : Heap) (locs : List Loc) (ls : Array Slot), i + f = s_n σ y → yH D ycl (va_A (yW cc ad LL X σ) sz) sv.heap H locs (yW cc ad LL X (yo_cpA σ y z i)) → lv_has ls 5 [(2, .int (nI i)), (0, .ref (ad (1, y, 0))), (1, .ref (ad (1, z, 0)))] → W pv l ev (headSpec w_Y_copyFrom ({ frames := 2, cells := 0, slots := 0, locals := 69 })).room sv mv [.ref (ad (1, y, 0)), .ref (ad (1, z, 0))].toArray bv tv cv H locs 0 0 (MQ bv (va_Qv (fun σ' => yX σ y σ' ∧ s_T σ' y = s_T σ z ∧ s_D σ' y = s_D σ z ∧ yI σ' y) (yB D ycl (yW cc ad LL X σ) sz (fun σ' => yW cc ad LL X σ')) (va_A (yW cc ad LL X σ) sz)) [.ref (ad (1, y, 0)), .ref (ad (1, z, 0))].toArray sv 0 0 (va_A (yW cc ad LL X σ) sz)) (F0 mv 2 ls []) := by
    intro f
    induction f with
    | zero =>
      intro i H locs ls hik hw hl
      have hie : i = s_n σ y := by omega
      subst hie
      have hXi := cpA_X (σ := σ) (y := y) (z := z) (s_n σ y)
      refine lv_iload_n hx hb d_Y_copyFrom_2 rfl (lv_at hl 0 rfl) ?_
      refine lv_aload_n hx hb d_Y_copyFrom_3 rfl (lv_at hl 1 rfl) ?_
      refine yr_get (C := R_Y) (T := F_Y) (N := 5) (ci := k_Y) hx hb ht j_Y hown hK.1 hw (by assumption) (by rfl) rfl 3 (by decide) (ht _ mf_Y_27) (fun _ h9 => h9) (by rfl) d_Y_copyFrom_4 ?_
      refine lv_icmp_ge (tgt := 44) hx hb d_Y_copyFrom_7 (by decide) (fun c_7 => ?_) (fun c_7 => by exact absurd (by rw [hXi.sn y]; exact nI_le (by omega) (by omega)) c_7)
      refine lv_iconst (v := (nI 0)) hx hb d_Y_copyFrom_44 (by decide) ?_
      refine lv_istore_n (lv' := [(2, .int _), (0, .ref _), (1, .ref _)]) hx hb d_Y_copyFrom_45 rfl hl (by decide) rfl (fun ls hl => ?_)
      exact loopC (s_nc σ y) 0 _ _ _ (by omega) hw (lv_sub hl [0, 1, 2] rfl)
    | succ f ih =>
      intro i H locs ls hik hw hl
      have hXi := cpA_X (σ := σ) (y := y) (z := z) i
      have hIi := cpA_I hyz hE hi hi2 i
      have hIz := hXi.I hyz hi2
      have hLi := hXi.L hL
      have hd : i < s_n (yo_cpA σ y z i) y := by rw [hXi.sn y]; omega
      have hdz : i < s_n (yo_cpA σ y z i) z := by rw [hXi.sn z]; omega
      have hb10 : s_n (yo_cpA σ y z i) y ≤ 10 := by rw [hXi.sn y]; exact hn10
      have h5 : (5, y, i) ∈ LL := hLi _ ⟨hy, hd⟩
      refine lv_iload_n hx hb d_Y_copyFrom_2 rfl (lv_at hl 0 rfl) ?_
      refine lv_aload_n hx hb d_Y_copyFrom_3 rfl (lv_at hl 1 rfl) ?_
      refine yr_get (C := R_Y) (T := F_Y) (N := 5) (ci := k_Y) hx hb ht j_Y hown hK.1 hw (by assumption) (by rfl) rfl 3 (by decide) (ht _ mf_Y_27) (fun _ h9 => h9) (by rfl) d_Y_copyFrom_4 ?_
      refine lv_icmp_ge (tgt := 44) hx hb d_Y_copyFrom_7 (by decide) (fun c_7 => by exact absurd ((nI_leI (by omega) (by omega)).mp c_7) (Nat.not_le.mpr hd)) (fun c_7 => ?_)
      refine lv_aload_n hx hb d_Y_copyFrom_10 rfl (lv_at hl 1 rfl) ?_
      refine lv_iload_n hx hb d_Y_copyFrom_11 rfl (lv_at hl 0 rfl) ?_
      refine yc_q (va_runV (As := [.int _]) (rest := []) ⟨hx, hb, hml, hown, hts⟩ (c_Y_findActor l D cc ad LL X b0 _ (yo_cpA σ y z i) hLi y hy hIi i hd) (cwV 1 hts (yg_call mc_Y_findActor ml_Y_37 mm_Y_findActor ms_Y_findActor mi_Y) rfl rfl rfl (by decide +kernel) ⟨Nat.le_of_ble_eq_true rfl, Nat.le_of_ble_eq_true rfl⟩) (y_preV hI hw (y_recv hK.1 hw g1 (by rfl) rfl)) rfl rfl hl.1 rfl (lv_room (Nat.le_of_ble_eq_true rfl)) d_Y_copyFrom_12 ⟨Nat.le_of_ble_eq_true rfl, Nat.le_of_ble_eq_true rfl⟩) hw hA (fun r u H locs he hw => ?_)
      subst he
      rw [yrf_s]
      refine lv_astore_n (lv' := [(3, .ref _), (2, .int _), (0, .ref _), (1, .ref _)]) hx hb d_Y_copyFrom_15 rfl hl (by decide) rfl (fun ls hl => ?_)
      refine lv_aload_n hx hb d_Y_copyFrom_16 rfl (lv_at hl 3 rfl) ?_
      refine lv_iload_n hx hb d_Y_copyFrom_17 rfl (lv_at hl 1 rfl) ?_
      refine yc_q (va_runV (As := [.int _]) (rest := []) ⟨hx, hb, hml, hown, hts⟩ (c_Y_findActor l D cc ad LL X b0 _ (yo_cpA σ y z i) hLi z hz hIz i hdz) (cwV 1 hts (yg_call mc_Y_findActor ml_Y_37 mm_Y_findActor ms_Y_findActor mi_Y) rfl rfl rfl (by decide +kernel) ⟨Nat.le_of_ble_eq_true rfl, Nat.le_of_ble_eq_true rfl⟩) (y_preV hI hw (y_recv hK.1 hw f1 (by rfl) rfl)) rfl rfl hl.1 rfl (lv_room (Nat.le_of_ble_eq_true rfl)) d_Y_copyFrom_18 ⟨Nat.le_of_ble_eq_true rfl, Nat.le_of_ble_eq_true rfl⟩) hw hA (fun r u H locs he hw => ?_)
      subst he
      rw [yrf_s]
      refine lv_astore (lv' := [(4, .ref _), (3, .ref _), (2, .int _), (0, .ref _), (1, .ref _)]) hx hb d_Y_copyFrom_21 hl (by decide) rfl (fun ls hl => ?_)
      refine lv_aload_n hx hb d_Y_copyFrom_23 rfl (lv_at hl 1 rfl) ?_
      refine lv_ifnull hx hb d_Y_copyFrom_24 ?_
      refine lv_aload hx hb d_Y_copyFrom_27 (lv_at hl 0 rfl) ?_
      refine lv_ifnull hx hb d_Y_copyFrom_29 ?_
      refine lv_aload_n hx hb d_Y_copyFrom_32 rfl (lv_at hl 1 rfl) ?_
      refine lv_aload hx hb d_Y_copyFrom_33 (lv_at hl 0 rfl) ?_
      refine yc_v (va_runV (As := [.ref _]) (rest := []) ⟨hx, hb, hml, hown, hts⟩ (c_A_copyFrom l D cc ad LL X b0 _ (yo_cpA σ y z i) hLi y z i hy hz hyz hd hdz ((cpA_E hyz hE).2.2.1 i).1.symm) (cwV 1 hts (yg_call mc_A_copyFrom ml_Y_90 mm_A_copyFrom ms_A_copyFrom mi_A) rfl rfl rfl (by decide +kernel) ⟨Nat.le_of_ble_eq_true rfl, Nat.le_of_ble_eq_true rfl⟩) (y_preV hI hw (y_recv hK.1 hw h5 (by rfl) rfl)) rfl rfl hl.1 rfl (lv_room (Nat.le_of_ble_eq_true rfl)) d_Y_copyFrom_35 ⟨Nat.le_of_ble_eq_true rfl, Nat.le_of_ble_eq_true rfl⟩) hw hA (fun u H locs he hw => ?_)
      refine lv_iinc (v := nI (i + 1)) (lv' := [(2, .int _), (4, .ref _), (3, .ref _), (0, .ref _), (1, .ref _)]) hx hb d_Y_copyFrom_38 hl (k := 2) rfl (yinc i) (by decide) rfl (fun ls hl => ?_)
      refine lv_goto (tgt := 2) hx hb d_Y_copyFrom_41 (by decide) ?_
      exact ih (i + 1) _ _ _ (by omega) hw (lv_sub hl [0, 3, 4] rfl)
  refine lv_iconst (v := (nI 0)) hx hb d_Y_copyFrom_0 (by decide) ?_
  refine lv_istore_n (lv' := [(2, .int _), (0, .ref _), (1, .ref _)]) hx hb d_Y_copyFrom_1 rfl hl (by decide) rfl (fun ls hl => ?_)
  exact loopA (s_n σ y) 0 _ _ _ (by omega) hw (lv_sub hl [0, 1, 2] rfl)
end
section
/-! FULL CHANNELS; WHICH NUMBERS ARE THERE; ANSWERS -/
def yff (p : Nat → Bool) (k : Int32) : Nat → Nat → Nat → Int32
  | 0, _, _ => -1
  | m + 1, i, sn => if p i = true then (if nI sn = k then nI i else yff p k m (i + 1) (sn + 1)) else yff p k m (i + 1) sn
theorem yff_0 {p : Nat → Bool} {k : Int32} {m i sn : Nat} (h : p i = false) : yff p k (m + 1) i sn = yff p k m (i + 1) sn := by
  show (if p i = true then _ else _) = _
  rw [if_neg (by rw [h]; decide)]
theorem yff_1 {p : Nat → Bool} {k : Int32} {m i sn : Nat} (h : p i = true) (h2 : ¬ nI sn = k) : yff p k (m + 1) i sn = yff p k m (i + 1) (sn + 1) := by
  show (if p i = true then _ else _) = _
  rw [if_pos h, if_neg h2]
theorem yff_2 {p : Nat → Bool} {k : Int32} {m i sn : Nat} (h : p i = true) (h2 : nI sn = k) : yff p k (m + 1) i sn = nI i := by
  show (if p i = true then _ else _) = _
  rw [if_pos h, if_pos h2]
theorem ysplit (x : Int32) {n : Nat} (hn : n < 2 ^ 31) : (x < 0 ∨ nI n ≤ x) ∨ ∃ j, j < n ∧ x = nI j := by
  rcases pk_ix x hn with h | h | h
  · exact Or.inl (Or.inl h)
  · exact Or.inl (Or.inr h)
  · exact Or.inr h
def yin (x : Int32) (n : Nat) : Option Nat := if x < 0 ∨ nI n ≤ x then none else some x.toNatClampNeg
theorem yin_no {x : Int32} {n : Nat} (h : x < 0 ∨ nI n ≤ x) : yin x n = none := if_pos h
theorem yin_some {j n : Nat} (h : j < n) (hn : n < 2 ^ 31) : yin (nI j) n = some j := by
  unfold yin
  rw [if_neg (fun q => q.elim (fun a => nI_pos (by omega) a) (fun a => nI_ge h hn a)), nI_clamp (by omega)]
set_option maxHeartbeats 4000000 in
set_option maxRecDepth 100000 in
/-- findFull -/
theorem c_Y_findFull (l : Launch) (D : va_G) (cc : ClassId × ClassId × ClassId) (ad : yl → Nat) (LL : List yl) (X : va_W) (b0 sz : Nat) (σ : ys) (hL : ∀ q, yL σ q → q ∈ LL) (y : Nat) (hy : y < 2) (hi : yI σ y) (x : Int32) : Met l y_Y_findFull w_Y_findFull ({ frames := 1, cells := 0, slots := 0, locals := 21 }) (yPr D cc b0 [.ref (ad (1, y, 0)), .int x] (yW cc ad LL X σ) sz) (yQi D (yW cc ad LL X σ) sz (yff (fun c => decide ((s_ch σ y c).1 ≤ (s_ch σ y c).2.2)) x (s_nc σ y) 0 0) (yW cc ad LL X σ)) 0 0 (va_A (yW cc ad LL X σ) sz) := by
  have g1 : (1, y, 0) ∈ LL := hL _ ⟨hy, rfl⟩
  have g2 : (2, y, 0) ∈ LL := hL _ ⟨hy, rfl⟩
  have g3 : (3, y, 0) ∈ LL := hL _ ⟨hy, rfl⟩
  have g4 : (4, y, 0) ∈ LL := hL _ ⟨hy, rfl⟩
  have hn10 := hi.1.1
  have hc16 := hi.2.1
  refine y_ofW (cc := b_Y_findFull) (maxL := 5) (ret := (some .int)) (by decide) rfl (Nat.le_of_ble_eq_true rfl) ?_
  intro pv ev sv mv bv tv cv ls hI hsz hw hl
  obtain ⟨hx, hb, hr, hml, hts, hown, hlocks, hnm, hK, hAb, hb0, hA⟩ := id hI
  have ht : ∀ w ∈ lg_tbl, w.before _ sv = true := fun w h => hts w (List.mem_cons_of_mem _ h)
  have hl : lv_has ls 5 [(0, .ref (ad (1, y, 0))), (1, .int x)] := hl
  have loop : ∀ (f i sn : Nat) (H : Heap) (locs : List Loc) (ls : Array Slot), i + f = s_nc σ y → sn ≤ i → yff (fun c => decide ((s_ch σ y c).1 ≤ (s_ch σ y c).2.2)) x f i sn = yff (fun c => decide ((s_ch σ y c).1 ≤ (s_ch σ y c).2.2)) x (s_nc σ y) 0 0 → yH D ycl (va_A (yW cc ad LL X σ) sz) sv.heap H locs (yW cc ad LL X σ) → lv_has ls 5 [(3, .int (nI i)), (2, .int (nI sn)), (0, .ref (ad (1, y, 0))), (1, .int x)] → W pv l ev (headSpec w_Y_findFull ({ frames := 1, cells := 0, slots := 0, locals := 21 })).room sv mv [.ref (ad (1, y, 0)), .int x].toArray bv tv cv H locs 0 0 (MQ bv (yQi D (yW cc ad LL X σ) sz (yff (fun c => decide ((s_ch σ y c).1 ≤ (s_ch σ y c).2.2)) x (s_nc σ y) 0 0) (yW cc ad LL X σ)) [.ref (ad (1, y, 0)), .int x].toArray sv 0 0 (va_A (yW cc ad LL X σ) sz)) (F0 mv 4 ls []) := by
    intro f
    induction f with
    | zero =>
      intro i sn H locs ls hik hsn hv hw hl
      refine lv_iload_n hx hb d_Y_findFull_4 rfl (lv_at hl 0 rfl) ?_
      refine lv_aload_n hx hb d_Y_findFull_5 rfl (lv_at hl 2 rfl) ?_
      refine yr_get (C := R_Y) (T := F_Y) (N := 5) (ci := k_Y) hx hb ht j_Y hown hK.1 hw (by assumption) (by rfl) rfl 4 (by decide) (ht _ mf_Y_31) (fun _ h9 => h9) (by rfl) d_Y_findFull_6 ?_
      refine lv_icmp_ge (tgt := 48) hx hb d_Y_findFull_9 (by decide) (fun c_9 => ?_) (fun c_9 => by exact absurd (nI_le (by omega) (by omega)) c_9)
      refine lv_iconst (v := (-1)) hx hb d_Y_findFull_48 (by decide) ?_
      exact ye_i hI () (by rw [← hv]; rfl) hw d_Y_findFull_49
    | succ f ih =>
      intro i sn H locs ls hik hsn hv hw hl
      have hd : i < s_nc σ y := by omega
      have h9 : (9, y, i) ∈ LL := hL _ ⟨hy, hd⟩
      have h10 : (10, y, i) ∈ LL := hL _ ⟨hy, hd⟩
      obtain ⟨b1, b2, b3, b4⟩ := hi.2.2.2.1 i
      refine lv_iload_n hx hb d_Y_findFull_4 rfl (lv_at hl 0 rfl) ?_
      refine lv_aload_n hx hb d_Y_findFull_5 rfl (lv_at hl 2 rfl) ?_
      refine yr_get (C := R_Y) (T := F_Y) (N := 5) (ci := k_Y) hx hb ht j_Y hown hK.1 hw (by assumption) (by rfl) rfl 4 (by decide) (ht _ mf_Y_31) (fun _ h9 => h9) (by rfl) d_Y_findFull_6 ?_
      refine lv_icmp_ge (tgt := 48) hx hb d_Y_findFull_9 (by decide) (fun c_9 => by exact absurd ((nI_leI (by omega) (by omega)).mp c_9) (Nat.not_le.mpr hd)) (fun c_9 => ?_)
      refine lv_aload_n hx hb d_Y_findFull_12 rfl (lv_at hl 2 rfl) ?_
      refine lv_iload_n hx hb d_Y_findFull_13 rfl (lv_at hl 0 rfl) ?_
      refine yc_q (va_runV (As := [.int _]) (rest := []) ⟨hx, hb, hml, hown, hts⟩ (c_Y_findChannel l D cc ad LL X b0 _ σ hL y hy hi i hd) (cwV 1 hts (yg_call mc_Y_findChannel ml_Y_61 mm_Y_findChannel ms_Y_findChannel mi_Y) rfl rfl rfl (by decide +kernel) ⟨Nat.le_of_ble_eq_true rfl, Nat.le_of_ble_eq_true rfl⟩) (y_preV hI hw (y_recv hK.1 hw g1 (by rfl) rfl)) rfl rfl hl.1 rfl (lv_room (Nat.le_of_ble_eq_true rfl)) d_Y_findFull_14 ⟨Nat.le_of_ble_eq_true rfl, Nat.le_of_ble_eq_true rfl⟩) hw hA (fun r u H locs he hw => ?_)
      subst he
      rw [yrf_s]
      refine lv_astore (lv' := [(4, .ref _), (3, .int _), (2, .int _), (0, .ref _), (1, .int _)]) hx hb d_Y_findFull_17 hl (by decide) rfl (fun ls hl => ?_)
      refine lv_aload hx hb d_Y_findFull_19 (lv_at hl 0 rfl) ?_
      refine lv_ifnull hx hb d_Y_findFull_21 ?_
      refine lv_aload hx hb d_Y_findFull_24 (lv_at hl 0 rfl) ?_
      refine yc_i (va_runV (As := []) (rest := []) ⟨hx, hb, hml, hown, hts⟩ (c_C_isFull l D cc ad LL X b0 _ σ y i h9 h10 ⟨by omega, by omega, by omega⟩) (cwV 0 hts (yg_call mc_C_isFull ml_Y_65 mm_C_isFull ms_C_isFull mi_C) rfl rfl rfl (by decide +kernel) ⟨Nat.le_of_ble_eq_true rfl, Nat.le_of_ble_eq_true rfl⟩) (y_preV hI hw (y_recv hK.1 hw h9 (by rfl) rfl)) rfl rfl hl.1 rfl (lv_room (Nat.le_of_ble_eq_true rfl)) d_Y_findFull_26 ⟨Nat.le_of_ble_eq_true rfl, Nat.le_of_ble_eq_true rfl⟩) hw hA (fun r u H locs he hw => ?_)
      subst he
      refine lv_if_eq (tgt := 42) hx hb d_Y_findFull_29 (by decide) (fun c_29 => ?_) (fun c_29 => ?_)
      · have e1 := yb_0 c_29
        refine lv_iinc (v := nI (i + 1)) (lv' := [(3, .int _), (4, .ref _), (2, .int _), (0, .ref _), (1, .int _)]) hx hb d_Y_findFull_42 hl (k := 1) rfl (yinc i) (by decide) rfl (fun ls hl => ?_)
        refine lv_goto (tgt := 4) hx hb d_Y_findFull_45 (by decide) ?_
        exact ih (i + 1) sn _ _ _ (by omega) (by omega) (by rw [← hv]; exact (yff_0 e1).symm) hw (lv_sub hl [0, 2, 3, 4] rfl)
      · have e1 := yb_1 c_29
        refine lv_iload_n hx hb d_Y_findFull_32 rfl (lv_at hl 2 rfl) ?_
        refine lv_iload_n hx hb d_Y_findFull_33 rfl (lv_at hl 4 rfl) ?_
        refine lv_icmp_ne (tgt := 39) hx hb d_Y_findFull_34 (by decide) (fun c_34 => ?_) (fun c_34 => ?_)
        · refine lv_iinc (v := nI (sn + 1)) (lv' := [(2, .int _), (4, .ref _), (3, .int _), (0, .ref _), (1, .int _)]) hx hb d_Y_findFull_39 hl (k := 2) rfl (yinc sn) (by decide) rfl (fun ls hl => ?_)
          refine lv_iinc (v := nI (i + 1)) (lv' := [(3, .int _), (2, .int _), (4, .ref _), (0, .ref _), (1, .int _)]) hx hb d_Y_findFull_42 hl (k := 2) rfl (yinc i) (by decide) rfl (fun ls hl => ?_)
          refine lv_goto (tgt := 4) hx hb d_Y_findFull_45 (by decide) ?_
          exact ih (i + 1) (sn + 1) _ _ _ (by omega) (by omega) (by rw [← hv]; exact (yff_1 e1 c_34).symm) hw (lv_sub hl [0, 1, 3, 4] rfl)
        · refine lv_iload_n hx hb d_Y_findFull_37 rfl (lv_at hl 1 rfl) ?_
          exact ye_i hI () (by rw [← hv]; exact (yff_2 e1 c_34).symm) hw d_Y_findFull_38
  refine lv_iconst (v := (nI 0)) hx hb d_Y_findFull_0 (by decide) ?_
  refine lv_istore_n (lv' := [(2, .int _), (0, .ref _), (1, .int _)]) hx hb d_Y_findFull_1 rfl hl (by decide) rfl (fun ls hl => ?_)
  refine lv_iconst (v := (nI 0)) hx hb d_Y_findFull_2 (by decide) ?_
  refine lv_istore_n (lv' := [(3, .int _), (2, .int _), (0, .ref _), (1, .int _)]) hx hb d_Y_findFull_3 rfl hl (by decide) rfl (fun ls hl => ?_)
  exact loop (s_nc σ y) 0 0 _ _ _ (by omega) (by omega) rfl hw (lv_sub hl [0, 1, 2, 3] rfl)
set_option maxHeartbeats 4000000 in
set_option maxRecDepth 100000 in
theorem c_S_timesOf (l : Launch) (D : va_G) (cc : ClassId × ClassId × ClassId) (ad : yl → Nat) (LL : List yl) (X : va_W) (b0 sz : Nat) (σ : ys) (hL : ∀ q, yL σ q → q ∈ LL) (y i : Nat) (hy : y < 2) (hn : i < s_n σ y) (hi : yI σ y) : Met l y_S_timesOf w_S_timesOf ({ frames := 1, cells := 0, slots := 0, locals := 20 }) (yPr D cc b0 [.ref (ad (5, y, i))] (yW cc ad LL X σ) sz) (yQi D (yW cc ad LL X σ) sz (nI (s_ac σ y i).2.2.2.2) (yW cc ad LL X σ)) 0 0 (va_A (yW cc ad LL X σ) sz) := by
  have h5 : (5, y, i) ∈ LL := hL _ ⟨hy, hn⟩
  refine y_ofW (cc := b_S_timesOf) (maxL := 1) (ret := (some .int)) (by decide) rfl (Nat.le_of_ble_eq_true rfl) ?_
  intro pv ev sv mv bv tv cv ls hI hsz hw hl
  obtain ⟨hx, hb, hr, hml, hts, hown, hlocks, hnm, hK, hAb, hb0, hA⟩ := id hI
  have ht : ∀ w ∈ lg_tbl, w.before _ sv = true := fun w h => hts w (List.mem_cons_of_mem _ h)
  have hl : lv_has ls 1 [(0, .ref (ad (5, y, i)))] := hl
  refine lv_aload_n hx hb d_S_timesOf_0 rfl (lv_at hl 0 rfl) ?_
  refine lv_ifnonnull (tgt := 8) hx hb d_S_timesOf_1 (by decide) ?_
  refine lv_aload_n hx hb d_S_timesOf_8 rfl (lv_at hl 0 rfl) ?_
  refine yc_i (va_runV (As := []) (rest := []) ⟨hx, hb, hml, hown, hts⟩ (c_A_times l D cc ad LL X b0 _ σ hL y i hy hn hi) (cwV 0 hts (yg_call mc_A_times ml_S_96 mm_A_times ms_A_times mi_A) rfl rfl rfl (by decide +kernel) ⟨Nat.le_of_ble_eq_true rfl, Nat.le_of_ble_eq_true rfl⟩) (y_preV hI hw (y_recv hK.1 hw h5 (by rfl) rfl)) rfl rfl hl.1 rfl (lv_room (Nat.le_of_ble_eq_true rfl)) d_S_timesOf_9 ⟨Nat.le_of_ble_eq_true rfl, Nat.le_of_ble_eq_true rfl⟩) hw hA (fun r u H locs he hw => ?_)
  subst he
  exact ye_i hI () rfl hw d_S_timesOf_12
set_option maxHeartbeats 4000000 in
set_option maxRecDepth 100000 in
theorem c_S_timesOf_null (l : Launch) (D : va_G) (cc : ClassId × ClassId × ClassId) (ad : yl → Nat) (LL : List yl) (X : va_W) (b0 sz : Nat) (σ : ys)  : Met l y_S_timesOf w_S_timesOf ({ frames := 1, cells := 0, slots := 0, locals := 20 }) (yPr D cc b0 [.null] (yW cc ad LL X σ) sz) (yQi D (yW cc ad LL X σ) sz (-1) (yW cc ad LL X σ)) 0 0 (va_A (yW cc ad LL X σ) sz) := by
  refine y_ofW (cc := b_S_timesOf) (maxL := 1) (ret := (some .int)) (by decide) rfl (Nat.le_of_ble_eq_true rfl) ?_
  intro pv ev sv mv bv tv cv ls hI hsz hw hl
  obtain ⟨hx, hb, hr, hml, hts, hown, hlocks, hnm, hK, hAb, hb0, hA⟩ := id hI
  have ht : ∀ w ∈ lg_tbl, w.before _ sv = true := fun w h => hts w (List.mem_cons_of_mem _ h)
  have hl : lv_has ls 1 [(0, .null)] := hl
  refine lv_aload_nN hx hb d_S_timesOf_0 rfl (lv_at hl 0 rfl) ?_
  refine lv_ifnonnullN hx hb d_S_timesOf_1 ?_
  refine lv_iconst (v := (-1)) hx hb d_S_timesOf_4 (by decide) ?_
  refine lv_goto (tgt := 12) hx hb d_S_timesOf_5 (by decide) ?_
  exact ye_i hI () rfl hw d_S_timesOf_12
set_option maxHeartbeats 4000000 in
set_option maxRecDepth 100000 in
theorem c_S_keptValue_null (l : Launch) (D : va_G) (cc : ClassId × ClassId × ClassId) (ad : yl → Nat) (LL : List yl) (X : va_W) (b0 sz : Nat) (σ : ys) (x : Int32) : Met l y_S_keptValue w_S_keptValue ({ frames := 1, cells := 0, slots := 0, locals := 21 }) (yPr D cc b0 [.null, .int x] (yW cc ad LL X σ) sz) (yQl D (yW cc ad LL X σ) sz (-9223372036854775808) (yW cc ad LL X σ)) 0 0 (va_A (yW cc ad LL X σ) sz) := by
  refine y_ofW (cc := b_S_keptValue) (maxL := 2) (ret := (some .long)) (by decide) rfl (Nat.le_of_ble_eq_true rfl) ?_
  intro pv ev sv mv bv tv cv ls hI hsz hw hl
  obtain ⟨hx, hb, hr, hml, hts, hown, hlocks, hnm, hK, hAb, hb0, hA⟩ := id hI
  have ht : ∀ w ∈ lg_tbl, w.before _ sv = true := fun w h => hts w (List.mem_cons_of_mem _ h)
  have hl : lv_has ls 2 [(0, .null), (1, .int x)] := hl
  refine lv_aload_nN hx hb d_S_keptValue_0 rfl (lv_at hl 0 rfl) ?_
  refine lv_ifnullN (tgt := 16) hx hb d_S_keptValue_1 (by decide) ?_
  refine lv_ldc2 hx hb hown (ht _ mq_S_76) d_S_keptValue_16 ?_
  exact ye_l hI () rfl hw d_S_keptValue_19
set_option maxHeartbeats 4000000 in
set_option maxRecDepth 100000 in
theorem c_S_keptValue (l : Launch) (D : va_G) (cc : ClassId × ClassId × ClassId) (ad : yl → Nat) (LL : List yl) (X : va_W) (b0 sz : Nat) (σ : ys) (hL : ∀ q, yL σ q → q ∈ LL) (y i : Nat) (hy : y < 2) (hn : i < s_n σ y) (hi : yI σ y) (hk6 : (s_ac σ y i).1 = 6) (x : Int32) : Met l y_S_keptValue w_S_keptValue ({ frames := 1, cells := 0, slots := 0, locals := 21 }) (yPr D cc b0 [.ref (ad (5, y, i)), .int x] (yW cc ad LL X σ) sz) (yQl D (yW cc ad LL X σ) sz (match yin x (s_ac σ y i).2.2.2.2 with | none => (-9223372036854775808) | some j => (s_rw σ y i j).toInt64) (yW cc ad LL X σ)) 0 0 (va_A (yW cc ad LL X σ) sz) := by
  have h5 : (5, y, i) ∈ LL := hL _ ⟨hy, hn⟩
  obtain ⟨a1, a2, a3, a4, a5⟩ := hi.2.2.1 i
  have h60 := a5 hk6
  rcases ysplit x (n := (s_ac σ y i).2.2.2.2) (by omega) with hno | ⟨j, hj, rfl⟩
  · refine y_ofW (cc := b_S_keptValue) (maxL := 2) (ret := (some .long)) (by decide) rfl (Nat.le_of_ble_eq_true rfl) ?_
    intro pv ev sv mv bv tv cv ls hI hsz hw hl
    obtain ⟨hx, hb, hr, hml, hts, hown, hlocks, hnm, hK, hAb, hb0, hA⟩ := id hI
    have ht : ∀ w ∈ lg_tbl, w.before _ sv = true := fun w h => hts w (List.mem_cons_of_mem _ h)
    have hl : lv_has ls 2 [(0, .ref (ad (5, y, i))), (1, .int x)] := hl
    refine lv_aload_n hx hb d_S_keptValue_0 rfl (lv_at hl 0 rfl) ?_
    refine lv_ifnull hx hb d_S_keptValue_1 ?_
    refine lv_iload_n hx hb d_S_keptValue_4 rfl (lv_at hl 1 rfl) ?_
    refine lv_if_lt (tgt := 16) hx hb d_S_keptValue_5 (by decide) (fun c_5 => ?_) (fun c_5 => ?_)
    · refine lv_ldc2 hx hb hown (ht _ mq_S_76) d_S_keptValue_16 ?_
      exact ye_l hI () (by rw [yin_no hno]) hw d_S_keptValue_19
    · refine lv_iload_n hx hb d_S_keptValue_8 rfl (lv_at hl 1 rfl) ?_
      refine lv_aload_n hx hb d_S_keptValue_9 rfl (lv_at hl 0 rfl) ?_
      refine yc_i (va_runV (As := []) (rest := [.int _]) ⟨hx, hb, hml, hown, hts⟩ (c_A_times l D cc ad LL X b0 _ σ hL y i hy hn hi) (cwV 0 hts (yg_call mc_A_times ml_S_96 mm_A_times ms_A_times mi_A) rfl rfl rfl (by decide +kernel) ⟨Nat.le_of_ble_eq_true rfl, Nat.le_of_ble_eq_true rfl⟩) (y_preV hI hw (y_recv hK.1 hw h5 (by rfl) rfl)) rfl rfl hl.1 rfl (lv_room (Nat.le_of_ble_eq_true rfl)) d_S_keptValue_10 ⟨Nat.le_of_ble_eq_true rfl, Nat.le_of_ble_eq_true rfl⟩) hw hA (fun r u H locs he hw => ?_)
      subst he
      refine lv_icmp_lt (tgt := 20) hx hb d_S_keptValue_13 (by decide) (fun c_13 => by exact (hno.elim (fun h => absurd h c_5) (fun h => absurd c_13 (Int32.not_lt.mpr h)))) (fun c_13 => ?_)
      refine lv_ldc2 hx hb hown (ht _ mq_S_76) d_S_keptValue_16 ?_
      exact ye_l hI () (by rw [yin_no hno]) hw d_S_keptValue_19
  · refine y_ofW (cc := b_S_keptValue) (maxL := 2) (ret := (some .long)) (by decide) rfl (Nat.le_of_ble_eq_true rfl) ?_
    intro pv ev sv mv bv tv cv ls hI hsz hw hl
    obtain ⟨hx, hb, hr, hml, hts, hown, hlocks, hnm, hK, hAb, hb0, hA⟩ := id hI
    have ht : ∀ w ∈ lg_tbl, w.before _ sv = true := fun w h => hts w (List.mem_cons_of_mem _ h)
    have hl : lv_has ls 2 [(0, .ref (ad (5, y, i))), (1, .int (nI j))] := hl
    refine lv_aload_n hx hb d_S_keptValue_0 rfl (lv_at hl 0 rfl) ?_
    refine lv_ifnull hx hb d_S_keptValue_1 ?_
    refine lv_iload_n hx hb d_S_keptValue_4 rfl (lv_at hl 1 rfl) ?_
    refine lv_if_lt (tgt := 16) hx hb d_S_keptValue_5 (by decide) (fun c_5 => by exact absurd c_5 (nI_pos (by omega))) (fun c_5 => ?_)
    refine lv_iload_n hx hb d_S_keptValue_8 rfl (lv_at hl 1 rfl) ?_
    refine lv_aload_n hx hb d_S_keptValue_9 rfl (lv_at hl 0 rfl) ?_
    refine yc_i (va_runV (As := []) (rest := [.int _]) ⟨hx, hb, hml, hown, hts⟩ (c_A_times l D cc ad LL X b0 _ σ hL y i hy hn hi) (cwV 0 hts (yg_call mc_A_times ml_S_96 mm_A_times ms_A_times mi_A) rfl rfl rfl (by decide +kernel) ⟨Nat.le_of_ble_eq_true rfl, Nat.le_of_ble_eq_true rfl⟩) (y_preV hI hw (y_recv hK.1 hw h5 (by rfl) rfl)) rfl rfl hl.1 rfl (lv_room (Nat.le_of_ble_eq_true rfl)) d_S_keptValue_10 ⟨Nat.le_of_ble_eq_true rfl, Nat.le_of_ble_eq_true rfl⟩) hw hA (fun r u H locs he hw => ?_)
    subst he
    refine lv_icmp_lt (tgt := 20) hx hb d_S_keptValue_13 (by decide) (fun c_13 => ?_) (fun c_13 => by exact absurd (nI_lt hj (by omega)) c_13)
    refine lv_aload_n hx hb d_S_keptValue_20 rfl (lv_at hl 0 rfl) ?_
    refine lv_iload_n hx hb d_S_keptValue_21 rfl (lv_at hl 1 rfl) ?_
    refine yc_i (va_runV (As := [.int _]) (rest := []) ⟨hx, hb, hml, hown, hts⟩ (c_A_rowValue l D cc ad LL X b0 _ σ hL y i hy hn hi j (by rw [hk6]; show j < 60; omega)) (cwV 1 hts (yg_call mc_A_rowValue ml_S_99 mm_A_rowValue ms_A_rowValue mi_A) rfl rfl rfl (by decide +kernel) ⟨Nat.le_of_ble_eq_true rfl, Nat.le_of_ble_eq_true rfl⟩) (y_preV hI hw (y_recv hK.1 hw h5 (by rfl) rfl)) rfl rfl hl.1 rfl (lv_room (Nat.le_of_ble_eq_true rfl)) d_S_keptValue_22 ⟨Nat.le_of_ble_eq_true rfl, Nat.le_of_ble_eq_true rfl⟩) hw hA (fun r u H locs he hw => ?_)
    subst he
    refine lv_i2l hx hb d_S_keptValue_25 rfl ?_
    exact ye_l hI () (by rw [yin_some hj (by omega)]) hw d_S_keptValue_26
end
section
/-! THE FACE: what only reads -/
/-- what holds between calls: both yards are well, built alike; where the flag is set, the second is how all ends -/
def yJ (σ : ys) : Prop := yI σ 0 ∧ yI σ 1 ∧ yE σ 1 0 ∧ (s_fl σ 0 0 = 0 ∨ (s_fl σ 0 0 = 1 ∧ s_T σ 1 = s_T σ 0 ∧ yp_fin (s_T σ 0) (s_D σ 0) (s_D σ 1)))
def a_can (T : yp_T) (d : yp_D) (x : Int32) : Int32 := match yin x (yp_n T) with
  | none => 0
  | some j => yb (yp_canb T d j)
def a_acted (T : yp_T) (d : yp_D) (x : Int32) : Int32 := match yin x (yp_n T) with
  | none => -1
  | some j => nI (d.1 j)
def a_kept (T : yp_T) (d : yp_D) (x : Int32) : Int32 := match yin x (yp_n T) with
  | none => -1
  | some j => if yp_kd T j = 6 then nI (d.1 j) else -1
def a_at (T : yp_T) (d : yp_D) (x v : Int32) : Int64 := match yin x (yp_n T) with
  | none => -9223372036854775808
  | some j => if yp_kd T j = 6 then (match yin v (d.1 j) with | none => -9223372036854775808 | some i => ((d.2.1 j).getD i 0).toInt64) else -9223372036854775808
def a_waits (nc : Nat) (d : yp_D) (x : Int32) : Int32 := match yin x nc with
  | none => -1
  | some c => nI (d.2.2 c).length
def a_waiting (nc : Nat) (d : yp_D) (x v : Int32) : Int64 := match yin x nc with
  | none => -9223372036854775808
  | some c => match yin v (d.2.2 c).length with | none => -9223372036854775808 | some i => ((d.2.2 c).getD i 0).toInt64
def a_full (T : yp_T) (nc : Nat) (d : yp_D) (x : Int32) : Int32 := yff (fun c => decide (yp_rm T c ≤ (d.2.2 c).length)) x nc 0 0
theorem at_eq {σ : ys} {y j : Nat} (hk6 : (s_ac σ y j).1 = 6) (v : Int32) : (match yin v (s_ac σ y j).2.2.2.2 with | none => (-9223372036854775808 : Int64) | some i => (s_rw σ y j i).toInt64) = (match yin v ((s_D σ y).1 j) with | none => -9223372036854775808 | some i => (((s_D σ y).2.1 j).getD i 0).toInt64) := by
  show _ = (match yin v (s_ac σ y j).2.2.2.2 with | none => (-9223372036854775808 : Int64) | some i => ((if (s_ac σ y j).1 = 6 then yrw (s_rw σ y j) (s_ac σ y j).2.2.2.2 else []).getD i 0).toInt64)
  rw [if_pos hk6]
  unfold yin
  by_cases h : v < 0 ∨ nI (s_ac σ y j).2.2.2.2 ≤ v
  · rw [if_pos h]
  · rw [if_neg h]
    show (s_rw σ y j v.toNatClampNeg).toInt64 = ((yrw (s_rw σ y j) (s_ac σ y j).2.2.2.2).getD v.toNatClampNeg 0).toInt64
    by_cases h2 : v.toNatClampNeg < (s_ac σ y j).2.2.2.2
    · rw [List.getD_eq_getElem?_getD, yrw_get h2]; rfl
    · exfalso
      apply h
      rcases Decidable.em (v < 0) with q | q
      · exact Or.inl q
      · right
        obtain ⟨t, ht, rfl⟩ := nI_of q
        rw [nI_clamp ht] at h2
        exact nI_le (by omega) ht
theorem wt_no {r : Nat → Int32} {f n : Nat} {v : Int32} (h : v < 0 ∨ nI n ≤ v) : (match yin v (yrq r f n).length with | none => (-9223372036854775808 : Int64) | some i => ((yrq r f n).getD i 0).toInt64) = -9223372036854775808 := by
  rw [yrq_len, yin_no h]
theorem wt_yes {r : Nat → Int32} {f n t : Nat} (h : t < n) (hn : n < 2 ^ 31) : (match yin (nI t) (yrq r f n).length with | none => (-9223372036854775808 : Int64) | some i => ((yrq r f n).getD i 0).toInt64) = (r ((f + t) % 8)).toInt64 := by
  rw [yrq_len, yin_some h hn]
  show ((yrq r f n).getD t 0).toInt64 = _
  rw [List.getD_eq_getElem?_getD, yrq_get h]
  rfl
set_option maxHeartbeats 4000000 in
set_option maxRecDepth 100000 in
theorem c_S_can (l : Launch) (D : va_G) (cc : ClassId × ClassId × ClassId) (ad : yl → Nat) (LL : List yl) (X : va_W) (b0 sz : Nat) (σ : ys) (hL : ∀ q, yL σ q → q ∈ LL) (hJ : yJ σ) (x : Int32) : Met l y_S_can w_S_can ({ frames := 3, cells := 0, slots := 0, locals := 63 }) (yPr D cc b0 [.ref (ad (0, 0, 0)), .int x] (yW cc ad LL X σ) sz) (yQi D (yW cc ad LL X σ) sz (a_can (s_T σ 0) (s_D σ 0) x) (yW cc ad LL X σ)) 0 0 (va_A (yW cc ad LL X σ) sz) := by
  have o0 : (0, 0, 0) ∈ LL := hL _ ⟨rfl, rfl⟩
  have n0 : (1, 0, 0) ∈ LL := hL _ ⟨by omega, rfl⟩
  have n1 : (1, 1, 0) ∈ LL := hL _ ⟨by omega, rfl⟩
  have hi := hJ.1
  have hi1 := hJ.2.1
  have hn10 := hi.1.1
  have hc16 := hi.2.1
  have hm10 := hi1.1.1
  have hd16 := hi1.2.1
  rcases ysplit x (n := s_n σ 0) (by omega) with hno | ⟨j, hj, rfl⟩
  · refine y_ofW (cc := b_S_can) (maxL := 3) (ret := (some .boolean)) (by decide) rfl (Nat.le_of_ble_eq_true rfl) ?_
    intro pv ev sv mv bv tv cv ls hI hsz hw hl
    obtain ⟨hx, hb, hr, hml, hts, hown, hlocks, hnm, hK, hAb, hb0, hA⟩ := id hI
    have ht : ∀ w ∈ lg_tbl, w.before _ sv = true := fun w h => hts w (List.mem_cons_of_mem _ h)
    have hl : lv_has ls 3 [(0, .ref (ad (0, 0, 0))), (1, .int x)] := hl
    refine lv_aload_n hx hb d_S_can_0 rfl (lv_at hl 0 rfl) ?_
    refine yr_get (C := R_S) (T := F_S) (N := 3) (ci := k_S) hx hb ht j_S hown hK.1 hw (by assumption) (by rfl) rfl 0 (by decide) (ht _ mf_S_14) (fun _ h9 => h9) (by rfl) d_S_can_1 ?_
    refine lv_iload_n hx hb d_S_can_4 rfl (lv_at hl 1 rfl) ?_
    refine yc_q (va_runV (As := [.int _]) (rest := []) ⟨hx, hb, hml, hown, hts⟩ (c_Y_findActor_no l D cc ad LL X b0 _ σ hL 0 (by omega) hi x hno) (cwV 1 hts (yg_call mc_Y_findActor ml_S_43 mm_Y_findActor ms_Y_findActor mi_Y) rfl rfl rfl (by decide +kernel) ⟨Nat.le_of_ble_eq_true rfl, Nat.le_of_ble_eq_true rfl⟩) (y_preV hI hw (y_recv hK.1 hw n0 (by rfl) rfl)) rfl rfl hl.1 rfl (lv_room (Nat.le_of_ble_eq_true rfl)) d_S_can_5 ⟨Nat.le_of_ble_eq_true rfl, Nat.le_of_ble_eq_true rfl⟩) hw hA (fun r u H locs he hw => ?_)
    subst he
    rw [yrf_n]
    refine lv_astore_nN (lv' := [(2, .null), (0, .ref _), (1, .int _)]) hx hb d_S_can_8 rfl hl (by decide) rfl (fun ls hl => ?_)
    refine lv_aload_nN hx hb d_S_can_9 rfl (lv_at hl 0 rfl) ?_
    refine lv_ifnullN (tgt := 24) hx hb d_S_can_10 (by decide) ?_
    refine lv_iconst (v := 0) hx hb d_S_can_24 (by decide) ?_
    exact ye_z hI (by decide) () (by unfold a_can; rw [yin_no (show x < 0 ∨ nI (yp_n (s_T σ 0)) ≤ x from hno)]) hw d_S_can_25
  · have h5 : (5, 0, j) ∈ LL := hL _ ⟨by omega, hj⟩
    have hjn : yin (nI j) (yp_n (s_T σ 0)) = some j := yin_some hj (by show s_n σ 0 < _; omega)
    refine y_ofW (cc := b_S_can) (maxL := 3) (ret := (some .boolean)) (by decide) rfl (Nat.le_of_ble_eq_true rfl) ?_
    intro pv ev sv mv bv tv cv ls hI hsz hw hl
    obtain ⟨hx, hb, hr, hml, hts, hown, hlocks, hnm, hK, hAb, hb0, hA⟩ := id hI
    have ht : ∀ w ∈ lg_tbl, w.before _ sv = true := fun w h => hts w (List.mem_cons_of_mem _ h)
    have hl : lv_has ls 3 [(0, .ref (ad (0, 0, 0))), (1, .int (nI j))] := hl
    refine lv_aload_n hx hb d_S_can_0 rfl (lv_at hl 0 rfl) ?_
    refine yr_get (C := R_S) (T := F_S) (N := 3) (ci := k_S) hx hb ht j_S hown hK.1 hw (by assumption) (by rfl) rfl 0 (by decide) (ht _ mf_S_14) (fun _ h9 => h9) (by rfl) d_S_can_1 ?_
    refine lv_iload_n hx hb d_S_can_4 rfl (lv_at hl 1 rfl) ?_
    refine yc_q (va_runV (As := [.int _]) (rest := []) ⟨hx, hb, hml, hown, hts⟩ (c_Y_findActor l D cc ad LL X b0 _ σ hL 0 (by omega) hi j hj) (cwV 1 hts (yg_call mc_Y_findActor ml_S_43 mm_Y_findActor ms_Y_findActor mi_Y) rfl rfl rfl (by decide +kernel) ⟨Nat.le_of_ble_eq_true rfl, Nat.le_of_ble_eq_true rfl⟩) (y_preV hI hw (y_recv hK.1 hw n0 (by rfl) rfl)) rfl rfl hl.1 rfl (lv_room (Nat.le_of_ble_eq_true rfl)) d_S_can_5 ⟨Nat.le_of_ble_eq_true rfl, Nat.le_of_ble_eq_true rfl⟩) hw hA (fun r u H locs he hw => ?_)
    subst he
    rw [yrf_s]
    refine lv_astore_n (lv' := [(2, .ref _), (0, .ref _), (1, .int _)]) hx hb d_S_can_8 rfl hl (by decide) rfl (fun ls hl => ?_)
    refine lv_aload_n hx hb d_S_can_9 rfl (lv_at hl 0 rfl) ?_
    refine lv_ifnull hx hb d_S_can_10 ?_
    refine lv_aload_n hx hb d_S_can_13 rfl (lv_at hl 0 rfl) ?_
    refine yc_i (va_runV (As := []) (rest := []) ⟨hx, hb, hml, hown, hts⟩ (c_A_isReady l D cc ad LL X b0 _ σ hL 0 j (by omega) hj hi) (cwV 0 hts (yg_call mc_A_isReady ml_S_47 mm_A_isReady ms_A_isReady mi_A) rfl rfl rfl (by decide +kernel) ⟨Nat.le_of_ble_eq_true rfl, Nat.le_of_ble_eq_true rfl⟩) (y_preV hI hw (y_recv hK.1 hw h5 (by rfl) rfl)) rfl rfl hl.1 rfl (lv_room (Nat.le_of_ble_eq_true rfl)) d_S_can_14 ⟨Nat.le_of_ble_eq_true rfl, Nat.le_of_ble_eq_true rfl⟩) hw hA (fun r u H locs he hw => ?_)
    subst he
    refine lv_if_eq (tgt := 24) hx hb d_S_can_17 (by decide) (fun c_17 => ?_) (fun c_17 => ?_)
    · have e1 := yb_0 c_17
      refine lv_iconst (v := 0) hx hb d_S_can_24 (by decide) ?_
      exact ye_z hI (by decide) () (by unfold a_can; rw [hjn]; show _ = yb _; rw [e1]; rfl) hw d_S_can_25
    · have e1 := yb_1 c_17
      refine lv_iconst (v := 1) hx hb d_S_can_20 (by decide) ?_
      refine lv_goto (tgt := 25) hx hb d_S_can_21 (by decide) ?_
      exact ye_z hI (by decide) () (by unfold a_can; rw [hjn]; show _ = yb _; rw [e1]; rfl) hw d_S_can_25
set_option maxHeartbeats 4000000 in
set_option maxRecDepth 100000 in
theorem c_S_acted (l : Launch) (D : va_G) (cc : ClassId × ClassId × ClassId) (ad : yl → Nat) (LL : List yl) (X : va_W) (b0 sz : Nat) (σ : ys) (hL : ∀ q, yL σ q → q ∈ LL) (hJ : yJ σ) (x : Int32) : Met l y_S_acted w_S_acted ({ frames := 2, cells := 0, slots := 0, locals := 40 }) (yPr D cc b0 [.ref (ad (0, 0, 0)), .int x] (yW cc ad LL X σ) sz) (yQi D (yW cc ad LL X σ) sz (a_acted (s_T σ 0) (s_D σ 0) x) (yW cc ad LL X σ)) 0 0 (va_A (yW cc ad LL X σ) sz) := by
  have o0 : (0, 0, 0) ∈ LL := hL _ ⟨rfl, rfl⟩
  have n0 : (1, 0, 0) ∈ LL := hL _ ⟨by omega, rfl⟩
  have n1 : (1, 1, 0) ∈ LL := hL _ ⟨by omega, rfl⟩
  have hi := hJ.1
  have hi1 := hJ.2.1
  have hn10 := hi.1.1
  have hc16 := hi.2.1
  have hm10 := hi1.1.1
  have hd16 := hi1.2.1
  rcases ysplit x (n := s_n σ 0) (by omega) with hno | ⟨j, hj, rfl⟩
  · refine y_ofW (cc := b_S_acted) (maxL := 2) (ret := (some .int)) (by decide) rfl (Nat.le_of_ble_eq_true rfl) ?_
    intro pv ev sv mv bv tv cv ls hI hsz hw hl
    obtain ⟨hx, hb, hr, hml, hts, hown, hlocks, hnm, hK, hAb, hb0, hA⟩ := id hI
    have ht : ∀ w ∈ lg_tbl, w.before _ sv = true := fun w h => hts w (List.mem_cons_of_mem _ h)
    have hl : lv_has ls 2 [(0, .ref (ad (0, 0, 0))), (1, .int x)] := hl
    refine lv_aload_n hx hb d_S_acted_0 rfl (lv_at hl 0 rfl) ?_
    refine yr_get (C := R_S) (T := F_S) (N := 3) (ci := k_S) hx hb ht j_S hown hK.1 hw (by assumption) (by rfl) rfl 0 (by decide) (ht _ mf_S_14) (fun _ h9 => h9) (by rfl) d_S_acted_1 ?_
    refine lv_iload_n hx hb d_S_acted_4 rfl (lv_at hl 1 rfl) ?_
    refine yc_q (va_runV (As := [.int _]) (rest := []) ⟨hx, hb, hml, hown, hts⟩ (c_Y_findActor_no l D cc ad LL X b0 _ σ hL 0 (by omega) hi x hno) (cwV 1 hts (yg_call mc_Y_findActor ml_S_43 mm_Y_findActor ms_Y_findActor mi_Y) rfl rfl rfl (by decide +kernel) ⟨Nat.le_of_ble_eq_true rfl, Nat.le_of_ble_eq_true rfl⟩) (y_preV hI hw (y_recv hK.1 hw n0 (by rfl) rfl)) rfl rfl hl.1 rfl (lv_room (Nat.le_of_ble_eq_true rfl)) d_S_acted_5 ⟨Nat.le_of_ble_eq_true rfl, Nat.le_of_ble_eq_true rfl⟩) hw hA (fun r u H locs he hw => ?_)
    subst he
    rw [yrf_n]
    refine yc_i (va_runS (As := [.null]) (rest := []) ⟨hx, hb, hml, hown, hts⟩ (c_S_timesOf_null l D cc ad LL X b0 _ σ) (va_cwS 1 hts (yg_callS mc_S_timesOf ml_S_58 mt_S_timesOf mi_S) rfl rfl rfl (by decide +kernel) ⟨Nat.le_of_ble_eq_true rfl, Nat.le_of_ble_eq_true rfl⟩) (y_preS hI hw) rfl rfl hl.1 rfl (lv_room (Nat.le_of_ble_eq_true rfl)) d_S_acted_8 ⟨Nat.le_of_ble_eq_true rfl, Nat.le_of_ble_eq_true rfl⟩) hw hA (fun r u H locs he hw => ?_)
    subst he
    exact ye_i hI () (by unfold a_acted; rw [yin_no (show x < 0 ∨ nI (yp_n (s_T σ 0)) ≤ x from hno)]) hw d_S_acted_11
  · have h5 : (5, 0, j) ∈ LL := hL _ ⟨by omega, hj⟩
    have hjn : yin (nI j) (yp_n (s_T σ 0)) = some j := yin_some hj (by show s_n σ 0 < _; omega)
    refine y_ofW (cc := b_S_acted) (maxL := 2) (ret := (some .int)) (by decide) rfl (Nat.le_of_ble_eq_true rfl) ?_
    intro pv ev sv mv bv tv cv ls hI hsz hw hl
    obtain ⟨hx, hb, hr, hml, hts, hown, hlocks, hnm, hK, hAb, hb0, hA⟩ := id hI
    have ht : ∀ w ∈ lg_tbl, w.before _ sv = true := fun w h => hts w (List.mem_cons_of_mem _ h)
    have hl : lv_has ls 2 [(0, .ref (ad (0, 0, 0))), (1, .int (nI j))] := hl
    refine lv_aload_n hx hb d_S_acted_0 rfl (lv_at hl 0 rfl) ?_
    refine yr_get (C := R_S) (T := F_S) (N := 3) (ci := k_S) hx hb ht j_S hown hK.1 hw (by assumption) (by rfl) rfl 0 (by decide) (ht _ mf_S_14) (fun _ h9 => h9) (by rfl) d_S_acted_1 ?_
    refine lv_iload_n hx hb d_S_acted_4 rfl (lv_at hl 1 rfl) ?_
    refine yc_q (va_runV (As := [.int _]) (rest := []) ⟨hx, hb, hml, hown, hts⟩ (c_Y_findActor l D cc ad LL X b0 _ σ hL 0 (by omega) hi j hj) (cwV 1 hts (yg_call mc_Y_findActor ml_S_43 mm_Y_findActor ms_Y_findActor mi_Y) rfl rfl rfl (by decide +kernel) ⟨Nat.le_of_ble_eq_true rfl, Nat.le_of_ble_eq_true rfl⟩) (y_preV hI hw (y_recv hK.1 hw n0 (by rfl) rfl)) rfl rfl hl.1 rfl (lv_room (Nat.le_of_ble_eq_true rfl)) d_S_acted_5 ⟨Nat.le_of_ble_eq_true rfl, Nat.le_of_ble_eq_true rfl⟩) hw hA (fun r u H locs he hw => ?_)
    subst he
    rw [yrf_s]
    refine yc_i (va_runS (As := [.ref _]) (rest := []) ⟨hx, hb, hml, hown, hts⟩ (c_S_timesOf l D cc ad LL X b0 _ σ hL 0 j (by omega) hj hi) (va_cwS 1 hts (yg_callS mc_S_timesOf ml_S_58 mt_S_timesOf mi_S) rfl rfl rfl (by decide +kernel) ⟨Nat.le_of_ble_eq_true rfl, Nat.le_of_ble_eq_true rfl⟩) (y_preS hI hw) rfl rfl hl.1 rfl (lv_room (Nat.le_of_ble_eq_true rfl)) d_S_acted_8 ⟨Nat.le_of_ble_eq_true rfl, Nat.le_of_ble_eq_true rfl⟩) hw hA (fun r u H locs he hw => ?_)
    subst he
    exact ye_i hI () (by unfold a_acted; rw [hjn]; rfl) hw d_S_acted_11
set_option maxHeartbeats 4000000 in
set_option maxRecDepth 100000 in
theorem c_S_kept (l : Launch) (D : va_G) (cc : ClassId × ClassId × ClassId) (ad : yl → Nat) (LL : List yl) (X : va_W) (b0 sz : Nat) (σ : ys) (hL : ∀ q, yL σ q → q ∈ LL) (hJ : yJ σ) (x : Int32) : Met l y_S_kept w_S_kept ({ frames := 2, cells := 0, slots := 0, locals := 44 }) (yPr D cc b0 [.ref (ad (0, 0, 0)), .int x] (yW cc ad LL X σ) sz) (yQi D (yW cc ad LL X σ) sz (a_kept (s_T σ 0) (s_D σ 0) x) (yW cc ad LL X σ)) 0 0 (va_A (yW cc ad LL X σ) sz) := by
  have o0 : (0, 0, 0) ∈ LL := hL _ ⟨rfl, rfl⟩
  have n0 : (1, 0, 0) ∈ LL := hL _ ⟨by omega, rfl⟩
  have n1 : (1, 1, 0) ∈ LL := hL _ ⟨by omega, rfl⟩
  have hi := hJ.1
  have hi1 := hJ.2.1
  have hn10 := hi.1.1
  have hc16 := hi.2.1
  have hm10 := hi1.1.1
  have hd16 := hi1.2.1
  rcases ysplit x (n := s_n σ 0) (by omega) with hno | ⟨j, hj, rfl⟩
  · refine y_ofW (cc := b_S_kept) (maxL := 2) (ret := (some .int)) (by decide) rfl (Nat.le_of_ble_eq_true rfl) ?_
    intro pv ev sv mv bv tv cv ls hI hsz hw hl
    obtain ⟨hx, hb, hr, hml, hts, hown, hlocks, hnm, hK, hAb, hb0, hA⟩ := id hI
    have ht : ∀ w ∈ lg_tbl, w.before _ sv = true := fun w h => hts w (List.mem_cons_of_mem _ h)
    have hl : lv_has ls 2 [(0, .ref (ad (0, 0, 0))), (1, .int x)] := hl
    refine lv_aload_n hx hb d_S_kept_0 rfl (lv_at hl 0 rfl) ?_
    refine yr_get (C := R_S) (T := F_S) (N := 3) (ci := k_S) hx hb ht j_S hown hK.1 hw (by assumption) (by rfl) rfl 0 (by decide) (ht _ mf_S_14) (fun _ h9 => h9) (by rfl) d_S_kept_1 ?_
    refine lv_iload_n hx hb d_S_kept_4 rfl (lv_at hl 1 rfl) ?_
    refine lv_bipush (v := (nI 6)) hx hb d_S_kept_5 (by decide) ?_
    refine yc_q (va_runV (As := [.int _, .int _]) (rest := []) ⟨hx, hb, hml, hown, hts⟩ (c_Y_findKind_no l D cc ad LL X b0 _ σ hL 0 (by omega) hi x hno 6) (cwV 2 hts (yg_call mc_Y_findKind ml_S_29 mm_Y_findKind ms_Y_findKind mi_Y) rfl rfl rfl (by decide +kernel) ⟨Nat.le_of_ble_eq_true rfl, Nat.le_of_ble_eq_true rfl⟩) (y_preV hI hw (y_recv hK.1 hw n0 (by rfl) rfl)) rfl rfl hl.1 rfl (lv_room (Nat.le_of_ble_eq_true rfl)) d_S_kept_7 ⟨Nat.le_of_ble_eq_true rfl, Nat.le_of_ble_eq_true rfl⟩) hw hA (fun r u H locs he hw => ?_)
    subst he
    rw [yrf_n]
    refine yc_i (va_runS (As := [.null]) (rest := []) ⟨hx, hb, hml, hown, hts⟩ (c_S_timesOf_null l D cc ad LL X b0 _ σ) (va_cwS 1 hts (yg_callS mc_S_timesOf ml_S_58 mt_S_timesOf mi_S) rfl rfl rfl (by decide +kernel) ⟨Nat.le_of_ble_eq_true rfl, Nat.le_of_ble_eq_true rfl⟩) (y_preS hI hw) rfl rfl hl.1 rfl (lv_room (Nat.le_of_ble_eq_true rfl)) d_S_kept_10 ⟨Nat.le_of_ble_eq_true rfl, Nat.le_of_ble_eq_true rfl⟩) hw hA (fun r u H locs he hw => ?_)
    subst he
    exact ye_i hI () (by unfold a_kept; rw [yin_no (show x < 0 ∨ nI (yp_n (s_T σ 0)) ≤ x from hno)]) hw d_S_kept_13
  · have h5 : (5, 0, j) ∈ LL := hL _ ⟨by omega, hj⟩
    have hjn : yin (nI j) (yp_n (s_T σ 0)) = some j := yin_some hj (by show s_n σ 0 < _; omega)
    by_cases hk6 : (s_ac σ 0 j).1 = 6
    · refine y_ofW (cc := b_S_kept) (maxL := 2) (ret := (some .int)) (by decide) rfl (Nat.le_of_ble_eq_true rfl) ?_
      intro pv ev sv mv bv tv cv ls hI hsz hw hl
      obtain ⟨hx, hb, hr, hml, hts, hown, hlocks, hnm, hK, hAb, hb0, hA⟩ := id hI
      have ht : ∀ w ∈ lg_tbl, w.before _ sv = true := fun w h => hts w (List.mem_cons_of_mem _ h)
      have hl : lv_has ls 2 [(0, .ref (ad (0, 0, 0))), (1, .int (nI j))] := hl
      refine lv_aload_n hx hb d_S_kept_0 rfl (lv_at hl 0 rfl) ?_
      refine yr_get (C := R_S) (T := F_S) (N := 3) (ci := k_S) hx hb ht j_S hown hK.1 hw (by assumption) (by rfl) rfl 0 (by decide) (ht _ mf_S_14) (fun _ h9 => h9) (by rfl) d_S_kept_1 ?_
      refine lv_iload_n hx hb d_S_kept_4 rfl (lv_at hl 1 rfl) ?_
      refine lv_bipush (v := (nI 6)) hx hb d_S_kept_5 (by decide) ?_
      refine yc_q (va_runV (As := [.int _, .int _]) (rest := []) ⟨hx, hb, hml, hown, hts⟩ (c_Y_findKind l D cc ad LL X b0 _ σ hL 0 (by omega) hi j hj 6 (by omega) hk6) (cwV 2 hts (yg_call mc_Y_findKind ml_S_29 mm_Y_findKind ms_Y_findKind mi_Y) rfl rfl rfl (by decide +kernel) ⟨Nat.le_of_ble_eq_true rfl, Nat.le_of_ble_eq_true rfl⟩) (y_preV hI hw (y_recv hK.1 hw n0 (by rfl) rfl)) rfl rfl hl.1 rfl (lv_room (Nat.le_of_ble_eq_true rfl)) d_S_kept_7 ⟨Nat.le_of_ble_eq_true rfl, Nat.le_of_ble_eq_true rfl⟩) hw hA (fun r u H locs he hw => ?_)
      subst he
      rw [yrf_s]
      refine yc_i (va_runS (As := [.ref _]) (rest := []) ⟨hx, hb, hml, hown, hts⟩ (c_S_timesOf l D cc ad LL X b0 _ σ hL 0 j (by omega) hj hi) (va_cwS 1 hts (yg_callS mc_S_timesOf ml_S_58 mt_S_timesOf mi_S) rfl rfl rfl (by decide +kernel) ⟨Nat.le_of_ble_eq_true rfl, Nat.le_of_ble_eq_true rfl⟩) (y_preS hI hw) rfl rfl hl.1 rfl (lv_room (Nat.le_of_ble_eq_true rfl)) d_S_kept_10 ⟨Nat.le_of_ble_eq_true rfl, Nat.le_of_ble_eq_true rfl⟩) hw hA (fun r u H locs he hw => ?_)
      subst he
      exact ye_i hI () (by unfold a_kept; rw [hjn]; show _ = if (s_ac σ 0 j).1 = 6 then _ else _; rw [if_pos hk6]; rfl) hw d_S_kept_13
    · refine y_ofW (cc := b_S_kept) (maxL := 2) (ret := (some .int)) (by decide) rfl (Nat.le_of_ble_eq_true rfl) ?_
      intro pv ev sv mv bv tv cv ls hI hsz hw hl
      obtain ⟨hx, hb, hr, hml, hts, hown, hlocks, hnm, hK, hAb, hb0, hA⟩ := id hI
      have ht : ∀ w ∈ lg_tbl, w.before _ sv = true := fun w h => hts w (List.mem_cons_of_mem _ h)
      have hl : lv_has ls 2 [(0, .ref (ad (0, 0, 0))), (1, .int (nI j))] := hl
      refine lv_aload_n hx hb d_S_kept_0 rfl (lv_at hl 0 rfl) ?_
      refine yr_get (C := R_S) (T := F_S) (N := 3) (ci := k_S) hx hb ht j_S hown hK.1 hw (by assumption) (by rfl) rfl 0 (by decide) (ht _ mf_S_14) (fun _ h9 => h9) (by rfl) d_S_kept_1 ?_
      refine lv_iload_n hx hb d_S_kept_4 rfl (lv_at hl 1 rfl) ?_
      refine lv_bipush (v := (nI 6)) hx hb d_S_kept_5 (by decide) ?_
      refine yc_q (va_runV (As := [.int _, .int _]) (rest := []) ⟨hx, hb, hml, hown, hts⟩ (c_Y_findKind_other l D cc ad LL X b0 _ σ hL 0 (by omega) hi j hj 6 (by omega) hk6) (cwV 2 hts (yg_call mc_Y_findKind ml_S_29 mm_Y_findKind ms_Y_findKind mi_Y) rfl rfl rfl (by decide +kernel) ⟨Nat.le_of_ble_eq_true rfl, Nat.le_of_ble_eq_true rfl⟩) (y_preV hI hw (y_recv hK.1 hw n0 (by rfl) rfl)) rfl rfl hl.1 rfl (lv_room (Nat.le_of_ble_eq_true rfl)) d_S_kept_7 ⟨Nat.le_of_ble_eq_true rfl, Nat.le_of_ble_eq_true rfl⟩) hw hA (fun r u H locs he hw => ?_)
      subst he
      rw [yrf_n]
      refine yc_i (va_runS (As := [.null]) (rest := []) ⟨hx, hb, hml, hown, hts⟩ (c_S_timesOf_null l D cc ad LL X b0 _ σ) (va_cwS 1 hts (yg_callS mc_S_timesOf ml_S_58 mt_S_timesOf mi_S) rfl rfl rfl (by decide +kernel) ⟨Nat.le_of_ble_eq_true rfl, Nat.le_of_ble_eq_true rfl⟩) (y_preS hI hw) rfl rfl hl.1 rfl (lv_room (Nat.le_of_ble_eq_true rfl)) d_S_kept_10 ⟨Nat.le_of_ble_eq_true rfl, Nat.le_of_ble_eq_true rfl⟩) hw hA (fun r u H locs he hw => ?_)
      subst he
      exact ye_i hI () (by unfold a_kept; rw [hjn]; show _ = if (s_ac σ 0 j).1 = 6 then _ else _; rw [if_neg hk6]) hw d_S_kept_13
set_option maxHeartbeats 4000000 in
set_option maxRecDepth 100000 in
theorem c_S_at (l : Launch) (D : va_G) (cc : ClassId × ClassId × ClassId) (ad : yl → Nat) (LL : List yl) (X : va_W) (b0 sz : Nat) (σ : ys) (hL : ∀ q, yL σ q → q ∈ LL) (hJ : yJ σ) (x : Int32) (v : Int32) : Met l y_S_at w_S_at ({ frames := 2, cells := 0, slots := 0, locals := 44 }) (yPr D cc b0 [.ref (ad (0, 0, 0)), .int x, .int v] (yW cc ad LL X σ) sz) (yQl D (yW cc ad LL X σ) sz (a_at (s_T σ 0) (s_D σ 0) x v) (yW cc ad LL X σ)) 0 0 (va_A (yW cc ad LL X σ) sz) := by
  have o0 : (0, 0, 0) ∈ LL := hL _ ⟨rfl, rfl⟩
  have n0 : (1, 0, 0) ∈ LL := hL _ ⟨by omega, rfl⟩
  have n1 : (1, 1, 0) ∈ LL := hL _ ⟨by omega, rfl⟩
  have hi := hJ.1
  have hi1 := hJ.2.1
  have hn10 := hi.1.1
  have hc16 := hi.2.1
  have hm10 := hi1.1.1
  have hd16 := hi1.2.1
  rcases ysplit x (n := s_n σ 0) (by omega) with hno | ⟨j, hj, rfl⟩
  · refine y_ofW (cc := b_S_at) (maxL := 3) (ret := (some .long)) (by decide) rfl (Nat.le_of_ble_eq_true rfl) ?_
    intro pv ev sv mv bv tv cv ls hI hsz hw hl
    obtain ⟨hx, hb, hr, hml, hts, hown, hlocks, hnm, hK, hAb, hb0, hA⟩ := id hI
    have ht : ∀ w ∈ lg_tbl, w.before _ sv = true := fun w h => hts w (List.mem_cons_of_mem _ h)
    have hl : lv_has ls 3 [(0, .ref (ad (0, 0, 0))), (1, .int x), (2, .int v)] := hl
    refine lv_aload_n hx hb d_S_at_0 rfl (lv_at hl 0 rfl) ?_
    refine yr_get (C := R_S) (T := F_S) (N := 3) (ci := k_S) hx hb ht j_S hown hK.1 hw (by assumption) (by rfl) rfl 0 (by decide) (ht _ mf_S_14) (fun _ h9 => h9) (by rfl) d_S_at_1 ?_
    refine lv_iload_n hx hb d_S_at_4 rfl (lv_at hl 1 rfl) ?_
    refine lv_bipush (v := (nI 6)) hx hb d_S_at_5 (by decide) ?_
    refine yc_q (va_runV (As := [.int _, .int _]) (rest := []) ⟨hx, hb, hml, hown, hts⟩ (c_Y_findKind_no l D cc ad LL X b0 _ σ hL 0 (by omega) hi x hno 6) (cwV 2 hts (yg_call mc_Y_findKind ml_S_29 mm_Y_findKind ms_Y_findKind mi_Y) rfl rfl rfl (by decide +kernel) ⟨Nat.le_of_ble_eq_true rfl, Nat.le_of_ble_eq_true rfl⟩) (y_preV hI hw (y_recv hK.1 hw n0 (by rfl) rfl)) rfl rfl hl.1 rfl (lv_room (Nat.le_of_ble_eq_true rfl)) d_S_at_7 ⟨Nat.le_of_ble_eq_true rfl, Nat.le_of_ble_eq_true rfl⟩) hw hA (fun r u H locs he hw => ?_)
    subst he
    rw [yrf_n]
    refine lv_iload_n hx hb d_S_at_10 rfl (lv_at hl 2 rfl) ?_
    refine yc_l (va_runS (As := [.null, .int _]) (rest := []) ⟨hx, hb, hml, hown, hts⟩ (c_S_keptValue_null l D cc ad LL X b0 _ σ v) (va_cwS 2 hts (yg_callS mc_S_keptValue ml_S_62 mt_S_keptValue mi_S) rfl rfl rfl (by decide +kernel) ⟨Nat.le_of_ble_eq_true rfl, Nat.le_of_ble_eq_true rfl⟩) (y_preS hI hw) rfl rfl hl.1 rfl (lv_room (Nat.le_of_ble_eq_true rfl)) d_S_at_11 ⟨Nat.le_of_ble_eq_true rfl, Nat.le_of_ble_eq_true rfl⟩) hw hA (fun r u H locs he hw => ?_)
    subst he
    exact ye_l hI () (by unfold a_at; rw [yin_no (show x < 0 ∨ nI (yp_n (s_T σ 0)) ≤ x from hno)]) hw d_S_at_14
  · have h5 : (5, 0, j) ∈ LL := hL _ ⟨by omega, hj⟩
    have hjn : yin (nI j) (yp_n (s_T σ 0)) = some j := yin_some hj (by show s_n σ 0 < _; omega)
    by_cases hk6 : (s_ac σ 0 j).1 = 6
    · refine y_ofW (cc := b_S_at) (maxL := 3) (ret := (some .long)) (by decide) rfl (Nat.le_of_ble_eq_true rfl) ?_
      intro pv ev sv mv bv tv cv ls hI hsz hw hl
      obtain ⟨hx, hb, hr, hml, hts, hown, hlocks, hnm, hK, hAb, hb0, hA⟩ := id hI
      have ht : ∀ w ∈ lg_tbl, w.before _ sv = true := fun w h => hts w (List.mem_cons_of_mem _ h)
      have hl : lv_has ls 3 [(0, .ref (ad (0, 0, 0))), (1, .int (nI j)), (2, .int v)] := hl
      refine lv_aload_n hx hb d_S_at_0 rfl (lv_at hl 0 rfl) ?_
      refine yr_get (C := R_S) (T := F_S) (N := 3) (ci := k_S) hx hb ht j_S hown hK.1 hw (by assumption) (by rfl) rfl 0 (by decide) (ht _ mf_S_14) (fun _ h9 => h9) (by rfl) d_S_at_1 ?_
      refine lv_iload_n hx hb d_S_at_4 rfl (lv_at hl 1 rfl) ?_
      refine lv_bipush (v := (nI 6)) hx hb d_S_at_5 (by decide) ?_
      refine yc_q (va_runV (As := [.int _, .int _]) (rest := []) ⟨hx, hb, hml, hown, hts⟩ (c_Y_findKind l D cc ad LL X b0 _ σ hL 0 (by omega) hi j hj 6 (by omega) hk6) (cwV 2 hts (yg_call mc_Y_findKind ml_S_29 mm_Y_findKind ms_Y_findKind mi_Y) rfl rfl rfl (by decide +kernel) ⟨Nat.le_of_ble_eq_true rfl, Nat.le_of_ble_eq_true rfl⟩) (y_preV hI hw (y_recv hK.1 hw n0 (by rfl) rfl)) rfl rfl hl.1 rfl (lv_room (Nat.le_of_ble_eq_true rfl)) d_S_at_7 ⟨Nat.le_of_ble_eq_true rfl, Nat.le_of_ble_eq_true rfl⟩) hw hA (fun r u H locs he hw => ?_)
      subst he
      rw [yrf_s]
      refine lv_iload_n hx hb d_S_at_10 rfl (lv_at hl 2 rfl) ?_
      refine yc_l (va_runS (As := [.ref _, .int _]) (rest := []) ⟨hx, hb, hml, hown, hts⟩ (c_S_keptValue l D cc ad LL X b0 _ σ hL 0 j (by omega) hj hi hk6 v) (va_cwS 2 hts (yg_callS mc_S_keptValue ml_S_62 mt_S_keptValue mi_S) rfl rfl rfl (by decide +kernel) ⟨Nat.le_of_ble_eq_true rfl, Nat.le_of_ble_eq_true rfl⟩) (y_preS hI hw) rfl rfl hl.1 rfl (lv_room (Nat.le_of_ble_eq_true rfl)) d_S_at_11 ⟨Nat.le_of_ble_eq_true rfl, Nat.le_of_ble_eq_true rfl⟩) hw hA (fun r u H locs he hw => ?_)
      subst he
      exact ye_l hI () (by unfold a_at; rw [hjn]; show _ = if (s_ac σ 0 j).1 = 6 then _ else _; rw [if_pos hk6]; exact at_eq hk6 v) hw d_S_at_14
    · refine y_ofW (cc := b_S_at) (maxL := 3) (ret := (some .long)) (by decide) rfl (Nat.le_of_ble_eq_true rfl) ?_
      intro pv ev sv mv bv tv cv ls hI hsz hw hl
      obtain ⟨hx, hb, hr, hml, hts, hown, hlocks, hnm, hK, hAb, hb0, hA⟩ := id hI
      have ht : ∀ w ∈ lg_tbl, w.before _ sv = true := fun w h => hts w (List.mem_cons_of_mem _ h)
      have hl : lv_has ls 3 [(0, .ref (ad (0, 0, 0))), (1, .int (nI j)), (2, .int v)] := hl
      refine lv_aload_n hx hb d_S_at_0 rfl (lv_at hl 0 rfl) ?_
      refine yr_get (C := R_S) (T := F_S) (N := 3) (ci := k_S) hx hb ht j_S hown hK.1 hw (by assumption) (by rfl) rfl 0 (by decide) (ht _ mf_S_14) (fun _ h9 => h9) (by rfl) d_S_at_1 ?_
      refine lv_iload_n hx hb d_S_at_4 rfl (lv_at hl 1 rfl) ?_
      refine lv_bipush (v := (nI 6)) hx hb d_S_at_5 (by decide) ?_
      refine yc_q (va_runV (As := [.int _, .int _]) (rest := []) ⟨hx, hb, hml, hown, hts⟩ (c_Y_findKind_other l D cc ad LL X b0 _ σ hL 0 (by omega) hi j hj 6 (by omega) hk6) (cwV 2 hts (yg_call mc_Y_findKind ml_S_29 mm_Y_findKind ms_Y_findKind mi_Y) rfl rfl rfl (by decide +kernel) ⟨Nat.le_of_ble_eq_true rfl, Nat.le_of_ble_eq_true rfl⟩) (y_preV hI hw (y_recv hK.1 hw n0 (by rfl) rfl)) rfl rfl hl.1 rfl (lv_room (Nat.le_of_ble_eq_true rfl)) d_S_at_7 ⟨Nat.le_of_ble_eq_true rfl, Nat.le_of_ble_eq_true rfl⟩) hw hA (fun r u H locs he hw => ?_)
      subst he
      rw [yrf_n]
      refine lv_iload_n hx hb d_S_at_10 rfl (lv_at hl 2 rfl) ?_
      refine yc_l (va_runS (As := [.null, .int _]) (rest := []) ⟨hx, hb, hml, hown, hts⟩ (c_S_keptValue_null l D cc ad LL X b0 _ σ v) (va_cwS 2 hts (yg_callS mc_S_keptValue ml_S_62 mt_S_keptValue mi_S) rfl rfl rfl (by decide +kernel) ⟨Nat.le_of_ble_eq_true rfl, Nat.le_of_ble_eq_true rfl⟩) (y_preS hI hw) rfl rfl hl.1 rfl (lv_room (Nat.le_of_ble_eq_true rfl)) d_S_at_11 ⟨Nat.le_of_ble_eq_true rfl, Nat.le_of_ble_eq_true rfl⟩) hw hA (fun r u H locs he hw => ?_)
      subst he
      exact ye_l hI () (by unfold a_at; rw [hjn]; show _ = if (s_ac σ 0 j).1 = 6 then _ else _; rw [if_neg hk6]) hw d_S_at_14
set_option maxHeartbeats 4000000 in
set_option maxRecDepth 100000 in
theorem c_S_waits (l : Launch) (D : va_G) (cc : ClassId × ClassId × ClassId) (ad : yl → Nat) (LL : List yl) (X : va_W) (b0 sz : Nat) (σ : ys) (hL : ∀ q, yL σ q → q ∈ LL) (hJ : yJ σ) (x : Int32) : Met l y_S_waits w_S_waits ({ frames := 1, cells := 0, slots := 0, locals := 21 }) (yPr D cc b0 [.ref (ad (0, 0, 0)), .int x] (yW cc ad LL X σ) sz) (yQi D (yW cc ad LL X σ) sz (a_waits (s_nc σ 0) (s_D σ 0) x) (yW cc ad LL X σ)) 0 0 (va_A (yW cc ad LL X σ) sz) := by
  have o0 : (0, 0, 0) ∈ LL := hL _ ⟨rfl, rfl⟩
  have n0 : (1, 0, 0) ∈ LL := hL _ ⟨by omega, rfl⟩
  have n1 : (1, 1, 0) ∈ LL := hL _ ⟨by omega, rfl⟩
  have hi := hJ.1
  have hi1 := hJ.2.1
  have hn10 := hi.1.1
  have hc16 := hi.2.1
  have hm10 := hi1.1.1
  have hd16 := hi1.2.1
  rcases ysplit x (n := s_nc σ 0) (by omega) with hno | ⟨j, hj, rfl⟩
  · refine y_ofW (cc := b_S_waits) (maxL := 3) (ret := (some .int)) (by decide) rfl (Nat.le_of_ble_eq_true rfl) ?_
    intro pv ev sv mv bv tv cv ls hI hsz hw hl
    obtain ⟨hx, hb, hr, hml, hts, hown, hlocks, hnm, hK, hAb, hb0, hA⟩ := id hI
    have ht : ∀ w ∈ lg_tbl, w.before _ sv = true := fun w h => hts w (List.mem_cons_of_mem _ h)
    have hl : lv_has ls 3 [(0, .ref (ad (0, 0, 0))), (1, .int x)] := hl
    refine lv_aload_n hx hb d_S_waits_0 rfl (lv_at hl 0 rfl) ?_
    refine yr_get (C := R_S) (T := F_S) (N := 3) (ci := k_S) hx hb ht j_S hown hK.1 hw (by assumption) (by rfl) rfl 0 (by decide) (ht _ mf_S_14) (fun _ h9 => h9) (by rfl) d_S_waits_1 ?_
    refine lv_iload_n hx hb d_S_waits_4 rfl (lv_at hl 1 rfl) ?_
    refine yc_q (va_runV (As := [.int _]) (rest := []) ⟨hx, hb, hml, hown, hts⟩ (c_Y_findChannel_no l D cc ad LL X b0 _ σ hL 0 (by omega) hi x hno) (cwV 1 hts (yg_call mc_Y_findChannel ml_S_66 mm_Y_findChannel ms_Y_findChannel mi_Y) rfl rfl rfl (by decide +kernel) ⟨Nat.le_of_ble_eq_true rfl, Nat.le_of_ble_eq_true rfl⟩) (y_preV hI hw (y_recv hK.1 hw n0 (by rfl) rfl)) rfl rfl hl.1 rfl (lv_room (Nat.le_of_ble_eq_true rfl)) d_S_waits_5 ⟨Nat.le_of_ble_eq_true rfl, Nat.le_of_ble_eq_true rfl⟩) hw hA (fun r u H locs he hw => ?_)
    subst he
    rw [yrf_n]
    refine lv_astore_nN (lv' := [(2, .null), (0, .ref _), (1, .int _)]) hx hb d_S_waits_8 rfl hl (by decide) rfl (fun ls hl => ?_)
    refine lv_aload_nN hx hb d_S_waits_9 rfl (lv_at hl 0 rfl) ?_
    refine lv_ifnonnullN hx hb d_S_waits_10 ?_
    refine lv_iconst (v := (-1)) hx hb d_S_waits_13 (by decide) ?_
    refine lv_goto (tgt := 21) hx hb d_S_waits_14 (by decide) ?_
    exact ye_i hI () (by unfold a_waits; rw [yin_no hno]) hw d_S_waits_21
  · have h9 : (9, 0, j) ∈ LL := hL _ ⟨by omega, hj⟩
    have h10 : (10, 0, j) ∈ LL := hL _ ⟨by omega, hj⟩
    have hjn : yin (nI j) (s_nc σ 0) = some j := yin_some hj (by omega)
    obtain ⟨b1, b2, b3, b4⟩ := hi.2.2.2.1 j
    refine y_ofW (cc := b_S_waits) (maxL := 3) (ret := (some .int)) (by decide) rfl (Nat.le_of_ble_eq_true rfl) ?_
    intro pv ev sv mv bv tv cv ls hI hsz hw hl
    obtain ⟨hx, hb, hr, hml, hts, hown, hlocks, hnm, hK, hAb, hb0, hA⟩ := id hI
    have ht : ∀ w ∈ lg_tbl, w.before _ sv = true := fun w h => hts w (List.mem_cons_of_mem _ h)
    have hl : lv_has ls 3 [(0, .ref (ad (0, 0, 0))), (1, .int (nI j))] := hl
    refine lv_aload_n hx hb d_S_waits_0 rfl (lv_at hl 0 rfl) ?_
    refine yr_get (C := R_S) (T := F_S) (N := 3) (ci := k_S) hx hb ht j_S hown hK.1 hw (by assumption) (by rfl) rfl 0 (by decide) (ht _ mf_S_14) (fun _ h9 => h9) (by rfl) d_S_waits_1 ?_
    refine lv_iload_n hx hb d_S_waits_4 rfl (lv_at hl 1 rfl) ?_
    refine yc_q (va_runV (As := [.int _]) (rest := []) ⟨hx, hb, hml, hown, hts⟩ (c_Y_findChannel l D cc ad LL X b0 _ σ hL 0 (by omega) hi j hj) (cwV 1 hts (yg_call mc_Y_findChannel ml_S_66 mm_Y_findChannel ms_Y_findChannel mi_Y) rfl rfl rfl (by decide +kernel) ⟨Nat.le_of_ble_eq_true rfl, Nat.le_of_ble_eq_true rfl⟩) (y_preV hI hw (y_recv hK.1 hw n0 (by rfl) rfl)) rfl rfl hl.1 rfl (lv_room (Nat.le_of_ble_eq_true rfl)) d_S_waits_5 ⟨Nat.le_of_ble_eq_true rfl, Nat.le_of_ble_eq_true rfl⟩) hw hA (fun r u H locs he hw => ?_)
    subst he
    rw [yrf_s]
    refine lv_astore_n (lv' := [(2, .ref _), (0, .ref _), (1, .int _)]) hx hb d_S_waits_8 rfl hl (by decide) rfl (fun ls hl => ?_)
    refine lv_aload_n hx hb d_S_waits_9 rfl (lv_at hl 0 rfl) ?_
    refine lv_ifnonnull (tgt := 17) hx hb d_S_waits_10 (by decide) ?_
    refine lv_aload_n hx hb d_S_waits_17 rfl (lv_at hl 0 rfl) ?_
    refine yc_i (va_runV (As := []) (rest := []) ⟨hx, hb, hml, hown, hts⟩ (c_C_size l D cc ad LL X b0 _ σ 0 j h9 h10) (cwV 0 hts (yg_call mc_C_size ml_S_70 mm_C_size ms_C_size mi_C) rfl rfl rfl (by decide +kernel) ⟨Nat.le_of_ble_eq_true rfl, Nat.le_of_ble_eq_true rfl⟩) (y_preV hI hw (y_recv hK.1 hw h9 (by rfl) rfl)) rfl rfl hl.1 rfl (lv_room (Nat.le_of_ble_eq_true rfl)) d_S_waits_18 ⟨Nat.le_of_ble_eq_true rfl, Nat.le_of_ble_eq_true rfl⟩) hw hA (fun r u H locs he hw => ?_)
    subst he
    exact ye_i hI () (by unfold a_waits; rw [hjn]; show _ = nI (yrq _ _ _).length; rw [yrq_len]) hw d_S_waits_21
set_option maxHeartbeats 4000000 in
set_option maxRecDepth 100000 in
theorem c_S_waiting (l : Launch) (D : va_G) (cc : ClassId × ClassId × ClassId) (ad : yl → Nat) (LL : List yl) (X : va_W) (b0 sz : Nat) (σ : ys) (hL : ∀ q, yL σ q → q ∈ LL) (hJ : yJ σ) (x v : Int32) : Met l y_S_waiting w_S_waiting ({ frames := 1, cells := 0, slots := 0, locals := 21 }) (yPr D cc b0 [.ref (ad (0, 0, 0)), .int x, .int v] (yW cc ad LL X σ) sz) (yQl D (yW cc ad LL X σ) sz (a_waiting (s_nc σ 0) (s_D σ 0) x v) (yW cc ad LL X σ)) 0 0 (va_A (yW cc ad LL X σ) sz) := by
  have o0 : (0, 0, 0) ∈ LL := hL _ ⟨rfl, rfl⟩
  have n0 : (1, 0, 0) ∈ LL := hL _ ⟨by omega, rfl⟩
  have n1 : (1, 1, 0) ∈ LL := hL _ ⟨by omega, rfl⟩
  have hi := hJ.1
  have hi1 := hJ.2.1
  have hn10 := hi.1.1
  have hc16 := hi.2.1
  have hm10 := hi1.1.1
  have hd16 := hi1.2.1
  rcases ysplit x (n := s_nc σ 0) (by omega) with hno | ⟨j, hj, rfl⟩
  · refine y_ofW (cc := b_S_waiting) (maxL := 4) (ret := (some .long)) (by decide) rfl (Nat.le_of_ble_eq_true rfl) ?_
    intro pv ev sv mv bv tv cv ls hI hsz hw hl
    obtain ⟨hx, hb, hr, hml, hts, hown, hlocks, hnm, hK, hAb, hb0, hA⟩ := id hI
    have ht : ∀ w ∈ lg_tbl, w.before _ sv = true := fun w h => hts w (List.mem_cons_of_mem _ h)
    have hl : lv_has ls 4 [(0, .ref (ad (0, 0, 0))), (1, .int x), (2, .int v)] := hl
    refine lv_aload_n hx hb d_S_waiting_0 rfl (lv_at hl 0 rfl) ?_
    refine yr_get (C := R_S) (T := F_S) (N := 3) (ci := k_S) hx hb ht j_S hown hK.1 hw (by assumption) (by rfl) rfl 0 (by decide) (ht _ mf_S_14) (fun _ h9 => h9) (by rfl) d_S_waiting_1 ?_
    refine lv_iload_n hx hb d_S_waiting_4 rfl (lv_at hl 1 rfl) ?_
    refine yc_q (va_runV (As := [.int _]) (rest := []) ⟨hx, hb, hml, hown, hts⟩ (c_Y_findChannel_no l D cc ad LL X b0 _ σ hL 0 (by omega) hi x hno) (cwV 1 hts (yg_call mc_Y_findChannel ml_S_66 mm_Y_findChannel ms_Y_findChannel mi_Y) rfl rfl rfl (by decide +kernel) ⟨Nat.le_of_ble_eq_true rfl, Nat.le_of_ble_eq_true rfl⟩) (y_preV hI hw (y_recv hK.1 hw n0 (by rfl) rfl)) rfl rfl hl.1 rfl (lv_room (Nat.le_of_ble_eq_true rfl)) d_S_waiting_5 ⟨Nat.le_of_ble_eq_true rfl, Nat.le_of_ble_eq_true rfl⟩) hw hA (fun r u H locs he hw => ?_)
    subst he
    rw [yrf_n]
    refine lv_astore_nN (lv' := [(3, .null), (0, .ref _), (1, .int _), (2, .int _)]) hx hb d_S_waiting_8 rfl hl (by decide) rfl (fun ls hl => ?_)
    refine lv_aload_nN hx hb d_S_waiting_9 rfl (lv_at hl 0 rfl) ?_
    refine lv_ifnullN (tgt := 25) hx hb d_S_waiting_10 (by decide) ?_
    refine lv_ldc2 hx hb hown (ht _ mq_S_76) d_S_waiting_25 ?_
    exact ye_l hI () (by unfold a_waiting; rw [yin_no hno]) hw d_S_waiting_28
  · have h9 : (9, 0, j) ∈ LL := hL _ ⟨by omega, hj⟩
    have h10 : (10, 0, j) ∈ LL := hL _ ⟨by omega, hj⟩
    have hjn : yin (nI j) (s_nc σ 0) = some j := yin_some hj (by omega)
    obtain ⟨b1, b2, b3, b4⟩ := hi.2.2.2.1 j
    rcases ysplit v (n := (s_ch σ 0 j).2.2) (by omega) with hno | ⟨t, htt, rfl⟩
    · refine y_ofW (cc := b_S_waiting) (maxL := 4) (ret := (some .long)) (by decide) rfl (Nat.le_of_ble_eq_true rfl) ?_
      intro pv ev sv mv bv tv cv ls hI hsz hw hl
      obtain ⟨hx, hb, hr, hml, hts, hown, hlocks, hnm, hK, hAb, hb0, hA⟩ := id hI
      have ht : ∀ w ∈ lg_tbl, w.before _ sv = true := fun w h => hts w (List.mem_cons_of_mem _ h)
      have hl : lv_has ls 4 [(0, .ref (ad (0, 0, 0))), (1, .int (nI j)), (2, .int v)] := hl
      refine lv_aload_n hx hb d_S_waiting_0 rfl (lv_at hl 0 rfl) ?_
      refine yr_get (C := R_S) (T := F_S) (N := 3) (ci := k_S) hx hb ht j_S hown hK.1 hw (by assumption) (by rfl) rfl 0 (by decide) (ht _ mf_S_14) (fun _ h9 => h9) (by rfl) d_S_waiting_1 ?_
      refine lv_iload_n hx hb d_S_waiting_4 rfl (lv_at hl 1 rfl) ?_
      refine yc_q (va_runV (As := [.int _]) (rest := []) ⟨hx, hb, hml, hown, hts⟩ (c_Y_findChannel l D cc ad LL X b0 _ σ hL 0 (by omega) hi j hj) (cwV 1 hts (yg_call mc_Y_findChannel ml_S_66 mm_Y_findChannel ms_Y_findChannel mi_Y) rfl rfl rfl (by decide +kernel) ⟨Nat.le_of_ble_eq_true rfl, Nat.le_of_ble_eq_true rfl⟩) (y_preV hI hw (y_recv hK.1 hw n0 (by rfl) rfl)) rfl rfl hl.1 rfl (lv_room (Nat.le_of_ble_eq_true rfl)) d_S_waiting_5 ⟨Nat.le_of_ble_eq_true rfl, Nat.le_of_ble_eq_true rfl⟩) hw hA (fun r u H locs he hw => ?_)
      subst he
      rw [yrf_s]
      refine lv_astore_n (lv' := [(3, .ref _), (0, .ref _), (1, .int _), (2, .int _)]) hx hb d_S_waiting_8 rfl hl (by decide) rfl (fun ls hl => ?_)
      refine lv_aload_n hx hb d_S_waiting_9 rfl (lv_at hl 0 rfl) ?_
      refine lv_ifnull hx hb d_S_waiting_10 ?_
      refine lv_iload_n hx hb d_S_waiting_13 rfl (lv_at hl 3 rfl) ?_
      refine lv_if_lt (tgt := 25) hx hb d_S_waiting_14 (by decide) (fun c_14 => ?_) (fun c_14 => ?_)
      · refine lv_ldc2 hx hb hown (ht _ mq_S_76) d_S_waiting_25 ?_
        exact ye_l hI () (by unfold a_waiting; rw [hjn]; exact (wt_no hno).symm) hw d_S_waiting_28
      · refine lv_iload_n hx hb d_S_waiting_17 rfl (lv_at hl 3 rfl) ?_
        refine lv_aload_n hx hb d_S_waiting_18 rfl (lv_at hl 0 rfl) ?_
        refine yc_i (va_runV (As := []) (rest := [.int _]) ⟨hx, hb, hml, hown, hts⟩ (c_C_size l D cc ad LL X b0 _ σ 0 j h9 h10) (cwV 0 hts (yg_call mc_C_size ml_S_70 mm_C_size ms_C_size mi_C) rfl rfl rfl (by decide +kernel) ⟨Nat.le_of_ble_eq_true rfl, Nat.le_of_ble_eq_true rfl⟩) (y_preV hI hw (y_recv hK.1 hw h9 (by rfl) rfl)) rfl rfl hl.1 rfl (lv_room (Nat.le_of_ble_eq_true rfl)) d_S_waiting_19 ⟨Nat.le_of_ble_eq_true rfl, Nat.le_of_ble_eq_true rfl⟩) hw hA (fun r u H locs he hw => ?_)
        subst he
        refine lv_icmp_lt (tgt := 29) hx hb d_S_waiting_22 (by decide) (fun c_22 => by exact (hno.elim (fun h => absurd h c_14) (fun h => absurd c_22 (Int32.not_lt.mpr h)))) (fun c_22 => ?_)
        refine lv_ldc2 hx hb hown (ht _ mq_S_76) d_S_waiting_25 ?_
        exact ye_l hI () (by unfold a_waiting; rw [hjn]; exact (wt_no hno).symm) hw d_S_waiting_28
    · refine y_ofW (cc := b_S_waiting) (maxL := 4) (ret := (some .long)) (by decide) rfl (Nat.le_of_ble_eq_true rfl) ?_
      intro pv ev sv mv bv tv cv ls hI hsz hw hl
      obtain ⟨hx, hb, hr, hml, hts, hown, hlocks, hnm, hK, hAb, hb0, hA⟩ := id hI
      have ht : ∀ w ∈ lg_tbl, w.before _ sv = true := fun w h => hts w (List.mem_cons_of_mem _ h)
      have hl : lv_has ls 4 [(0, .ref (ad (0, 0, 0))), (1, .int (nI j)), (2, .int (nI t))] := hl
      refine lv_aload_n hx hb d_S_waiting_0 rfl (lv_at hl 0 rfl) ?_
      refine yr_get (C := R_S) (T := F_S) (N := 3) (ci := k_S) hx hb ht j_S hown hK.1 hw (by assumption) (by rfl) rfl 0 (by decide) (ht _ mf_S_14) (fun _ h9 => h9) (by rfl) d_S_waiting_1 ?_
      refine lv_iload_n hx hb d_S_waiting_4 rfl (lv_at hl 1 rfl) ?_
      refine yc_q (va_runV (As := [.int _]) (rest := []) ⟨hx, hb, hml, hown, hts⟩ (c_Y_findChannel l D cc ad LL X b0 _ σ hL 0 (by omega) hi j hj) (cwV 1 hts (yg_call mc_Y_findChannel ml_S_66 mm_Y_findChannel ms_Y_findChannel mi_Y) rfl rfl rfl (by decide +kernel) ⟨Nat.le_of_ble_eq_true rfl, Nat.le_of_ble_eq_true rfl⟩) (y_preV hI hw (y_recv hK.1 hw n0 (by rfl) rfl)) rfl rfl hl.1 rfl (lv_room (Nat.le_of_ble_eq_true rfl)) d_S_waiting_5 ⟨Nat.le_of_ble_eq_true rfl, Nat.le_of_ble_eq_true rfl⟩) hw hA (fun r u H locs he hw => ?_)
      subst he
      rw [yrf_s]
      refine lv_astore_n (lv' := [(3, .ref _), (0, .ref _), (1, .int _), (2, .int _)]) hx hb d_S_waiting_8 rfl hl (by decide) rfl (fun ls hl => ?_)
      refine lv_aload_n hx hb d_S_waiting_9 rfl (lv_at hl 0 rfl) ?_
      refine lv_ifnull hx hb d_S_waiting_10 ?_
      refine lv_iload_n hx hb d_S_waiting_13 rfl (lv_at hl 3 rfl) ?_
      refine lv_if_lt (tgt := 25) hx hb d_S_waiting_14 (by decide) (fun c_14 => by exact absurd c_14 (nI_pos (by omega))) (fun c_14 => ?_)
      refine lv_iload_n hx hb d_S_waiting_17 rfl (lv_at hl 3 rfl) ?_
      refine lv_aload_n hx hb d_S_waiting_18 rfl (lv_at hl 0 rfl) ?_
      refine yc_i (va_runV (As := []) (rest := [.int _]) ⟨hx, hb, hml, hown, hts⟩ (c_C_size l D cc ad LL X b0 _ σ 0 j h9 h10) (cwV 0 hts (yg_call mc_C_size ml_S_70 mm_C_size ms_C_size mi_C) rfl rfl rfl (by decide +kernel) ⟨Nat.le_of_ble_eq_true rfl, Nat.le_of_ble_eq_true rfl⟩) (y_preV hI hw (y_recv hK.1 hw h9 (by rfl) rfl)) rfl rfl hl.1 rfl (lv_room (Nat.le_of_ble_eq_true rfl)) d_S_waiting_19 ⟨Nat.le_of_ble_eq_true rfl, Nat.le_of_ble_eq_true rfl⟩) hw hA (fun r u H locs he hw => ?_)
      subst he
      refine lv_icmp_lt (tgt := 29) hx hb d_S_waiting_22 (by decide) (fun c_22 => ?_) (fun c_22 => by exact absurd (nI_lt htt (by omega)) c_22)
      refine lv_aload_n hx hb d_S_waiting_29 rfl (lv_at hl 0 rfl) ?_
      refine lv_iload_n hx hb d_S_waiting_30 rfl (lv_at hl 3 rfl) ?_
      refine yc_i (va_runV (As := [.int _]) (rest := []) ⟨hx, hb, hml, hown, hts⟩ (c_C_peek l D cc ad LL X b0 _ σ 0 j h9 h10 ⟨by omega, by omega, by omega⟩ t (by omega)) (cwV 1 hts (yg_call mc_C_peek ml_S_78 mm_C_peek ms_C_peek mi_C) rfl rfl rfl (by decide +kernel) ⟨Nat.le_of_ble_eq_true rfl, Nat.le_of_ble_eq_true rfl⟩) (y_preV hI hw (y_recv hK.1 hw h9 (by rfl) rfl)) rfl rfl hl.1 rfl (lv_room (Nat.le_of_ble_eq_true rfl)) d_S_waiting_31 ⟨Nat.le_of_ble_eq_true rfl, Nat.le_of_ble_eq_true rfl⟩) hw hA (fun r u H locs he hw => ?_)
      subst he
      refine lv_i2l hx hb d_S_waiting_34 rfl ?_
      exact ye_l hI () (by unfold a_waiting; rw [hjn]; exact (wt_yes htt (by omega)).symm) hw d_S_waiting_35
end
section
/-! THE FACE: act, run, value, settled, what will be at last -/
def a_actD (T : yp_T) (d : yp_D) (x : Int32) : yp_D := match yin x (yp_n T) with
  | none => d
  | some j => if yp_canb T d j = true then yp_act T d j else d
def a_run (T : yp_T) (d : yp_D) (x0 : Int64) (x : Int32) : Int32 × yp_D := if x < 0 ∨ nI 2000 < x then (-1, d) else (nI (yp_run T x.toNatClampNeg x0 d).2, (yp_run T x.toNatClampNeg x0 d).1)
theorem yrsplit (x : Int32) : (x < 0 ∨ nI 2000 < x) ∨ ∃ k, k ≤ 2000 ∧ x = nI k := by
  rcases ysplit x (n := 2001) (by omega) with (h | h) | ⟨k, hk, e⟩
  · exact Or.inl (Or.inl h)
  · exact Or.inl (Or.inr (by
      rw [Int32.le_iff_toInt_le, nI_toInt (by omega)] at h
      rw [Int32.lt_iff_toInt_lt, nI_toInt (by omega)]
      omega))
  · exact Or.inr ⟨k, by omega, e⟩
theorem yrno {k : Nat} (hk : k ≤ 2000) : ¬ (nI k < 0 ∨ nI 2000 < nI k) := fun q => q.elim (fun a => nI_pos (by omega) a) (fun a => nI_nlt hk (by omega) a)
def a_val (T : yp_T) (x : Int32) : Int32 := match yin x (yp_n T) with
  | none => 0
  | some j => if yp_kd T j = 0 then yb (decide ((yp_sr T j).length < 20)) else 0
def a_valT (T : yp_T) (x v : Int32) : yp_T := match yin x (yp_n T) with
  | none => T
  | some j => if yp_kd T j = 0 ∧ (yp_sr T j).length < 20 then (T.1, T.2.1, T.2.2.1, T.2.2.2.1, T.2.2.2.2.1, T.2.2.2.2.2.1, T.2.2.2.2.2.2.1, va_up (yp_sr T) j (yp_sr T j ++ [v])) else T
theorem L_cnt {σ σ' : ys} (h : σ'.2.1 = σ.2.1) {LL : List yl} (hL : ∀ q, yL σ q → q ∈ LL) : ∀ q, yL σ' q → q ∈ LL := by
  intro q hq
  apply hL q
  have e1 : ∀ y, s_n σ' y = s_n σ y := fun y => by unfold s_n; rw [h]
  have e2 : ∀ y, s_nc σ' y = s_nc σ y := fun y => by unfold s_nc; rw [h]
  obtain ⟨f, y', i'⟩ := q
  match f, hq with
  | 0, hq => exact hq
  | 1, hq => exact hq
  | 2, hq => exact hq
  | 3, hq => exact hq
  | 4, hq => exact hq
  | 5, hq => exact ⟨hq.1, by rw [← e1]; exact hq.2⟩
  | 6, hq => exact ⟨hq.1, by rw [← e1]; exact hq.2⟩
  | 7, hq => exact ⟨hq.1, by rw [← e1]; exact hq.2⟩
  | 8, hq => exact ⟨hq.1, by rw [← e1]; exact hq.2⟩
  | 9, hq => exact ⟨hq.1, by rw [← e2]; exact hq.2⟩
  | 10, hq => exact ⟨hq.1, by rw [← e2]; exact hq.2⟩
theorem E_of {σ : ys} (hc : s_nc σ 1 = s_nc σ 0) (hT : s_T σ 1 = s_T σ 0) : yE σ 1 0 := by
  refine ⟨congrArg (fun T : yp_T => T.1) hT, hc, fun i => ⟨congrFun (congrArg (fun T : yp_T => T.2.1) hT) i, congrFun (congrArg (fun T : yp_T => T.2.2.1) hT) i, congrFun (congrArg (fun T : yp_T => T.2.2.2.1) hT) i⟩, congrArg (fun T : yp_T => T.2.2.2.2.1) hT, congrArg (fun T : yp_T => T.2.2.2.2.2.1) hT, fun c => congrFun (congrArg (fun T : yp_T => T.2.2.2.2.2.2.1) hT) c⟩
theorem E_keep {σ σ' : ys} (hX : yX σ 0 σ') (hT : s_T σ' 0 = s_T σ 0) (hE : yE σ 1 0) : yE σ' 1 0 := by
  obtain ⟨e1, e2, e3, e4, e5, e6⟩ := hE
  obtain ⟨a1, a2, a3, a4, a5, a6⟩ := hX.2.2 1 (by omega)
  refine ⟨by rw [hX.sn, hX.sn]; exact e1, by rw [hX.snc, hX.snc]; exact e2, fun i => ?_, ?_, ?_, fun c => ?_⟩
  · rw [a1]
    have q1 : (s_ac σ' 0 i).1 = (s_ac σ 0 i).1 := congrFun (congrArg (fun T : yp_T => T.2.1) hT) i
    have q2 : (s_ac σ' 0 i).2.1 = (s_ac σ 0 i).2.1 := congrFun (congrArg (fun T : yp_T => T.2.2.1) hT) i
    have q3 : (s_ac σ' 0 i).2.2.1 = (s_ac σ 0 i).2.2.1 := congrFun (congrArg (fun T : yp_T => T.2.2.2.1) hT) i
    rw [q1, q2, q3]
    exact e3 i
  · rw [a2, show s_ic σ' 0 = s_ic σ 0 from congrArg (fun T : yp_T => T.2.2.2.2.1) hT]; exact e4
  · rw [a3, show s_oc σ' 0 = s_oc σ 0 from congrArg (fun T : yp_T => T.2.2.2.2.2.1) hT]; exact e5
  · rw [a5, show (s_ch σ' 0 c).1 = (s_ch σ 0 c).1 from congrFun (congrArg (fun T : yp_T => T.2.2.2.2.2.2.1) hT) c]; exact e6 c
theorem J_path {σ σ' : ys} {m : Nat} (hX : yX σ 0 σ') (hT : s_T σ' 0 = s_T σ 0) (hI : yI σ' 0) (hp : yp_path (s_T σ 0) m (s_D σ 0) (s_D σ' 0)) (hJ : yJ σ) : yJ σ' := by
  obtain ⟨j1, j2, j3, j4⟩ := hJ
  refine ⟨hI, hX.I (by omega) j2, E_keep hX hT j3, ?_⟩
  rw [hX.1, hX.sT (show (1 : Nat) ≠ 0 by omega), hX.sD (show (1 : Nat) ≠ 0 by omega), hT]
  rcases j4 with h | ⟨h, hT1, hF⟩
  · exact Or.inl h
  · exact Or.inr ⟨h, hT1, yp_fin_fwd j1.2.2.2.2.2.2 hp hF⟩
theorem val_J {σ : ys} {j : Nat} {v : Int32} (hJ : yJ σ) (hj : j < s_n σ 0) (hk : (s_ac σ 0 j).1 = 0) (ht : (s_ac σ 0 j).2.2.2.1 < 20) : yJ (sx_fl (yo_tell σ 0 j v) 0 0 0) ∧ s_T (sx_fl (yo_tell σ 0 j v) 0 0 0) 0 = ((s_T σ 0).1, (s_T σ 0).2.1, (s_T σ 0).2.2.1, (s_T σ 0).2.2.2.1, (s_T σ 0).2.2.2.2.1, (s_T σ 0).2.2.2.2.2.1, (s_T σ 0).2.2.2.2.2.2.1, va_up (yp_sr (s_T σ 0)) j (yp_sr (s_T σ 0) j ++ [v])) ∧ s_D (sx_fl (yo_tell σ 0 j v) 0 0 0) 0 = s_D σ 0 := by
  generalize hσ : sx_fl (yo_tell σ 0 j v) 0 0 0 = σ'
  have hac : ∀ i, s_ac σ' 0 i = if i = j then ((s_ac σ 0 j).1, (s_ac σ 0 j).2.1, (s_ac σ 0 j).2.2.1, (s_ac σ 0 j).2.2.2.1 + 1, (s_ac σ 0 j).2.2.2.2) else s_ac σ 0 i := fun i => by rw [← hσ]; exact s_ac_at
  have hrw : ∀ i, s_rw σ' 0 i = if i = j then upd (s_rw σ 0 j) (s_ac σ 0 j).2.2.2.1 v else s_rw σ 0 i := fun i => by rw [← hσ]; exact s_rw_at
  have hk1 : ∀ i, (s_ac σ' 0 i).1 = (s_ac σ 0 i).1 ∧ (s_ac σ' 0 i).2.1 = (s_ac σ 0 i).2.1 ∧ (s_ac σ' 0 i).2.2.1 = (s_ac σ 0 i).2.2.1 ∧ (s_ac σ' 0 i).2.2.2.2 = (s_ac σ 0 i).2.2.2.2 := fun i => by
    rw [hac]
    by_cases h : i = j
    · rw [if_pos h, h]; exact ⟨rfl, rfl, rfl, rfl⟩
    · rw [if_neg h]; exact ⟨rfl, rfl, rfl, rfl⟩
  have hcn : σ'.2.1 = σ.2.1 := by rw [← hσ]; rfl
  have hic : s_ic σ' = s_ic σ := by rw [← hσ]; rfl
  have hoc : s_oc σ' = s_oc σ := by rw [← hσ]; rfl
  have hch : s_ch σ' = s_ch σ := by rw [← hσ]; rfl
  have hrg : s_rg σ' = s_rg σ := by rw [← hσ]; rfl
  have h1 : s_ac σ' 1 = s_ac σ 1 := by rw [← hσ]; exact ((yX_rw.tr yX_ac : yX σ 0 (yo_tell σ 0 j v)).2.2 1 (by omega)).1
  have h2 : s_rw σ' 1 = s_rw σ 1 := by rw [← hσ]; exact ((yX_rw.tr yX_ac : yX σ 0 (yo_tell σ 0 j v)).2.2 1 (by omega)).2.2.2.1
  have hn : ∀ y, s_n σ' y = s_n σ y := fun y => by unfold s_n; rw [hcn]
  have hnc : ∀ y, s_nc σ' y = s_nc σ y := fun y => by unfold s_nc; rw [hcn]
  have hT : s_T σ' 0 = ((s_T σ 0).1, (s_T σ 0).2.1, (s_T σ 0).2.2.1, (s_T σ 0).2.2.2.1, (s_T σ 0).2.2.2.2.1, (s_T σ 0).2.2.2.2.2.1, (s_T σ 0).2.2.2.2.2.2.1, va_up (yp_sr (s_T σ 0)) j (yp_sr (s_T σ 0) j ++ [v])) := by
    have e1 : (fun i => (s_ac σ' 0 i).1) = fun i => (s_ac σ 0 i).1 := funext fun i => (hk1 i).1
    have e2 : (fun i => (s_ac σ' 0 i).2.1) = fun i => (s_ac σ 0 i).2.1 := funext fun i => (hk1 i).2.1
    have e3 : (fun i => (s_ac σ' 0 i).2.2.1) = fun i => (s_ac σ 0 i).2.2.1 := funext fun i => (hk1 i).2.2.1
    have e4 : (fun i => yrw (s_rw σ' 0 i) (s_ac σ' 0 i).2.2.2.1) = va_up (yp_sr (s_T σ 0)) j (yp_sr (s_T σ 0) j ++ [v]) := by
      funext i
      rw [hac, hrw]
      unfold va_up
      by_cases h : i = j
      · rw [if_pos h, if_pos h, if_pos h]
        exact yrw_push
      · rw [if_neg h, if_neg h, if_neg h]; rfl
    unfold s_T
    rw [e1, e2, e3, e4, hic, hoc, hch, hn]
    rfl
  have hD : s_D σ' 0 = s_D σ 0 := by
    have e1 : (fun i => (s_ac σ' 0 i).2.2.2.2) = fun i => (s_ac σ 0 i).2.2.2.2 := funext fun i => (hk1 i).2.2.2
    have e2 : (fun i => if (s_ac σ' 0 i).1 = 6 then yrw (s_rw σ' 0 i) (s_ac σ' 0 i).2.2.2.2 else []) = fun i => if (s_ac σ 0 i).1 = 6 then yrw (s_rw σ 0 i) (s_ac σ 0 i).2.2.2.2 else [] := by
      funext i
      rw [(hk1 i).1, (hk1 i).2.2.2, hrw]
      by_cases h : i = j
      · rw [h, hk, if_neg (by omega), if_neg (by omega)]
      · rw [if_neg h]
    unfold s_D
    rw [e1, e2, hch, hrg]
  obtain ⟨j1, j2, j3, j4⟩ := hJ
  refine ⟨⟨?_, ?_, ?_, Or.inl (by rw [← hσ]; show up2 (s_fl (yo_tell σ 0 j v)) 0 0 0 0 0 = 0; exact up2_s _ _ _ _)⟩, hT, hD⟩
  · obtain ⟨b1, b2, b3, b4, b5, b6, b7⟩ := j1
    refine ⟨⟨by rw [hn]; exact b1.1, fun i hi => ?_, fun c hc => by rw [hch]; exact b1.2.2 c (by rw [← hnc]; exact hc)⟩, by rw [hnc]; exact b2, fun i => ?_, by rw [hch]; exact b4, fun i k c e => ?_, fun i k c e => ?_, wf_io (by rw [hic]) (by rw [hoc]) b7⟩
    · rw [hn] at hi
      rw [hac, if_neg (by omega)]
      exact b1.2.1 i hi
    · obtain ⟨c1, c2, c3, c4, c5⟩ := b3 i
      rw [hac]
      by_cases h : i = j
      · rw [if_pos h]
        rw [h] at c1 c2 c3 c4 c5
        exact ⟨c1, ht, fun q => absurd hk q, c4, c5⟩
      · rw [if_neg h]; exact ⟨c1, c2, c3, c4, c5⟩
    · rw [hic] at e
      rw [(hk1 i).1, hn, hnc]
      exact b5 i k c e
    · rw [hoc] at e
      rw [(hk1 i).1, hn, hnc]
      exact b6 i k c e
  · unfold yI
    rw [hn, hnc, h1, hch, hic, hoc]
    have e : s_T σ' 1 = s_T σ 1 := by unfold s_T; rw [hn, h1, h2, hic, hoc, hch]
    rw [e]
    exact j2
  · obtain ⟨e1, e2, e3, e4, e5, e6⟩ := j3
    refine ⟨by rw [hn, hn]; exact e1, by rw [hnc, hnc]; exact e2, fun i => ?_, by rw [hic]; exact e4, by rw [hoc]; exact e5, by rw [hch]; exact e6⟩
    rw [h1, (hk1 i).1, (hk1 i).2.1, (hk1 i).2.2.1]
    exact e3 i
/-- the second yard is how all ends; the first is as it was -/
def ySt (σ σ' : ys) : Prop := yJ σ' ∧ σ'.2.1 = σ.2.1 ∧ s_fl σ' 0 0 = 1 ∧ s_T σ' 0 = s_T σ 0 ∧ s_D σ' 0 = s_D σ 0
theorem St_fin {σ u : ys} (h : ySt σ u) : s_T u 1 = s_T σ 0 ∧ yp_fin (s_T σ 0) (s_D σ 0) (s_D u 1) := by
  obtain ⟨j, c, f, T, D⟩ := h
  rcases j.2.2.2 with h0 | ⟨h1, h2, h3⟩
  · rw [f] at h0; exact absurd h0 (by decide)
  · rw [T] at h2 h3
    rw [D] at h3
    exact ⟨h2, h3⟩
theorem set_J {σ u1 u2 : ys} (hJ : yJ σ) (x1 : yX σ 1 u1) (x2 : s_T u1 1 = s_T σ 0) (x3 : s_D u1 1 = s_D σ 0) (z1 : yX u1 1 u2) (z2 : s_T u2 1 = s_T u1 1) (z3 : yI u2 1) (z4 : yp_fin (s_T u1 1) (s_D u1 1) (s_D u2 1)) : ySt σ (sx_fl u2 0 0 1) := by
  have hX := x1.tr z1
  have hT0 : s_T u2 0 = s_T σ 0 := hX.sT (by omega)
  have hD0 : s_D u2 0 = s_D σ 0 := hX.sD (by omega)
  have hT1 : s_T u2 1 = s_T u2 0 := by rw [hT0, z2, x2]
  have hf : s_fl (sx_fl u2 0 0 1) 0 0 = 1 := by
    show up2 (s_fl u2) 0 0 1 0 0 = 1
    exact up2_s _ _ _ _
  refine ⟨⟨hX.I (by omega) hJ.1, z3, ?_, Or.inr ⟨hf, hT1, ?_⟩⟩, hX.2.1, hf, hT0, hD0⟩
  · exact E_of (σ := u2) (by rw [hX.snc, hX.snc]; exact hJ.2.2.1.2.1) hT1
  · show yp_fin (s_T u2 0) (s_D u2 0) (s_D u2 1)
    rw [x2, x3] at z4
    rw [hT0, hD0]
    exact z4
theorem full_eq (σ : ys) {y : Nat} (x : Int32) : yff (fun c => decide ((s_ch σ y c).1 ≤ (s_ch σ y c).2.2)) x (s_nc σ y) 0 0 = a_full (s_T σ y) (s_nc σ y) (s_D σ y) x := by
  unfold a_full
  have e : (fun c => decide ((s_ch σ y c).1 ≤ (s_ch σ y c).2.2)) = fun c => decide (yp_rm (s_T σ y) c ≤ ((s_D σ y).2.2 c).length) := by
    funext c
    show _ = decide ((s_ch σ y c).1 ≤ (yrq _ _ _).length)
    rw [yrq_len]
  rw [e]
set_option maxHeartbeats 4000000 in
set_option maxRecDepth 100000 in
/-- act -/
theorem c_S_act (l : Launch) (D : va_G) (cc : ClassId × ClassId × ClassId) (ad : yl → Nat) (LL : List yl) (X : va_W) (b0 sz : Nat) (σ : ys) (hL : ∀ q, yL σ q → q ∈ LL) (hJ : yJ σ) (x : Int32) : Met l y_S_act w_S_act ({ frames := 3, cells := 0, slots := 0, locals := 67 }) (yPr D cc b0 [.ref (ad (0, 0, 0)), .int x] (yW cc ad LL X σ) sz) (va_Qi (fun r σ' => r = a_can (s_T σ 0) (s_D σ 0) x ∧ yJ σ' ∧ σ'.2.1 = σ.2.1 ∧ s_T σ' 0 = s_T σ 0 ∧ s_D σ' 0 = a_actD (s_T σ 0) (s_D σ 0) x) (yB D ycl (yW cc ad LL X σ) sz (fun σ' => yW cc ad LL X σ')) (va_A (yW cc ad LL X σ) sz)) 0 0 (va_A (yW cc ad LL X σ) sz) := by
  have o0 : (0, 0, 0) ∈ LL := hL _ ⟨rfl, rfl⟩
  have n0 : (1, 0, 0) ∈ LL := hL _ ⟨by omega, rfl⟩
  have n1 : (1, 1, 0) ∈ LL := hL _ ⟨by omega, rfl⟩
  have hi := hJ.1
  have hi1 := hJ.2.1
  have hn10 := hi.1.1
  have hc16 := hi.2.1
  have hm10 := hi1.1.1
  have hd16 := hi1.2.1
  rcases ysplit x (n := s_n σ 0) (by omega) with hno | ⟨j, hj, rfl⟩
  · refine y_ofW (cc := b_S_act) (maxL := 3) (ret := (some .boolean)) (by decide) rfl (Nat.le_of_ble_eq_true rfl) ?_
    intro pv ev sv mv bv tv cv ls hI hsz hw hl
    obtain ⟨hx, hb, hr, hml, hts, hown, hlocks, hnm, hK, hAb, hb0, hA⟩ := id hI
    have ht : ∀ w ∈ lg_tbl, w.before _ sv = true := fun w h => hts w (List.mem_cons_of_mem _ h)
    have hl : lv_has ls 3 [(0, .ref (ad (0, 0, 0))), (1, .int x)] := hl
    refine lv_aload_n hx hb d_S_act_0 rfl (lv_at hl 0 rfl) ?_
    refine yr_get (C := R_S) (T := F_S) (N := 3) (ci := k_S) hx hb ht j_S hown hK.1 hw (by assumption) (by rfl) rfl 0 (by decide) (ht _ mf_S_14) (fun _ h9 => h9) (by rfl) d_S_act_1 ?_
    refine lv_iload_n hx hb d_S_act_4 rfl (lv_at hl 1 rfl) ?_
    refine yc_q (va_runV (As := [.int _]) (rest := []) ⟨hx, hb, hml, hown, hts⟩ (c_Y_findActor_no l D cc ad LL X b0 _ σ hL 0 (by omega) hi x hno) (cwV 1 hts (yg_call mc_Y_findActor ml_S_43 mm_Y_findActor ms_Y_findActor mi_Y) rfl rfl rfl (by decide +kernel) ⟨Nat.le_of_ble_eq_true rfl, Nat.le_of_ble_eq_true rfl⟩) (y_preV hI hw (y_recv hK.1 hw n0 (by rfl) rfl)) rfl rfl hl.1 rfl (lv_room (Nat.le_of_ble_eq_true rfl)) d_S_act_5 ⟨Nat.le_of_ble_eq_true rfl, Nat.le_of_ble_eq_true rfl⟩) hw hA (fun r u H locs he hw => ?_)
    subst he
    rw [yrf_n]
    refine lv_astore_nN (lv' := [(2, .null), (0, .ref _), (1, .int _)]) hx hb d_S_act_8 rfl hl (by decide) rfl (fun ls hl => ?_)
    refine lv_aload_nN hx hb d_S_act_9 rfl (lv_at hl 0 rfl) ?_
    refine lv_ifnullN (tgt := 20) hx hb d_S_act_10 (by decide) ?_
    refine lv_iconst (v := 0) hx hb d_S_act_20 (by decide) ?_
    exact ye_z hI (by decide) σ ⟨by unfold a_can; rw [yin_no (show x < 0 ∨ nI (yp_n (s_T σ 0)) ≤ x from hno)], hJ, rfl, rfl, by unfold a_actD; rw [yin_no (show x < 0 ∨ nI (yp_n (s_T σ 0)) ≤ x from hno)]⟩ hw d_S_act_21
  · have h5 : (5, 0, j) ∈ LL := hL _ ⟨by omega, hj⟩
    have hjn : yin (nI j) (yp_n (s_T σ 0)) = some j := yin_some hj (by show s_n σ 0 < _; omega)
    refine y_ofW (cc := b_S_act) (maxL := 3) (ret := (some .boolean)) (by decide) rfl (Nat.le_of_ble_eq_true rfl) ?_
    intro pv ev sv mv bv tv cv ls hI hsz hw hl
    obtain ⟨hx, hb, hr, hml, hts, hown, hlocks, hnm, hK, hAb, hb0, hA⟩ := id hI
    have ht : ∀ w ∈ lg_tbl, w.before _ sv = true := fun w h => hts w (List.mem_cons_of_mem _ h)
    have hl : lv_has ls 3 [(0, .ref (ad (0, 0, 0))), (1, .int (nI j))] := hl
    refine lv_aload_n hx hb d_S_act_0 rfl (lv_at hl 0 rfl) ?_
    refine yr_get (C := R_S) (T := F_S) (N := 3) (ci := k_S) hx hb ht j_S hown hK.1 hw (by assumption) (by rfl) rfl 0 (by decide) (ht _ mf_S_14) (fun _ h9 => h9) (by rfl) d_S_act_1 ?_
    refine lv_iload_n hx hb d_S_act_4 rfl (lv_at hl 1 rfl) ?_
    refine yc_q (va_runV (As := [.int _]) (rest := []) ⟨hx, hb, hml, hown, hts⟩ (c_Y_findActor l D cc ad LL X b0 _ σ hL 0 (by omega) hi j hj) (cwV 1 hts (yg_call mc_Y_findActor ml_S_43 mm_Y_findActor ms_Y_findActor mi_Y) rfl rfl rfl (by decide +kernel) ⟨Nat.le_of_ble_eq_true rfl, Nat.le_of_ble_eq_true rfl⟩) (y_preV hI hw (y_recv hK.1 hw n0 (by rfl) rfl)) rfl rfl hl.1 rfl (lv_room (Nat.le_of_ble_eq_true rfl)) d_S_act_5 ⟨Nat.le_of_ble_eq_true rfl, Nat.le_of_ble_eq_true rfl⟩) hw hA (fun r u H locs he hw => ?_)
    subst he
    rw [yrf_s]
    refine lv_astore_n (lv' := [(2, .ref _), (0, .ref _), (1, .int _)]) hx hb d_S_act_8 rfl hl (by decide) rfl (fun ls hl => ?_)
    refine lv_aload_n hx hb d_S_act_9 rfl (lv_at hl 0 rfl) ?_
    refine lv_ifnull hx hb d_S_act_10 ?_
    refine lv_aload_n hx hb d_S_act_13 rfl (lv_at hl 0 rfl) ?_
    refine yc_i (va_runV (As := []) (rest := []) ⟨hx, hb, hml, hown, hts⟩ (c_A_isReady l D cc ad LL X b0 _ σ hL 0 j (by omega) hj hi) (cwV 0 hts (yg_call mc_A_isReady ml_S_47 mm_A_isReady ms_A_isReady mi_A) rfl rfl rfl (by decide +kernel) ⟨Nat.le_of_ble_eq_true rfl, Nat.le_of_ble_eq_true rfl⟩) (y_preV hI hw (y_recv hK.1 hw h5 (by rfl) rfl)) rfl rfl hl.1 rfl (lv_room (Nat.le_of_ble_eq_true rfl)) d_S_act_14 ⟨Nat.le_of_ble_eq_true rfl, Nat.le_of_ble_eq_true rfl⟩) hw hA (fun r u H locs he hw => ?_)
    subst he
    refine lv_if_ne (tgt := 22) hx hb d_S_act_17 (by decide) (fun c_17 => ?_) (fun c_17 => ?_)
    · have e1 := yb_1 c_17
      refine lv_aload_n hx hb d_S_act_22 rfl (lv_at hl 0 rfl) ?_
      refine yc_v (va_runV (As := []) (rest := []) ⟨hx, hb, hml, hown, hts⟩ (c_A_step l D cc ad LL X b0 _ σ hL 0 j (by omega) hj hi e1) (cwV 0 hts (yg_call mc_A_step ml_S_51 mm_A_step ms_A_step mi_A) rfl rfl rfl (by decide +kernel) ⟨Nat.le_of_ble_eq_true rfl, Nat.le_of_ble_eq_true rfl⟩) (y_preV hI hw (y_recv hK.1 hw h5 (by rfl) rfl)) rfl rfl hl.1 rfl (lv_room (Nat.le_of_ble_eq_true rfl)) d_S_act_23 ⟨Nat.le_of_ble_eq_true rfl, Nat.le_of_ble_eq_true rfl⟩) hw hA (fun u H locs he hw => ?_)
      refine lv_iconst (v := 1) hx hb d_S_act_26 (by decide) ?_
      exact ye_z hI (by decide) u ⟨by unfold a_can; rw [hjn]; show _ = yb _; rw [e1]; rfl, J_path he.1 he.2.1 he.2.2.2 (he.2.2.1 ▸ yp_path_1 hj e1) hJ, he.1.2.1, he.2.1, by unfold a_actD; rw [hjn]; show _ = if _ then _ else _; rw [if_pos e1]; exact he.2.2.1⟩ hw d_S_act_27
    · have e1 := yb_0 c_17
      refine lv_iconst (v := 0) hx hb d_S_act_20 (by decide) ?_
      exact ye_z hI (by decide) σ ⟨by unfold a_can; rw [hjn]; show _ = yb _; rw [e1]; rfl, hJ, rfl, rfl, by unfold a_actD; rw [hjn]; show _ = if _ then _ else _; rw [if_neg (by rw [e1]; decide)]⟩ hw d_S_act_21
set_option maxHeartbeats 4000000 in
set_option maxRecDepth 100000 in
/-- run -/
theorem c_S_run (l : Launch) (D : va_G) (cc : ClassId × ClassId × ClassId) (ad : yl → Nat) (LL : List yl) (X : va_W) (b0 sz : Nat) (σ : ys) (hL : ∀ q, yL σ q → q ∈ LL) (hJ : yJ σ) (x0 : Int64) (x : Int32) : Met l y_S_run w_S_run ({ frames := 6, cells := 0, slots := 0, locals := 138 }) (yPr D cc b0 [.ref (ad (0, 0, 0)), .long x0, .int x] (yW cc ad LL X σ) sz) (va_Qi (fun r σ' => r = (a_run (s_T σ 0) (s_D σ 0) x0 x).1 ∧ yJ σ' ∧ σ'.2.1 = σ.2.1 ∧ s_T σ' 0 = s_T σ 0 ∧ s_D σ' 0 = (a_run (s_T σ 0) (s_D σ 0) x0 x).2) (yB D ycl (yW cc ad LL X σ) sz (fun σ' => yW cc ad LL X σ')) (va_A (yW cc ad LL X σ) sz)) 0 0 (va_A (yW cc ad LL X σ) sz) := by
  have o0 : (0, 0, 0) ∈ LL := hL _ ⟨rfl, rfl⟩
  have n0 : (1, 0, 0) ∈ LL := hL _ ⟨by omega, rfl⟩
  have n1 : (1, 1, 0) ∈ LL := hL _ ⟨by omega, rfl⟩
  have hi := hJ.1
  have hi1 := hJ.2.1
  have hn10 := hi.1.1
  have hc16 := hi.2.1
  have hm10 := hi1.1.1
  have hd16 := hi1.2.1
  rcases yrsplit x with hno | ⟨k, hk, rfl⟩
  · refine y_ofW (cc := b_S_run) (maxL := 4) (ret := (some .int)) (by decide) rfl (Nat.le_of_ble_eq_true rfl) ?_
    intro pv ev sv mv bv tv cv ls hI hsz hw hl
    obtain ⟨hx, hb, hr, hml, hts, hown, hlocks, hnm, hK, hAb, hb0, hA⟩ := id hI
    have ht : ∀ w ∈ lg_tbl, w.before _ sv = true := fun w h => hts w (List.mem_cons_of_mem _ h)
    have hl : lv_has ls 4 [(0, .ref (ad (0, 0, 0))), (1, .long x0), (3, .int x)] := hl
    refine lv_iload_n hx hb d_S_run_0 rfl (lv_at hl 2 rfl) ?_
    refine lv_if_lt (tgt := 11) hx hb d_S_run_1 (by decide) (fun c_1 => ?_) (fun c_1 => ?_)
    · refine lv_iconst (v := (-1)) hx hb d_S_run_11 (by decide) ?_
      exact ye_i hI σ ⟨by unfold a_run; rw [if_pos hno], hJ, rfl, rfl, by unfold a_run; rw [if_pos hno]⟩ hw d_S_run_12
    · refine lv_iload_n hx hb d_S_run_4 rfl (lv_at hl 2 rfl) ?_
      refine lv_sipush (v := (nI 2000)) hx hb d_S_run_5 (by decide) ?_
      refine lv_icmp_le (tgt := 13) hx hb d_S_run_8 (by decide) (fun c_8 => by exact (hno.elim (fun h => absurd h c_1) (fun h => absurd c_8 (Int32.not_le.mpr h)))) (fun c_8 => ?_)
      refine lv_iconst (v := (-1)) hx hb d_S_run_11 (by decide) ?_
      exact ye_i hI σ ⟨by unfold a_run; rw [if_pos hno], hJ, rfl, rfl, by unfold a_run; rw [if_pos hno]⟩ hw d_S_run_12
  · refine y_ofW (cc := b_S_run) (maxL := 4) (ret := (some .int)) (by decide) rfl (Nat.le_of_ble_eq_true rfl) ?_
    intro pv ev sv mv bv tv cv ls hI hsz hw hl
    obtain ⟨hx, hb, hr, hml, hts, hown, hlocks, hnm, hK, hAb, hb0, hA⟩ := id hI
    have ht : ∀ w ∈ lg_tbl, w.before _ sv = true := fun w h => hts w (List.mem_cons_of_mem _ h)
    have hl : lv_has ls 4 [(0, .ref (ad (0, 0, 0))), (1, .long x0), (3, .int (nI k))] := hl
    refine lv_iload_n hx hb d_S_run_0 rfl (lv_at hl 2 rfl) ?_
    refine lv_if_lt (tgt := 11) hx hb d_S_run_1 (by decide) (fun c_1 => by exact absurd c_1 (nI_pos (by omega))) (fun c_1 => ?_)
    refine lv_iload_n hx hb d_S_run_4 rfl (lv_at hl 2 rfl) ?_
    refine lv_sipush (v := (nI 2000)) hx hb d_S_run_5 (by decide) ?_
    refine lv_icmp_le (tgt := 13) hx hb d_S_run_8 (by decide) (fun c_8 => ?_) (fun c_8 => by exact absurd (nI_le hk (by omega)) c_8)
    refine lv_aload_n hx hb d_S_run_13 rfl (lv_at hl 0 rfl) ?_
    refine yr_get (C := R_S) (T := F_S) (N := 3) (ci := k_S) hx hb ht j_S hown hK.1 hw (by assumption) (by rfl) rfl 0 (by decide) (ht _ mf_S_14) (fun _ h9 => h9) (by rfl) d_S_run_14 ?_
    refine lv_lload_n hx hb d_S_run_17 rfl (lv_at hl 1 rfl) ?_
    refine lv_iload_n hx hb d_S_run_18 rfl (lv_at hl 2 rfl) ?_
    refine yc_i (va_runV (As := [.long _, .int _]) (rest := []) ⟨hx, hb, hml, hown, hts⟩ (c_Y_stepBySeed l D cc ad LL X b0 _ σ hL 0 (by omega) hi x0 k hk) (cwV 2 hts (yg_call mc_Y_stepBySeed ml_S_54 mm_Y_stepBySeed ms_Y_stepBySeed mi_Y) rfl rfl rfl (by decide +kernel) ⟨Nat.le_of_ble_eq_true rfl, Nat.le_of_ble_eq_true rfl⟩) (y_preV hI hw (y_recv hK.1 hw n0 (by rfl) rfl)) rfl rfl hl.1 rfl (lv_room (Nat.le_of_ble_eq_true rfl)) d_S_run_19 ⟨Nat.le_of_ble_eq_true rfl, Nat.le_of_ble_eq_true rfl⟩) hw hA (fun r u H locs he hw => ?_)
    obtain ⟨h1, h2, h3, rfl, h5⟩ := he
    obtain ⟨mm, hmm⟩ := yp_run_path (T := s_T σ 0) k x0 (s_D σ 0)
    exact ye_i hI u ⟨by unfold a_run; rw [if_neg (yrno hk), nI_clamp (by omega)], J_path h1 h2 h3 (h5 ▸ hmm) hJ, h1.2.1, h2, by unfold a_run; rw [if_neg (yrno hk), nI_clamp (by omega)]; exact h5⟩ hw d_S_run_22
set_option maxHeartbeats 4000000 in
set_option maxRecDepth 100000 in
/-- value -/
theorem c_S_value (l : Launch) (D : va_G) (cc : ClassId × ClassId × ClassId) (ad : yl → Nat) (LL : List yl) (X : va_W) (b0 sz : Nat) (σ : ys) (hL : ∀ q, yL σ q → q ∈ LL) (hJ : yJ σ) (x v : Int32) : Met l y_S_value w_S_value ({ frames := 2, cells := 0, slots := 0, locals := 44 }) (yPr D cc b0 [.ref (ad (0, 0, 0)), .int x, .int v] (yW cc ad LL X σ) sz) (va_Qi (fun r σ' => r = a_val (s_T σ 0) x ∧ yJ σ' ∧ σ'.2.1 = σ.2.1 ∧ s_T σ' 0 = a_valT (s_T σ 0) x v ∧ s_D σ' 0 = s_D σ 0) (yB D ycl (yW cc ad LL X σ) sz (fun σ' => yW cc ad LL X σ')) (va_A (yW cc ad LL X σ) sz)) 0 0 (va_A (yW cc ad LL X σ) sz) := by
  have o0 : (0, 0, 0) ∈ LL := hL _ ⟨rfl, rfl⟩
  have n0 : (1, 0, 0) ∈ LL := hL _ ⟨by omega, rfl⟩
  have n1 : (1, 1, 0) ∈ LL := hL _ ⟨by omega, rfl⟩
  have hi := hJ.1
  have hi1 := hJ.2.1
  have hn10 := hi.1.1
  have hc16 := hi.2.1
  have hm10 := hi1.1.1
  have hd16 := hi1.2.1
  rcases ysplit x (n := s_n σ 0) (by omega) with hno | ⟨j, hj, rfl⟩
  · refine y_ofW (cc := b_S_value) (maxL := 4) (ret := (some .boolean)) (by decide) rfl (Nat.le_of_ble_eq_true rfl) ?_
    intro pv ev sv mv bv tv cv ls hI hsz hw hl
    obtain ⟨hx, hb, hr, hml, hts, hown, hlocks, hnm, hK, hAb, hb0, hA⟩ := id hI
    have ht : ∀ w ∈ lg_tbl, w.before _ sv = true := fun w h => hts w (List.mem_cons_of_mem _ h)
    have hl : lv_has ls 4 [(0, .ref (ad (0, 0, 0))), (1, .int x), (2, .int v)] := hl
    refine lv_aload_n hx hb d_S_value_0 rfl (lv_at hl 0 rfl) ?_
    refine yr_get (C := R_S) (T := F_S) (N := 3) (ci := k_S) hx hb ht j_S hown hK.1 hw (by assumption) (by rfl) rfl 0 (by decide) (ht _ mf_S_14) (fun _ h9 => h9) (by rfl) d_S_value_1 ?_
    refine lv_iload_n hx hb d_S_value_4 rfl (lv_at hl 1 rfl) ?_
    refine lv_iconst (v := (nI 0)) hx hb d_S_value_5 (by decide) ?_
    refine yc_q (va_runV (As := [.int _, .int _]) (rest := []) ⟨hx, hb, hml, hown, hts⟩ (c_Y_findKind_no l D cc ad LL X b0 _ σ hL 0 (by omega) hi x hno 0) (cwV 2 hts (yg_call mc_Y_findKind ml_S_29 mm_Y_findKind ms_Y_findKind mi_Y) rfl rfl rfl (by decide +kernel) ⟨Nat.le_of_ble_eq_true rfl, Nat.le_of_ble_eq_true rfl⟩) (y_preV hI hw (y_recv hK.1 hw n0 (by rfl) rfl)) rfl rfl hl.1 rfl (lv_room (Nat.le_of_ble_eq_true rfl)) d_S_value_6 ⟨Nat.le_of_ble_eq_true rfl, Nat.le_of_ble_eq_true rfl⟩) hw hA (fun r u H locs he hw => ?_)
    subst he
    rw [yrf_n]
    refine lv_astore_nN (lv' := [(3, .null), (0, .ref _), (1, .int _), (2, .int _)]) hx hb d_S_value_9 rfl hl (by decide) rfl (fun ls hl => ?_)
    refine lv_aload_nN hx hb d_S_value_10 rfl (lv_at hl 0 rfl) ?_
    refine lv_ifnullN (tgt := 22) hx hb d_S_value_11 (by decide) ?_
    refine lv_iconst (v := 0) hx hb d_S_value_22 (by decide) ?_
    exact ye_z hI (by decide) σ ⟨by unfold a_val; rw [yin_no (show x < 0 ∨ nI (yp_n (s_T σ 0)) ≤ x from hno)], hJ, rfl, by unfold a_valT; rw [yin_no (show x < 0 ∨ nI (yp_n (s_T σ 0)) ≤ x from hno)], rfl⟩ hw d_S_value_23
  · have h5 : (5, 0, j) ∈ LL := hL _ ⟨by omega, hj⟩
    have hjn : yin (nI j) (yp_n (s_T σ 0)) = some j := yin_some hj (by show s_n σ 0 < _; omega)
    by_cases hk0 : (s_ac σ 0 j).1 = 0
    · have hl20 : (yp_sr (s_T σ 0) j).length = (s_ac σ 0 j).2.2.2.1 := ysr_len
      have hr20 : yt_rows (s_ac σ 0 j).1 = 20 := by rw [hk0]; rfl
      by_cases ht2 : (s_ac σ 0 j).2.2.2.1 < 20
      · refine y_ofW (cc := b_S_value) (maxL := 4) (ret := (some .boolean)) (by decide) rfl (Nat.le_of_ble_eq_true rfl) ?_
        intro pv ev sv mv bv tv cv ls hI hsz hw hl
        obtain ⟨hx, hb, hr, hml, hts, hown, hlocks, hnm, hK, hAb, hb0, hA⟩ := id hI
        have ht : ∀ w ∈ lg_tbl, w.before _ sv = true := fun w h => hts w (List.mem_cons_of_mem _ h)
        have hl : lv_has ls 4 [(0, .ref (ad (0, 0, 0))), (1, .int (nI j)), (2, .int v)] := hl
        refine lv_aload_n hx hb d_S_value_0 rfl (lv_at hl 0 rfl) ?_
        refine yr_get (C := R_S) (T := F_S) (N := 3) (ci := k_S) hx hb ht j_S hown hK.1 hw (by assumption) (by rfl) rfl 0 (by decide) (ht _ mf_S_14) (fun _ h9 => h9) (by rfl) d_S_value_1 ?_
        refine lv_iload_n hx hb d_S_value_4 rfl (lv_at hl 1 rfl) ?_
        refine lv_iconst (v := (nI 0)) hx hb d_S_value_5 (by decide) ?_
        refine yc_q (va_runV (As := [.int _, .int _]) (rest := []) ⟨hx, hb, hml, hown, hts⟩ (c_Y_findKind l D cc ad LL X b0 _ σ hL 0 (by omega) hi j hj 0 (by omega) hk0) (cwV 2 hts (yg_call mc_Y_findKind ml_S_29 mm_Y_findKind ms_Y_findKind mi_Y) rfl rfl rfl (by decide +kernel) ⟨Nat.le_of_ble_eq_true rfl, Nat.le_of_ble_eq_true rfl⟩) (y_preV hI hw (y_recv hK.1 hw n0 (by rfl) rfl)) rfl rfl hl.1 rfl (lv_room (Nat.le_of_ble_eq_true rfl)) d_S_value_6 ⟨Nat.le_of_ble_eq_true rfl, Nat.le_of_ble_eq_true rfl⟩) hw hA (fun r u H locs he hw => ?_)
        subst he
        rw [yrf_s]
        refine lv_astore_n (lv' := [(3, .ref _), (0, .ref _), (1, .int _), (2, .int _)]) hx hb d_S_value_9 rfl hl (by decide) rfl (fun ls hl => ?_)
        refine lv_aload_n hx hb d_S_value_10 rfl (lv_at hl 0 rfl) ?_
        refine lv_ifnull hx hb d_S_value_11 ?_
        refine lv_aload_n hx hb d_S_value_14 rfl (lv_at hl 0 rfl) ?_
        refine lv_iload_n hx hb d_S_value_15 rfl (lv_at hl 3 rfl) ?_
        refine yc_i (va_runV (As := [.int _]) (rest := []) ⟨hx, hb, hml, hown, hts⟩ (c_A_tell l D cc ad LL X b0 _ σ hL 0 j (by omega) hj hi v (by rw [hr20]; exact ht2)) (cwV 1 hts (yg_call mc_A_tell ml_S_33 mm_A_tell ms_A_tell mi_A) rfl rfl rfl (by decide +kernel) ⟨Nat.le_of_ble_eq_true rfl, Nat.le_of_ble_eq_true rfl⟩) (y_preV hI hw (y_recv hK.1 hw h5 (by rfl) rfl)) rfl rfl hl.1 rfl (lv_room (Nat.le_of_ble_eq_true rfl)) d_S_value_16 ⟨Nat.le_of_ble_eq_true rfl, Nat.le_of_ble_eq_true rfl⟩) hw hA (fun r u H locs he hw => ?_)
        subst he
        refine lv_if_ne (tgt := 24) hx hb d_S_value_19 (by decide) (fun c_19 => ?_) (fun c_19 => by exact absurd c_19 (by decide))
        refine lv_aload_n hx hb d_S_value_24 rfl (lv_at hl 1 rfl) ?_
        refine lv_iconst (v := 0) hx hb d_S_value_25 (by decide) ?_
        refine yr_put (ty := .boolean) (C := R_S) (T := F_S) (N := 3) (ci := k_S) hx hb ht j_S t_S t_S_ok n_S hown hK.1 hw o0 (by rfl) rfl 2 (by decide) (ht _ mf_S_21) (fun _ h9 => h9) rfl (by decide +kernel) (by decide) (by decide) (Nat.le_of_ble_eq_true rfl) d_S_value_26 (fun H locs hw => ?_)
        have hw := yw_fl 0 hw rfl
        refine lv_iconst (v := 1) hx hb d_S_value_29 (by decide) ?_
        exact ye_z hI (by decide) _ ⟨by unfold a_val; rw [hjn]; show _ = if (s_ac σ 0 j).1 = 0 then yb (decide ((yp_sr (s_T σ 0) j).length < 20)) else 0; rw [if_pos hk0, hl20, decide_eq_true ht2]; rfl, (val_J hJ hj hk0 ht2).1, rfl, by unfold a_valT; rw [hjn]; exact (val_J hJ hj hk0 ht2).2.1.trans (if_pos ⟨hk0, by rw [hl20]; exact ht2⟩).symm, (val_J hJ hj hk0 ht2).2.2⟩ hw d_S_value_30
      · refine y_ofW (cc := b_S_value) (maxL := 4) (ret := (some .boolean)) (by decide) rfl (Nat.le_of_ble_eq_true rfl) ?_
        intro pv ev sv mv bv tv cv ls hI hsz hw hl
        obtain ⟨hx, hb, hr, hml, hts, hown, hlocks, hnm, hK, hAb, hb0, hA⟩ := id hI
        have ht : ∀ w ∈ lg_tbl, w.before _ sv = true := fun w h => hts w (List.mem_cons_of_mem _ h)
        have hl : lv_has ls 4 [(0, .ref (ad (0, 0, 0))), (1, .int (nI j)), (2, .int v)] := hl
        refine lv_aload_n hx hb d_S_value_0 rfl (lv_at hl 0 rfl) ?_
        refine yr_get (C := R_S) (T := F_S) (N := 3) (ci := k_S) hx hb ht j_S hown hK.1 hw (by assumption) (by rfl) rfl 0 (by decide) (ht _ mf_S_14) (fun _ h9 => h9) (by rfl) d_S_value_1 ?_
        refine lv_iload_n hx hb d_S_value_4 rfl (lv_at hl 1 rfl) ?_
        refine lv_iconst (v := (nI 0)) hx hb d_S_value_5 (by decide) ?_
        refine yc_q (va_runV (As := [.int _, .int _]) (rest := []) ⟨hx, hb, hml, hown, hts⟩ (c_Y_findKind l D cc ad LL X b0 _ σ hL 0 (by omega) hi j hj 0 (by omega) hk0) (cwV 2 hts (yg_call mc_Y_findKind ml_S_29 mm_Y_findKind ms_Y_findKind mi_Y) rfl rfl rfl (by decide +kernel) ⟨Nat.le_of_ble_eq_true rfl, Nat.le_of_ble_eq_true rfl⟩) (y_preV hI hw (y_recv hK.1 hw n0 (by rfl) rfl)) rfl rfl hl.1 rfl (lv_room (Nat.le_of_ble_eq_true rfl)) d_S_value_6 ⟨Nat.le_of_ble_eq_true rfl, Nat.le_of_ble_eq_true rfl⟩) hw hA (fun r u H locs he hw => ?_)
        subst he
        rw [yrf_s]
        refine lv_astore_n (lv' := [(3, .ref _), (0, .ref _), (1, .int _), (2, .int _)]) hx hb d_S_value_9 rfl hl (by decide) rfl (fun ls hl => ?_)
        refine lv_aload_n hx hb d_S_value_10 rfl (lv_at hl 0 rfl) ?_
        refine lv_ifnull hx hb d_S_value_11 ?_
        refine lv_aload_n hx hb d_S_value_14 rfl (lv_at hl 0 rfl) ?_
        refine lv_iload_n hx hb d_S_value_15 rfl (lv_at hl 3 rfl) ?_
        refine yc_i (va_runV (As := [.int _]) (rest := []) ⟨hx, hb, hml, hown, hts⟩ (c_A_tell_no l D cc ad LL X b0 _ σ hL 0 j (by omega) hj hi v (by rw [hr20]; exact ht2)) (cwV 1 hts (yg_call mc_A_tell ml_S_33 mm_A_tell ms_A_tell mi_A) rfl rfl rfl (by decide +kernel) ⟨Nat.le_of_ble_eq_true rfl, Nat.le_of_ble_eq_true rfl⟩) (y_preV hI hw (y_recv hK.1 hw h5 (by rfl) rfl)) rfl rfl hl.1 rfl (lv_room (Nat.le_of_ble_eq_true rfl)) d_S_value_16 ⟨Nat.le_of_ble_eq_true rfl, Nat.le_of_ble_eq_true rfl⟩) hw hA (fun r u H locs he hw => ?_)
        subst he
        refine lv_if_ne (tgt := 24) hx hb d_S_value_19 (by decide) (fun c_19 => by exact absurd rfl c_19) (fun c_19 => ?_)
        refine lv_iconst (v := 0) hx hb d_S_value_22 (by decide) ?_
        exact ye_z hI (by decide) σ ⟨by unfold a_val; rw [hjn]; show _ = if (s_ac σ 0 j).1 = 0 then yb (decide ((yp_sr (s_T σ 0) j).length < 20)) else 0; rw [if_pos hk0, hl20, decide_eq_false ht2]; rfl, hJ, rfl, by unfold a_valT; rw [hjn]; exact (if_neg (fun q => ht2 (by rw [← hl20]; exact q.2))).symm, rfl⟩ hw d_S_value_23
    · refine y_ofW (cc := b_S_value) (maxL := 4) (ret := (some .boolean)) (by decide) rfl (Nat.le_of_ble_eq_true rfl) ?_
      intro pv ev sv mv bv tv cv ls hI hsz hw hl
      obtain ⟨hx, hb, hr, hml, hts, hown, hlocks, hnm, hK, hAb, hb0, hA⟩ := id hI
      have ht : ∀ w ∈ lg_tbl, w.before _ sv = true := fun w h => hts w (List.mem_cons_of_mem _ h)
      have hl : lv_has ls 4 [(0, .ref (ad (0, 0, 0))), (1, .int (nI j)), (2, .int v)] := hl
      refine lv_aload_n hx hb d_S_value_0 rfl (lv_at hl 0 rfl) ?_
      refine yr_get (C := R_S) (T := F_S) (N := 3) (ci := k_S) hx hb ht j_S hown hK.1 hw (by assumption) (by rfl) rfl 0 (by decide) (ht _ mf_S_14) (fun _ h9 => h9) (by rfl) d_S_value_1 ?_
      refine lv_iload_n hx hb d_S_value_4 rfl (lv_at hl 1 rfl) ?_
      refine lv_iconst (v := (nI 0)) hx hb d_S_value_5 (by decide) ?_
      refine yc_q (va_runV (As := [.int _, .int _]) (rest := []) ⟨hx, hb, hml, hown, hts⟩ (c_Y_findKind_other l D cc ad LL X b0 _ σ hL 0 (by omega) hi j hj 0 (by omega) hk0) (cwV 2 hts (yg_call mc_Y_findKind ml_S_29 mm_Y_findKind ms_Y_findKind mi_Y) rfl rfl rfl (by decide +kernel) ⟨Nat.le_of_ble_eq_true rfl, Nat.le_of_ble_eq_true rfl⟩) (y_preV hI hw (y_recv hK.1 hw n0 (by rfl) rfl)) rfl rfl hl.1 rfl (lv_room (Nat.le_of_ble_eq_true rfl)) d_S_value_6 ⟨Nat.le_of_ble_eq_true rfl, Nat.le_of_ble_eq_true rfl⟩) hw hA (fun r u H locs he hw => ?_)
      subst he
      rw [yrf_n]
      refine lv_astore_nN (lv' := [(3, .null), (0, .ref _), (1, .int _), (2, .int _)]) hx hb d_S_value_9 rfl hl (by decide) rfl (fun ls hl => ?_)
      refine lv_aload_nN hx hb d_S_value_10 rfl (lv_at hl 0 rfl) ?_
      refine lv_ifnullN (tgt := 22) hx hb d_S_value_11 (by decide) ?_
      refine lv_iconst (v := 0) hx hb d_S_value_22 (by decide) ?_
      exact ye_z hI (by decide) σ ⟨by unfold a_val; rw [hjn]; show _ = if (s_ac σ 0 j).1 = 0 then _ else _; rw [if_neg hk0], hJ, rfl, by unfold a_valT; rw [hjn]; exact (if_neg (fun q => hk0 q.1)).symm, rfl⟩ hw d_S_value_23
set_option maxHeartbeats 4000000 in
set_option maxRecDepth 100000 in
/-- settled -/
theorem c_S_settled (l : Launch) (D : va_G) (cc : ClassId × ClassId × ClassId) (ad : yl → Nat) (LL : List yl) (X : va_W) (b0 sz : Nat) (σ : ys) (hL : ∀ q, yL σ q → q ∈ LL) (hJ : yJ σ) : Met l y_S_settled w_S_settled ({ frames := 5, cells := 0, slots := 0, locals := 112 }) (yPr D cc b0 [.ref (ad (0, 0, 0))] (yW cc ad LL X σ) sz) (va_Qq (fun r σ' => r = some (ad (1, 1, 0)) ∧ ySt σ σ') (yB D ycl (yW cc ad LL X σ) sz (fun σ' => yW cc ad LL X σ')) (va_A (yW cc ad LL X σ) sz)) 0 0 (va_A (yW cc ad LL X σ) sz) := by
  have o0 : (0, 0, 0) ∈ LL := hL _ ⟨rfl, rfl⟩
  have n0 : (1, 0, 0) ∈ LL := hL _ ⟨by omega, rfl⟩
  have n1 : (1, 1, 0) ∈ LL := hL _ ⟨by omega, rfl⟩
  have hi := hJ.1
  have hi1 := hJ.2.1
  have hn10 := hi.1.1
  have hc16 := hi.2.1
  have hm10 := hi1.1.1
  have hd16 := hi1.2.1
  rcases hJ.2.2.2 with hf | ⟨hf, hfT, hfF⟩
  · refine y_ofW (cc := b_S_settled) (maxL := 1) (ret := (some (.object "YardActors$Yard"))) (by decide) rfl (Nat.le_of_ble_eq_true rfl) ?_
    intro pv ev sv mv bv tv cv ls hI hsz hw hl
    obtain ⟨hx, hb, hr, hml, hts, hown, hlocks, hnm, hK, hAb, hb0, hA⟩ := id hI
    have ht : ∀ w ∈ lg_tbl, w.before _ sv = true := fun w h => hts w (List.mem_cons_of_mem _ h)
    have hl : lv_has ls 1 [(0, .ref (ad (0, 0, 0)))] := hl
    refine lv_aload_n hx hb d_S_settled_0 rfl (lv_at hl 0 rfl) ?_
    refine yr_get (C := R_S) (T := F_S) (N := 3) (ci := k_S) hx hb ht j_S hown hK.1 hw o0 (by rfl) rfl 2 (by decide) (ht _ mf_S_21) (fun _ h9 => h9) (by rfl) d_S_settled_1 ?_
    rw [hf]
    refine lv_if_ne (tgt := 30) hx hb d_S_settled_4 (by decide) (fun c_4 => by exact absurd rfl c_4) (fun c_4 => ?_)
    refine lv_aload_n hx hb d_S_settled_7 rfl (lv_at hl 0 rfl) ?_
    refine yr_get (C := R_S) (T := F_S) (N := 3) (ci := k_S) hx hb ht j_S hown hK.1 hw o0 (by rfl) rfl 1 (by decide) (ht _ mf_S_18) (fun _ h9 => h9) (by rfl) d_S_settled_8 ?_
    refine lv_aload_n hx hb d_S_settled_11 rfl (lv_at hl 0 rfl) ?_
    refine yr_get (C := R_S) (T := F_S) (N := 3) (ci := k_S) hx hb ht j_S hown hK.1 hw o0 (by rfl) rfl 0 (by decide) (ht _ mf_S_14) (fun _ h9 => h9) (by rfl) d_S_settled_12 ?_
    refine yc_v (va_runV (As := [.ref _]) (rest := []) ⟨hx, hb, hml, hown, hts⟩ (c_Y_copyFrom l D cc ad LL X b0 _ σ hL 1 0 (by omega) (by omega) (by omega) hJ.2.2.1 hi1 hi) (cwV 1 hts (yg_call mc_Y_copyFrom ml_S_89 mm_Y_copyFrom ms_Y_copyFrom mi_Y) rfl rfl rfl (by decide +kernel) ⟨Nat.le_of_ble_eq_true rfl, Nat.le_of_ble_eq_true rfl⟩) (y_preV hI hw (y_recv hK.1 hw n1 (by rfl) rfl)) rfl rfl hl.1 rfl (lv_room (Nat.le_of_ble_eq_true rfl)) d_S_settled_15 ⟨Nat.le_of_ble_eq_true rfl, Nat.le_of_ble_eq_true rfl⟩) hw hA (fun u1 H locs hc hw => ?_)
    obtain ⟨x1, x2, x3, x4⟩ := hc
    have hL1 := x1.L hL
    refine lv_aload_n hx hb d_S_settled_18 rfl (lv_at hl 0 rfl) ?_
    refine yr_get (C := R_S) (T := F_S) (N := 3) (ci := k_S) hx hb ht j_S hown hK.1 hw o0 (by rfl) rfl 1 (by decide) (ht _ mf_S_18) (fun _ h9 => h9) (by rfl) d_S_settled_19 ?_
    refine yc_v (va_runV (As := []) (rest := []) ⟨hx, hb, hml, hown, hts⟩ (c_Y_settle l D cc ad LL X b0 _ u1 hL1 1 (by omega) x4) (cwV 0 hts (yg_call mc_Y_settle ml_S_93 mm_Y_settle ms_Y_settle mi_Y) rfl rfl rfl (by decide +kernel) ⟨Nat.le_of_ble_eq_true rfl, Nat.le_of_ble_eq_true rfl⟩) (y_preV hI hw (y_recv hK.1 hw n1 (by rfl) rfl)) rfl rfl hl.1 rfl (lv_room (Nat.le_of_ble_eq_true rfl)) d_S_settled_22 ⟨Nat.le_of_ble_eq_true rfl, Nat.le_of_ble_eq_true rfl⟩) hw hA (fun u2 H locs hc hw => ?_)
    obtain ⟨z1, z2, z3, z4⟩ := hc
    refine lv_aload_n hx hb d_S_settled_25 rfl (lv_at hl 0 rfl) ?_
    refine lv_iconst (v := 1) hx hb d_S_settled_26 (by decide) ?_
    refine yr_put (ty := .boolean) (C := R_S) (T := F_S) (N := 3) (ci := k_S) hx hb ht j_S t_S t_S_ok n_S hown hK.1 hw o0 (by rfl) rfl 2 (by decide) (ht _ mf_S_21) (fun _ h9 => h9) rfl (by decide +kernel) (by decide) (by decide) (Nat.le_of_ble_eq_true rfl) d_S_settled_27 (fun H locs hw => ?_)
    have hw := yw_fl 1 hw rfl
    refine lv_aload_n hx hb d_S_settled_30 rfl (lv_at hl 0 rfl) ?_
    refine yr_get (C := R_S) (T := F_S) (N := 3) (ci := k_S) hx hb ht j_S hown hK.1 hw o0 (by rfl) rfl 1 (by decide) (ht _ mf_S_18) (fun _ h9 => h9) (by rfl) d_S_settled_31 ?_
    exact ye_q (some (ad (1, 1, 0))) rfl hI (sx_fl u2 0 0 1) ⟨rfl, set_J hJ x1 x2 x3 z1 z2 z3 z4⟩ hw d_S_settled_34
  · refine y_ofW (cc := b_S_settled) (maxL := 1) (ret := (some (.object "YardActors$Yard"))) (by decide) rfl (Nat.le_of_ble_eq_true rfl) ?_
    intro pv ev sv mv bv tv cv ls hI hsz hw hl
    obtain ⟨hx, hb, hr, hml, hts, hown, hlocks, hnm, hK, hAb, hb0, hA⟩ := id hI
    have ht : ∀ w ∈ lg_tbl, w.before _ sv = true := fun w h => hts w (List.mem_cons_of_mem _ h)
    have hl : lv_has ls 1 [(0, .ref (ad (0, 0, 0)))] := hl
    refine lv_aload_n hx hb d_S_settled_0 rfl (lv_at hl 0 rfl) ?_
    refine yr_get (C := R_S) (T := F_S) (N := 3) (ci := k_S) hx hb ht j_S hown hK.1 hw o0 (by rfl) rfl 2 (by decide) (ht _ mf_S_21) (fun _ h9 => h9) (by rfl) d_S_settled_1 ?_
    rw [hf]
    refine lv_if_ne (tgt := 30) hx hb d_S_settled_4 (by decide) (fun c_4 => ?_) (fun c_4 => by exact absurd c_4 (by decide))
    refine lv_aload_n hx hb d_S_settled_30 rfl (lv_at hl 0 rfl) ?_
    refine yr_get (C := R_S) (T := F_S) (N := 3) (ci := k_S) hx hb ht j_S hown hK.1 hw o0 (by rfl) rfl 1 (by decide) (ht _ mf_S_18) (fun _ h9 => h9) (by rfl) d_S_settled_31 ?_
    exact ye_q (some (ad (1, 1, 0))) rfl hI σ ⟨rfl, hJ, rfl, hf, rfl, rfl⟩ hw d_S_settled_34
set_option maxHeartbeats 4000000 in
set_option maxRecDepth 100000 in
theorem c_S_actedAtLast (l : Launch) (D : va_G) (cc : ClassId × ClassId × ClassId) (ad : yl → Nat) (LL : List yl) (X : va_W) (b0 sz : Nat) (σ : ys) (hL : ∀ q, yL σ q → q ∈ LL) (hJ : yJ σ) (x : Int32) : Met l y_S_actedAtLast w_S_actedAtLast ({ frames := 6, cells := 0, slots := 0, locals := 132 }) (yPr D cc b0 [.ref (ad (0, 0, 0)), .int x] (yW cc ad LL X σ) sz) (va_Qi (fun r σ' => ∃ N, yp_fin (s_T σ 0) (s_D σ 0) N ∧ r = a_acted (s_T σ 0) N x ∧ yJ σ' ∧ σ'.2.1 = σ.2.1 ∧ s_T σ' 0 = s_T σ 0 ∧ s_D σ' 0 = s_D σ 0) (yB D ycl (yW cc ad LL X σ) sz (fun σ' => yW cc ad LL X σ')) (va_A (yW cc ad LL X σ) sz)) 0 0 (va_A (yW cc ad LL X σ) sz) := by
  have o0 : (0, 0, 0) ∈ LL := hL _ ⟨rfl, rfl⟩
  have n0 : (1, 0, 0) ∈ LL := hL _ ⟨by omega, rfl⟩
  have n1 : (1, 1, 0) ∈ LL := hL _ ⟨by omega, rfl⟩
  have hi := hJ.1
  have hi1 := hJ.2.1
  have hn10 := hi.1.1
  have hc16 := hi.2.1
  have hm10 := hi1.1.1
  have hd16 := hi1.2.1
  rcases ysplit x (n := s_n σ 0) (by omega) with hno | ⟨j, hj, rfl⟩
  · refine y_ofW (cc := b_S_actedAtLast) (maxL := 2) (ret := (some .int)) (by decide) rfl (Nat.le_of_ble_eq_true rfl) ?_
    intro pv ev sv mv bv tv cv ls hI hsz hw hl
    obtain ⟨hx, hb, hr, hml, hts, hown, hlocks, hnm, hK, hAb, hb0, hA⟩ := id hI
    have ht : ∀ w ∈ lg_tbl, w.before _ sv = true := fun w h => hts w (List.mem_cons_of_mem _ h)
    have hl : lv_has ls 2 [(0, .ref (ad (0, 0, 0))), (1, .int x)] := hl
    refine lv_aload_n hx hb d_S_actedAtLast_0 rfl (lv_at hl 0 rfl) ?_
    refine yc_q (va_runV (As := []) (rest := []) ⟨hx, hb, hml, hown, hts⟩ (c_S_settled l D cc ad LL X b0 _ σ hL hJ) (cwV 0 hts (yg_call mc_S_settled ml_S_82 mm_S_settled ms_S_settled mi_S) rfl rfl rfl (by decide +kernel) ⟨Nat.le_of_ble_eq_true rfl, Nat.le_of_ble_eq_true rfl⟩) (y_preV hI hw (y_recv hK.1 hw o0 (by rfl) rfl)) rfl rfl hl.1 rfl (lv_room (Nat.le_of_ble_eq_true rfl)) d_S_actedAtLast_1 ⟨Nat.le_of_ble_eq_true rfl, Nat.le_of_ble_eq_true rfl⟩) hw hA (fun r u H locs he hw => ?_)
    obtain ⟨rfl, hSt⟩ := he
    rw [yrf_s]
    obtain ⟨uJ, uc, uf, uT, uD⟩ := id hSt
    have un : s_n u 1 = s_n σ 0 := by rw [uJ.2.2.1.1]; unfold s_n; rw [uc]
    have unc : s_nc u 1 = s_nc σ 0 := by rw [uJ.2.2.1.2.1]; unfold s_nc; rw [uc]
    obtain ⟨uT1, uF⟩ := St_fin hSt
    have hLu : ∀ q, yL u q → q ∈ LL := L_cnt uc hL
    have ui := uJ.2.1
    refine lv_iload_n hx hb d_S_actedAtLast_4 rfl (lv_at hl 1 rfl) ?_
    refine yc_q (va_runV (As := [.int _]) (rest := []) ⟨hx, hb, hml, hown, hts⟩ (c_Y_findActor_no l D cc ad LL X b0 _ u hLu 1 (by omega) ui x (by rw [un]; exact hno)) (cwV 1 hts (yg_call mc_Y_findActor ml_S_43 mm_Y_findActor ms_Y_findActor mi_Y) rfl rfl rfl (by decide +kernel) ⟨Nat.le_of_ble_eq_true rfl, Nat.le_of_ble_eq_true rfl⟩) (y_preV hI hw (y_recv hK.1 hw n1 (by rfl) rfl)) rfl rfl hl.1 rfl (lv_room (Nat.le_of_ble_eq_true rfl)) d_S_actedAtLast_5 ⟨Nat.le_of_ble_eq_true rfl, Nat.le_of_ble_eq_true rfl⟩) hw hA (fun r u_ H locs he hw => ?_)
    subst he
    rw [yrf_n]
    refine yc_i (va_runS (As := [.null]) (rest := []) ⟨hx, hb, hml, hown, hts⟩ (c_S_timesOf_null l D cc ad LL X b0 _ u) (va_cwS 1 hts (yg_callS mc_S_timesOf ml_S_58 mt_S_timesOf mi_S) rfl rfl rfl (by decide +kernel) ⟨Nat.le_of_ble_eq_true rfl, Nat.le_of_ble_eq_true rfl⟩) (y_preS hI hw) rfl rfl hl.1 rfl (lv_room (Nat.le_of_ble_eq_true rfl)) d_S_actedAtLast_8 ⟨Nat.le_of_ble_eq_true rfl, Nat.le_of_ble_eq_true rfl⟩) hw hA (fun r u_ H locs he hw => ?_)
    subst he
    exact ye_i hI u ⟨s_D u 1, uF, by rw [← uT1]; unfold a_acted; rw [yin_no (show x < 0 ∨ nI (yp_n (s_T u 1)) ≤ x from (by show x < 0 ∨ nI (s_n u 1) ≤ x; rw [un]; exact hno))], uJ, uc, uT, uD⟩ hw d_S_actedAtLast_11
  · refine y_ofW (cc := b_S_actedAtLast) (maxL := 2) (ret := (some .int)) (by decide) rfl (Nat.le_of_ble_eq_true rfl) ?_
    intro pv ev sv mv bv tv cv ls hI hsz hw hl
    obtain ⟨hx, hb, hr, hml, hts, hown, hlocks, hnm, hK, hAb, hb0, hA⟩ := id hI
    have ht : ∀ w ∈ lg_tbl, w.before _ sv = true := fun w h => hts w (List.mem_cons_of_mem _ h)
    have hl : lv_has ls 2 [(0, .ref (ad (0, 0, 0))), (1, .int (nI j))] := hl
    refine lv_aload_n hx hb d_S_actedAtLast_0 rfl (lv_at hl 0 rfl) ?_
    refine yc_q (va_runV (As := []) (rest := []) ⟨hx, hb, hml, hown, hts⟩ (c_S_settled l D cc ad LL X b0 _ σ hL hJ) (cwV 0 hts (yg_call mc_S_settled ml_S_82 mm_S_settled ms_S_settled mi_S) rfl rfl rfl (by decide +kernel) ⟨Nat.le_of_ble_eq_true rfl, Nat.le_of_ble_eq_true rfl⟩) (y_preV hI hw (y_recv hK.1 hw o0 (by rfl) rfl)) rfl rfl hl.1 rfl (lv_room (Nat.le_of_ble_eq_true rfl)) d_S_actedAtLast_1 ⟨Nat.le_of_ble_eq_true rfl, Nat.le_of_ble_eq_true rfl⟩) hw hA (fun r u H locs he hw => ?_)
    obtain ⟨rfl, hSt⟩ := he
    rw [yrf_s]
    obtain ⟨uJ, uc, uf, uT, uD⟩ := id hSt
    have un : s_n u 1 = s_n σ 0 := by rw [uJ.2.2.1.1]; unfold s_n; rw [uc]
    have unc : s_nc u 1 = s_nc σ 0 := by rw [uJ.2.2.1.2.1]; unfold s_nc; rw [uc]
    obtain ⟨uT1, uF⟩ := St_fin hSt
    have hLu : ∀ q, yL u q → q ∈ LL := L_cnt uc hL
    have ui := uJ.2.1
    have hju : j < s_n u 1 := by rw [un]; exact hj
    have h5 : (5, 1, j) ∈ LL := hLu _ ⟨by omega, hju⟩
    have hjn : yin (nI j) (yp_n (s_T u 1)) = some j := yin_some hju (by show s_n u 1 < _; rw [un]; omega)
    refine lv_iload_n hx hb d_S_actedAtLast_4 rfl (lv_at hl 1 rfl) ?_
    refine yc_q (va_runV (As := [.int _]) (rest := []) ⟨hx, hb, hml, hown, hts⟩ (c_Y_findActor l D cc ad LL X b0 _ u hLu 1 (by omega) ui j hju) (cwV 1 hts (yg_call mc_Y_findActor ml_S_43 mm_Y_findActor ms_Y_findActor mi_Y) rfl rfl rfl (by decide +kernel) ⟨Nat.le_of_ble_eq_true rfl, Nat.le_of_ble_eq_true rfl⟩) (y_preV hI hw (y_recv hK.1 hw n1 (by rfl) rfl)) rfl rfl hl.1 rfl (lv_room (Nat.le_of_ble_eq_true rfl)) d_S_actedAtLast_5 ⟨Nat.le_of_ble_eq_true rfl, Nat.le_of_ble_eq_true rfl⟩) hw hA (fun r u_ H locs he hw => ?_)
    subst he
    rw [yrf_s]
    refine yc_i (va_runS (As := [.ref _]) (rest := []) ⟨hx, hb, hml, hown, hts⟩ (c_S_timesOf l D cc ad LL X b0 _ u hLu 1 j (by omega) hju ui) (va_cwS 1 hts (yg_callS mc_S_timesOf ml_S_58 mt_S_timesOf mi_S) rfl rfl rfl (by decide +kernel) ⟨Nat.le_of_ble_eq_true rfl, Nat.le_of_ble_eq_true rfl⟩) (y_preS hI hw) rfl rfl hl.1 rfl (lv_room (Nat.le_of_ble_eq_true rfl)) d_S_actedAtLast_8 ⟨Nat.le_of_ble_eq_true rfl, Nat.le_of_ble_eq_true rfl⟩) hw hA (fun r u_ H locs he hw => ?_)
    subst he
    exact ye_i hI u ⟨s_D u 1, uF, by rw [← uT1]; unfold a_acted; rw [hjn]; rfl, uJ, uc, uT, uD⟩ hw d_S_actedAtLast_11
set_option maxHeartbeats 4000000 in
set_option maxRecDepth 100000 in
theorem c_S_keptAtLast (l : Launch) (D : va_G) (cc : ClassId × ClassId × ClassId) (ad : yl → Nat) (LL : List yl) (X : va_W) (b0 sz : Nat) (σ : ys) (hL : ∀ q, yL σ q → q ∈ LL) (hJ : yJ σ) (x : Int32) : Met l y_S_keptAtLast w_S_keptAtLast ({ frames := 6, cells := 0, slots := 0, locals := 132 }) (yPr D cc b0 [.ref (ad (0, 0, 0)), .int x] (yW cc ad LL X σ) sz) (va_Qi (fun r σ' => ∃ N, yp_fin (s_T σ 0) (s_D σ 0) N ∧ r = a_kept (s_T σ 0) N x ∧ yJ σ' ∧ σ'.2.1 = σ.2.1 ∧ s_T σ' 0 = s_T σ 0 ∧ s_D σ' 0 = s_D σ 0) (yB D ycl (yW cc ad LL X σ) sz (fun σ' => yW cc ad LL X σ')) (va_A (yW cc ad LL X σ) sz)) 0 0 (va_A (yW cc ad LL X σ) sz) := by
  have o0 : (0, 0, 0) ∈ LL := hL _ ⟨rfl, rfl⟩
  have n0 : (1, 0, 0) ∈ LL := hL _ ⟨by omega, rfl⟩
  have n1 : (1, 1, 0) ∈ LL := hL _ ⟨by omega, rfl⟩
  have hi := hJ.1
  have hi1 := hJ.2.1
  have hn10 := hi.1.1
  have hc16 := hi.2.1
  have hm10 := hi1.1.1
  have hd16 := hi1.2.1
  rcases ysplit x (n := s_n σ 0) (by omega) with hno | ⟨j, hj, rfl⟩
  · refine y_ofW (cc := b_S_keptAtLast) (maxL := 2) (ret := (some .int)) (by decide) rfl (Nat.le_of_ble_eq_true rfl) ?_
    intro pv ev sv mv bv tv cv ls hI hsz hw hl
    obtain ⟨hx, hb, hr, hml, hts, hown, hlocks, hnm, hK, hAb, hb0, hA⟩ := id hI
    have ht : ∀ w ∈ lg_tbl, w.before _ sv = true := fun w h => hts w (List.mem_cons_of_mem _ h)
    have hl : lv_has ls 2 [(0, .ref (ad (0, 0, 0))), (1, .int x)] := hl
    refine lv_aload_n hx hb d_S_keptAtLast_0 rfl (lv_at hl 0 rfl) ?_
    refine yc_q (va_runV (As := []) (rest := []) ⟨hx, hb, hml, hown, hts⟩ (c_S_settled l D cc ad LL X b0 _ σ hL hJ) (cwV 0 hts (yg_call mc_S_settled ml_S_82 mm_S_settled ms_S_settled mi_S) rfl rfl rfl (by decide +kernel) ⟨Nat.le_of_ble_eq_true rfl, Nat.le_of_ble_eq_true rfl⟩) (y_preV hI hw (y_recv hK.1 hw o0 (by rfl) rfl)) rfl rfl hl.1 rfl (lv_room (Nat.le_of_ble_eq_true rfl)) d_S_keptAtLast_1 ⟨Nat.le_of_ble_eq_true rfl, Nat.le_of_ble_eq_true rfl⟩) hw hA (fun r u H locs he hw => ?_)
    obtain ⟨rfl, hSt⟩ := he
    rw [yrf_s]
    obtain ⟨uJ, uc, uf, uT, uD⟩ := id hSt
    have un : s_n u 1 = s_n σ 0 := by rw [uJ.2.2.1.1]; unfold s_n; rw [uc]
    have unc : s_nc u 1 = s_nc σ 0 := by rw [uJ.2.2.1.2.1]; unfold s_nc; rw [uc]
    obtain ⟨uT1, uF⟩ := St_fin hSt
    have hLu : ∀ q, yL u q → q ∈ LL := L_cnt uc hL
    have ui := uJ.2.1
    refine lv_iload_n hx hb d_S_keptAtLast_4 rfl (lv_at hl 1 rfl) ?_
    refine lv_bipush (v := (nI 6)) hx hb d_S_keptAtLast_5 (by decide) ?_
    refine yc_q (va_runV (As := [.int _, .int _]) (rest := []) ⟨hx, hb, hml, hown, hts⟩ (c_Y_findKind_no l D cc ad LL X b0 _ u hLu 1 (by omega) ui x (by rw [un]; exact hno) 6) (cwV 2 hts (yg_call mc_Y_findKind ml_S_29 mm_Y_findKind ms_Y_findKind mi_Y) rfl rfl rfl (by decide +kernel) ⟨Nat.le_of_ble_eq_true rfl, Nat.le_of_ble_eq_true rfl⟩) (y_preV hI hw (y_recv hK.1 hw n1 (by rfl) rfl)) rfl rfl hl.1 rfl (lv_room (Nat.le_of_ble_eq_true rfl)) d_S_keptAtLast_7 ⟨Nat.le_of_ble_eq_true rfl, Nat.le_of_ble_eq_true rfl⟩) hw hA (fun r u_ H locs he hw => ?_)
    subst he
    rw [yrf_n]
    refine yc_i (va_runS (As := [.null]) (rest := []) ⟨hx, hb, hml, hown, hts⟩ (c_S_timesOf_null l D cc ad LL X b0 _ u) (va_cwS 1 hts (yg_callS mc_S_timesOf ml_S_58 mt_S_timesOf mi_S) rfl rfl rfl (by decide +kernel) ⟨Nat.le_of_ble_eq_true rfl, Nat.le_of_ble_eq_true rfl⟩) (y_preS hI hw) rfl rfl hl.1 rfl (lv_room (Nat.le_of_ble_eq_true rfl)) d_S_keptAtLast_10 ⟨Nat.le_of_ble_eq_true rfl, Nat.le_of_ble_eq_true rfl⟩) hw hA (fun r u_ H locs he hw => ?_)
    subst he
    exact ye_i hI u ⟨s_D u 1, uF, by rw [← uT1]; unfold a_kept; rw [yin_no (show x < 0 ∨ nI (yp_n (s_T u 1)) ≤ x from (by show x < 0 ∨ nI (s_n u 1) ≤ x; rw [un]; exact hno))], uJ, uc, uT, uD⟩ hw d_S_keptAtLast_13
  · refine y_ofW (cc := b_S_keptAtLast) (maxL := 2) (ret := (some .int)) (by decide) rfl (Nat.le_of_ble_eq_true rfl) ?_
    intro pv ev sv mv bv tv cv ls hI hsz hw hl
    obtain ⟨hx, hb, hr, hml, hts, hown, hlocks, hnm, hK, hAb, hb0, hA⟩ := id hI
    have ht : ∀ w ∈ lg_tbl, w.before _ sv = true := fun w h => hts w (List.mem_cons_of_mem _ h)
    have hl : lv_has ls 2 [(0, .ref (ad (0, 0, 0))), (1, .int (nI j))] := hl
    refine lv_aload_n hx hb d_S_keptAtLast_0 rfl (lv_at hl 0 rfl) ?_
    refine yc_q (va_runV (As := []) (rest := []) ⟨hx, hb, hml, hown, hts⟩ (c_S_settled l D cc ad LL X b0 _ σ hL hJ) (cwV 0 hts (yg_call mc_S_settled ml_S_82 mm_S_settled ms_S_settled mi_S) rfl rfl rfl (by decide +kernel) ⟨Nat.le_of_ble_eq_true rfl, Nat.le_of_ble_eq_true rfl⟩) (y_preV hI hw (y_recv hK.1 hw o0 (by rfl) rfl)) rfl rfl hl.1 rfl (lv_room (Nat.le_of_ble_eq_true rfl)) d_S_keptAtLast_1 ⟨Nat.le_of_ble_eq_true rfl, Nat.le_of_ble_eq_true rfl⟩) hw hA (fun r u H locs he hw => ?_)
    obtain ⟨rfl, hSt⟩ := he
    rw [yrf_s]
    obtain ⟨uJ, uc, uf, uT, uD⟩ := id hSt
    have un : s_n u 1 = s_n σ 0 := by rw [uJ.2.2.1.1]; unfold s_n; rw [uc]
    have unc : s_nc u 1 = s_nc σ 0 := by rw [uJ.2.2.1.2.1]; unfold s_nc; rw [uc]
    obtain ⟨uT1, uF⟩ := St_fin hSt
    have hLu : ∀ q, yL u q → q ∈ LL := L_cnt uc hL
    have ui := uJ.2.1
    have hju : j < s_n u 1 := by rw [un]; exact hj
    have h5 : (5, 1, j) ∈ LL := hLu _ ⟨by omega, hju⟩
    have hjn : yin (nI j) (yp_n (s_T u 1)) = some j := yin_some hju (by show s_n u 1 < _; rw [un]; omega)
    by_cases hk6 : (s_ac u 1 j).1 = 6
    · refine lv_iload_n hx hb d_S_keptAtLast_4 rfl (lv_at hl 1 rfl) ?_
      refine lv_bipush (v := (nI 6)) hx hb d_S_keptAtLast_5 (by decide) ?_
      refine yc_q (va_runV (As := [.int _, .int _]) (rest := []) ⟨hx, hb, hml, hown, hts⟩ (c_Y_findKind l D cc ad LL X b0 _ u hLu 1 (by omega) ui j hju 6 (by omega) hk6) (cwV 2 hts (yg_call mc_Y_findKind ml_S_29 mm_Y_findKind ms_Y_findKind mi_Y) rfl rfl rfl (by decide +kernel) ⟨Nat.le_of_ble_eq_true rfl, Nat.le_of_ble_eq_true rfl⟩) (y_preV hI hw (y_recv hK.1 hw n1 (by rfl) rfl)) rfl rfl hl.1 rfl (lv_room (Nat.le_of_ble_eq_true rfl)) d_S_keptAtLast_7 ⟨Nat.le_of_ble_eq_true rfl, Nat.le_of_ble_eq_true rfl⟩) hw hA (fun r u_ H locs he hw => ?_)
      subst he
      rw [yrf_s]
      refine yc_i (va_runS (As := [.ref _]) (rest := []) ⟨hx, hb, hml, hown, hts⟩ (c_S_timesOf l D cc ad LL X b0 _ u hLu 1 j (by omega) hju ui) (va_cwS 1 hts (yg_callS mc_S_timesOf ml_S_58 mt_S_timesOf mi_S) rfl rfl rfl (by decide +kernel) ⟨Nat.le_of_ble_eq_true rfl, Nat.le_of_ble_eq_true rfl⟩) (y_preS hI hw) rfl rfl hl.1 rfl (lv_room (Nat.le_of_ble_eq_true rfl)) d_S_keptAtLast_10 ⟨Nat.le_of_ble_eq_true rfl, Nat.le_of_ble_eq_true rfl⟩) hw hA (fun r u_ H locs he hw => ?_)
      subst he
      exact ye_i hI u ⟨s_D u 1, uF, by rw [← uT1]; unfold a_kept; rw [hjn]; show _ = if (s_ac u 1 j).1 = 6 then _ else _; rw [if_pos hk6]; rfl, uJ, uc, uT, uD⟩ hw d_S_keptAtLast_13
    · refine lv_iload_n hx hb d_S_keptAtLast_4 rfl (lv_at hl 1 rfl) ?_
      refine lv_bipush (v := (nI 6)) hx hb d_S_keptAtLast_5 (by decide) ?_
      refine yc_q (va_runV (As := [.int _, .int _]) (rest := []) ⟨hx, hb, hml, hown, hts⟩ (c_Y_findKind_other l D cc ad LL X b0 _ u hLu 1 (by omega) ui j hju 6 (by omega) hk6) (cwV 2 hts (yg_call mc_Y_findKind ml_S_29 mm_Y_findKind ms_Y_findKind mi_Y) rfl rfl rfl (by decide +kernel) ⟨Nat.le_of_ble_eq_true rfl, Nat.le_of_ble_eq_true rfl⟩) (y_preV hI hw (y_recv hK.1 hw n1 (by rfl) rfl)) rfl rfl hl.1 rfl (lv_room (Nat.le_of_ble_eq_true rfl)) d_S_keptAtLast_7 ⟨Nat.le_of_ble_eq_true rfl, Nat.le_of_ble_eq_true rfl⟩) hw hA (fun r u_ H locs he hw => ?_)
      subst he
      rw [yrf_n]
      refine yc_i (va_runS (As := [.null]) (rest := []) ⟨hx, hb, hml, hown, hts⟩ (c_S_timesOf_null l D cc ad LL X b0 _ u) (va_cwS 1 hts (yg_callS mc_S_timesOf ml_S_58 mt_S_timesOf mi_S) rfl rfl rfl (by decide +kernel) ⟨Nat.le_of_ble_eq_true rfl, Nat.le_of_ble_eq_true rfl⟩) (y_preS hI hw) rfl rfl hl.1 rfl (lv_room (Nat.le_of_ble_eq_true rfl)) d_S_keptAtLast_10 ⟨Nat.le_of_ble_eq_true rfl, Nat.le_of_ble_eq_true rfl⟩) hw hA (fun r u_ H locs he hw => ?_)
      subst he
      exact ye_i hI u ⟨s_D u 1, uF, by rw [← uT1]; unfold a_kept; rw [hjn]; show _ = if (s_ac u 1 j).1 = 6 then _ else _; rw [if_neg hk6], uJ, uc, uT, uD⟩ hw d_S_keptAtLast_13
set_option maxHeartbeats 4000000 in
set_option maxRecDepth 100000 in
theorem c_S_atLast (l : Launch) (D : va_G) (cc : ClassId × ClassId × ClassId) (ad : yl → Nat) (LL : List yl) (X : va_W) (b0 sz : Nat) (σ : ys) (hL : ∀ q, yL σ q → q ∈ LL) (hJ : yJ σ) (x : Int32) (v : Int32) : Met l y_S_atLast w_S_atLast ({ frames := 6, cells := 0, slots := 0, locals := 132 }) (yPr D cc b0 [.ref (ad (0, 0, 0)), .int x, .int v] (yW cc ad LL X σ) sz) (va_Ql (fun r σ' => ∃ N, yp_fin (s_T σ 0) (s_D σ 0) N ∧ r = a_at (s_T σ 0) N x v ∧ yJ σ' ∧ σ'.2.1 = σ.2.1 ∧ s_T σ' 0 = s_T σ 0 ∧ s_D σ' 0 = s_D σ 0) (yB D ycl (yW cc ad LL X σ) sz (fun σ' => yW cc ad LL X σ')) (va_A (yW cc ad LL X σ) sz)) 0 0 (va_A (yW cc ad LL X σ) sz) := by
  have o0 : (0, 0, 0) ∈ LL := hL _ ⟨rfl, rfl⟩
  have n0 : (1, 0, 0) ∈ LL := hL _ ⟨by omega, rfl⟩
  have n1 : (1, 1, 0) ∈ LL := hL _ ⟨by omega, rfl⟩
  have hi := hJ.1
  have hi1 := hJ.2.1
  have hn10 := hi.1.1
  have hc16 := hi.2.1
  have hm10 := hi1.1.1
  have hd16 := hi1.2.1
  rcases ysplit x (n := s_n σ 0) (by omega) with hno | ⟨j, hj, rfl⟩
  · refine y_ofW (cc := b_S_atLast) (maxL := 3) (ret := (some .long)) (by decide) rfl (Nat.le_of_ble_eq_true rfl) ?_
    intro pv ev sv mv bv tv cv ls hI hsz hw hl
    obtain ⟨hx, hb, hr, hml, hts, hown, hlocks, hnm, hK, hAb, hb0, hA⟩ := id hI
    have ht : ∀ w ∈ lg_tbl, w.before _ sv = true := fun w h => hts w (List.mem_cons_of_mem _ h)
    have hl : lv_has ls 3 [(0, .ref (ad (0, 0, 0))), (1, .int x), (2, .int v)] := hl
    refine lv_aload_n hx hb d_S_atLast_0 rfl (lv_at hl 0 rfl) ?_
    refine yc_q (va_runV (As := []) (rest := []) ⟨hx, hb, hml, hown, hts⟩ (c_S_settled l D cc ad LL X b0 _ σ hL hJ) (cwV 0 hts (yg_call mc_S_settled ml_S_82 mm_S_settled ms_S_settled mi_S) rfl rfl rfl (by decide +kernel) ⟨Nat.le_of_ble_eq_true rfl, Nat.le_of_ble_eq_true rfl⟩) (y_preV hI hw (y_recv hK.1 hw o0 (by rfl) rfl)) rfl rfl hl.1 rfl (lv_room (Nat.le_of_ble_eq_true rfl)) d_S_atLast_1 ⟨Nat.le_of_ble_eq_true rfl, Nat.le_of_ble_eq_true rfl⟩) hw hA (fun r u H locs he hw => ?_)
    obtain ⟨rfl, hSt⟩ := he
    rw [yrf_s]
    obtain ⟨uJ, uc, uf, uT, uD⟩ := id hSt
    have un : s_n u 1 = s_n σ 0 := by rw [uJ.2.2.1.1]; unfold s_n; rw [uc]
    have unc : s_nc u 1 = s_nc σ 0 := by rw [uJ.2.2.1.2.1]; unfold s_nc; rw [uc]
    obtain ⟨uT1, uF⟩ := St_fin hSt
    have hLu : ∀ q, yL u q → q ∈ LL := L_cnt uc hL
    have ui := uJ.2.1
    refine lv_iload_n hx hb d_S_atLast_4 rfl (lv_at hl 1 rfl) ?_
    refine lv_bipush (v := (nI 6)) hx hb d_S_atLast_5 (by decide) ?_
    refine yc_q (va_runV (As := [.int _, .int _]) (rest := []) ⟨hx, hb, hml, hown, hts⟩ (c_Y_findKind_no l D cc ad LL X b0 _ u hLu 1 (by omega) ui x (by rw [un]; exact hno) 6) (cwV 2 hts (yg_call mc_Y_findKind ml_S_29 mm_Y_findKind ms_Y_findKind mi_Y) rfl rfl rfl (by decide +kernel) ⟨Nat.le_of_ble_eq_true rfl, Nat.le_of_ble_eq_true rfl⟩) (y_preV hI hw (y_recv hK.1 hw n1 (by rfl) rfl)) rfl rfl hl.1 rfl (lv_room (Nat.le_of_ble_eq_true rfl)) d_S_atLast_7 ⟨Nat.le_of_ble_eq_true rfl, Nat.le_of_ble_eq_true rfl⟩) hw hA (fun r u_ H locs he hw => ?_)
    subst he
    rw [yrf_n]
    refine lv_iload_n hx hb d_S_atLast_10 rfl (lv_at hl 2 rfl) ?_
    refine yc_l (va_runS (As := [.null, .int _]) (rest := []) ⟨hx, hb, hml, hown, hts⟩ (c_S_keptValue_null l D cc ad LL X b0 _ u v) (va_cwS 2 hts (yg_callS mc_S_keptValue ml_S_62 mt_S_keptValue mi_S) rfl rfl rfl (by decide +kernel) ⟨Nat.le_of_ble_eq_true rfl, Nat.le_of_ble_eq_true rfl⟩) (y_preS hI hw) rfl rfl hl.1 rfl (lv_room (Nat.le_of_ble_eq_true rfl)) d_S_atLast_11 ⟨Nat.le_of_ble_eq_true rfl, Nat.le_of_ble_eq_true rfl⟩) hw hA (fun r u_ H locs he hw => ?_)
    subst he
    exact ye_l hI u ⟨s_D u 1, uF, by rw [← uT1]; unfold a_at; rw [yin_no (show x < 0 ∨ nI (yp_n (s_T u 1)) ≤ x from (by show x < 0 ∨ nI (s_n u 1) ≤ x; rw [un]; exact hno))], uJ, uc, uT, uD⟩ hw d_S_atLast_14
  · refine y_ofW (cc := b_S_atLast) (maxL := 3) (ret := (some .long)) (by decide) rfl (Nat.le_of_ble_eq_true rfl) ?_
    intro pv ev sv mv bv tv cv ls hI hsz hw hl
    obtain ⟨hx, hb, hr, hml, hts, hown, hlocks, hnm, hK, hAb, hb0, hA⟩ := id hI
    have ht : ∀ w ∈ lg_tbl, w.before _ sv = true := fun w h => hts w (List.mem_cons_of_mem _ h)
    have hl : lv_has ls 3 [(0, .ref (ad (0, 0, 0))), (1, .int (nI j)), (2, .int v)] := hl
    refine lv_aload_n hx hb d_S_atLast_0 rfl (lv_at hl 0 rfl) ?_
    refine yc_q (va_runV (As := []) (rest := []) ⟨hx, hb, hml, hown, hts⟩ (c_S_settled l D cc ad LL X b0 _ σ hL hJ) (cwV 0 hts (yg_call mc_S_settled ml_S_82 mm_S_settled ms_S_settled mi_S) rfl rfl rfl (by decide +kernel) ⟨Nat.le_of_ble_eq_true rfl, Nat.le_of_ble_eq_true rfl⟩) (y_preV hI hw (y_recv hK.1 hw o0 (by rfl) rfl)) rfl rfl hl.1 rfl (lv_room (Nat.le_of_ble_eq_true rfl)) d_S_atLast_1 ⟨Nat.le_of_ble_eq_true rfl, Nat.le_of_ble_eq_true rfl⟩) hw hA (fun r u H locs he hw => ?_)
    obtain ⟨rfl, hSt⟩ := he
    rw [yrf_s]
    obtain ⟨uJ, uc, uf, uT, uD⟩ := id hSt
    have un : s_n u 1 = s_n σ 0 := by rw [uJ.2.2.1.1]; unfold s_n; rw [uc]
    have unc : s_nc u 1 = s_nc σ 0 := by rw [uJ.2.2.1.2.1]; unfold s_nc; rw [uc]
    obtain ⟨uT1, uF⟩ := St_fin hSt
    have hLu : ∀ q, yL u q → q ∈ LL := L_cnt uc hL
    have ui := uJ.2.1
    have hju : j < s_n u 1 := by rw [un]; exact hj
    have h5 : (5, 1, j) ∈ LL := hLu _ ⟨by omega, hju⟩
    have hjn : yin (nI j) (yp_n (s_T u 1)) = some j := yin_some hju (by show s_n u 1 < _; rw [un]; omega)
    by_cases hk6 : (s_ac u 1 j).1 = 6
    · refine lv_iload_n hx hb d_S_atLast_4 rfl (lv_at hl 1 rfl) ?_
      refine lv_bipush (v := (nI 6)) hx hb d_S_atLast_5 (by decide) ?_
      refine yc_q (va_runV (As := [.int _, .int _]) (rest := []) ⟨hx, hb, hml, hown, hts⟩ (c_Y_findKind l D cc ad LL X b0 _ u hLu 1 (by omega) ui j hju 6 (by omega) hk6) (cwV 2 hts (yg_call mc_Y_findKind ml_S_29 mm_Y_findKind ms_Y_findKind mi_Y) rfl rfl rfl (by decide +kernel) ⟨Nat.le_of_ble_eq_true rfl, Nat.le_of_ble_eq_true rfl⟩) (y_preV hI hw (y_recv hK.1 hw n1 (by rfl) rfl)) rfl rfl hl.1 rfl (lv_room (Nat.le_of_ble_eq_true rfl)) d_S_atLast_7 ⟨Nat.le_of_ble_eq_true rfl, Nat.le_of_ble_eq_true rfl⟩) hw hA (fun r u_ H locs he hw => ?_)
      subst he
      rw [yrf_s]
      refine lv_iload_n hx hb d_S_atLast_10 rfl (lv_at hl 2 rfl) ?_
      refine yc_l (va_runS (As := [.ref _, .int _]) (rest := []) ⟨hx, hb, hml, hown, hts⟩ (c_S_keptValue l D cc ad LL X b0 _ u hLu 1 j (by omega) hju ui hk6 v) (va_cwS 2 hts (yg_callS mc_S_keptValue ml_S_62 mt_S_keptValue mi_S) rfl rfl rfl (by decide +kernel) ⟨Nat.le_of_ble_eq_true rfl, Nat.le_of_ble_eq_true rfl⟩) (y_preS hI hw) rfl rfl hl.1 rfl (lv_room (Nat.le_of_ble_eq_true rfl)) d_S_atLast_11 ⟨Nat.le_of_ble_eq_true rfl, Nat.le_of_ble_eq_true rfl⟩) hw hA (fun r u_ H locs he hw => ?_)
      subst he
      exact ye_l hI u ⟨s_D u 1, uF, by rw [← uT1]; unfold a_at; rw [hjn]; show _ = if (s_ac u 1 j).1 = 6 then _ else _; rw [if_pos hk6]; exact at_eq hk6 v, uJ, uc, uT, uD⟩ hw d_S_atLast_14
    · refine lv_iload_n hx hb d_S_atLast_4 rfl (lv_at hl 1 rfl) ?_
      refine lv_bipush (v := (nI 6)) hx hb d_S_atLast_5 (by decide) ?_
      refine yc_q (va_runV (As := [.int _, .int _]) (rest := []) ⟨hx, hb, hml, hown, hts⟩ (c_Y_findKind_other l D cc ad LL X b0 _ u hLu 1 (by omega) ui j hju 6 (by omega) hk6) (cwV 2 hts (yg_call mc_Y_findKind ml_S_29 mm_Y_findKind ms_Y_findKind mi_Y) rfl rfl rfl (by decide +kernel) ⟨Nat.le_of_ble_eq_true rfl, Nat.le_of_ble_eq_true rfl⟩) (y_preV hI hw (y_recv hK.1 hw n1 (by rfl) rfl)) rfl rfl hl.1 rfl (lv_room (Nat.le_of_ble_eq_true rfl)) d_S_atLast_7 ⟨Nat.le_of_ble_eq_true rfl, Nat.le_of_ble_eq_true rfl⟩) hw hA (fun r u_ H locs he hw => ?_)
      subst he
      rw [yrf_n]
      refine lv_iload_n hx hb d_S_atLast_10 rfl (lv_at hl 2 rfl) ?_
      refine yc_l (va_runS (As := [.null, .int _]) (rest := []) ⟨hx, hb, hml, hown, hts⟩ (c_S_keptValue_null l D cc ad LL X b0 _ u v) (va_cwS 2 hts (yg_callS mc_S_keptValue ml_S_62 mt_S_keptValue mi_S) rfl rfl rfl (by decide +kernel) ⟨Nat.le_of_ble_eq_true rfl, Nat.le_of_ble_eq_true rfl⟩) (y_preS hI hw) rfl rfl hl.1 rfl (lv_room (Nat.le_of_ble_eq_true rfl)) d_S_atLast_11 ⟨Nat.le_of_ble_eq_true rfl, Nat.le_of_ble_eq_true rfl⟩) hw hA (fun r u_ H locs he hw => ?_)
      subst he
      exact ye_l hI u ⟨s_D u 1, uF, by rw [← uT1]; unfold a_at; rw [hjn]; show _ = if (s_ac u 1 j).1 = 6 then _ else _; rw [if_neg hk6], uJ, uc, uT, uD⟩ hw d_S_atLast_14
set_option maxHeartbeats 4000000 in
set_option maxRecDepth 100000 in
theorem c_S_fullAtLast (l : Launch) (D : va_G) (cc : ClassId × ClassId × ClassId) (ad : yl → Nat) (LL : List yl) (X : va_W) (b0 sz : Nat) (σ : ys) (hL : ∀ q, yL σ q → q ∈ LL) (hJ : yJ σ) (x : Int32) : Met l y_S_fullAtLast w_S_fullAtLast ({ frames := 6, cells := 0, slots := 0, locals := 132 }) (yPr D cc b0 [.ref (ad (0, 0, 0)), .int x] (yW cc ad LL X σ) sz) (va_Qi (fun r σ' => ∃ N, yp_fin (s_T σ 0) (s_D σ 0) N ∧ r = a_full (s_T σ 0) (s_nc σ 0) N x ∧ yJ σ' ∧ σ'.2.1 = σ.2.1 ∧ s_T σ' 0 = s_T σ 0 ∧ s_D σ' 0 = s_D σ 0) (yB D ycl (yW cc ad LL X σ) sz (fun σ' => yW cc ad LL X σ')) (va_A (yW cc ad LL X σ) sz)) 0 0 (va_A (yW cc ad LL X σ) sz) := by
  have o0 : (0, 0, 0) ∈ LL := hL _ ⟨rfl, rfl⟩
  have n0 : (1, 0, 0) ∈ LL := hL _ ⟨by omega, rfl⟩
  have n1 : (1, 1, 0) ∈ LL := hL _ ⟨by omega, rfl⟩
  have hi := hJ.1
  have hi1 := hJ.2.1
  have hn10 := hi.1.1
  have hc16 := hi.2.1
  have hm10 := hi1.1.1
  have hd16 := hi1.2.1
  refine y_ofW (cc := b_S_fullAtLast) (maxL := 2) (ret := (some .int)) (by decide) rfl (Nat.le_of_ble_eq_true rfl) ?_
  intro pv ev sv mv bv tv cv ls hI hsz hw hl
  obtain ⟨hx, hb, hr, hml, hts, hown, hlocks, hnm, hK, hAb, hb0, hA⟩ := id hI
  have ht : ∀ w ∈ lg_tbl, w.before _ sv = true := fun w h => hts w (List.mem_cons_of_mem _ h)
  have hl : lv_has ls 2 [(0, .ref (ad (0, 0, 0))), (1, .int x)] := hl
  refine lv_aload_n hx hb d_S_fullAtLast_0 rfl (lv_at hl 0 rfl) ?_
  refine yc_q (va_runV (As := []) (rest := []) ⟨hx, hb, hml, hown, hts⟩ (c_S_settled l D cc ad LL X b0 _ σ hL hJ) (cwV 0 hts (yg_call mc_S_settled ml_S_82 mm_S_settled ms_S_settled mi_S) rfl rfl rfl (by decide +kernel) ⟨Nat.le_of_ble_eq_true rfl, Nat.le_of_ble_eq_true rfl⟩) (y_preV hI hw (y_recv hK.1 hw o0 (by rfl) rfl)) rfl rfl hl.1 rfl (lv_room (Nat.le_of_ble_eq_true rfl)) d_S_fullAtLast_1 ⟨Nat.le_of_ble_eq_true rfl, Nat.le_of_ble_eq_true rfl⟩) hw hA (fun r u H locs he hw => ?_)
  obtain ⟨rfl, hSt⟩ := he
  rw [yrf_s]
  obtain ⟨uJ, uc, uf, uT, uD⟩ := id hSt
  have un : s_n u 1 = s_n σ 0 := by rw [uJ.2.2.1.1]; unfold s_n; rw [uc]
  have unc : s_nc u 1 = s_nc σ 0 := by rw [uJ.2.2.1.2.1]; unfold s_nc; rw [uc]
  obtain ⟨uT1, uF⟩ := St_fin hSt
  have hLu : ∀ q, yL u q → q ∈ LL := L_cnt uc hL
  have ui := uJ.2.1
  refine lv_iload_n hx hb d_S_fullAtLast_4 rfl (lv_at hl 1 rfl) ?_
  refine yc_i (va_runV (As := [.int _]) (rest := []) ⟨hx, hb, hml, hown, hts⟩ (c_Y_findFull l D cc ad LL X b0 _ u hLu 1 (by omega) ui x) (cwV 1 hts (yg_call mc_Y_findFull ml_S_86 mm_Y_findFull ms_Y_findFull mi_Y) rfl rfl rfl (by decide +kernel) ⟨Nat.le_of_ble_eq_true rfl, Nat.le_of_ble_eq_true rfl⟩) (y_preV hI hw (y_recv hK.1 hw n1 (by rfl) rfl)) rfl rfl hl.1 rfl (lv_room (Nat.le_of_ble_eq_true rfl)) d_S_fullAtLast_5 ⟨Nat.le_of_ble_eq_true rfl, Nat.le_of_ble_eq_true rfl⟩) hw hA (fun r u_ H locs he hw => ?_)
  subst he
  exact ye_i hI u ⟨s_D u 1, uF, by rw [← uT1, ← unc]; exact full_eq u x, uJ, uc, uT, uD⟩ hw d_S_fullAtLast_8
end
section
/-! ROWS FOR WHAT IS MADE, AND FOR STATIC ARRAYS -/
section YRN
variable {p : Program} {l : Launch} {e : Env} {R : Room} {s : State} {m : MethodId} {args : Array Value} {below : List Frame} {meth : Method} {c : Code} {H : Heap} {locs : List Loc} {cells slots : Nat} {Q : State → Prop}
variable {cc : ByteArray} {D : va_G} {cl : List vw_C} {tys : List (ClassId × FieldType)} {A : Nat → Prop} {H0 : Heap} {ad : yl → Nat} {LL : List yl} {g : yl → va_E} {X : va_W} {q : yl} {pc : Nat} {ls : Array Slot} {rest : List Value}
theorem y_pushed {a : Nat} {x : va_E} (hq : q ∉ LL) (hw : yH D cl A H0 H locs ((wl ad LL g ++ X) ++ [(a, x)])) : ∃ ad' : yl → Nat, ad' q = a ∧ (∀ z, z ∈ LL → ad' z = ad z) ∧ yH D cl A H0 H locs (wl ad' (LL ++ [q]) (yu g q x) ++ X) := ⟨yu ad q a, yu_s _ _ _, fun z hz => yu_n _ _ (fun h => hq (h ▸ hz)), yH.pushed hq hw⟩
theorem yr_new (hexec : p.tables.exec = Jvm.exec) (hb : c.code = cc) {own C : String} {T : u_T} {N ci index : Nat} {Ts : List Cond} {fs : List Value} (hts : ∀ w ∈ Ts, w.before args s = true) (hin : ∀ w ∈ u_ws C T N, w ∈ Ts) (ty : Nat → FieldType) (hty : ∀ k, k < N → parseFieldDescriptor (T k).2.2.1 = some (ty k)) (hown : s.vm.findClass own = some m.cls) (hcl : (Cond.classLink own index C).before args s = true) (hinst : (Cond.instantiable C N).before args s = true) (hini : (Cond.initialized C).before args s = true) (hK : va_K D cl tys s) (hw : yH D cl A H0 H locs (wl ad LL g ++ X)) (hA : ∀ z, H0.size ≤ z → A z) (q : yl) (hq : q ∉ LL) (hc : cl[ci]? = some (C, T, N)) (hfs : ∀ j, j < N → defaultValue (ty j) = vp_V fs j) (hcells : cells + 1 ≤ R.cells) (hslots : slots + N ≤ R.slots) (hdg : decode cc pc = .ok (.new index, 3))
    (kk : ∀ (ad' : yl → Nat) (H1 : Heap), (∀ z, z ∈ LL → ad' z = ad z) → yH D cl A H0 H1 locs (wl ad' (LL ++ [q]) (yu g q (.inr (ci, fs))) ++ X) → W p l e R s m args below meth c H1 locs (cells + 1) (slots + N) Q (F0 m (pc + 3) ls (.ref (ad' q) :: rest))) : W p l e R s m args below meth c H locs cells slots Q (F0 m pc ls rest) := by
  refine va_new hexec hb hts hin ty hty hown hcl hinst hini hK hw.1 hw.2.1 hw.2.2 hA hc hfs hcells hslots hdg (fun a H1 hP hD hS => ?_)
  obtain ⟨ad', e1, e2, e3⟩ := y_pushed hq ⟨hP, hD, hS⟩
  have := kk ad' H1 e2 e3
  rw [e1] at this
  exact this
theorem yr_newi (hexec : p.tables.exec = Jvm.exec) (hb : c.code = cc) {cA : ClassId} {n : Int32} {N' : Nat} (harr : (Cond.arrayClass .int).before args s = true) (hK : va_K D cl tys s) (hF : ∀ x ∈ tys, s.vm.findClass ("[" ++ x.2.toString) = some x.1) (ht : (cA, FieldType.int) ∈ tys) (hw : yH D cl A H0 H locs (wl ad LL g ++ X)) (hA : ∀ z, H0.size ≤ z → A z) (q : yl) (hq : q ∉ LL) (hn : ¬ n < 0) (hN : n.toNatClampNeg = N') (hb2 : N' ≤ 10000) (hcells : cells + 1 ≤ R.cells) (hslots : slots + N' ≤ R.slots) (hdg : decode cc pc = .ok (.newarray .int, 2))
    (kk : ∀ (ad' : yl → Nat) (H1 : Heap), (∀ z, z ∈ LL → ad' z = ad z) → yH D cl A H0 H1 locs (wl ad' (LL ++ [q]) (yu g q (.inl (cA, N', .inl (fun _ => 0)))) ++ X) → W p l e R s m args below meth c H1 locs (cells + 1) (slots + N') Q (F0 m (pc + 2) ls (.ref (ad' q) :: rest))) : W p l e R s m args below meth c H locs cells slots Q (F0 m pc ls (.int n :: rest)) := by
  refine va_newa (atype := .int) (ty := .int) (a0 := (N', .inl (fun _ => 0))) hexec hb harr rfl hK hw.1 hw.2.1 hw.2.2 hA (fun _ => rfl) hn hN (by show N' * 4 ≤ _; omega) hcells hslots hdg (fun a cB H1 hK2 hP hD hS => ?_)
  have h1 : s.vm.findClass ("[" ++ FieldType.int.toString) = some cB := (hK2.2 tys.length (cB, .int) (by rw [List.getElem?_append_right (Nat.le_refl _), Nat.sub_self]; rfl)).2
  have h2 := hF _ ht
  have hcc : cB = cA := Option.some.inj (h1.symm.trans h2)
  subst hcc
  obtain ⟨ad', e1, e2, e3⟩ := y_pushed hq ⟨hP, hD, hS⟩
  have := kk ad' H1 e2 e3
  rw [e1] at this
  exact this
theorem yr_newq (hexec : p.tables.exec = Jvm.exec) (hb : c.code = cc) {own C : String} {index : Nat} {cA : ClassId} {n : Int32} {N' : Nat} (hown : s.vm.findClass own = some m.cls) (hclink : (Cond.classLink own index C).before args s = true) (hover : va_AO C s) (hK : va_K D cl tys s) (hF : ∀ x ∈ tys, s.vm.findClass ("[" ++ x.2.toString) = some x.1) (ht : (cA, FieldType.object C) ∈ tys) (hw : yH D cl A H0 H locs (wl ad LL g ++ X)) (hA : ∀ z, H0.size ≤ z → A z) (q : yl) (hq : q ∉ LL) (hn : ¬ n < 0) (hN : n.toNatClampNeg = N') (hb2 : N' ≤ 10000) (hcells : cells + 1 ≤ R.cells) (hslots : slots + N' ≤ R.slots) (hdg : decode cc pc = .ok (.anewarray index, 3))
    (kk : ∀ (ad' : yl → Nat) (H1 : Heap), (∀ z, z ∈ LL → ad' z = ad z) → yH D cl A H0 H1 locs (wl ad' (LL ++ [q]) (yu g q (.inl (cA, N', .inr (.inr (.inr (.inr (fun _ => none))))))) ++ X) → W p l e R s m args below meth c H1 locs (cells + 1) (slots + N') Q (F0 m (pc + 3) ls (.ref (ad' q) :: rest))) : W p l e R s m args below meth c H locs cells slots Q (F0 m pc ls (.int n :: rest)) := by
  refine va_newq hexec hb hown hclink hover hK hw.1 hw.2.1 hw.2.2 hA hn hN (by omega) hcells hslots hdg (fun a cB H1 hK2 hP hD hS => ?_)
  obtain ⟨kA, comp, -, -, -, h1⟩ := (hK2.2 tys.length (cB, .object C) (by rw [List.getElem?_append_right (Nat.le_refl _), Nat.sub_self]; rfl)).2
  have h2 := hF _ ht
  have hcc : cB = cA := Option.some.inj (h1.symm.trans h2)
  subst hcc
  obtain ⟨ad', e1, e2, e3⟩ := y_pushed hq ⟨hP, hD, hS⟩
  have := kk ad' H1 e2 e3
  rw [e1] at this
  exact this
end YRN
theorem mw_objm : Cond.instanceMethod Lib.objectInit ∈ lg_tbl := lg_in (lw_in1 (i := 14) (by decide +kernel)) (by decide +kernel)
theorem mw_objc : Cond.code Lib.objectInit ⟨#[0xb1]⟩ 1 none ∈ lg_tbl := lg_in (lw_in1 (i := 15) (by decide +kernel)) (by decide +kernel)
/-- the same world by other words: same addresses, same cells at the places that are there -/
theorem y_same {D : va_G} {cl : List vw_C} {A : Nat → Prop} {H0 H : Heap} {locs : List Loc} {ad : yl → Nat} {LL : List yl} {g g' : yl → va_E} {X : va_W} (hw : yH D cl A H0 H locs (wl ad LL g ++ X)) (h : ∀ q, q ∈ LL → g q = g' q) : yH D cl A H0 H locs (wl ad LL g' ++ X) := by
  rw [wl_congr (ad := ad) (ad' := ad) (g := g) (g' := g') (fun q hq => ⟨rfl, h q hq⟩)] at hw
  exact hw
end
section
/-! CONSTRUCTORS -/
set_option maxHeartbeats 4000000 in
set_option maxRecDepth 100000 in
theorem c_C_init (l : Launch) (D : va_G) (cc : ClassId × ClassId × ClassId) (ad : yl → Nat) (LL : List yl) (g : yl → va_E) (X : va_W) (b0 sz : Nat) (y c : Nat) (h9 : (9, y, c) ∈ LL) (h10 : (10, y, c) ∉ LL) (hg : g (9, y, c) = .inr (k_C, [.int 0, .null, .int 0, .int 0])) (room : Int32) : Met l y_C_init w_C_init ({ frames := 1, cells := 1, slots := 8, locals := 12 }) (yPr D cc b0 [.ref (ad (9, y, c)), .int room] (wl ad LL g ++ X) sz) (va_Qv (fun ad' : yl → Nat => ∀ z, z ∈ LL → ad' z = ad z) (yB D ycl (wl ad LL g ++ X) sz (fun ad' => wl ad' (LL ++ [(10, y, c)]) (yu (yu g (10, y, c) (.inl (cc.1, 8, .inl (fun _ => 0)))) (9, y, c) (.inr (k_C, [.int room, .ref (ad' (10, y, c)), .int 0, .int 0]))) ++ X)) (va_A (wl ad LL g ++ X) sz)) 1 8 (va_A (wl ad LL g ++ X) sz) := by
  refine y_ofW (cc := b_C_init) (maxL := 2) (ret := none) (by decide) rfl (Nat.le_of_ble_eq_true rfl) ?_
  intro pv ev sv mv bv tv cv ls hI hsz hw hl
  generalize hargs : ([.ref (ad (9, y, c)), .int room] : List Value).toArray = args at hI ⊢
  obtain ⟨hx, hb, hr, hml, hts, hown, hlocks, hnm, hK, hAb, hb0, hA⟩ := id hI
  have ht : ∀ w ∈ lg_tbl, w.before _ sv = true := fun w h => hts w (List.mem_cons_of_mem _ h)
  have hl : lv_has ls 2 [(0, .ref (ad (9, y, c))), (1, .int room)] := hl
  refine lv_aload_n hx hb d_C_init_0 rfl (lv_at hl 0 rfl) ?_
  refine W.objInit hx hb hown (ht _ ml_C_3) (ht _ mw_objm) (ht _ mw_objc) rfl (by rw [hml]; exact hl.1) rfl d_C_init_1 (Nat.le_of_ble_eq_true rfl) (Nat.le_of_ble_eq_true rfl) ?_
  refine W.eq (g2 := F0 mv 4 ls []) rfl ?_
  refine lv_aload_n hx hb d_C_init_4 rfl (lv_at hl 0 rfl) ?_
  refine lv_iload_n hx hb d_C_init_5 rfl (lv_at hl 1 rfl) ?_
  refine yr_putF (ty := .int) (C := R_C) (T := F_C) (N := 4) (ci := k_C) hx hb ht j_C t_C t_C_ok n_C hown hK.1 hw h9 hg rfl 0 (by decide) (ht _ mf_C_9) (fun _ h9 => h9) rfl hnm rfl (by decide +kernel) rfl rfl (Nat.le_of_ble_eq_true rfl) d_C_init_6 (fun H locs hw => ?_)
  refine lv_aload_n hx hb d_C_init_9 rfl (lv_at hl 0 rfl) ?_
  refine lv_bipush (v := (nI 8)) hx hb d_C_init_10 (by decide) ?_
  refine yr_newi (N' := 8) hx hb (ht _ ma_int) hK.1 hK.2.1 List.mem_cons_self hw hA (10, y, c) h10 (nI_pos (by omega)) (nI_clamp (by omega)) (by omega) (Nat.le_of_ble_eq_true rfl) (Nat.le_of_ble_eq_true rfl) d_C_init_12 (fun ad1 H hag hw => ?_)
  rw [← hag _ h9] at hl ⊢
  have h9 : (9, y, c) ∈ LL ++ [(10, y, c)] := List.mem_append_left _ h9
  refine yr_putF (ty := .array .int) (C := R_C) (T := F_C) (N := 4) (ci := k_C) hx hb ht j_C t_C t_C_ok n_C hown hK.1 hw h9 (by rw [yu_n _ _ (by simp)]; exact yu_s _ _ _) rfl 1 (by decide) (ht _ mf_C_15) (fun _ h9 => h9) rfl hnm rfl (by decide +kernel) rfl rfl (Nat.le_of_ble_eq_true rfl) d_C_init_14 (fun H locs hw => ?_)
  refine lv_aload_n hx hb d_C_init_17 rfl (lv_at hl 0 rfl) ?_
  refine lv_iconst (v := 0) hx hb d_C_init_18 (by decide) ?_
  refine yr_put (ty := .int) (C := R_C) (T := F_C) (N := 4) (ci := k_C) hx hb ht j_C t_C t_C_ok n_C hown hK.1 hw h9 (yu_s _ _ _) rfl 2 (by decide) (ht _ mf_C_19) (fun _ h9 => h9) rfl (by decide +kernel) rfl rfl (Nat.le_of_ble_eq_true rfl) d_C_init_19 (fun H locs hw => ?_)
  refine lv_aload_n hx hb d_C_init_22 rfl (lv_at hl 0 rfl) ?_
  refine lv_iconst (v := 0) hx hb d_C_init_23 (by decide) ?_
  refine yr_put (ty := .int) (C := R_C) (T := F_C) (N := 4) (ci := k_C) hx hb ht j_C t_C t_C_ok n_C hown hK.1 hw h9 (yu_s _ _ _) rfl 3 (by decide) (ht _ mf_C_22) (fun _ h9 => h9) rfl (by decide +kernel) rfl rfl (Nat.le_of_ble_eq_true rfl) d_C_init_24 (fun H locs hw => ?_)
  exact ye_v hI ad1 hag (y_same hw (fun q _ => by by_cases q9 : q = (9, y, c) <;> by_cases q10 : q = (10, y, c) <;> simp [yu, q9, q10])) d_C_init_27
set_option maxHeartbeats 4000000 in
set_option maxRecDepth 100000 in
theorem c_A_init (l : Launch) (D : va_G) (cc : ClassId × ClassId × ClassId) (ad : yl → Nat) (LL : List yl) (g : yl → va_E) (X : va_W) (b0 sz : Nat) (y i : Nat) (h5 : (5, y, i) ∈ LL) (h6 : (6, y, i) ∉ LL) (h7 : (7, y, i) ∉ LL) (h8 : (8, y, i) ∉ LL) (hg : g (5, y, i) = .inr (k_A, [.int 0, .int 0, .int 0, .null, .null, .null, .int 0, .int 0])) (k : Nat) (hk : k < 9) (a b : Int32) : Met l y_A_init w_A_init ({ frames := 1, cells := 3, slots := 64, locals := 12 }) (yPr D cc b0 [.ref (ad (5, y, i)), .int (nI k), .int a, .int b] (wl ad LL g ++ X) sz) (va_Qv (fun ad' : yl → Nat => ∀ z, z ∈ LL → ad' z = ad z) (yB D ycl (wl ad LL g ++ X) sz (fun ad' => wl ad' (((LL ++ [(6, y, i)]) ++ [(7, y, i)]) ++ [(8, y, i)]) (yu (yu (yu (yu g (6, y, i) (.inl (cc.2.2, 2, .inr (.inr (.inr (.inr (fun _ => none))))))) (7, y, i) (.inl (cc.2.2, 2, .inr (.inr (.inr (.inr (fun _ => none))))))) (8, y, i) (.inl (cc.1, yt_rows k, .inl (fun _ => 0)))) (5, y, i) (.inr (k_A, [.int (nI k), .int a, .int b, .ref (ad' (6, y, i)), .ref (ad' (7, y, i)), .ref (ad' (8, y, i)), .int 0, .int 0]))) ++ X)) (va_A (wl ad LL g ++ X) sz)) 3 64 (va_A (wl ad LL g ++ X) sz) := by
  have hr60 := yt_rows_le k
  refine y_ofW (cc := b_A_init) (maxL := 4) (ret := none) (by decide) rfl (Nat.le_of_ble_eq_true rfl) ?_
  intro pv ev sv mv bv tv cv ls hI hsz hw hl
  generalize hargs : ([.ref (ad (5, y, i)), .int (nI k), .int a, .int b] : List Value).toArray = args at hI ⊢
  obtain ⟨hx, hb, hr, hml, hts, hown, hlocks, hnm, hK, hAb, hb0, hA⟩ := id hI
  have ht : ∀ w ∈ lg_tbl, w.before _ sv = true := fun w h => hts w (List.mem_cons_of_mem _ h)
  have hl : lv_has ls 4 [(0, .ref (ad (5, y, i))), (1, .int (nI k)), (2, .int a), (3, .int b)] := hl
  refine lv_aload_n hx hb d_A_init_0 rfl (lv_at hl 0 rfl) ?_
  refine W.objInit hx hb hown (ht _ ml_A_3) (ht _ mw_objm) (ht _ mw_objc) rfl (by rw [hml]; exact hl.1) rfl d_A_init_1 (Nat.le_of_ble_eq_true rfl) (Nat.le_of_ble_eq_true rfl) ?_
  refine W.eq (g2 := F0 mv 4 ls []) rfl ?_
  refine lv_aload_n hx hb d_A_init_4 rfl (lv_at hl 0 rfl) ?_
  refine lv_iload_n hx hb d_A_init_5 rfl (lv_at hl 1 rfl) ?_
  refine yr_putF (ty := .int) (C := R_A) (T := F_A) (N := 8) (ci := k_A) hx hb ht j_A t_A t_A_ok n_A hown hK.1 hw h5 hg rfl 0 (by decide) (ht _ mf_A_9) (fun _ h9 => h9) rfl hnm rfl (by decide +kernel) rfl rfl (Nat.le_of_ble_eq_true rfl) d_A_init_6 (fun H locs hw => ?_)
  refine lv_aload_n hx hb d_A_init_9 rfl (lv_at hl 0 rfl) ?_
  refine lv_iload_n hx hb d_A_init_10 rfl (lv_at hl 2 rfl) ?_
  refine yr_putF (ty := .int) (C := R_A) (T := F_A) (N := 8) (ci := k_A) hx hb ht j_A t_A t_A_ok n_A hown hK.1 hw h5 (yu_s _ _ _) rfl 1 (by decide) (ht _ mf_A_15) (fun _ h9 => h9) rfl hnm rfl (by decide +kernel) rfl rfl (Nat.le_of_ble_eq_true rfl) d_A_init_11 (fun H locs hw => ?_)
  refine lv_aload_n hx hb d_A_init_14 rfl (lv_at hl 0 rfl) ?_
  refine lv_iload_n hx hb d_A_init_15 rfl (lv_at hl 3 rfl) ?_
  refine yr_putF (ty := .int) (C := R_A) (T := F_A) (N := 8) (ci := k_A) hx hb ht j_A t_A t_A_ok n_A hown hK.1 hw h5 (yu_s _ _ _) rfl 2 (by decide) (ht _ mf_A_18) (fun _ h9 => h9) rfl hnm rfl (by decide +kernel) rfl rfl (Nat.le_of_ble_eq_true rfl) d_A_init_16 (fun H locs hw => ?_)
  refine lv_aload_n hx hb d_A_init_19 rfl (lv_at hl 0 rfl) ?_
  refine lv_iconst (v := (nI 2)) hx hb d_A_init_20 (by decide) ?_
  refine yr_newq (N' := 2) hx hb hown (ht _ mk_A_21) (hK.2.2.1 _ (by simp [yao])) hK.1 hK.2.1 (List.mem_cons_of_mem _ (List.mem_cons_of_mem _ List.mem_cons_self)) hw hA (6, y, i) h6 (nI_pos (by omega)) (nI_clamp (by omega)) (by omega) (Nat.le_of_ble_eq_true rfl) (Nat.le_of_ble_eq_true rfl) d_A_init_21 (fun ad1 H hag1 hw => ?_)
  rw [← hag1 _ h5] at hl ⊢
  have k5 := h5
  have h5 : (5, y, i) ∈ LL ++ [(6, y, i)] := List.mem_append_left _ h5
  refine yr_putF (ty := .array (.object "YardActors$Channel")) (C := R_A) (T := F_A) (N := 8) (ci := k_A) hx hb ht j_A t_A t_A_ok n_A hown hK.1 hw h5 (by rw [yu_n _ _ (by simp)]; exact yu_s _ _ _) rfl 3 (by decide) (ht _ mf_A_23) (fun _ h9 => h9) rfl hnm rfl (by decide +kernel) rfl rfl (Nat.le_of_ble_eq_true rfl) d_A_init_24 (fun H locs hw => ?_)
  refine lv_aload_n hx hb d_A_init_27 rfl (lv_at hl 0 rfl) ?_
  refine lv_iconst (v := (nI 2)) hx hb d_A_init_28 (by decide) ?_
  refine yr_newq (N' := 2) hx hb hown (ht _ mk_A_21) (hK.2.2.1 _ (by simp [yao])) hK.1 hK.2.1 (List.mem_cons_of_mem _ (List.mem_cons_of_mem _ List.mem_cons_self)) hw hA (7, y, i) (by simp [h7]) (nI_pos (by omega)) (nI_clamp (by omega)) (by omega) (Nat.le_of_ble_eq_true rfl) (Nat.le_of_ble_eq_true rfl) d_A_init_29 (fun ad2 H hag2 hw => ?_)
  rw [← hag2 _ h5] at hl ⊢
  have h5 : (5, y, i) ∈ (LL ++ [(6, y, i)]) ++ [(7, y, i)] := List.mem_append_left _ h5
  refine yr_putF (ty := .array (.object "YardActors$Channel")) (C := R_A) (T := F_A) (N := 8) (ci := k_A) hx hb ht j_A t_A t_A_ok n_A hown hK.1 hw h5 (by rw [yu_n _ _ (by simp)]; exact yu_s _ _ _) rfl 4 (by decide) (ht _ mf_A_27) (fun _ h9 => h9) rfl hnm rfl (by decide +kernel) rfl rfl (Nat.le_of_ble_eq_true rfl) d_A_init_32 (fun H locs hw => ?_)
  refine lv_aload_n hx hb d_A_init_35 rfl (lv_at hl 0 rfl) ?_
  obtain ⟨z0, t, z1, z2⟩ := hK.2.2.2 (30, "ROWS", yt_rows) (by simp [yzs])
  refine va_getsN hx hb (z1.narrow hAb) (hsz ▸ hw.2.2) hown (va_Nw.use rfl z0) (fun _ h9 => h9) d_A_init_36 ?_
  refine lv_iload_n hx hb d_A_init_39 rfl (lv_at hl 1 rfl) ?_
  refine va_ti (v := .int (nI (yt_rows k))) hx hb (z2.narrow hAb) (hsz ▸ hw.2.2) (vp_in_nI hk (by omega)) (by rw [nI_clamp (by omega)]) d_A_init_40 ?_
  refine yr_newi (N' := (yt_rows k)) hx hb (ht _ ma_int) hK.1 hK.2.1 List.mem_cons_self hw hA (8, y, i) (by simp [h8]) (nI_pos (by omega)) (nI_clamp (by omega)) (by omega) (Nat.le_of_ble_eq_true rfl) (by show 0 + 2 + 2 + yt_rows k ≤ 64; omega) d_A_init_41 (fun ad3 H hag3 hw => ?_)
  rw [← hag3 _ h5] at hl ⊢
  have h5 : (5, y, i) ∈ ((LL ++ [(6, y, i)]) ++ [(7, y, i)]) ++ [(8, y, i)] := List.mem_append_left _ h5
  refine yr_putF (ty := .array .int) (C := R_A) (T := F_A) (N := 8) (ci := k_A) hx hb ht j_A t_A t_A_ok n_A hown hK.1 hw h5 (by rw [yu_n _ _ (by simp)]; exact yu_s _ _ _) rfl 5 (by decide) (ht _ mf_A_34) (fun _ h9 => h9) rfl hnm rfl (by decide +kernel) rfl rfl (Nat.le_of_ble_eq_true rfl) d_A_init_43 (fun H locs hw => ?_)
  refine lv_aload_n hx hb d_A_init_46 rfl (lv_at hl 0 rfl) ?_
  refine lv_iconst (v := 0) hx hb d_A_init_47 (by decide) ?_
  refine yr_put (ty := .int) (C := R_A) (T := F_A) (N := 8) (ci := k_A) hx hb ht j_A t_A t_A_ok n_A hown hK.1 hw h5 (yu_s _ _ _) rfl 6 (by decide) (ht _ mf_A_37) (fun _ h9 => h9) rfl (by decide +kernel) rfl rfl (Nat.le_of_ble_eq_true rfl) d_A_init_48 (fun H locs hw => ?_)
  refine lv_aload_n hx hb d_A_init_51 rfl (lv_at hl 0 rfl) ?_
  refine lv_iconst (v := 0) hx hb d_A_init_52 (by decide) ?_
  refine yr_put (ty := .int) (C := R_A) (T := F_A) (N := 8) (ci := k_A) hx hb ht j_A t_A t_A_ok n_A hown hK.1 hw h5 (yu_s _ _ _) rfl 7 (by decide) (ht _ mf_A_40) (fun _ h9 => h9) rfl (by decide +kernel) rfl rfl (Nat.le_of_ble_eq_true rfl) d_A_init_53 (fun H locs hw => ?_)
  have e6 : ad1 (6, y, i) = ad3 (6, y, i) := by rw [hag3 _ (by simp), hag2 _ (by simp)]
  have e7 : ad2 (7, y, i) = ad3 (7, y, i) := by rw [hag3 _ (by simp)]
  rw [e6, e7] at hw
  refine W.widen (k := 3) (n := 64) (by omega) (by show 0 + 2 + 2 + yt_rows k ≤ 64; omega) ?_
  exact ye_v hI ad3 (fun z hz => by rw [hag3 _ (by simp [hz]), hag2 _ (by simp [hz]), hag1 _ hz]) (y_same hw (fun q _ => by by_cases q5 : q = (5, y, i) <;> by_cases q6 : q = (6, y, i) <;> by_cases q7 : q = (7, y, i) <;> by_cases q8 : q = (8, y, i) <;> simp [yu, q5, q6, q7, q8])) d_A_init_56
set_option maxHeartbeats 4000000 in
set_option maxRecDepth 100000 in
theorem c_Y_init (l : Launch) (D : va_G) (cc : ClassId × ClassId × ClassId) (ad : yl → Nat) (LL : List yl) (g : yl → va_E) (X : va_W) (b0 sz : Nat) (y : Nat) (h1 : (1, y, 0) ∈ LL) (h2 : (2, y, 0) ∉ LL) (h3 : (3, y, 0) ∉ LL) (h4 : (4, y, 0) ∉ LL) (hg : g (1, y, 0) = .inr (k_Y, [.null, .null, .null, .int 0, .int 0])) : Met l y_Y_init w_Y_init ({ frames := 1, cells := 3, slots := 36, locals := 12 }) (yPr D cc b0 [.ref (ad (1, y, 0))] (wl ad LL g ++ X) sz) (va_Qv (fun ad' : yl → Nat => ∀ z, z ∈ LL → ad' z = ad z) (yB D ycl (wl ad LL g ++ X) sz (fun ad' => wl ad' (((LL ++ [(2, y, 0)]) ++ [(3, y, 0)]) ++ [(4, y, 0)]) (yu (yu (yu (yu g (2, y, 0) (.inl (cc.2.1, 10, .inr (.inr (.inr (.inr (fun _ => none))))))) (3, y, 0) (.inl (cc.2.2, 16, .inr (.inr (.inr (.inr (fun _ => none))))))) (4, y, 0) (.inl (cc.1, 10, .inl (fun _ => 0)))) (1, y, 0) (.inr (k_Y, [.ref (ad' (2, y, 0)), .ref (ad' (3, y, 0)), .ref (ad' (4, y, 0)), .int 0, .int 0]))) ++ X)) (va_A (wl ad LL g ++ X) sz)) 3 36 (va_A (wl ad LL g ++ X) sz) := by
  refine y_ofW (cc := b_Y_init) (maxL := 1) (ret := none) (by decide) rfl (Nat.le_of_ble_eq_true rfl) ?_
  intro pv ev sv mv bv tv cv ls hI hsz hw hl
  generalize hargs : ([.ref (ad (1, y, 0))] : List Value).toArray = args at hI ⊢
  obtain ⟨hx, hb, hr, hml, hts, hown, hlocks, hnm, hK, hAb, hb0, hA⟩ := id hI
  have ht : ∀ w ∈ lg_tbl, w.before _ sv = true := fun w h => hts w (List.mem_cons_of_mem _ h)
  have hl : lv_has ls 1 [(0, .ref (ad (1, y, 0)))] := hl
  refine lv_aload_n hx hb d_Y_init_0 rfl (lv_at hl 0 rfl) ?_
  refine W.objInit hx hb hown (ht _ ml_Y_3) (ht _ mw_objm) (ht _ mw_objc) rfl (by rw [hml]; exact hl.1) rfl d_Y_init_1 (Nat.le_of_ble_eq_true rfl) (Nat.le_of_ble_eq_true rfl) ?_
  refine W.eq (g2 := F0 mv 4 ls []) rfl ?_
  refine lv_aload_n hx hb d_Y_init_4 rfl (lv_at hl 0 rfl) ?_
  refine lv_bipush (v := (nI 10)) hx hb d_Y_init_5 (by decide) ?_
  refine yr_newq (N' := 10) hx hb hown (ht _ mk_Y_9) (hK.2.2.1 _ (by simp [yao])) hK.1 hK.2.1 (List.mem_cons_of_mem _ List.mem_cons_self) hw hA (2, y, 0) h2 (nI_pos (by omega)) (nI_clamp (by omega)) (by omega) (Nat.le_of_ble_eq_true rfl) (Nat.le_of_ble_eq_true rfl) d_Y_init_7 (fun ad1 H hag1 hw => ?_)
  rw [← hag1 _ h1] at hl ⊢
  have h1 : (1, y, 0) ∈ LL ++ [(2, y, 0)] := List.mem_append_left _ h1
  refine yr_putF (ty := .array (.object "YardActors$Actor")) (C := R_Y) (T := F_Y) (N := 5) (ci := k_Y) hx hb ht j_Y t_Y t_Y_ok n_Y hown hK.1 hw h1 (by rw [yu_n _ _ (by simp)]; exact hg) rfl 0 (by decide) (ht _ mf_Y_11) (fun _ h9 => h9) rfl hnm rfl (by decide +kernel) rfl rfl (Nat.le_of_ble_eq_true rfl) d_Y_init_10 (fun H locs hw => ?_)
  refine lv_aload_n hx hb d_Y_init_13 rfl (lv_at hl 0 rfl) ?_
  refine lv_bipush (v := (nI 16)) hx hb d_Y_init_14 (by decide) ?_
  refine yr_newq (N' := 16) hx hb hown (ht _ mk_Y_17) (hK.2.2.1 _ (by simp [yao])) hK.1 hK.2.1 (List.mem_cons_of_mem _ (List.mem_cons_of_mem _ List.mem_cons_self)) hw hA (3, y, 0) (by simp [h3]) (nI_pos (by omega)) (nI_clamp (by omega)) (by omega) (Nat.le_of_ble_eq_true rfl) (Nat.le_of_ble_eq_true rfl) d_Y_init_16 (fun ad2 H hag2 hw => ?_)
  rw [← hag2 _ h1] at hl ⊢
  have h1 : (1, y, 0) ∈ (LL ++ [(2, y, 0)]) ++ [(3, y, 0)] := List.mem_append_left _ h1
  refine yr_putF (ty := .array (.object "YardActors$Channel")) (C := R_Y) (T := F_Y) (N := 5) (ci := k_Y) hx hb ht j_Y t_Y t_Y_ok n_Y hown hK.1 hw h1 (by rw [yu_n _ _ (by simp)]; exact yu_s _ _ _) rfl 1 (by decide) (ht _ mf_Y_19) (fun _ h9 => h9) rfl hnm rfl (by decide +kernel) rfl rfl (Nat.le_of_ble_eq_true rfl) d_Y_init_19 (fun H locs hw => ?_)
  refine lv_aload_n hx hb d_Y_init_22 rfl (lv_at hl 0 rfl) ?_
  refine lv_bipush (v := (nI 10)) hx hb d_Y_init_23 (by decide) ?_
  refine yr_newi (N' := 10) hx hb (ht _ ma_int) hK.1 hK.2.1 List.mem_cons_self hw hA (4, y, 0) (by simp [h4]) (nI_pos (by omega)) (nI_clamp (by omega)) (by omega) (Nat.le_of_ble_eq_true rfl) (Nat.le_of_ble_eq_true rfl) d_Y_init_25 (fun ad3 H hag3 hw => ?_)
  rw [← hag3 _ h1] at hl ⊢
  have h1 : (1, y, 0) ∈ ((LL ++ [(2, y, 0)]) ++ [(3, y, 0)]) ++ [(4, y, 0)] := List.mem_append_left _ h1
  refine yr_putF (ty := .array .int) (C := R_Y) (T := F_Y) (N := 5) (ci := k_Y) hx hb ht j_Y t_Y t_Y_ok n_Y hown hK.1 hw h1 (by rw [yu_n _ _ (by simp)]; exact yu_s _ _ _) rfl 2 (by decide) (ht _ mf_Y_23) (fun _ h9 => h9) rfl hnm rfl (by decide +kernel) rfl rfl (Nat.le_of_ble_eq_true rfl) d_Y_init_27 (fun H locs hw => ?_)
  refine lv_aload_n hx hb d_Y_init_30 rfl (lv_at hl 0 rfl) ?_
  refine lv_iconst (v := 0) hx hb d_Y_init_31 (by decide) ?_
  refine yr_put (ty := .int) (C := R_Y) (T := F_Y) (N := 5) (ci := k_Y) hx hb ht j_Y t_Y t_Y_ok n_Y hown hK.1 hw h1 (yu_s _ _ _) rfl 3 (by decide) (ht _ mf_Y_27) (fun _ h9 => h9) rfl (by decide +kernel) rfl rfl (Nat.le_of_ble_eq_true rfl) d_Y_init_32 (fun H locs hw => ?_)
  refine lv_aload_n hx hb d_Y_init_35 rfl (lv_at hl 0 rfl) ?_
  refine lv_iconst (v := 0) hx hb d_Y_init_36 (by decide) ?_
  refine yr_put (ty := .int) (C := R_Y) (T := F_Y) (N := 5) (ci := k_Y) hx hb ht j_Y t_Y t_Y_ok n_Y hown hK.1 hw h1 (yu_s _ _ _) rfl 4 (by decide) (ht _ mf_Y_31) (fun _ h9 => h9) rfl (by decide +kernel) rfl rfl (Nat.le_of_ble_eq_true rfl) d_Y_init_37 (fun H locs hw => ?_)
  have e6 : ad1 (2, y, 0) = ad3 (2, y, 0) := by rw [hag3 _ (by simp), hag2 _ (by simp)]
  have e7 : ad2 (3, y, 0) = ad3 (3, y, 0) := by rw [hag3 _ (by simp)]
  rw [e6, e7] at hw
  exact ye_v hI ad3 (fun z hz => by rw [hag3 _ (by simp [hz]), hag2 _ (by simp [hz]), hag1 _ hz]) (y_same hw (fun q _ => by by_cases q5 : q = (1, y, 0) <;> by_cases q6 : q = (2, y, 0) <;> by_cases q7 : q = (3, y, 0) <;> by_cases q8 : q = (4, y, 0) <;> simp [yu, q5, q6, q7, q8])) d_Y_init_40
end
section
/-! ACTOR: free ins and outs; joining -/
theorem yt_ins_le (k : Nat) : yt_ins k ≤ 2 := by
  unfold yt_ins
  match k with
  | 0 => decide
  | 1 => decide
  | 2 => decide
  | 3 => decide
  | 4 => decide
  | 5 => decide
  | 6 => decide
  | 7 => decide
  | 8 => decide
  | n + 9 => exact Nat.zero_le _
theorem yt_outs_le (k : Nat) : yt_outs k ≤ 2 := by
  unfold yt_outs
  match k with
  | 0 => decide
  | 1 => decide
  | 2 => decide
  | 3 => decide
  | 4 => decide
  | 5 => decide
  | 6 => decide
  | 7 => decide
  | 8 => decide
  | n + 9 => exact Nat.zero_le _
set_option maxHeartbeats 4000000 in
set_option maxRecDepth 100000 in
theorem c_A_hasFreeIn_no (l : Launch) (D : va_G) (cc : ClassId × ClassId × ClassId) (ad : yl → Nat) (LL : List yl) (X : va_W) (b0 sz : Nat) (σ : ys) (hL : ∀ q, yL σ q → q ∈ LL) (y i : Nat) (hy : y < 2) (hn : i < s_n σ y) (hi : yI σ y) (x : Int32) (hno : x < 0 ∨ nI (yt_ins (s_ac σ y i).1) ≤ x) : Met l y_A_hasFreeIn w_A_hasFreeIn ({ frames := 0, cells := 0, slots := 0, locals := 0 }) (yPr D cc b0 [.ref (ad (5, y, i)), .int x] (yW cc ad LL X σ) sz) (yQi D (yW cc ad LL X σ) sz 0 (yW cc ad LL X σ)) 0 0 (va_A (yW cc ad LL X σ) sz) := by
  have h5 : (5, y, i) ∈ LL := hL _ ⟨hy, hn⟩
  have h6 : (6, y, i) ∈ LL := hL _ ⟨hy, hn⟩
  have h7 : (7, y, i) ∈ LL := hL _ ⟨hy, hn⟩
  have h8 : (8, y, i) ∈ LL := hL _ ⟨hy, hn⟩
  obtain ⟨a1, a2, a3, a4, a5⟩ := hi.2.2.1 i
  refine y_ofW (cc := b_A_hasFreeIn) (maxL := 2) (ret := (some .boolean)) (by decide) rfl (Nat.le_of_ble_eq_true rfl) ?_
  intro pv ev sv mv bv tv cv ls hI hsz hw hl
  obtain ⟨hx, hb, hr, hml, hts, hown, hlocks, hnm, hK, hAb, hb0, hA⟩ := id hI
  have ht : ∀ w ∈ lg_tbl, w.before _ sv = true := fun w h => hts w (List.mem_cons_of_mem _ h)
  have hl : lv_has ls 2 [(0, .ref (ad (5, y, i))), (1, .int x)] := hl
  refine lv_iload_n hx hb d_A_hasFreeIn_0 rfl (lv_at hl 1 rfl) ?_
  refine lv_if_lt (tgt := 29) hx hb d_A_hasFreeIn_1 (by decide) (fun c_1 => ?_) (fun c_1 => ?_)
  · refine lv_iconst (v := 0) hx hb d_A_hasFreeIn_29 (by decide) ?_
    exact ye_z hI (by decide) () rfl hw d_A_hasFreeIn_30
  · refine lv_iload_n hx hb d_A_hasFreeIn_4 rfl (lv_at hl 1 rfl) ?_
    obtain ⟨z0, t, z1, z2⟩ := hK.2.2.2 (43, "INS", yt_ins) (by simp [yzs])
    refine va_getsN hx hb (z1.narrow hAb) (hsz ▸ hw.2.2) hown (va_Nw.use rfl z0) (fun _ h9 => h9) d_A_hasFreeIn_5 ?_
    refine lv_aload_n hx hb d_A_hasFreeIn_8 rfl (lv_at hl 0 rfl) ?_
    refine yr_get (C := R_A) (T := F_A) (N := 8) (ci := k_A) hx hb ht j_A hown hK.1 hw (by assumption) (by rfl) rfl 0 (by decide) (ht _ mf_A_9) (fun _ h9 => h9) (by rfl) d_A_hasFreeIn_9 ?_
    refine va_ti (v := .int (nI (yt_ins (s_ac σ y i).1))) hx hb (z2.narrow hAb) (hsz ▸ hw.2.2) (vp_in_nI a1 (by omega)) (by rw [nI_clamp (by omega)]) d_A_hasFreeIn_12 ?_
    refine lv_icmp_ge (tgt := 29) hx hb d_A_hasFreeIn_13 (by decide) (fun c_13 => ?_) (fun c_13 => by exact (hno.elim (fun h => absurd h c_1) (fun h => absurd h c_13)))
    refine lv_iconst (v := 0) hx hb d_A_hasFreeIn_29 (by decide) ?_
    exact ye_z hI (by decide) () rfl hw d_A_hasFreeIn_30
set_option maxHeartbeats 4000000 in
set_option maxRecDepth 100000 in
theorem c_A_hasFreeIn (l : Launch) (D : va_G) (cc : ClassId × ClassId × ClassId) (ad : yl → Nat) (LL : List yl) (X : va_W) (b0 sz : Nat) (σ : ys) (hL : ∀ q, yL σ q → q ∈ LL) (y i : Nat) (hy : y < 2) (hn : i < s_n σ y) (hi : yI σ y) (j : Nat) (hj : j < yt_ins (s_ac σ y i).1) : Met l y_A_hasFreeIn w_A_hasFreeIn ({ frames := 0, cells := 0, slots := 0, locals := 0 }) (yPr D cc b0 [.ref (ad (5, y, i)), .int (nI j)] (yW cc ad LL X σ) sz) (yQi D (yW cc ad LL X σ) sz (yb (s_ic σ y i j).isNone) (yW cc ad LL X σ)) 0 0 (va_A (yW cc ad LL X σ) sz) := by
  have ht2 : yt_ins (s_ac σ y i).1 ≤ 2 := yt_ins_le _
  have h5 : (5, y, i) ∈ LL := hL _ ⟨hy, hn⟩
  have h6 : (6, y, i) ∈ LL := hL _ ⟨hy, hn⟩
  have h7 : (7, y, i) ∈ LL := hL _ ⟨hy, hn⟩
  have h8 : (8, y, i) ∈ LL := hL _ ⟨hy, hn⟩
  obtain ⟨a1, a2, a3, a4, a5⟩ := hi.2.2.1 i
  refine y_ofW (cc := b_A_hasFreeIn) (maxL := 2) (ret := (some .boolean)) (by decide) rfl (Nat.le_of_ble_eq_true rfl) ?_
  intro pv ev sv mv bv tv cv ls hI hsz hw hl
  obtain ⟨hx, hb, hr, hml, hts, hown, hlocks, hnm, hK, hAb, hb0, hA⟩ := id hI
  have ht : ∀ w ∈ lg_tbl, w.before _ sv = true := fun w h => hts w (List.mem_cons_of_mem _ h)
  have hl : lv_has ls 2 [(0, .ref (ad (5, y, i))), (1, .int (nI j))] := hl
  cases e : s_ic σ y i j with
  | none =>
    refine lv_iload_n hx hb d_A_hasFreeIn_0 rfl (lv_at hl 1 rfl) ?_
    refine lv_if_lt (tgt := 29) hx hb d_A_hasFreeIn_1 (by decide) (fun c_1 => by exact absurd c_1 (nI_pos (by omega))) (fun c_1 => ?_)
    refine lv_iload_n hx hb d_A_hasFreeIn_4 rfl (lv_at hl 1 rfl) ?_
    obtain ⟨z0, t, z1, z2⟩ := hK.2.2.2 (43, "INS", yt_ins) (by simp [yzs])
    refine va_getsN hx hb (z1.narrow hAb) (hsz ▸ hw.2.2) hown (va_Nw.use rfl z0) (fun _ h9 => h9) d_A_hasFreeIn_5 ?_
    refine lv_aload_n hx hb d_A_hasFreeIn_8 rfl (lv_at hl 0 rfl) ?_
    refine yr_get (C := R_A) (T := F_A) (N := 8) (ci := k_A) hx hb ht j_A hown hK.1 hw (by assumption) (by rfl) rfl 0 (by decide) (ht _ mf_A_9) (fun _ h9 => h9) (by rfl) d_A_hasFreeIn_9 ?_
    refine va_ti (v := .int (nI (yt_ins (s_ac σ y i).1))) hx hb (z2.narrow hAb) (hsz ▸ hw.2.2) (vp_in_nI a1 (by omega)) (by rw [nI_clamp (by omega)]) d_A_hasFreeIn_12 ?_
    refine lv_icmp_ge (tgt := 29) hx hb d_A_hasFreeIn_13 (by decide) (fun c_13 => by exact absurd ((nI_leI (by omega) (by omega)).mp c_13) (Nat.not_le.mpr hj)) (fun c_13 => ?_)
    refine lv_aload_n hx hb d_A_hasFreeIn_16 rfl (lv_at hl 0 rfl) ?_
    refine yr_get (C := R_A) (T := F_A) (N := 8) (ci := k_A) hx hb ht j_A hown hK.1 hw (by assumption) (by rfl) rfl 3 (by decide) (ht _ mf_A_23) (fun _ h9 => h9) (by rfl) d_A_hasFreeIn_17 ?_
    refine lv_iload_n hx hb d_A_hasFreeIn_20 rfl (lv_at hl 1 rfl) ?_
    refine yr_aldq (v := .null) hx hb hK.1 hw (by assumption) (by rfl) 2 rfl (vp_in_nI (by omega) (by omega)) (by rw [nI_clamp (by omega)]; show va_rf ((s_ic σ y i j).map _) = _; rw [e]; rfl) d_A_hasFreeIn_21 ?_
    refine lv_ifnonnullN hx hb d_A_hasFreeIn_22 ?_
    refine lv_iconst (v := 1) hx hb d_A_hasFreeIn_25 (by decide) ?_
    refine lv_goto (tgt := 30) hx hb d_A_hasFreeIn_26 (by decide) ?_
    exact ye_z hI (by decide) () rfl hw d_A_hasFreeIn_30
  | some c =>
    refine lv_iload_n hx hb d_A_hasFreeIn_0 rfl (lv_at hl 1 rfl) ?_
    refine lv_if_lt (tgt := 29) hx hb d_A_hasFreeIn_1 (by decide) (fun c_1 => by exact absurd c_1 (nI_pos (by omega))) (fun c_1 => ?_)
    refine lv_iload_n hx hb d_A_hasFreeIn_4 rfl (lv_at hl 1 rfl) ?_
    obtain ⟨z0, t, z1, z2⟩ := hK.2.2.2 (43, "INS", yt_ins) (by simp [yzs])
    refine va_getsN hx hb (z1.narrow hAb) (hsz ▸ hw.2.2) hown (va_Nw.use rfl z0) (fun _ h9 => h9) d_A_hasFreeIn_5 ?_
    refine lv_aload_n hx hb d_A_hasFreeIn_8 rfl (lv_at hl 0 rfl) ?_
    refine yr_get (C := R_A) (T := F_A) (N := 8) (ci := k_A) hx hb ht j_A hown hK.1 hw (by assumption) (by rfl) rfl 0 (by decide) (ht _ mf_A_9) (fun _ h9 => h9) (by rfl) d_A_hasFreeIn_9 ?_
    refine va_ti (v := .int (nI (yt_ins (s_ac σ y i).1))) hx hb (z2.narrow hAb) (hsz ▸ hw.2.2) (vp_in_nI a1 (by omega)) (by rw [nI_clamp (by omega)]) d_A_hasFreeIn_12 ?_
    refine lv_icmp_ge (tgt := 29) hx hb d_A_hasFreeIn_13 (by decide) (fun c_13 => by exact absurd ((nI_leI (by omega) (by omega)).mp c_13) (Nat.not_le.mpr hj)) (fun c_13 => ?_)
    refine lv_aload_n hx hb d_A_hasFreeIn_16 rfl (lv_at hl 0 rfl) ?_
    refine yr_get (C := R_A) (T := F_A) (N := 8) (ci := k_A) hx hb ht j_A hown hK.1 hw (by assumption) (by rfl) rfl 3 (by decide) (ht _ mf_A_23) (fun _ h9 => h9) (by rfl) d_A_hasFreeIn_17 ?_
    refine lv_iload_n hx hb d_A_hasFreeIn_20 rfl (lv_at hl 1 rfl) ?_
    refine yr_aldq (v := .ref (ad (9, y, c))) hx hb hK.1 hw (by assumption) (by rfl) 2 rfl (vp_in_nI (by omega) (by omega)) (by rw [nI_clamp (by omega)]; show va_rf ((s_ic σ y i j).map _) = _; rw [e]; rfl) d_A_hasFreeIn_21 ?_
    refine lv_ifnonnull (tgt := 29) hx hb d_A_hasFreeIn_22 (by decide) ?_
    refine lv_iconst (v := 0) hx hb d_A_hasFreeIn_29 (by decide) ?_
    exact ye_z hI (by decide) () rfl hw d_A_hasFreeIn_30
set_option maxHeartbeats 4000000 in
set_option maxRecDepth 100000 in
theorem c_A_hasFreeOut_no (l : Launch) (D : va_G) (cc : ClassId × ClassId × ClassId) (ad : yl → Nat) (LL : List yl) (X : va_W) (b0 sz : Nat) (σ : ys) (hL : ∀ q, yL σ q → q ∈ LL) (y i : Nat) (hy : y < 2) (hn : i < s_n σ y) (hi : yI σ y) (x : Int32) (hno : x < 0 ∨ nI (yt_outs (s_ac σ y i).1) ≤ x) : Met l y_A_hasFreeOut w_A_hasFreeOut ({ frames := 0, cells := 0, slots := 0, locals := 0 }) (yPr D cc b0 [.ref (ad (5, y, i)), .int x] (yW cc ad LL X σ) sz) (yQi D (yW cc ad LL X σ) sz 0 (yW cc ad LL X σ)) 0 0 (va_A (yW cc ad LL X σ) sz) := by
  have h5 : (5, y, i) ∈ LL := hL _ ⟨hy, hn⟩
  have h6 : (6, y, i) ∈ LL := hL _ ⟨hy, hn⟩
  have h7 : (7, y, i) ∈ LL := hL _ ⟨hy, hn⟩
  have h8 : (8, y, i) ∈ LL := hL _ ⟨hy, hn⟩
  obtain ⟨a1, a2, a3, a4, a5⟩ := hi.2.2.1 i
  refine y_ofW (cc := b_A_hasFreeOut) (maxL := 2) (ret := (some .boolean)) (by decide) rfl (Nat.le_of_ble_eq_true rfl) ?_
  intro pv ev sv mv bv tv cv ls hI hsz hw hl
  obtain ⟨hx, hb, hr, hml, hts, hown, hlocks, hnm, hK, hAb, hb0, hA⟩ := id hI
  have ht : ∀ w ∈ lg_tbl, w.before _ sv = true := fun w h => hts w (List.mem_cons_of_mem _ h)
  have hl : lv_has ls 2 [(0, .ref (ad (5, y, i))), (1, .int x)] := hl
  refine lv_iload_n hx hb d_A_hasFreeOut_0 rfl (lv_at hl 1 rfl) ?_
  refine lv_if_lt (tgt := 29) hx hb d_A_hasFreeOut_1 (by decide) (fun c_1 => ?_) (fun c_1 => ?_)
  · refine lv_iconst (v := 0) hx hb d_A_hasFreeOut_29 (by decide) ?_
    exact ye_z hI (by decide) () rfl hw d_A_hasFreeOut_30
  · refine lv_iload_n hx hb d_A_hasFreeOut_4 rfl (lv_at hl 1 rfl) ?_
    obtain ⟨z0, t, z1, z2⟩ := hK.2.2.2 (46, "OUTS", yt_outs) (by simp [yzs])
    refine va_getsN hx hb (z1.narrow hAb) (hsz ▸ hw.2.2) hown (va_Nw.use rfl z0) (fun _ h9 => h9) d_A_hasFreeOut_5 ?_
    refine lv_aload_n hx hb d_A_hasFreeOut_8 rfl (lv_at hl 0 rfl) ?_
    refine yr_get (C := R_A) (T := F_A) (N := 8) (ci := k_A) hx hb ht j_A hown hK.1 hw (by assumption) (by rfl) rfl 0 (by decide) (ht _ mf_A_9) (fun _ h9 => h9) (by rfl) d_A_hasFreeOut_9 ?_
    refine va_ti (v := .int (nI (yt_outs (s_ac σ y i).1))) hx hb (z2.narrow hAb) (hsz ▸ hw.2.2) (vp_in_nI a1 (by omega)) (by rw [nI_clamp (by omega)]) d_A_hasFreeOut_12 ?_
    refine lv_icmp_ge (tgt := 29) hx hb d_A_hasFreeOut_13 (by decide) (fun c_13 => ?_) (fun c_13 => by exact (hno.elim (fun h => absurd h c_1) (fun h => absurd h c_13)))
    refine lv_iconst (v := 0) hx hb d_A_hasFreeOut_29 (by decide) ?_
    exact ye_z hI (by decide) () rfl hw d_A_hasFreeOut_30
set_option maxHeartbeats 4000000 in
set_option maxRecDepth 100000 in
theorem c_A_hasFreeOut (l : Launch) (D : va_G) (cc : ClassId × ClassId × ClassId) (ad : yl → Nat) (LL : List yl) (X : va_W) (b0 sz : Nat) (σ : ys) (hL : ∀ q, yL σ q → q ∈ LL) (y i : Nat) (hy : y < 2) (hn : i < s_n σ y) (hi : yI σ y) (j : Nat) (hj : j < yt_outs (s_ac σ y i).1) : Met l y_A_hasFreeOut w_A_hasFreeOut ({ frames := 0, cells := 0, slots := 0, locals := 0 }) (yPr D cc b0 [.ref (ad (5, y, i)), .int (nI j)] (yW cc ad LL X σ) sz) (yQi D (yW cc ad LL X σ) sz (yb (s_oc σ y i j).isNone) (yW cc ad LL X σ)) 0 0 (va_A (yW cc ad LL X σ) sz) := by
  have ht2 : yt_outs (s_ac σ y i).1 ≤ 2 := yt_outs_le _
  have h5 : (5, y, i) ∈ LL := hL _ ⟨hy, hn⟩
  have h6 : (6, y, i) ∈ LL := hL _ ⟨hy, hn⟩
  have h7 : (7, y, i) ∈ LL := hL _ ⟨hy, hn⟩
  have h8 : (8, y, i) ∈ LL := hL _ ⟨hy, hn⟩
  obtain ⟨a1, a2, a3, a4, a5⟩ := hi.2.2.1 i
  refine y_ofW (cc := b_A_hasFreeOut) (maxL := 2) (ret := (some .boolean)) (by decide) rfl (Nat.le_of_ble_eq_true rfl) ?_
  intro pv ev sv mv bv tv cv ls hI hsz hw hl
  obtain ⟨hx, hb, hr, hml, hts, hown, hlocks, hnm, hK, hAb, hb0, hA⟩ := id hI
  have ht : ∀ w ∈ lg_tbl, w.before _ sv = true := fun w h => hts w (List.mem_cons_of_mem _ h)
  have hl : lv_has ls 2 [(0, .ref (ad (5, y, i))), (1, .int (nI j))] := hl
  cases e : s_oc σ y i j with
  | none =>
    refine lv_iload_n hx hb d_A_hasFreeOut_0 rfl (lv_at hl 1 rfl) ?_
    refine lv_if_lt (tgt := 29) hx hb d_A_hasFreeOut_1 (by decide) (fun c_1 => by exact absurd c_1 (nI_pos (by omega))) (fun c_1 => ?_)
    refine lv_iload_n hx hb d_A_hasFreeOut_4 rfl (lv_at hl 1 rfl) ?_
    obtain ⟨z0, t, z1, z2⟩ := hK.2.2.2 (46, "OUTS", yt_outs) (by simp [yzs])
    refine va_getsN hx hb (z1.narrow hAb) (hsz ▸ hw.2.2) hown (va_Nw.use rfl z0) (fun _ h9 => h9) d_A_hasFreeOut_5 ?_
    refine lv_aload_n hx hb d_A_hasFreeOut_8 rfl (lv_at hl 0 rfl) ?_
    refine yr_get (C := R_A) (T := F_A) (N := 8) (ci := k_A) hx hb ht j_A hown hK.1 hw (by assumption) (by rfl) rfl 0 (by decide) (ht _ mf_A_9) (fun _ h9 => h9) (by rfl) d_A_hasFreeOut_9 ?_
    refine va_ti (v := .int (nI (yt_outs (s_ac σ y i).1))) hx hb (z2.narrow hAb) (hsz ▸ hw.2.2) (vp_in_nI a1 (by omega)) (by rw [nI_clamp (by omega)]) d_A_hasFreeOut_12 ?_
    refine lv_icmp_ge (tgt := 29) hx hb d_A_hasFreeOut_13 (by decide) (fun c_13 => by exact absurd ((nI_leI (by omega) (by omega)).mp c_13) (Nat.not_le.mpr hj)) (fun c_13 => ?_)
    refine lv_aload_n hx hb d_A_hasFreeOut_16 rfl (lv_at hl 0 rfl) ?_
    refine yr_get (C := R_A) (T := F_A) (N := 8) (ci := k_A) hx hb ht j_A hown hK.1 hw (by assumption) (by rfl) rfl 4 (by decide) (ht _ mf_A_27) (fun _ h9 => h9) (by rfl) d_A_hasFreeOut_17 ?_
    refine lv_iload_n hx hb d_A_hasFreeOut_20 rfl (lv_at hl 1 rfl) ?_
    refine yr_aldq (v := .null) hx hb hK.1 hw (by assumption) (by rfl) 2 rfl (vp_in_nI (by omega) (by omega)) (by rw [nI_clamp (by omega)]; show va_rf ((s_oc σ y i j).map _) = _; rw [e]; rfl) d_A_hasFreeOut_21 ?_
    refine lv_ifnonnullN hx hb d_A_hasFreeOut_22 ?_
    refine lv_iconst (v := 1) hx hb d_A_hasFreeOut_25 (by decide) ?_
    refine lv_goto (tgt := 30) hx hb d_A_hasFreeOut_26 (by decide) ?_
    exact ye_z hI (by decide) () rfl hw d_A_hasFreeOut_30
  | some c =>
    refine lv_iload_n hx hb d_A_hasFreeOut_0 rfl (lv_at hl 1 rfl) ?_
    refine lv_if_lt (tgt := 29) hx hb d_A_hasFreeOut_1 (by decide) (fun c_1 => by exact absurd c_1 (nI_pos (by omega))) (fun c_1 => ?_)
    refine lv_iload_n hx hb d_A_hasFreeOut_4 rfl (lv_at hl 1 rfl) ?_
    obtain ⟨z0, t, z1, z2⟩ := hK.2.2.2 (46, "OUTS", yt_outs) (by simp [yzs])
    refine va_getsN hx hb (z1.narrow hAb) (hsz ▸ hw.2.2) hown (va_Nw.use rfl z0) (fun _ h9 => h9) d_A_hasFreeOut_5 ?_
    refine lv_aload_n hx hb d_A_hasFreeOut_8 rfl (lv_at hl 0 rfl) ?_
    refine yr_get (C := R_A) (T := F_A) (N := 8) (ci := k_A) hx hb ht j_A hown hK.1 hw (by assumption) (by rfl) rfl 0 (by decide) (ht _ mf_A_9) (fun _ h9 => h9) (by rfl) d_A_hasFreeOut_9 ?_
    refine va_ti (v := .int (nI (yt_outs (s_ac σ y i).1))) hx hb (z2.narrow hAb) (hsz ▸ hw.2.2) (vp_in_nI a1 (by omega)) (by rw [nI_clamp (by omega)]) d_A_hasFreeOut_12 ?_
    refine lv_icmp_ge (tgt := 29) hx hb d_A_hasFreeOut_13 (by decide) (fun c_13 => by exact absurd ((nI_leI (by omega) (by omega)).mp c_13) (Nat.not_le.mpr hj)) (fun c_13 => ?_)
    refine lv_aload_n hx hb d_A_hasFreeOut_16 rfl (lv_at hl 0 rfl) ?_
    refine yr_get (C := R_A) (T := F_A) (N := 8) (ci := k_A) hx hb ht j_A hown hK.1 hw (by assumption) (by rfl) rfl 4 (by decide) (ht _ mf_A_27) (fun _ h9 => h9) (by rfl) d_A_hasFreeOut_17 ?_
    refine lv_iload_n hx hb d_A_hasFreeOut_20 rfl (lv_at hl 1 rfl) ?_
    refine yr_aldq (v := .ref (ad (9, y, c))) hx hb hK.1 hw (by assumption) (by rfl) 2 rfl (vp_in_nI (by omega) (by omega)) (by rw [nI_clamp (by omega)]; show va_rf ((s_oc σ y i j).map _) = _; rw [e]; rfl) d_A_hasFreeOut_21 ?_
    refine lv_ifnonnull (tgt := 29) hx hb d_A_hasFreeOut_22 (by decide) ?_
    refine lv_iconst (v := 0) hx hb d_A_hasFreeOut_29 (by decide) ?_
    exact ye_z hI (by decide) () rfl hw d_A_hasFreeOut_30
set_option maxHeartbeats 4000000 in
set_option maxRecDepth 100000 in
theorem c_A_joinIn (l : Launch) (D : va_G) (cc : ClassId × ClassId × ClassId) (ad : yl → Nat) (LL : List yl) (g : yl → va_E) (X : va_W) (b0 sz : Nat) (y i c : Nat) (h5 : (5, y, i) ∈ LL) (hF : (6, y, i) ∈ LL) (h9 : (9, y, c) ∈ LL) (v0 v1 v2 v5 v6 v7 : Value) (hg5 : g (5, y, i) = .inr (k_A, [v0, v1, v2, .ref (ad (6, y, i)), .ref (ad (7, y, i)), v5, v6, v7])) (f : Nat → Option Nat) (hgF : g (6, y, i) = .inl (cc.2.2, 2, .inr (.inr (.inr (.inr f))))) (vs : List Value) (hg9 : g (9, y, c) = .inr (k_C, vs)) (j : Nat) (hj : j < 2) : Met l y_A_joinIn w_A_joinIn ({ frames := 0, cells := 0, slots := 0, locals := 0 }) (yPr D cc b0 [.ref (ad (5, y, i)), .int (nI j), .ref (ad (9, y, c))] (wl ad LL g ++ X) sz) (yQv D (wl ad LL g ++ X) sz (wl ad LL (yu g (6, y, i) (.inl (cc.2.2, 2, .inr (.inr (.inr (.inr (va_up f j (some (ad (9, y, c)))))))))) ++ X)) 0 0 (va_A (wl ad LL g ++ X) sz) := by
  refine y_ofW (cc := b_A_joinIn) (maxL := 3) (ret := none) (by decide) rfl (Nat.le_of_ble_eq_true rfl) ?_
  intro pv ev sv mv bv tv cv ls hI hsz hw hl
  obtain ⟨hx, hb, hr, hml, hts, hown, hlocks, hnm, hK, hAb, hb0, hA⟩ := id hI
  have ht : ∀ w ∈ lg_tbl, w.before _ sv = true := fun w h => hts w (List.mem_cons_of_mem _ h)
  have hl : lv_has ls 3 [(0, .ref (ad (5, y, i))), (1, .int (nI j)), (2, .ref (ad (9, y, c)))] := hl
  refine lv_aload_n hx hb d_A_joinIn_0 rfl (lv_at hl 0 rfl) ?_
  refine yr_get (C := R_A) (T := F_A) (N := 8) (ci := k_A) hx hb ht j_A hown hK.1 hw h5 hg5 rfl 3 (by decide) (ht _ mf_A_23) (fun _ h9 => h9) (by rfl) d_A_joinIn_1 ?_
  refine lv_iload_n hx hb d_A_joinIn_4 rfl (lv_at hl 1 rfl) ?_
  refine lv_aload_n hx hb d_A_joinIn_5 rfl (lv_at hl 2 rfl) ?_
  refine yr_astq (r := (R_C, F_C, 4)) (ci := k_C) hx hb hK.1 hw hF hgF 2 rfl h9 hg9 rfl (vp_in_nI hj (by omega)) d_A_joinIn_6 (fun H locs hw => ?_)
  rw [nI_clamp (by omega)] at hw
  exact ye_v hI () trivial hw d_A_joinIn_7
set_option maxHeartbeats 4000000 in
set_option maxRecDepth 100000 in
theorem c_A_joinOut (l : Launch) (D : va_G) (cc : ClassId × ClassId × ClassId) (ad : yl → Nat) (LL : List yl) (g : yl → va_E) (X : va_W) (b0 sz : Nat) (y i c : Nat) (h5 : (5, y, i) ∈ LL) (hF : (7, y, i) ∈ LL) (h9 : (9, y, c) ∈ LL) (v0 v1 v2 v5 v6 v7 : Value) (hg5 : g (5, y, i) = .inr (k_A, [v0, v1, v2, .ref (ad (6, y, i)), .ref (ad (7, y, i)), v5, v6, v7])) (f : Nat → Option Nat) (hgF : g (7, y, i) = .inl (cc.2.2, 2, .inr (.inr (.inr (.inr f))))) (vs : List Value) (hg9 : g (9, y, c) = .inr (k_C, vs)) (j : Nat) (hj : j < 2) : Met l y_A_joinOut w_A_joinOut ({ frames := 0, cells := 0, slots := 0, locals := 0 }) (yPr D cc b0 [.ref (ad (5, y, i)), .int (nI j), .ref (ad (9, y, c))] (wl ad LL g ++ X) sz) (yQv D (wl ad LL g ++ X) sz (wl ad LL (yu g (7, y, i) (.inl (cc.2.2, 2, .inr (.inr (.inr (.inr (va_up f j (some (ad (9, y, c)))))))))) ++ X)) 0 0 (va_A (wl ad LL g ++ X) sz) := by
  refine y_ofW (cc := b_A_joinOut) (maxL := 3) (ret := none) (by decide) rfl (Nat.le_of_ble_eq_true rfl) ?_
  intro pv ev sv mv bv tv cv ls hI hsz hw hl
  obtain ⟨hx, hb, hr, hml, hts, hown, hlocks, hnm, hK, hAb, hb0, hA⟩ := id hI
  have ht : ∀ w ∈ lg_tbl, w.before _ sv = true := fun w h => hts w (List.mem_cons_of_mem _ h)
  have hl : lv_has ls 3 [(0, .ref (ad (5, y, i))), (1, .int (nI j)), (2, .ref (ad (9, y, c)))] := hl
  refine lv_aload_n hx hb d_A_joinOut_0 rfl (lv_at hl 0 rfl) ?_
  refine yr_get (C := R_A) (T := F_A) (N := 8) (ci := k_A) hx hb ht j_A hown hK.1 hw h5 hg5 rfl 4 (by decide) (ht _ mf_A_27) (fun _ h9 => h9) (by rfl) d_A_joinOut_1 ?_
  refine lv_iload_n hx hb d_A_joinOut_4 rfl (lv_at hl 1 rfl) ?_
  refine lv_aload_n hx hb d_A_joinOut_5 rfl (lv_at hl 2 rfl) ?_
  refine yr_astq (r := (R_C, F_C, 4)) (ci := k_C) hx hb hK.1 hw hF hgF 2 rfl h9 hg9 rfl (vp_in_nI hj (by omega)) d_A_joinOut_6 (fun H locs hw => ?_)
  rw [nI_clamp (by omega)] at hw
  exact ye_v hI () trivial hw d_A_joinOut_7
end
section
/-! YARD: addActor -/
/-- addresses matter at places that are there alone -/
theorem yG_ad {cc : ClassId × ClassId × ClassId} {σ : ys} {ad ad' : yl → Nat} (hIo : ∀ z, yI σ z ∨ 2 ≤ z) (h : ∀ z, yL σ z → ad' z = ad z) {q : yl} (hq : yL σ q) : yG cc σ ad q = yG cc σ ad' q := by
  obtain ⟨f, y, i⟩ := q
  have h0 : ∀ f, f < 5 → 0 < f → ∀ y, y < 2 → yL σ (f, y, 0) := fun f h1 h2 y hy => by
    match f, h1, h2 with
    | 1, _, _ => exact ⟨hy, rfl⟩
    | 2, _, _ => exact ⟨hy, rfl⟩
    | 3, _, _ => exact ⟨hy, rfl⟩
    | 4, _, _ => exact ⟨hy, rfl⟩
  have hmap : ∀ (o : Option Nat), (∀ c, o = some c → c < s_nc σ y) → y < 2 → o.map (fun c => ad (9, y, c)) = o.map (fun c => ad' (9, y, c)) := fun o ho hy => by
    cases o with
    | none => rfl
    | some c => show some (ad (9, y, c)) = some (ad' (9, y, c)); rw [h (9, y, c) ⟨hy, ho c rfl⟩]
  match f, hq with
  | 0, hq =>
    show Sum.inr (k_S, [Value.ref (ad (1, 0, 0)), Value.ref (ad (1, 1, 0)), _]) = Sum.inr (k_S, [Value.ref (ad' (1, 0, 0)), Value.ref (ad' (1, 1, 0)), _])
    rw [h _ (h0 1 (by omega) (by omega) 0 (by omega)), h _ (h0 1 (by omega) (by omega) 1 (by omega))]
  | 1, hq =>
    show Sum.inr (k_Y, [Value.ref (ad (2, y, 0)), Value.ref (ad (3, y, 0)), Value.ref (ad (4, y, 0)), _, _]) = Sum.inr (k_Y, [Value.ref (ad' (2, y, 0)), Value.ref (ad' (3, y, 0)), Value.ref (ad' (4, y, 0)), _, _])
    rw [h _ (h0 2 (by omega) (by omega) y hq.1), h _ (h0 3 (by omega) (by omega) y hq.1), h _ (h0 4 (by omega) (by omega) y hq.1)]
  | 2, hq =>
    show Sum.inl (cc.2.1, 10, Sum.inr (Sum.inr (Sum.inr (Sum.inr (fun j => if j < s_n σ y then some (ad (5, y, j)) else none))))) = Sum.inl (cc.2.1, 10, Sum.inr (Sum.inr (Sum.inr (Sum.inr (fun j => if j < s_n σ y then some (ad' (5, y, j)) else none)))))
    have e : (fun j => if j < s_n σ y then some (ad (5, y, j)) else none) = fun j => if j < s_n σ y then some (ad' (5, y, j)) else none := by
      funext j
      by_cases hj : j < s_n σ y
      · rw [if_pos hj, if_pos hj, h (5, y, j) ⟨hq.1, hj⟩]
      · rw [if_neg hj, if_neg hj]
    rw [e]
  | 3, hq =>
    show Sum.inl (cc.2.2, 16, Sum.inr (Sum.inr (Sum.inr (Sum.inr (fun j => if j < s_nc σ y then some (ad (9, y, j)) else none))))) = Sum.inl (cc.2.2, 16, Sum.inr (Sum.inr (Sum.inr (Sum.inr (fun j => if j < s_nc σ y then some (ad' (9, y, j)) else none)))))
    have e : (fun j => if j < s_nc σ y then some (ad (9, y, j)) else none) = fun j => if j < s_nc σ y then some (ad' (9, y, j)) else none := by
      funext j
      by_cases hj : j < s_nc σ y
      · rw [if_pos hj, if_pos hj, h (9, y, j) ⟨hq.1, hj⟩]
      · rw [if_neg hj, if_neg hj]
    rw [e]
  | 4, hq => rfl
  | 5, hq =>
    show Sum.inr (k_A, [_, _, _, Value.ref (ad (6, y, i)), Value.ref (ad (7, y, i)), Value.ref (ad (8, y, i)), _, _]) = Sum.inr (k_A, [_, _, _, Value.ref (ad' (6, y, i)), Value.ref (ad' (7, y, i)), Value.ref (ad' (8, y, i)), _, _])
    rw [h (6, y, i) hq, h (7, y, i) hq, h (8, y, i) hq]
  | 6, hq =>
    show Sum.inl (cc.2.2, 2, Sum.inr (Sum.inr (Sum.inr (Sum.inr (fun j => (s_ic σ y i j).map (fun c => ad (9, y, c))))))) = Sum.inl (cc.2.2, 2, Sum.inr (Sum.inr (Sum.inr (Sum.inr (fun j => (s_ic σ y i j).map (fun c => ad' (9, y, c)))))))
    have e : (fun j => (s_ic σ y i j).map (fun c => ad (9, y, c))) = fun j => (s_ic σ y i j).map (fun c => ad' (9, y, c)) := by
      funext j
      rcases hIo y with hi | hi
      · exact hmap _ (fun c e => (hi.2.2.2.2.1 i j c e).2.2) hq.1
      · exact absurd hq.1 (by omega)
    rw [e]
  | 7, hq =>
    show Sum.inl (cc.2.2, 2, Sum.inr (Sum.inr (Sum.inr (Sum.inr (fun j => (s_oc σ y i j).map (fun c => ad (9, y, c))))))) = Sum.inl (cc.2.2, 2, Sum.inr (Sum.inr (Sum.inr (Sum.inr (fun j => (s_oc σ y i j).map (fun c => ad' (9, y, c)))))))
    have e : (fun j => (s_oc σ y i j).map (fun c => ad (9, y, c))) = fun j => (s_oc σ y i j).map (fun c => ad' (9, y, c)) := by
      funext j
      rcases hIo y with hi | hi
      · exact hmap _ (fun c e => (hi.2.2.2.2.2.1 i j c e).2.2) hq.1
      · exact absurd hq.1 (by omega)
    rw [e]
  | 8, hq => rfl
  | 9, hq =>
    show Sum.inr (k_C, [_, Value.ref (ad (10, y, i)), _, _]) = Sum.inr (k_C, [_, Value.ref (ad' (10, y, i)), _, _])
    rw [h (10, y, i) hq]
  | 10, hq => rfl
/-- one more actor -/
def yo_add (σ : ys) (y k : Nat) (a b : Int32) : ys := sx_cn (sx_rw (sx_ac σ y (s_n σ y) (k, a, b, 0, 0)) y (s_n σ y) (fun _ => 0)) y (s_n σ y + 1, s_nc σ y)
theorem add_g1 {cc : ClassId × ClassId × ClassId} {σ : ys} {ad ad2 : yl → Nat} {LL : List yl} {y k : Nat} {a b : Int32} {e0 : va_E} (hLL : ∀ q, q ∈ LL ↔ yL σ q) (hIo : ∀ z, yI σ z ∨ 2 ≤ z) (hag : ∀ z, z ∈ LL → ad2 z = ad z) : ∀ q, q ∈ ((((LL ++ [(5, y, s_n σ y)]) ++ [(6, y, s_n σ y)]) ++ [(7, y, s_n σ y)]) ++ [(8, y, s_n σ y)]) → (yu (yu (yu (yu (yu (yG cc σ ad) (5, y, s_n σ y) e0) (6, y, s_n σ y) (.inl (cc.2.2, 2, .inr (.inr (.inr (.inr (fun _ => none))))))) (7, y, s_n σ y) (.inl (cc.2.2, 2, .inr (.inr (.inr (.inr (fun _ => none))))))) (8, y, s_n σ y) (.inl (cc.1, yt_rows k, .inl (fun _ => 0)))) (5, y, s_n σ y) (.inr (k_A, [.int (nI k), .int a, .int b, .ref (ad2 (6, y, s_n σ y)), .ref (ad2 (7, y, s_n σ y)), .ref (ad2 (8, y, s_n σ y)), .int 0, .int 0]))) q = (yu (yu (yu (yu (yG cc σ ad2) (6, y, s_n σ y) (.inl (cc.2.2, 2, .inr (.inr (.inr (.inr (fun _ => none))))))) (7, y, s_n σ y) (.inl (cc.2.2, 2, .inr (.inr (.inr (.inr (fun _ => none))))))) (8, y, s_n σ y) (.inl (cc.1, yt_rows k, .inl (fun _ => 0)))) (5, y, s_n σ y) (.inr (k_A, [.int (nI k), .int a, .int b, .ref (ad2 (6, y, s_n σ y)), .ref (ad2 (7, y, s_n σ y)), .ref (ad2 (8, y, s_n σ y)), .int 0, .int 0]))) q := by
  intro q hq
  by_cases q5 : q = (5, y, s_n σ y)
  · subst q5; simp [yu]
  · by_cases q6 : q = (6, y, s_n σ y)
    · subst q6; simp [yu]
    · by_cases q7 : q = (7, y, s_n σ y)
      · subst q7; simp [yu]
      · by_cases q8 : q = (8, y, s_n σ y)
        · subst q8; simp [yu]
        · have hq' : q ∈ LL := by simpa [q5, q6, q7, q8] using hq
          have e := yG_ad (cc := cc) hIo (fun z hz => hag z ((hLL z).mpr hz)) ((hLL q).mp hq')
          simp [yu, q5, q6, q7, q8, e]
theorem add_g2 {cc : ClassId × ClassId × ClassId} {σ : ys} {ad2 : yl → Nat} {LL : List yl} {y k : Nat} {a b : Int32} (hLL : ∀ q, q ∈ LL ↔ yL σ q) (hi : yI σ y) (hn : s_n σ y < 10) : ∀ q, q ∈ ((((LL ++ [(5, y, s_n σ y)]) ++ [(6, y, s_n σ y)]) ++ [(7, y, s_n σ y)]) ++ [(8, y, s_n σ y)]) → (yu (yu (yu (yu (yu (yu (yG cc σ ad2) (6, y, s_n σ y) (.inl (cc.2.2, 2, .inr (.inr (.inr (.inr (fun _ => none))))))) (7, y, s_n σ y) (.inl (cc.2.2, 2, .inr (.inr (.inr (.inr (fun _ => none))))))) (8, y, s_n σ y) (.inl (cc.1, yt_rows k, .inl (fun _ => 0)))) (5, y, s_n σ y) (.inr (k_A, [.int (nI k), .int a, .int b, .ref (ad2 (6, y, s_n σ y)), .ref (ad2 (7, y, s_n σ y)), .ref (ad2 (8, y, s_n σ y)), .int 0, .int 0]))) (2, y, 0) (.inl (cc.2.1, 10, .inr (.inr (.inr (.inr (va_up (fun j => if j < s_n σ y then some (ad2 (5, y, j)) else none) (s_n σ y) (some (ad2 (5, y, s_n σ y)))))))))) (1, y, 0) (.inr (k_Y, [.ref (ad2 (2, y, 0)), .ref (ad2 (3, y, 0)), .ref (ad2 (4, y, 0)), .int (nI (s_n σ y + 1)), .int (nI (s_nc σ y))]))) q = yG cc (yo_add σ y k a b) ad2 q := by
  intro q hq
  have hcn : ∀ z, s_n (yo_add σ y k a b) z = if z = y then s_n σ y + 1 else s_n σ z := fun z => by
    show (va_up σ.2.1 y (s_n σ y + 1, s_nc σ y) z).1 = _
    unfold va_up
    by_cases h : z = y
    · rw [if_pos h, if_pos h]
    · rw [if_neg h, if_neg h]; rfl
  have hcc : ∀ z, s_nc (yo_add σ y k a b) z = s_nc σ z := fun z => by
    show (va_up σ.2.1 y (s_n σ y + 1, s_nc σ y) z).2 = _
    unfold va_up
    by_cases h : z = y
    · rw [if_pos h, h]
    · rw [if_neg h]; rfl
  have hac : ∀ z i, s_ac (yo_add σ y k a b) z i = if z = y ∧ i = s_n σ y then (k, a, b, 0, 0) else s_ac σ z i := fun z i => rfl
  have hrw : ∀ z i, s_rw (yo_add σ y k a b) z i = if z = y ∧ i = s_n σ y then (fun _ => 0) else s_rw σ z i := fun z i => rfl
  by_cases q1 : q = (1, y, 0)
  · subst q1
    rw [yu_s]
    show Sum.inr (k_Y, [Value.ref (ad2 (2, y, 0)), Value.ref (ad2 (3, y, 0)), Value.ref (ad2 (4, y, 0)), Value.int (nI (s_n σ y + 1)), Value.int (nI (s_nc σ y))]) = Sum.inr (k_Y, [Value.ref (ad2 (2, y, 0)), Value.ref (ad2 (3, y, 0)), Value.ref (ad2 (4, y, 0)), Value.int (nI (s_n (yo_add σ y k a b) y)), Value.int (nI (s_nc (yo_add σ y k a b) y))])
    rw [hcn, hcc, if_pos rfl]
  · rw [yu_n _ _ q1]
    by_cases q2 : q = (2, y, 0)
    · subst q2
      rw [yu_s]
      show Sum.inl (cc.2.1, 10, Sum.inr (Sum.inr (Sum.inr (Sum.inr (va_up (fun j => if j < s_n σ y then some (ad2 (5, y, j)) else none) (s_n σ y) (some (ad2 (5, y, s_n σ y)))))))) = Sum.inl (cc.2.1, 10, Sum.inr (Sum.inr (Sum.inr (Sum.inr (fun j => if j < s_n (yo_add σ y k a b) y then some (ad2 (5, y, j)) else none)))))
      have e : va_up (fun j => if j < s_n σ y then some (ad2 (5, y, j)) else none) (s_n σ y) (some (ad2 (5, y, s_n σ y))) = fun j => if j < s_n (yo_add σ y k a b) y then some (ad2 (5, y, j)) else none := by
        funext j
        rw [hcn, if_pos rfl]
        unfold va_up
        by_cases h : j = s_n σ y
        · rw [if_pos h, if_pos (by omega), h]
        · rw [if_neg h]
          show (if j < s_n σ y then some (ad2 (5, y, j)) else none) = _
          by_cases h2 : j < s_n σ y
          · rw [if_pos h2, if_pos (by omega)]
          · rw [if_neg h2, if_neg (by omega)]
      rw [e]
    · rw [yu_n _ _ q2]
      have nic : ∀ j, s_ic σ y (s_n σ y) j = none := fun j => by
        cases e : s_ic σ y (s_n σ y) j with
        | none => rfl
        | some c => exact absurd (hi.2.2.2.2.1 _ _ _ e).1 (Nat.lt_irrefl _)
      have noc : ∀ j, s_oc σ y (s_n σ y) j = none := fun j => by
        cases e : s_oc σ y (s_n σ y) j with
        | none => rfl
        | some c => exact absurd (hi.2.2.2.2.2.1 _ _ _ e).1 (Nat.lt_irrefl _)
      by_cases q5 : q = (5, y, s_n σ y)
      · subst q5
        rw [yu_s]
        show _ = Sum.inr (k_A, [Value.int (nI (s_ac (yo_add σ y k a b) y (s_n σ y)).1), Value.int (s_ac (yo_add σ y k a b) y (s_n σ y)).2.1, Value.int (s_ac (yo_add σ y k a b) y (s_n σ y)).2.2.1, Value.ref (ad2 (6, y, s_n σ y)), Value.ref (ad2 (7, y, s_n σ y)), Value.ref (ad2 (8, y, s_n σ y)), Value.int (nI (s_ac (yo_add σ y k a b) y (s_n σ y)).2.2.2.1), Value.int (nI (s_ac (yo_add σ y k a b) y (s_n σ y)).2.2.2.2)])
        rw [hac, if_pos ⟨rfl, rfl⟩]
        rfl
      · rw [yu_n _ _ q5]
        by_cases q8 : q = (8, y, s_n σ y)
        · subst q8
          rw [yu_s]
          show _ = Sum.inl (cc.1, yt_rows (s_ac (yo_add σ y k a b) y (s_n σ y)).1, Sum.inl (s_rw (yo_add σ y k a b) y (s_n σ y)))
          rw [hac, hrw, if_pos ⟨rfl, rfl⟩, if_pos ⟨rfl, rfl⟩]
        · rw [yu_n _ _ q8]
          by_cases q7 : q = (7, y, s_n σ y)
          · subst q7
            rw [yu_s]
            show _ = Sum.inl (cc.2.2, 2, Sum.inr (Sum.inr (Sum.inr (Sum.inr (fun j => (s_oc σ y (s_n σ y) j).map (fun c => ad2 (9, y, c)))))))
            rw [show (fun j => (s_oc σ y (s_n σ y) j).map (fun c => ad2 (9, y, c))) = fun _ => none from funext fun j => by rw [noc j]; rfl]
          · rw [yu_n _ _ q7]
            by_cases q6 : q = (6, y, s_n σ y)
            · subst q6
              rw [yu_s]
              show _ = Sum.inl (cc.2.2, 2, Sum.inr (Sum.inr (Sum.inr (Sum.inr (fun j => (s_ic σ y (s_n σ y) j).map (fun c => ad2 (9, y, c)))))))
              rw [show (fun j => (s_ic σ y (s_n σ y) j).map (fun c => ad2 (9, y, c))) = fun _ => none from funext fun j => by rw [nic j]; rfl]
            · rw [yu_n _ _ q6]
              have hq' : q ∈ LL := by simpa [q5, q6, q7, q8] using hq
              have hl := (hLL q).mp hq'
              obtain ⟨f, z, i⟩ := q
              match f, hl, q1, q2, q5, q8 with
              | 0, _, _, _, _, _ => rfl
              | 1, hl, q1, _, _, _ =>
                have hz : z ≠ y := fun h => q1 (by rw [h, hl.2])
                show Sum.inr (k_Y, [_, _, _, Value.int (nI (s_n σ z)), Value.int (nI (s_nc σ z))]) = Sum.inr (k_Y, [_, _, _, Value.int (nI (s_n (yo_add σ y k a b) z)), Value.int (nI (s_nc (yo_add σ y k a b) z))])
                rw [hcn, hcc, if_neg hz]
              | 2, hl, _, q2, _, _ =>
                have hz : z ≠ y := fun h => q2 (by rw [h, hl.2])
                show Sum.inl (cc.2.1, 10, Sum.inr (Sum.inr (Sum.inr (Sum.inr (fun j => if j < s_n σ z then some (ad2 (5, z, j)) else none))))) = Sum.inl (cc.2.1, 10, Sum.inr (Sum.inr (Sum.inr (Sum.inr (fun j => if j < s_n (yo_add σ y k a b) z then some (ad2 (5, z, j)) else none)))))
                rw [hcn, if_neg hz]
              | 3, hl, _, _, _, _ =>
                show Sum.inl (cc.2.2, 16, Sum.inr (Sum.inr (Sum.inr (Sum.inr (fun j => if j < s_nc σ z then some (ad2 (9, z, j)) else none))))) = Sum.inl (cc.2.2, 16, Sum.inr (Sum.inr (Sum.inr (Sum.inr (fun j => if j < s_nc (yo_add σ y k a b) z then some (ad2 (9, z, j)) else none)))))
                rw [hcc]
              | 4, _, _, _, _, _ => rfl
              | 5, hl, _, _, q5, _ =>
                show Sum.inr (k_A, [Value.int (nI (s_ac σ z i).1), Value.int (s_ac σ z i).2.1, Value.int (s_ac σ z i).2.2.1, _, _, _, Value.int (nI (s_ac σ z i).2.2.2.1), Value.int (nI (s_ac σ z i).2.2.2.2)]) = Sum.inr (k_A, [Value.int (nI (s_ac (yo_add σ y k a b) z i).1), Value.int (s_ac (yo_add σ y k a b) z i).2.1, Value.int (s_ac (yo_add σ y k a b) z i).2.2.1, _, _, _, Value.int (nI (s_ac (yo_add σ y k a b) z i).2.2.2.1), Value.int (nI (s_ac (yo_add σ y k a b) z i).2.2.2.2)])
                rw [hac, if_neg (fun h => q5 (by rw [h.1, h.2]))]
              | 6, _, _, _, _, _ => rfl
              | 7, _, _, _, _, _ => rfl
              | 8, hl, _, _, _, q8 =>
                show Sum.inl (cc.1, yt_rows (s_ac σ z i).1, Sum.inl (s_rw σ z i)) = Sum.inl (cc.1, yt_rows (s_ac (yo_add σ y k a b) z i).1, Sum.inl (s_rw (yo_add σ y k a b) z i))
                rw [hac, hrw, if_neg (fun h => q8 (by rw [h.1, h.2])), if_neg (fun h => q8 (by rw [h.1, h.2]))]
              | 9, _, _, _, _, _ => rfl
              | 10, _, _, _, _, _ => rfl
set_option maxHeartbeats 4000000 in
set_option maxRecDepth 100000 in
theorem c_Y_addActor_no (l : Launch) (D : va_G) (cc : ClassId × ClassId × ClassId) (ad : yl → Nat) (LL : List yl) (X : va_W) (b0 sz : Nat) (σ : ys) (hLL : ∀ q, q ∈ LL ↔ yL σ q) (y : Nat) (hy : y < 2) (hi : yI σ y) (x a b : Int32) (hno : x < 0 ∨ nI 9 ≤ x ∨ 10 ≤ s_n σ y) : Met l y_Y_addActor w_Y_addActor ({ frames := 2, cells := 0, slots := 0, locals := 35 }) (yPr D cc b0 [.ref (ad (1, y, 0)), .int x, .int a, .int b] (yW cc ad LL X σ) sz) (yQi D (yW cc ad LL X σ) sz (-1) (yW cc ad LL X σ)) 0 0 (va_A (yW cc ad LL X σ) sz) := by
  have hL : ∀ q, yL σ q → q ∈ LL := fun q h => (hLL q).mpr h
  have g1 : (1, y, 0) ∈ LL := hL _ ⟨hy, rfl⟩
  have g2 : (2, y, 0) ∈ LL := hL _ ⟨hy, rfl⟩
  have g3 : (3, y, 0) ∈ LL := hL _ ⟨hy, rfl⟩
  have g4 : (4, y, 0) ∈ LL := hL _ ⟨hy, rfl⟩
  have hn10 := hi.1.1
  have hc16 := hi.2.1
  refine y_ofW (cc := b_Y_addActor) (maxL := 4) (ret := (some .int)) (by decide) rfl (Nat.le_of_ble_eq_true rfl) ?_
  intro pv ev sv mv bv tv cv ls hI hsz hw hl
  obtain ⟨hx, hb, hr, hml, hts, hown, hlocks, hnm, hK, hAb, hb0, hA⟩ := id hI
  have ht : ∀ w ∈ lg_tbl, w.before _ sv = true := fun w h => hts w (List.mem_cons_of_mem _ h)
  have hl : lv_has ls 4 [(0, .ref (ad (1, y, 0))), (1, .int x), (2, .int a), (3, .int b)] := hl
  refine lv_iload_n hx hb d_Y_addActor_0 rfl (lv_at hl 1 rfl) ?_
  refine lv_if_lt (tgt := 19) hx hb d_Y_addActor_1 (by decide) (fun c_1 => ?_) (fun c_1 => ?_)
  · refine lv_iconst (v := (-1)) hx hb d_Y_addActor_19 (by decide) ?_
    exact ye_i hI () rfl hw d_Y_addActor_20
  · refine lv_iload_n hx hb d_Y_addActor_4 rfl (lv_at hl 1 rfl) ?_
    refine lv_bipush (v := (nI 9)) hx hb d_Y_addActor_5 (by decide) ?_
    refine lv_icmp_ge (tgt := 19) hx hb d_Y_addActor_7 (by decide) (fun c_7 => ?_) (fun c_7 => ?_)
    · refine lv_iconst (v := (-1)) hx hb d_Y_addActor_19 (by decide) ?_
      exact ye_i hI () rfl hw d_Y_addActor_20
    · refine lv_aload_n hx hb d_Y_addActor_10 rfl (lv_at hl 0 rfl) ?_
      refine yr_get (C := R_Y) (T := F_Y) (N := 5) (ci := k_Y) hx hb ht j_Y hown hK.1 hw (by assumption) (by rfl) rfl 3 (by decide) (ht _ mf_Y_27) (fun _ h9 => h9) (by rfl) d_Y_addActor_11 ?_
      refine lv_bipush (v := (nI 10)) hx hb d_Y_addActor_14 (by decide) ?_
      refine lv_icmp_lt (tgt := 21) hx hb d_Y_addActor_16 (by decide) (fun c_16 => by exact (hno.elim (fun h => absurd h c_1) (fun h => h.elim (fun h => absurd h c_7) (fun h => absurd c_16 (nI_nlt h (by omega)))))) (fun c_16 => ?_)
      refine lv_iconst (v := (-1)) hx hb d_Y_addActor_19 (by decide) ?_
      exact ye_i hI () rfl hw d_Y_addActor_20
set_option maxHeartbeats 4000000 in
set_option maxRecDepth 100000 in
theorem c_Y_addActor (l : Launch) (D : va_G) (cc : ClassId × ClassId × ClassId) (ad : yl → Nat) (LL : List yl) (X : va_W) (b0 sz : Nat) (σ : ys) (hLL : ∀ q, q ∈ LL ↔ yL σ q) (y : Nat) (hy : y < 2) (hi : yI σ y) (hIo : ∀ z, yI σ z ∨ 2 ≤ z) (k : Nat) (hk : k < 9) (hn : s_n σ y < 10) (a b : Int32) : Met l y_Y_addActor w_Y_addActor ({ frames := 2, cells := 4, slots := 72, locals := 35 }) (yPr D cc b0 [.ref (ad (1, y, 0)), .int (nI k), .int a, .int b] (yW cc ad LL X σ) sz) (va_Qi (fun r (u : yl → Nat) => r = nI (s_n σ y) ∧ ∀ z, z ∈ LL → u z = ad z) (yB D ycl (yW cc ad LL X σ) sz (fun u => yW cc u ((((LL ++ [(5, y, s_n σ y)]) ++ [(6, y, s_n σ y)]) ++ [(7, y, s_n σ y)]) ++ [(8, y, s_n σ y)]) X (yo_add σ y k a b))) (va_A (yW cc ad LL X σ) sz)) 4 72 (va_A (yW cc ad LL X σ) sz) := by
  have hL : ∀ q, yL σ q → q ∈ LL := fun q h => (hLL q).mpr h
  have g1 : (1, y, 0) ∈ LL := hL _ ⟨hy, rfl⟩
  have g2 : (2, y, 0) ∈ LL := hL _ ⟨hy, rfl⟩
  have g3 : (3, y, 0) ∈ LL := hL _ ⟨hy, rfl⟩
  have g4 : (4, y, 0) ∈ LL := hL _ ⟨hy, rfl⟩
  have hn10 := hi.1.1
  have hc16 := hi.2.1
  refine y_ofW (cc := b_Y_addActor) (maxL := 4) (ret := (some .int)) (by decide) rfl (Nat.le_of_ble_eq_true rfl) ?_
  intro pv ev sv mv bv tv cv ls hI hsz hw hl
  generalize hargs : ([.ref (ad (1, y, 0)), .int (nI k), .int a, .int b] : List Value).toArray = args at hI ⊢
  obtain ⟨hx, hb, hr, hml, hts, hown, hlocks, hnm, hK, hAb, hb0, hA⟩ := id hI
  have ht : ∀ w ∈ lg_tbl, w.before _ sv = true := fun w h => hts w (List.mem_cons_of_mem _ h)
  have hl : lv_has ls 4 [(0, .ref (ad (1, y, 0))), (1, .int (nI k)), (2, .int a), (3, .int b)] := hl
  refine lv_iload_n hx hb d_Y_addActor_0 rfl (lv_at hl 1 rfl) ?_
  refine lv_if_lt (tgt := 19) hx hb d_Y_addActor_1 (by decide) (fun c_1 => by exact absurd c_1 (nI_pos (by omega))) (fun c_1 => ?_)
  refine lv_iload_n hx hb d_Y_addActor_4 rfl (lv_at hl 1 rfl) ?_
  refine lv_bipush (v := (nI 9)) hx hb d_Y_addActor_5 (by decide) ?_
  refine lv_icmp_ge (tgt := 19) hx hb d_Y_addActor_7 (by decide) (fun c_7 => by exact absurd ((nI_leI (by omega) (by omega)).mp c_7) (by omega)) (fun c_7 => ?_)
  refine lv_aload_n hx hb d_Y_addActor_10 rfl (lv_at hl 0 rfl) ?_
  refine yr_get (C := R_Y) (T := F_Y) (N := 5) (ci := k_Y) hx hb ht j_Y hown hK.1 hw (by assumption) (by rfl) rfl 3 (by decide) (ht _ mf_Y_27) (fun _ h9 => h9) (by rfl) d_Y_addActor_11 ?_
  refine lv_bipush (v := (nI 10)) hx hb d_Y_addActor_14 (by decide) ?_
  refine lv_icmp_lt (tgt := 21) hx hb d_Y_addActor_16 (by decide) (fun c_16 => ?_) (fun c_16 => by exact absurd (nI_lt hn (by omega)) c_16)
  refine lv_aload_n hx hb d_Y_addActor_21 rfl (lv_at hl 0 rfl) ?_
  refine yr_get (C := R_Y) (T := F_Y) (N := 5) (ci := k_Y) hx hb ht j_Y hown hK.1 hw (by assumption) (by rfl) rfl 0 (by decide) (ht _ mf_Y_11) (fun _ h9 => h9) (by rfl) d_Y_addActor_22 ?_
  refine lv_aload_n hx hb d_Y_addActor_25 rfl (lv_at hl 0 rfl) ?_
  refine yr_get (C := R_Y) (T := F_Y) (N := 5) (ci := k_Y) hx hb ht j_Y hown hK.1 hw (by assumption) (by rfl) rfl 3 (by decide) (ht _ mf_Y_27) (fun _ h9 => h9) (by rfl) d_Y_addActor_26 ?_
  refine yr_new (fs := [.int 0, .int 0, .int 0, .null, .null, .null, .int 0, .int 0]) (C := R_A) (T := F_A) (N := 8) (ci := k_A) hx hb ht j_A t_A t_A_ok hown (ht _ mk_Y_9) (ht _ mn_A) (ht _ mi_A) hK.1 hw hA (5, y, s_n σ y) (fun q => absurd ((hLL _).mp q).2 (Nat.lt_irrefl _)) rfl (fun j hj => by rcases (show j = 0 ∨ j = 1 ∨ j = 2 ∨ j = 3 ∨ j = 4 ∨ j = 5 ∨ j = 6 ∨ j = 7 by omega) with rfl | rfl | rfl | rfl | rfl | rfl | rfl | rfl <;> rfl) (Nat.le_of_ble_eq_true rfl) (Nat.le_of_ble_eq_true rfl) d_Y_addActor_29 (fun ad1 H hag1 hw => ?_)
  rw [← hag1 _ g2]
  rw [← hag1 _ g1] at hl
  refine lv_dup hx hb d_Y_addActor_32 rfl ?_
  refine lv_iload_n hx hb d_Y_addActor_33 rfl (lv_at hl 1 rfl) ?_
  refine lv_iload_n hx hb d_Y_addActor_34 rfl (lv_at hl 2 rfl) ?_
  refine lv_iload_n hx hb d_Y_addActor_35 rfl (lv_at hl 3 rfl) ?_
  refine yc_v (va_runI (As := [.int _, .int _, .int _]) (rest := [.ref _, .int _, .ref _]) ⟨hx, hb, hml, hown, hts⟩ (c_A_init l D cc ad1 (LL ++ [(5, y, s_n σ y)]) (yu (yG cc σ ad) (5, y, s_n σ y) (.inr (k_A, [.int 0, .int 0, .int 0, .null, .null, .null, .int 0, .int 0]))) X b0 _ y (s_n σ y) (by simp) (by intro q; rcases List.mem_append.mp q with q | q; exact absurd ((hLL _).mp q).2 (Nat.lt_irrefl _); simp at q) (by intro q; rcases List.mem_append.mp q with q | q; exact absurd ((hLL _).mp q).2 (Nat.lt_irrefl _); simp at q) (by intro q; rcases List.mem_append.mp q with q | q; exact absurd ((hLL _).mp q).2 (Nat.lt_irrefl _); simp at q) (yu_s _ _ _) k hk a b) (cwI 3 hts (yg_sub mc_A_init) rfl rfl rfl (ht _ mi_A) (ht _ ml_Y_34) (ht _ mm_A_init) rfl (by decide +kernel) ⟨Nat.le_of_ble_eq_true rfl, Nat.le_of_ble_eq_true rfl⟩) (y_preS hI hw) rfl rfl hl.1 rfl (lv_room (Nat.le_of_ble_eq_true rfl)) d_Y_addActor_36 ⟨Nat.le_of_ble_eq_true rfl, Nat.le_of_ble_eq_true rfl⟩) hw hA (fun ad2 H locs hag2 hw => ?_)
  have m1 : (1, y, 0) ∈ LL ++ [(5, y, s_n σ y)] := by simp [g1]
  have m2 : (2, y, 0) ∈ LL ++ [(5, y, s_n σ y)] := by simp [g2]
  have m5 : (5, y, s_n σ y) ∈ LL ++ [(5, y, s_n σ y)] := by simp
  rw [← hag2 _ m2, ← hag2 _ m5]
  rw [← hag2 _ m1] at hl
  have hag : ∀ z, z ∈ LL → ad2 z = ad z := fun z hz => by rw [hag2 z (by simp [hz]), hag1 z hz]
  have hw := y_same (g' := (yu (yu (yu (yu (yG cc σ ad2) (6, y, s_n σ y) (.inl (cc.2.2, 2, .inr (.inr (.inr (.inr (fun _ => none))))))) (7, y, s_n σ y) (.inl (cc.2.2, 2, .inr (.inr (.inr (.inr (fun _ => none))))))) (8, y, s_n σ y) (.inl (cc.1, yt_rows k, .inl (fun _ => 0)))) (5, y, s_n σ y) (.inr (k_A, [.int (nI k), .int a, .int b, .ref (ad2 (6, y, s_n σ y)), .ref (ad2 (7, y, s_n σ y)), .ref (ad2 (8, y, s_n σ y)), .int 0, .int 0])))) hw (add_g1 hLL hIo hag)
  have f1 : (1, y, 0) ∈ ((((LL ++ [(5, y, s_n σ y)]) ++ [(6, y, s_n σ y)]) ++ [(7, y, s_n σ y)]) ++ [(8, y, s_n σ y)]) := by simp [g1]
  have f2 : (2, y, 0) ∈ ((((LL ++ [(5, y, s_n σ y)]) ++ [(6, y, s_n σ y)]) ++ [(7, y, s_n σ y)]) ++ [(8, y, s_n σ y)]) := by simp [g2]
  have f5 : (5, y, s_n σ y) ∈ ((((LL ++ [(5, y, s_n σ y)]) ++ [(6, y, s_n σ y)]) ++ [(7, y, s_n σ y)]) ++ [(8, y, s_n σ y)]) := by simp
  refine yr_astq (r := (R_A, F_A, 8)) (ci := k_A) hx hb hK.1 hw f2 (by rw [yu_n _ _ (by simp), yu_n _ _ (by simp), yu_n _ _ (by simp), yu_n _ _ (by simp)]; rfl) 1 rfl f5 (yu_s _ _ _) rfl (vp_in_nI (by omega) (by omega)) d_Y_addActor_39 (fun H locs hw => ?_)
  rw [nI_clamp (by omega)] at hw
  refine lv_aload_n hx hb d_Y_addActor_40 rfl (lv_at hl 0 rfl) ?_
  refine lv_dup hx hb d_Y_addActor_41 rfl ?_
  refine yr_get (C := R_Y) (T := F_Y) (N := 5) (ci := k_Y) hx hb ht j_Y hown hK.1 hw f1 (by rw [yu_n _ _ (by simp), yu_n _ _ (by simp), yu_n _ _ (by simp), yu_n _ _ (by simp), yu_n _ _ (by simp)]; rfl) rfl 3 (by decide) (ht _ mf_Y_27) (fun _ h9 => h9) (by rfl) d_Y_addActor_42 ?_
  refine lv_iconst (v := 1) hx hb d_Y_addActor_45 (by decide) ?_
  refine lv_iadd hx hb d_Y_addActor_46 ?_
  rw [nI_1]
  refine yr_put (ty := .int) (C := R_Y) (T := F_Y) (N := 5) (ci := k_Y) hx hb ht j_Y t_Y t_Y_ok n_Y hown hK.1 hw f1 (by rw [yu_n _ _ (by simp), yu_n _ _ (by simp), yu_n _ _ (by simp), yu_n _ _ (by simp), yu_n _ _ (by simp)]; rfl) rfl 3 (by decide) (ht _ mf_Y_27) (fun _ h9 => h9) rfl (by decide +kernel) rfl rfl (Nat.le_of_ble_eq_true rfl) d_Y_addActor_47 (fun H locs hw => ?_)
  refine lv_aload_n hx hb d_Y_addActor_50 rfl (lv_at hl 0 rfl) ?_
  refine yr_get (C := R_Y) (T := F_Y) (N := 5) (ci := k_Y) hx hb ht j_Y hown hK.1 hw f1 (yu_s _ _ _) rfl 3 (by decide) (ht _ mf_Y_27) (fun _ h9 => h9) (by rfl) d_Y_addActor_51 ?_
  refine lv_iconst (v := 1) hx hb d_Y_addActor_54 (by decide) ?_
  refine lv_isub hx hb d_Y_addActor_55 ?_
  rw [nI_pred]
  exact ye_i hI ad2 ⟨rfl, hag⟩ (y_same hw (add_g2 hLL hi hn)) d_Y_addActor_56
end
section
/-! YARD: join -/
/-- which channel a call asks for, where it is not refused -/
def a_jok (T : yp_T) (nc : Nat) (f o t i r : Int32) : Option (Nat × Nat × Nat × Nat × Nat) :=
  match yin f (yp_n T), yin t (yp_n T) with
  | some jf, some jt =>
    if nc < 16 then
      if r < nI 1 ∨ nI 8 < r then none else
      match yin o (yt_outs (yp_kd T jf)), yin i (yt_ins (yp_kd T jt)) with
      | some jo, some ji => if (yp_oc T jf jo).isNone = true ∧ (yp_ic T jt ji).isNone = true then some (jf, jo, jt, ji, r.toNatClampNeg) else none
      | _, _ => none
    else none
  | _, _ => none
theorem jok_yes {T : yp_T} {nc jf jt jo ji : Nat} {r : Int32} (hjf : jf < yp_n T) (hjt : jt < yp_n T) (hn : yp_n T < 2 ^ 31) (hc : nc < 16) (hr : ¬ (r < nI 1 ∨ nI 8 < r)) (hjo : jo < yt_outs (yp_kd T jf)) (hji : ji < yt_ins (yp_kd T jt)) (eo : yp_oc T jf jo = none) (ei : yp_ic T jt ji = none) : a_jok T nc (nI jf) (nI jo) (nI jt) (nI ji) r = some (jf, jo, jt, ji, r.toNatClampNeg) := by
  have h1 := yt_outs_le (yp_kd T jf)
  have h2 := yt_ins_le (yp_kd T jt)
  unfold a_jok
  rw [yin_some hjf hn, yin_some hjt hn]
  show (if nc < 16 then _ else _) = _
  rw [if_pos hc, if_neg hr, yin_some hjo (by omega), yin_some hji (by omega)]
  show (if _ then _ else _) = _
  rw [if_pos ⟨by rw [eo]; rfl, by rw [ei]; rfl⟩]
/-- one more channel -/
def yo_join (σ : ys) (y jf jo jt ji r : Nat) : ys := sx_cn (sx_ic (sx_oc (sx_rg (sx_ch σ y (s_nc σ y) (r, 0, 0)) y (s_nc σ y) (fun _ => 0)) y jf (va_up (s_oc σ y jf) jo (some (s_nc σ y)))) y jt (va_up (s_ic σ y jt) ji (some (s_nc σ y)))) y (s_n σ y, s_nc σ y + 1)
theorem join_g1 {cc : ClassId × ClassId × ClassId} {σ : ys} {ad ad2 : yl → Nat} {LL : List yl} {y r : Nat} {e0 : va_E} (hLL : ∀ q, q ∈ LL ↔ yL σ q) (hIo : ∀ z, yI σ z ∨ 2 ≤ z) (hag : ∀ z, z ∈ LL → ad2 z = ad z) : ∀ q, q ∈ ((LL ++ [(9, y, s_nc σ y)]) ++ [(10, y, s_nc σ y)]) → (yu (yu (yu (yG cc σ ad) (9, y, s_nc σ y) e0) (10, y, s_nc σ y) (.inl (cc.1, 8, .inl (fun _ => 0)))) (9, y, s_nc σ y) (.inr (k_C, [.int (nI r), .ref (ad2 (10, y, s_nc σ y)), .int 0, .int 0]))) q = (yu (yu (yG cc σ ad2) (10, y, s_nc σ y) (.inl (cc.1, 8, .inl (fun _ => 0)))) (9, y, s_nc σ y) (.inr (k_C, [.int (nI r), .ref (ad2 (10, y, s_nc σ y)), .int 0, .int 0]))) q := by
  intro q hq
  by_cases q9 : q = (9, y, s_nc σ y)
  · subst q9; simp [yu]
  · by_cases q10 : q = (10, y, s_nc σ y)
    · subst q10; simp [yu]
    · have hq' : q ∈ LL := by simpa [q9, q10] using hq
      have e := yG_ad (cc := cc) hIo (fun z hz => hag z ((hLL z).mpr hz)) ((hLL q).mp hq')
      simp [yu, q9, q10, e]
theorem map_up {f : Nat → Option Nat} {j v : Nat} {h : Nat → Nat} : (fun k => (va_up f j (some v) k).map h) = va_up (fun k => (f k).map h) j (some (h v)) := by
  funext k
  unfold va_up
  by_cases e : k = j
  · rw [if_pos e, if_pos e]; rfl
  · rw [if_neg e, if_neg e]
theorem join_g2 {cc : ClassId × ClassId × ClassId} {σ : ys} {ad2 : yl → Nat} {LL : List yl} {y jf jo jt ji r : Nat} (hLL : ∀ q, q ∈ LL ↔ yL σ q) : ∀ q, q ∈ ((LL ++ [(9, y, s_nc σ y)]) ++ [(10, y, s_nc σ y)]) → (yu (yu (yu (yu (yu (yu (yG cc σ ad2) (10, y, s_nc σ y) (.inl (cc.1, 8, .inl (fun _ => 0)))) (9, y, s_nc σ y) (.inr (k_C, [.int (nI r), .ref (ad2 (10, y, s_nc σ y)), .int 0, .int 0]))) (7, y, jf) (.inl (cc.2.2, 2, .inr (.inr (.inr (.inr (va_up (fun j => (s_oc σ y jf j).map (fun c => ad2 (9, y, c))) jo (some (ad2 (9, y, s_nc σ y)))))))))) (6, y, jt) (.inl (cc.2.2, 2, .inr (.inr (.inr (.inr (va_up (fun j => (s_ic σ y jt j).map (fun c => ad2 (9, y, c))) ji (some (ad2 (9, y, s_nc σ y)))))))))) (3, y, 0) (.inl (cc.2.2, 16, .inr (.inr (.inr (.inr (va_up (fun j => if j < s_nc σ y then some (ad2 (9, y, j)) else none) (s_nc σ y) (some (ad2 (9, y, s_nc σ y)))))))))) (1, y, 0) (.inr (k_Y, [.ref (ad2 (2, y, 0)), .ref (ad2 (3, y, 0)), .ref (ad2 (4, y, 0)), .int (nI (s_n σ y)), .int (nI (s_nc σ y + 1))]))) q = yG cc (yo_join σ y jf jo jt ji r) ad2 q := by
  intro q hq
  have hcn : ∀ z, s_n (yo_join σ y jf jo jt ji r) z = s_n σ z := fun z => by
    show (va_up σ.2.1 y (s_n σ y, s_nc σ y + 1) z).1 = _
    unfold va_up
    by_cases h : z = y
    · rw [if_pos h, h]
    · rw [if_neg h]; rfl
  have hcc : ∀ z, s_nc (yo_join σ y jf jo jt ji r) z = if z = y then s_nc σ y + 1 else s_nc σ z := fun z => by
    show (va_up σ.2.1 y (s_n σ y, s_nc σ y + 1) z).2 = _
    unfold va_up
    by_cases h : z = y
    · rw [if_pos h, if_pos h]
    · rw [if_neg h, if_neg h]; rfl
  have hch : ∀ z i, s_ch (yo_join σ y jf jo jt ji r) z i = if z = y ∧ i = s_nc σ y then (r, 0, 0) else s_ch σ z i := fun z i => rfl
  have hrg : ∀ z i, s_rg (yo_join σ y jf jo jt ji r) z i = if z = y ∧ i = s_nc σ y then (fun _ => 0) else s_rg σ z i := fun z i => rfl
  have hoc : ∀ z i, s_oc (yo_join σ y jf jo jt ji r) z i = if z = y ∧ i = jf then va_up (s_oc σ y jf) jo (some (s_nc σ y)) else s_oc σ z i := fun z i => rfl
  have hic : ∀ z i, s_ic (yo_join σ y jf jo jt ji r) z i = if z = y ∧ i = jt then va_up (s_ic σ y jt) ji (some (s_nc σ y)) else s_ic σ z i := fun z i => rfl
  by_cases q1 : q = (1, y, 0)
  · subst q1
    rw [yu_s]
    show Sum.inr (k_Y, [_, _, _, Value.int (nI (s_n σ y)), Value.int (nI (s_nc σ y + 1))]) = Sum.inr (k_Y, [_, _, _, Value.int (nI (s_n (yo_join σ y jf jo jt ji r) y)), Value.int (nI (s_nc (yo_join σ y jf jo jt ji r) y))])
    rw [hcn, hcc, if_pos rfl]
  · rw [yu_n _ _ q1]
    by_cases q3 : q = (3, y, 0)
    · subst q3
      rw [yu_s]
      show Sum.inl (cc.2.2, 16, Sum.inr (Sum.inr (Sum.inr (Sum.inr (va_up (fun j => if j < s_nc σ y then some (ad2 (9, y, j)) else none) (s_nc σ y) (some (ad2 (9, y, s_nc σ y)))))))) = Sum.inl (cc.2.2, 16, Sum.inr (Sum.inr (Sum.inr (Sum.inr (fun j => if j < s_nc (yo_join σ y jf jo jt ji r) y then some (ad2 (9, y, j)) else none)))))
      have e : va_up (fun j => if j < s_nc σ y then some (ad2 (9, y, j)) else none) (s_nc σ y) (some (ad2 (9, y, s_nc σ y))) = fun j => if j < s_nc (yo_join σ y jf jo jt ji r) y then some (ad2 (9, y, j)) else none := by
        funext j
        rw [hcc, if_pos rfl]
        unfold va_up
        by_cases h : j = s_nc σ y
        · rw [if_pos h, if_pos (by omega), h]
        · rw [if_neg h]
          show (if j < s_nc σ y then some (ad2 (9, y, j)) else none) = _
          by_cases h2 : j < s_nc σ y
          · rw [if_pos h2, if_pos (by omega)]
          · rw [if_neg h2, if_neg (by omega)]
      rw [e]
    · rw [yu_n _ _ q3]
      by_cases q6 : q = (6, y, jt)
      · subst q6
        rw [yu_s]
        show _ = Sum.inl (cc.2.2, 2, Sum.inr (Sum.inr (Sum.inr (Sum.inr (fun j => (s_ic (yo_join σ y jf jo jt ji r) y jt j).map (fun c => ad2 (9, y, c)))))))
        rw [hic, if_pos ⟨rfl, rfl⟩, map_up]
      · rw [yu_n _ _ q6]
        by_cases q7 : q = (7, y, jf)
        · subst q7
          rw [yu_s]
          show _ = Sum.inl (cc.2.2, 2, Sum.inr (Sum.inr (Sum.inr (Sum.inr (fun j => (s_oc (yo_join σ y jf jo jt ji r) y jf j).map (fun c => ad2 (9, y, c)))))))
          rw [hoc, if_pos ⟨rfl, rfl⟩, map_up]
        · rw [yu_n _ _ q7]
          by_cases q9 : q = (9, y, s_nc σ y)
          · subst q9
            rw [yu_s]
            show _ = Sum.inr (k_C, [Value.int (nI (s_ch (yo_join σ y jf jo jt ji r) y (s_nc σ y)).1), _, Value.int (nI (s_ch (yo_join σ y jf jo jt ji r) y (s_nc σ y)).2.1), Value.int (nI (s_ch (yo_join σ y jf jo jt ji r) y (s_nc σ y)).2.2)])
            rw [hch, if_pos ⟨rfl, rfl⟩]
            rfl
          · rw [yu_n _ _ q9]
            by_cases q10 : q = (10, y, s_nc σ y)
            · subst q10
              rw [yu_s]
              show _ = Sum.inl (cc.1, 8, Sum.inl (s_rg (yo_join σ y jf jo jt ji r) y (s_nc σ y)))
              rw [hrg, if_pos ⟨rfl, rfl⟩]
            · rw [yu_n _ _ q10]
              have hq' : q ∈ LL := by simpa [q9, q10] using hq
              have hl := (hLL q).mp hq'
              obtain ⟨f, z, i⟩ := q
              match f, hl, q1, q3, q6, q7, q9, q10 with
              | 0, _, _, _, _, _, _, _ => rfl
              | 1, hl, q1, _, _, _, _, _ =>
                have hz : z ≠ y := fun h => q1 (by rw [h, hl.2])
                show Sum.inr (k_Y, [_, _, _, Value.int (nI (s_n σ z)), Value.int (nI (s_nc σ z))]) = Sum.inr (k_Y, [_, _, _, Value.int (nI (s_n (yo_join σ y jf jo jt ji r) z)), Value.int (nI (s_nc (yo_join σ y jf jo jt ji r) z))])
                rw [hcn, hcc, if_neg hz]
              | 2, _, _, _, _, _, _, _ =>
                show Sum.inl (cc.2.1, 10, Sum.inr (Sum.inr (Sum.inr (Sum.inr (fun j => if j < s_n σ z then some (ad2 (5, z, j)) else none))))) = Sum.inl (cc.2.1, 10, Sum.inr (Sum.inr (Sum.inr (Sum.inr (fun j => if j < s_n (yo_join σ y jf jo jt ji r) z then some (ad2 (5, z, j)) else none)))))
                rw [hcn]
              | 3, hl, _, q3, _, _, _, _ =>
                have hz : z ≠ y := fun h => q3 (by rw [h, hl.2])
                show Sum.inl (cc.2.2, 16, Sum.inr (Sum.inr (Sum.inr (Sum.inr (fun j => if j < s_nc σ z then some (ad2 (9, z, j)) else none))))) = Sum.inl (cc.2.2, 16, Sum.inr (Sum.inr (Sum.inr (Sum.inr (fun j => if j < s_nc (yo_join σ y jf jo jt ji r) z then some (ad2 (9, z, j)) else none)))))
                rw [hcc, if_neg hz]
              | 4, _, _, _, _, _, _, _ => rfl
              | 5, _, _, _, _, _, _, _ => rfl
              | 6, _, _, _, q6, _, _, _ =>
                show Sum.inl (cc.2.2, 2, Sum.inr (Sum.inr (Sum.inr (Sum.inr (fun j => (s_ic σ z i j).map (fun c => ad2 (9, z, c))))))) = Sum.inl (cc.2.2, 2, Sum.inr (Sum.inr (Sum.inr (Sum.inr (fun j => (s_ic (yo_join σ y jf jo jt ji r) z i j).map (fun c => ad2 (9, z, c)))))))
                rw [hic, if_neg (fun h => q6 (by rw [h.1, h.2]))]
              | 7, _, _, _, _, q7, _, _ =>
                show Sum.inl (cc.2.2, 2, Sum.inr (Sum.inr (Sum.inr (Sum.inr (fun j => (s_oc σ z i j).map (fun c => ad2 (9, z, c))))))) = Sum.inl (cc.2.2, 2, Sum.inr (Sum.inr (Sum.inr (Sum.inr (fun j => (s_oc (yo_join σ y jf jo jt ji r) z i j).map (fun c => ad2 (9, z, c)))))))
                rw [hoc, if_neg (fun h => q7 (by rw [h.1, h.2]))]
              | 8, _, _, _, _, _, _, _ => rfl
              | 9, _, _, _, _, _, q9, _ =>
                show Sum.inr (k_C, [Value.int (nI (s_ch σ z i).1), _, Value.int (nI (s_ch σ z i).2.1), Value.int (nI (s_ch σ z i).2.2)]) = Sum.inr (k_C, [Value.int (nI (s_ch (yo_join σ y jf jo jt ji r) z i).1), _, Value.int (nI (s_ch (yo_join σ y jf jo jt ji r) z i).2.1), Value.int (nI (s_ch (yo_join σ y jf jo jt ji r) z i).2.2)])
                rw [hch, if_neg (fun h => q9 (by rw [h.1, h.2]))]
              | 10, _, _, _, _, _, _, q10 =>
                show Sum.inl (cc.1, 8, Sum.inl (s_rg σ z i)) = Sum.inl (cc.1, 8, Sum.inl (s_rg (yo_join σ y jf jo jt ji r) z i))
                rw [hrg, if_neg (fun h => q10 (by rw [h.1, h.2]))]
set_option maxHeartbeats 4000000 in
set_option maxRecDepth 100000 in
theorem c_Y_join_no (l : Launch) (D : va_G) (cc : ClassId × ClassId × ClassId) (ad : yl → Nat) (LL : List yl) (X : va_W) (b0 sz : Nat) (σ : ys) (hLL : ∀ q, q ∈ LL ↔ yL σ q) (y : Nat) (hy : y < 2) (hi : yI σ y) (f o t i r : Int32) (hnj : a_jok (s_T σ y) (s_nc σ y) f o t i r = none) : Met l y_Y_join w_Y_join ({ frames := 2, cells := 0, slots := 0, locals := 33 }) (yPr D cc b0 [.ref (ad (1, y, 0)), .int f, .int o, .int t, .int i, .int r] (yW cc ad LL X σ) sz) (yQi D (yW cc ad LL X σ) sz (-1) (yW cc ad LL X σ)) 0 0 (va_A (yW cc ad LL X σ) sz) := by
  have hL : ∀ q, yL σ q → q ∈ LL := fun q h => (hLL q).mpr h
  have g1 : (1, y, 0) ∈ LL := hL _ ⟨hy, rfl⟩
  have g2 : (2, y, 0) ∈ LL := hL _ ⟨hy, rfl⟩
  have g3 : (3, y, 0) ∈ LL := hL _ ⟨hy, rfl⟩
  have g4 : (4, y, 0) ∈ LL := hL _ ⟨hy, rfl⟩
  have hn10 := hi.1.1
  have hc16 := hi.2.1
  rcases ysplit f (n := s_n σ y) (by omega) with hno | ⟨jf, hjf, rfl⟩
  · rcases ysplit t (n := s_n σ y) (by omega) with hno2 | ⟨jt, hjt, rfl⟩
    · refine y_ofW (cc := b_Y_join) (maxL := 9) (ret := (some .int)) (by decide) rfl (Nat.le_of_ble_eq_true rfl) ?_
      intro pv ev sv mv bv tv cv ls hI hsz hw hl
      obtain ⟨hx, hb, hr, hml, hts, hown, hlocks, hnm, hK, hAb, hb0, hA⟩ := id hI
      have ht : ∀ w ∈ lg_tbl, w.before _ sv = true := fun w h => hts w (List.mem_cons_of_mem _ h)
      have hl : lv_has ls 9 [(0, .ref (ad (1, y, 0))), (1, .int f), (2, .int o), (3, .int t), (4, .int i), (5, .int r)] := hl
      refine lv_aload_n hx hb d_Y_join_0 rfl (lv_at hl 0 rfl) ?_
      refine lv_iload_n hx hb d_Y_join_1 rfl (lv_at hl 1 rfl) ?_
      refine yc_q (va_runV (As := [.int _]) (rest := []) ⟨hx, hb, hml, hown, hts⟩ (c_Y_findActor_no l D cc ad LL X b0 _ σ hL y hy hi f hno) (cwV 1 hts (yg_call mc_Y_findActor ml_Y_37 mm_Y_findActor ms_Y_findActor mi_Y) rfl rfl rfl (by decide +kernel) ⟨Nat.le_of_ble_eq_true rfl, Nat.le_of_ble_eq_true rfl⟩) (y_preV hI hw (y_recv hK.1 hw g1 (by rfl) rfl)) rfl rfl hl.1 rfl (lv_room (Nat.le_of_ble_eq_true rfl)) d_Y_join_2 ⟨Nat.le_of_ble_eq_true rfl, Nat.le_of_ble_eq_true rfl⟩) hw hA (fun r u H locs he hw => ?_)
      subst he
      rw [yrf_n]
      refine lv_astoreN (lv' := [(6, .null), (0, .ref _), (1, .int _), (2, .int _), (3, .int _), (4, .int _), (5, .int _)]) hx hb d_Y_join_5 hl (by decide) rfl (fun ls hl => ?_)
      refine lv_aload_n hx hb d_Y_join_7 rfl (lv_at hl 1 rfl) ?_
      refine lv_iload_n hx hb d_Y_join_8 rfl (lv_at hl 4 rfl) ?_
      refine yc_q (va_runV (As := [.int _]) (rest := []) ⟨hx, hb, hml, hown, hts⟩ (c_Y_findActor_no l D cc ad LL X b0 _ σ hL y hy hi t hno2) (cwV 1 hts (yg_call mc_Y_findActor ml_Y_37 mm_Y_findActor ms_Y_findActor mi_Y) rfl rfl rfl (by decide +kernel) ⟨Nat.le_of_ble_eq_true rfl, Nat.le_of_ble_eq_true rfl⟩) (y_preV hI hw (y_recv hK.1 hw g1 (by rfl) rfl)) rfl rfl hl.1 rfl (lv_room (Nat.le_of_ble_eq_true rfl)) d_Y_join_9 ⟨Nat.le_of_ble_eq_true rfl, Nat.le_of_ble_eq_true rfl⟩) hw hA (fun r u H locs he hw => ?_)
      subst he
      rw [yrf_n]
      refine lv_astoreN (lv' := [(7, .null), (6, .null), (0, .ref _), (1, .int _), (2, .int _), (3, .int _), (4, .int _), (5, .int _)]) hx hb d_Y_join_12 hl (by decide) rfl (fun ls hl => ?_)
      refine lv_aloadN hx hb d_Y_join_14 (lv_at hl 1 rfl) ?_
      refine lv_ifnullN (tgt := 33) hx hb d_Y_join_16 (by decide) ?_
      refine lv_iconst (v := (-1)) hx hb d_Y_join_33 (by decide) ?_
      exact ye_i hI () rfl hw d_Y_join_34
    · refine y_ofW (cc := b_Y_join) (maxL := 9) (ret := (some .int)) (by decide) rfl (Nat.le_of_ble_eq_true rfl) ?_
      intro pv ev sv mv bv tv cv ls hI hsz hw hl
      obtain ⟨hx, hb, hr, hml, hts, hown, hlocks, hnm, hK, hAb, hb0, hA⟩ := id hI
      have ht : ∀ w ∈ lg_tbl, w.before _ sv = true := fun w h => hts w (List.mem_cons_of_mem _ h)
      have hl : lv_has ls 9 [(0, .ref (ad (1, y, 0))), (1, .int f), (2, .int o), (3, .int (nI jt)), (4, .int i), (5, .int r)] := hl
      refine lv_aload_n hx hb d_Y_join_0 rfl (lv_at hl 0 rfl) ?_
      refine lv_iload_n hx hb d_Y_join_1 rfl (lv_at hl 1 rfl) ?_
      refine yc_q (va_runV (As := [.int _]) (rest := []) ⟨hx, hb, hml, hown, hts⟩ (c_Y_findActor_no l D cc ad LL X b0 _ σ hL y hy hi f hno) (cwV 1 hts (yg_call mc_Y_findActor ml_Y_37 mm_Y_findActor ms_Y_findActor mi_Y) rfl rfl rfl (by decide +kernel) ⟨Nat.le_of_ble_eq_true rfl, Nat.le_of_ble_eq_true rfl⟩) (y_preV hI hw (y_recv hK.1 hw g1 (by rfl) rfl)) rfl rfl hl.1 rfl (lv_room (Nat.le_of_ble_eq_true rfl)) d_Y_join_2 ⟨Nat.le_of_ble_eq_true rfl, Nat.le_of_ble_eq_true rfl⟩) hw hA (fun r u H locs he hw => ?_)
      subst he
      rw [yrf_n]
      refine lv_astoreN (lv' := [(6, .null), (0, .ref _), (1, .int _), (2, .int _), (3, .int _), (4, .int _), (5, .int _)]) hx hb d_Y_join_5 hl (by decide) rfl (fun ls hl => ?_)
      refine lv_aload_n hx hb d_Y_join_7 rfl (lv_at hl 1 rfl) ?_
      refine lv_iload_n hx hb d_Y_join_8 rfl (lv_at hl 4 rfl) ?_
      refine yc_q (va_runV (As := [.int _]) (rest := []) ⟨hx, hb, hml, hown, hts⟩ (c_Y_findActor l D cc ad LL X b0 _ σ hL y hy hi jt hjt) (cwV 1 hts (yg_call mc_Y_findActor ml_Y_37 mm_Y_findActor ms_Y_findActor mi_Y) rfl rfl rfl (by decide +kernel) ⟨Nat.le_of_ble_eq_true rfl, Nat.le_of_ble_eq_true rfl⟩) (y_preV hI hw (y_recv hK.1 hw g1 (by rfl) rfl)) rfl rfl hl.1 rfl (lv_room (Nat.le_of_ble_eq_true rfl)) d_Y_join_9 ⟨Nat.le_of_ble_eq_true rfl, Nat.le_of_ble_eq_true rfl⟩) hw hA (fun r u H locs he hw => ?_)
      subst he
      rw [yrf_s]
      refine lv_astore (lv' := [(7, .ref _), (6, .null), (0, .ref _), (1, .int _), (2, .int _), (3, .int _), (4, .int _), (5, .int _)]) hx hb d_Y_join_12 hl (by decide) rfl (fun ls hl => ?_)
      refine lv_aloadN hx hb d_Y_join_14 (lv_at hl 1 rfl) ?_
      refine lv_ifnullN (tgt := 33) hx hb d_Y_join_16 (by decide) ?_
      refine lv_iconst (v := (-1)) hx hb d_Y_join_33 (by decide) ?_
      exact ye_i hI () rfl hw d_Y_join_34
  · rcases ysplit t (n := s_n σ y) (by omega) with hno | ⟨jt, hjt, rfl⟩
    · refine y_ofW (cc := b_Y_join) (maxL := 9) (ret := (some .int)) (by decide) rfl (Nat.le_of_ble_eq_true rfl) ?_
      intro pv ev sv mv bv tv cv ls hI hsz hw hl
      obtain ⟨hx, hb, hr, hml, hts, hown, hlocks, hnm, hK, hAb, hb0, hA⟩ := id hI
      have ht : ∀ w ∈ lg_tbl, w.before _ sv = true := fun w h => hts w (List.mem_cons_of_mem _ h)
      have hl : lv_has ls 9 [(0, .ref (ad (1, y, 0))), (1, .int (nI jf)), (2, .int o), (3, .int t), (4, .int i), (5, .int r)] := hl
      refine lv_aload_n hx hb d_Y_join_0 rfl (lv_at hl 0 rfl) ?_
      refine lv_iload_n hx hb d_Y_join_1 rfl (lv_at hl 1 rfl) ?_
      refine yc_q (va_runV (As := [.int _]) (rest := []) ⟨hx, hb, hml, hown, hts⟩ (c_Y_findActor l D cc ad LL X b0 _ σ hL y hy hi jf hjf) (cwV 1 hts (yg_call mc_Y_findActor ml_Y_37 mm_Y_findActor ms_Y_findActor mi_Y) rfl rfl rfl (by decide +kernel) ⟨Nat.le_of_ble_eq_true rfl, Nat.le_of_ble_eq_true rfl⟩) (y_preV hI hw (y_recv hK.1 hw g1 (by rfl) rfl)) rfl rfl hl.1 rfl (lv_room (Nat.le_of_ble_eq_true rfl)) d_Y_join_2 ⟨Nat.le_of_ble_eq_true rfl, Nat.le_of_ble_eq_true rfl⟩) hw hA (fun r u H locs he hw => ?_)
      subst he
      rw [yrf_s]
      refine lv_astore (lv' := [(6, .ref _), (0, .ref _), (1, .int _), (2, .int _), (3, .int _), (4, .int _), (5, .int _)]) hx hb d_Y_join_5 hl (by decide) rfl (fun ls hl => ?_)
      refine lv_aload_n hx hb d_Y_join_7 rfl (lv_at hl 1 rfl) ?_
      refine lv_iload_n hx hb d_Y_join_8 rfl (lv_at hl 4 rfl) ?_
      refine yc_q (va_runV (As := [.int _]) (rest := []) ⟨hx, hb, hml, hown, hts⟩ (c_Y_findActor_no l D cc ad LL X b0 _ σ hL y hy hi t hno) (cwV 1 hts (yg_call mc_Y_findActor ml_Y_37 mm_Y_findActor ms_Y_findActor mi_Y) rfl rfl rfl (by decide +kernel) ⟨Nat.le_of_ble_eq_true rfl, Nat.le_of_ble_eq_true rfl⟩) (y_preV hI hw (y_recv hK.1 hw g1 (by rfl) rfl)) rfl rfl hl.1 rfl (lv_room (Nat.le_of_ble_eq_true rfl)) d_Y_join_9 ⟨Nat.le_of_ble_eq_true rfl, Nat.le_of_ble_eq_true rfl⟩) hw hA (fun r u H locs he hw => ?_)
      subst he
      rw [yrf_n]
      refine lv_astoreN (lv' := [(7, .null), (6, .ref _), (0, .ref _), (1, .int _), (2, .int _), (3, .int _), (4, .int _), (5, .int _)]) hx hb d_Y_join_12 hl (by decide) rfl (fun ls hl => ?_)
      refine lv_aload hx hb d_Y_join_14 (lv_at hl 1 rfl) ?_
      refine lv_ifnull hx hb d_Y_join_16 ?_
      refine lv_aloadN hx hb d_Y_join_19 (lv_at hl 0 rfl) ?_
      refine lv_ifnullN (tgt := 33) hx hb d_Y_join_21 (by decide) ?_
      refine lv_iconst (v := (-1)) hx hb d_Y_join_33 (by decide) ?_
      exact ye_i hI () rfl hw d_Y_join_34
    · have hf5 : (5, y, jf) ∈ LL := hL _ ⟨hy, hjf⟩
      have ht5 : (5, y, jt) ∈ LL := hL _ ⟨hy, hjt⟩
      have hno2 := yt_outs_le (s_ac σ y jf).1
      have hni2 := yt_ins_le (s_ac σ y jt).1
      by_cases hc : s_nc σ y < 16
      · by_cases hrm : r < nI 1 ∨ nI 8 < r
        · refine y_ofW (cc := b_Y_join) (maxL := 9) (ret := (some .int)) (by decide) rfl (Nat.le_of_ble_eq_true rfl) ?_
          intro pv ev sv mv bv tv cv ls hI hsz hw hl
          obtain ⟨hx, hb, hr, hml, hts, hown, hlocks, hnm, hK, hAb, hb0, hA⟩ := id hI
          have ht : ∀ w ∈ lg_tbl, w.before _ sv = true := fun w h => hts w (List.mem_cons_of_mem _ h)
          have hl : lv_has ls 9 [(0, .ref (ad (1, y, 0))), (1, .int (nI jf)), (2, .int o), (3, .int (nI jt)), (4, .int i), (5, .int r)] := hl
          refine lv_aload_n hx hb d_Y_join_0 rfl (lv_at hl 0 rfl) ?_
          refine lv_iload_n hx hb d_Y_join_1 rfl (lv_at hl 1 rfl) ?_
          refine yc_q (va_runV (As := [.int _]) (rest := []) ⟨hx, hb, hml, hown, hts⟩ (c_Y_findActor l D cc ad LL X b0 _ σ hL y hy hi jf hjf) (cwV 1 hts (yg_call mc_Y_findActor ml_Y_37 mm_Y_findActor ms_Y_findActor mi_Y) rfl rfl rfl (by decide +kernel) ⟨Nat.le_of_ble_eq_true rfl, Nat.le_of_ble_eq_true rfl⟩) (y_preV hI hw (y_recv hK.1 hw g1 (by rfl) rfl)) rfl rfl hl.1 rfl (lv_room (Nat.le_of_ble_eq_true rfl)) d_Y_join_2 ⟨Nat.le_of_ble_eq_true rfl, Nat.le_of_ble_eq_true rfl⟩) hw hA (fun r u H locs he hw => ?_)
          subst he
          rw [yrf_s]
          refine lv_astore (lv' := [(6, .ref _), (0, .ref _), (1, .int _), (2, .int _), (3, .int _), (4, .int _), (5, .int _)]) hx hb d_Y_join_5 hl (by decide) rfl (fun ls hl => ?_)
          refine lv_aload_n hx hb d_Y_join_7 rfl (lv_at hl 1 rfl) ?_
          refine lv_iload_n hx hb d_Y_join_8 rfl (lv_at hl 4 rfl) ?_
          refine yc_q (va_runV (As := [.int _]) (rest := []) ⟨hx, hb, hml, hown, hts⟩ (c_Y_findActor l D cc ad LL X b0 _ σ hL y hy hi jt hjt) (cwV 1 hts (yg_call mc_Y_findActor ml_Y_37 mm_Y_findActor ms_Y_findActor mi_Y) rfl rfl rfl (by decide +kernel) ⟨Nat.le_of_ble_eq_true rfl, Nat.le_of_ble_eq_true rfl⟩) (y_preV hI hw (y_recv hK.1 hw g1 (by rfl) rfl)) rfl rfl hl.1 rfl (lv_room (Nat.le_of_ble_eq_true rfl)) d_Y_join_9 ⟨Nat.le_of_ble_eq_true rfl, Nat.le_of_ble_eq_true rfl⟩) hw hA (fun r u H locs he hw => ?_)
          subst he
          rw [yrf_s]
          refine lv_astore (lv' := [(7, .ref _), (6, .ref _), (0, .ref _), (1, .int _), (2, .int _), (3, .int _), (4, .int _), (5, .int _)]) hx hb d_Y_join_12 hl (by decide) rfl (fun ls hl => ?_)
          refine lv_aload hx hb d_Y_join_14 (lv_at hl 1 rfl) ?_
          refine lv_ifnull hx hb d_Y_join_16 ?_
          refine lv_aload hx hb d_Y_join_19 (lv_at hl 0 rfl) ?_
          refine lv_ifnull hx hb d_Y_join_21 ?_
          refine lv_aload_n hx hb d_Y_join_24 rfl (lv_at hl 2 rfl) ?_
          refine yr_get (C := R_Y) (T := F_Y) (N := 5) (ci := k_Y) hx hb ht j_Y hown hK.1 hw (by assumption) (by rfl) rfl 4 (by decide) (ht _ mf_Y_31) (fun _ h9 => h9) (by rfl) d_Y_join_25 ?_
          refine lv_bipush (v := (nI 16)) hx hb d_Y_join_28 (by decide) ?_
          refine lv_icmp_lt (tgt := 35) hx hb d_Y_join_30 (by decide) (fun c_30 => ?_) (fun c_30 => by exact absurd (nI_lt hc (by omega)) c_30)
          refine lv_iload hx hb d_Y_join_35 (lv_at hl 7 rfl) ?_
          refine lv_iconst (v := (nI 1)) hx hb d_Y_join_37 (by decide) ?_
          refine lv_icmp_lt (tgt := 67) hx hb d_Y_join_38 (by decide) (fun c_38 => ?_) (fun c_38 => ?_)
          · refine lv_iconst (v := (-1)) hx hb d_Y_join_67 (by decide) ?_
            exact ye_i hI () rfl hw d_Y_join_68
          · refine lv_iload hx hb d_Y_join_41 (lv_at hl 7 rfl) ?_
            refine lv_bipush (v := (nI 8)) hx hb d_Y_join_43 (by decide) ?_
            refine lv_icmp_gt (tgt := 67) hx hb d_Y_join_45 (by decide) (fun c_45 => ?_) (fun c_45 => by exact (hrm.elim (fun q => absurd q c_38) (fun q => absurd q c_45)))
            refine lv_iconst (v := (-1)) hx hb d_Y_join_67 (by decide) ?_
            exact ye_i hI () rfl hw d_Y_join_68
        · rcases ysplit o (n := yt_outs (s_ac σ y jf).1) (by omega) with hno | ⟨jo, hjo, rfl⟩
          · refine y_ofW (cc := b_Y_join) (maxL := 9) (ret := (some .int)) (by decide) rfl (Nat.le_of_ble_eq_true rfl) ?_
            intro pv ev sv mv bv tv cv ls hI hsz hw hl
            obtain ⟨hx, hb, hr, hml, hts, hown, hlocks, hnm, hK, hAb, hb0, hA⟩ := id hI
            have ht : ∀ w ∈ lg_tbl, w.before _ sv = true := fun w h => hts w (List.mem_cons_of_mem _ h)
            have hl : lv_has ls 9 [(0, .ref (ad (1, y, 0))), (1, .int (nI jf)), (2, .int o), (3, .int (nI jt)), (4, .int i), (5, .int r)] := hl
            refine lv_aload_n hx hb d_Y_join_0 rfl (lv_at hl 0 rfl) ?_
            refine lv_iload_n hx hb d_Y_join_1 rfl (lv_at hl 1 rfl) ?_
            refine yc_q (va_runV (As := [.int _]) (rest := []) ⟨hx, hb, hml, hown, hts⟩ (c_Y_findActor l D cc ad LL X b0 _ σ hL y hy hi jf hjf) (cwV 1 hts (yg_call mc_Y_findActor ml_Y_37 mm_Y_findActor ms_Y_findActor mi_Y) rfl rfl rfl (by decide +kernel) ⟨Nat.le_of_ble_eq_true rfl, Nat.le_of_ble_eq_true rfl⟩) (y_preV hI hw (y_recv hK.1 hw g1 (by rfl) rfl)) rfl rfl hl.1 rfl (lv_room (Nat.le_of_ble_eq_true rfl)) d_Y_join_2 ⟨Nat.le_of_ble_eq_true rfl, Nat.le_of_ble_eq_true rfl⟩) hw hA (fun r u H locs he hw => ?_)
            subst he
            rw [yrf_s]
            refine lv_astore (lv' := [(6, .ref _), (0, .ref _), (1, .int _), (2, .int _), (3, .int _), (4, .int _), (5, .int _)]) hx hb d_Y_join_5 hl (by decide) rfl (fun ls hl => ?_)
            refine lv_aload_n hx hb d_Y_join_7 rfl (lv_at hl 1 rfl) ?_
            refine lv_iload_n hx hb d_Y_join_8 rfl (lv_at hl 4 rfl) ?_
            refine yc_q (va_runV (As := [.int _]) (rest := []) ⟨hx, hb, hml, hown, hts⟩ (c_Y_findActor l D cc ad LL X b0 _ σ hL y hy hi jt hjt) (cwV 1 hts (yg_call mc_Y_findActor ml_Y_37 mm_Y_findActor ms_Y_findActor mi_Y) rfl rfl rfl (by decide +kernel) ⟨Nat.le_of_ble_eq_true rfl, Nat.le_of_ble_eq_true rfl⟩) (y_preV hI hw (y_recv hK.1 hw g1 (by rfl) rfl)) rfl rfl hl.1 rfl (lv_room (Nat.le_of_ble_eq_true rfl)) d_Y_join_9 ⟨Nat.le_of_ble_eq_true rfl, Nat.le_of_ble_eq_true rfl⟩) hw hA (fun r u H locs he hw => ?_)
            subst he
            rw [yrf_s]
            refine lv_astore (lv' := [(7, .ref _), (6, .ref _), (0, .ref _), (1, .int _), (2, .int _), (3, .int _), (4, .int _), (5, .int _)]) hx hb d_Y_join_12 hl (by decide) rfl (fun ls hl => ?_)
            refine lv_aload hx hb d_Y_join_14 (lv_at hl 1 rfl) ?_
            refine lv_ifnull hx hb d_Y_join_16 ?_
            refine lv_aload hx hb d_Y_join_19 (lv_at hl 0 rfl) ?_
            refine lv_ifnull hx hb d_Y_join_21 ?_
            refine lv_aload_n hx hb d_Y_join_24 rfl (lv_at hl 2 rfl) ?_
            refine yr_get (C := R_Y) (T := F_Y) (N := 5) (ci := k_Y) hx hb ht j_Y hown hK.1 hw (by assumption) (by rfl) rfl 4 (by decide) (ht _ mf_Y_31) (fun _ h9 => h9) (by rfl) d_Y_join_25 ?_
            refine lv_bipush (v := (nI 16)) hx hb d_Y_join_28 (by decide) ?_
            refine lv_icmp_lt (tgt := 35) hx hb d_Y_join_30 (by decide) (fun c_30 => ?_) (fun c_30 => by exact absurd (nI_lt hc (by omega)) c_30)
            refine lv_iload hx hb d_Y_join_35 (lv_at hl 7 rfl) ?_
            refine lv_iconst (v := (nI 1)) hx hb d_Y_join_37 (by decide) ?_
            refine lv_icmp_lt (tgt := 67) hx hb d_Y_join_38 (by decide) (fun c_38 => by exact absurd (Or.inl c_38) hrm) (fun c_38 => ?_)
            refine lv_iload hx hb d_Y_join_41 (lv_at hl 7 rfl) ?_
            refine lv_bipush (v := (nI 8)) hx hb d_Y_join_43 (by decide) ?_
            refine lv_icmp_gt (tgt := 67) hx hb d_Y_join_45 (by decide) (fun c_45 => by exact absurd (Or.inr c_45) hrm) (fun c_45 => ?_)
            refine lv_aload hx hb d_Y_join_48 (lv_at hl 1 rfl) ?_
            refine lv_iload_n hx hb d_Y_join_50 rfl (lv_at hl 4 rfl) ?_
            refine yc_i (va_runV (As := [.int _]) (rest := []) ⟨hx, hb, hml, hown, hts⟩ (c_A_hasFreeOut_no l D cc ad LL X b0 _ σ hL y jf hy hjf hi o hno) (cwV 1 hts (yg_call mc_A_hasFreeOut ml_Y_41 mm_A_hasFreeOut ms_A_hasFreeOut mi_A) rfl rfl rfl (by decide +kernel) ⟨Nat.le_of_ble_eq_true rfl, Nat.le_of_ble_eq_true rfl⟩) (y_preV hI hw (y_recv hK.1 hw hf5 (by rfl) rfl)) rfl rfl hl.1 rfl (lv_room (Nat.le_of_ble_eq_true rfl)) d_Y_join_51 ⟨Nat.le_of_ble_eq_true rfl, Nat.le_of_ble_eq_true rfl⟩) hw hA (fun r u H locs he hw => ?_)
            subst he
            refine lv_if_eq (tgt := 67) hx hb d_Y_join_54 (by decide) (fun c_54 => ?_) (fun c_54 => by exact absurd rfl c_54)
            refine lv_iconst (v := (-1)) hx hb d_Y_join_67 (by decide) ?_
            exact ye_i hI () rfl hw d_Y_join_68
          · cases eo : s_oc σ y jf jo with
            | some c0 =>
              refine y_ofW (cc := b_Y_join) (maxL := 9) (ret := (some .int)) (by decide) rfl (Nat.le_of_ble_eq_true rfl) ?_
              intro pv ev sv mv bv tv cv ls hI hsz hw hl
              obtain ⟨hx, hb, hr, hml, hts, hown, hlocks, hnm, hK, hAb, hb0, hA⟩ := id hI
              have ht : ∀ w ∈ lg_tbl, w.before _ sv = true := fun w h => hts w (List.mem_cons_of_mem _ h)
              have hl : lv_has ls 9 [(0, .ref (ad (1, y, 0))), (1, .int (nI jf)), (2, .int (nI jo)), (3, .int (nI jt)), (4, .int i), (5, .int r)] := hl
              refine lv_aload_n hx hb d_Y_join_0 rfl (lv_at hl 0 rfl) ?_
              refine lv_iload_n hx hb d_Y_join_1 rfl (lv_at hl 1 rfl) ?_
              refine yc_q (va_runV (As := [.int _]) (rest := []) ⟨hx, hb, hml, hown, hts⟩ (c_Y_findActor l D cc ad LL X b0 _ σ hL y hy hi jf hjf) (cwV 1 hts (yg_call mc_Y_findActor ml_Y_37 mm_Y_findActor ms_Y_findActor mi_Y) rfl rfl rfl (by decide +kernel) ⟨Nat.le_of_ble_eq_true rfl, Nat.le_of_ble_eq_true rfl⟩) (y_preV hI hw (y_recv hK.1 hw g1 (by rfl) rfl)) rfl rfl hl.1 rfl (lv_room (Nat.le_of_ble_eq_true rfl)) d_Y_join_2 ⟨Nat.le_of_ble_eq_true rfl, Nat.le_of_ble_eq_true rfl⟩) hw hA (fun r u H locs he hw => ?_)
              subst he
              rw [yrf_s]
              refine lv_astore (lv' := [(6, .ref _), (0, .ref _), (1, .int _), (2, .int _), (3, .int _), (4, .int _), (5, .int _)]) hx hb d_Y_join_5 hl (by decide) rfl (fun ls hl => ?_)
              refine lv_aload_n hx hb d_Y_join_7 rfl (lv_at hl 1 rfl) ?_
              refine lv_iload_n hx hb d_Y_join_8 rfl (lv_at hl 4 rfl) ?_
              refine yc_q (va_runV (As := [.int _]) (rest := []) ⟨hx, hb, hml, hown, hts⟩ (c_Y_findActor l D cc ad LL X b0 _ σ hL y hy hi jt hjt) (cwV 1 hts (yg_call mc_Y_findActor ml_Y_37 mm_Y_findActor ms_Y_findActor mi_Y) rfl rfl rfl (by decide +kernel) ⟨Nat.le_of_ble_eq_true rfl, Nat.le_of_ble_eq_true rfl⟩) (y_preV hI hw (y_recv hK.1 hw g1 (by rfl) rfl)) rfl rfl hl.1 rfl (lv_room (Nat.le_of_ble_eq_true rfl)) d_Y_join_9 ⟨Nat.le_of_ble_eq_true rfl, Nat.le_of_ble_eq_true rfl⟩) hw hA (fun r u H locs he hw => ?_)
              subst he
              rw [yrf_s]
              refine lv_astore (lv' := [(7, .ref _), (6, .ref _), (0, .ref _), (1, .int _), (2, .int _), (3, .int _), (4, .int _), (5, .int _)]) hx hb d_Y_join_12 hl (by decide) rfl (fun ls hl => ?_)
              refine lv_aload hx hb d_Y_join_14 (lv_at hl 1 rfl) ?_
              refine lv_ifnull hx hb d_Y_join_16 ?_
              refine lv_aload hx hb d_Y_join_19 (lv_at hl 0 rfl) ?_
              refine lv_ifnull hx hb d_Y_join_21 ?_
              refine lv_aload_n hx hb d_Y_join_24 rfl (lv_at hl 2 rfl) ?_
              refine yr_get (C := R_Y) (T := F_Y) (N := 5) (ci := k_Y) hx hb ht j_Y hown hK.1 hw (by assumption) (by rfl) rfl 4 (by decide) (ht _ mf_Y_31) (fun _ h9 => h9) (by rfl) d_Y_join_25 ?_
              refine lv_bipush (v := (nI 16)) hx hb d_Y_join_28 (by decide) ?_
              refine lv_icmp_lt (tgt := 35) hx hb d_Y_join_30 (by decide) (fun c_30 => ?_) (fun c_30 => by exact absurd (nI_lt hc (by omega)) c_30)
              refine lv_iload hx hb d_Y_join_35 (lv_at hl 7 rfl) ?_
              refine lv_iconst (v := (nI 1)) hx hb d_Y_join_37 (by decide) ?_
              refine lv_icmp_lt (tgt := 67) hx hb d_Y_join_38 (by decide) (fun c_38 => by exact absurd (Or.inl c_38) hrm) (fun c_38 => ?_)
              refine lv_iload hx hb d_Y_join_41 (lv_at hl 7 rfl) ?_
              refine lv_bipush (v := (nI 8)) hx hb d_Y_join_43 (by decide) ?_
              refine lv_icmp_gt (tgt := 67) hx hb d_Y_join_45 (by decide) (fun c_45 => by exact absurd (Or.inr c_45) hrm) (fun c_45 => ?_)
              refine lv_aload hx hb d_Y_join_48 (lv_at hl 1 rfl) ?_
              refine lv_iload_n hx hb d_Y_join_50 rfl (lv_at hl 4 rfl) ?_
              refine yc_i (va_runV (As := [.int _]) (rest := []) ⟨hx, hb, hml, hown, hts⟩ (c_A_hasFreeOut l D cc ad LL X b0 _ σ hL y jf hy hjf hi jo hjo) (cwV 1 hts (yg_call mc_A_hasFreeOut ml_Y_41 mm_A_hasFreeOut ms_A_hasFreeOut mi_A) rfl rfl rfl (by decide +kernel) ⟨Nat.le_of_ble_eq_true rfl, Nat.le_of_ble_eq_true rfl⟩) (y_preV hI hw (y_recv hK.1 hw hf5 (by rfl) rfl)) rfl rfl hl.1 rfl (lv_room (Nat.le_of_ble_eq_true rfl)) d_Y_join_51 ⟨Nat.le_of_ble_eq_true rfl, Nat.le_of_ble_eq_true rfl⟩) hw hA (fun r u H locs he hw => ?_)
              subst he
              refine lv_if_eq (tgt := 67) hx hb d_Y_join_54 (by decide) (fun c_54 => ?_) (fun c_54 => by rw [eo] at c_54; exact absurd rfl c_54)
              refine lv_iconst (v := (-1)) hx hb d_Y_join_67 (by decide) ?_
              exact ye_i hI () rfl hw d_Y_join_68
            | none =>
              rcases ysplit i (n := yt_ins (s_ac σ y jt).1) (by omega) with hno | ⟨ji, hji, rfl⟩
              · refine y_ofW (cc := b_Y_join) (maxL := 9) (ret := (some .int)) (by decide) rfl (Nat.le_of_ble_eq_true rfl) ?_
                intro pv ev sv mv bv tv cv ls hI hsz hw hl
                obtain ⟨hx, hb, hr, hml, hts, hown, hlocks, hnm, hK, hAb, hb0, hA⟩ := id hI
                have ht : ∀ w ∈ lg_tbl, w.before _ sv = true := fun w h => hts w (List.mem_cons_of_mem _ h)
                have hl : lv_has ls 9 [(0, .ref (ad (1, y, 0))), (1, .int (nI jf)), (2, .int (nI jo)), (3, .int (nI jt)), (4, .int i), (5, .int r)] := hl
                refine lv_aload_n hx hb d_Y_join_0 rfl (lv_at hl 0 rfl) ?_
                refine lv_iload_n hx hb d_Y_join_1 rfl (lv_at hl 1 rfl) ?_
                refine yc_q (va_runV (As := [.int _]) (rest := []) ⟨hx, hb, hml, hown, hts⟩ (c_Y_findActor l D cc ad LL X b0 _ σ hL y hy hi jf hjf) (cwV 1 hts (yg_call mc_Y_findActor ml_Y_37 mm_Y_findActor ms_Y_findActor mi_Y) rfl rfl rfl (by decide +kernel) ⟨Nat.le_of_ble_eq_true rfl, Nat.le_of_ble_eq_true rfl⟩) (y_preV hI hw (y_recv hK.1 hw g1 (by rfl) rfl)) rfl rfl hl.1 rfl (lv_room (Nat.le_of_ble_eq_true rfl)) d_Y_join_2 ⟨Nat.le_of_ble_eq_true rfl, Nat.le_of_ble_eq_true rfl⟩) hw hA (fun r u H locs he hw => ?_)
                subst he
                rw [yrf_s]
                refine lv_astore (lv' := [(6, .ref _), (0, .ref _), (1, .int _), (2, .int _), (3, .int _), (4, .int _), (5, .int _)]) hx hb d_Y_join_5 hl (by decide) rfl (fun ls hl => ?_)
                refine lv_aload_n hx hb d_Y_join_7 rfl (lv_at hl 1 rfl) ?_
                refine lv_iload_n hx hb d_Y_join_8 rfl (lv_at hl 4 rfl) ?_
                refine yc_q (va_runV (As := [.int _]) (rest := []) ⟨hx, hb, hml, hown, hts⟩ (c_Y_findActor l D cc ad LL X b0 _ σ hL y hy hi jt hjt) (cwV 1 hts (yg_call mc_Y_findActor ml_Y_37 mm_Y_findActor ms_Y_findActor mi_Y) rfl rfl rfl (by decide +kernel) ⟨Nat.le_of_ble_eq_true rfl, Nat.le_of_ble_eq_true rfl⟩) (y_preV hI hw (y_recv hK.1 hw g1 (by rfl) rfl)) rfl rfl hl.1 rfl (lv_room (Nat.le_of_ble_eq_true rfl)) d_Y_join_9 ⟨Nat.le_of_ble_eq_true rfl, Nat.le_of_ble_eq_true rfl⟩) hw hA (fun r u H locs he hw => ?_)
                subst he
                rw [yrf_s]
                refine lv_astore (lv' := [(7, .ref _), (6, .ref _), (0, .ref _), (1, .int _), (2, .int _), (3, .int _), (4, .int _), (5, .int _)]) hx hb d_Y_join_12 hl (by decide) rfl (fun ls hl => ?_)
                refine lv_aload hx hb d_Y_join_14 (lv_at hl 1 rfl) ?_
                refine lv_ifnull hx hb d_Y_join_16 ?_
                refine lv_aload hx hb d_Y_join_19 (lv_at hl 0 rfl) ?_
                refine lv_ifnull hx hb d_Y_join_21 ?_
                refine lv_aload_n hx hb d_Y_join_24 rfl (lv_at hl 2 rfl) ?_
                refine yr_get (C := R_Y) (T := F_Y) (N := 5) (ci := k_Y) hx hb ht j_Y hown hK.1 hw (by assumption) (by rfl) rfl 4 (by decide) (ht _ mf_Y_31) (fun _ h9 => h9) (by rfl) d_Y_join_25 ?_
                refine lv_bipush (v := (nI 16)) hx hb d_Y_join_28 (by decide) ?_
                refine lv_icmp_lt (tgt := 35) hx hb d_Y_join_30 (by decide) (fun c_30 => ?_) (fun c_30 => by exact absurd (nI_lt hc (by omega)) c_30)
                refine lv_iload hx hb d_Y_join_35 (lv_at hl 7 rfl) ?_
                refine lv_iconst (v := (nI 1)) hx hb d_Y_join_37 (by decide) ?_
                refine lv_icmp_lt (tgt := 67) hx hb d_Y_join_38 (by decide) (fun c_38 => by exact absurd (Or.inl c_38) hrm) (fun c_38 => ?_)
                refine lv_iload hx hb d_Y_join_41 (lv_at hl 7 rfl) ?_
                refine lv_bipush (v := (nI 8)) hx hb d_Y_join_43 (by decide) ?_
                refine lv_icmp_gt (tgt := 67) hx hb d_Y_join_45 (by decide) (fun c_45 => by exact absurd (Or.inr c_45) hrm) (fun c_45 => ?_)
                refine lv_aload hx hb d_Y_join_48 (lv_at hl 1 rfl) ?_
                refine lv_iload_n hx hb d_Y_join_50 rfl (lv_at hl 4 rfl) ?_
                refine yc_i (va_runV (As := [.int _]) (rest := []) ⟨hx, hb, hml, hown, hts⟩ (c_A_hasFreeOut l D cc ad LL X b0 _ σ hL y jf hy hjf hi jo hjo) (cwV 1 hts (yg_call mc_A_hasFreeOut ml_Y_41 mm_A_hasFreeOut ms_A_hasFreeOut mi_A) rfl rfl rfl (by decide +kernel) ⟨Nat.le_of_ble_eq_true rfl, Nat.le_of_ble_eq_true rfl⟩) (y_preV hI hw (y_recv hK.1 hw hf5 (by rfl) rfl)) rfl rfl hl.1 rfl (lv_room (Nat.le_of_ble_eq_true rfl)) d_Y_join_51 ⟨Nat.le_of_ble_eq_true rfl, Nat.le_of_ble_eq_true rfl⟩) hw hA (fun r u H locs he hw => ?_)
                subst he
                refine lv_if_eq (tgt := 67) hx hb d_Y_join_54 (by decide) (fun c_54 => by rw [eo] at c_54; exact absurd c_54 (by decide)) (fun c_54 => ?_)
                refine lv_aload hx hb d_Y_join_57 (lv_at hl 0 rfl) ?_
                refine lv_iload hx hb d_Y_join_59 (lv_at hl 6 rfl) ?_
                refine yc_i (va_runV (As := [.int _]) (rest := []) ⟨hx, hb, hml, hown, hts⟩ (c_A_hasFreeIn_no l D cc ad LL X b0 _ σ hL y jt hy hjt hi i hno) (cwV 1 hts (yg_call mc_A_hasFreeIn ml_Y_45 mm_A_hasFreeIn ms_A_hasFreeIn mi_A) rfl rfl rfl (by decide +kernel) ⟨Nat.le_of_ble_eq_true rfl, Nat.le_of_ble_eq_true rfl⟩) (y_preV hI hw (y_recv hK.1 hw ht5 (by rfl) rfl)) rfl rfl hl.1 rfl (lv_room (Nat.le_of_ble_eq_true rfl)) d_Y_join_61 ⟨Nat.le_of_ble_eq_true rfl, Nat.le_of_ble_eq_true rfl⟩) hw hA (fun r u H locs he hw => ?_)
                subst he
                refine lv_if_ne (tgt := 69) hx hb d_Y_join_64 (by decide) (fun c_64 => by exact absurd rfl c_64) (fun c_64 => ?_)
                refine lv_iconst (v := (-1)) hx hb d_Y_join_67 (by decide) ?_
                exact ye_i hI () rfl hw d_Y_join_68
              · cases ei : s_ic σ y jt ji with
                | some c0 =>
                  refine y_ofW (cc := b_Y_join) (maxL := 9) (ret := (some .int)) (by decide) rfl (Nat.le_of_ble_eq_true rfl) ?_
                  intro pv ev sv mv bv tv cv ls hI hsz hw hl
                  obtain ⟨hx, hb, hr, hml, hts, hown, hlocks, hnm, hK, hAb, hb0, hA⟩ := id hI
                  have ht : ∀ w ∈ lg_tbl, w.before _ sv = true := fun w h => hts w (List.mem_cons_of_mem _ h)
                  have hl : lv_has ls 9 [(0, .ref (ad (1, y, 0))), (1, .int (nI jf)), (2, .int (nI jo)), (3, .int (nI jt)), (4, .int (nI ji)), (5, .int r)] := hl
                  refine lv_aload_n hx hb d_Y_join_0 rfl (lv_at hl 0 rfl) ?_
                  refine lv_iload_n hx hb d_Y_join_1 rfl (lv_at hl 1 rfl) ?_
                  refine yc_q (va_runV (As := [.int _]) (rest := []) ⟨hx, hb, hml, hown, hts⟩ (c_Y_findActor l D cc ad LL X b0 _ σ hL y hy hi jf hjf) (cwV 1 hts (yg_call mc_Y_findActor ml_Y_37 mm_Y_findActor ms_Y_findActor mi_Y) rfl rfl rfl (by decide +kernel) ⟨Nat.le_of_ble_eq_true rfl, Nat.le_of_ble_eq_true rfl⟩) (y_preV hI hw (y_recv hK.1 hw g1 (by rfl) rfl)) rfl rfl hl.1 rfl (lv_room (Nat.le_of_ble_eq_true rfl)) d_Y_join_2 ⟨Nat.le_of_ble_eq_true rfl, Nat.le_of_ble_eq_true rfl⟩) hw hA (fun r u H locs he hw => ?_)
                  subst he
                  rw [yrf_s]
                  refine lv_astore (lv' := [(6, .ref _), (0, .ref _), (1, .int _), (2, .int _), (3, .int _), (4, .int _), (5, .int _)]) hx hb d_Y_join_5 hl (by decide) rfl (fun ls hl => ?_)
                  refine lv_aload_n hx hb d_Y_join_7 rfl (lv_at hl 1 rfl) ?_
                  refine lv_iload_n hx hb d_Y_join_8 rfl (lv_at hl 4 rfl) ?_
                  refine yc_q (va_runV (As := [.int _]) (rest := []) ⟨hx, hb, hml, hown, hts⟩ (c_Y_findActor l D cc ad LL X b0 _ σ hL y hy hi jt hjt) (cwV 1 hts (yg_call mc_Y_findActor ml_Y_37 mm_Y_findActor ms_Y_findActor mi_Y) rfl rfl rfl (by decide +kernel) ⟨Nat.le_of_ble_eq_true rfl, Nat.le_of_ble_eq_true rfl⟩) (y_preV hI hw (y_recv hK.1 hw g1 (by rfl) rfl)) rfl rfl hl.1 rfl (lv_room (Nat.le_of_ble_eq_true rfl)) d_Y_join_9 ⟨Nat.le_of_ble_eq_true rfl, Nat.le_of_ble_eq_true rfl⟩) hw hA (fun r u H locs he hw => ?_)
                  subst he
                  rw [yrf_s]
                  refine lv_astore (lv' := [(7, .ref _), (6, .ref _), (0, .ref _), (1, .int _), (2, .int _), (3, .int _), (4, .int _), (5, .int _)]) hx hb d_Y_join_12 hl (by decide) rfl (fun ls hl => ?_)
                  refine lv_aload hx hb d_Y_join_14 (lv_at hl 1 rfl) ?_
                  refine lv_ifnull hx hb d_Y_join_16 ?_
                  refine lv_aload hx hb d_Y_join_19 (lv_at hl 0 rfl) ?_
                  refine lv_ifnull hx hb d_Y_join_21 ?_
                  refine lv_aload_n hx hb d_Y_join_24 rfl (lv_at hl 2 rfl) ?_
                  refine yr_get (C := R_Y) (T := F_Y) (N := 5) (ci := k_Y) hx hb ht j_Y hown hK.1 hw (by assumption) (by rfl) rfl 4 (by decide) (ht _ mf_Y_31) (fun _ h9 => h9) (by rfl) d_Y_join_25 ?_
                  refine lv_bipush (v := (nI 16)) hx hb d_Y_join_28 (by decide) ?_
                  refine lv_icmp_lt (tgt := 35) hx hb d_Y_join_30 (by decide) (fun c_30 => ?_) (fun c_30 => by exact absurd (nI_lt hc (by omega)) c_30)
                  refine lv_iload hx hb d_Y_join_35 (lv_at hl 7 rfl) ?_
                  refine lv_iconst (v := (nI 1)) hx hb d_Y_join_37 (by decide) ?_
                  refine lv_icmp_lt (tgt := 67) hx hb d_Y_join_38 (by decide) (fun c_38 => by exact absurd (Or.inl c_38) hrm) (fun c_38 => ?_)
                  refine lv_iload hx hb d_Y_join_41 (lv_at hl 7 rfl) ?_
                  refine lv_bipush (v := (nI 8)) hx hb d_Y_join_43 (by decide) ?_
                  refine lv_icmp_gt (tgt := 67) hx hb d_Y_join_45 (by decide) (fun c_45 => by exact absurd (Or.inr c_45) hrm) (fun c_45 => ?_)
                  refine lv_aload hx hb d_Y_join_48 (lv_at hl 1 rfl) ?_
                  refine lv_iload_n hx hb d_Y_join_50 rfl (lv_at hl 4 rfl) ?_
                  refine yc_i (va_runV (As := [.int _]) (rest := []) ⟨hx, hb, hml, hown, hts⟩ (c_A_hasFreeOut l D cc ad LL X b0 _ σ hL y jf hy hjf hi jo hjo) (cwV 1 hts (yg_call mc_A_hasFreeOut ml_Y_41 mm_A_hasFreeOut ms_A_hasFreeOut mi_A) rfl rfl rfl (by decide +kernel) ⟨Nat.le_of_ble_eq_true rfl, Nat.le_of_ble_eq_true rfl⟩) (y_preV hI hw (y_recv hK.1 hw hf5 (by rfl) rfl)) rfl rfl hl.1 rfl (lv_room (Nat.le_of_ble_eq_true rfl)) d_Y_join_51 ⟨Nat.le_of_ble_eq_true rfl, Nat.le_of_ble_eq_true rfl⟩) hw hA (fun r u H locs he hw => ?_)
                  subst he
                  refine lv_if_eq (tgt := 67) hx hb d_Y_join_54 (by decide) (fun c_54 => by rw [eo] at c_54; exact absurd c_54 (by decide)) (fun c_54 => ?_)
                  refine lv_aload hx hb d_Y_join_57 (lv_at hl 0 rfl) ?_
                  refine lv_iload hx hb d_Y_join_59 (lv_at hl 6 rfl) ?_
                  refine yc_i (va_runV (As := [.int _]) (rest := []) ⟨hx, hb, hml, hown, hts⟩ (c_A_hasFreeIn l D cc ad LL X b0 _ σ hL y jt hy hjt hi ji hji) (cwV 1 hts (yg_call mc_A_hasFreeIn ml_Y_45 mm_A_hasFreeIn ms_A_hasFreeIn mi_A) rfl rfl rfl (by decide +kernel) ⟨Nat.le_of_ble_eq_true rfl, Nat.le_of_ble_eq_true rfl⟩) (y_preV hI hw (y_recv hK.1 hw ht5 (by rfl) rfl)) rfl rfl hl.1 rfl (lv_room (Nat.le_of_ble_eq_true rfl)) d_Y_join_61 ⟨Nat.le_of_ble_eq_true rfl, Nat.le_of_ble_eq_true rfl⟩) hw hA (fun r u H locs he hw => ?_)
                  subst he
                  refine lv_if_ne (tgt := 69) hx hb d_Y_join_64 (by decide) (fun c_64 => by rw [ei] at c_64; exact absurd rfl c_64) (fun c_64 => ?_)
                  refine lv_iconst (v := (-1)) hx hb d_Y_join_67 (by decide) ?_
                  exact ye_i hI () rfl hw d_Y_join_68
                | none =>
                  exfalso
                  rw [jok_yes (T := s_T σ y) hjf hjt (by show s_n σ y < _; omega) hc hrm hjo hji eo ei] at hnj
                  cases hnj
      · refine y_ofW (cc := b_Y_join) (maxL := 9) (ret := (some .int)) (by decide) rfl (Nat.le_of_ble_eq_true rfl) ?_
        intro pv ev sv mv bv tv cv ls hI hsz hw hl
        obtain ⟨hx, hb, hr, hml, hts, hown, hlocks, hnm, hK, hAb, hb0, hA⟩ := id hI
        have ht : ∀ w ∈ lg_tbl, w.before _ sv = true := fun w h => hts w (List.mem_cons_of_mem _ h)
        have hl : lv_has ls 9 [(0, .ref (ad (1, y, 0))), (1, .int (nI jf)), (2, .int o), (3, .int (nI jt)), (4, .int i), (5, .int r)] := hl
        refine lv_aload_n hx hb d_Y_join_0 rfl (lv_at hl 0 rfl) ?_
        refine lv_iload_n hx hb d_Y_join_1 rfl (lv_at hl 1 rfl) ?_
        refine yc_q (va_runV (As := [.int _]) (rest := []) ⟨hx, hb, hml, hown, hts⟩ (c_Y_findActor l D cc ad LL X b0 _ σ hL y hy hi jf hjf) (cwV 1 hts (yg_call mc_Y_findActor ml_Y_37 mm_Y_findActor ms_Y_findActor mi_Y) rfl rfl rfl (by decide +kernel) ⟨Nat.le_of_ble_eq_true rfl, Nat.le_of_ble_eq_true rfl⟩) (y_preV hI hw (y_recv hK.1 hw g1 (by rfl) rfl)) rfl rfl hl.1 rfl (lv_room (Nat.le_of_ble_eq_true rfl)) d_Y_join_2 ⟨Nat.le_of_ble_eq_true rfl, Nat.le_of_ble_eq_true rfl⟩) hw hA (fun r u H locs he hw => ?_)
        subst he
        rw [yrf_s]
        refine lv_astore (lv' := [(6, .ref _), (0, .ref _), (1, .int _), (2, .int _), (3, .int _), (4, .int _), (5, .int _)]) hx hb d_Y_join_5 hl (by decide) rfl (fun ls hl => ?_)
        refine lv_aload_n hx hb d_Y_join_7 rfl (lv_at hl 1 rfl) ?_
        refine lv_iload_n hx hb d_Y_join_8 rfl (lv_at hl 4 rfl) ?_
        refine yc_q (va_runV (As := [.int _]) (rest := []) ⟨hx, hb, hml, hown, hts⟩ (c_Y_findActor l D cc ad LL X b0 _ σ hL y hy hi jt hjt) (cwV 1 hts (yg_call mc_Y_findActor ml_Y_37 mm_Y_findActor ms_Y_findActor mi_Y) rfl rfl rfl (by decide +kernel) ⟨Nat.le_of_ble_eq_true rfl, Nat.le_of_ble_eq_true rfl⟩) (y_preV hI hw (y_recv hK.1 hw g1 (by rfl) rfl)) rfl rfl hl.1 rfl (lv_room (Nat.le_of_ble_eq_true rfl)) d_Y_join_9 ⟨Nat.le_of_ble_eq_true rfl, Nat.le_of_ble_eq_true rfl⟩) hw hA (fun r u H locs he hw => ?_)
        subst he
        rw [yrf_s]
        refine lv_astore (lv' := [(7, .ref _), (6, .ref _), (0, .ref _), (1, .int _), (2, .int _), (3, .int _), (4, .int _), (5, .int _)]) hx hb d_Y_join_12 hl (by decide) rfl (fun ls hl => ?_)
        refine lv_aload hx hb d_Y_join_14 (lv_at hl 1 rfl) ?_
        refine lv_ifnull hx hb d_Y_join_16 ?_
        refine lv_aload hx hb d_Y_join_19 (lv_at hl 0 rfl) ?_
        refine lv_ifnull hx hb d_Y_join_21 ?_
        refine lv_aload_n hx hb d_Y_join_24 rfl (lv_at hl 2 rfl) ?_
        refine yr_get (C := R_Y) (T := F_Y) (N := 5) (ci := k_Y) hx hb ht j_Y hown hK.1 hw (by assumption) (by rfl) rfl 4 (by decide) (ht _ mf_Y_31) (fun _ h9 => h9) (by rfl) d_Y_join_25 ?_
        refine lv_bipush (v := (nI 16)) hx hb d_Y_join_28 (by decide) ?_
        refine lv_icmp_lt (tgt := 35) hx hb d_Y_join_30 (by decide) (fun c_30 => by exact absurd ((nI_ltI (by omega) (by omega)).mp c_30) hc) (fun c_30 => ?_)
        refine lv_iconst (v := (-1)) hx hb d_Y_join_33 (by decide) ?_
        exact ye_i hI () rfl hw d_Y_join_34
set_option maxHeartbeats 4000000 in
set_option maxRecDepth 100000 in
theorem c_Y_join (l : Launch) (D : va_G) (cc : ClassId × ClassId × ClassId) (ad : yl → Nat) (LL : List yl) (X : va_W) (b0 sz : Nat) (σ : ys) (hLL : ∀ q, q ∈ LL ↔ yL σ q) (y : Nat) (hy : y < 2) (hi : yI σ y) (hIo : ∀ z, yI σ z ∨ 2 ≤ z) (jf jo jt ji r : Nat) (hjf : jf < s_n σ y) (hjt : jt < s_n σ y) (hc : s_nc σ y < 16) (hrm : 1 ≤ r ∧ r ≤ 8) (hjo : jo < yt_outs (s_ac σ y jf).1) (hji : ji < yt_ins (s_ac σ y jt).1) (eo : s_oc σ y jf jo = none) (ei : s_ic σ y jt ji = none) : Met l y_Y_join w_Y_join ({ frames := 2, cells := 2, slots := 12, locals := 33 }) (yPr D cc b0 [.ref (ad (1, y, 0)), .int (nI jf), .int (nI jo), .int (nI jt), .int (nI ji), .int (nI r)] (yW cc ad LL X σ) sz) (va_Qi (fun r (u : yl → Nat) => r = nI (s_nc σ y) ∧ ∀ z, z ∈ LL → u z = ad z) (yB D ycl (yW cc ad LL X σ) sz (fun u => yW cc u ((LL ++ [(9, y, s_nc σ y)]) ++ [(10, y, s_nc σ y)]) X (yo_join σ y jf jo jt ji r))) (va_A (yW cc ad LL X σ) sz)) 2 12 (va_A (yW cc ad LL X σ) sz) := by
  have hL : ∀ q, yL σ q → q ∈ LL := fun q h => (hLL q).mpr h
  have g1 : (1, y, 0) ∈ LL := hL _ ⟨hy, rfl⟩
  have g2 : (2, y, 0) ∈ LL := hL _ ⟨hy, rfl⟩
  have g3 : (3, y, 0) ∈ LL := hL _ ⟨hy, rfl⟩
  have g4 : (4, y, 0) ∈ LL := hL _ ⟨hy, rfl⟩
  have hn10 := hi.1.1
  have hc16 := hi.2.1
  have hf5 : (5, y, jf) ∈ LL := hL _ ⟨hy, hjf⟩
  have ht5 : (5, y, jt) ∈ LL := hL _ ⟨hy, hjt⟩
  have hno2 := yt_outs_le (s_ac σ y jf).1
  have hni2 := yt_ins_le (s_ac σ y jt).1
  refine y_ofW (cc := b_Y_join) (maxL := 9) (ret := (some .int)) (by decide) rfl (Nat.le_of_ble_eq_true rfl) ?_
  intro pv ev sv mv bv tv cv ls hI hsz hw hl
  generalize hargs : ([.ref (ad (1, y, 0)), .int (nI jf), .int (nI jo), .int (nI jt), .int (nI ji), .int (nI r)] : List Value).toArray = args at hI ⊢
  obtain ⟨hx, hb, hr, hml, hts, hown, hlocks, hnm, hK, hAb, hb0, hA⟩ := id hI
  have ht : ∀ w ∈ lg_tbl, w.before _ sv = true := fun w h => hts w (List.mem_cons_of_mem _ h)
  have hl : lv_has ls 9 [(0, .ref (ad (1, y, 0))), (1, .int (nI jf)), (2, .int (nI jo)), (3, .int (nI jt)), (4, .int (nI ji)), (5, .int (nI r))] := hl
  refine lv_aload_n hx hb d_Y_join_0 rfl (lv_at hl 0 rfl) ?_
  refine lv_iload_n hx hb d_Y_join_1 rfl (lv_at hl 1 rfl) ?_
  refine yc_q (va_runV (As := [.int _]) (rest := []) ⟨hx, hb, hml, hown, hts⟩ (c_Y_findActor l D cc ad LL X b0 _ σ hL y hy hi jf hjf) (cwV 1 hts (yg_call mc_Y_findActor ml_Y_37 mm_Y_findActor ms_Y_findActor mi_Y) rfl rfl rfl (by decide +kernel) ⟨Nat.le_of_ble_eq_true rfl, Nat.le_of_ble_eq_true rfl⟩) (y_preV hI hw (y_recv hK.1 hw g1 (by rfl) rfl)) rfl rfl hl.1 rfl (lv_room (Nat.le_of_ble_eq_true rfl)) d_Y_join_2 ⟨Nat.le_of_ble_eq_true rfl, Nat.le_of_ble_eq_true rfl⟩) hw hA (fun r u H locs he hw => ?_)
  subst he
  rw [yrf_s]
  refine lv_astore (lv' := [(6, .ref _), (0, .ref _), (1, .int _), (2, .int _), (3, .int _), (4, .int _), (5, .int _)]) hx hb d_Y_join_5 hl (by decide) rfl (fun ls hl => ?_)
  refine lv_aload_n hx hb d_Y_join_7 rfl (lv_at hl 1 rfl) ?_
  refine lv_iload_n hx hb d_Y_join_8 rfl (lv_at hl 4 rfl) ?_
  refine yc_q (va_runV (As := [.int _]) (rest := []) ⟨hx, hb, hml, hown, hts⟩ (c_Y_findActor l D cc ad LL X b0 _ σ hL y hy hi jt hjt) (cwV 1 hts (yg_call mc_Y_findActor ml_Y_37 mm_Y_findActor ms_Y_findActor mi_Y) rfl rfl rfl (by decide +kernel) ⟨Nat.le_of_ble_eq_true rfl, Nat.le_of_ble_eq_true rfl⟩) (y_preV hI hw (y_recv hK.1 hw g1 (by rfl) rfl)) rfl rfl hl.1 rfl (lv_room (Nat.le_of_ble_eq_true rfl)) d_Y_join_9 ⟨Nat.le_of_ble_eq_true rfl, Nat.le_of_ble_eq_true rfl⟩) hw hA (fun r u H locs he hw => ?_)
  subst he
  rw [yrf_s]
  refine lv_astore (lv' := [(7, .ref _), (6, .ref _), (0, .ref _), (1, .int _), (2, .int _), (3, .int _), (4, .int _), (5, .int _)]) hx hb d_Y_join_12 hl (by decide) rfl (fun ls hl => ?_)
  refine lv_aload hx hb d_Y_join_14 (lv_at hl 1 rfl) ?_
  refine lv_ifnull hx hb d_Y_join_16 ?_
  refine lv_aload hx hb d_Y_join_19 (lv_at hl 0 rfl) ?_
  refine lv_ifnull hx hb d_Y_join_21 ?_
  refine lv_aload_n hx hb d_Y_join_24 rfl (lv_at hl 2 rfl) ?_
  refine yr_get (C := R_Y) (T := F_Y) (N := 5) (ci := k_Y) hx hb ht j_Y hown hK.1 hw (by assumption) (by rfl) rfl 4 (by decide) (ht _ mf_Y_31) (fun _ h9 => h9) (by rfl) d_Y_join_25 ?_
  refine lv_bipush (v := (nI 16)) hx hb d_Y_join_28 (by decide) ?_
  refine lv_icmp_lt (tgt := 35) hx hb d_Y_join_30 (by decide) (fun c_30 => ?_) (fun c_30 => by exact absurd (nI_lt hc (by omega)) c_30)
  refine lv_iload hx hb d_Y_join_35 (lv_at hl 7 rfl) ?_
  refine lv_iconst (v := (nI 1)) hx hb d_Y_join_37 (by decide) ?_
  refine lv_icmp_lt (tgt := 67) hx hb d_Y_join_38 (by decide) (fun c_38 => by exact absurd ((nI_ltI (by omega) (by omega)).mp c_38) (by omega)) (fun c_38 => ?_)
  refine lv_iload hx hb d_Y_join_41 (lv_at hl 7 rfl) ?_
  refine lv_bipush (v := (nI 8)) hx hb d_Y_join_43 (by decide) ?_
  refine lv_icmp_gt (tgt := 67) hx hb d_Y_join_45 (by decide) (fun c_45 => by exact absurd ((nI_ltI (by omega) (by omega)).mp c_45) (by omega)) (fun c_45 => ?_)
  refine lv_aload hx hb d_Y_join_48 (lv_at hl 1 rfl) ?_
  refine lv_iload_n hx hb d_Y_join_50 rfl (lv_at hl 4 rfl) ?_
  refine yc_i (va_runV (As := [.int _]) (rest := []) ⟨hx, hb, hml, hown, hts⟩ (c_A_hasFreeOut l D cc ad LL X b0 _ σ hL y jf hy hjf hi jo hjo) (cwV 1 hts (yg_call mc_A_hasFreeOut ml_Y_41 mm_A_hasFreeOut ms_A_hasFreeOut mi_A) rfl rfl rfl (by decide +kernel) ⟨Nat.le_of_ble_eq_true rfl, Nat.le_of_ble_eq_true rfl⟩) (y_preV hI hw (y_recv hK.1 hw hf5 (by rfl) rfl)) rfl rfl hl.1 rfl (lv_room (Nat.le_of_ble_eq_true rfl)) d_Y_join_51 ⟨Nat.le_of_ble_eq_true rfl, Nat.le_of_ble_eq_true rfl⟩) hw hA (fun r u H locs he hw => ?_)
  subst he
  refine lv_if_eq (tgt := 67) hx hb d_Y_join_54 (by decide) (fun c_54 => by rw [eo] at c_54; exact absurd c_54 (by decide)) (fun c_54 => ?_)
  refine lv_aload hx hb d_Y_join_57 (lv_at hl 0 rfl) ?_
  refine lv_iload hx hb d_Y_join_59 (lv_at hl 6 rfl) ?_
  refine yc_i (va_runV (As := [.int _]) (rest := []) ⟨hx, hb, hml, hown, hts⟩ (c_A_hasFreeIn l D cc ad LL X b0 _ σ hL y jt hy hjt hi ji hji) (cwV 1 hts (yg_call mc_A_hasFreeIn ml_Y_45 mm_A_hasFreeIn ms_A_hasFreeIn mi_A) rfl rfl rfl (by decide +kernel) ⟨Nat.le_of_ble_eq_true rfl, Nat.le_of_ble_eq_true rfl⟩) (y_preV hI hw (y_recv hK.1 hw ht5 (by rfl) rfl)) rfl rfl hl.1 rfl (lv_room (Nat.le_of_ble_eq_true rfl)) d_Y_join_61 ⟨Nat.le_of_ble_eq_true rfl, Nat.le_of_ble_eq_true rfl⟩) hw hA (fun r u H locs he hw => ?_)
  subst he
  refine lv_if_ne (tgt := 69) hx hb d_Y_join_64 (by decide) (fun c_64 => ?_) (fun c_64 => by rw [ei] at c_64; exact absurd c_64 (by decide))
  refine yr_new (fs := [.int 0, .null, .int 0, .int 0]) (C := R_C) (T := F_C) (N := 4) (ci := k_C) hx hb ht j_C t_C t_C_ok hown (ht _ mk_Y_17) (ht _ mn_C) (ht _ mi_C) hK.1 hw hA (9, y, s_nc σ y) (fun q => absurd ((hLL _).mp q).2 (Nat.lt_irrefl _)) rfl (fun j hj => by rcases (show j = 0 ∨ j = 1 ∨ j = 2 ∨ j = 3 by omega) with rfl | rfl | rfl | rfl <;> rfl) (Nat.le_of_ble_eq_true rfl) (Nat.le_of_ble_eq_true rfl) d_Y_join_69 (fun ad1 H hag1 hw => ?_)
  rw [← hag1 _ g1] at hl
  rw [← hag1 _ hf5] at hl
  try rw [← hag1 _ ht5] at hl
  refine lv_dup hx hb d_Y_join_72 rfl ?_
  refine lv_iload hx hb d_Y_join_73 (lv_at hl 7 rfl) ?_
  refine yc_v (va_runI (As := [.int _]) (rest := [.ref _]) ⟨hx, hb, hml, hown, hts⟩ (c_C_init l D cc ad1 (LL ++ [(9, y, s_nc σ y)]) (yu (yG cc σ ad) (9, y, s_nc σ y) (.inr (k_C, [.int 0, .null, .int 0, .int 0]))) X b0 _ y (s_nc σ y) (by simp) (by intro q; rcases List.mem_append.mp q with q | q; exact absurd ((hLL _).mp q).2 (Nat.lt_irrefl _); simp at q) (yu_s _ _ _) (nI r)) (cwI 1 hts (yg_sub mc_C_init) rfl rfl rfl (ht _ mi_C) (ht _ ml_Y_48) (ht _ mm_C_init) rfl (by decide +kernel) ⟨Nat.le_of_ble_eq_true rfl, Nat.le_of_ble_eq_true rfl⟩) (y_preS hI hw) rfl rfl hl.1 rfl (lv_room (Nat.le_of_ble_eq_true rfl)) d_Y_join_75 ⟨Nat.le_of_ble_eq_true rfl, Nat.le_of_ble_eq_true rfl⟩) hw hA (fun ad2 H locs hag2 hw => ?_)
  have m1 : (1, y, 0) ∈ LL ++ [(9, y, s_nc σ y)] := by simp [g1]
  have mf : (5, y, jf) ∈ LL ++ [(9, y, s_nc σ y)] := by simp [hf5]
  have mt : (5, y, jt) ∈ LL ++ [(9, y, s_nc σ y)] := by simp [ht5]
  have m9 : (9, y, s_nc σ y) ∈ LL ++ [(9, y, s_nc σ y)] := by simp
  rw [← hag2 _ m9]
  rw [← hag2 _ m1] at hl
  rw [← hag2 _ mf] at hl
  try rw [← hag2 _ mt] at hl
  have hag : ∀ z, z ∈ LL → ad2 z = ad z := fun z hz => by rw [hag2 z (by simp [hz]), hag1 z hz]
  have hw := y_same (g' := (yu (yu (yG cc σ ad2) (10, y, s_nc σ y) (.inl (cc.1, 8, .inl (fun _ => 0)))) (9, y, s_nc σ y) (.inr (k_C, [.int (nI r), .ref (ad2 (10, y, s_nc σ y)), .int 0, .int 0])))) hw (join_g1 hLL hIo hag)
  have f1 : (1, y, 0) ∈ ((LL ++ [(9, y, s_nc σ y)]) ++ [(10, y, s_nc σ y)]) := by simp [g1]
  have f3 : (3, y, 0) ∈ ((LL ++ [(9, y, s_nc σ y)]) ++ [(10, y, s_nc σ y)]) := by simp [g3]
  have ff : (5, y, jf) ∈ ((LL ++ [(9, y, s_nc σ y)]) ++ [(10, y, s_nc σ y)]) := by simp [hf5]
  have ft : (5, y, jt) ∈ ((LL ++ [(9, y, s_nc σ y)]) ++ [(10, y, s_nc σ y)]) := by simp [ht5]
  have f7 : (7, y, jf) ∈ ((LL ++ [(9, y, s_nc σ y)]) ++ [(10, y, s_nc σ y)]) := by simp [show (7, y, jf) ∈ LL from hL _ ⟨hy, hjf⟩]
  have f6 : (6, y, jt) ∈ ((LL ++ [(9, y, s_nc σ y)]) ++ [(10, y, s_nc σ y)]) := by simp [show (6, y, jt) ∈ LL from hL _ ⟨hy, hjt⟩]
  have f9 : (9, y, s_nc σ y) ∈ ((LL ++ [(9, y, s_nc σ y)]) ++ [(10, y, s_nc σ y)]) := by simp
  refine lv_astore (lv' := [(8, .ref _), (7, .ref _), (6, .ref _), (0, .ref _), (1, .int _), (2, .int _), (3, .int _), (4, .int _), (5, .int _)]) hx hb d_Y_join_78 hl (by decide) rfl (fun ls hl => ?_)
  refine lv_aload hx hb d_Y_join_80 (lv_at hl 2 rfl) ?_
  refine lv_iload_n hx hb d_Y_join_82 rfl (lv_at hl 5 rfl) ?_
  refine lv_aload hx hb d_Y_join_83 (lv_at hl 0 rfl) ?_
  refine yc_v (va_runV (As := [.int _, .ref _]) (rest := []) ⟨hx, hb, hml, hown, hts⟩ (c_A_joinOut l D cc ad2 ((LL ++ [(9, y, s_nc σ y)]) ++ [(10, y, s_nc σ y)]) (yu (yu (yG cc σ ad2) (10, y, s_nc σ y) (.inl (cc.1, 8, .inl (fun _ => 0)))) (9, y, s_nc σ y) (.inr (k_C, [.int (nI r), .ref (ad2 (10, y, s_nc σ y)), .int 0, .int 0]))) X b0 _ y jf (s_nc σ y) ff f7 f9 (.int (nI (s_ac σ y jf).1)) (.int (s_ac σ y jf).2.1) (.int (s_ac σ y jf).2.2.1) (.ref (ad2 (8, y, jf))) (.int (nI (s_ac σ y jf).2.2.2.1)) (.int (nI (s_ac σ y jf).2.2.2.2)) (by rw [yu_n _ _ (by simp), yu_n _ _ (by simp)]; rfl) (fun j => (s_oc σ y jf j).map (fun c => ad2 (9, y, c))) (by rw [yu_n _ _ (by simp), yu_n _ _ (by simp)]; rfl) _ (yu_s _ _ _) jo (by omega)) (cwV 2 hts (yg_call mc_A_joinOut ml_Y_51 mm_A_joinOut ms_A_joinOut mi_A) rfl rfl rfl (by decide +kernel) ⟨Nat.le_of_ble_eq_true rfl, Nat.le_of_ble_eq_true rfl⟩) (y_preV hI hw (y_recv hK.1 hw ff (by rw [yu_n _ _ (by simp), yu_n _ _ (by simp)]; rfl) rfl)) rfl rfl hl.1 rfl (lv_room (Nat.le_of_ble_eq_true rfl)) d_Y_join_85 ⟨Nat.le_of_ble_eq_true rfl, Nat.le_of_ble_eq_true rfl⟩) hw hA (fun u H locs he hw => ?_)
  refine lv_aload hx hb d_Y_join_88 (lv_at hl 1 rfl) ?_
  refine lv_iload hx hb d_Y_join_90 (lv_at hl 7 rfl) ?_
  refine lv_aload hx hb d_Y_join_92 (lv_at hl 0 rfl) ?_
  refine yc_v (va_runV (As := [.int _, .ref _]) (rest := []) ⟨hx, hb, hml, hown, hts⟩ (c_A_joinIn l D cc ad2 ((LL ++ [(9, y, s_nc σ y)]) ++ [(10, y, s_nc σ y)]) (yu (yu (yu (yG cc σ ad2) (10, y, s_nc σ y) (.inl (cc.1, 8, .inl (fun _ => 0)))) (9, y, s_nc σ y) (.inr (k_C, [.int (nI r), .ref (ad2 (10, y, s_nc σ y)), .int 0, .int 0]))) (7, y, jf) (.inl (cc.2.2, 2, .inr (.inr (.inr (.inr (va_up (fun j => (s_oc σ y jf j).map (fun c => ad2 (9, y, c))) jo (some (ad2 (9, y, s_nc σ y)))))))))) X b0 _ y jt (s_nc σ y) ft f6 f9 (.int (nI (s_ac σ y jt).1)) (.int (s_ac σ y jt).2.1) (.int (s_ac σ y jt).2.2.1) (.ref (ad2 (8, y, jt))) (.int (nI (s_ac σ y jt).2.2.2.1)) (.int (nI (s_ac σ y jt).2.2.2.2)) (by rw [yu_n _ _ (by simp), yu_n _ _ (by simp), yu_n _ _ (by simp)]; rfl) (fun j => (s_ic σ y jt j).map (fun c => ad2 (9, y, c))) (by rw [yu_n _ _ (by simp), yu_n _ _ (by simp), yu_n _ _ (by simp)]; rfl) _ (by rw [yu_n _ _ (by simp)]; exact yu_s _ _ _) ji (by omega)) (cwV 2 hts (yg_call mc_A_joinIn ml_Y_55 mm_A_joinIn ms_A_joinIn mi_A) rfl rfl rfl (by decide +kernel) ⟨Nat.le_of_ble_eq_true rfl, Nat.le_of_ble_eq_true rfl⟩) (y_preV hI hw (y_recv hK.1 hw ft (by rw [yu_n _ _ (by simp), yu_n _ _ (by simp), yu_n _ _ (by simp)]; rfl) rfl)) rfl rfl hl.1 rfl (lv_room (Nat.le_of_ble_eq_true rfl)) d_Y_join_94 ⟨Nat.le_of_ble_eq_true rfl, Nat.le_of_ble_eq_true rfl⟩) hw hA (fun u H locs he hw => ?_)
  refine lv_aload_n hx hb d_Y_join_97 rfl (lv_at hl 3 rfl) ?_
  refine yr_get (C := R_Y) (T := F_Y) (N := 5) (ci := k_Y) hx hb ht j_Y hown hK.1 hw f1 (by rw [yu_n _ _ (by simp), yu_n _ _ (by simp), yu_n _ _ (by simp), yu_n _ _ (by simp)]; rfl) rfl 1 (by decide) (ht _ mf_Y_19) (fun _ h9 => h9) (by rfl) d_Y_join_98 ?_
  refine lv_aload_n hx hb d_Y_join_101 rfl (lv_at hl 3 rfl) ?_
  refine yr_get (C := R_Y) (T := F_Y) (N := 5) (ci := k_Y) hx hb ht j_Y hown hK.1 hw f1 (by rw [yu_n _ _ (by simp), yu_n _ _ (by simp), yu_n _ _ (by simp), yu_n _ _ (by simp)]; rfl) rfl 4 (by decide) (ht _ mf_Y_31) (fun _ h9 => h9) (by rfl) d_Y_join_102 ?_
  refine lv_aload hx hb d_Y_join_105 (lv_at hl 0 rfl) ?_
  refine yr_astq (r := (R_C, F_C, 4)) (ci := k_C) hx hb hK.1 hw f3 (by rw [yu_n _ _ (by simp), yu_n _ _ (by simp), yu_n _ _ (by simp), yu_n _ _ (by simp)]; rfl) 2 rfl f9 (by rw [yu_n _ _ (by simp), yu_n _ _ (by simp)]; exact yu_s _ _ _) rfl (vp_in_nI hc (by omega)) d_Y_join_107 (fun H locs hw => ?_)
  rw [nI_clamp (by omega)] at hw
  refine lv_aload_n hx hb d_Y_join_108 rfl (lv_at hl 3 rfl) ?_
  refine lv_dup hx hb d_Y_join_109 rfl ?_
  refine yr_get (C := R_Y) (T := F_Y) (N := 5) (ci := k_Y) hx hb ht j_Y hown hK.1 hw f1 (by rw [yu_n _ _ (by simp), yu_n _ _ (by simp), yu_n _ _ (by simp), yu_n _ _ (by simp), yu_n _ _ (by simp)]; rfl) rfl 4 (by decide) (ht _ mf_Y_31) (fun _ h9 => h9) (by rfl) d_Y_join_110 ?_
  refine lv_iconst (v := 1) hx hb d_Y_join_113 (by decide) ?_
  refine lv_iadd hx hb d_Y_join_114 ?_
  rw [nI_1]
  refine yr_put (ty := .int) (C := R_Y) (T := F_Y) (N := 5) (ci := k_Y) hx hb ht j_Y t_Y t_Y_ok n_Y hown hK.1 hw f1 (by rw [yu_n _ _ (by simp), yu_n _ _ (by simp), yu_n _ _ (by simp), yu_n _ _ (by simp), yu_n _ _ (by simp)]; rfl) rfl 4 (by decide) (ht _ mf_Y_31) (fun _ h9 => h9) rfl (by decide +kernel) rfl rfl (Nat.le_of_ble_eq_true rfl) d_Y_join_115 (fun H locs hw => ?_)
  refine lv_aload_n hx hb d_Y_join_118 rfl (lv_at hl 3 rfl) ?_
  refine yr_get (C := R_Y) (T := F_Y) (N := 5) (ci := k_Y) hx hb ht j_Y hown hK.1 hw f1 (yu_s _ _ _) rfl 4 (by decide) (ht _ mf_Y_31) (fun _ h9 => h9) (by rfl) d_Y_join_119 ?_
  refine lv_iconst (v := 1) hx hb d_Y_join_122 (by decide) ?_
  refine lv_isub hx hb d_Y_join_123 ?_
  rw [nI_pred]
  exact ye_i hI ad2 ⟨rfl, hag⟩ (y_same hw (join_g2 hLL)) d_Y_join_124
end
section
/-! THE FACE: actor -/
theorem J_o {σ : ys} (hJ : yJ σ) : ∀ z, yI σ z ∨ 2 ≤ z := fun z => by
  match z with
  | 0 => exact Or.inl hJ.1
  | 1 => exact Or.inl hJ.2.1
  | n + 2 => exact Or.inr (by omega)
theorem nI_m1 {n : Nat} (h : n < 2 ^ 31) : ¬ nI n = -1 := fun e => by
  have h1 := nI_toInt h
  rw [e] at h1
  have h2 : (-1 : Int32).toInt = -1 := by decide
  omega
def a_aok (T : yp_T) (x : Int32) : Option Nat := if x < 0 ∨ nI 9 ≤ x ∨ 10 ≤ yp_n T then none else some x.toNatClampNeg
theorem aok_split (T : yp_T) (x : Int32) : ((x < 0 ∨ nI 9 ≤ x ∨ 10 ≤ yp_n T) ∧ a_aok T x = none) ∨ ∃ k, k < 9 ∧ yp_n T < 10 ∧ x = nI k ∧ a_aok T x = some k := by
  by_cases h : x < 0 ∨ nI 9 ≤ x ∨ 10 ≤ yp_n T
  · exact Or.inl ⟨h, if_pos h⟩
  · right
    rcases ysplit x (n := 9) (by omega) with (q | q) | ⟨k, hk, rfl⟩
    · exact absurd (Or.inl q) h
    · exact absurd (Or.inr (Or.inl q)) h
    · refine ⟨k, hk, Nat.lt_of_not_le (fun q => h (Or.inr (Or.inr q))), rfl, ?_⟩
      unfold a_aok
      rw [if_neg h, nI_clamp (by omega)]
def addT (T : yp_T) (k : Nat) (a b : Int32) : yp_T := (yp_n T + 1, va_up (yp_kd T) (yp_n T) k, va_up (yp_a T) (yp_n T) a, va_up (yp_b T) (yp_n T) b, yp_ic T, yp_oc T, yp_rm T, yp_sr T)
section ADD
variable {σ : ys} {y k : Nat} {a b : Int32}
theorem add_cn (z : Nat) : s_n (yo_add σ y k a b) z = if z = y then s_n σ y + 1 else s_n σ z := by
  show (va_up σ.2.1 y (s_n σ y + 1, s_nc σ y) z).1 = _
  unfold va_up
  by_cases h : z = y
  · rw [if_pos h, if_pos h]
  · rw [if_neg h, if_neg h]; rfl
theorem add_cc (z : Nat) : s_nc (yo_add σ y k a b) z = s_nc σ z := by
  show (va_up σ.2.1 y (s_n σ y + 1, s_nc σ y) z).2 = _
  unfold va_up
  by_cases h : z = y
  · rw [if_pos h, h]
  · rw [if_neg h]; rfl
theorem add_ac (z i : Nat) : s_ac (yo_add σ y k a b) z i = if z = y ∧ i = s_n σ y then (k, a, b, 0, 0) else s_ac σ z i := rfl
theorem add_rw (z i : Nat) : s_rw (yo_add σ y k a b) z i = if z = y ∧ i = s_n σ y then (fun _ => 0) else s_rw σ z i := rfl
theorem add_n1 : s_n (yo_add σ 0 k a b) 1 = s_n σ 1 := by rw [add_cn, if_neg (by omega)]
theorem add_oth {z : Nat} (hz : z ≠ y) : s_ac (yo_add σ y k a b) z = s_ac σ z ∧ s_rw (yo_add σ y k a b) z = s_rw σ z := by
  refine ⟨funext fun i => ?_, funext fun i => ?_⟩
  · rw [add_ac, if_neg (fun h => hz h.1)]
  · rw [add_rw, if_neg (fun h => hz h.1)]
theorem add_To {z : Nat} (hz : z ≠ y) : s_T (yo_add σ y k a b) z = s_T σ z := by
  obtain ⟨h1, h2⟩ := add_oth (σ := σ) (k := k) (a := a) (b := b) hz
  unfold s_T
  rw [h1, h2, add_cn, if_neg hz]
  rfl
theorem add_Do {z : Nat} (hz : z ≠ y) : s_D (yo_add σ y k a b) z = s_D σ z := by
  obtain ⟨h1, h2⟩ := add_oth (σ := σ) (k := k) (a := a) (b := b) hz
  unfold s_D
  rw [h1, h2]
  rfl
theorem add_Iz {z : Nat} (hz : z ≠ y) (hi : yI σ z) : yI (yo_add σ y k a b) z := by
  obtain ⟨h1, h2⟩ := add_oth (σ := σ) (k := k) (a := a) (b := b) hz
  unfold yI at hi ⊢
  rw [add_To hz, add_cn, if_neg hz, add_cc, h1]
  exact hi
theorem add_T (hi : yI σ y) : s_T (yo_add σ y k a b) y = addT (s_T σ y) k a b := by
  have hd := hi.1.2.1 (s_n σ y) (Nat.le_refl _)
  have e1 : (fun i => (s_ac (yo_add σ y k a b) y i).1) = va_up (fun i => (s_ac σ y i).1) (s_n σ y) k := by
    funext i; rw [add_ac]; unfold va_up
    by_cases h : i = s_n σ y
    · rw [if_pos ⟨rfl, h⟩, if_pos h]
    · rw [if_neg (fun q => h q.2), if_neg h]
  have e2 : (fun i => (s_ac (yo_add σ y k a b) y i).2.1) = va_up (fun i => (s_ac σ y i).2.1) (s_n σ y) a := by
    funext i; rw [add_ac]; unfold va_up
    by_cases h : i = s_n σ y
    · rw [if_pos ⟨rfl, h⟩, if_pos h]
    · rw [if_neg (fun q => h q.2), if_neg h]
  have e3 : (fun i => (s_ac (yo_add σ y k a b) y i).2.2.1) = va_up (fun i => (s_ac σ y i).2.2.1) (s_n σ y) b := by
    funext i; rw [add_ac]; unfold va_up
    by_cases h : i = s_n σ y
    · rw [if_pos ⟨rfl, h⟩, if_pos h]
    · rw [if_neg (fun q => h q.2), if_neg h]
  have e4 : (fun i => yrw (s_rw (yo_add σ y k a b) y i) (s_ac (yo_add σ y k a b) y i).2.2.2.1) = fun i => yrw (s_rw σ y i) (s_ac σ y i).2.2.2.1 := by
    funext i; rw [add_ac, add_rw]
    by_cases h : i = s_n σ y
    · rw [if_pos ⟨rfl, h⟩, if_pos ⟨rfl, h⟩, h, hd]; rfl
    · rw [if_neg (fun q => h q.2), if_neg (fun q => h q.2)]
  unfold s_T
  rw [e1, e2, e3, e4, add_cn, if_pos rfl]
  rfl
theorem add_D (hi : yI σ y) : s_D (yo_add σ y k a b) y = s_D σ y := by
  have hd := hi.1.2.1 (s_n σ y) (Nat.le_refl _)
  have e1 : (fun i => (s_ac (yo_add σ y k a b) y i).2.2.2.2) = fun i => (s_ac σ y i).2.2.2.2 := by
    funext i; rw [add_ac]
    by_cases h : i = s_n σ y
    · rw [if_pos ⟨rfl, h⟩, h, hd]
    · rw [if_neg (fun q => h q.2)]
  have e2 : (fun i => if (s_ac (yo_add σ y k a b) y i).1 = 6 then yrw (s_rw (yo_add σ y k a b) y i) (s_ac (yo_add σ y k a b) y i).2.2.2.2 else []) = fun i => if (s_ac σ y i).1 = 6 then yrw (s_rw σ y i) (s_ac σ y i).2.2.2.2 else [] := by
    funext i
    by_cases h : i = s_n σ y
    · have q1 : s_ac (yo_add σ y k a b) y i = (k, a, b, 0, 0) := by rw [add_ac, if_pos ⟨rfl, h⟩]
      rw [q1, h, hd, if_neg (show ¬ (0 : Nat) = 6 by omega)]
      by_cases h6 : k = 6
      · rw [if_pos h6]; rfl
      · rw [if_neg h6]
    · have q1 : s_ac (yo_add σ y k a b) y i = s_ac σ y i := by rw [add_ac, if_neg (fun q => h q.2)]
      have q2 : s_rw (yo_add σ y k a b) y i = s_rw σ y i := by rw [add_rw, if_neg (fun q => h q.2)]
      rw [q1, q2]
  unfold s_D
  rw [e1, e2]
  rfl
theorem add_I (hi : yI σ y) (hk : k < 9) (hn : s_n σ y < 10) : yI (yo_add σ y k a b) y := by
  obtain ⟨b1, b2, b3, b4, b5, b6, b7⟩ := id hi
  refine ⟨⟨by rw [add_cn, if_pos rfl]; omega, fun i h => ?_, fun c hc => b1.2.2 c (by rw [add_cc] at hc; exact hc)⟩, by rw [add_cc]; exact b2, fun i => ?_, b4, fun i j c e => ?_, fun i j c e => ?_, wf_io rfl rfl b7⟩
  · rw [add_cn, if_pos rfl] at h
    rw [add_ac, if_neg (fun q => by omega)]
    exact b1.2.1 i (by omega)
  · rw [add_ac]
    by_cases h : i = s_n σ y
    · rw [if_pos ⟨rfl, h⟩]; exact ⟨hk, by show 0 ≤ 20; omega, fun _ => rfl, by show 0 ≤ 100; omega, fun _ => by show 0 ≤ 60; omega⟩
    · rw [if_neg (fun q => h q.2)]; exact b3 i
  · obtain ⟨c1, c2, c3⟩ := b5 i j c e
    rw [add_cn, if_pos rfl, add_ac, if_neg (fun q => by omega), add_cc]
    exact ⟨by omega, c2, c3⟩
  · obtain ⟨c1, c2, c3⟩ := b6 i j c e
    rw [add_cn, if_pos rfl, add_ac, if_neg (fun q => by omega), add_cc]
    exact ⟨by omega, c2, c3⟩
theorem add_L {LL : List yl} (hLL : ∀ q, q ∈ LL ↔ yL σ q) {y : Nat} (hy : y < 2) (k : Nat) (a b : Int32) : ∀ q, q ∈ ((((LL ++ [(5, y, s_n σ y)]) ++ [(6, y, s_n σ y)]) ++ [(7, y, s_n σ y)]) ++ [(8, y, s_n σ y)]) ↔ yL (yo_add σ y k a b) q := by
  intro q
  have hm : q ∈ ((((LL ++ [(5, y, s_n σ y)]) ++ [(6, y, s_n σ y)]) ++ [(7, y, s_n σ y)]) ++ [(8, y, s_n σ y)]) ↔ yL σ q ∨ q = (5, y, s_n σ y) ∨ q = (6, y, s_n σ y) ∨ q = (7, y, s_n σ y) ∨ q = (8, y, s_n σ y) := by
    rw [← hLL]; simp [or_assoc]
  rw [hm]
  obtain ⟨f, z, i⟩ := q
  have key : (z < 2 ∧ i < s_n (yo_add σ y k a b) z) ↔ (z < 2 ∧ i < s_n σ z) ∨ (z = y ∧ i = s_n σ y) := by
    rw [add_cn]
    by_cases h : z = y
    · subst h
      rw [if_pos rfl]
      constructor
      · rintro ⟨h1, h2⟩
        by_cases h3 : i = s_n σ z
        · exact Or.inr ⟨rfl, h3⟩
        · exact Or.inl ⟨h1, by omega⟩
      · rintro (⟨h1, h2⟩ | ⟨-, h2⟩)
        · exact ⟨h1, by omega⟩
        · exact ⟨hy, by omega⟩
    · rw [if_neg h]
      constructor
      · exact Or.inl
      · rintro (h1 | h1)
        · exact h1
        · exact absurd h1.1 h
  match f with
  | 0 => show (z = 0 ∧ i = 0) ∨ _ ↔ (z = 0 ∧ i = 0); simp
  | 1 => show (z < 2 ∧ i = 0) ∨ _ ↔ (z < 2 ∧ i = 0); simp
  | 2 => show (z < 2 ∧ i = 0) ∨ _ ↔ (z < 2 ∧ i = 0); simp
  | 3 => show (z < 2 ∧ i = 0) ∨ _ ↔ (z < 2 ∧ i = 0); simp
  | 4 => show (z < 2 ∧ i = 0) ∨ _ ↔ (z < 2 ∧ i = 0); simp
  | 5 => show (z < 2 ∧ i < s_n σ z) ∨ _ ↔ (z < 2 ∧ i < s_n (yo_add σ y k a b) z); rw [key]; simp
  | 6 => show (z < 2 ∧ i < s_n σ z) ∨ _ ↔ (z < 2 ∧ i < s_n (yo_add σ y k a b) z); rw [key]; simp
  | 7 => show (z < 2 ∧ i < s_n σ z) ∨ _ ↔ (z < 2 ∧ i < s_n (yo_add σ y k a b) z); rw [key]; simp
  | 8 => show (z < 2 ∧ i < s_n σ z) ∨ _ ↔ (z < 2 ∧ i < s_n (yo_add σ y k a b) z); rw [key]; simp
  | 9 => show (z < 2 ∧ i < s_nc σ z) ∨ _ ↔ (z < 2 ∧ i < s_nc (yo_add σ y k a b) z); rw [add_cc]; simp
  | 10 => show (z < 2 ∧ i < s_nc σ z) ∨ _ ↔ (z < 2 ∧ i < s_nc (yo_add σ y k a b) z); rw [add_cc]; simp
  | n + 11 => show False ∨ _ ↔ False; simp
end ADD
theorem add_Io {σ : ys} {k : Nat} (hJ : yJ σ) (hk : k < 9) (hn : s_n σ 0 < 10) (a b : Int32) : ∀ z, yI (yo_add σ 0 k a b) z ∨ 2 ≤ z := fun z => by
  match z with
  | 0 => exact Or.inl (add_I hJ.1 hk hn)
  | 1 => exact Or.inl (add_Iz (by omega) hJ.2.1)
  | n + 2 => exact Or.inr (by omega)
theorem add_Io1 {σ : ys} {k : Nat} (hJ : yJ σ) (hk : k < 9) (hn : s_n σ 0 < 10) (a b : Int32) : yI (yo_add σ 0 k a b) 1 := add_Iz (by omega) hJ.2.1
theorem L_fl {σ : ys} {LL : List yl} {v : Int32} (hLL : ∀ q, q ∈ LL ↔ yL σ q) : ∀ q, q ∈ LL ↔ yL (sx_fl σ 0 0 v) q := hLL
theorem add_J {σ : ys} {k : Nat} (hJ : yJ σ) (hk : k < 9) (hn : s_n σ 0 < 10) (a b : Int32) : yJ (sx_fl (yo_add (yo_add σ 0 k a b) 1 k a b) 0 0 0) ∧ s_T (sx_fl (yo_add (yo_add σ 0 k a b) 1 k a b) 0 0 0) 0 = addT (s_T σ 0) k a b ∧ s_D (sx_fl (yo_add (yo_add σ 0 k a b) 1 k a b) 0 0 0) 0 = s_D σ 0 ∧ s_nc (sx_fl (yo_add (yo_add σ 0 k a b) 1 k a b) 0 0 0) 0 = s_nc σ 0 := by
  obtain ⟨j1, j2, j3, j4⟩ := id hJ
  have hT : s_T (yo_add (yo_add σ 0 k a b) 1 k a b) 0 = addT (s_T σ 0) k a b := (add_To (by omega)).trans (add_T j1)
  have hD : s_D (yo_add (yo_add σ 0 k a b) 1 k a b) 0 = s_D σ 0 := (add_Do (by omega)).trans (add_D j1)
  have hI1 : yI (yo_add σ 0 k a b) 1 := add_Iz (by omega) j2
  have en : s_n (yo_add σ 0 k a b) 1 = s_n σ 0 := by rw [add_n1]; exact j3.1
  refine ⟨⟨?_, ?_, ?_, Or.inl (by show up2 (s_fl (yo_add (yo_add σ 0 k a b) 1 k a b)) 0 0 0 0 0 = 0; exact up2_s _ _ _ _)⟩, hT, hD, by show s_nc (yo_add (yo_add σ 0 k a b) 1 k a b) 0 = _; rw [add_cc, add_cc]⟩
  · show yI (yo_add (yo_add σ 0 k a b) 1 k a b) 0
    exact add_Iz (by omega) (add_I j1 hk hn)
  · show yI (yo_add (yo_add σ 0 k a b) 1 k a b) 1
    exact add_I hI1 hk (by rw [en]; exact hn)
  · show yE (yo_add (yo_add σ 0 k a b) 1 k a b) 1 0
    obtain ⟨e1, e2, e3, e4, e5, e6⟩ := j3
    refine ⟨?_, by rw [add_cc, add_cc, add_cc, add_cc]; exact e2, fun i => ?_, e4, e5, e6⟩
    · rw [add_cn, if_pos rfl, en, add_cn, if_neg (by omega), add_cn, if_pos rfl]
    · rw [add_ac, add_ac, add_ac, add_ac, en]
      by_cases h : i = s_n σ 0
      · rw [if_pos ⟨rfl, h⟩, if_neg (fun q => by omega), if_pos ⟨rfl, h⟩]; exact ⟨rfl, rfl, rfl⟩
      · rw [if_neg (fun q => h q.2), if_neg (fun q => by omega), if_neg (fun q => by omega), if_neg (fun q => h q.2)]; exact e3 i
set_option maxHeartbeats 4000000 in
set_option maxRecDepth 100000 in
theorem c_S_actor (l : Launch) (D : va_G) (cc : ClassId × ClassId × ClassId) (ad : yl → Nat) (LL : List yl) (X : va_W) (b0 sz : Nat) (σ : ys) (hLL : ∀ q, q ∈ LL ↔ yL σ q) (hJ : yJ σ) (x a b : Int32) : Met l y_S_actor w_S_actor ({ frames := 3, cells := 8, slots := 144, locals := 58 }) (yPr D cc b0 [.ref (ad (0, 0, 0)), .int x, .int a, .int b] (yW cc ad LL X σ) sz) (va_Qi (fun r (u : (yl → Nat) × List yl × ys) => r = (match a_aok (s_T σ 0) x with | none => -1 | some _ => nI (s_n σ 0)) ∧ (∀ q, q ∈ u.2.1 ↔ yL u.2.2 q) ∧ yJ u.2.2 ∧ s_T u.2.2 0 = (match a_aok (s_T σ 0) x with | none => s_T σ 0 | some k => addT (s_T σ 0) k a b) ∧ s_D u.2.2 0 = s_D σ 0 ∧ s_nc u.2.2 0 = s_nc σ 0) (yB D ycl (yW cc ad LL X σ) sz (fun u => yW cc u.1 u.2.1 X u.2.2)) (va_A (yW cc ad LL X σ) sz)) 8 144 (va_A (yW cc ad LL X σ) sz) := by
  have hL : ∀ q, yL σ q → q ∈ LL := fun q h => (hLL q).mpr h
  have hIo := J_o hJ
  have o0 : (0, 0, 0) ∈ LL := hL _ ⟨rfl, rfl⟩
  have n0 : (1, 0, 0) ∈ LL := hL _ ⟨by omega, rfl⟩
  have n1 : (1, 1, 0) ∈ LL := hL _ ⟨by omega, rfl⟩
  have hi := hJ.1
  have hi1 := hJ.2.1
  have hn10 := hi.1.1
  have hc16 := hi.2.1
  have hm10 := hi1.1.1
  have hd16 := hi1.2.1
  rcases aok_split (s_T σ 0) x with ⟨hno, hok⟩ | ⟨k, hk, hn, rfl, hok⟩
  · refine y_ofW (cc := b_S_actor) (maxL := 5) (ret := (some .int)) (by decide) rfl (Nat.le_of_ble_eq_true rfl) ?_
    intro pv ev sv mv bv tv cv ls hI hsz hw hl
    obtain ⟨hx, hb, hr, hml, hts, hown, hlocks, hnm, hK, hAb, hb0, hA⟩ := id hI
    have ht : ∀ w ∈ lg_tbl, w.before _ sv = true := fun w h => hts w (List.mem_cons_of_mem _ h)
    have hl : lv_has ls 5 [(0, .ref (ad (0, 0, 0))), (1, .int x), (2, .int a), (3, .int b)] := hl
    refine lv_aload_n hx hb d_S_actor_0 rfl (lv_at hl 0 rfl) ?_
    refine yr_get (C := R_S) (T := F_S) (N := 3) (ci := k_S) hx hb ht j_S hown hK.1 hw (by assumption) (by rfl) rfl 0 (by decide) (ht _ mf_S_14) (fun _ h9 => h9) (by rfl) d_S_actor_1 ?_
    refine lv_iload_n hx hb d_S_actor_4 rfl (lv_at hl 1 rfl) ?_
    refine lv_iload_n hx hb d_S_actor_5 rfl (lv_at hl 2 rfl) ?_
    refine lv_iload_n hx hb d_S_actor_6 rfl (lv_at hl 3 rfl) ?_
    refine yc_i (va_runV (As := [.int _, .int _, .int _]) (rest := []) ⟨hx, hb, hml, hown, hts⟩ (c_Y_addActor_no l D cc ad LL X b0 _ σ hLL 0 (by omega) hi x a b hno) (cwV 3 hts (yg_call mc_Y_addActor ml_S_25 mm_Y_addActor ms_Y_addActor mi_Y) rfl rfl rfl (by decide +kernel) ⟨Nat.le_of_ble_eq_true rfl, Nat.le_of_ble_eq_true rfl⟩) (y_preV hI hw (y_recv hK.1 hw n0 (by rfl) rfl)) rfl rfl hl.1 rfl (lv_room (Nat.le_of_ble_eq_true rfl)) d_S_actor_7 ⟨Nat.le_of_ble_eq_true rfl, Nat.le_of_ble_eq_true rfl⟩) hw hA (fun r u H locs he hw => ?_)
    subst he
    refine lv_istore (lv' := [(4, .int _), (0, .ref _), (1, .int _), (2, .int _), (3, .int _)]) hx hb d_S_actor_10 hl (by decide) rfl (fun ls hl => ?_)
    refine lv_iload hx hb d_S_actor_12 (lv_at hl 0 rfl) ?_
    refine lv_iconst (v := (-1)) hx hb d_S_actor_14 (by decide) ?_
    refine lv_icmp_eq (tgt := 34) hx hb d_S_actor_15 (by decide) (fun c_15 => ?_) (fun c_15 => by exact absurd rfl c_15)
    refine lv_iload hx hb d_S_actor_34 (lv_at hl 0 rfl) ?_
    refine W.widen (k := 8) (n := 144) (by omega) (by omega) ?_
    exact ye_i hI (ad, LL, σ) ⟨by rw [hok], hLL, hJ, by rw [hok], rfl, rfl⟩ hw d_S_actor_36
  · refine y_ofW (cc := b_S_actor) (maxL := 5) (ret := (some .int)) (by decide) rfl (Nat.le_of_ble_eq_true rfl) ?_
    intro pv ev sv mv bv tv cv ls hI hsz hw hl
    generalize hargs : ([.ref (ad (0, 0, 0)), .int (nI k), .int a, .int b] : List Value).toArray = args at hI ⊢
    obtain ⟨hx, hb, hr, hml, hts, hown, hlocks, hnm, hK, hAb, hb0, hA⟩ := id hI
    have ht : ∀ w ∈ lg_tbl, w.before _ sv = true := fun w h => hts w (List.mem_cons_of_mem _ h)
    have hl : lv_has ls 5 [(0, .ref (ad (0, 0, 0))), (1, .int (nI k)), (2, .int a), (3, .int b)] := hl
    refine lv_aload_n hx hb d_S_actor_0 rfl (lv_at hl 0 rfl) ?_
    refine yr_get (C := R_S) (T := F_S) (N := 3) (ci := k_S) hx hb ht j_S hown hK.1 hw (by assumption) (by rfl) rfl 0 (by decide) (ht _ mf_S_14) (fun _ h9 => h9) (by rfl) d_S_actor_1 ?_
    refine lv_iload_n hx hb d_S_actor_4 rfl (lv_at hl 1 rfl) ?_
    refine lv_iload_n hx hb d_S_actor_5 rfl (lv_at hl 2 rfl) ?_
    refine lv_iload_n hx hb d_S_actor_6 rfl (lv_at hl 3 rfl) ?_
    refine yc_i (va_runV (As := [.int _, .int _, .int _]) (rest := []) ⟨hx, hb, hml, hown, hts⟩ (c_Y_addActor l D cc ad LL X b0 _ σ hLL 0 (by omega) hi hIo k hk hn a b) (cwV 3 hts (yg_call mc_Y_addActor ml_S_25 mm_Y_addActor ms_Y_addActor mi_Y) rfl rfl rfl (by decide +kernel) ⟨Nat.le_of_ble_eq_true rfl, Nat.le_of_ble_eq_true rfl⟩) (y_preV hI hw (y_recv hK.1 hw n0 (by rfl) rfl)) rfl rfl hl.1 rfl (lv_room (Nat.le_of_ble_eq_true rfl)) d_S_actor_7 ⟨Nat.le_of_ble_eq_true rfl, Nat.le_of_ble_eq_true rfl⟩) hw hA (fun r ad1 H locs he hw => ?_)
    obtain ⟨rfl, hag1⟩ := he
    rw [← hag1 _ o0] at hl
    have hLL1 := add_L hLL (y := 0) (by omega) k a b
    have o1 : (0, 0, 0) ∈ ((((LL ++ [(5, 0, s_n σ 0)]) ++ [(6, 0, s_n σ 0)]) ++ [(7, 0, s_n σ 0)]) ++ [(8, 0, s_n σ 0)]) := (hLL1 _).mpr ⟨rfl, rfl⟩
    have nn1 : (1, 1, 0) ∈ ((((LL ++ [(5, 0, s_n σ 0)]) ++ [(6, 0, s_n σ 0)]) ++ [(7, 0, s_n σ 0)]) ++ [(8, 0, s_n σ 0)]) := (hLL1 _).mpr ⟨by omega, rfl⟩
    have hIo1 := add_Io hJ hk hn a b
    refine lv_istore (lv' := [(4, .int _), (0, .ref _), (1, .int _), (2, .int _), (3, .int _)]) hx hb d_S_actor_10 hl (by decide) rfl (fun ls hl => ?_)
    refine lv_iload hx hb d_S_actor_12 (lv_at hl 0 rfl) ?_
    refine lv_iconst (v := (-1)) hx hb d_S_actor_14 (by decide) ?_
    refine lv_icmp_eq (tgt := 34) hx hb d_S_actor_15 (by decide) (fun c_15 => by exact absurd c_15 (nI_m1 (by omega))) (fun c_15 => ?_)
    refine lv_aload_n hx hb d_S_actor_18 rfl (lv_at hl 1 rfl) ?_
    refine yr_get (C := R_S) (T := F_S) (N := 3) (ci := k_S) hx hb ht j_S hown hK.1 hw o1 (by rfl) rfl 1 (by decide) (ht _ mf_S_18) (fun _ h9 => h9) (by rfl) d_S_actor_19 ?_
    refine lv_iload_n hx hb d_S_actor_22 rfl (lv_at hl 2 rfl) ?_
    refine lv_iload_n hx hb d_S_actor_23 rfl (lv_at hl 3 rfl) ?_
    refine lv_iload_n hx hb d_S_actor_24 rfl (lv_at hl 4 rfl) ?_
    refine yc_i (va_runV (As := [.int _, .int _, .int _]) (rest := []) ⟨hx, hb, hml, hown, hts⟩ (c_Y_addActor l D cc ad1 ((((LL ++ [(5, 0, s_n σ 0)]) ++ [(6, 0, s_n σ 0)]) ++ [(7, 0, s_n σ 0)]) ++ [(8, 0, s_n σ 0)]) X b0 _ (yo_add σ 0 k a b) hLL1 1 (by omega) (add_Io1 hJ hk hn a b) hIo1 k hk (by rw [add_n1]; rw [hJ.2.2.1.1]; exact hn) a b) (cwV 3 hts (yg_call mc_Y_addActor ml_S_25 mm_Y_addActor ms_Y_addActor mi_Y) rfl rfl rfl (by decide +kernel) ⟨Nat.le_of_ble_eq_true rfl, Nat.le_of_ble_eq_true rfl⟩) (y_preV hI hw (y_recv hK.1 hw nn1 (by rfl) rfl)) rfl rfl hl.1 rfl (lv_room (Nat.le_of_ble_eq_true rfl)) d_S_actor_25 ⟨Nat.le_of_ble_eq_true rfl, Nat.le_of_ble_eq_true rfl⟩) hw hA (fun r ad2 H locs he hw => ?_)
    obtain ⟨rfl, hag2⟩ := he
    rw [← hag2 _ o1] at hl
    have hLL2 := add_L hLL1 (y := 1) (by omega) k a b
    have o2 : (0, 0, 0) ∈ ((((((((LL ++ [(5, 0, s_n σ 0)]) ++ [(6, 0, s_n σ 0)]) ++ [(7, 0, s_n σ 0)]) ++ [(8, 0, s_n σ 0)]) ++ [(5, 1, s_n (yo_add σ 0 k a b) 1)]) ++ [(6, 1, s_n (yo_add σ 0 k a b) 1)]) ++ [(7, 1, s_n (yo_add σ 0 k a b) 1)]) ++ [(8, 1, s_n (yo_add σ 0 k a b) 1)]) := (hLL2 _).mpr ⟨rfl, rfl⟩
    refine lv_pop hx hb d_S_actor_28 rfl ?_
    refine lv_aload_n hx hb d_S_actor_29 rfl (lv_at hl 1 rfl) ?_
    refine lv_iconst (v := 0) hx hb d_S_actor_30 (by decide) ?_
    refine yr_put (ty := .boolean) (C := R_S) (T := F_S) (N := 3) (ci := k_S) hx hb ht j_S t_S t_S_ok n_S hown hK.1 hw o2 (by rfl) rfl 2 (by decide) (ht _ mf_S_21) (fun _ h9 => h9) rfl (by decide +kernel) (by decide) (by decide) (Nat.le_of_ble_eq_true rfl) d_S_actor_31 (fun H locs hw => ?_)
    have hw := yw_fl 0 hw rfl
    refine lv_iload hx hb d_S_actor_34 (lv_at hl 0 rfl) ?_
    exact ye_i hI (ad2, ((((((((LL ++ [(5, 0, s_n σ 0)]) ++ [(6, 0, s_n σ 0)]) ++ [(7, 0, s_n σ 0)]) ++ [(8, 0, s_n σ 0)]) ++ [(5, 1, s_n (yo_add σ 0 k a b) 1)]) ++ [(6, 1, s_n (yo_add σ 0 k a b) 1)]) ++ [(7, 1, s_n (yo_add σ 0 k a b) 1)]) ++ [(8, 1, s_n (yo_add σ 0 k a b) 1)]), sx_fl (yo_add (yo_add σ 0 k a b) 1 k a b) 0 0 0) ⟨by rw [hok], L_fl hLL2, (add_J hJ hk hn a b).1, by rw [hok]; exact (add_J hJ hk hn a b).2.1, (add_J hJ hk hn a b).2.2.1, (add_J hJ hk hn a b).2.2.2⟩ hw d_S_actor_36
end
section
/-! THE FACE: channel -/
theorem jok_split (T : yp_T) (nc : Nat) (f o t i r : Int32) (hn : yp_n T < 2 ^ 31) : a_jok T nc f o t i r = none ∨ ∃ jf jo jt ji rr, f = nI jf ∧ o = nI jo ∧ t = nI jt ∧ i = nI ji ∧ r = nI rr ∧ jf < yp_n T ∧ jt < yp_n T ∧ nc < 16 ∧ 1 ≤ rr ∧ rr ≤ 8 ∧ jo < yt_outs (yp_kd T jf) ∧ ji < yt_ins (yp_kd T jt) ∧ yp_oc T jf jo = none ∧ yp_ic T jt ji = none ∧ a_jok T nc f o t i r = some (jf, jo, jt, ji, rr) := by
  rcases ysplit f hn with h | ⟨jf, hjf, rfl⟩
  · left; unfold a_jok; rw [yin_no h]
  · rcases ysplit t hn with h | ⟨jt, hjt, rfl⟩
    · left; unfold a_jok; rw [yin_no h]; cases yin (nI jf) (yp_n T) <;> rfl
    · have h1 := yt_outs_le (yp_kd T jf)
      have h2 := yt_ins_le (yp_kd T jt)
      by_cases hc : nc < 16
      · by_cases hr : r < nI 1 ∨ nI 8 < r
        · left; unfold a_jok; rw [yin_some hjf hn, yin_some hjt hn]; show (if nc < 16 then _ else _) = _; rw [if_pos hc, if_pos hr]
        · have hr9 : ∃ rr, 1 ≤ rr ∧ rr ≤ 8 ∧ r = nI rr := by
            rcases ysplit r (n := 9) (by omega) with (q | q) | ⟨rr, q, e⟩
            · exact absurd (Or.inl (by rw [Int32.lt_iff_toInt_lt, nI_toInt (by omega)]; rw [Int32.lt_iff_toInt_lt, Int32.toInt_zero] at q; omega)) hr
            · exact absurd (Or.inr (by rw [Int32.lt_iff_toInt_lt, nI_toInt (by omega)]; rw [Int32.le_iff_toInt_le, nI_toInt (by omega)] at q; omega)) hr
            · refine ⟨rr, ?_, by omega, e⟩
              rcases Nat.eq_zero_or_pos rr with z | z
              · exact absurd (Or.inl (by rw [e, z]; decide)) hr
              · exact z
          obtain ⟨rr, r1, r2, er⟩ := hr9
          rcases ysplit o (n := yt_outs (yp_kd T jf)) (by omega) with h | ⟨jo, hjo, rfl⟩
          · left; unfold a_jok; rw [yin_some hjf hn, yin_some hjt hn]; show (if nc < 16 then _ else _) = _; rw [if_pos hc, if_neg hr, yin_no h]
          · rcases ysplit i (n := yt_ins (yp_kd T jt)) (by omega) with h | ⟨ji, hji, rfl⟩
            · left; unfold a_jok; rw [yin_some hjf hn, yin_some hjt hn]; show (if nc < 16 then _ else _) = _; rw [if_pos hc, if_neg hr, yin_no h]; cases yin (nI jo) (yt_outs (yp_kd T jf)) <;> rfl
            · cases eo : yp_oc T jf jo with
              | some c0 =>
                left; unfold a_jok; rw [yin_some hjf hn, yin_some hjt hn]; show (if nc < 16 then _ else _) = _; rw [if_pos hc, if_neg hr, yin_some hjo (by omega), yin_some hji (by omega)]
                exact if_neg (fun q => by rw [eo] at q; cases q.1)
              | none =>
                cases ei : yp_ic T jt ji with
                | some c0 =>
                  left; unfold a_jok; rw [yin_some hjf hn, yin_some hjt hn]; show (if nc < 16 then _ else _) = _; rw [if_pos hc, if_neg hr, yin_some hjo (by omega), yin_some hji (by omega)]
                  exact if_neg (fun q => by rw [ei] at q; cases q.2)
                | none =>
                  right
                  refine ⟨jf, jo, jt, ji, rr, rfl, rfl, rfl, rfl, er, hjf, hjt, hc, r1, r2, hjo, hji, eo, ei, ?_⟩
                  rw [jok_yes hjf hjt hn hc hr hjo hji eo ei, er, nI_clamp (by omega)]
      · left; unfold a_jok; rw [yin_some hjf hn, yin_some hjt hn]; show (if nc < 16 then _ else _) = _; rw [if_neg hc]
def joinT (T : yp_T) (nc jf jo jt ji r : Nat) : yp_T := (yp_n T, yp_kd T, yp_a T, yp_b T, fun i j => if i = jt ∧ j = ji then some nc else yp_ic T i j, fun i j => if i = jf ∧ j = jo then some nc else yp_oc T i j, va_up (yp_rm T) nc r, yp_sr T)
section JN
variable {σ : ys} {y jf jo jt ji r : Nat}
theorem jn_cn (z : Nat) : s_n (yo_join σ y jf jo jt ji r) z = s_n σ z := by
  show (va_up σ.2.1 y (s_n σ y, s_nc σ y + 1) z).1 = _
  unfold va_up
  by_cases h : z = y
  · rw [if_pos h, h]
  · rw [if_neg h]; rfl
theorem jn_cc (z : Nat) : s_nc (yo_join σ y jf jo jt ji r) z = if z = y then s_nc σ y + 1 else s_nc σ z := by
  show (va_up σ.2.1 y (s_n σ y, s_nc σ y + 1) z).2 = _
  unfold va_up
  by_cases h : z = y
  · rw [if_pos h, if_pos h]
  · rw [if_neg h, if_neg h]; rfl
theorem jn_ch (z i : Nat) : s_ch (yo_join σ y jf jo jt ji r) z i = if z = y ∧ i = s_nc σ y then (r, 0, 0) else s_ch σ z i := rfl
theorem jn_rg (z i : Nat) : s_rg (yo_join σ y jf jo jt ji r) z i = if z = y ∧ i = s_nc σ y then (fun _ => 0) else s_rg σ z i := rfl
theorem jn_oc (z i : Nat) : s_oc (yo_join σ y jf jo jt ji r) z i = if z = y ∧ i = jf then va_up (s_oc σ y jf) jo (some (s_nc σ y)) else s_oc σ z i := rfl
theorem jn_ic (z i : Nat) : s_ic (yo_join σ y jf jo jt ji r) z i = if z = y ∧ i = jt then va_up (s_ic σ y jt) ji (some (s_nc σ y)) else s_ic σ z i := rfl
theorem jn_ac : s_ac (yo_join σ y jf jo jt ji r) = s_ac σ := rfl
theorem jn_rw : s_rw (yo_join σ y jf jo jt ji r) = s_rw σ := rfl
theorem jn_oth {z : Nat} (hz : z ≠ y) : s_ch (yo_join σ y jf jo jt ji r) z = s_ch σ z ∧ s_rg (yo_join σ y jf jo jt ji r) z = s_rg σ z ∧ s_oc (yo_join σ y jf jo jt ji r) z = s_oc σ z ∧ s_ic (yo_join σ y jf jo jt ji r) z = s_ic σ z := by
  refine ⟨funext fun i => ?_, funext fun i => ?_, funext fun i => ?_, funext fun i => ?_⟩
  · rw [jn_ch, if_neg (fun h => hz h.1)]
  · rw [jn_rg, if_neg (fun h => hz h.1)]
  · rw [jn_oc, if_neg (fun h => hz h.1)]
  · rw [jn_ic, if_neg (fun h => hz h.1)]
theorem jn_To {z : Nat} (hz : z ≠ y) : s_T (yo_join σ y jf jo jt ji r) z = s_T σ z := by
  obtain ⟨h1, h2, h3, h4⟩ := jn_oth (σ := σ) (jf := jf) (jo := jo) (jt := jt) (ji := ji) (r := r) hz
  unfold s_T
  rw [h1, h3, h4, jn_cn, jn_ac, jn_rw]
theorem jn_Do {z : Nat} (hz : z ≠ y) : s_D (yo_join σ y jf jo jt ji r) z = s_D σ z := by
  obtain ⟨h1, h2, h3, h4⟩ := jn_oth (σ := σ) (jf := jf) (jo := jo) (jt := jt) (ji := ji) (r := r) hz
  unfold s_D
  rw [h1, h2, jn_ac, jn_rw]
theorem jn_Iz {z : Nat} (hz : z ≠ y) (hi : yI σ z) : yI (yo_join σ y jf jo jt ji r) z := by
  obtain ⟨h1, h2, h3, h4⟩ := jn_oth (σ := σ) (jf := jf) (jo := jo) (jt := jt) (ji := ji) (r := r) hz
  unfold yI at hi ⊢
  rw [jn_To hz, jn_cn, jn_cc, if_neg hz, h1, h3, h4, jn_ac]
  exact hi
theorem jn_icj (i j : Nat) : s_ic (yo_join σ y jf jo jt ji r) y i j = if i = jt ∧ j = ji then some (s_nc σ y) else s_ic σ y i j := by
  rw [jn_ic]
  by_cases h : i = jt
  · rw [if_pos ⟨rfl, h⟩]
    unfold va_up
    by_cases h2 : j = ji
    · rw [if_pos h2, if_pos ⟨h, h2⟩]
    · rw [if_neg h2, if_neg (fun q => h2 q.2), h]
  · rw [if_neg (fun q => h q.2), if_neg (fun q => h q.1)]
theorem jn_ocj (i j : Nat) : s_oc (yo_join σ y jf jo jt ji r) y i j = if i = jf ∧ j = jo then some (s_nc σ y) else s_oc σ y i j := by
  rw [jn_oc]
  by_cases h : i = jf
  · rw [if_pos ⟨rfl, h⟩]
    unfold va_up
    by_cases h2 : j = jo
    · rw [if_pos h2, if_pos ⟨h, h2⟩]
    · rw [if_neg h2, if_neg (fun q => h2 q.2), h]
  · rw [if_neg (fun q => h q.2), if_neg (fun q => h q.1)]
theorem jn_T : s_T (yo_join σ y jf jo jt ji r) y = joinT (s_T σ y) (s_nc σ y) jf jo jt ji r := by
  have e1 : s_ic (yo_join σ y jf jo jt ji r) y = fun i j => if i = jt ∧ j = ji then some (s_nc σ y) else s_ic σ y i j := funext fun i => funext fun j => jn_icj i j
  have e2 : s_oc (yo_join σ y jf jo jt ji r) y = fun i j => if i = jf ∧ j = jo then some (s_nc σ y) else s_oc σ y i j := funext fun i => funext fun j => jn_ocj i j
  have e3 : (fun c => (s_ch (yo_join σ y jf jo jt ji r) y c).1) = va_up (fun c => (s_ch σ y c).1) (s_nc σ y) r := by
    funext c; rw [jn_ch]; unfold va_up
    by_cases h : c = s_nc σ y
    · rw [if_pos ⟨rfl, h⟩, if_pos h]
    · rw [if_neg (fun q => h q.2), if_neg h]
  unfold s_T
  rw [e1, e2, e3, jn_cn, jn_ac, jn_rw]
  rfl
theorem jn_D (hi : yI σ y) : s_D (yo_join σ y jf jo jt ji r) y = s_D σ y := by
  have e : (fun c => yrq (s_rg (yo_join σ y jf jo jt ji r) y c) (s_ch (yo_join σ y jf jo jt ji r) y c).2.1 (s_ch (yo_join σ y jf jo jt ji r) y c).2.2) = fun c => yrq (s_rg σ y c) (s_ch σ y c).2.1 (s_ch σ y c).2.2 := by
    funext c; rw [jn_ch, jn_rg]
    by_cases h : c = s_nc σ y
    · rw [if_pos ⟨rfl, h⟩, if_pos ⟨rfl, h⟩, h, hi.1.2.2 _ (Nat.le_refl _)]; rfl
    · rw [if_neg (fun q => h q.2), if_neg (fun q => h q.2)]
  unfold s_D
  rw [e, jn_ac, jn_rw]
theorem jn_I (hi : yI σ y) (hjf : jf < s_n σ y) (hjt : jt < s_n σ y) (hc : s_nc σ y < 16) (hr : 1 ≤ r ∧ r ≤ 8) (hjo : jo < yt_outs (s_ac σ y jf).1) (hji : ji < yt_ins (s_ac σ y jt).1) (eo : s_oc σ y jf jo = none) (ei : s_ic σ y jt ji = none) : yI (yo_join σ y jf jo jt ji r) y := by
  obtain ⟨b1, b2, b3, b4, b5, b6, b7⟩ := id hi
  have hnc : s_nc (yo_join σ y jf jo jt ji r) y = s_nc σ y + 1 := by rw [jn_cc, if_pos rfl]
  refine ⟨⟨by rw [jn_cn]; exact b1.1, fun i h => b1.2.1 i (by rw [jn_cn] at h; exact h), fun c h => ?_⟩, by rw [hnc]; omega, b3, fun c => ?_, fun i j c e => ?_, fun i j c e => ?_, ?_⟩
  · rw [hnc] at h
    rw [jn_ch, if_neg (fun q => by omega)]
    exact b1.2.2 c (by omega)
  · rw [jn_ch]
    by_cases h : c = s_nc σ y
    · rw [if_pos ⟨rfl, h⟩]; exact ⟨hr.1, hr.2, by show 0 < 8; omega, Nat.zero_le _⟩
    · rw [if_neg (fun q => h q.2)]; exact b4 c
  · rw [jn_icj] at e
    rw [jn_cn, hnc]
    by_cases h : i = jt ∧ j = ji
    · rw [if_pos h] at e
      rw [h.1, h.2, ← Option.some.inj e]
      exact ⟨hjt, hji, by omega⟩
    · rw [if_neg h] at e
      obtain ⟨c1, c2, c3⟩ := b5 i j c e
      exact ⟨c1, c2, by omega⟩
  · rw [jn_ocj] at e
    rw [jn_cn, hnc]
    by_cases h : i = jf ∧ j = jo
    · rw [if_pos h] at e
      rw [h.1, h.2, ← Option.some.inj e]
      exact ⟨hjf, hjo, by omega⟩
    · rw [if_neg h] at e
      obtain ⟨c1, c2, c3⟩ := b6 i j c e
      exact ⟨c1, c2, by omega⟩
  · refine ⟨fun i j k k' c e e' => ?_, fun i j k k' c e e' => ?_⟩
    · have e : s_ic (yo_join σ y jf jo jt ji r) y i k = some c := e
      have e' : s_ic (yo_join σ y jf jo jt ji r) y j k' = some c := e'
      rw [jn_icj] at e e'
      by_cases h : i = jt ∧ k = ji
      · by_cases h' : j = jt ∧ k' = ji
        · exact ⟨h.1.trans h'.1.symm, h.2.trans h'.2.symm⟩
        · rw [if_pos h] at e
          rw [if_neg h', ← Option.some.inj e] at e'
          exact absurd (b5 _ _ _ e').2.2 (Nat.lt_irrefl _)
      · rw [if_neg h] at e
        by_cases h' : j = jt ∧ k' = ji
        · rw [if_pos h'] at e'
          rw [← Option.some.inj e'] at e
          exact absurd (b5 _ _ _ e).2.2 (Nat.lt_irrefl _)
        · rw [if_neg h'] at e'
          exact b7.1 i j k k' c e e'
    · have e : s_oc (yo_join σ y jf jo jt ji r) y i k = some c := e
      have e' : s_oc (yo_join σ y jf jo jt ji r) y j k' = some c := e'
      rw [jn_ocj] at e e'
      by_cases h : i = jf ∧ k = jo
      · by_cases h' : j = jf ∧ k' = jo
        · exact ⟨h.1.trans h'.1.symm, h.2.trans h'.2.symm⟩
        · rw [if_pos h] at e
          rw [if_neg h', ← Option.some.inj e] at e'
          exact absurd (b6 _ _ _ e').2.2 (Nat.lt_irrefl _)
      · rw [if_neg h] at e
        by_cases h' : j = jf ∧ k' = jo
        · rw [if_pos h'] at e'
          rw [← Option.some.inj e'] at e
          exact absurd (b6 _ _ _ e).2.2 (Nat.lt_irrefl _)
        · rw [if_neg h'] at e'
          exact b7.2 i j k k' c e e'
theorem jn_L {LL : List yl} (hLL : ∀ q, q ∈ LL ↔ yL σ q) {y : Nat} (hy : y < 2) (jf jo jt ji r : Nat) : ∀ q, q ∈ ((LL ++ [(9, y, s_nc σ y)]) ++ [(10, y, s_nc σ y)]) ↔ yL (yo_join σ y jf jo jt ji r) q := by
  intro q
  have hm : q ∈ ((LL ++ [(9, y, s_nc σ y)]) ++ [(10, y, s_nc σ y)]) ↔ yL σ q ∨ q = (9, y, s_nc σ y) ∨ q = (10, y, s_nc σ y) := by
    rw [← hLL]; simp [or_assoc]
  rw [hm]
  obtain ⟨f, z, i⟩ := q
  have key : (z < 2 ∧ i < s_nc (yo_join σ y jf jo jt ji r) z) ↔ (z < 2 ∧ i < s_nc σ z) ∨ (z = y ∧ i = s_nc σ y) := by
    rw [jn_cc]
    by_cases h : z = y
    · subst h
      rw [if_pos rfl]
      constructor
      · rintro ⟨h1, h2⟩
        by_cases h3 : i = s_nc σ z
        · exact Or.inr ⟨rfl, h3⟩
        · exact Or.inl ⟨h1, by omega⟩
      · rintro (⟨h1, h2⟩ | ⟨-, h2⟩)
        · exact ⟨h1, by omega⟩
        · exact ⟨hy, by omega⟩
    · rw [if_neg h]
      constructor
      · exact Or.inl
      · rintro (h1 | h1)
        · exact h1
        · exact absurd h1.1 h
  match f with
  | 0 => show (z = 0 ∧ i = 0) ∨ _ ↔ (z = 0 ∧ i = 0); simp
  | 1 => show (z < 2 ∧ i = 0) ∨ _ ↔ (z < 2 ∧ i = 0); simp
  | 2 => show (z < 2 ∧ i = 0) ∨ _ ↔ (z < 2 ∧ i = 0); simp
  | 3 => show (z < 2 ∧ i = 0) ∨ _ ↔ (z < 2 ∧ i = 0); simp
  | 4 => show (z < 2 ∧ i = 0) ∨ _ ↔ (z < 2 ∧ i = 0); simp
  | 5 => show (z < 2 ∧ i < s_n σ z) ∨ _ ↔ (z < 2 ∧ i < s_n (yo_join σ y jf jo jt ji r) z); rw [jn_cn]; simp
  | 6 => show (z < 2 ∧ i < s_n σ z) ∨ _ ↔ (z < 2 ∧ i < s_n (yo_join σ y jf jo jt ji r) z); rw [jn_cn]; simp
  | 7 => show (z < 2 ∧ i < s_n σ z) ∨ _ ↔ (z < 2 ∧ i < s_n (yo_join σ y jf jo jt ji r) z); rw [jn_cn]; simp
  | 8 => show (z < 2 ∧ i < s_n σ z) ∨ _ ↔ (z < 2 ∧ i < s_n (yo_join σ y jf jo jt ji r) z); rw [jn_cn]; simp
  | 9 => show (z < 2 ∧ i < s_nc σ z) ∨ _ ↔ (z < 2 ∧ i < s_nc (yo_join σ y jf jo jt ji r) z); rw [key]; simp
  | 10 => show (z < 2 ∧ i < s_nc σ z) ∨ _ ↔ (z < 2 ∧ i < s_nc (yo_join σ y jf jo jt ji r) z); rw [key]; simp
  | n + 11 => show False ∨ _ ↔ False; simp
end JN
theorem jn_Io {σ : ys} {jf jo jt ji r : Nat} (hJ : yJ σ) (hjf : jf < s_n σ 0) (hjt : jt < s_n σ 0) (hc : s_nc σ 0 < 16) (hr : 1 ≤ r ∧ r ≤ 8) (hjo : jo < yt_outs (s_ac σ 0 jf).1) (hji : ji < yt_ins (s_ac σ 0 jt).1) (eo : s_oc σ 0 jf jo = none) (ei : s_ic σ 0 jt ji = none) : ∀ z, yI (yo_join σ 0 jf jo jt ji r) z ∨ 2 ≤ z := fun z => by
  match z with
  | 0 => exact Or.inl (jn_I hJ.1 hjf hjt hc hr hjo hji eo ei)
  | 1 => exact Or.inl (jn_Iz (by omega) hJ.2.1)
  | n + 2 => exact Or.inr (by omega)
theorem jn_1 {σ : ys} {jf jo jt ji rr : Nat} (hJ : yJ σ) (hjf : jf < s_n σ 0) (hjt : jt < s_n σ 0) (hc : s_nc σ 0 < 16) (hjo : jo < yt_outs (s_ac σ 0 jf).1) (hji : ji < yt_ins (s_ac σ 0 jt).1) (eo : s_oc σ 0 jf jo = none) (ei : s_ic σ 0 jt ji = none) : jf < s_n (yo_join σ 0 jf jo jt ji rr) 1 ∧ jt < s_n (yo_join σ 0 jf jo jt ji rr) 1 ∧ s_nc (yo_join σ 0 jf jo jt ji rr) 1 < 16 ∧ jo < yt_outs (s_ac (yo_join σ 0 jf jo jt ji rr) 1 jf).1 ∧ ji < yt_ins (s_ac (yo_join σ 0 jf jo jt ji rr) 1 jt).1 ∧ s_oc (yo_join σ 0 jf jo jt ji rr) 1 jf jo = none ∧ s_ic (yo_join σ 0 jf jo jt ji rr) 1 jt ji = none := by
  obtain ⟨e1, e2, e3, e4, e5, e6⟩ := hJ.2.2.1
  obtain ⟨h1, h2, h3, h4⟩ := jn_oth (σ := σ) (y := 0) (jf := jf) (jo := jo) (jt := jt) (ji := ji) (r := rr) (z := 1) (by omega)
  rw [jn_cn, jn_cc, if_neg (by omega), jn_ac, h3, h4, e1, e2, (e3 jf).1, (e3 jt).1, e4, e5]
  exact ⟨hjf, hjt, hc, hjo, hji, eo, ei⟩
theorem jn_J {σ : ys} {jf jo jt ji r : Nat} (hJ : yJ σ) (hjf : jf < s_n σ 0) (hjt : jt < s_n σ 0) (hc : s_nc σ 0 < 16) (hr : 1 ≤ r ∧ r ≤ 8) (hjo : jo < yt_outs (s_ac σ 0 jf).1) (hji : ji < yt_ins (s_ac σ 0 jt).1) (eo : s_oc σ 0 jf jo = none) (ei : s_ic σ 0 jt ji = none) : yJ (sx_fl (yo_join (yo_join σ 0 jf jo jt ji r) 1 jf jo jt ji r) 0 0 0) ∧ s_T (sx_fl (yo_join (yo_join σ 0 jf jo jt ji r) 1 jf jo jt ji r) 0 0 0) 0 = joinT (s_T σ 0) (s_nc σ 0) jf jo jt ji r ∧ s_D (sx_fl (yo_join (yo_join σ 0 jf jo jt ji r) 1 jf jo jt ji r) 0 0 0) 0 = s_D σ 0 ∧ s_nc (sx_fl (yo_join (yo_join σ 0 jf jo jt ji r) 1 jf jo jt ji r) 0 0 0) 0 = s_nc σ 0 + 1 := by
  obtain ⟨j1, j2, j3, j4⟩ := id hJ
  obtain ⟨w1, w2, w3, w4, w5, w6, w7⟩ := jn_1 hJ (rr := r) hjf hjt hc hjo hji eo ei
  have hI1 : yI (yo_join σ 0 jf jo jt ji r) 1 := jn_Iz (by omega) j2
  have hI0 : yI (yo_join σ 0 jf jo jt ji r) 0 := jn_I j1 hjf hjt hc hr hjo hji eo ei
  have ec : s_nc (yo_join σ 0 jf jo jt ji r) 1 = s_nc σ 0 := by rw [jn_cc, if_neg (by omega)]; exact j3.2.1
  refine ⟨⟨?_, ?_, ?_, Or.inl (by show up2 (s_fl (yo_join (yo_join σ 0 jf jo jt ji r) 1 jf jo jt ji r)) 0 0 0 0 0 = 0; exact up2_s _ _ _ _)⟩, (jn_To (by omega)).trans jn_T, (jn_Do (by omega)).trans (jn_D j1), by show s_nc (yo_join (yo_join σ 0 jf jo jt ji r) 1 jf jo jt ji r) 0 = _; rw [jn_cc, if_neg (by omega), jn_cc, if_pos rfl]⟩
  · show yI (yo_join (yo_join σ 0 jf jo jt ji r) 1 jf jo jt ji r) 0
    exact jn_Iz (by omega) hI0
  · show yI (yo_join (yo_join σ 0 jf jo jt ji r) 1 jf jo jt ji r) 1
    exact jn_I hI1 w1 w2 w3 hr w4 w5 w6 w7
  · show yE (yo_join (yo_join σ 0 jf jo jt ji r) 1 jf jo jt ji r) 1 0
    obtain ⟨e1, e2, e3, e4, e5, e6⟩ := j3
    obtain ⟨o1, o2, o3, o4⟩ := jn_oth (σ := yo_join σ 0 jf jo jt ji r) (y := 1) (jf := jf) (jo := jo) (jt := jt) (ji := ji) (r := r) (z := 0) (by omega)
    obtain ⟨p1, p2, p3, p4⟩ := jn_oth (σ := σ) (y := 0) (jf := jf) (jo := jo) (jt := jt) (ji := ji) (r := r) (z := 1) (by omega)
    refine ⟨by rw [jn_cn, jn_cn, jn_cn, jn_cn]; exact e1, by rw [jn_cc, if_pos rfl, ec, jn_cc, if_neg (by omega), jn_cc, if_pos rfl], e3, ?_, ?_, fun c => ?_⟩
    · funext i j
      rw [o4, jn_icj, ec, p4, jn_icj, e4]
    · funext i j
      rw [o3, jn_ocj, ec, p3, jn_ocj, e5]
    · have a1 : s_ch (yo_join (yo_join σ 0 jf jo jt ji r) 1 jf jo jt ji r) 1 c = if c = s_nc σ 0 then (r, 0, 0) else s_ch σ 1 c := by
        rw [jn_ch, ec, p1]
        by_cases h : c = s_nc σ 0
        · rw [if_pos ⟨rfl, h⟩, if_pos h]
        · rw [if_neg (fun q => h q.2), if_neg h]
      have a2 : s_ch (yo_join σ 0 jf jo jt ji r) 0 c = if c = s_nc σ 0 then (r, 0, 0) else s_ch σ 0 c := by
        rw [jn_ch]
        by_cases h : c = s_nc σ 0
        · rw [if_pos ⟨rfl, h⟩, if_pos h]
        · rw [if_neg (fun q => h q.2), if_neg h]
      rw [o1, a1, a2]
      by_cases h : c = s_nc σ 0
      · rw [if_pos h, if_pos h]
      · rw [if_neg h, if_neg h]; exact e6 c
set_option maxHeartbeats 4000000 in
set_option maxRecDepth 100000 in
theorem c_S_channel (l : Launch) (D : va_G) (cc : ClassId × ClassId × ClassId) (ad : yl → Nat) (LL : List yl) (X : va_W) (b0 sz : Nat) (σ : ys) (hLL : ∀ q, q ∈ LL ↔ yL σ q) (hJ : yJ σ) (f o t i r : Int32) : Met l y_S_channel w_S_channel ({ frames := 3, cells := 4, slots := 24, locals := 61 }) (yPr D cc b0 [.ref (ad (0, 0, 0)), .int f, .int o, .int t, .int i, .int r] (yW cc ad LL X σ) sz) (va_Qi (fun rr (u : (yl → Nat) × List yl × ys) => rr = (match a_jok (s_T σ 0) (s_nc σ 0) f o t i r with | none => -1 | some _ => nI (s_nc σ 0)) ∧ (∀ q, q ∈ u.2.1 ↔ yL u.2.2 q) ∧ yJ u.2.2 ∧ s_T u.2.2 0 = (match a_jok (s_T σ 0) (s_nc σ 0) f o t i r with | none => s_T σ 0 | some p => joinT (s_T σ 0) (s_nc σ 0) p.1 p.2.1 p.2.2.1 p.2.2.2.1 p.2.2.2.2) ∧ s_D u.2.2 0 = s_D σ 0 ∧ s_nc u.2.2 0 = (match a_jok (s_T σ 0) (s_nc σ 0) f o t i r with | none => s_nc σ 0 | some _ => s_nc σ 0 + 1)) (yB D ycl (yW cc ad LL X σ) sz (fun u => yW cc u.1 u.2.1 X u.2.2)) (va_A (yW cc ad LL X σ) sz)) 4 24 (va_A (yW cc ad LL X σ) sz) := by
  have hL : ∀ q, yL σ q → q ∈ LL := fun q h => (hLL q).mpr h
  have hIo := J_o hJ
  have o0 : (0, 0, 0) ∈ LL := hL _ ⟨rfl, rfl⟩
  have n0 : (1, 0, 0) ∈ LL := hL _ ⟨by omega, rfl⟩
  have n1 : (1, 1, 0) ∈ LL := hL _ ⟨by omega, rfl⟩
  have hi := hJ.1
  have hi1 := hJ.2.1
  have hn10 := hi.1.1
  have hc16 := hi.2.1
  have hm10 := hi1.1.1
  have hd16 := hi1.2.1
  rcases jok_split (s_T σ 0) (s_nc σ 0) f o t i r (by show s_n σ 0 < _; omega) with hok | ⟨jf, jo, jt, ji, rr, rfl, rfl, rfl, rfl, rfl, hjf, hjt, hc, hr1, hr2, hjo, hji, eo, ei, hok⟩
  · refine y_ofW (cc := b_S_channel) (maxL := 7) (ret := (some .int)) (by decide) rfl (Nat.le_of_ble_eq_true rfl) ?_
    intro pv ev sv mv bv tv cv ls hI hsz hw hl
    obtain ⟨hx, hb, hr, hml, hts, hown, hlocks, hnm, hK, hAb, hb0, hA⟩ := id hI
    have ht : ∀ w ∈ lg_tbl, w.before _ sv = true := fun w h => hts w (List.mem_cons_of_mem _ h)
    have hl : lv_has ls 7 [(0, .ref (ad (0, 0, 0))), (1, .int f), (2, .int o), (3, .int t), (4, .int i), (5, .int r)] := hl
    refine lv_aload_n hx hb d_S_channel_0 rfl (lv_at hl 0 rfl) ?_
    refine yr_get (C := R_S) (T := F_S) (N := 3) (ci := k_S) hx hb ht j_S hown hK.1 hw (by assumption) (by rfl) rfl 0 (by decide) (ht _ mf_S_14) (fun _ h9 => h9) (by rfl) d_S_channel_1 ?_
    refine lv_iload_n hx hb d_S_channel_4 rfl (lv_at hl 1 rfl) ?_
    refine lv_iload_n hx hb d_S_channel_5 rfl (lv_at hl 2 rfl) ?_
    refine lv_iload_n hx hb d_S_channel_6 rfl (lv_at hl 3 rfl) ?_
    refine lv_iload hx hb d_S_channel_7 (lv_at hl 4 rfl) ?_
    refine lv_iload hx hb d_S_channel_9 (lv_at hl 5 rfl) ?_
    refine yc_i (va_runV (As := [.int _, .int _, .int _, .int _, .int _]) (rest := []) ⟨hx, hb, hml, hown, hts⟩ (c_Y_join_no l D cc ad LL X b0 _ σ hLL 0 (by omega) hi f o t i r hok) (cwV 5 hts (yg_call mc_Y_join ml_S_39 mm_Y_join ms_Y_join mi_Y) rfl rfl rfl (by decide +kernel) ⟨Nat.le_of_ble_eq_true rfl, Nat.le_of_ble_eq_true rfl⟩) (y_preV hI hw (y_recv hK.1 hw n0 (by rfl) rfl)) rfl rfl hl.1 rfl (lv_room (Nat.le_of_ble_eq_true rfl)) d_S_channel_11 ⟨Nat.le_of_ble_eq_true rfl, Nat.le_of_ble_eq_true rfl⟩) hw hA (fun r u H locs he hw => ?_)
    subst he
    refine lv_istore (lv' := [(6, .int _), (0, .ref _), (1, .int _), (2, .int _), (3, .int _), (4, .int _), (5, .int _)]) hx hb d_S_channel_14 hl (by decide) rfl (fun ls hl => ?_)
    refine lv_iload hx hb d_S_channel_16 (lv_at hl 0 rfl) ?_
    refine lv_iconst (v := (-1)) hx hb d_S_channel_18 (by decide) ?_
    refine lv_icmp_eq (tgt := 42) hx hb d_S_channel_19 (by decide) (fun c_19 => ?_) (fun c_19 => by exact absurd rfl c_19)
    refine lv_iload hx hb d_S_channel_42 (lv_at hl 0 rfl) ?_
    refine W.widen (k := 4) (n := 24) (by omega) (by omega) ?_
    exact ye_i hI (ad, LL, σ) ⟨by rw [hok], hLL, hJ, by rw [hok], rfl, by rw [hok]⟩ hw d_S_channel_44
  · refine y_ofW (cc := b_S_channel) (maxL := 7) (ret := (some .int)) (by decide) rfl (Nat.le_of_ble_eq_true rfl) ?_
    intro pv ev sv mv bv tv cv ls hI hsz hw hl
    generalize hargs : ([.ref (ad (0, 0, 0)), .int (nI jf), .int (nI jo), .int (nI jt), .int (nI ji), .int (nI rr)] : List Value).toArray = args at hI ⊢
    obtain ⟨hx, hb, hr, hml, hts, hown, hlocks, hnm, hK, hAb, hb0, hA⟩ := id hI
    have ht : ∀ w ∈ lg_tbl, w.before _ sv = true := fun w h => hts w (List.mem_cons_of_mem _ h)
    have hl : lv_has ls 7 [(0, .ref (ad (0, 0, 0))), (1, .int (nI jf)), (2, .int (nI jo)), (3, .int (nI jt)), (4, .int (nI ji)), (5, .int (nI rr))] := hl
    refine lv_aload_n hx hb d_S_channel_0 rfl (lv_at hl 0 rfl) ?_
    refine yr_get (C := R_S) (T := F_S) (N := 3) (ci := k_S) hx hb ht j_S hown hK.1 hw (by assumption) (by rfl) rfl 0 (by decide) (ht _ mf_S_14) (fun _ h9 => h9) (by rfl) d_S_channel_1 ?_
    refine lv_iload_n hx hb d_S_channel_4 rfl (lv_at hl 1 rfl) ?_
    refine lv_iload_n hx hb d_S_channel_5 rfl (lv_at hl 2 rfl) ?_
    refine lv_iload_n hx hb d_S_channel_6 rfl (lv_at hl 3 rfl) ?_
    refine lv_iload hx hb d_S_channel_7 (lv_at hl 4 rfl) ?_
    refine lv_iload hx hb d_S_channel_9 (lv_at hl 5 rfl) ?_
    refine yc_i (va_runV (As := [.int _, .int _, .int _, .int _, .int _]) (rest := []) ⟨hx, hb, hml, hown, hts⟩ (c_Y_join l D cc ad LL X b0 _ σ hLL 0 (by omega) hi hIo jf jo jt ji rr hjf hjt hc ⟨hr1, hr2⟩ hjo hji eo ei) (cwV 5 hts (yg_call mc_Y_join ml_S_39 mm_Y_join ms_Y_join mi_Y) rfl rfl rfl (by decide +kernel) ⟨Nat.le_of_ble_eq_true rfl, Nat.le_of_ble_eq_true rfl⟩) (y_preV hI hw (y_recv hK.1 hw n0 (by rfl) rfl)) rfl rfl hl.1 rfl (lv_room (Nat.le_of_ble_eq_true rfl)) d_S_channel_11 ⟨Nat.le_of_ble_eq_true rfl, Nat.le_of_ble_eq_true rfl⟩) hw hA (fun r ad1 H locs he hw => ?_)
    obtain ⟨rfl, hag1⟩ := he
    rw [← hag1 _ o0] at hl
    have hLL1 := jn_L hLL (y := 0) (by omega) jf jo jt ji rr
    have o1 : (0, 0, 0) ∈ ((LL ++ [(9, 0, s_nc σ 0)]) ++ [(10, 0, s_nc σ 0)]) := (hLL1 _).mpr ⟨rfl, rfl⟩
    have nn1 : (1, 1, 0) ∈ ((LL ++ [(9, 0, s_nc σ 0)]) ++ [(10, 0, s_nc σ 0)]) := (hLL1 _).mpr ⟨by omega, rfl⟩
    have hIo1 := jn_Io hJ hjf hjt hc ⟨hr1, hr2⟩ hjo hji eo ei
    obtain ⟨w1, w2, w3, w4, w5, w6, w7⟩ := jn_1 hJ (rr := rr) hjf hjt hc hjo hji eo ei
    refine lv_istore (lv' := [(6, .int _), (0, .ref _), (1, .int _), (2, .int _), (3, .int _), (4, .int _), (5, .int _)]) hx hb d_S_channel_14 hl (by decide) rfl (fun ls hl => ?_)
    refine lv_iload hx hb d_S_channel_16 (lv_at hl 0 rfl) ?_
    refine lv_iconst (v := (-1)) hx hb d_S_channel_18 (by decide) ?_
    refine lv_icmp_eq (tgt := 42) hx hb d_S_channel_19 (by decide) (fun c_19 => by exact absurd c_19 (nI_m1 (by omega))) (fun c_19 => ?_)
    refine lv_aload_n hx hb d_S_channel_22 rfl (lv_at hl 1 rfl) ?_
    refine yr_get (C := R_S) (T := F_S) (N := 3) (ci := k_S) hx hb ht j_S hown hK.1 hw o1 (by rfl) rfl 1 (by decide) (ht _ mf_S_18) (fun _ h9 => h9) (by rfl) d_S_channel_23 ?_
    refine lv_iload_n hx hb d_S_channel_26 rfl (lv_at hl 2 rfl) ?_
    refine lv_iload_n hx hb d_S_channel_27 rfl (lv_at hl 3 rfl) ?_
    refine lv_iload_n hx hb d_S_channel_28 rfl (lv_at hl 4 rfl) ?_
    refine lv_iload hx hb d_S_channel_29 (lv_at hl 5 rfl) ?_
    refine lv_iload hx hb d_S_channel_31 (lv_at hl 6 rfl) ?_
    refine yc_i (va_runV (As := [.int _, .int _, .int _, .int _, .int _]) (rest := []) ⟨hx, hb, hml, hown, hts⟩ (c_Y_join l D cc ad1 ((LL ++ [(9, 0, s_nc σ 0)]) ++ [(10, 0, s_nc σ 0)]) X b0 _ (yo_join σ 0 jf jo jt ji rr) hLL1 1 (by omega) (jn_Iz (by omega) hJ.2.1) hIo1 jf jo jt ji rr w1 w2 w3 ⟨hr1, hr2⟩ w4 w5 w6 w7) (cwV 5 hts (yg_call mc_Y_join ml_S_39 mm_Y_join ms_Y_join mi_Y) rfl rfl rfl (by decide +kernel) ⟨Nat.le_of_ble_eq_true rfl, Nat.le_of_ble_eq_true rfl⟩) (y_preV hI hw (y_recv hK.1 hw nn1 (by rfl) rfl)) rfl rfl hl.1 rfl (lv_room (Nat.le_of_ble_eq_true rfl)) d_S_channel_33 ⟨Nat.le_of_ble_eq_true rfl, Nat.le_of_ble_eq_true rfl⟩) hw hA (fun r ad2 H locs he hw => ?_)
    obtain ⟨rfl, hag2⟩ := he
    rw [← hag2 _ o1] at hl
    have hLL2 := jn_L hLL1 (y := 1) (by omega) jf jo jt ji rr
    have o2 : (0, 0, 0) ∈ ((((LL ++ [(9, 0, s_nc σ 0)]) ++ [(10, 0, s_nc σ 0)]) ++ [(9, 1, s_nc (yo_join σ 0 jf jo jt ji rr) 1)]) ++ [(10, 1, s_nc (yo_join σ 0 jf jo jt ji rr) 1)]) := (hLL2 _).mpr ⟨rfl, rfl⟩
    refine lv_pop hx hb d_S_channel_36 rfl ?_
    refine lv_aload_n hx hb d_S_channel_37 rfl (lv_at hl 1 rfl) ?_
    refine lv_iconst (v := 0) hx hb d_S_channel_38 (by decide) ?_
    refine yr_put (ty := .boolean) (C := R_S) (T := F_S) (N := 3) (ci := k_S) hx hb ht j_S t_S t_S_ok n_S hown hK.1 hw o2 (by rfl) rfl 2 (by decide) (ht _ mf_S_21) (fun _ h9 => h9) rfl (by decide +kernel) (by decide) (by decide) (Nat.le_of_ble_eq_true rfl) d_S_channel_39 (fun H locs hw => ?_)
    have hw := yw_fl 0 hw rfl
    refine lv_iload hx hb d_S_channel_42 (lv_at hl 0 rfl) ?_
    exact ye_i hI (ad2, ((((LL ++ [(9, 0, s_nc σ 0)]) ++ [(10, 0, s_nc σ 0)]) ++ [(9, 1, s_nc (yo_join σ 0 jf jo jt ji rr) 1)]) ++ [(10, 1, s_nc (yo_join σ 0 jf jo jt ji rr) 1)]), sx_fl (yo_join (yo_join σ 0 jf jo jt ji rr) 1 jf jo jt ji rr) 0 0 0) ⟨by rw [hok], L_fl hLL2, (jn_J hJ hjf hjt hc ⟨hr1, hr2⟩ hjo hji eo ei).1, by rw [hok]; exact (jn_J hJ hjf hjt hc ⟨hr1, hr2⟩ hjo hji eo ei).2.1, (jn_J hJ hjf hjt hc ⟨hr1, hr2⟩ hjo hji eo ei).2.2.1, by rw [hok]; exact (jn_J hJ hjf hjt hc ⟨hr1, hr2⟩ hjo hji eo ei).2.2.2⟩ hw d_S_channel_44
end
