/-! YARD: stepDrawn, stepBySeed -/
def yDrw (σ : ys) (y m : Nat) (r : Int32) (σ' : ys) : Prop := yX σ y σ' ∧ s_T σ' y = s_T σ y ∧ yI σ' y ∧ (((yp_rdy (s_T σ y) (s_D σ y) (s_n σ y)) = [] ∧ r = 0 ∧ s_D σ' y = s_D σ y) ∨ ((yp_rdy (s_T σ y) (s_D σ y) (s_n σ y)) ≠ [] ∧ r = 1 ∧ s_D σ' y = yp_act (s_T σ y) (s_D σ y) ((yp_rdy (s_T σ y) (s_D σ y) (s_n σ y)).getD (m % (yp_rdy (s_T σ y) (s_D σ y) (s_n σ y)).length) 0)))
theorem wb_tb (n : Nat) : (lN n).toBitVec = BitVec.ofNat 64 n := rfl
theorem wb_inj {a b : Int64} (h : a.toBitVec = b.toBitVec) : a = b := Int64.toBitVec_inj.mp h
theorem wb_tn {n : Nat} (h : n < 2 ^ 64) : (lN n).toBitVec.toNat = n := by rw [wb_tb, BitVec.toNat_ofNat, Nat.mod_eq_of_lt h]
theorem wb_of (x : Int64) : ∃ n, n < 2 ^ 64 ∧ x = lN n := ⟨x.toBitVec.toNat, x.toBitVec.isLt, wb_inj (by rw [wb_tb]; simp)⟩
theorem wb_c : ∀ k, k < 64 → ((nI k).toInt64 &&& 63) = lN k := by decide +kernel
theorem wb_cu : ∀ k, k < 64 → ((nI k).toInt64.toUInt64 &&& Int64.toUInt64 63) = UInt64.ofNat k := by decide +kernel
theorem wb_sm : ∀ k, k < 64 → (BitVec.ofNat 64 k).smod 64 = BitVec.ofNat 64 k := by decide +kernel
theorem wb_pw {a b : Nat} (h : a ≤ b) : 2 ^ b = 2 ^ a * 2 ^ (b - a) := by rw [← Nat.pow_add]; congr 1; omega
theorem wb_lt2 {a b : Nat} (h : a < b) : 2 ^ a < 2 ^ b := Nat.pow_lt_pow_right (by decide) h
theorem wb_mod (n : Nat) : lN n = lN (n % 2 ^ 64) := wb_inj (by rw [wb_tb, wb_tb]; apply BitVec.eq_of_toNat_eq; rw [BitVec.toNat_ofNat, BitVec.toNat_ofNat, Nat.mod_mod])
theorem wb_shr {n k : Nat} (hn : n < 2 ^ 64) (hk : k < 64) : ((lN n).toUInt64 >>> ((nI k).toInt64.toUInt64 &&& Int64.toUInt64 63)).toInt64 = lN (n / 2 ^ k) := by
  rw [wb_cu k hk]
  apply wb_inj
  apply BitVec.eq_of_toNat_eq
  show ((lN n).toUInt64 >>> UInt64.ofNat k).toNat = (BitVec.ofNat 64 _).toNat
  have h1 : (UInt64.ofNat k).toNat = k := by
    show (BitVec.ofNat 64 k).toNat = k
    rw [BitVec.toNat_ofNat, Nat.mod_eq_of_lt (by omega)]
  have h2 : (lN n).toUInt64.toNat = n := wb_tn hn
  rw [UInt64.toNat_shiftRight, h1, h2, Nat.mod_eq_of_lt hk, Nat.shiftRight_eq_div_pow, BitVec.toNat_ofNat, Nat.mod_eq_of_lt (Nat.lt_of_le_of_lt (Nat.div_le_self _ _) hn)]
theorem wb_shl (n : Nat) {k : Nat} (hk : k < 64) : lN n <<< ((nI k).toInt64 &&& 63) = lN (n * 2 ^ k) := by
  rw [wb_c k hk]
  apply wb_inj
  rw [Int64.toBitVec_shiftLeft, wb_tb, wb_tb, wb_tb, wb_sm k hk]
  apply BitVec.eq_of_toNat_eq
  rw [BitVec.shiftLeft_eq', BitVec.toNat_shiftLeft, BitVec.toNat_ofNat, BitVec.toNat_ofNat, BitVec.toNat_ofNat, Nat.mod_eq_of_lt (show k < 2 ^ 64 by omega), Nat.shiftLeft_eq, Nat.mul_mod, Nat.mod_mod, ← Nat.mul_mod]
theorem wb_and {a b : Nat} (ha : a < 2 ^ 64) (hb : b < 2 ^ 64) : lN a &&& lN b = lN (a &&& b) := by
  apply wb_inj
  rw [Int64.toBitVec_and, wb_tb, wb_tb, wb_tb]
  apply BitVec.eq_of_toNat_eq
  rw [BitVec.toNat_and, BitVec.toNat_ofNat, BitVec.toNat_ofNat, BitVec.toNat_ofNat, Nat.mod_eq_of_lt ha, Nat.mod_eq_of_lt hb, Nat.mod_eq_of_lt (Nat.and_lt_two_pow _ hb)]
theorem wb_or {a b : Nat} (ha : a < 2 ^ 64) (hb : b < 2 ^ 64) : lN a ||| lN b = lN (a ||| b) := by
  apply wb_inj
  rw [Int64.toBitVec_or, wb_tb, wb_tb, wb_tb]
  apply BitVec.eq_of_toNat_eq
  rw [BitVec.toNat_or, BitVec.toNat_ofNat, BitVec.toNat_ofNat, BitVec.toNat_ofNat, Nat.mod_eq_of_lt ha, Nat.mod_eq_of_lt hb, Nat.mod_eq_of_lt (Nat.or_lt_two_pow ha hb)]
theorem wb_mask {n k : Nat} (hn : n < 2 ^ 64) (hk : k < 64) : lN n &&& lN (2 ^ k - 1) = lN (n % 2 ^ k) := by
  rw [wb_and hn (by have := wb_lt2 hk; omega), Nat.and_two_pow_sub_one_eq_mod]
theorem yush33 (x : Int64) : (x.toUInt64 >>> ((nI 33).toInt64.toUInt64 &&& Int64.toUInt64 63)).toInt64 = lN (x.toBitVec.toNat / 8589934592) := by
  obtain ⟨n, hn, rfl⟩ := wb_of x
  rw [wb_shr hn (by decide), wb_tn hn]
theorem yush_lt (x : Int64) : x.toBitVec.toNat / 8589934592 < 2 ^ 31 := by
  have := x.toBitVec.isLt
  omega
set_option maxHeartbeats 4000000 in
set_option maxRecDepth 100000 in
/-- stepDrawn: the one acts that is drawn -/
theorem c_Y_stepDrawn (l : Launch) (D : va_G) (cc : ClassId × ClassId × ClassId) (ad : yl → Nat) (LL : List yl) (X : va_W) (b0 sz : Nat) (σ : ys) (hL : ∀ q, yL σ q → q ∈ LL) (y : Nat) (hy : y < 2) (hi : yI σ y) (m : Nat) (hm : m < 2 ^ 31) : Met l y_Y_stepDrawn w_Y_stepDrawn ({ frames := 4, cells := 0, slots := 0, locals := 86 }) (yPr D cc b0 [.ref (ad (1, y, 0)), .long (lN m)] (yW cc ad LL X σ) sz) (va_Qi (fun r σ' => yDrw σ y m r σ') (yB D ycl (yW cc ad LL X σ) sz (fun σ' => yW cc ad LL X σ')) (va_A (yW cc ad LL X σ) sz)) 0 0 (va_A (yW cc ad LL X σ) sz) := by
  have g1 : (1, y, 0) ∈ LL := hL _ ⟨hy, rfl⟩
  have g2 : (2, y, 0) ∈ LL := hL _ ⟨hy, rfl⟩
  have g3 : (3, y, 0) ∈ LL := hL _ ⟨hy, rfl⟩
  have g4 : (4, y, 0) ∈ LL := hL _ ⟨hy, rfl⟩
  have hn10 := hi.1.1
  have hc16 := hi.2.1
  refine y_ofW (cc := b_Y_stepDrawn) (maxL := 6) (ret := (some .boolean)) (by decide) rfl (Nat.le_of_ble_eq_true rfl) ?_
  intro pv ev sv mv bv tv cv ls hI hsz hw hl
  obtain ⟨hx, hb, hr, hml, hts, hown, hlocks, hnm, hK, hAb, hb0, hA⟩ := id hI
  have ht : ∀ w ∈ lg_tbl, w.before _ sv = true := fun w h => hts w (List.mem_cons_of_mem _ h)
  have hl : lv_has ls 6 [(0, .ref (ad (1, y, 0))), (1, .long (lN m))] := hl
  have hle := yp_rdy_le (s_T σ y) (s_D σ y) (s_n σ y)
  by_cases hz : (yp_rdy (s_T σ y) (s_D σ y) (s_n σ y)) = []
  · refine lv_aload_n hx hb d_Y_stepDrawn_0 rfl (lv_at hl 0 rfl) ?_
    refine yc_i (va_runV (As := []) (rest := []) ⟨hx, hb, hml, hown, hts⟩ (c_Y_listReady l D cc ad LL X b0 _ σ hL y hy hi) (cwV 0 hts (yg_call mc_Y_listReady ml_Y_77 mm_Y_listReady ms_Y_listReady mi_Y) rfl rfl rfl (by decide +kernel) ⟨Nat.le_of_ble_eq_true rfl, Nat.le_of_ble_eq_true rfl⟩) (y_preV hI hw (y_recv hK.1 hw g1 (by rfl) rfl)) rfl rfl hl.1 rfl (lv_room (Nat.le_of_ble_eq_true rfl)) d_Y_stepDrawn_1 ⟨Nat.le_of_ble_eq_true rfl, Nat.le_of_ble_eq_true rfl⟩) hw hA (fun r rr H locs he hw => ?_)
    obtain ⟨rfl, hrd⟩ := he
    refine lv_istore_n (lv' := [(3, .int _), (0, .ref _), (1, .long _)]) hx hb d_Y_stepDrawn_4 rfl hl (by decide) rfl (fun ls hl => ?_)
    refine lv_iload_n hx hb d_Y_stepDrawn_5 rfl (lv_at hl 0 rfl) ?_
    refine lv_if_gt (tgt := 11) hx hb d_Y_stepDrawn_6 (by decide) (fun c_6 => by rw [hz] at c_6; exact absurd c_6 (by decide)) (fun c_6 => ?_)
    refine lv_iconst (v := 0) hx hb d_Y_stepDrawn_9 (by decide) ?_
    exact ye_z hI (by decide) (sx_rd σ y 0 rr) ⟨yX_rd, rfl, hi, Or.inl ⟨hz, rfl, rfl⟩⟩ hw d_Y_stepDrawn_10
  · have hpos : 0 < (yp_rdy (s_T σ y) (s_D σ y) (s_n σ y)).length := List.length_pos_iff.mpr hz
    have hix : (m % (yp_rdy (s_T σ y) (s_D σ y) (s_n σ y)).length) < (yp_rdy (s_T σ y) (s_D σ y) (s_n σ y)).length := Nat.mod_lt _ hpos
    obtain ⟨hai, hca⟩ := yp_rdy_in (T := s_T σ y) (d := s_D σ y) (n := s_n σ y) (i := ((yp_rdy (s_T σ y) (s_D σ y) (s_n σ y)).getD (m % (yp_rdy (s_T σ y) (s_D σ y) (s_n σ y)).length) 0)) (by rw [List.getD_eq_getElem?_getD, List.getElem?_eq_getElem hix]; exact List.getElem_mem _)
    have h5 : (5, y, ((yp_rdy (s_T σ y) (s_D σ y) (s_n σ y)).getD (m % (yp_rdy (s_T σ y) (s_D σ y) (s_n σ y)).length) 0)) ∈ LL := hL _ ⟨hy, hai⟩
    refine lv_aload_n hx hb d_Y_stepDrawn_0 rfl (lv_at hl 0 rfl) ?_
    refine yc_i (va_runV (As := []) (rest := []) ⟨hx, hb, hml, hown, hts⟩ (c_Y_listReady l D cc ad LL X b0 _ σ hL y hy hi) (cwV 0 hts (yg_call mc_Y_listReady ml_Y_77 mm_Y_listReady ms_Y_listReady mi_Y) rfl rfl rfl (by decide +kernel) ⟨Nat.le_of_ble_eq_true rfl, Nat.le_of_ble_eq_true rfl⟩) (y_preV hI hw (y_recv hK.1 hw g1 (by rfl) rfl)) rfl rfl hl.1 rfl (lv_room (Nat.le_of_ble_eq_true rfl)) d_Y_stepDrawn_1 ⟨Nat.le_of_ble_eq_true rfl, Nat.le_of_ble_eq_true rfl⟩) hw hA (fun r rr H locs he hw => ?_)
    obtain ⟨rfl, hrd⟩ := he
    refine lv_istore_n (lv' := [(3, .int _), (0, .ref _), (1, .long _)]) hx hb d_Y_stepDrawn_4 rfl hl (by decide) rfl (fun ls hl => ?_)
    refine lv_iload_n hx hb d_Y_stepDrawn_5 rfl (lv_at hl 0 rfl) ?_
    refine lv_if_gt (tgt := 11) hx hb d_Y_stepDrawn_6 (by decide) (fun c_6 => ?_) (fun c_6 => by exact absurd (nI_lt hpos (by omega)) c_6)
    refine lv_lload_n hx hb d_Y_stepDrawn_11 rfl (lv_at hl 2 rfl) ?_
    refine lv_iload_n hx hb d_Y_stepDrawn_12 rfl (lv_at hl 0 rfl) ?_
    refine lv_i2l hx hb d_Y_stepDrawn_13 rfl ?_
    rw [nI_l (by omega)]
    refine lv_lrem hx hb d_Y_stepDrawn_14 (fun h => absurd ((pk_lEQ (a := (yp_rdy (s_T σ y) (s_D σ y) (s_n σ y)).length) (b := 0) (by omega) (by omega)).mp h) (by omega)) ?_
    rw [pk_lRem (by omega) hpos (by omega)]
    refine lv_l2i hx hb d_Y_stepDrawn_15 rfl ?_
    rw [lN_i]
    refine lv_istore (lv' := [(4, .int _), (3, .int _), (0, .ref _), (1, .long _)]) hx hb d_Y_stepDrawn_16 hl (by decide) rfl (fun ls hl => ?_)
    refine lv_iload hx hb d_Y_stepDrawn_18 (lv_at hl 0 rfl) ?_
    refine lv_if_lt (tgt := 30) hx hb d_Y_stepDrawn_20 (by decide) (fun c_20 => by exact absurd c_20 (nI_pos (by omega))) (fun c_20 => ?_)
    refine lv_iload hx hb d_Y_stepDrawn_23 (lv_at hl 0 rfl) ?_
    refine lv_bipush (v := (nI 10)) hx hb d_Y_stepDrawn_25 (by decide) ?_
    refine lv_icmp_lt (tgt := 32) hx hb d_Y_stepDrawn_27 (by decide) (fun c_27 => ?_) (fun c_27 => by exact absurd (nI_lt (by omega) (by omega)) c_27)
    refine lv_aload_n hx hb d_Y_stepDrawn_32 rfl (lv_at hl 2 rfl) ?_
    refine lv_aload_n hx hb d_Y_stepDrawn_33 rfl (lv_at hl 2 rfl) ?_
    refine yr_get (C := R_Y) (T := F_Y) (N := 5) (ci := k_Y) hx hb ht j_Y hown hK.1 hw (by assumption) (by rfl) rfl 2 (by decide) (ht _ mf_Y_23) (fun _ h9 => h9) (by rfl) d_Y_stepDrawn_34 ?_
    refine lv_iload hx hb d_Y_stepDrawn_37 (lv_at hl 0 rfl) ?_
    refine yr_iald (v := nI ((yp_rdy (s_T σ y) (s_D σ y) (s_n σ y)).getD (m % (yp_rdy (s_T σ y) (s_D σ y) (s_n σ y)).length) 0)) hx hb hK.1 hw g4 (by rfl) 0 rfl (vp_in_nI (by omega) (by omega)) (by rw [nI_clamp (by omega), yrd_get]; exact hrd _ hix) d_Y_stepDrawn_39 ?_
    refine yc_q (va_runV (As := [.int _]) (rest := []) ⟨hx, hb, hml, hown, hts⟩ (c_Y_findActor l D cc ad LL X b0 _ (sx_rd σ y 0 rr) hL y hy hi ((yp_rdy (s_T σ y) (s_D σ y) (s_n σ y)).getD (m % (yp_rdy (s_T σ y) (s_D σ y) (s_n σ y)).length) 0) hai) (cwV 1 hts (yg_call mc_Y_findActor ml_Y_37 mm_Y_findActor ms_Y_findActor mi_Y) rfl rfl rfl (by decide +kernel) ⟨Nat.le_of_ble_eq_true rfl, Nat.le_of_ble_eq_true rfl⟩) (y_preV hI hw (y_recv hK.1 hw g1 (by rfl) rfl)) rfl rfl hl.1 rfl (lv_room (Nat.le_of_ble_eq_true rfl)) d_Y_stepDrawn_40 ⟨Nat.le_of_ble_eq_true rfl, Nat.le_of_ble_eq_true rfl⟩) hw hA (fun r u H locs he hw => ?_)
    subst he
    rw [yrf_s]
    refine lv_astore (lv' := [(5, .ref _), (4, .int _), (3, .int _), (0, .ref _), (1, .long _)]) hx hb d_Y_stepDrawn_43 hl (by decide) rfl (fun ls hl => ?_)
    refine lv_aload hx hb d_Y_stepDrawn_45 (lv_at hl 0 rfl) ?_
    refine lv_ifnonnull (tgt := 52) hx hb d_Y_stepDrawn_47 (by decide) ?_
    refine lv_aload hx hb d_Y_stepDrawn_52 (lv_at hl 0 rfl) ?_
    refine yc_v (va_runV (As := []) (rest := []) ⟨hx, hb, hml, hown, hts⟩ (c_A_step l D cc ad LL X b0 _ (sx_rd σ y 0 rr) hL y ((yp_rdy (s_T σ y) (s_D σ y) (s_n σ y)).getD (m % (yp_rdy (s_T σ y) (s_D σ y) (s_n σ y)).length) 0) hy hai hi hca) (cwV 0 hts (yg_call mc_A_step ml_Y_81 mm_A_step ms_A_step mi_A) rfl rfl rfl (by decide +kernel) ⟨Nat.le_of_ble_eq_true rfl, Nat.le_of_ble_eq_true rfl⟩) (y_preV hI hw (y_recv hK.1 hw h5 (by rfl) rfl)) rfl rfl hl.1 rfl (lv_room (Nat.le_of_ble_eq_true rfl)) d_Y_stepDrawn_54 ⟨Nat.le_of_ble_eq_true rfl, Nat.le_of_ble_eq_true rfl⟩) hw hA (fun u H locs he hw => ?_)
    refine lv_iconst (v := 1) hx hb d_Y_stepDrawn_57 (by decide) ?_
    exact ye_z hI (by decide) _ ⟨yX_rd.tr he.1, he.2.1, he.2.2.2, Or.inr ⟨hz, rfl, he.2.2.1⟩⟩ hw d_Y_stepDrawn_58
set_option maxHeartbeats 4000000 in
set_option maxRecDepth 100000 in
/-- stepBySeed: the run -/
theorem c_Y_stepBySeed (l : Launch) (D : va_G) (cc : ClassId × ClassId × ClassId) (ad : yl → Nat) (LL : List yl) (X : va_W) (b0 sz : Nat) (σ : ys) (hL : ∀ q, yL σ q → q ∈ LL) (y : Nat) (hy : y < 2) (hi : yI σ y) (x0 : Int64) (k : Nat) (hk : k ≤ 2000) : Met l y_Y_stepBySeed w_Y_stepBySeed ({ frames := 5, cells := 0, slots := 0, locals := 111 }) (yPr D cc b0 [.ref (ad (1, y, 0)), .long x0, .int (nI k)] (yW cc ad LL X σ) sz) (va_Qi (fun r σ' => yX σ y σ' ∧ s_T σ' y = s_T σ y ∧ yI σ' y ∧ r = nI (yp_run (s_T σ y) k x0 (s_D σ y)).2 ∧ s_D σ' y = (yp_run (s_T σ y) k x0 (s_D σ y)).1) (yB D ycl (yW cc ad LL X σ) sz (fun σ' => yW cc ad LL X σ')) (va_A (yW cc ad LL X σ) sz)) 0 0 (va_A (yW cc ad LL X σ) sz) := by
  have g1 : (1, y, 0) ∈ LL := hL _ ⟨hy, rfl⟩
  have g2 : (2, y, 0) ∈ LL := hL _ ⟨hy, rfl⟩
  have g3 : (3, y, 0) ∈ LL := hL _ ⟨hy, rfl⟩
  have g4 : (4, y, 0) ∈ LL := hL _ ⟨hy, rfl⟩
  have hn10 := hi.1.1
  have hc16 := hi.2.1
  refine y_ofW (cc := b_Y_stepBySeed) (maxL := 8) (ret := (some .int)) (by decide) rfl (Nat.le_of_ble_eq_true rfl) ?_
  intro pv ev sv mv bv tv cv ls hI hsz hw hl
  obtain ⟨hx, hb, hr, hml, hts, hown, hlocks, hnm, hK, hAb, hb0, hA⟩ := id hI
  have ht : ∀ w ∈ lg_tbl, w.before _ sv = true := fun w h => hts w (List.mem_cons_of_mem _ h)
  have hl : lv_has ls 8 [(0, .ref (ad (1, y, 0))), (1, .long x0), (3, .int (nI k))] := hl
  have loop : ∀ (f i : Nat) (x : Int64) (σ1 : ys) (H : Heap) (locs : List Loc) (ls : Array Slot), i + f = k → yX σ y σ1 → s_T σ1 y = s_T σ y → yI σ1 y → yp_run (s_T σ y) k x0 (s_D σ y) = ((yp_run (s_T σ y) f x (s_D σ1 y)).1, i + (yp_run (s_T σ y) f x (s_D σ1 y)).2) → yH D ycl (va_A (yW cc ad LL X σ) sz) sv.heap H locs (yW cc ad LL X σ1) → lv_has ls 8 [(7, .int (nI i)), (6, .int (nI i)), (4, .long x), (3, .int (nI k)), (0, .ref (ad (1, y, 0)))] → W pv l ev (headSpec w_Y_stepBySeed ({ frames := 5, cells := 0, slots := 0, locals := 111 })).room sv mv [.ref (ad (1, y, 0)), .long x0, .int (nI k)].toArray bv tv cv H locs 0 0 (MQ bv (va_Qi (fun r σ' => yX σ y σ' ∧ s_T σ' y = s_T σ y ∧ yI σ' y ∧ r = nI (yp_run (s_T σ y) k x0 (s_D σ y)).2 ∧ s_D σ' y = (yp_run (s_T σ y) k x0 (s_D σ y)).1) (yB D ycl (yW cc ad LL X σ) sz (fun σ' => yW cc ad LL X σ')) (va_A (yW cc ad LL X σ) sz)) [.ref (ad (1, y, 0)), .long x0, .int (nI k)].toArray sv 0 0 (va_A (yW cc ad LL X σ) sz)) (F0 mv 9 ls []) := by
    intro f
    induction f with
    | zero =>
      intro i x σ1 H locs ls hik hX hT hI1 hrun hw hl
      refine lv_iload hx hb d_Y_stepBySeed_9 (lv_at hl 0 rfl) ?_
      refine lv_iload_n hx hb d_Y_stepBySeed_11 rfl (lv_at hl 3 rfl) ?_
      refine lv_icmp_ge (tgt := 51) hx hb d_Y_stepBySeed_12 (by decide) (fun c_12 => ?_) (fun c_12 => by exact absurd (nI_le (by omega) (by omega)) c_12)
      refine lv_iload hx hb d_Y_stepBySeed_51 (lv_at hl 1 rfl) ?_
      exact ye_i hI σ1 ⟨hX, hT, hI1, by rw [hrun]; rfl, by rw [hrun]; rfl⟩ hw d_Y_stepBySeed_53
    | succ f ih =>
      intro i x σ1 H locs ls hik hX hT hI1 hrun hw hl
      have hL1 := hX.L hL
      refine lv_iload hx hb d_Y_stepBySeed_9 (lv_at hl 0 rfl) ?_
      refine lv_iload_n hx hb d_Y_stepBySeed_11 rfl (lv_at hl 3 rfl) ?_
      refine lv_icmp_ge (tgt := 51) hx hb d_Y_stepBySeed_12 (by decide) (fun c_12 => by exact absurd c_12 (nI_ge (by omega) (by omega))) (fun c_12 => ?_)
      refine lv_lload hx hb d_Y_stepBySeed_15 (lv_at hl 2 rfl) ?_
      refine lv_ldc2 hx hb hown (ht _ mq_Y_69) d_Y_stepBySeed_17 ?_
      refine lv_lmul hx hb d_Y_stepBySeed_20 ?_
      refine lv_ldc2 hx hb hown (ht _ mq_Y_71) d_Y_stepBySeed_21 ?_
      refine lv_ladd hx hb d_Y_stepBySeed_24 ?_
      rw [show x * 6364136223846793005 + 1442695040888963407 = yp_nx x from rfl]
      refine lv_lstore (lv' := [(4, .long _), (7, .int _), (6, .int _), (3, .int _), (0, .ref _)]) hx hb d_Y_stepBySeed_25 hl (by decide) rfl (fun ls hl => ?_)
      refine lv_aload_n hx hb d_Y_stepBySeed_27 rfl (lv_at hl 4 rfl) ?_
      refine lv_lload hx hb d_Y_stepBySeed_28 (lv_at hl 0 rfl) ?_
      refine lv_bipush (v := (nI 33)) hx hb d_Y_stepBySeed_30 (by decide) ?_
      refine lv_lushr hx hb d_Y_stepBySeed_32 rfl ?_
      rw [yush33]
      refine yc_i (va_runV (As := [.long _]) (rest := []) ⟨hx, hb, hml, hown, hts⟩ (c_Y_stepDrawn l D cc ad LL X b0 _ σ1 hL1 y hy hI1 _ (yush_lt _)) (cwV 1 hts (yg_call mc_Y_stepDrawn ml_Y_73 mm_Y_stepDrawn ms_Y_stepDrawn mi_Y) rfl rfl rfl (by decide +kernel) ⟨Nat.le_of_ble_eq_true rfl, Nat.le_of_ble_eq_true rfl⟩) (y_preV hI hw (y_recv hK.1 hw g1 (by rfl) rfl)) rfl rfl hl.1 rfl (lv_room (Nat.le_of_ble_eq_true rfl)) d_Y_stepBySeed_33 ⟨Nat.le_of_ble_eq_true rfl, Nat.le_of_ble_eq_true rfl⟩) hw hA (fun r u H locs he hw => ?_)
      obtain ⟨hX1, hT1, hI2, hd⟩ := he
      rw [hT] at hd
      rcases hd with ⟨hz, rfl, hD⟩ | ⟨hz, rfl, hD⟩
      · refine lv_if_ne (tgt := 42) hx hb d_Y_stepBySeed_36 (by decide) (fun c_36 => by exact absurd rfl c_36) (fun c_36 => ?_)
        refine lv_goto (tgt := 51) hx hb d_Y_stepBySeed_39 (by decide) ?_
        refine lv_iload hx hb d_Y_stepBySeed_51 (lv_at hl 2 rfl) ?_
        have e0 : yp_run (s_T σ y) (f + 1) x (s_D σ1 y) = (s_D σ1 y, 0) := by unfold yp_run; rw [if_pos (show yp_rdy (s_T σ y) (s_D σ1 y) (yp_n (s_T σ y)) = [] by have h := hz; rw [hX.sn y] at h; exact h)]
        rw [e0] at hrun
        exact ye_i hI u ⟨hX.tr hX1, hT1.trans hT, hI2, by rw [hrun]; rfl, by rw [hrun, hD]⟩ hw d_Y_stepBySeed_53
      · refine lv_if_ne (tgt := 42) hx hb d_Y_stepBySeed_36 (by decide) (fun c_36 => ?_) (fun c_36 => by exact absurd c_36 (by decide))
        refine lv_iinc (v := nI (i + 1)) (lv' := [(6, .int _), (4, .long _), (7, .int _), (3, .int _), (0, .ref _)]) hx hb d_Y_stepBySeed_42 hl (k := 2) rfl (yinc i) (by decide) rfl (fun ls hl => ?_)
        refine lv_iinc (v := nI (i + 1)) (lv' := [(7, .int _), (6, .int _), (4, .long _), (3, .int _), (0, .ref _)]) hx hb d_Y_stepBySeed_45 hl (k := 2) rfl (yinc i) (by decide) rfl (fun ls hl => ?_)
        refine lv_goto (tgt := 9) hx hb d_Y_stepBySeed_48 (by decide) ?_
        have hz' : yp_rdy (s_T σ y) (s_D σ1 y) (yp_n (s_T σ y)) ≠ [] := by have h := hz; rw [hX.sn y] at h; exact h
        have hD' : s_D u y = yp_act (s_T σ y) (s_D σ1 y) (yp_dr (s_T σ y) (s_D σ1 y) (yp_nx x)) := by rw [hD]; unfold yp_dr yp_ix; rw [hX.sn y]; rfl
        have e0 : yp_run (s_T σ y) (f + 1) x (s_D σ1 y) = ((yp_run (s_T σ y) f (yp_nx x) (s_D u y)).1, (yp_run (s_T σ y) f (yp_nx x) (s_D u y)).2 + 1) := by rw [hD']; show (if _ then _ else _) = _; rw [if_neg hz']
        exact ih (i + 1) (yp_nx x) u _ _ _ (by omega) (hX.tr hX1) (hT1.trans hT) hI2 (by rw [hrun, e0]; refine congrArg (fun z => (_, z)) ?_; omega) hw (lv_sub hl [0, 1, 2, 3, 4] rfl)
  refine lv_lload_n hx hb d_Y_stepBySeed_0 rfl (lv_at hl 1 rfl) ?_
  refine lv_lstore (lv' := [(4, .long _), (0, .ref _), (1, .long _), (3, .int _)]) hx hb d_Y_stepBySeed_1 hl (by decide) rfl (fun ls hl => ?_)
  refine lv_iconst (v := (nI 0)) hx hb d_Y_stepBySeed_3 (by decide) ?_
  refine lv_istore (lv' := [(6, .int _), (4, .long _), (0, .ref _), (1, .long _), (3, .int _)]) hx hb d_Y_stepBySeed_4 hl (by decide) rfl (fun ls hl => ?_)
  refine lv_iconst (v := (nI 0)) hx hb d_Y_stepBySeed_6 (by decide) ?_
  refine lv_istore (lv' := [(7, .int _), (6, .int _), (4, .long _), (0, .ref _), (1, .long _), (3, .int _)]) hx hb d_Y_stepBySeed_7 hl (by decide) rfl (fun ls hl => ?_)
  exact loop k 0 x0 σ _ _ _ (by omega) yX.rf rfl hi (by rw [Nat.zero_add]) hw (lv_sub hl [0, 1, 2, 5, 3] rfl)
