/-! THE FACE: what only reads -/
/-- what holds between calls: both yards are well, built alike; where the flag is set, the second is how all ends -/
def yJ (σ : ys) : Prop := yI σ 0 ∧ yI σ 1 ∧ yE σ 1 0 ∧ (s_fl σ 0 0 = 0 ∨ (s_fl σ 0 0 = 1 ∧ s_T σ 1 = s_T σ 0 ∧ yp_fin (s_T σ 0) (s_D σ 0) (s_D σ 1)))
def a_can (T : yp_T) (d : yp_D) (x : Int32) : Int32 := match yin x (yp_n T) with
  | none => 0
  | some j => yb (yp_canb T d j)
def a_acted (T : yp_T) (d : yp_D) (x : Int32) : Int32 := match yin x (yp_n T) with
  | none => -1
  | some j => nI (d.1 j)
def a_kept (T : yp_T) (d : yp_D) (x : Int32) : Int32 := match yin x (yp_n T) with
  | none => -1
  | some j => if yp_kd T j = 6 then nI (d.1 j) else -1
def a_at (T : yp_T) (d : yp_D) (x v : Int32) : Int64 := match yin x (yp_n T) with
  | none => -9223372036854775808
  | some j => if yp_kd T j = 6 then (match yin v (d.1 j) with | none => -9223372036854775808 | some i => ((d.2.1 j).getD i 0).toInt64) else -9223372036854775808
def a_waits (nc : Nat) (d : yp_D) (x : Int32) : Int32 := match yin x nc with
  | none => -1
  | some c => nI (d.2.2 c).length
def a_waiting (nc : Nat) (d : yp_D) (x v : Int32) : Int64 := match yin x nc with
  | none => -9223372036854775808
  | some c => match yin v (d.2.2 c).length with | none => -9223372036854775808 | some i => ((d.2.2 c).getD i 0).toInt64
def a_full (T : yp_T) (nc : Nat) (d : yp_D) (x : Int32) : Int32 := yff (fun c => decide (yp_rm T c ≤ (d.2.2 c).length)) x nc 0 0
theorem at_eq {σ : ys} {y j : Nat} (hk6 : (s_ac σ y j).1 = 6) (v : Int32) : (match yin v (s_ac σ y j).2.2.2.2 with | none => (-9223372036854775808 : Int64) | some i => (s_rw σ y j i).toInt64) = (match yin v ((s_D σ y).1 j) with | none => -9223372036854775808 | some i => (((s_D σ y).2.1 j).getD i 0).toInt64) := by
  show _ = (match yin v (s_ac σ y j).2.2.2.2 with | none => (-9223372036854775808 : Int64) | some i => ((if (s_ac σ y j).1 = 6 then yrw (s_rw σ y j) (s_ac σ y j).2.2.2.2 else []).getD i 0).toInt64)
  rw [if_pos hk6]
  unfold yin
  by_cases h : v < 0 ∨ nI (s_ac σ y j).2.2.2.2 ≤ v
  · rw [if_pos h]
  · rw [if_neg h]
    show (s_rw σ y j v.toNatClampNeg).toInt64 = ((yrw (s_rw σ y j) (s_ac σ y j).2.2.2.2).getD v.toNatClampNeg 0).toInt64
    by_cases h2 : v.toNatClampNeg < (s_ac σ y j).2.2.2.2
    · rw [List.getD_eq_getElem?_getD, yrw_get h2]; rfl
    · exfalso
      apply h
      rcases Decidable.em (v < 0) with q | q
      · exact Or.inl q
      · right
        obtain ⟨t, ht, rfl⟩ := nI_of q
        rw [nI_clamp ht] at h2
        exact nI_le (by omega) ht
theorem wt_no {r : Nat → Int32} {f n : Nat} {v : Int32} (h : v < 0 ∨ nI n ≤ v) : (match yin v (yrq r f n).length with | none => (-9223372036854775808 : Int64) | some i => ((yrq r f n).getD i 0).toInt64) = -9223372036854775808 := by
  rw [yrq_len, yin_no h]
theorem wt_yes {r : Nat → Int32} {f n t : Nat} (h : t < n) (hn : n < 2 ^ 31) : (match yin (nI t) (yrq r f n).length with | none => (-9223372036854775808 : Int64) | some i => ((yrq r f n).getD i 0).toInt64) = (r ((f + t) % 8)).toInt64 := by
  rw [yrq_len, yin_some h hn]
  show ((yrq r f n).getD t 0).toInt64 = _
  rw [List.getD_eq_getElem?_getD, yrq_get h]
  rfl
set_option maxHeartbeats 4000000 in
set_option maxRecDepth 100000 in
theorem c_S_can (l : Launch) (D : va_G) (cc : ClassId × ClassId × ClassId) (ad : yl → Nat) (LL : List yl) (X : va_W) (b0 sz : Nat) (σ : ys) (hL : ∀ q, yL σ q → q ∈ LL) (hJ : yJ σ) (x : Int32) : Met l y_S_can w_S_can ({ frames := 3, cells := 0, slots := 0, locals := 63 }) (yPr D cc b0 [.ref (ad (0, 0, 0)), .int x] (yW cc ad LL X σ) sz) (yQi D (yW cc ad LL X σ) sz (a_can (s_T σ 0) (s_D σ 0) x) (yW cc ad LL X σ)) 0 0 (va_A (yW cc ad LL X σ) sz) := by
  have o0 : (0, 0, 0) ∈ LL := hL _ ⟨rfl, rfl⟩
  have n0 : (1, 0, 0) ∈ LL := hL _ ⟨by omega, rfl⟩
  have n1 : (1, 1, 0) ∈ LL := hL _ ⟨by omega, rfl⟩
  have hi := hJ.1
  have hi1 := hJ.2.1
  have hn10 := hi.1.1
  have hc16 := hi.2.1
  have hm10 := hi1.1.1
  have hd16 := hi1.2.1
  rcases ysplit x (n := s_n σ 0) (by omega) with hno | ⟨j, hj, rfl⟩
  · refine y_ofW (cc := b_S_can) (maxL := 3) (ret := (some .boolean)) (by decide) rfl (Nat.le_of_ble_eq_true rfl) ?_
    intro pv ev sv mv bv tv cv ls hI hsz hw hl
    obtain ⟨hx, hb, hr, hml, hts, hown, hlocks, hnm, hK, hAb, hb0, hA⟩ := id hI
    have ht : ∀ w ∈ lg_tbl, w.before _ sv = true := fun w h => hts w (List.mem_cons_of_mem _ h)
    have hl : lv_has ls 3 [(0, .ref (ad (0, 0, 0))), (1, .int x)] := hl
    refine lv_aload_n hx hb d_S_can_0 rfl (lv_at hl 0 rfl) ?_
    refine yr_get (C := R_S) (T := F_S) (N := 3) (ci := k_S) hx hb ht j_S hown hK.1 hw (by assumption) (by rfl) rfl 0 (by decide) (ht _ mf_S_14) (fun _ h9 => h9) (by rfl) d_S_can_1 ?_
    refine lv_iload_n hx hb d_S_can_4 rfl (lv_at hl 1 rfl) ?_
    refine yc_q (va_runV (As := [.int _]) (rest := []) ⟨hx, hb, hml, hown, hts⟩ (c_Y_findActor_no l D cc ad LL X b0 _ σ hL 0 (by omega) hi x hno) (cwV 1 hts (yg_call mc_Y_findActor ml_S_43 mm_Y_findActor ms_Y_findActor mi_Y) rfl rfl rfl (by decide +kernel) ⟨Nat.le_of_ble_eq_true rfl, Nat.le_of_ble_eq_true rfl⟩) (y_preV hI hw (y_recv hK.1 hw n0 (by rfl) rfl)) rfl rfl hl.1 rfl (lv_room (Nat.le_of_ble_eq_true rfl)) d_S_can_5 ⟨Nat.le_of_ble_eq_true rfl, Nat.le_of_ble_eq_true rfl⟩) hw hA (fun r u H locs he hw => ?_)
    subst he
    rw [yrf_n]
    refine lv_astore_nN (lv' := [(2, .null), (0, .ref _), (1, .int _)]) hx hb d_S_can_8 rfl hl (by decide) rfl (fun ls hl => ?_)
    refine lv_aload_nN hx hb d_S_can_9 rfl (lv_at hl 0 rfl) ?_
    refine lv_ifnullN (tgt := 24) hx hb d_S_can_10 (by decide) ?_
    refine lv_iconst (v := 0) hx hb d_S_can_24 (by decide) ?_
    exact ye_z hI (by decide) () (by unfold a_can; rw [yin_no (show x < 0 ∨ nI (yp_n (s_T σ 0)) ≤ x from hno)]) hw d_S_can_25
  · have h5 : (5, 0, j) ∈ LL := hL _ ⟨by omega, hj⟩
    have hjn : yin (nI j) (yp_n (s_T σ 0)) = some j := yin_some hj (by show s_n σ 0 < _; omega)
    refine y_ofW (cc := b_S_can) (maxL := 3) (ret := (some .boolean)) (by decide) rfl (Nat.le_of_ble_eq_true rfl) ?_
    intro pv ev sv mv bv tv cv ls hI hsz hw hl
    obtain ⟨hx, hb, hr, hml, hts, hown, hlocks, hnm, hK, hAb, hb0, hA⟩ := id hI
    have ht : ∀ w ∈ lg_tbl, w.before _ sv = true := fun w h => hts w (List.mem_cons_of_mem _ h)
    have hl : lv_has ls 3 [(0, .ref (ad (0, 0, 0))), (1, .int (nI j))] := hl
    refine lv_aload_n hx hb d_S_can_0 rfl (lv_at hl 0 rfl) ?_
    refine yr_get (C := R_S) (T := F_S) (N := 3) (ci := k_S) hx hb ht j_S hown hK.1 hw (by assumption) (by rfl) rfl 0 (by decide) (ht _ mf_S_14) (fun _ h9 => h9) (by rfl) d_S_can_1 ?_
    refine lv_iload_n hx hb d_S_can_4 rfl (lv_at hl 1 rfl) ?_
    refine yc_q (va_runV (As := [.int _]) (rest := []) ⟨hx, hb, hml, hown, hts⟩ (c_Y_findActor l D cc ad LL X b0 _ σ hL 0 (by omega) hi j hj) (cwV 1 hts (yg_call mc_Y_findActor ml_S_43 mm_Y_findActor ms_Y_findActor mi_Y) rfl rfl rfl (by decide +kernel) ⟨Nat.le_of_ble_eq_true rfl, Nat.le_of_ble_eq_true rfl⟩) (y_preV hI hw (y_recv hK.1 hw n0 (by rfl) rfl)) rfl rfl hl.1 rfl (lv_room (Nat.le_of_ble_eq_true rfl)) d_S_can_5 ⟨Nat.le_of_ble_eq_true rfl, Nat.le_of_ble_eq_true rfl⟩) hw hA (fun r u H locs he hw => ?_)
    subst he
    rw [yrf_s]
    refine lv_astore_n (lv' := [(2, .ref _), (0, .ref _), (1, .int _)]) hx hb d_S_can_8 rfl hl (by decide) rfl (fun ls hl => ?_)
    refine lv_aload_n hx hb d_S_can_9 rfl (lv_at hl 0 rfl) ?_
    refine lv_ifnull hx hb d_S_can_10 ?_
    refine lv_aload_n hx hb d_S_can_13 rfl (lv_at hl 0 rfl) ?_
    refine yc_i (va_runV (As := []) (rest := []) ⟨hx, hb, hml, hown, hts⟩ (c_A_isReady l D cc ad LL X b0 _ σ hL 0 j (by omega) hj hi) (cwV 0 hts (yg_call mc_A_isReady ml_S_47 mm_A_isReady ms_A_isReady mi_A) rfl rfl rfl (by decide +kernel) ⟨Nat.le_of_ble_eq_true rfl, Nat.le_of_ble_eq_true rfl⟩) (y_preV hI hw (y_recv hK.1 hw h5 (by rfl) rfl)) rfl rfl hl.1 rfl (lv_room (Nat.le_of_ble_eq_true rfl)) d_S_can_14 ⟨Nat.le_of_ble_eq_true rfl, Nat.le_of_ble_eq_true rfl⟩) hw hA (fun r u H locs he hw => ?_)
    subst he
    refine lv_if_eq (tgt := 24) hx hb d_S_can_17 (by decide) (fun c_17 => ?_) (fun c_17 => ?_)
    · have e1 := yb_0 c_17
      refine lv_iconst (v := 0) hx hb d_S_can_24 (by decide) ?_
      exact ye_z hI (by decide) () (by unfold a_can; rw [hjn]; show _ = yb _; rw [e1]; rfl) hw d_S_can_25
    · have e1 := yb_1 c_17
      refine lv_iconst (v := 1) hx hb d_S_can_20 (by decide) ?_
      refine lv_goto (tgt := 25) hx hb d_S_can_21 (by decide) ?_
      exact ye_z hI (by decide) () (by unfold a_can; rw [hjn]; show _ = yb _; rw [e1]; rfl) hw d_S_can_25
set_option maxHeartbeats 4000000 in
set_option maxRecDepth 100000 in
theorem c_S_acted (l : Launch) (D : va_G) (cc : ClassId × ClassId × ClassId) (ad : yl → Nat) (LL : List yl) (X : va_W) (b0 sz : Nat) (σ : ys) (hL : ∀ q, yL σ q → q ∈ LL) (hJ : yJ σ) (x : Int32) : Met l y_S_acted w_S_acted ({ frames := 2, cells := 0, slots := 0, locals := 40 }) (yPr D cc b0 [.ref (ad (0, 0, 0)), .int x] (yW cc ad LL X σ) sz) (yQi D (yW cc ad LL X σ) sz (a_acted (s_T σ 0) (s_D σ 0) x) (yW cc ad LL X σ)) 0 0 (va_A (yW cc ad LL X σ) sz) := by
  have o0 : (0, 0, 0) ∈ LL := hL _ ⟨rfl, rfl⟩
  have n0 : (1, 0, 0) ∈ LL := hL _ ⟨by omega, rfl⟩
  have n1 : (1, 1, 0) ∈ LL := hL _ ⟨by omega, rfl⟩
  have hi := hJ.1
  have hi1 := hJ.2.1
  have hn10 := hi.1.1
  have hc16 := hi.2.1
  have hm10 := hi1.1.1
  have hd16 := hi1.2.1
  rcases ysplit x (n := s_n σ 0) (by omega) with hno | ⟨j, hj, rfl⟩
  · refine y_ofW (cc := b_S_acted) (maxL := 2) (ret := (some .int)) (by decide) rfl (Nat.le_of_ble_eq_true rfl) ?_
    intro pv ev sv mv bv tv cv ls hI hsz hw hl
    obtain ⟨hx, hb, hr, hml, hts, hown, hlocks, hnm, hK, hAb, hb0, hA⟩ := id hI
    have ht : ∀ w ∈ lg_tbl, w.before _ sv = true := fun w h => hts w (List.mem_cons_of_mem _ h)
    have hl : lv_has ls 2 [(0, .ref (ad (0, 0, 0))), (1, .int x)] := hl
    refine lv_aload_n hx hb d_S_acted_0 rfl (lv_at hl 0 rfl) ?_
    refine yr_get (C := R_S) (T := F_S) (N := 3) (ci := k_S) hx hb ht j_S hown hK.1 hw (by assumption) (by rfl) rfl 0 (by decide) (ht _ mf_S_14) (fun _ h9 => h9) (by rfl) d_S_acted_1 ?_
    refine lv_iload_n hx hb d_S_acted_4 rfl (lv_at hl 1 rfl) ?_
    refine yc_q (va_runV (As := [.int _]) (rest := []) ⟨hx, hb, hml, hown, hts⟩ (c_Y_findActor_no l D cc ad LL X b0 _ σ hL 0 (by omega) hi x hno) (cwV 1 hts (yg_call mc_Y_findActor ml_S_43 mm_Y_findActor ms_Y_findActor mi_Y) rfl rfl rfl (by decide +kernel) ⟨Nat.le_of_ble_eq_true rfl, Nat.le_of_ble_eq_true rfl⟩) (y_preV hI hw (y_recv hK.1 hw n0 (by rfl) rfl)) rfl rfl hl.1 rfl (lv_room (Nat.le_of_ble_eq_true rfl)) d_S_acted_5 ⟨Nat.le_of_ble_eq_true rfl, Nat.le_of_ble_eq_true rfl⟩) hw hA (fun r u H locs he hw => ?_)
    subst he
    rw [yrf_n]
    refine yc_i (va_runS (As := [.null]) (rest := []) ⟨hx, hb, hml, hown, hts⟩ (c_S_timesOf_null l D cc ad LL X b0 _ σ) (va_cwS 1 hts (yg_callS mc_S_timesOf ml_S_58 mt_S_timesOf mi_S) rfl rfl rfl (by decide +kernel) ⟨Nat.le_of_ble_eq_true rfl, Nat.le_of_ble_eq_true rfl⟩) (y_preS hI hw) rfl rfl hl.1 rfl (lv_room (Nat.le_of_ble_eq_true rfl)) d_S_acted_8 ⟨Nat.le_of_ble_eq_true rfl, Nat.le_of_ble_eq_true rfl⟩) hw hA (fun r u H locs he hw => ?_)
    subst he
    exact ye_i hI () (by unfold a_acted; rw [yin_no (show x < 0 ∨ nI (yp_n (s_T σ 0)) ≤ x from hno)]) hw d_S_acted_11
  · have h5 : (5, 0, j) ∈ LL := hL _ ⟨by omega, hj⟩
    have hjn : yin (nI j) (yp_n (s_T σ 0)) = some j := yin_some hj (by show s_n σ 0 < _; omega)
    refine y_ofW (cc := b_S_acted) (maxL := 2) (ret := (some .int)) (by decide) rfl (Nat.le_of_ble_eq_true rfl) ?_
    intro pv ev sv mv bv tv cv ls hI hsz hw hl
    obtain ⟨hx, hb, hr, hml, hts, hown, hlocks, hnm, hK, hAb, hb0, hA⟩ := id hI
    have ht : ∀ w ∈ lg_tbl, w.before _ sv = true := fun w h => hts w (List.mem_cons_of_mem _ h)
    have hl : lv_has ls 2 [(0, .ref (ad (0, 0, 0))), (1, .int (nI j))] := hl
    refine lv_aload_n hx hb d_S_acted_0 rfl (lv_at hl 0 rfl) ?_
    refine yr_get (C := R_S) (T := F_S) (N := 3) (ci := k_S) hx hb ht j_S hown hK.1 hw (by assumption) (by rfl) rfl 0 (by decide) (ht _ mf_S_14) (fun _ h9 => h9) (by rfl) d_S_acted_1 ?_
    refine lv_iload_n hx hb d_S_acted_4 rfl (lv_at hl 1 rfl) ?_
    refine yc_q (va_runV (As := [.int _]) (rest := []) ⟨hx, hb, hml, hown, hts⟩ (c_Y_findActor l D cc ad LL X b0 _ σ hL 0 (by omega) hi j hj) (cwV 1 hts (yg_call mc_Y_findActor ml_S_43 mm_Y_findActor ms_Y_findActor mi_Y) rfl rfl rfl (by decide +kernel) ⟨Nat.le_of_ble_eq_true rfl, Nat.le_of_ble_eq_true rfl⟩) (y_preV hI hw (y_recv hK.1 hw n0 (by rfl) rfl)) rfl rfl hl.1 rfl (lv_room (Nat.le_of_ble_eq_true rfl)) d_S_acted_5 ⟨Nat.le_of_ble_eq_true rfl, Nat.le_of_ble_eq_true rfl⟩) hw hA (fun r u H locs he hw => ?_)
    subst he
    rw [yrf_s]
    refine yc_i (va_runS (As := [.ref _]) (rest := []) ⟨hx, hb, hml, hown, hts⟩ (c_S_timesOf l D cc ad LL X b0 _ σ hL 0 j (by omega) hj hi) (va_cwS 1 hts (yg_callS mc_S_timesOf ml_S_58 mt_S_timesOf mi_S) rfl rfl rfl (by decide +kernel) ⟨Nat.le_of_ble_eq_true rfl, Nat.le_of_ble_eq_true rfl⟩) (y_preS hI hw) rfl rfl hl.1 rfl (lv_room (Nat.le_of_ble_eq_true rfl)) d_S_acted_8 ⟨Nat.le_of_ble_eq_true rfl, Nat.le_of_ble_eq_true rfl⟩) hw hA (fun r u H locs he hw => ?_)
    subst he
    exact ye_i hI () (by unfold a_acted; rw [hjn]; rfl) hw d_S_acted_11
set_option maxHeartbeats 4000000 in
set_option maxRecDepth 100000 in
theorem c_S_kept (l : Launch) (D : va_G) (cc : ClassId × ClassId × ClassId) (ad : yl → Nat) (LL : List yl) (X : va_W) (b0 sz : Nat) (σ : ys) (hL : ∀ q, yL σ q → q ∈ LL) (hJ : yJ σ) (x : Int32) : Met l y_S_kept w_S_kept ({ frames := 2, cells := 0, slots := 0, locals := 44 }) (yPr D cc b0 [.ref (ad (0, 0, 0)), .int x] (yW cc ad LL X σ) sz) (yQi D (yW cc ad LL X σ) sz (a_kept (s_T σ 0) (s_D σ 0) x) (yW cc ad LL X σ)) 0 0 (va_A (yW cc ad LL X σ) sz) := by
  have o0 : (0, 0, 0) ∈ LL := hL _ ⟨rfl, rfl⟩
  have n0 : (1, 0, 0) ∈ LL := hL _ ⟨by omega, rfl⟩
  have n1 : (1, 1, 0) ∈ LL := hL _ ⟨by omega, rfl⟩
  have hi := hJ.1
  have hi1 := hJ.2.1
  have hn10 := hi.1.1
  have hc16 := hi.2.1
  have hm10 := hi1.1.1
  have hd16 := hi1.2.1
  rcases ysplit x (n := s_n σ 0) (by omega) with hno | ⟨j, hj, rfl⟩
  · refine y_ofW (cc := b_S_kept) (maxL := 2) (ret := (some .int)) (by decide) rfl (Nat.le_of_ble_eq_true rfl) ?_
    intro pv ev sv mv bv tv cv ls hI hsz hw hl
    obtain ⟨hx, hb, hr, hml, hts, hown, hlocks, hnm, hK, hAb, hb0, hA⟩ := id hI
    have ht : ∀ w ∈ lg_tbl, w.before _ sv = true := fun w h => hts w (List.mem_cons_of_mem _ h)
    have hl : lv_has ls 2 [(0, .ref (ad (0, 0, 0))), (1, .int x)] := hl
    refine lv_aload_n hx hb d_S_kept_0 rfl (lv_at hl 0 rfl) ?_
    refine yr_get (C := R_S) (T := F_S) (N := 3) (ci := k_S) hx hb ht j_S hown hK.1 hw (by assumption) (by rfl) rfl 0 (by decide) (ht _ mf_S_14) (fun _ h9 => h9) (by rfl) d_S_kept_1 ?_
    refine lv_iload_n hx hb d_S_kept_4 rfl (lv_at hl 1 rfl) ?_
    refine lv_bipush (v := (nI 6)) hx hb d_S_kept_5 (by decide) ?_
    refine yc_q (va_runV (As := [.int _, .int _]) (rest := []) ⟨hx, hb, hml, hown, hts⟩ (c_Y_findKind_no l D cc ad LL X b0 _ σ hL 0 (by omega) hi x hno 6) (cwV 2 hts (yg_call mc_Y_findKind ml_S_29 mm_Y_findKind ms_Y_findKind mi_Y) rfl rfl rfl (by decide +kernel) ⟨Nat.le_of_ble_eq_true rfl, Nat.le_of_ble_eq_true rfl⟩) (y_preV hI hw (y_recv hK.1 hw n0 (by rfl) rfl)) rfl rfl hl.1 rfl (lv_room (Nat.le_of_ble_eq_true rfl)) d_S_kept_7 ⟨Nat.le_of_ble_eq_true rfl, Nat.le_of_ble_eq_true rfl⟩) hw hA (fun r u H locs he hw => ?_)
    subst he
    rw [yrf_n]
    refine yc_i (va_runS (As := [.null]) (rest := []) ⟨hx, hb, hml, hown, hts⟩ (c_S_timesOf_null l D cc ad LL X b0 _ σ) (va_cwS 1 hts (yg_callS mc_S_timesOf ml_S_58 mt_S_timesOf mi_S) rfl rfl rfl (by decide +kernel) ⟨Nat.le_of_ble_eq_true rfl, Nat.le_of_ble_eq_true rfl⟩) (y_preS hI hw) rfl rfl hl.1 rfl (lv_room (Nat.le_of_ble_eq_true rfl)) d_S_kept_10 ⟨Nat.le_of_ble_eq_true rfl, Nat.le_of_ble_eq_true rfl⟩) hw hA (fun r u H locs he hw => ?_)
    subst he
    exact ye_i hI () (by unfold a_kept; rw [yin_no (show x < 0 ∨ nI (yp_n (s_T σ 0)) ≤ x from hno)]) hw d_S_kept_13
  · have h5 : (5, 0, j) ∈ LL := hL _ ⟨by omega, hj⟩
    have hjn : yin (nI j) (yp_n (s_T σ 0)) = some j := yin_some hj (by show s_n σ 0 < _; omega)
    by_cases hk6 : (s_ac σ 0 j).1 = 6
    · refine y_ofW (cc := b_S_kept) (maxL := 2) (ret := (some .int)) (by decide) rfl (Nat.le_of_ble_eq_true rfl) ?_
      intro pv ev sv mv bv tv cv ls hI hsz hw hl
      obtain ⟨hx, hb, hr, hml, hts, hown, hlocks, hnm, hK, hAb, hb0, hA⟩ := id hI
      have ht : ∀ w ∈ lg_tbl, w.before _ sv = true := fun w h => hts w (List.mem_cons_of_mem _ h)
      have hl : lv_has ls 2 [(0, .ref (ad (0, 0, 0))), (1, .int (nI j))] := hl
      refine lv_aload_n hx hb d_S_kept_0 rfl (lv_at hl 0 rfl) ?_
      refine yr_get (C := R_S) (T := F_S) (N := 3) (ci := k_S) hx hb ht j_S hown hK.1 hw (by assumption) (by rfl) rfl 0 (by decide) (ht _ mf_S_14) (fun _ h9 => h9) (by rfl) d_S_kept_1 ?_
      refine lv_iload_n hx hb d_S_kept_4 rfl (lv_at hl 1 rfl) ?_
      refine lv_bipush (v := (nI 6)) hx hb d_S_kept_5 (by decide) ?_
      refine yc_q (va_runV (As := [.int _, .int _]) (rest := []) ⟨hx, hb, hml, hown, hts⟩ (c_Y_findKind l D cc ad LL X b0 _ σ hL 0 (by omega) hi j hj 6 (by omega) hk6) (cwV 2 hts (yg_call mc_Y_findKind ml_S_29 mm_Y_findKind ms_Y_findKind mi_Y) rfl rfl rfl (by decide +kernel) ⟨Nat.le_of_ble_eq_true rfl, Nat.le_of_ble_eq_true rfl⟩) (y_preV hI hw (y_recv hK.1 hw n0 (by rfl) rfl)) rfl rfl hl.1 rfl (lv_room (Nat.le_of_ble_eq_true rfl)) d_S_kept_7 ⟨Nat.le_of_ble_eq_true rfl, Nat.le_of_ble_eq_true rfl⟩) hw hA (fun r u H locs he hw => ?_)
      subst he
      rw [yrf_s]
      refine yc_i (va_runS (As := [.ref _]) (rest := []) ⟨hx, hb, hml, hown, hts⟩ (c_S_timesOf l D cc ad LL X b0 _ σ hL 0 j (by omega) hj hi) (va_cwS 1 hts (yg_callS mc_S_timesOf ml_S_58 mt_S_timesOf mi_S) rfl rfl rfl (by decide +kernel) ⟨Nat.le_of_ble_eq_true rfl, Nat.le_of_ble_eq_true rfl⟩) (y_preS hI hw) rfl rfl hl.1 rfl (lv_room (Nat.le_of_ble_eq_true rfl)) d_S_kept_10 ⟨Nat.le_of_ble_eq_true rfl, Nat.le_of_ble_eq_true rfl⟩) hw hA (fun r u H locs he hw => ?_)
      subst he
      exact ye_i hI () (by unfold a_kept; rw [hjn]; show _ = if (s_ac σ 0 j).1 = 6 then _ else _; rw [if_pos hk6]; rfl) hw d_S_kept_13
    · refine y_ofW (cc := b_S_kept) (maxL := 2) (ret := (some .int)) (by decide) rfl (Nat.le_of_ble_eq_true rfl) ?_
      intro pv ev sv mv bv tv cv ls hI hsz hw hl
      obtain ⟨hx, hb, hr, hml, hts, hown, hlocks, hnm, hK, hAb, hb0, hA⟩ := id hI
      have ht : ∀ w ∈ lg_tbl, w.before _ sv = true := fun w h => hts w (List.mem_cons_of_mem _ h)
      have hl : lv_has ls 2 [(0, .ref (ad (0, 0, 0))), (1, .int (nI j))] := hl
      refine lv_aload_n hx hb d_S_kept_0 rfl (lv_at hl 0 rfl) ?_
      refine yr_get (C := R_S) (T := F_S) (N := 3) (ci := k_S) hx hb ht j_S hown hK.1 hw (by assumption) (by rfl) rfl 0 (by decide) (ht _ mf_S_14) (fun _ h9 => h9) (by rfl) d_S_kept_1 ?_
      refine lv_iload_n hx hb d_S_kept_4 rfl (lv_at hl 1 rfl) ?_
      refine lv_bipush (v := (nI 6)) hx hb d_S_kept_5 (by decide) ?_
      refine yc_q (va_runV (As := [.int _, .int _]) (rest := []) ⟨hx, hb, hml, hown, hts⟩ (c_Y_findKind_other l D cc ad LL X b0 _ σ hL 0 (by omega) hi j hj 6 (by omega) hk6) (cwV 2 hts (yg_call mc_Y_findKind ml_S_29 mm_Y_findKind ms_Y_findKind mi_Y) rfl rfl rfl (by decide +kernel) ⟨Nat.le_of_ble_eq_true rfl, Nat.le_of_ble_eq_true rfl⟩) (y_preV hI hw (y_recv hK.1 hw n0 (by rfl) rfl)) rfl rfl hl.1 rfl (lv_room (Nat.le_of_ble_eq_true rfl)) d_S_kept_7 ⟨Nat.le_of_ble_eq_true rfl, Nat.le_of_ble_eq_true rfl⟩) hw hA (fun r u H locs he hw => ?_)
      subst he
      rw [yrf_n]
      refine yc_i (va_runS (As := [.null]) (rest := []) ⟨hx, hb, hml, hown, hts⟩ (c_S_timesOf_null l D cc ad LL X b0 _ σ) (va_cwS 1 hts (yg_callS mc_S_timesOf ml_S_58 mt_S_timesOf mi_S) rfl rfl rfl (by decide +kernel) ⟨Nat.le_of_ble_eq_true rfl, Nat.le_of_ble_eq_true rfl⟩) (y_preS hI hw) rfl rfl hl.1 rfl (lv_room (Nat.le_of_ble_eq_true rfl)) d_S_kept_10 ⟨Nat.le_of_ble_eq_true rfl, Nat.le_of_ble_eq_true rfl⟩) hw hA (fun r u H locs he hw => ?_)
      subst he
      exact ye_i hI () (by unfold a_kept; rw [hjn]; show _ = if (s_ac σ 0 j).1 = 6 then _ else _; rw [if_neg hk6]) hw d_S_kept_13
set_option maxHeartbeats 4000000 in
set_option maxRecDepth 100000 in
theorem c_S_at (l : Launch) (D : va_G) (cc : ClassId × ClassId × ClassId) (ad : yl → Nat) (LL : List yl) (X : va_W) (b0 sz : Nat) (σ : ys) (hL : ∀ q, yL σ q → q ∈ LL) (hJ : yJ σ) (x : Int32) (v : Int32) : Met l y_S_at w_S_at ({ frames := 2, cells := 0, slots := 0, locals := 44 }) (yPr D cc b0 [.ref (ad (0, 0, 0)), .int x, .int v] (yW cc ad LL X σ) sz) (yQl D (yW cc ad LL X σ) sz (a_at (s_T σ 0) (s_D σ 0) x v) (yW cc ad LL X σ)) 0 0 (va_A (yW cc ad LL X σ) sz) := by
  have o0 : (0, 0, 0) ∈ LL := hL _ ⟨rfl, rfl⟩
  have n0 : (1, 0, 0) ∈ LL := hL _ ⟨by omega, rfl⟩
  have n1 : (1, 1, 0) ∈ LL := hL _ ⟨by omega, rfl⟩
  have hi := hJ.1
  have hi1 := hJ.2.1
  have hn10 := hi.1.1
  have hc16 := hi.2.1
  have hm10 := hi1.1.1
  have hd16 := hi1.2.1
  rcases ysplit x (n := s_n σ 0) (by omega) with hno | ⟨j, hj, rfl⟩
  · refine y_ofW (cc := b_S_at) (maxL := 3) (ret := (some .long)) (by decide) rfl (Nat.le_of_ble_eq_true rfl) ?_
    intro pv ev sv mv bv tv cv ls hI hsz hw hl
    obtain ⟨hx, hb, hr, hml, hts, hown, hlocks, hnm, hK, hAb, hb0, hA⟩ := id hI
    have ht : ∀ w ∈ lg_tbl, w.before _ sv = true := fun w h => hts w (List.mem_cons_of_mem _ h)
    have hl : lv_has ls 3 [(0, .ref (ad (0, 0, 0))), (1, .int x), (2, .int v)] := hl
    refine lv_aload_n hx hb d_S_at_0 rfl (lv_at hl 0 rfl) ?_
    refine yr_get (C := R_S) (T := F_S) (N := 3) (ci := k_S) hx hb ht j_S hown hK.1 hw (by assumption) (by rfl) rfl 0 (by decide) (ht _ mf_S_14) (fun _ h9 => h9) (by rfl) d_S_at_1 ?_
    refine lv_iload_n hx hb d_S_at_4 rfl (lv_at hl 1 rfl) ?_
    refine lv_bipush (v := (nI 6)) hx hb d_S_at_5 (by decide) ?_
    refine yc_q (va_runV (As := [.int _, .int _]) (rest := []) ⟨hx, hb, hml, hown, hts⟩ (c_Y_findKind_no l D cc ad LL X b0 _ σ hL 0 (by omega) hi x hno 6) (cwV 2 hts (yg_call mc_Y_findKind ml_S_29 mm_Y_findKind ms_Y_findKind mi_Y) rfl rfl rfl (by decide +kernel) ⟨Nat.le_of_ble_eq_true rfl, Nat.le_of_ble_eq_true rfl⟩) (y_preV hI hw (y_recv hK.1 hw n0 (by rfl) rfl)) rfl rfl hl.1 rfl (lv_room (Nat.le_of_ble_eq_true rfl)) d_S_at_7 ⟨Nat.le_of_ble_eq_true rfl, Nat.le_of_ble_eq_true rfl⟩) hw hA (fun r u H locs he hw => ?_)
    subst he
    rw [yrf_n]
    refine lv_iload_n hx hb d_S_at_10 rfl (lv_at hl 2 rfl) ?_
    refine yc_l (va_runS (As := [.null, .int _]) (rest := []) ⟨hx, hb, hml, hown, hts⟩ (c_S_keptValue_null l D cc ad LL X b0 _ σ v) (va_cwS 2 hts (yg_callS mc_S_keptValue ml_S_62 mt_S_keptValue mi_S) rfl rfl rfl (by decide +kernel) ⟨Nat.le_of_ble_eq_true rfl, Nat.le_of_ble_eq_true rfl⟩) (y_preS hI hw) rfl rfl hl.1 rfl (lv_room (Nat.le_of_ble_eq_true rfl)) d_S_at_11 ⟨Nat.le_of_ble_eq_true rfl, Nat.le_of_ble_eq_true rfl⟩) hw hA (fun r u H locs he hw => ?_)
    subst he
    exact ye_l hI () (by unfold a_at; rw [yin_no (show x < 0 ∨ nI (yp_n (s_T σ 0)) ≤ x from hno)]) hw d_S_at_14
  · have h5 : (5, 0, j) ∈ LL := hL _ ⟨by omega, hj⟩
    have hjn : yin (nI j) (yp_n (s_T σ 0)) = some j := yin_some hj (by show s_n σ 0 < _; omega)
    by_cases hk6 : (s_ac σ 0 j).1 = 6
    · refine y_ofW (cc := b_S_at) (maxL := 3) (ret := (some .long)) (by decide) rfl (Nat.le_of_ble_eq_true rfl) ?_
      intro pv ev sv mv bv tv cv ls hI hsz hw hl
      obtain ⟨hx, hb, hr, hml, hts, hown, hlocks, hnm, hK, hAb, hb0, hA⟩ := id hI
      have ht : ∀ w ∈ lg_tbl, w.before _ sv = true := fun w h => hts w (List.mem_cons_of_mem _ h)
      have hl : lv_has ls 3 [(0, .ref (ad (0, 0, 0))), (1, .int (nI j)), (2, .int v)] := hl
      refine lv_aload_n hx hb d_S_at_0 rfl (lv_at hl 0 rfl) ?_
      refine yr_get (C := R_S) (T := F_S) (N := 3) (ci := k_S) hx hb ht j_S hown hK.1 hw (by assumption) (by rfl) rfl 0 (by decide) (ht _ mf_S_14) (fun _ h9 => h9) (by rfl) d_S_at_1 ?_
      refine lv_iload_n hx hb d_S_at_4 rfl (lv_at hl 1 rfl) ?_
      refine lv_bipush (v := (nI 6)) hx hb d_S_at_5 (by decide) ?_
      refine yc_q (va_runV (As := [.int _, .int _]) (rest := []) ⟨hx, hb, hml, hown, hts⟩ (c_Y_findKind l D cc ad LL X b0 _ σ hL 0 (by omega) hi j hj 6 (by omega) hk6) (cwV 2 hts (yg_call mc_Y_findKind ml_S_29 mm_Y_findKind ms_Y_findKind mi_Y) rfl rfl rfl (by decide +kernel) ⟨Nat.le_of_ble_eq_true rfl, Nat.le_of_ble_eq_true rfl⟩) (y_preV hI hw (y_recv hK.1 hw n0 (by rfl) rfl)) rfl rfl hl.1 rfl (lv_room (Nat.le_of_ble_eq_true rfl)) d_S_at_7 ⟨Nat.le_of_ble_eq_true rfl, Nat.le_of_ble_eq_true rfl⟩) hw hA (fun r u H locs he hw => ?_)
      subst he
      rw [yrf_s]
      refine lv_iload_n hx hb d_S_at_10 rfl (lv_at hl 2 rfl) ?_
      refine yc_l (va_runS (As := [.ref _, .int _]) (rest := []) ⟨hx, hb, hml, hown, hts⟩ (c_S_keptValue l D cc ad LL X b0 _ σ hL 0 j (by omega) hj hi hk6 v) (va_cwS 2 hts (yg_callS mc_S_keptValue ml_S_62 mt_S_keptValue mi_S) rfl rfl rfl (by decide +kernel) ⟨Nat.le_of_ble_eq_true rfl, Nat.le_of_ble_eq_true rfl⟩) (y_preS hI hw) rfl rfl hl.1 rfl (lv_room (Nat.le_of_ble_eq_true rfl)) d_S_at_11 ⟨Nat.le_of_ble_eq_true rfl, Nat.le_of_ble_eq_true rfl⟩) hw hA (fun r u H locs he hw => ?_)
      subst he
      exact ye_l hI () (by unfold a_at; rw [hjn]; show _ = if (s_ac σ 0 j).1 = 6 then _ else _; rw [if_pos hk6]; exact at_eq hk6 v) hw d_S_at_14
    · refine y_ofW (cc := b_S_at) (maxL := 3) (ret := (some .long)) (by decide) rfl (Nat.le_of_ble_eq_true rfl) ?_
      intro pv ev sv mv bv tv cv ls hI hsz hw hl
      obtain ⟨hx, hb, hr, hml, hts, hown, hlocks, hnm, hK, hAb, hb0, hA⟩ := id hI
      have ht : ∀ w ∈ lg_tbl, w.before _ sv = true := fun w h => hts w (List.mem_cons_of_mem _ h)
      have hl : lv_has ls 3 [(0, .ref (ad (0, 0, 0))), (1, .int (nI j)), (2, .int v)] := hl
      refine lv_aload_n hx hb d_S_at_0 rfl (lv_at hl 0 rfl) ?_
      refine yr_get (C := R_S) (T := F_S) (N := 3) (ci := k_S) hx hb ht j_S hown hK.1 hw (by assumption) (by rfl) rfl 0 (by decide) (ht _ mf_S_14) (fun _ h9 => h9) (by rfl) d_S_at_1 ?_
      refine lv_iload_n hx hb d_S_at_4 rfl (lv_at hl 1 rfl) ?_
      refine lv_bipush (v := (nI 6)) hx hb d_S_at_5 (by decide) ?_
      refine yc_q (va_runV (As := [.int _, .int _]) (rest := []) ⟨hx, hb, hml, hown, hts⟩ (c_Y_findKind_other l D cc ad LL X b0 _ σ hL 0 (by omega) hi j hj 6 (by omega) hk6) (cwV 2 hts (yg_call mc_Y_findKind ml_S_29 mm_Y_findKind ms_Y_findKind mi_Y) rfl rfl rfl (by decide +kernel) ⟨Nat.le_of_ble_eq_true rfl, Nat.le_of_ble_eq_true rfl⟩) (y_preV hI hw (y_recv hK.1 hw n0 (by rfl) rfl)) rfl rfl hl.1 rfl (lv_room (Nat.le_of_ble_eq_true rfl)) d_S_at_7 ⟨Nat.le_of_ble_eq_true rfl, Nat.le_of_ble_eq_true rfl⟩) hw hA (fun r u H locs he hw => ?_)
      subst he
      rw [yrf_n]
      refine lv_iload_n hx hb d_S_at_10 rfl (lv_at hl 2 rfl) ?_
      refine yc_l (va_runS (As := [.null, .int _]) (rest := []) ⟨hx, hb, hml, hown, hts⟩ (c_S_keptValue_null l D cc ad LL X b0 _ σ v) (va_cwS 2 hts (yg_callS mc_S_keptValue ml_S_62 mt_S_keptValue mi_S) rfl rfl rfl (by decide +kernel) ⟨Nat.le_of_ble_eq_true rfl, Nat.le_of_ble_eq_true rfl⟩) (y_preS hI hw) rfl rfl hl.1 rfl (lv_room (Nat.le_of_ble_eq_true rfl)) d_S_at_11 ⟨Nat.le_of_ble_eq_true rfl, Nat.le_of_ble_eq_true rfl⟩) hw hA (fun r u H locs he hw => ?_)
      subst he
      exact ye_l hI () (by unfold a_at; rw [hjn]; show _ = if (s_ac σ 0 j).1 = 6 then _ else _; rw [if_neg hk6]) hw d_S_at_14
set_option maxHeartbeats 4000000 in
set_option maxRecDepth 100000 in
theorem c_S_waits (l : Launch) (D : va_G) (cc : ClassId × ClassId × ClassId) (ad : yl → Nat) (LL : List yl) (X : va_W) (b0 sz : Nat) (σ : ys) (hL : ∀ q, yL σ q → q ∈ LL) (hJ : yJ σ) (x : Int32) : Met l y_S_waits w_S_waits ({ frames := 1, cells := 0, slots := 0, locals := 21 }) (yPr D cc b0 [.ref (ad (0, 0, 0)), .int x] (yW cc ad LL X σ) sz) (yQi D (yW cc ad LL X σ) sz (a_waits (s_nc σ 0) (s_D σ 0) x) (yW cc ad LL X σ)) 0 0 (va_A (yW cc ad LL X σ) sz) := by
  have o0 : (0, 0, 0) ∈ LL := hL _ ⟨rfl, rfl⟩
  have n0 : (1, 0, 0) ∈ LL := hL _ ⟨by omega, rfl⟩
  have n1 : (1, 1, 0) ∈ LL := hL _ ⟨by omega, rfl⟩
  have hi := hJ.1
  have hi1 := hJ.2.1
  have hn10 := hi.1.1
  have hc16 := hi.2.1
  have hm10 := hi1.1.1
  have hd16 := hi1.2.1
  rcases ysplit x (n := s_nc σ 0) (by omega) with hno | ⟨j, hj, rfl⟩
  · refine y_ofW (cc := b_S_waits) (maxL := 3) (ret := (some .int)) (by decide) rfl (Nat.le_of_ble_eq_true rfl) ?_
    intro pv ev sv mv bv tv cv ls hI hsz hw hl
    obtain ⟨hx, hb, hr, hml, hts, hown, hlocks, hnm, hK, hAb, hb0, hA⟩ := id hI
    have ht : ∀ w ∈ lg_tbl, w.before _ sv = true := fun w h => hts w (List.mem_cons_of_mem _ h)
    have hl : lv_has ls 3 [(0, .ref (ad (0, 0, 0))), (1, .int x)] := hl
    refine lv_aload_n hx hb d_S_waits_0 rfl (lv_at hl 0 rfl) ?_
    refine yr_get (C := R_S) (T := F_S) (N := 3) (ci := k_S) hx hb ht j_S hown hK.1 hw (by assumption) (by rfl) rfl 0 (by decide) (ht _ mf_S_14) (fun _ h9 => h9) (by rfl) d_S_waits_1 ?_
    refine lv_iload_n hx hb d_S_waits_4 rfl (lv_at hl 1 rfl) ?_
    refine yc_q (va_runV (As := [.int _]) (rest := []) ⟨hx, hb, hml, hown, hts⟩ (c_Y_findChannel_no l D cc ad LL X b0 _ σ hL 0 (by omega) hi x hno) (cwV 1 hts (yg_call mc_Y_findChannel ml_S_66 mm_Y_findChannel ms_Y_findChannel mi_Y) rfl rfl rfl (by decide +kernel) ⟨Nat.le_of_ble_eq_true rfl, Nat.le_of_ble_eq_true rfl⟩) (y_preV hI hw (y_recv hK.1 hw n0 (by rfl) rfl)) rfl rfl hl.1 rfl (lv_room (Nat.le_of_ble_eq_true rfl)) d_S_waits_5 ⟨Nat.le_of_ble_eq_true rfl, Nat.le_of_ble_eq_true rfl⟩) hw hA (fun r u H locs he hw => ?_)
    subst he
    rw [yrf_n]
    refine lv_astore_nN (lv' := [(2, .null), (0, .ref _), (1, .int _)]) hx hb d_S_waits_8 rfl hl (by decide) rfl (fun ls hl => ?_)
    refine lv_aload_nN hx hb d_S_waits_9 rfl (lv_at hl 0 rfl) ?_
    refine lv_ifnonnullN hx hb d_S_waits_10 ?_
    refine lv_iconst (v := (-1)) hx hb d_S_waits_13 (by decide) ?_
    refine lv_goto (tgt := 21) hx hb d_S_waits_14 (by decide) ?_
    exact ye_i hI () (by unfold a_waits; rw [yin_no hno]) hw d_S_waits_21
  · have h9 : (9, 0, j) ∈ LL := hL _ ⟨by omega, hj⟩
    have h10 : (10, 0, j) ∈ LL := hL _ ⟨by omega, hj⟩
    have hjn : yin (nI j) (s_nc σ 0) = some j := yin_some hj (by omega)
    obtain ⟨b1, b2, b3, b4⟩ := hi.2.2.2.1 j
    refine y_ofW (cc := b_S_waits) (maxL := 3) (ret := (some .int)) (by decide) rfl (Nat.le_of_ble_eq_true rfl) ?_
    intro pv ev sv mv bv tv cv ls hI hsz hw hl
    obtain ⟨hx, hb, hr, hml, hts, hown, hlocks, hnm, hK, hAb, hb0, hA⟩ := id hI
    have ht : ∀ w ∈ lg_tbl, w.before _ sv = true := fun w h => hts w (List.mem_cons_of_mem _ h)
    have hl : lv_has ls 3 [(0, .ref (ad (0, 0, 0))), (1, .int (nI j))] := hl
    refine lv_aload_n hx hb d_S_waits_0 rfl (lv_at hl 0 rfl) ?_
    refine yr_get (C := R_S) (T := F_S) (N := 3) (ci := k_S) hx hb ht j_S hown hK.1 hw (by assumption) (by rfl) rfl 0 (by decide) (ht _ mf_S_14) (fun _ h9 => h9) (by rfl) d_S_waits_1 ?_
    refine lv_iload_n hx hb d_S_waits_4 rfl (lv_at hl 1 rfl) ?_
    refine yc_q (va_runV (As := [.int _]) (rest := []) ⟨hx, hb, hml, hown, hts⟩ (c_Y_findChannel l D cc ad LL X b0 _ σ hL 0 (by omega) hi j hj) (cwV 1 hts (yg_call mc_Y_findChannel ml_S_66 mm_Y_findChannel ms_Y_findChannel mi_Y) rfl rfl rfl (by decide +kernel) ⟨Nat.le_of_ble_eq_true rfl, Nat.le_of_ble_eq_true rfl⟩) (y_preV hI hw (y_recv hK.1 hw n0 (by rfl) rfl)) rfl rfl hl.1 rfl (lv_room (Nat.le_of_ble_eq_true rfl)) d_S_waits_5 ⟨Nat.le_of_ble_eq_true rfl, Nat.le_of_ble_eq_true rfl⟩) hw hA (fun r u H locs he hw => ?_)
    subst he
    rw [yrf_s]
    refine lv_astore_n (lv' := [(2, .ref _), (0, .ref _), (1, .int _)]) hx hb d_S_waits_8 rfl hl (by decide) rfl (fun ls hl => ?_)
    refine lv_aload_n hx hb d_S_waits_9 rfl (lv_at hl 0 rfl) ?_
    refine lv_ifnonnull (tgt := 17) hx hb d_S_waits_10 (by decide) ?_
    refine lv_aload_n hx hb d_S_waits_17 rfl (lv_at hl 0 rfl) ?_
    refine yc_i (va_runV (As := []) (rest := []) ⟨hx, hb, hml, hown, hts⟩ (c_C_size l D cc ad LL X b0 _ σ 0 j h9 h10) (cwV 0 hts (yg_call mc_C_size ml_S_70 mm_C_size ms_C_size mi_C) rfl rfl rfl (by decide +kernel) ⟨Nat.le_of_ble_eq_true rfl, Nat.le_of_ble_eq_true rfl⟩) (y_preV hI hw (y_recv hK.1 hw h9 (by rfl) rfl)) rfl rfl hl.1 rfl (lv_room (Nat.le_of_ble_eq_true rfl)) d_S_waits_18 ⟨Nat.le_of_ble_eq_true rfl, Nat.le_of_ble_eq_true rfl⟩) hw hA (fun r u H locs he hw => ?_)
    subst he
    exact ye_i hI () (by unfold a_waits; rw [hjn]; show _ = nI (yrq _ _ _).length; rw [yrq_len]) hw d_S_waits_21
set_option maxHeartbeats 4000000 in
set_option maxRecDepth 100000 in
theorem c_S_waiting (l : Launch) (D : va_G) (cc : ClassId × ClassId × ClassId) (ad : yl → Nat) (LL : List yl) (X : va_W) (b0 sz : Nat) (σ : ys) (hL : ∀ q, yL σ q → q ∈ LL) (hJ : yJ σ) (x v : Int32) : Met l y_S_waiting w_S_waiting ({ frames := 1, cells := 0, slots := 0, locals := 21 }) (yPr D cc b0 [.ref (ad (0, 0, 0)), .int x, .int v] (yW cc ad LL X σ) sz) (yQl D (yW cc ad LL X σ) sz (a_waiting (s_nc σ 0) (s_D σ 0) x v) (yW cc ad LL X σ)) 0 0 (va_A (yW cc ad LL X σ) sz) := by
  have o0 : (0, 0, 0) ∈ LL := hL _ ⟨rfl, rfl⟩
  have n0 : (1, 0, 0) ∈ LL := hL _ ⟨by omega, rfl⟩
  have n1 : (1, 1, 0) ∈ LL := hL _ ⟨by omega, rfl⟩
  have hi := hJ.1
  have hi1 := hJ.2.1
  have hn10 := hi.1.1
  have hc16 := hi.2.1
  have hm10 := hi1.1.1
  have hd16 := hi1.2.1
  rcases ysplit x (n := s_nc σ 0) (by omega) with hno | ⟨j, hj, rfl⟩
  · refine y_ofW (cc := b_S_waiting) (maxL := 4) (ret := (some .long)) (by decide) rfl (Nat.le_of_ble_eq_true rfl) ?_
    intro pv ev sv mv bv tv cv ls hI hsz hw hl
    obtain ⟨hx, hb, hr, hml, hts, hown, hlocks, hnm, hK, hAb, hb0, hA⟩ := id hI
    have ht : ∀ w ∈ lg_tbl, w.before _ sv = true := fun w h => hts w (List.mem_cons_of_mem _ h)
    have hl : lv_has ls 4 [(0, .ref (ad (0, 0, 0))), (1, .int x), (2, .int v)] := hl
    refine lv_aload_n hx hb d_S_waiting_0 rfl (lv_at hl 0 rfl) ?_
    refine yr_get (C := R_S) (T := F_S) (N := 3) (ci := k_S) hx hb ht j_S hown hK.1 hw (by assumption) (by rfl) rfl 0 (by decide) (ht _ mf_S_14) (fun _ h9 => h9) (by rfl) d_S_waiting_1 ?_
    refine lv_iload_n hx hb d_S_waiting_4 rfl (lv_at hl 1 rfl) ?_
    refine yc_q (va_runV (As := [.int _]) (rest := []) ⟨hx, hb, hml, hown, hts⟩ (c_Y_findChannel_no l D cc ad LL X b0 _ σ hL 0 (by omega) hi x hno) (cwV 1 hts (yg_call mc_Y_findChannel ml_S_66 mm_Y_findChannel ms_Y_findChannel mi_Y) rfl rfl rfl (by decide +kernel) ⟨Nat.le_of_ble_eq_true rfl, Nat.le_of_ble_eq_true rfl⟩) (y_preV hI hw (y_recv hK.1 hw n0 (by rfl) rfl)) rfl rfl hl.1 rfl (lv_room (Nat.le_of_ble_eq_true rfl)) d_S_waiting_5 ⟨Nat.le_of_ble_eq_true rfl, Nat.le_of_ble_eq_true rfl⟩) hw hA (fun r u H locs he hw => ?_)
    subst he
    rw [yrf_n]
    refine lv_astore_nN (lv' := [(3, .null), (0, .ref _), (1, .int _), (2, .int _)]) hx hb d_S_waiting_8 rfl hl (by decide) rfl (fun ls hl => ?_)
    refine lv_aload_nN hx hb d_S_waiting_9 rfl (lv_at hl 0 rfl) ?_
    refine lv_ifnullN (tgt := 25) hx hb d_S_waiting_10 (by decide) ?_
    refine lv_ldc2 hx hb hown (ht _ mq_S_76) d_S_waiting_25 ?_
    exact ye_l hI () (by unfold a_waiting; rw [yin_no hno]) hw d_S_waiting_28
  · have h9 : (9, 0, j) ∈ LL := hL _ ⟨by omega, hj⟩
    have h10 : (10, 0, j) ∈ LL := hL _ ⟨by omega, hj⟩
    have hjn : yin (nI j) (s_nc σ 0) = some j := yin_some hj (by omega)
    obtain ⟨b1, b2, b3, b4⟩ := hi.2.2.2.1 j
    rcases ysplit v (n := (s_ch σ 0 j).2.2) (by omega) with hno | ⟨t, htt, rfl⟩
    · refine y_ofW (cc := b_S_waiting) (maxL := 4) (ret := (some .long)) (by decide) rfl (Nat.le_of_ble_eq_true rfl) ?_
      intro pv ev sv mv bv tv cv ls hI hsz hw hl
      obtain ⟨hx, hb, hr, hml, hts, hown, hlocks, hnm, hK, hAb, hb0, hA⟩ := id hI
      have ht : ∀ w ∈ lg_tbl, w.before _ sv = true := fun w h => hts w (List.mem_cons_of_mem _ h)
      have hl : lv_has ls 4 [(0, .ref (ad (0, 0, 0))), (1, .int (nI j)), (2, .int v)] := hl
      refine lv_aload_n hx hb d_S_waiting_0 rfl (lv_at hl 0 rfl) ?_
      refine yr_get (C := R_S) (T := F_S) (N := 3) (ci := k_S) hx hb ht j_S hown hK.1 hw (by assumption) (by rfl) rfl 0 (by decide) (ht _ mf_S_14) (fun _ h9 => h9) (by rfl) d_S_waiting_1 ?_
      refine lv_iload_n hx hb d_S_waiting_4 rfl (lv_at hl 1 rfl) ?_
      refine yc_q (va_runV (As := [.int _]) (rest := []) ⟨hx, hb, hml, hown, hts⟩ (c_Y_findChannel l D cc ad LL X b0 _ σ hL 0 (by omega) hi j hj) (cwV 1 hts (yg_call mc_Y_findChannel ml_S_66 mm_Y_findChannel ms_Y_findChannel mi_Y) rfl rfl rfl (by decide +kernel) ⟨Nat.le_of_ble_eq_true rfl, Nat.le_of_ble_eq_true rfl⟩) (y_preV hI hw (y_recv hK.1 hw n0 (by rfl) rfl)) rfl rfl hl.1 rfl (lv_room (Nat.le_of_ble_eq_true rfl)) d_S_waiting_5 ⟨Nat.le_of_ble_eq_true rfl, Nat.le_of_ble_eq_true rfl⟩) hw hA (fun r u H locs he hw => ?_)
      subst he
      rw [yrf_s]
      refine lv_astore_n (lv' := [(3, .ref _), (0, .ref _), (1, .int _), (2, .int _)]) hx hb d_S_waiting_8 rfl hl (by decide) rfl (fun ls hl => ?_)
      refine lv_aload_n hx hb d_S_waiting_9 rfl (lv_at hl 0 rfl) ?_
      refine lv_ifnull hx hb d_S_waiting_10 ?_
      refine lv_iload_n hx hb d_S_waiting_13 rfl (lv_at hl 3 rfl) ?_
      refine lv_if_lt (tgt := 25) hx hb d_S_waiting_14 (by decide) (fun c_14 => ?_) (fun c_14 => ?_)
      · refine lv_ldc2 hx hb hown (ht _ mq_S_76) d_S_waiting_25 ?_
        exact ye_l hI () (by unfold a_waiting; rw [hjn]; exact (wt_no hno).symm) hw d_S_waiting_28
      · refine lv_iload_n hx hb d_S_waiting_17 rfl (lv_at hl 3 rfl) ?_
        refine lv_aload_n hx hb d_S_waiting_18 rfl (lv_at hl 0 rfl) ?_
        refine yc_i (va_runV (As := []) (rest := [.int _]) ⟨hx, hb, hml, hown, hts⟩ (c_C_size l D cc ad LL X b0 _ σ 0 j h9 h10) (cwV 0 hts (yg_call mc_C_size ml_S_70 mm_C_size ms_C_size mi_C) rfl rfl rfl (by decide +kernel) ⟨Nat.le_of_ble_eq_true rfl, Nat.le_of_ble_eq_true rfl⟩) (y_preV hI hw (y_recv hK.1 hw h9 (by rfl) rfl)) rfl rfl hl.1 rfl (lv_room (Nat.le_of_ble_eq_true rfl)) d_S_waiting_19 ⟨Nat.le_of_ble_eq_true rfl, Nat.le_of_ble_eq_true rfl⟩) hw hA (fun r u H locs he hw => ?_)
        subst he
        refine lv_icmp_lt (tgt := 29) hx hb d_S_waiting_22 (by decide) (fun c_22 => by exact (hno.elim (fun h => absurd h c_14) (fun h => absurd c_22 (Int32.not_lt.mpr h)))) (fun c_22 => ?_)
        refine lv_ldc2 hx hb hown (ht _ mq_S_76) d_S_waiting_25 ?_
        exact ye_l hI () (by unfold a_waiting; rw [hjn]; exact (wt_no hno).symm) hw d_S_waiting_28
    · refine y_ofW (cc := b_S_waiting) (maxL := 4) (ret := (some .long)) (by decide) rfl (Nat.le_of_ble_eq_true rfl) ?_
      intro pv ev sv mv bv tv cv ls hI hsz hw hl
      obtain ⟨hx, hb, hr, hml, hts, hown, hlocks, hnm, hK, hAb, hb0, hA⟩ := id hI
      have ht : ∀ w ∈ lg_tbl, w.before _ sv = true := fun w h => hts w (List.mem_cons_of_mem _ h)
      have hl : lv_has ls 4 [(0, .ref (ad (0, 0, 0))), (1, .int (nI j)), (2, .int (nI t))] := hl
      refine lv_aload_n hx hb d_S_waiting_0 rfl (lv_at hl 0 rfl) ?_
      refine yr_get (C := R_S) (T := F_S) (N := 3) (ci := k_S) hx hb ht j_S hown hK.1 hw (by assumption) (by rfl) rfl 0 (by decide) (ht _ mf_S_14) (fun _ h9 => h9) (by rfl) d_S_waiting_1 ?_
      refine lv_iload_n hx hb d_S_waiting_4 rfl (lv_at hl 1 rfl) ?_
      refine yc_q (va_runV (As := [.int _]) (rest := []) ⟨hx, hb, hml, hown, hts⟩ (c_Y_findChannel l D cc ad LL X b0 _ σ hL 0 (by omega) hi j hj) (cwV 1 hts (yg_call mc_Y_findChannel ml_S_66 mm_Y_findChannel ms_Y_findChannel mi_Y) rfl rfl rfl (by decide +kernel) ⟨Nat.le_of_ble_eq_true rfl, Nat.le_of_ble_eq_true rfl⟩) (y_preV hI hw (y_recv hK.1 hw n0 (by rfl) rfl)) rfl rfl hl.1 rfl (lv_room (Nat.le_of_ble_eq_true rfl)) d_S_waiting_5 ⟨Nat.le_of_ble_eq_true rfl, Nat.le_of_ble_eq_true rfl⟩) hw hA (fun r u H locs he hw => ?_)
      subst he
      rw [yrf_s]
      refine lv_astore_n (lv' := [(3, .ref _), (0, .ref _), (1, .int _), (2, .int _)]) hx hb d_S_waiting_8 rfl hl (by decide) rfl (fun ls hl => ?_)
      refine lv_aload_n hx hb d_S_waiting_9 rfl (lv_at hl 0 rfl) ?_
      refine lv_ifnull hx hb d_S_waiting_10 ?_
      refine lv_iload_n hx hb d_S_waiting_13 rfl (lv_at hl 3 rfl) ?_
      refine lv_if_lt (tgt := 25) hx hb d_S_waiting_14 (by decide) (fun c_14 => by exact absurd c_14 (nI_pos (by omega))) (fun c_14 => ?_)
      refine lv_iload_n hx hb d_S_waiting_17 rfl (lv_at hl 3 rfl) ?_
      refine lv_aload_n hx hb d_S_waiting_18 rfl (lv_at hl 0 rfl) ?_
      refine yc_i (va_runV (As := []) (rest := [.int _]) ⟨hx, hb, hml, hown, hts⟩ (c_C_size l D cc ad LL X b0 _ σ 0 j h9 h10) (cwV 0 hts (yg_call mc_C_size ml_S_70 mm_C_size ms_C_size mi_C) rfl rfl rfl (by decide +kernel) ⟨Nat.le_of_ble_eq_true rfl, Nat.le_of_ble_eq_true rfl⟩) (y_preV hI hw (y_recv hK.1 hw h9 (by rfl) rfl)) rfl rfl hl.1 rfl (lv_room (Nat.le_of_ble_eq_true rfl)) d_S_waiting_19 ⟨Nat.le_of_ble_eq_true rfl, Nat.le_of_ble_eq_true rfl⟩) hw hA (fun r u H locs he hw => ?_)
      subst he
      refine lv_icmp_lt (tgt := 29) hx hb d_S_waiting_22 (by decide) (fun c_22 => ?_) (fun c_22 => by exact absurd (nI_lt htt (by omega)) c_22)
      refine lv_aload_n hx hb d_S_waiting_29 rfl (lv_at hl 0 rfl) ?_
      refine lv_iload_n hx hb d_S_waiting_30 rfl (lv_at hl 3 rfl) ?_
      refine yc_i (va_runV (As := [.int _]) (rest := []) ⟨hx, hb, hml, hown, hts⟩ (c_C_peek l D cc ad LL X b0 _ σ 0 j h9 h10 ⟨by omega, by omega, by omega⟩ t (by omega)) (cwV 1 hts (yg_call mc_C_peek ml_S_78 mm_C_peek ms_C_peek mi_C) rfl rfl rfl (by decide +kernel) ⟨Nat.le_of_ble_eq_true rfl, Nat.le_of_ble_eq_true rfl⟩) (y_preV hI hw (y_recv hK.1 hw h9 (by rfl) rfl)) rfl rfl hl.1 rfl (lv_room (Nat.le_of_ble_eq_true rfl)) d_S_waiting_31 ⟨Nat.le_of_ble_eq_true rfl, Nat.le_of_ble_eq_true rfl⟩) hw hA (fun r u H locs he hw => ?_)
      subst he
      refine lv_i2l hx hb d_S_waiting_34 rfl ?_
      exact ye_l hI () (by unfold a_waiting; rw [hjn]; exact (wt_yes htt (by omega)).symm) hw d_S_waiting_35
