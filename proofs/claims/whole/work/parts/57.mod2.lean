/-! THE REFERENCE: can, act, acted, kept, waits -/
set_option maxHeartbeats 4000000 in
set_option maxRecDepth 100000 in
theorem c_M_can (l : Launch) (D : va_G) (cc : ClassId × ClassId × ClassId) (ad : yl → Nat) (X : va_W) (b0 sz : Nat) (μ : ms) (hi : mI μ 0) (x : Int32) : Met l y_M_can w_M_can ({ frames := 2, cells := 0, slots := 0, locals := 47 }) (yPr D cc b0 [.ref (ad (20, 0, 0)), .int x] (mW cc ad X μ) sz) (yQi D (mW cc ad X μ) sz (a_can (m_T μ) (m_D μ 0) x) (mW cc ad X μ)) 0 0 (va_A (mW cc ad X μ) sz) := by
  have hn10 := hi.1
  have hc16 := hi.2.1
  rcases ysplit x (n := m_n μ) (by omega) with hno | ⟨j, hj, rfl⟩
  · refine y_ofW (cc := b_M_can) (maxL := 2) (ret := (some .boolean)) (by decide) rfl (Nat.le_of_ble_eq_true rfl) ?_
    intro pv ev sv mv bv tv cv ls hI hsz hw hl
    obtain ⟨hx, hb, hr, hml, hts, hown, hlocks, hnm, hK, hAb, hb0, hA⟩ := id hI
    have ht : ∀ w ∈ lg_tbl, w.before _ sv = true := fun w h => hts w (List.mem_cons_of_mem _ h)
    have hl : lv_has ls 2 [(0, .ref (ad (20, 0, 0))), (1, .int x)] := hl
    refine lv_aload_n hx hb d_M_can_0 rfl (lv_at hl 0 rfl) ?_
    refine lv_iload_n hx hb d_M_can_1 rfl (lv_at hl 1 rfl) ?_
    refine yc_i (va_runV (As := [.int _]) (rest := []) ⟨hx, hb, hml, hown, hts⟩ (c_M_isActor_no l D cc ad X b0 _ μ hi x hno) (cwV 1 hts (yg_call mc_M_isActor ml_M_56 mm_M_isActor ms_M_isActor mi_M) rfl rfl rfl (by decide +kernel) ⟨Nat.le_of_ble_eq_true rfl, Nat.le_of_ble_eq_true rfl⟩) (y_preV hI hw (y_recv hK.1 hw mL_o (by rfl) rfl)) rfl rfl hl.1 rfl (lv_room (Nat.le_of_ble_eq_true rfl)) d_M_can_2 ⟨Nat.le_of_ble_eq_true rfl, Nat.le_of_ble_eq_true rfl⟩) hw hA (fun r u H locs he hw => ?_)
    subst he
    refine lv_if_eq (tgt := 21) hx hb d_M_can_5 (by decide) (fun c_5 => ?_) (fun c_5 => by first | exact absurd c_5 (by decide) | exact (c_5 (by decide)).elim)
    refine lv_iconst (v := (nI 0)) hx hb d_M_can_21 (by decide) ?_
    exact ye_z hI (by decide) () (by unfold a_can; rw [yin_no (show x < 0 ∨ nI (yp_n (m_T μ)) ≤ x from hno)]; rfl) hw d_M_can_22
  · have hjn : yin (nI j) (yp_n (m_T μ)) = some j := yin_some hj (by show m_n μ < _; omega)
    obtain ⟨a1, a2, a3, a4, a5, a6, a7⟩ := hi.2.2.2.2.1 j
    refine y_ofW (cc := b_M_can) (maxL := 2) (ret := (some .boolean)) (by decide) rfl (Nat.le_of_ble_eq_true rfl) ?_
    intro pv ev sv mv bv tv cv ls hI hsz hw hl
    obtain ⟨hx, hb, hr, hml, hts, hown, hlocks, hnm, hK, hAb, hb0, hA⟩ := id hI
    have ht : ∀ w ∈ lg_tbl, w.before _ sv = true := fun w h => hts w (List.mem_cons_of_mem _ h)
    have hl : lv_has ls 2 [(0, .ref (ad (20, 0, 0))), (1, .int (nI j))] := hl
    refine lv_aload_n hx hb d_M_can_0 rfl (lv_at hl 0 rfl) ?_
    refine lv_iload_n hx hb d_M_can_1 rfl (lv_at hl 1 rfl) ?_
    refine yc_i (va_runV (As := [.int _]) (rest := []) ⟨hx, hb, hml, hown, hts⟩ (c_M_isActor l D cc ad X b0 _ μ hi j hj) (cwV 1 hts (yg_call mc_M_isActor ml_M_56 mm_M_isActor ms_M_isActor mi_M) rfl rfl rfl (by decide +kernel) ⟨Nat.le_of_ble_eq_true rfl, Nat.le_of_ble_eq_true rfl⟩) (y_preV hI hw (y_recv hK.1 hw mL_o (by rfl) rfl)) rfl rfl hl.1 rfl (lv_room (Nat.le_of_ble_eq_true rfl)) d_M_can_2 ⟨Nat.le_of_ble_eq_true rfl, Nat.le_of_ble_eq_true rfl⟩) hw hA (fun r u H locs he hw => ?_)
    subst he
    refine lv_if_eq (tgt := 21) hx hb d_M_can_5 (by decide) (fun c_5 => by first | exact absurd c_5 (by decide) | exact (c_5 (by decide)).elim) (fun c_5 => ?_)
    refine lv_aload_n hx hb d_M_can_8 rfl (lv_at hl 0 rfl) ?_
    refine lv_iconst (v := (nI 0)) hx hb d_M_can_9 (by decide) ?_
    refine lv_iload_n hx hb d_M_can_10 rfl (lv_at hl 1 rfl) ?_
    refine yc_i (va_runV (As := [.int _, .int _]) (rest := []) ⟨hx, hb, hml, hown, hts⟩ (c_M_canAct l D cc ad X b0 _ μ 0 j (by omega) hj hi) (cwV 2 hts (yg_call mc_M_canAct ml_M_88 mm_M_canAct ms_M_canAct mi_M) rfl rfl rfl (by decide +kernel) ⟨Nat.le_of_ble_eq_true rfl, Nat.le_of_ble_eq_true rfl⟩) (y_preV hI hw (y_recv hK.1 hw mL_o (by rfl) rfl)) rfl rfl hl.1 rfl (lv_room (Nat.le_of_ble_eq_true rfl)) d_M_can_11 ⟨Nat.le_of_ble_eq_true rfl, Nat.le_of_ble_eq_true rfl⟩) hw hA (fun r u H locs he hw => ?_)
    subst he
    refine lv_if_eq (tgt := 21) hx hb d_M_can_14 (by decide) (fun c_14 => ?_) (fun c_14 => ?_)
    · have e1 := yb_0 c_14
      refine lv_iconst (v := (nI 0)) hx hb d_M_can_21 (by decide) ?_
      exact ye_z hI (by decide) () (by unfold a_can; rw [hjn]; show _ = yb _; rw [e1]; rfl) hw d_M_can_22
    · have e1 := yb_1 c_14
      refine lv_iconst (v := (nI 1)) hx hb d_M_can_17 (by decide) ?_
      refine lv_goto (tgt := 22) hx hb d_M_can_18 (by decide) ?_
      exact ye_z hI (by decide) () (by unfold a_can; rw [hjn]; show _ = yb _; rw [e1]; rfl) hw d_M_can_22
set_option maxHeartbeats 4000000 in
set_option maxRecDepth 100000 in
theorem c_M_act (l : Launch) (D : va_G) (cc : ClassId × ClassId × ClassId) (ad : yl → Nat) (X : va_W) (b0 sz : Nat) (μ : ms) (hi : mI μ 0) (x : Int32) : Met l y_M_act w_M_act ({ frames := 2, cells := 0, slots := 0, locals := 53 }) (yPr D cc b0 [.ref (ad (20, 0, 0)), .int x] (mW cc ad X μ) sz) (va_Qi (fun r μ' => r = a_can (m_T μ) (m_D μ 0) x ∧ mX μ 0 μ' ∧ mI μ' 0 ∧ m_D μ' 0 = a_actD (m_T μ) (m_D μ 0) x) (yB D ycl (mW cc ad X μ) sz (fun μ' => mW cc ad X μ')) (va_A (mW cc ad X μ) sz)) 0 0 (va_A (mW cc ad X μ) sz) := by
  have hn10 := hi.1
  have hc16 := hi.2.1
  rcases ysplit x (n := m_n μ) (by omega) with hno | ⟨j, hj, rfl⟩
  · refine y_ofW (cc := b_M_act) (maxL := 2) (ret := (some .boolean)) (by decide) rfl (Nat.le_of_ble_eq_true rfl) ?_
    intro pv ev sv mv bv tv cv ls hI hsz hw hl
    obtain ⟨hx, hb, hr, hml, hts, hown, hlocks, hnm, hK, hAb, hb0, hA⟩ := id hI
    have ht : ∀ w ∈ lg_tbl, w.before _ sv = true := fun w h => hts w (List.mem_cons_of_mem _ h)
    have hl : lv_has ls 2 [(0, .ref (ad (20, 0, 0))), (1, .int x)] := hl
    refine lv_aload_n hx hb d_M_act_0 rfl (lv_at hl 0 rfl) ?_
    refine lv_iload_n hx hb d_M_act_1 rfl (lv_at hl 1 rfl) ?_
    refine yc_i (va_runV (As := [.int _]) (rest := []) ⟨hx, hb, hml, hown, hts⟩ (c_M_isActor_no l D cc ad X b0 _ μ hi x hno) (cwV 1 hts (yg_call mc_M_isActor ml_M_56 mm_M_isActor ms_M_isActor mi_M) rfl rfl rfl (by decide +kernel) ⟨Nat.le_of_ble_eq_true rfl, Nat.le_of_ble_eq_true rfl⟩) (y_preV hI hw (y_recv hK.1 hw mL_o (by rfl) rfl)) rfl rfl hl.1 rfl (lv_room (Nat.le_of_ble_eq_true rfl)) d_M_act_2 ⟨Nat.le_of_ble_eq_true rfl, Nat.le_of_ble_eq_true rfl⟩) hw hA (fun r u H locs he hw => ?_)
    subst he
    refine lv_if_eq (tgt := 17) hx hb d_M_act_5 (by decide) (fun c_5 => ?_) (fun c_5 => by first | exact absurd c_5 (by decide) | exact (c_5 (by decide)).elim)
    refine lv_iconst (v := (nI 0)) hx hb d_M_act_17 (by decide) ?_
    exact ye_z hI (by decide) μ ⟨by unfold a_can; rw [yin_no (show x < 0 ∨ nI (yp_n (m_T μ)) ≤ x from hno)]; rfl, mX.rf, hi, by unfold a_actD; rw [yin_no (show x < 0 ∨ nI (yp_n (m_T μ)) ≤ x from hno)]⟩ hw d_M_act_18
  · have hjn : yin (nI j) (yp_n (m_T μ)) = some j := yin_some hj (by show m_n μ < _; omega)
    obtain ⟨a1, a2, a3, a4, a5, a6, a7⟩ := hi.2.2.2.2.1 j
    refine y_ofW (cc := b_M_act) (maxL := 2) (ret := (some .boolean)) (by decide) rfl (Nat.le_of_ble_eq_true rfl) ?_
    intro pv ev sv mv bv tv cv ls hI hsz hw hl
    obtain ⟨hx, hb, hr, hml, hts, hown, hlocks, hnm, hK, hAb, hb0, hA⟩ := id hI
    have ht : ∀ w ∈ lg_tbl, w.before _ sv = true := fun w h => hts w (List.mem_cons_of_mem _ h)
    have hl : lv_has ls 2 [(0, .ref (ad (20, 0, 0))), (1, .int (nI j))] := hl
    refine lv_aload_n hx hb d_M_act_0 rfl (lv_at hl 0 rfl) ?_
    refine lv_iload_n hx hb d_M_act_1 rfl (lv_at hl 1 rfl) ?_
    refine yc_i (va_runV (As := [.int _]) (rest := []) ⟨hx, hb, hml, hown, hts⟩ (c_M_isActor l D cc ad X b0 _ μ hi j hj) (cwV 1 hts (yg_call mc_M_isActor ml_M_56 mm_M_isActor ms_M_isActor mi_M) rfl rfl rfl (by decide +kernel) ⟨Nat.le_of_ble_eq_true rfl, Nat.le_of_ble_eq_true rfl⟩) (y_preV hI hw (y_recv hK.1 hw mL_o (by rfl) rfl)) rfl rfl hl.1 rfl (lv_room (Nat.le_of_ble_eq_true rfl)) d_M_act_2 ⟨Nat.le_of_ble_eq_true rfl, Nat.le_of_ble_eq_true rfl⟩) hw hA (fun r u H locs he hw => ?_)
    subst he
    refine lv_if_eq (tgt := 17) hx hb d_M_act_5 (by decide) (fun c_5 => by first | exact absurd c_5 (by decide) | exact (c_5 (by decide)).elim) (fun c_5 => ?_)
    refine lv_aload_n hx hb d_M_act_8 rfl (lv_at hl 0 rfl) ?_
    refine lv_iconst (v := (nI 0)) hx hb d_M_act_9 (by decide) ?_
    refine lv_iload_n hx hb d_M_act_10 rfl (lv_at hl 1 rfl) ?_
    refine yc_i (va_runV (As := [.int _, .int _]) (rest := []) ⟨hx, hb, hml, hown, hts⟩ (c_M_canAct l D cc ad X b0 _ μ 0 j (by omega) hj hi) (cwV 2 hts (yg_call mc_M_canAct ml_M_88 mm_M_canAct ms_M_canAct mi_M) rfl rfl rfl (by decide +kernel) ⟨Nat.le_of_ble_eq_true rfl, Nat.le_of_ble_eq_true rfl⟩) (y_preV hI hw (y_recv hK.1 hw mL_o (by rfl) rfl)) rfl rfl hl.1 rfl (lv_room (Nat.le_of_ble_eq_true rfl)) d_M_act_11 ⟨Nat.le_of_ble_eq_true rfl, Nat.le_of_ble_eq_true rfl⟩) hw hA (fun r u H locs he hw => ?_)
    subst he
    refine lv_if_ne (tgt := 19) hx hb d_M_act_14 (by decide) (fun c_14 => ?_) (fun c_14 => ?_)
    · have e1 := yb_1 c_14
      refine lv_aload_n hx hb d_M_act_19 rfl (lv_at hl 0 rfl) ?_
      refine lv_iconst (v := (nI 0)) hx hb d_M_act_20 (by decide) ?_
      refine lv_iload_n hx hb d_M_act_21 rfl (lv_at hl 1 rfl) ?_
      refine yc_v (va_runV (As := [.int _, .int _]) (rest := []) ⟨hx, hb, hml, hown, hts⟩ (c_M_doAct l D cc ad X b0 _ μ 0 j (by omega) hj hi e1) (cwV 2 hts (yg_call mc_M_doAct ml_M_92 mm_M_doAct ms_M_doAct mi_M) rfl rfl rfl (by decide +kernel) ⟨Nat.le_of_ble_eq_true rfl, Nat.le_of_ble_eq_true rfl⟩) (y_preV hI hw (y_recv hK.1 hw mL_o (by rfl) rfl)) rfl rfl hl.1 rfl (lv_room (Nat.le_of_ble_eq_true rfl)) d_M_act_22 ⟨Nat.le_of_ble_eq_true rfl, Nat.le_of_ble_eq_true rfl⟩) hw hA (fun u H locs he hw => ?_)
      refine lv_iconst (v := (nI 1)) hx hb d_M_act_25 (by decide) ?_
      exact ye_z hI (by decide) u ⟨by unfold a_can; rw [hjn]; show _ = yb _; rw [e1]; rfl, he.1, he.2.2, by unfold a_actD; rw [hjn]; show _ = if _ then _ else _; rw [if_pos e1]; exact he.2.1⟩ hw d_M_act_26
    · have e1 := yb_0 c_14
      refine lv_iconst (v := (nI 0)) hx hb d_M_act_17 (by decide) ?_
      exact ye_z hI (by decide) μ ⟨by unfold a_can; rw [hjn]; show _ = yb _; rw [e1]; rfl, mX.rf, hi, by unfold a_actD; rw [hjn]; show _ = if _ then _ else _; rw [if_neg (by rw [e1]; decide)]⟩ hw d_M_act_18
set_option maxHeartbeats 4000000 in
set_option maxRecDepth 100000 in
theorem c_M_acted (l : Launch) (D : va_G) (cc : ClassId × ClassId × ClassId) (ad : yl → Nat) (X : va_W) (b0 sz : Nat) (μ : ms) (hi : mI μ 0) (x : Int32) : Met l y_M_acted w_M_acted ({ frames := 1, cells := 0, slots := 0, locals := 21 }) (yPr D cc b0 [.ref (ad (20, 0, 0)), .int x] (mW cc ad X μ) sz) (yQi D (mW cc ad X μ) sz (a_acted (m_T μ) (m_D μ 0) x) (mW cc ad X μ)) 0 0 (va_A (mW cc ad X μ) sz) := by
  have hn10 := hi.1
  have hc16 := hi.2.1
  rcases ysplit x (n := m_n μ) (by omega) with hno | ⟨j, hj, rfl⟩
  · refine y_ofW (cc := b_M_acted) (maxL := 2) (ret := (some .int)) (by decide) rfl (Nat.le_of_ble_eq_true rfl) ?_
    intro pv ev sv mv bv tv cv ls hI hsz hw hl
    obtain ⟨hx, hb, hr, hml, hts, hown, hlocks, hnm, hK, hAb, hb0, hA⟩ := id hI
    have ht : ∀ w ∈ lg_tbl, w.before _ sv = true := fun w h => hts w (List.mem_cons_of_mem _ h)
    have hl : lv_has ls 2 [(0, .ref (ad (20, 0, 0))), (1, .int x)] := hl
    refine lv_aload_n hx hb d_M_acted_0 rfl (lv_at hl 0 rfl) ?_
    refine lv_iload_n hx hb d_M_acted_1 rfl (lv_at hl 1 rfl) ?_
    refine yc_i (va_runV (As := [.int _]) (rest := []) ⟨hx, hb, hml, hown, hts⟩ (c_M_isActor_no l D cc ad X b0 _ μ hi x hno) (cwV 1 hts (yg_call mc_M_isActor ml_M_56 mm_M_isActor ms_M_isActor mi_M) rfl rfl rfl (by decide +kernel) ⟨Nat.le_of_ble_eq_true rfl, Nat.le_of_ble_eq_true rfl⟩) (y_preV hI hw (y_recv hK.1 hw mL_o (by rfl) rfl)) rfl rfl hl.1 rfl (lv_room (Nat.le_of_ble_eq_true rfl)) d_M_acted_2 ⟨Nat.le_of_ble_eq_true rfl, Nat.le_of_ble_eq_true rfl⟩) hw hA (fun r u H locs he hw => ?_)
    subst he
    refine lv_if_eq (tgt := 17) hx hb d_M_acted_5 (by decide) (fun c_5 => ?_) (fun c_5 => by first | exact absurd c_5 (by decide) | exact (c_5 (by decide)).elim)
    refine lv_iconst (v := (-1)) hx hb d_M_acted_17 (by decide) ?_
    exact ye_i hI () (by unfold a_acted; rw [yin_no (show x < 0 ∨ nI (yp_n (m_T μ)) ≤ x from hno)]) hw d_M_acted_18
  · have hjn : yin (nI j) (yp_n (m_T μ)) = some j := yin_some hj (by show m_n μ < _; omega)
    obtain ⟨a1, a2, a3, a4, a5, a6, a7⟩ := hi.2.2.2.2.1 j
    refine y_ofW (cc := b_M_acted) (maxL := 2) (ret := (some .int)) (by decide) rfl (Nat.le_of_ble_eq_true rfl) ?_
    intro pv ev sv mv bv tv cv ls hI hsz hw hl
    obtain ⟨hx, hb, hr, hml, hts, hown, hlocks, hnm, hK, hAb, hb0, hA⟩ := id hI
    have ht : ∀ w ∈ lg_tbl, w.before _ sv = true := fun w h => hts w (List.mem_cons_of_mem _ h)
    have hl : lv_has ls 2 [(0, .ref (ad (20, 0, 0))), (1, .int (nI j))] := hl
    refine lv_aload_n hx hb d_M_acted_0 rfl (lv_at hl 0 rfl) ?_
    refine lv_iload_n hx hb d_M_acted_1 rfl (lv_at hl 1 rfl) ?_
    refine yc_i (va_runV (As := [.int _]) (rest := []) ⟨hx, hb, hml, hown, hts⟩ (c_M_isActor l D cc ad X b0 _ μ hi j hj) (cwV 1 hts (yg_call mc_M_isActor ml_M_56 mm_M_isActor ms_M_isActor mi_M) rfl rfl rfl (by decide +kernel) ⟨Nat.le_of_ble_eq_true rfl, Nat.le_of_ble_eq_true rfl⟩) (y_preV hI hw (y_recv hK.1 hw mL_o (by rfl) rfl)) rfl rfl hl.1 rfl (lv_room (Nat.le_of_ble_eq_true rfl)) d_M_acted_2 ⟨Nat.le_of_ble_eq_true rfl, Nat.le_of_ble_eq_true rfl⟩) hw hA (fun r u H locs he hw => ?_)
    subst he
    refine lv_if_eq (tgt := 17) hx hb d_M_acted_5 (by decide) (fun c_5 => by first | exact absurd c_5 (by decide) | exact (c_5 (by decide)).elim) (fun c_5 => ?_)
    refine lv_aload_n hx hb d_M_acted_8 rfl (lv_at hl 0 rfl) ?_
    refine yr_get (C := R_M) (T := F_M) (N := 16) (ci := k_M) hx hb ht j_M hown hK.1 hw mL_o (by rfl) rfl 10 (by decide) (ht _ mf_M_34) (fun _ h9 => h9) (by rfl) d_M_acted_9 ?_
    refine lv_iload_n hx hb d_M_acted_12 rfl (lv_at hl 1 rfl) ?_
    refine yr_iald (v := nI (m_ac μ 0 j)) hx hb hK.1 hw mL_8 (by rfl) 0 rfl (vp_in_nI (N := 20) (by omega) (by omega)) (by rw [nI_clamp (by omega)]; show nI (m_ac μ (j / 10) (j % 10)) = _; rw [show j / 10 = 0 by omega, show j % 10 = j by omega]) d_M_acted_13 ?_
    refine lv_goto (tgt := 18) hx hb d_M_acted_14 (by decide) ?_
    exact ye_i hI () (by unfold a_acted; rw [hjn]; rfl) hw d_M_acted_18
set_option maxHeartbeats 4000000 in
set_option maxRecDepth 100000 in
theorem c_M_kept (l : Launch) (D : va_G) (cc : ClassId × ClassId × ClassId) (ad : yl → Nat) (X : va_W) (b0 sz : Nat) (μ : ms) (hi : mI μ 0) (x : Int32) : Met l y_M_kept w_M_kept ({ frames := 2, cells := 0, slots := 0, locals := 42 }) (yPr D cc b0 [.ref (ad (20, 0, 0)), .int x] (mW cc ad X μ) sz) (yQi D (mW cc ad X μ) sz (a_kept (m_T μ) (m_D μ 0) x) (mW cc ad X μ)) 0 0 (va_A (mW cc ad X μ) sz) := by
  have hn10 := hi.1
  have hc16 := hi.2.1
  rcases ysplit x (n := m_n μ) (by omega) with hno | ⟨j, hj, rfl⟩
  · refine y_ofW (cc := b_M_kept) (maxL := 2) (ret := (some .int)) (by decide) rfl (Nat.le_of_ble_eq_true rfl) ?_
    intro pv ev sv mv bv tv cv ls hI hsz hw hl
    obtain ⟨hx, hb, hr, hml, hts, hown, hlocks, hnm, hK, hAb, hb0, hA⟩ := id hI
    have ht : ∀ w ∈ lg_tbl, w.before _ sv = true := fun w h => hts w (List.mem_cons_of_mem _ h)
    have hl : lv_has ls 2 [(0, .ref (ad (20, 0, 0))), (1, .int x)] := hl
    refine lv_aload_n hx hb d_M_kept_0 rfl (lv_at hl 0 rfl) ?_
    refine lv_iload_n hx hb d_M_kept_1 rfl (lv_at hl 1 rfl) ?_
    refine yc_i (va_runV (As := [.int _]) (rest := []) ⟨hx, hb, hml, hown, hts⟩ (c_M_isSink_no l D cc ad X b0 _ μ hi x hno) (cwV 1 hts (yg_call mc_M_isSink ml_M_100 mm_M_isSink ms_M_isSink mi_M) rfl rfl rfl (by decide +kernel) ⟨Nat.le_of_ble_eq_true rfl, Nat.le_of_ble_eq_true rfl⟩) (y_preV hI hw (y_recv hK.1 hw mL_o (by rfl) rfl)) rfl rfl hl.1 rfl (lv_room (Nat.le_of_ble_eq_true rfl)) d_M_kept_2 ⟨Nat.le_of_ble_eq_true rfl, Nat.le_of_ble_eq_true rfl⟩) hw hA (fun r u H locs he hw => ?_)
    subst he
    refine lv_if_eq (tgt := 17) hx hb d_M_kept_5 (by decide) (fun c_5 => ?_) (fun c_5 => by first | exact absurd c_5 (by decide) | exact (c_5 (by decide)).elim)
    refine lv_iconst (v := (-1)) hx hb d_M_kept_17 (by decide) ?_
    exact ye_i hI () (by unfold a_kept; rw [yin_no (show x < 0 ∨ nI (yp_n (m_T μ)) ≤ x from hno)]) hw d_M_kept_18
  · have hjn : yin (nI j) (yp_n (m_T μ)) = some j := yin_some hj (by show m_n μ < _; omega)
    obtain ⟨a1, a2, a3, a4, a5, a6, a7⟩ := hi.2.2.2.2.1 j
    by_cases hk : m_kd μ j = 6
    · refine y_ofW (cc := b_M_kept) (maxL := 2) (ret := (some .int)) (by decide) rfl (Nat.le_of_ble_eq_true rfl) ?_
      intro pv ev sv mv bv tv cv ls hI hsz hw hl
      obtain ⟨hx, hb, hr, hml, hts, hown, hlocks, hnm, hK, hAb, hb0, hA⟩ := id hI
      have ht : ∀ w ∈ lg_tbl, w.before _ sv = true := fun w h => hts w (List.mem_cons_of_mem _ h)
      have hl : lv_has ls 2 [(0, .ref (ad (20, 0, 0))), (1, .int (nI j))] := hl
      refine lv_aload_n hx hb d_M_kept_0 rfl (lv_at hl 0 rfl) ?_
      refine lv_iload_n hx hb d_M_kept_1 rfl (lv_at hl 1 rfl) ?_
      refine yc_i (va_runV (As := [.int _]) (rest := []) ⟨hx, hb, hml, hown, hts⟩ (c_M_isSink l D cc ad X b0 _ μ hi j hj hk) (cwV 1 hts (yg_call mc_M_isSink ml_M_100 mm_M_isSink ms_M_isSink mi_M) rfl rfl rfl (by decide +kernel) ⟨Nat.le_of_ble_eq_true rfl, Nat.le_of_ble_eq_true rfl⟩) (y_preV hI hw (y_recv hK.1 hw mL_o (by rfl) rfl)) rfl rfl hl.1 rfl (lv_room (Nat.le_of_ble_eq_true rfl)) d_M_kept_2 ⟨Nat.le_of_ble_eq_true rfl, Nat.le_of_ble_eq_true rfl⟩) hw hA (fun r u H locs he hw => ?_)
      subst he
      refine lv_if_eq (tgt := 17) hx hb d_M_kept_5 (by decide) (fun c_5 => by first | exact absurd c_5 (by decide) | exact (c_5 (by decide)).elim) (fun c_5 => ?_)
      refine lv_aload_n hx hb d_M_kept_8 rfl (lv_at hl 0 rfl) ?_
      refine yr_get (C := R_M) (T := F_M) (N := 16) (ci := k_M) hx hb ht j_M hown hK.1 hw mL_o (by rfl) rfl 12 (by decide) (ht _ mf_M_40) (fun _ h9 => h9) (by rfl) d_M_kept_9 ?_
      refine lv_iload_n hx hb d_M_kept_12 rfl (lv_at hl 1 rfl) ?_
      refine yr_iald (v := nI (m_ac μ 0 j)) hx hb hK.1 hw mL_10 (by rfl) 0 rfl (vp_in_nI (N := 20) (by omega) (by omega)) (by rw [nI_clamp (by omega)]; show nI (m_kc μ (j / 10) (j % 10)) = _; rw [show j / 10 = 0 by omega, show j % 10 = j by omega, a6, if_pos hk]) d_M_kept_13 ?_
      refine lv_goto (tgt := 18) hx hb d_M_kept_14 (by decide) ?_
      exact ye_i hI () (by unfold a_kept; rw [hjn]; exact (if_pos hk).symm) hw d_M_kept_18
    · refine y_ofW (cc := b_M_kept) (maxL := 2) (ret := (some .int)) (by decide) rfl (Nat.le_of_ble_eq_true rfl) ?_
      intro pv ev sv mv bv tv cv ls hI hsz hw hl
      obtain ⟨hx, hb, hr, hml, hts, hown, hlocks, hnm, hK, hAb, hb0, hA⟩ := id hI
      have ht : ∀ w ∈ lg_tbl, w.before _ sv = true := fun w h => hts w (List.mem_cons_of_mem _ h)
      have hl : lv_has ls 2 [(0, .ref (ad (20, 0, 0))), (1, .int (nI j))] := hl
      refine lv_aload_n hx hb d_M_kept_0 rfl (lv_at hl 0 rfl) ?_
      refine lv_iload_n hx hb d_M_kept_1 rfl (lv_at hl 1 rfl) ?_
      refine yc_i (va_runV (As := [.int _]) (rest := []) ⟨hx, hb, hml, hown, hts⟩ (c_M_isSink_other l D cc ad X b0 _ μ hi j hj hk) (cwV 1 hts (yg_call mc_M_isSink ml_M_100 mm_M_isSink ms_M_isSink mi_M) rfl rfl rfl (by decide +kernel) ⟨Nat.le_of_ble_eq_true rfl, Nat.le_of_ble_eq_true rfl⟩) (y_preV hI hw (y_recv hK.1 hw mL_o (by rfl) rfl)) rfl rfl hl.1 rfl (lv_room (Nat.le_of_ble_eq_true rfl)) d_M_kept_2 ⟨Nat.le_of_ble_eq_true rfl, Nat.le_of_ble_eq_true rfl⟩) hw hA (fun r u H locs he hw => ?_)
      subst he
      refine lv_if_eq (tgt := 17) hx hb d_M_kept_5 (by decide) (fun c_5 => ?_) (fun c_5 => by first | exact absurd c_5 (by decide) | exact (c_5 (by decide)).elim)
      refine lv_iconst (v := (-1)) hx hb d_M_kept_17 (by decide) ?_
      exact ye_i hI () (by unfold a_kept; rw [hjn]; exact (if_neg hk).symm) hw d_M_kept_18
set_option maxHeartbeats 4000000 in
set_option maxRecDepth 100000 in
theorem c_M_waits (l : Launch) (D : va_G) (cc : ClassId × ClassId × ClassId) (ad : yl → Nat) (X : va_W) (b0 sz : Nat) (μ : ms) (hi : mI μ 0) (x : Int32) : Met l y_M_waits w_M_waits ({ frames := 1, cells := 0, slots := 0, locals := 21 }) (yPr D cc b0 [.ref (ad (20, 0, 0)), .int x] (mW cc ad X μ) sz) (yQi D (mW cc ad X μ) sz (a_waits (m_nc μ) (m_D μ 0) x) (mW cc ad X μ)) 0 0 (va_A (mW cc ad X μ) sz) := by
  have hn10 := hi.1
  have hc16 := hi.2.1
  rcases ysplit x (n := m_nc μ) (by omega) with hno | ⟨j, hj, rfl⟩
  · refine y_ofW (cc := b_M_waits) (maxL := 2) (ret := (some .int)) (by decide) rfl (Nat.le_of_ble_eq_true rfl) ?_
    intro pv ev sv mv bv tv cv ls hI hsz hw hl
    obtain ⟨hx, hb, hr, hml, hts, hown, hlocks, hnm, hK, hAb, hb0, hA⟩ := id hI
    have ht : ∀ w ∈ lg_tbl, w.before _ sv = true := fun w h => hts w (List.mem_cons_of_mem _ h)
    have hl : lv_has ls 2 [(0, .ref (ad (20, 0, 0))), (1, .int x)] := hl
    refine lv_aload_n hx hb d_M_waits_0 rfl (lv_at hl 0 rfl) ?_
    refine lv_iload_n hx hb d_M_waits_1 rfl (lv_at hl 1 rfl) ?_
    refine yc_i (va_runV (As := [.int _]) (rest := []) ⟨hx, hb, hml, hown, hts⟩ (c_M_isChannel_no l D cc ad X b0 _ μ hi x hno) (cwV 1 hts (yg_call mc_M_isChannel ml_M_105 mm_M_isChannel ms_M_isChannel mi_M) rfl rfl rfl (by decide +kernel) ⟨Nat.le_of_ble_eq_true rfl, Nat.le_of_ble_eq_true rfl⟩) (y_preV hI hw (y_recv hK.1 hw mL_o (by rfl) rfl)) rfl rfl hl.1 rfl (lv_room (Nat.le_of_ble_eq_true rfl)) d_M_waits_2 ⟨Nat.le_of_ble_eq_true rfl, Nat.le_of_ble_eq_true rfl⟩) hw hA (fun r u H locs he hw => ?_)
    subst he
    refine lv_if_eq (tgt := 17) hx hb d_M_waits_5 (by decide) (fun c_5 => ?_) (fun c_5 => by first | exact absurd c_5 (by decide) | exact (c_5 (by decide)).elim)
    refine lv_iconst (v := (-1)) hx hb d_M_waits_17 (by decide) ?_
    exact ye_i hI () (by unfold a_waits; rw [yin_no hno]) hw d_M_waits_18
  · have hjn : yin (nI j) (m_nc μ) = some j := yin_some hj (by omega)
    obtain ⟨b1, b2, b3⟩ := hi.2.2.2.2.2.1 j hj
    refine y_ofW (cc := b_M_waits) (maxL := 2) (ret := (some .int)) (by decide) rfl (Nat.le_of_ble_eq_true rfl) ?_
    intro pv ev sv mv bv tv cv ls hI hsz hw hl
    obtain ⟨hx, hb, hr, hml, hts, hown, hlocks, hnm, hK, hAb, hb0, hA⟩ := id hI
    have ht : ∀ w ∈ lg_tbl, w.before _ sv = true := fun w h => hts w (List.mem_cons_of_mem _ h)
    have hl : lv_has ls 2 [(0, .ref (ad (20, 0, 0))), (1, .int (nI j))] := hl
    refine lv_aload_n hx hb d_M_waits_0 rfl (lv_at hl 0 rfl) ?_
    refine lv_iload_n hx hb d_M_waits_1 rfl (lv_at hl 1 rfl) ?_
    refine yc_i (va_runV (As := [.int _]) (rest := []) ⟨hx, hb, hml, hown, hts⟩ (c_M_isChannel l D cc ad X b0 _ μ hi j hj) (cwV 1 hts (yg_call mc_M_isChannel ml_M_105 mm_M_isChannel ms_M_isChannel mi_M) rfl rfl rfl (by decide +kernel) ⟨Nat.le_of_ble_eq_true rfl, Nat.le_of_ble_eq_true rfl⟩) (y_preV hI hw (y_recv hK.1 hw mL_o (by rfl) rfl)) rfl rfl hl.1 rfl (lv_room (Nat.le_of_ble_eq_true rfl)) d_M_waits_2 ⟨Nat.le_of_ble_eq_true rfl, Nat.le_of_ble_eq_true rfl⟩) hw hA (fun r u H locs he hw => ?_)
    subst he
    refine lv_if_eq (tgt := 17) hx hb d_M_waits_5 (by decide) (fun c_5 => by first | exact absurd c_5 (by decide) | exact (c_5 (by decide)).elim) (fun c_5 => ?_)
    refine lv_aload_n hx hb d_M_waits_8 rfl (lv_at hl 0 rfl) ?_
    refine yr_get (C := R_M) (T := F_M) (N := 16) (ci := k_M) hx hb ht j_M hown hK.1 hw mL_o (by rfl) rfl 14 (by decide) (ht _ mf_M_46) (fun _ h9 => h9) (by rfl) d_M_waits_9 ?_
    refine lv_iload_n hx hb d_M_waits_12 rfl (lv_at hl 1 rfl) ?_
    refine yr_iald (v := nI (m_ct μ 0 j)) hx hb hK.1 hw mL_12 (by rfl) 0 rfl (vp_in_nI (N := 32) (by omega) (by omega)) (by rw [nI_clamp (by omega)]; show nI (m_ct μ (j / 16) (j % 16)) = _; rw [show j / 16 = 0 by omega, show j % 16 = j by omega]) d_M_waits_13 ?_
    refine lv_goto (tgt := 18) hx hb d_M_waits_14 (by decide) ?_
    exact ye_i hI () (by unfold a_waits; rw [hjn]; show _ = nI ((m_D μ 0).2.2 j).length; rw [mq_len]) hw d_M_waits_18
