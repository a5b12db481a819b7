/-! THE REFERENCE: how all ends -/
theorem mfull {u : ms} {i : Nat} (hi : mI u 1) (hd : i < m_nc u) : (fun c => decide (yp_rm (m_T u) c ≤ ((m_D u 1).2.2 c).length)) i = decide (m_ct u 1 i = m_rm u i) := by
  show decide ((if i < m_nc u then m_rm u i else 1) ≤ ((m_D u 1).2.2 i).length) = _
  rw [mq_len, if_pos hd]
  have h := (hi.2.2.2.2.2.1 i hd).2.2
  by_cases q : m_ct u 1 i = m_rm u i
  · rw [decide_eq_true q, decide_eq_true (by omega)]
  · rw [decide_eq_false q, decide_eq_false (by omega)]
set_option maxHeartbeats 4000000 in
set_option maxRecDepth 100000 in
theorem c_M_actedAtLast (l : Launch) (D : va_G) (cc : ClassId × ClassId × ClassId) (ad : yl → Nat) (X : va_W) (b0 sz : Nat) (μ : ms) (hi : mI μ 0) (x : Int32) : Met l y_M_actedAtLast w_M_actedAtLast ({ frames := 3, cells := 0, slots := 0, locals := 74 }) (yPr D cc b0 [.ref (ad (20, 0, 0)), .int x] (mW cc ad X μ) sz) (va_Qi (fun r μ' => ∃ N, yp_fin (m_T μ) (m_D μ 0) N ∧ r = a_acted (m_T μ) N x ∧ mX μ 1 μ' ∧ mI μ' 0) (yB D ycl (mW cc ad X μ) sz (fun μ' => mW cc ad X μ')) (va_A (mW cc ad X μ) sz)) 0 0 (va_A (mW cc ad X μ) sz) := by
  have hn10 := hi.1
  have hc16 := hi.2.1
  refine y_ofW (cc := b_M_actedAtLast) (maxL := 2) (ret := (some .int)) (by decide) rfl (Nat.le_of_ble_eq_true rfl) ?_
  intro pv ev sv mv bv tv cv ls hI hsz hw hl
  obtain ⟨hx, hb, hr, hml, hts, hown, hlocks, hnm, hK, hAb, hb0, hA⟩ := id hI
  have ht : ∀ w ∈ lg_tbl, w.before _ sv = true := fun w h => hts w (List.mem_cons_of_mem _ h)
  have hl : lv_has ls 2 [(0, .ref (ad (20, 0, 0))), (1, .int x)] := hl
  refine lv_aload_n hx hb d_M_actedAtLast_0 rfl (lv_at hl 0 rfl) ?_
  refine yc_v (va_runV (As := []) (rest := []) ⟨hx, hb, hml, hown, hts⟩ (c_M_settle l D cc ad X b0 _ μ hi) (cwV 0 hts (yg_call mc_M_settle ml_M_108 mm_M_settle ms_M_settle mi_M) rfl rfl rfl (by decide +kernel) ⟨Nat.le_of_ble_eq_true rfl, Nat.le_of_ble_eq_true rfl⟩) (y_preV hI hw (y_recv hK.1 hw mL_o (by rfl) rfl)) rfl rfl hl.1 rfl (lv_room (Nat.le_of_ble_eq_true rfl)) d_M_actedAtLast_1 ⟨Nat.le_of_ble_eq_true rfl, Nat.le_of_ble_eq_true rfl⟩) hw hA (fun u H locs he hw => ?_)
  obtain ⟨hX, hi0, hi1, hfin⟩ := he
  have hT := hX.1.T
  have hn10 := hi0.1
  have hc16 := hi0.2.1
  rcases ysplit x (n := m_n u) (by omega) with hno | ⟨j, hj, rfl⟩
  · refine lv_aload_n hx hb d_M_actedAtLast_4 rfl (lv_at hl 0 rfl) ?_
    refine lv_iload_n hx hb d_M_actedAtLast_5 rfl (lv_at hl 1 rfl) ?_
    refine yc_i (va_runV (As := [.int _]) (rest := []) ⟨hx, hb, hml, hown, hts⟩ (c_M_isActor_no l D cc ad X b0 _ u hi0 x hno) (cwV 1 hts (yg_call mc_M_isActor ml_M_56 mm_M_isActor ms_M_isActor mi_M) rfl rfl rfl (by decide +kernel) ⟨Nat.le_of_ble_eq_true rfl, Nat.le_of_ble_eq_true rfl⟩) (y_preV hI hw (y_recv hK.1 hw mL_o (by rfl) rfl)) rfl rfl hl.1 rfl (lv_room (Nat.le_of_ble_eq_true rfl)) d_M_actedAtLast_6 ⟨Nat.le_of_ble_eq_true rfl, Nat.le_of_ble_eq_true rfl⟩) hw hA (fun r u_ H locs he hw => ?_)
    subst he
    refine lv_if_eq (tgt := 24) hx hb d_M_actedAtLast_9 (by decide) (fun c_9 => ?_) (fun c_9 => by first | exact absurd c_9 (by decide) | exact (c_9 (by decide)).elim)
    refine lv_iconst (v := (-1)) hx hb d_M_actedAtLast_24 (by decide) ?_
    exact ye_i hI u ⟨m_D u 1, hfin, by rw [← hT]; unfold a_acted; rw [yin_no (show x < 0 ∨ nI (yp_n (m_T u)) ≤ x from hno)], hX, hi0⟩ hw d_M_actedAtLast_25
  · have hjn : yin (nI j) (yp_n (m_T u)) = some j := yin_some hj (by show m_n u < _; omega)
    obtain ⟨a1, a2, a3, a4, a5, a6, a7⟩ := hi1.2.2.2.2.1 j
    refine lv_aload_n hx hb d_M_actedAtLast_4 rfl (lv_at hl 0 rfl) ?_
    refine lv_iload_n hx hb d_M_actedAtLast_5 rfl (lv_at hl 1 rfl) ?_
    refine yc_i (va_runV (As := [.int _]) (rest := []) ⟨hx, hb, hml, hown, hts⟩ (c_M_isActor l D cc ad X b0 _ u hi0 j hj) (cwV 1 hts (yg_call mc_M_isActor ml_M_56 mm_M_isActor ms_M_isActor mi_M) rfl rfl rfl (by decide +kernel) ⟨Nat.le_of_ble_eq_true rfl, Nat.le_of_ble_eq_true rfl⟩) (y_preV hI hw (y_recv hK.1 hw mL_o (by rfl) rfl)) rfl rfl hl.1 rfl (lv_room (Nat.le_of_ble_eq_true rfl)) d_M_actedAtLast_6 ⟨Nat.le_of_ble_eq_true rfl, Nat.le_of_ble_eq_true rfl⟩) hw hA (fun r u_ H locs he hw => ?_)
    subst he
    refine lv_if_eq (tgt := 24) hx hb d_M_actedAtLast_9 (by decide) (fun c_9 => by first | exact absurd c_9 (by decide) | exact (c_9 (by decide)).elim) (fun c_9 => ?_)
    refine lv_aload_n hx hb d_M_actedAtLast_12 rfl (lv_at hl 0 rfl) ?_
    refine yr_get (C := R_M) (T := F_M) (N := 16) (ci := k_M) hx hb ht j_M hown hK.1 hw mL_o (by rfl) rfl 10 (by decide) (ht _ mf_M_34) (fun _ h9 => h9) (by rfl) d_M_actedAtLast_13 ?_
    refine lv_bipush (v := (nI 10)) hx hb d_M_actedAtLast_16 (by decide) ?_
    refine lv_iload_n hx hb d_M_actedAtLast_18 rfl (lv_at hl 1 rfl) ?_
    refine lv_iadd hx hb d_M_actedAtLast_19 ?_
    rw [nI_add]
    refine yr_iald (v := nI (m_ac u 1 j)) hx hb hK.1 hw mL_8 (by rfl) 0 rfl (vp_in_nI (N := 20) (by omega) (by omega)) (by rw [nI_clamp (by omega)]; show nI (m_ac u ((10 + j) / 10) ((10 + j) % 10)) = _; rw [show (10 + j) / 10 = 1 by omega, show (10 + j) % 10 = j by omega]) d_M_actedAtLast_20 ?_
    refine lv_goto (tgt := 25) hx hb d_M_actedAtLast_21 (by decide) ?_
    exact ye_i hI u ⟨m_D u 1, hfin, by rw [← hT]; unfold a_acted; rw [hjn]; rfl, hX, hi0⟩ hw d_M_actedAtLast_25
set_option maxHeartbeats 4000000 in
set_option maxRecDepth 100000 in
theorem c_M_keptAtLast (l : Launch) (D : va_G) (cc : ClassId × ClassId × ClassId) (ad : yl → Nat) (X : va_W) (b0 sz : Nat) (μ : ms) (hi : mI μ 0) (x : Int32) : Met l y_M_keptAtLast w_M_keptAtLast ({ frames := 3, cells := 0, slots := 0, locals := 74 }) (yPr D cc b0 [.ref (ad (20, 0, 0)), .int x] (mW cc ad X μ) sz) (va_Qi (fun r μ' => ∃ N, yp_fin (m_T μ) (m_D μ 0) N ∧ r = a_kept (m_T μ) N x ∧ mX μ 1 μ' ∧ mI μ' 0) (yB D ycl (mW cc ad X μ) sz (fun μ' => mW cc ad X μ')) (va_A (mW cc ad X μ) sz)) 0 0 (va_A (mW cc ad X μ) sz) := by
  have hn10 := hi.1
  have hc16 := hi.2.1
  refine y_ofW (cc := b_M_keptAtLast) (maxL := 2) (ret := (some .int)) (by decide) rfl (Nat.le_of_ble_eq_true rfl) ?_
  intro pv ev sv mv bv tv cv ls hI hsz hw hl
  obtain ⟨hx, hb, hr, hml, hts, hown, hlocks, hnm, hK, hAb, hb0, hA⟩ := id hI
  have ht : ∀ w ∈ lg_tbl, w.before _ sv = true := fun w h => hts w (List.mem_cons_of_mem _ h)
  have hl : lv_has ls 2 [(0, .ref (ad (20, 0, 0))), (1, .int x)] := hl
  refine lv_aload_n hx hb d_M_keptAtLast_0 rfl (lv_at hl 0 rfl) ?_
  refine yc_v (va_runV (As := []) (rest := []) ⟨hx, hb, hml, hown, hts⟩ (c_M_settle l D cc ad X b0 _ μ hi) (cwV 0 hts (yg_call mc_M_settle ml_M_108 mm_M_settle ms_M_settle mi_M) rfl rfl rfl (by decide +kernel) ⟨Nat.le_of_ble_eq_true rfl, Nat.le_of_ble_eq_true rfl⟩) (y_preV hI hw (y_recv hK.1 hw mL_o (by rfl) rfl)) rfl rfl hl.1 rfl (lv_room (Nat.le_of_ble_eq_true rfl)) d_M_keptAtLast_1 ⟨Nat.le_of_ble_eq_true rfl, Nat.le_of_ble_eq_true rfl⟩) hw hA (fun u H locs he hw => ?_)
  obtain ⟨hX, hi0, hi1, hfin⟩ := he
  have hT := hX.1.T
  have hn10 := hi0.1
  have hc16 := hi0.2.1
  rcases ysplit x (n := m_n u) (by omega) with hno | ⟨j, hj, rfl⟩
  · refine lv_aload_n hx hb d_M_keptAtLast_4 rfl (lv_at hl 0 rfl) ?_
    refine lv_iload_n hx hb d_M_keptAtLast_5 rfl (lv_at hl 1 rfl) ?_
    refine yc_i (va_runV (As := [.int _]) (rest := []) ⟨hx, hb, hml, hown, hts⟩ (c_M_isSink_no l D cc ad X b0 _ u hi0 x hno) (cwV 1 hts (yg_call mc_M_isSink ml_M_100 mm_M_isSink ms_M_isSink mi_M) rfl rfl rfl (by decide +kernel) ⟨Nat.le_of_ble_eq_true rfl, Nat.le_of_ble_eq_true rfl⟩) (y_preV hI hw (y_recv hK.1 hw mL_o (by rfl) rfl)) rfl rfl hl.1 rfl (lv_room (Nat.le_of_ble_eq_true rfl)) d_M_keptAtLast_6 ⟨Nat.le_of_ble_eq_true rfl, Nat.le_of_ble_eq_true rfl⟩) hw hA (fun r u_ H locs he hw => ?_)
    subst he
    refine lv_if_eq (tgt := 24) hx hb d_M_keptAtLast_9 (by decide) (fun c_9 => ?_) (fun c_9 => by first | exact absurd c_9 (by decide) | exact (c_9 (by decide)).elim)
    refine lv_iconst (v := (-1)) hx hb d_M_keptAtLast_24 (by decide) ?_
    exact ye_i hI u ⟨m_D u 1, hfin, by rw [← hT]; unfold a_kept; rw [yin_no (show x < 0 ∨ nI (yp_n (m_T u)) ≤ x from hno)], hX, hi0⟩ hw d_M_keptAtLast_25
  · have hjn : yin (nI j) (yp_n (m_T u)) = some j := yin_some hj (by show m_n u < _; omega)
    obtain ⟨a1, a2, a3, a4, a5, a6, a7⟩ := hi1.2.2.2.2.1 j
    by_cases hk : m_kd u j = 6
    · refine lv_aload_n hx hb d_M_keptAtLast_4 rfl (lv_at hl 0 rfl) ?_
      refine lv_iload_n hx hb d_M_keptAtLast_5 rfl (lv_at hl 1 rfl) ?_
      refine yc_i (va_runV (As := [.int _]) (rest := []) ⟨hx, hb, hml, hown, hts⟩ (c_M_isSink l D cc ad X b0 _ u hi0 j hj hk) (cwV 1 hts (yg_call mc_M_isSink ml_M_100 mm_M_isSink ms_M_isSink mi_M) rfl rfl rfl (by decide +kernel) ⟨Nat.le_of_ble_eq_true rfl, Nat.le_of_ble_eq_true rfl⟩) (y_preV hI hw (y_recv hK.1 hw mL_o (by rfl) rfl)) rfl rfl hl.1 rfl (lv_room (Nat.le_of_ble_eq_true rfl)) d_M_keptAtLast_6 ⟨Nat.le_of_ble_eq_true rfl, Nat.le_of_ble_eq_true rfl⟩) hw hA (fun r u_ H locs he hw => ?_)
      subst he
      refine lv_if_eq (tgt := 24) hx hb d_M_keptAtLast_9 (by decide) (fun c_9 => by first | exact absurd c_9 (by decide) | exact (c_9 (by decide)).elim) (fun c_9 => ?_)
      refine lv_aload_n hx hb d_M_keptAtLast_12 rfl (lv_at hl 0 rfl) ?_
      refine yr_get (C := R_M) (T := F_M) (N := 16) (ci := k_M) hx hb ht j_M hown hK.1 hw mL_o (by rfl) rfl 12 (by decide) (ht _ mf_M_40) (fun _ h9 => h9) (by rfl) d_M_keptAtLast_13 ?_
      refine lv_bipush (v := (nI 10)) hx hb d_M_keptAtLast_16 (by decide) ?_
      refine lv_iload_n hx hb d_M_keptAtLast_18 rfl (lv_at hl 1 rfl) ?_
      refine lv_iadd hx hb d_M_keptAtLast_19 ?_
      rw [nI_add]
      refine yr_iald (v := nI (m_ac u 1 j)) hx hb hK.1 hw mL_10 (by rfl) 0 rfl (vp_in_nI (N := 20) (by omega) (by omega)) (by rw [nI_clamp (by omega)]; show nI (m_kc u ((10 + j) / 10) ((10 + j) % 10)) = _; rw [show (10 + j) / 10 = 1 by omega, show (10 + j) % 10 = j by omega, a6, if_pos hk]) d_M_keptAtLast_20 ?_
      refine lv_goto (tgt := 25) hx hb d_M_keptAtLast_21 (by decide) ?_
      exact ye_i hI u ⟨m_D u 1, hfin, by rw [← hT]; unfold a_kept; rw [hjn]; exact (if_pos hk).symm, hX, hi0⟩ hw d_M_keptAtLast_25
    · refine lv_aload_n hx hb d_M_keptAtLast_4 rfl (lv_at hl 0 rfl) ?_
      refine lv_iload_n hx hb d_M_keptAtLast_5 rfl (lv_at hl 1 rfl) ?_
      refine yc_i (va_runV (As := [.int _]) (rest := []) ⟨hx, hb, hml, hown, hts⟩ (c_M_isSink_other l D cc ad X b0 _ u hi0 j hj hk) (cwV 1 hts (yg_call mc_M_isSink ml_M_100 mm_M_isSink ms_M_isSink mi_M) rfl rfl rfl (by decide +kernel) ⟨Nat.le_of_ble_eq_true rfl, Nat.le_of_ble_eq_true rfl⟩) (y_preV hI hw (y_recv hK.1 hw mL_o (by rfl) rfl)) rfl rfl hl.1 rfl (lv_room (Nat.le_of_ble_eq_true rfl)) d_M_keptAtLast_6 ⟨Nat.le_of_ble_eq_true rfl, Nat.le_of_ble_eq_true rfl⟩) hw hA (fun r u_ H locs he hw => ?_)
      subst he
      refine lv_if_eq (tgt := 24) hx hb d_M_keptAtLast_9 (by decide) (fun c_9 => ?_) (fun c_9 => by first | exact absurd c_9 (by decide) | exact (c_9 (by decide)).elim)
      refine lv_iconst (v := (-1)) hx hb d_M_keptAtLast_24 (by decide) ?_
      exact ye_i hI u ⟨m_D u 1, hfin, by rw [← hT]; unfold a_kept; rw [hjn]; exact (if_neg hk).symm, hX, hi0⟩ hw d_M_keptAtLast_25
set_option maxHeartbeats 4000000 in
set_option maxRecDepth 100000 in
theorem c_M_atLast (l : Launch) (D : va_G) (cc : ClassId × ClassId × ClassId) (ad : yl → Nat) (X : va_W) (b0 sz : Nat) (μ : ms) (hi : mI μ 0) (x v : Int32) : Met l y_M_atLast w_M_atLast ({ frames := 3, cells := 0, slots := 0, locals := 74 }) (yPr D cc b0 [.ref (ad (20, 0, 0)), .int x, .int v] (mW cc ad X μ) sz) (va_Ql (fun r μ' => ∃ N, yp_fin (m_T μ) (m_D μ 0) N ∧ r = a_at (m_T μ) N x v ∧ mX μ 1 μ' ∧ mI μ' 0) (yB D ycl (mW cc ad X μ) sz (fun μ' => mW cc ad X μ')) (va_A (mW cc ad X μ) sz)) 0 0 (va_A (mW cc ad X μ) sz) := by
  have hn10 := hi.1
  have hc16 := hi.2.1
  refine y_ofW (cc := b_M_atLast) (maxL := 3) (ret := (some .long)) (by decide) rfl (Nat.le_of_ble_eq_true rfl) ?_
  intro pv ev sv mv bv tv cv ls hI hsz hw hl
  obtain ⟨hx, hb, hr, hml, hts, hown, hlocks, hnm, hK, hAb, hb0, hA⟩ := id hI
  have ht : ∀ w ∈ lg_tbl, w.before _ sv = true := fun w h => hts w (List.mem_cons_of_mem _ h)
  have hl : lv_has ls 3 [(0, .ref (ad (20, 0, 0))), (1, .int x), (2, .int v)] := hl
  refine lv_aload_n hx hb d_M_atLast_0 rfl (lv_at hl 0 rfl) ?_
  refine yc_v (va_runV (As := []) (rest := []) ⟨hx, hb, hml, hown, hts⟩ (c_M_settle l D cc ad X b0 _ μ hi) (cwV 0 hts (yg_call mc_M_settle ml_M_108 mm_M_settle ms_M_settle mi_M) rfl rfl rfl (by decide +kernel) ⟨Nat.le_of_ble_eq_true rfl, Nat.le_of_ble_eq_true rfl⟩) (y_preV hI hw (y_recv hK.1 hw mL_o (by rfl) rfl)) rfl rfl hl.1 rfl (lv_room (Nat.le_of_ble_eq_true rfl)) d_M_atLast_1 ⟨Nat.le_of_ble_eq_true rfl, Nat.le_of_ble_eq_true rfl⟩) hw hA (fun u H locs he hw => ?_)
  obtain ⟨hX, hi0, hi1, hfin⟩ := he
  have hT := hX.1.T
  have hn10 := hi0.1
  have hc16 := hi0.2.1
  rcases ysplit x (n := m_n u) (by omega) with hno | ⟨j, hj, rfl⟩
  · refine lv_aload_n hx hb d_M_atLast_4 rfl (lv_at hl 0 rfl) ?_
    refine lv_iload_n hx hb d_M_atLast_5 rfl (lv_at hl 1 rfl) ?_
    refine yc_i (va_runV (As := [.int _]) (rest := []) ⟨hx, hb, hml, hown, hts⟩ (c_M_isSink_no l D cc ad X b0 _ u hi0 x hno) (cwV 1 hts (yg_call mc_M_isSink ml_M_100 mm_M_isSink ms_M_isSink mi_M) rfl rfl rfl (by decide +kernel) ⟨Nat.le_of_ble_eq_true rfl, Nat.le_of_ble_eq_true rfl⟩) (y_preV hI hw (y_recv hK.1 hw mL_o (by rfl) rfl)) rfl rfl hl.1 rfl (lv_room (Nat.le_of_ble_eq_true rfl)) d_M_atLast_6 ⟨Nat.le_of_ble_eq_true rfl, Nat.le_of_ble_eq_true rfl⟩) hw hA (fun r u_ H locs he hw => ?_)
    subst he
    refine lv_if_eq (tgt := 48) hx hb d_M_atLast_9 (by decide) (fun c_9 => ?_) (fun c_9 => by first | exact absurd c_9 (by decide) | exact (c_9 (by decide)).elim)
    refine lv_ldc2 hx hb hown (ht _ mq_M_103) d_M_atLast_48 ?_
    exact ye_l hI u ⟨m_D u 1, hfin, by rw [← hT]; unfold a_at; rw [yin_no (show x < 0 ∨ nI (yp_n (m_T u)) ≤ x from hno)], hX, hi0⟩ hw d_M_atLast_51
  · have hjn : yin (nI j) (yp_n (m_T u)) = some j := yin_some hj (by show m_n u < _; omega)
    obtain ⟨a1, a2, a3, a4, a5, a6, a7⟩ := hi1.2.2.2.2.1 j
    by_cases hk : m_kd u j = 6
    · have hkc : m_kc u 1 j = m_ac u 1 j := by rw [a6, if_pos hk]
      rcases ysplit v (n := m_ac u 1 j) (by omega) with hno | ⟨t, htt, rfl⟩
      · refine lv_aload_n hx hb d_M_atLast_4 rfl (lv_at hl 0 rfl) ?_
        refine lv_iload_n hx hb d_M_atLast_5 rfl (lv_at hl 1 rfl) ?_
        refine yc_i (va_runV (As := [.int _]) (rest := []) ⟨hx, hb, hml, hown, hts⟩ (c_M_isSink l D cc ad X b0 _ u hi0 j hj hk) (cwV 1 hts (yg_call mc_M_isSink ml_M_100 mm_M_isSink ms_M_isSink mi_M) rfl rfl rfl (by decide +kernel) ⟨Nat.le_of_ble_eq_true rfl, Nat.le_of_ble_eq_true rfl⟩) (y_preV hI hw (y_recv hK.1 hw mL_o (by rfl) rfl)) rfl rfl hl.1 rfl (lv_room (Nat.le_of_ble_eq_true rfl)) d_M_atLast_6 ⟨Nat.le_of_ble_eq_true rfl, Nat.le_of_ble_eq_true rfl⟩) hw hA (fun r u_ H locs he hw => ?_)
        subst he
        refine lv_if_eq (tgt := 48) hx hb d_M_atLast_9 (by decide) (fun c_9 => by first | exact absurd c_9 (by decide) | exact (c_9 (by decide)).elim) (fun c_9 => ?_)
        refine lv_iload_n hx hb d_M_atLast_12 rfl (lv_at hl 2 rfl) ?_
        refine lv_if_lt (tgt := 48) hx hb d_M_atLast_13 (by decide) (fun c_13 => ?_) (fun c_13 => ?_)
        · refine lv_ldc2 hx hb hown (ht _ mq_M_103) d_M_atLast_48 ?_
          exact ye_l hI u ⟨m_D u 1, hfin, by rw [← hT]; exact (ma_no hjn hk hno).symm, hX, hi0⟩ hw d_M_atLast_51
        · refine lv_iload_n hx hb d_M_atLast_16 rfl (lv_at hl 2 rfl) ?_
          refine lv_aload_n hx hb d_M_atLast_17 rfl (lv_at hl 0 rfl) ?_
          refine yr_get (C := R_M) (T := F_M) (N := 16) (ci := k_M) hx hb ht j_M hown hK.1 hw mL_o (by rfl) rfl 12 (by decide) (ht _ mf_M_40) (fun _ h9 => h9) (by rfl) d_M_atLast_18 ?_
          refine lv_bipush (v := (nI 10)) hx hb d_M_atLast_21 (by decide) ?_
          refine lv_iload_n hx hb d_M_atLast_23 rfl (lv_at hl 1 rfl) ?_
          refine lv_iadd hx hb d_M_atLast_24 ?_
          rw [nI_add]
          refine yr_iald (v := nI (m_ac u 1 j)) hx hb hK.1 hw mL_10 (by rfl) 0 rfl (vp_in_nI (N := 20) (by omega) (by omega)) (by rw [nI_clamp (by omega)]; show nI (m_kc u ((10 + j) / 10) ((10 + j) % 10)) = _; rw [show (10 + j) / 10 = 1 by omega, show (10 + j) % 10 = j by omega, a6, if_pos hk]) d_M_atLast_25 ?_
          refine lv_icmp_ge (tgt := 48) hx hb d_M_atLast_26 (by decide) (fun c_26 => ?_) (fun c_26 => by exact (hno.elim (fun h => absurd h c_13) (fun h => absurd h c_26)))
          refine lv_ldc2 hx hb hown (ht _ mq_M_103) d_M_atLast_48 ?_
          exact ye_l hI u ⟨m_D u 1, hfin, by rw [← hT]; exact (ma_no hjn hk hno).symm, hX, hi0⟩ hw d_M_atLast_51
      · refine lv_aload_n hx hb d_M_atLast_4 rfl (lv_at hl 0 rfl) ?_
        refine lv_iload_n hx hb d_M_atLast_5 rfl (lv_at hl 1 rfl) ?_
        refine yc_i (va_runV (As := [.int _]) (rest := []) ⟨hx, hb, hml, hown, hts⟩ (c_M_isSink l D cc ad X b0 _ u hi0 j hj hk) (cwV 1 hts (yg_call mc_M_isSink ml_M_100 mm_M_isSink ms_M_isSink mi_M) rfl rfl rfl (by decide +kernel) ⟨Nat.le_of_ble_eq_true rfl, Nat.le_of_ble_eq_true rfl⟩) (y_preV hI hw (y_recv hK.1 hw mL_o (by rfl) rfl)) rfl rfl hl.1 rfl (lv_room (Nat.le_of_ble_eq_true rfl)) d_M_atLast_6 ⟨Nat.le_of_ble_eq_true rfl, Nat.le_of_ble_eq_true rfl⟩) hw hA (fun r u_ H locs he hw => ?_)
        subst he
        refine lv_if_eq (tgt := 48) hx hb d_M_atLast_9 (by decide) (fun c_9 => by first | exact absurd c_9 (by decide) | exact (c_9 (by decide)).elim) (fun c_9 => ?_)
        refine lv_iload_n hx hb d_M_atLast_12 rfl (lv_at hl 2 rfl) ?_
        refine lv_if_lt (tgt := 48) hx hb d_M_atLast_13 (by decide) (fun c_13 => by exact absurd c_13 (nI_pos (by omega))) (fun c_13 => ?_)
        refine lv_iload_n hx hb d_M_atLast_16 rfl (lv_at hl 2 rfl) ?_
        refine lv_aload_n hx hb d_M_atLast_17 rfl (lv_at hl 0 rfl) ?_
        refine yr_get (C := R_M) (T := F_M) (N := 16) (ci := k_M) hx hb ht j_M hown hK.1 hw mL_o (by rfl) rfl 12 (by decide) (ht _ mf_M_40) (fun _ h9 => h9) (by rfl) d_M_atLast_18 ?_
        refine lv_bipush (v := (nI 10)) hx hb d_M_atLast_21 (by decide) ?_
        refine lv_iload_n hx hb d_M_atLast_23 rfl (lv_at hl 1 rfl) ?_
        refine lv_iadd hx hb d_M_atLast_24 ?_
        rw [nI_add]
        refine yr_iald (v := nI (m_ac u 1 j)) hx hb hK.1 hw mL_10 (by rfl) 0 rfl (vp_in_nI (N := 20) (by omega) (by omega)) (by rw [nI_clamp (by omega)]; show nI (m_kc u ((10 + j) / 10) ((10 + j) % 10)) = _; rw [show (10 + j) / 10 = 1 by omega, show (10 + j) % 10 = j by omega, a6, if_pos hk]) d_M_atLast_25 ?_
        refine lv_icmp_ge (tgt := 48) hx hb d_M_atLast_26 (by decide) (fun c_26 => by exact absurd c_26 (nI_ge htt (by omega))) (fun c_26 => ?_)
        refine lv_aload_n hx hb d_M_atLast_29 rfl (lv_at hl 0 rfl) ?_
        refine yr_get (C := R_M) (T := F_M) (N := 16) (ci := k_M) hx hb ht j_M hown hK.1 hw mL_o (by rfl) rfl 13 (by decide) (ht _ mf_M_43) (fun _ h9 => h9) (by rfl) d_M_atLast_30 ?_
        refine lv_sipush (v := (nI 600)) hx hb d_M_atLast_33 (by decide) ?_
        refine lv_bipush (v := (nI 60)) hx hb d_M_atLast_36 (by decide) ?_
        refine lv_iload_n hx hb d_M_atLast_38 rfl (lv_at hl 1 rfl) ?_
        refine lv_imul hx hb d_M_atLast_39 ?_
        rw [pk_mul]
        refine lv_iadd hx hb d_M_atLast_40 ?_
        rw [nI_add]
        refine lv_iload_n hx hb d_M_atLast_41 rfl (lv_at hl 2 rfl) ?_
        refine lv_iadd hx hb d_M_atLast_42 ?_
        rw [nI_add]
        refine yr_iald (v := m_kp u (600 + 60 * j + t)) hx hb hK.1 hw mL_11 (by rfl) 0 rfl (vp_in_nI (N := 1200) (by omega) (by omega)) (by rw [nI_clamp (by omega)]; rfl) d_M_atLast_43 ?_
        refine lv_i2l hx hb d_M_atLast_44 rfl ?_
        refine lv_goto (tgt := 51) hx hb d_M_atLast_45 (by decide) ?_
        exact ye_l hI u ⟨m_D u 1, hfin, by rw [← hT]; rw [ma_yes hjn hk hkc htt (by omega), show 600 * 1 + 60 * j + t = 600 + 60 * j + t by omega], hX, hi0⟩ hw d_M_atLast_51
    · refine lv_aload_n hx hb d_M_atLast_4 rfl (lv_at hl 0 rfl) ?_
      refine lv_iload_n hx hb d_M_atLast_5 rfl (lv_at hl 1 rfl) ?_
      refine yc_i (va_runV (As := [.int _]) (rest := []) ⟨hx, hb, hml, hown, hts⟩ (c_M_isSink_other l D cc ad X b0 _ u hi0 j hj hk) (cwV 1 hts (yg_call mc_M_isSink ml_M_100 mm_M_isSink ms_M_isSink mi_M) rfl rfl rfl (by decide +kernel) ⟨Nat.le_of_ble_eq_true rfl, Nat.le_of_ble_eq_true rfl⟩) (y_preV hI hw (y_recv hK.1 hw mL_o (by rfl) rfl)) rfl rfl hl.1 rfl (lv_room (Nat.le_of_ble_eq_true rfl)) d_M_atLast_6 ⟨Nat.le_of_ble_eq_true rfl, Nat.le_of_ble_eq_true rfl⟩) hw hA (fun r u_ H locs he hw => ?_)
      subst he
      refine lv_if_eq (tgt := 48) hx hb d_M_atLast_9 (by decide) (fun c_9 => ?_) (fun c_9 => by first | exact absurd c_9 (by decide) | exact (c_9 (by decide)).elim)
      refine lv_ldc2 hx hb hown (ht _ mq_M_103) d_M_atLast_48 ?_
      exact ye_l hI u ⟨m_D u 1, hfin, by rw [← hT]; exact (ma_other hjn hk).symm, hX, hi0⟩ hw d_M_atLast_51
set_option maxHeartbeats 4000000 in
set_option maxRecDepth 100000 in
theorem c_M_fullAtLast (l : Launch) (D : va_G) (cc : ClassId × ClassId × ClassId) (ad : yl → Nat) (X : va_W) (b0 sz : Nat) (μ : ms) (hi : mI μ 0) (x : Int32) : Met l y_M_fullAtLast w_M_fullAtLast ({ frames := 3, cells := 0, slots := 0, locals := 74 }) (yPr D cc b0 [.ref (ad (20, 0, 0)), .int x] (mW cc ad X μ) sz) (va_Qi (fun r μ' => ∃ N, yp_fin (m_T μ) (m_D μ 0) N ∧ r = a_full (m_T μ) (m_nc μ) N x ∧ mX μ 1 μ' ∧ mI μ' 0) (yB D ycl (mW cc ad X μ) sz (fun μ' => mW cc ad X μ')) (va_A (mW cc ad X μ) sz)) 0 0 (va_A (mW cc ad X μ) sz) := by
  have hn10 := hi.1
  have hc16 := hi.2.1
  refine y_ofW (cc := b_M_fullAtLast) (maxL := 5) (ret := (some .int)) (by decide) rfl (Nat.le_of_ble_eq_true rfl) ?_
  intro pv ev sv mv bv tv cv ls hI hsz hw hl
  obtain ⟨hx, hb, hr, hml, hts, hown, hlocks, hnm, hK, hAb, hb0, hA⟩ := id hI
  have ht : ∀ w ∈ lg_tbl, w.before _ sv = true := fun w h => hts w (List.mem_cons_of_mem _ h)
  have hl : lv_has ls 5 [(0, .ref (ad (20, 0, 0))), (1, .int x)] := hl
  have loop : ∀ (u : ms), mX μ 1 u → mI u 0 → mI u 1 → yp_fin (m_T μ) (m_D μ 0) (m_D u 1) → ∀ (f i sn : Nat) (H : Heap) (locs : List Loc) (ls : Array Slot), i + f = m_nc u → sn ≤ i → yff (fun c => decide (yp_rm (m_T u) c ≤ ((m_D u 1).2.2 c).length)) x f i sn = yff (fun c => decide (yp_rm (m_T u) c ≤ ((m_D u 1).2.2 c).length)) x (m_nc u) 0 0 → yH D ycl (va_A (mW cc ad X μ) sz) sv.heap H locs (mW cc ad X u) → lv_has ls 5 [(3, .int (nI i)), (2, .int (nI sn)), (0, .ref (ad (20, 0, 0))), (1, .int x)] → W pv l ev (headSpec w_M_fullAtLast ({ frames := 3, cells := 0, slots := 0, locals := 74 })).room sv mv ([.ref (ad (20, 0, 0)), .int x]).toArray bv tv cv H locs 0 0 (MQ bv (va_Qi (fun r μ' => ∃ N, yp_fin (m_T μ) (m_D μ 0) N ∧ r = a_full (m_T μ) (m_nc μ) N x ∧ mX μ 1 μ' ∧ mI μ' 0) (yB D ycl (mW cc ad X μ) sz (fun μ' => mW cc ad X μ')) (va_A (mW cc ad X μ) sz)) ([.ref (ad (20, 0, 0)), .int x]).toArray sv 0 0 (va_A (mW cc ad X μ) sz)) (F0 mv 8 ls []) := by
    intro u hX hi0 hi1 hfin f
    have hT := hX.1.T
    have hnc := hX.1.2.1
    have hc16 := hi0.2.1
    induction f with
    | zero =>
      intro i sn H locs ls hik hsn hv hw hl
      refine lv_iload_n hx hb d_M_fullAtLast_8 rfl (lv_at hl 0 rfl) ?_
      refine lv_aload_n hx hb d_M_fullAtLast_9 rfl (lv_at hl 2 rfl) ?_
      refine yr_get (C := R_M) (T := F_M) (N := 16) (ci := k_M) hx hb ht j_M hown hK.1 hw mL_o (by rfl) rfl 6 (by decide) (ht _ mf_M_60) (fun _ h9 => h9) (by rfl) d_M_fullAtLast_10 ?_
      refine lv_icmp_ge (tgt := 72) hx hb d_M_fullAtLast_13 (by decide) (fun c_13 => ?_) (fun c_13 => by exact absurd (nI_le (by omega) (by omega)) c_13)
      refine lv_iconst (v := (-1)) hx hb d_M_fullAtLast_72 (by decide) ?_
      exact ye_i hI u ⟨m_D u 1, hfin, by unfold a_full; rw [← hT, ← hnc, ← hv]; rfl, hX, hi0⟩ hw d_M_fullAtLast_73
    | succ f ih =>
      intro i sn H locs ls hik hsn hv hw hl
      have hd : i < m_nc u := by omega
      obtain ⟨b1, b2, b3⟩ := hi1.2.2.2.2.2.1 i hd
      refine lv_iload_n hx hb d_M_fullAtLast_8 rfl (lv_at hl 0 rfl) ?_
      refine lv_aload_n hx hb d_M_fullAtLast_9 rfl (lv_at hl 2 rfl) ?_
      refine yr_get (C := R_M) (T := F_M) (N := 16) (ci := k_M) hx hb ht j_M hown hK.1 hw mL_o (by rfl) rfl 6 (by decide) (ht _ mf_M_60) (fun _ h9 => h9) (by rfl) d_M_fullAtLast_10 ?_
      refine lv_icmp_ge (tgt := 72) hx hb d_M_fullAtLast_13 (by decide) (fun c_13 => by exact absurd c_13 (nI_ge (by omega) (by omega))) (fun c_13 => ?_)
      refine lv_aload_n hx hb d_M_fullAtLast_16 rfl (lv_at hl 2 rfl) ?_
      refine yr_get (C := R_M) (T := F_M) (N := 16) (ci := k_M) hx hb ht j_M hown hK.1 hw mL_o (by rfl) rfl 14 (by decide) (ht _ mf_M_46) (fun _ h9 => h9) (by rfl) d_M_fullAtLast_17 ?_
      refine lv_bipush (v := (nI 16)) hx hb d_M_fullAtLast_20 (by decide) ?_
      refine lv_iload_n hx hb d_M_fullAtLast_22 rfl (lv_at hl 0 rfl) ?_
      refine lv_iadd hx hb d_M_fullAtLast_23 ?_
      rw [nI_add]
      refine yr_iald (v := nI (m_ct u 1 i)) hx hb hK.1 hw mL_12 (by rfl) 0 rfl (vp_in_nI (N := 32) (by omega) (by omega)) (by rw [nI_clamp (by omega)]; show nI (m_ct u ((16 + i) / 16) ((16 + i) % 16)) = _; rw [show (16 + i) / 16 = 1 by omega, show (16 + i) % 16 = i by omega]) d_M_fullAtLast_24 ?_
      refine lv_aload_n hx hb d_M_fullAtLast_25 rfl (lv_at hl 2 rfl) ?_
      refine yr_get (C := R_M) (T := F_M) (N := 16) (ci := k_M) hx hb ht j_M hown hK.1 hw mL_o (by rfl) rfl 7 (by decide) (ht _ mf_M_25) (fun _ h9 => h9) (by rfl) d_M_fullAtLast_26 ?_
      refine lv_iload_n hx hb d_M_fullAtLast_29 rfl (lv_at hl 0 rfl) ?_
      refine yr_iald (v := nI (m_rm u i)) hx hb hK.1 hw mL_5 (by rfl) 0 rfl (vp_in_nI (N := 16) (by omega) (by omega)) (by rw [nI_clamp (by omega)]; rfl) d_M_fullAtLast_30 ?_
      refine lv_icmp_ne (tgt := 38) hx hb d_M_fullAtLast_31 (by decide) (fun c_31 => ?_) (fun c_31 => ?_)
      · have e1 : (fun c => decide (yp_rm (m_T u) c ≤ ((m_D u 1).2.2 c).length)) i = false := by
          rw [mfull hi1 hd]
          exact decide_eq_false (fun q => c_31 (by rw [q]))
        refine lv_iconst (v := (nI 0)) hx hb d_M_fullAtLast_38 (by decide) ?_
        refine lv_istore (lv' := [(4, .int _), (3, .int _), (2, .int _), (0, .ref _), (1, .int _)]) hx hb d_M_fullAtLast_39 hl (by decide) rfl (fun ls hl => ?_)
        refine lv_iload hx hb d_M_fullAtLast_41 (lv_at hl 0 rfl) ?_
        refine lv_if_eq (tgt := 53) hx hb d_M_fullAtLast_43 (by decide) (fun c_43 => ?_) (fun c_43 => by first | exact absurd c_43 (by decide) | exact (c_43 (by decide)).elim)
        refine lv_iload_n hx hb d_M_fullAtLast_53 rfl (lv_at hl 2 rfl) ?_
        refine lv_iload hx hb d_M_fullAtLast_54 (lv_at hl 0 rfl) ?_
        refine lv_if_eq (tgt := 63) hx hb d_M_fullAtLast_56 (by decide) (fun c_56 => ?_) (fun c_56 => by first | exact absurd c_56 (by decide) | exact (c_56 (by decide)).elim)
        refine lv_iconst (v := (nI 0)) hx hb d_M_fullAtLast_63 (by decide) ?_
        refine lv_iadd hx hb d_M_fullAtLast_64 ?_
        rw [nI_add]
        refine lv_istore_n (lv' := [(2, .int _), (4, .int _), (3, .int _), (0, .ref _), (1, .int _)]) hx hb d_M_fullAtLast_65 rfl hl (by decide) rfl (fun ls hl => ?_)
        refine lv_iinc (v := nI (i + 1)) (lv' := [(3, .int _), (2, .int _), (4, .int _), (0, .ref _), (1, .int _)]) hx hb d_M_fullAtLast_66 hl (k := 2) rfl (yinc i) (by decide) rfl (fun ls hl => ?_)
        refine lv_goto (tgt := 8) hx hb d_M_fullAtLast_69 (by decide) ?_
        exact ih (i + 1) (sn + 0) _ _ _ (by omega) (by omega) (by rw [← hv]; exact (yff_0 e1).symm) hw (lv_sub hl [0, 1, 3, 4] rfl)
      · have e1 : (fun c => decide (yp_rm (m_T u) c ≤ ((m_D u 1).2.2 c).length)) i = true := by
          rw [mfull hi1 hd]
          exact decide_eq_true ((nI_eq (by omega) (by omega)).mp c_31)
        refine lv_iconst (v := (nI 1)) hx hb d_M_fullAtLast_34 (by decide) ?_
        refine lv_goto (tgt := 39) hx hb d_M_fullAtLast_35 (by decide) ?_
        refine lv_istore (lv' := [(4, .int _), (3, .int _), (2, .int _), (0, .ref _), (1, .int _)]) hx hb d_M_fullAtLast_39 hl (by decide) rfl (fun ls hl => ?_)
        refine lv_iload hx hb d_M_fullAtLast_41 (lv_at hl 0 rfl) ?_
        refine lv_if_eq (tgt := 53) hx hb d_M_fullAtLast_43 (by decide) (fun c_43 => by first | exact absurd c_43 (by decide) | exact (c_43 (by decide)).elim) (fun c_43 => ?_)
        refine lv_iload_n hx hb d_M_fullAtLast_46 rfl (lv_at hl 2 rfl) ?_
        refine lv_iload_n hx hb d_M_fullAtLast_47 rfl (lv_at hl 4 rfl) ?_
        refine lv_icmp_ne (tgt := 53) hx hb d_M_fullAtLast_48 (by decide) (fun c_48 => ?_) (fun c_48 => ?_)
        · refine lv_iload_n hx hb d_M_fullAtLast_53 rfl (lv_at hl 2 rfl) ?_
          refine lv_iload hx hb d_M_fullAtLast_54 (lv_at hl 0 rfl) ?_
          refine lv_if_eq (tgt := 63) hx hb d_M_fullAtLast_56 (by decide) (fun c_56 => by first | exact absurd c_56 (by decide) | exact (c_56 (by decide)).elim) (fun c_56 => ?_)
          refine lv_iconst (v := (nI 1)) hx hb d_M_fullAtLast_59 (by decide) ?_
          refine lv_goto (tgt := 64) hx hb d_M_fullAtLast_60 (by decide) ?_
          refine lv_iadd hx hb d_M_fullAtLast_64 ?_
          rw [nI_add]
          refine lv_istore_n (lv' := [(2, .int _), (4, .int _), (3, .int _), (0, .ref _), (1, .int _)]) hx hb d_M_fullAtLast_65 rfl hl (by decide) rfl (fun ls hl => ?_)
          refine lv_iinc (v := nI (i + 1)) (lv' := [(3, .int _), (2, .int _), (4, .int _), (0, .ref _), (1, .int _)]) hx hb d_M_fullAtLast_66 hl (k := 2) rfl (yinc i) (by decide) rfl (fun ls hl => ?_)
          refine lv_goto (tgt := 8) hx hb d_M_fullAtLast_69 (by decide) ?_
          exact ih (i + 1) (sn + 1) _ _ _ (by omega) (by omega) (by rw [← hv]; exact (yff_1 e1 c_48).symm) hw (lv_sub hl [0, 1, 3, 4] rfl)
        · refine lv_iload_n hx hb d_M_fullAtLast_51 rfl (lv_at hl 1 rfl) ?_
          exact ye_i hI u ⟨m_D u 1, hfin, by unfold a_full; rw [← hT, ← hnc, ← hv]; exact (yff_2 e1 c_48).symm, hX, hi0⟩ hw d_M_fullAtLast_52
  refine lv_aload_n hx hb d_M_fullAtLast_0 rfl (lv_at hl 0 rfl) ?_
  refine yc_v (va_runV (As := []) (rest := []) ⟨hx, hb, hml, hown, hts⟩ (c_M_settle l D cc ad X b0 _ μ hi) (cwV 0 hts (yg_call mc_M_settle ml_M_108 mm_M_settle ms_M_settle mi_M) rfl rfl rfl (by decide +kernel) ⟨Nat.le_of_ble_eq_true rfl, Nat.le_of_ble_eq_true rfl⟩) (y_preV hI hw (y_recv hK.1 hw mL_o (by rfl) rfl)) rfl rfl hl.1 rfl (lv_room (Nat.le_of_ble_eq_true rfl)) d_M_fullAtLast_1 ⟨Nat.le_of_ble_eq_true rfl, Nat.le_of_ble_eq_true rfl⟩) hw hA (fun u H locs he hw => ?_)
  obtain ⟨hX, hi0, hi1, hfin⟩ := he
  have hT := hX.1.T
  have hn10 := hi0.1
  have hc16 := hi0.2.1
  refine lv_iconst (v := (nI 0)) hx hb d_M_fullAtLast_4 (by decide) ?_
  refine lv_istore_n (lv' := [(2, .int _), (0, .ref _), (1, .int _)]) hx hb d_M_fullAtLast_5 rfl hl (by decide) rfl (fun ls hl => ?_)
  refine lv_iconst (v := (nI 0)) hx hb d_M_fullAtLast_6 (by decide) ?_
  refine lv_istore_n (lv' := [(3, .int _), (2, .int _), (0, .ref _), (1, .int _)]) hx hb d_M_fullAtLast_7 rfl hl (by decide) rfl (fun ls hl => ?_)
  exact loop u hX hi0 hi1 hfin (m_nc u) 0 0 _ _ _ (by omega) (by omega) rfl hw (lv_sub hl [0, 1, 2, 3] rfl)
