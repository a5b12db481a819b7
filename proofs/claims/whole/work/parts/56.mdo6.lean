/-! THE REFERENCE: doAct of a sink, and of all kinds -/
theorem m6_fin {μ μ1 μ2 μ3 : ms} {y i c : Nat} {v : Int32} (hi : mI μ y) (hn : i < m_n μ) (hk : m_kd μ i = 6) (h60 : m_ac μ y i < 60) (hp : yp_pl (m_T μ) (m_D μ y) i = some (true, false, none, none, some v)) (e : m_ic μ i 0 = some c) (hp0 : 0 < m_ct μ y c) (f1 : μ1 = mo_take μ y c) (f2 : μ2 = mx_kp μ1 (upd (m_kp μ) (600 * y + 60 * i + m_ac μ y i) v)) (f3 : μ3 = mx_kc μ2 (up2 (m_kc μ) y i (m_ac μ y i + 1))) (k4 : m_tn μ1 = m_tn μ) : mStp μ y i (mx_ac μ3 (up2 (m_ac μ) y i (m_ac μ y i + 1))) := by
  have g2 : mS μ1 μ2 ∧ m_tn μ2 = m_tn μ1 ∧ m_ct μ2 = m_ct μ1 ∧ m_vs μ2 = m_vs μ1 ∧ m_kp μ2 = upd (m_kp μ) (600 * y + 60 * i + m_ac μ y i) v := by
    rw [f2]; exact ⟨⟨rfl, rfl, rfl, rfl, rfl, rfl, rfl, rfl, rfl, rfl⟩, rfl, rfl, rfl, rfl⟩
  have g3 : mS μ2 μ3 ∧ m_tn μ3 = m_tn μ2 ∧ m_ct μ3 = m_ct μ2 ∧ m_vs μ3 = m_vs μ2 ∧ m_kp μ3 = m_kp μ2 ∧ m_kc μ3 = up2 (m_kc μ) y i (m_ac μ y i + 1) := by
    rw [f3]; exact ⟨⟨rfl, rfl, rfl, rfl, rfl, rfl, rfl, rfl, rfl, rfl⟩, rfl, rfl, rfl, rfl, rfl⟩
  have g4 : mS μ3 (mx_ac μ3 (up2 (m_ac μ) y i (m_ac μ y i + 1))) := ⟨rfl, rfl, rfl, rfl, rfl, rfl, rfl, rfl, rfl, rfl⟩
  exact mStp_mk6 hi hn hk h60 hp e hp0 f1 ((g2.1.tr g3.1).tr g4) (g3.2.2.2.2.1.trans g2.2.2.2.2) g3.2.2.2.2.2 (fun _ _ => rfl) (g3.2.1.trans (g2.2.1.trans k4)) (g3.2.2.1.trans g2.2.2.1) (g3.2.2.2.1.trans g2.2.2.2.1)
set_option maxHeartbeats 4000000 in
set_option maxRecDepth 100000 in
theorem c_M_doAct_6 (l : Launch) (D : va_G) (cc : ClassId × ClassId × ClassId) (ad : yl → Nat) (X : va_W) (b0 sz : Nat) (μ : ms) (y i : Nat) (hy : y < 2) (hn : i < m_n μ) (hi : mI μ y) (hk : m_kd μ i = 6) (hcan : yp_canb (m_T μ) (m_D μ y) i = true) : Met l y_M_doAct w_M_doAct ({ frames := 1, cells := 0, slots := 0, locals := 27 }) (yPr D cc b0 [.ref (ad (20, 0, 0)), .int (nI y), .int (nI i)] (mW cc ad X μ) sz) (va_Qv (fun μ' : ms => mStp μ y i μ') (yB D ycl (mW cc ad X μ) sz (fun μ' => mW cc ad X μ')) (va_A (mW cc ad X μ) sz)) 0 0 (va_A (mW cc ad X μ) sz) := by
  have hn10 := hi.1
  have hc16 := hi.2.1
  obtain ⟨a1, a2, a3, a4, a5, a6, a7⟩ := hi.2.2.2.2.1 i
  refine y_ofW (cc := b_M_doAct) (maxL := 7) (ret := none) (by decide) rfl (Nat.le_of_ble_eq_true rfl) ?_
  intro pv ev sv mv bv tv cv ls hI hsz hw hl
  obtain ⟨hx, hb, hr, hml, hts, hown, hlocks, hnm, hK, hAb, hb0, hA⟩ := id hI
  have ht : ∀ w ∈ lg_tbl, w.before _ sv = true := fun w h => hts w (List.mem_cons_of_mem _ h)
  have hl : lv_has ls 7 [(0, .ref (ad (20, 0, 0))), (1, .int (nI y)), (2, .int (nI i))] := hl
  have h100 : ¬ 100 ≤ (m_D μ y).1 i := Nat.not_le.mpr (yp_can_lt hcan)
  have h99 : m_ac μ y i < 100 := yp_can_lt hcan
  rw [yp_can6 (T := m_T μ) h100 hk] at hcan
  obtain ⟨q1, q2⟩ := (Bool.and_eq_true _ _).mp hcan
  have h60 : m_ac μ y i < 60 := of_decide_eq_true q2
  have hkc : m_kc μ y i = m_ac μ y i := by rw [a6, if_pos hk]
  obtain ⟨c0, e0, hp0⟩ := mh_inv q1
  have hi1 := mI_take hi hp0
  have hc0 := mc_lt hi hp0
  have hb0 := hi.2.2.2.2.2.1 c0 hc0
  have xt := mX_take (μ := μ) (y := y) (c := c0) (by omega) (by omega)
  have hpl := ypl6 (T := m_T μ) h100 hk h60 (mh_head e0 hp0)
  refine lv_bipush (v := (nI 10)) hx hb d_M_doAct_0 (by decide) ?_
  refine lv_iload_n hx hb d_M_doAct_2 rfl (lv_at hl 1 rfl) ?_
  refine lv_imul hx hb d_M_doAct_3 ?_
  rw [pk_mul]
  refine lv_iload_n hx hb d_M_doAct_4 rfl (lv_at hl 2 rfl) ?_
  refine lv_iadd hx hb d_M_doAct_5 ?_
  rw [nI_add]
  refine lv_istore_n (lv' := [(3, .int _), (0, .ref _), (1, .int _), (2, .int _)]) hx hb d_M_doAct_6 rfl hl (by decide) rfl (fun ls hl => ?_)
  refine lv_aload_n hx hb d_M_doAct_7 rfl (lv_at hl 1 rfl) ?_
  refine yr_get (C := R_M) (T := F_M) (N := 16) (ci := k_M) hx hb ht j_M hown hK.1 hw mL_o (by rfl) rfl 1 (by decide) (ht _ mf_M_7) (fun _ h9 => h9) (by rfl) d_M_doAct_8 ?_
  refine lv_iload_n hx hb d_M_doAct_11 rfl (lv_at hl 3 rfl) ?_
  refine yr_iald (v := nI (m_kd μ i)) hx hb hK.1 hw mL_0 (by rfl) 0 rfl (vp_in_nI (N := 10) (by omega) (by omega)) (by rw [nI_clamp (by omega)]; rfl) d_M_doAct_12 ?_
  rw [hk]
  refine lv_tableIn (off := 236) (tgt := 249) hx hb d_M_doAct_13 (by decide +kernel) (by decide +kernel) (by decide +kernel) (by decide) ?_
  refine lv_aload_n hx hb d_M_doAct_249 rfl (lv_at hl 1 rfl) ?_
  refine yr_get (C := R_M) (T := F_M) (N := 16) (ci := k_M) hx hb ht j_M hown hK.1 hw mL_o (by rfl) rfl 13 (by decide) (ht _ mf_M_43) (fun _ h9 => h9) (by rfl) d_M_doAct_250 ?_
  refine lv_sipush (v := (nI 600)) hx hb d_M_doAct_253 (by decide) ?_
  refine lv_iload_n hx hb d_M_doAct_256 rfl (lv_at hl 2 rfl) ?_
  refine lv_imul hx hb d_M_doAct_257 ?_
  rw [pk_mul]
  refine lv_bipush (v := (nI 60)) hx hb d_M_doAct_258 (by decide) ?_
  refine lv_iload_n hx hb d_M_doAct_260 rfl (lv_at hl 3 rfl) ?_
  refine lv_imul hx hb d_M_doAct_261 ?_
  rw [pk_mul]
  refine lv_iadd hx hb d_M_doAct_262 ?_
  rw [nI_add]
  refine lv_aload_n hx hb d_M_doAct_263 rfl (lv_at hl 1 rfl) ?_
  refine yr_get (C := R_M) (T := F_M) (N := 16) (ci := k_M) hx hb ht j_M hown hK.1 hw mL_o (by rfl) rfl 12 (by decide) (ht _ mf_M_40) (fun _ h9 => h9) (by rfl) d_M_doAct_264 ?_
  refine lv_iload_n hx hb d_M_doAct_267 rfl (lv_at hl 0 rfl) ?_
  refine yr_iald (v := nI (m_ac μ y i)) hx hb hK.1 hw mL_10 (by rfl) 0 rfl (vp_in_nI (N := 20) (by omega) (by omega)) (by rw [nI_clamp (by omega)]; show nI (m_kc μ ((10 * y + i) / 10) ((10 * y + i) % 10)) = _; rw [at_flat (f := m_kc μ) (show i < 10 by omega), hkc]) d_M_doAct_268 ?_
  refine lv_iadd hx hb d_M_doAct_269 ?_
  rw [nI_add]
  refine lv_aload_n hx hb d_M_doAct_270 rfl (lv_at hl 1 rfl) ?_
  refine lv_iload_n hx hb d_M_doAct_271 rfl (lv_at hl 2 rfl) ?_
  refine lv_iload_n hx hb d_M_doAct_272 rfl (lv_at hl 3 rfl) ?_
  refine lv_iconst (v := (nI 0)) hx hb d_M_doAct_273 (by decide) ?_
  refine yc_i (va_runV (As := [.int _, .int _, .int _]) (rest := [.int _, .ref _]) ⟨hx, hb, hml, hown, hts⟩ (c_M_take l D cc ad X b0 _ μ y i 0 hy hn hi (by omega) c0 e0 hp0) (cwV 3 hts (yg_call mc_M_take ml_M_85 mm_M_take ms_M_take mi_M) rfl rfl rfl (by decide +kernel) ⟨Nat.le_of_ble_eq_true rfl, Nat.le_of_ble_eq_true rfl⟩) (y_preV hI hw (y_recv hK.1 hw mL_o (by rfl) rfl)) rfl rfl hl.1 rfl (lv_room (Nat.le_of_ble_eq_true rfl)) d_M_doAct_274 ⟨Nat.le_of_ble_eq_true rfl, Nat.le_of_ble_eq_true rfl⟩) hw hA (fun r u H locs he hw => ?_)
  subst he
  obtain ⟨μ1, hw, hμ1⟩ : ∃ z, yH D ycl (va_A (mW cc ad X μ) sz) sv.heap H locs (mW cc ad X z) ∧ z = mo_take μ y c0 := ⟨_, hw, rfl⟩
  have k1 : m_kp μ1 = m_kp μ := by rw [hμ1]; rfl
  have k2 : m_kc μ1 = m_kc μ := by rw [hμ1]; rfl
  have k3 : m_ac μ1 = m_ac μ := by rw [hμ1]; rfl
  have k4 : m_tn μ1 = m_tn μ := by rw [hμ1]; rfl
  refine yr_iast hx hb hK.1 hw mL_11 (by rfl) 0 rfl (vp_in_nI (N := 1200) (by omega) (by omega)) d_M_doAct_277 (fun H locs hw => ?_)
  rw [nI_clamp (by omega)] at hw
  have hw := mw_kp (upd (m_kp μ) (600 * y + 60 * i + m_ac μ y i) (m_vs μ (128 * y + 8 * c0))) hw (by rw [← k1]; rfl)
  obtain ⟨μ2, hw, f2⟩ : ∃ z, yH D ycl (va_A (mW cc ad X μ) sz) sv.heap H locs (mW cc ad X z) ∧ z = mx_kp μ1 (upd (m_kp μ) (600 * y + 60 * i + m_ac μ y i) (m_vs μ (128 * y + 8 * c0))) := ⟨_, hw, rfl⟩
  have k5 : m_kc μ2 = m_kc μ := by rw [f2]; exact k2
  have k6 : m_ac μ2 = m_ac μ := by rw [f2]; exact k3
  refine lv_aload_n hx hb d_M_doAct_278 rfl (lv_at hl 1 rfl) ?_
  refine yr_get (C := R_M) (T := F_M) (N := 16) (ci := k_M) hx hb ht j_M hown hK.1 hw mL_o (by rfl) rfl 12 (by decide) (ht _ mf_M_40) (fun _ h9 => h9) (by rfl) d_M_doAct_279 ?_
  refine lv_iload_n hx hb d_M_doAct_282 rfl (lv_at hl 0 rfl) ?_
  refine lv_dup2_11 hx hb d_M_doAct_283 rfl rfl ?_
  refine yr_iald (v := nI (m_ac μ y i)) hx hb hK.1 hw mL_10 (by rfl) 0 rfl (vp_in_nI (N := 20) (by omega) (by omega)) (by rw [nI_clamp (by omega)]; show nI (m_kc μ2 ((10 * y + i) / 10) ((10 * y + i) % 10)) = _; rw [at_flat (f := m_kc μ2) (show i < 10 by omega), k5, hkc]) d_M_doAct_284 ?_
  refine lv_iconst (v := (nI 1)) hx hb d_M_doAct_285 (by decide) ?_
  refine lv_iadd hx hb d_M_doAct_286 ?_
  rw [nI_add]
  refine yr_iast hx hb hK.1 hw mL_10 (by rfl) 0 rfl (vp_in_nI (N := 20) (by omega) (by omega)) d_M_doAct_287 (fun H locs hw => ?_)
  rw [nI_clamp (by omega)] at hw
  have hw := mw_kc (up2 (m_kc μ) y i (m_ac μ y i + 1)) hw (by rw [← upd_flat (show i < 10 by omega), ← k5]; rfl)
  obtain ⟨μ3, hw, f3⟩ : ∃ z, yH D ycl (va_A (mW cc ad X μ) sz) sv.heap H locs (mW cc ad X z) ∧ z = mx_kc μ2 (up2 (m_kc μ) y i (m_ac μ y i + 1)) := ⟨_, hw, rfl⟩
  have k7 : m_ac μ3 = m_ac μ := by rw [f3]; exact k6
  refine lv_goto (tgt := 353) hx hb d_M_doAct_288 (by decide) ?_
  refine lv_aload_n hx hb d_M_doAct_353 rfl (lv_at hl 1 rfl) ?_
  refine yr_get (C := R_M) (T := F_M) (N := 16) (ci := k_M) hx hb ht j_M hown hK.1 hw mL_o (by rfl) rfl 10 (by decide) (ht _ mf_M_34) (fun _ h9 => h9) (by rfl) d_M_doAct_354 ?_
  refine lv_iload_n hx hb d_M_doAct_357 rfl (lv_at hl 0 rfl) ?_
  refine lv_dup2_11 hx hb d_M_doAct_358 rfl rfl ?_
  refine yr_iald (v := nI (m_ac μ y i)) hx hb hK.1 hw mL_8 (by rfl) 0 rfl (vp_in_nI (N := 20) (by omega) (by omega)) (by rw [nI_clamp (by omega)]; show nI (m_ac μ3 ((10 * y + i) / 10) ((10 * y + i) % 10)) = _; rw [at_flat (f := m_ac μ3) (show i < 10 by omega), k7]) d_M_doAct_359 ?_
  refine lv_iconst (v := (nI 1)) hx hb d_M_doAct_360 (by decide) ?_
  refine lv_iadd hx hb d_M_doAct_361 ?_
  rw [nI_add]
  refine yr_iast hx hb hK.1 hw mL_8 (by rfl) 0 rfl (vp_in_nI (N := 20) (by omega) (by omega)) d_M_doAct_362 (fun H locs hw => ?_)
  rw [nI_clamp (by omega)] at hw
  have hw := mw_ac (up2 (m_ac μ) y i (m_ac μ y i + 1)) hw (by rw [← upd_flat (show i < 10 by omega), ← k7]; rfl)
  exact ye_v hI (mx_ac μ3 (up2 (m_ac μ) y i (m_ac μ y i + 1))) (m6_fin hi hn hk h60 hpl e0 hp0 hμ1 f2 f3 k4) hw d_M_doAct_363
theorem c_M_doAct (l : Launch) (D : va_G) (cc : ClassId × ClassId × ClassId) (ad : yl → Nat) (X : va_W) (b0 sz : Nat) (μ : ms) (y i : Nat) (hy : y < 2) (hn : i < m_n μ) (hi : mI μ y) (hcan : yp_canb (m_T μ) (m_D μ y) i = true) : Met l y_M_doAct w_M_doAct ({ frames := 1, cells := 0, slots := 0, locals := 27 }) (yPr D cc b0 [.ref (ad (20, 0, 0)), .int (nI y), .int (nI i)] (mW cc ad X μ) sz) (va_Qv (fun μ' : ms => mStp μ y i μ') (yB D ycl (mW cc ad X μ) sz (fun μ' => mW cc ad X μ')) (va_A (mW cc ad X μ) sz)) 0 0 (va_A (mW cc ad X μ) sz) := by
  have hks : m_kd μ i = 0 ∨ m_kd μ i = 1 ∨ m_kd μ i = 2 ∨ m_kd μ i = 3 ∨ m_kd μ i = 4 ∨ m_kd μ i = 5 ∨ m_kd μ i = 6 ∨ m_kd μ i = 7 ∨ m_kd μ i = 8 := by have := (hi.2.2.2.2.1 i).1; omega
  rcases hks with hk | hk | hk | hk | hk | hk | hk | hk | hk
  · exact c_M_doAct_0 l D cc ad X b0 sz μ y i hy hn hi hk hcan
  · exact c_M_doAct_1 l D cc ad X b0 sz μ y i hy hn hi hk hcan
  · exact c_M_doAct_2 l D cc ad X b0 sz μ y i hy hn hi hk hcan
  · exact c_M_doAct_3 l D cc ad X b0 sz μ y i hy hn hi hk hcan
  · exact c_M_doAct_4 l D cc ad X b0 sz μ y i hy hn hi hk hcan
  · exact c_M_doAct_5 l D cc ad X b0 sz μ y i hy hn hi hk hcan
  · exact c_M_doAct_6 l D cc ad X b0 sz μ y i hy hn hi hk hcan
  · exact c_M_doAct_7 l D cc ad X b0 sz μ y i hy hn hi hk hcan
  · exact c_M_doAct_8 l D cc ad X b0 sz μ y i hy hn hi hk hcan
