/-! THE REFERENCE: at, waiting, value, actor -/
theorem upd_up {f : Nat → Int32} {i : Nat} {v : Int32} : upd f i v = va_up f i v := by
  funext j
  unfold va_up
  by_cases h : j = i
  · subst h; rw [pk_us, if_pos rfl]
  · rw [pk_un h, if_neg h]
theorem mo_sub1 {n : Nat} : nI (n + 1) - nI 1 = nI n := by
  rw [← nI_add]
  exact Int32.add_sub_cancel _ _
theorem mo_no9 {x : Int32} {n : Nat} {C : Prop} (hno : x < 0 ∨ nI 9 ≤ x ∨ 10 ≤ n) (h6 : ¬ nI n = nI 10) (hn : n ≤ 10) (h0 : ¬ x < 0) (h8 : x ≤ nI 8) : C := by
  rcases hno with h | h | h
  · exact absurd h h0
  · exfalso
    rw [Int32.le_iff_toInt_le, nI_toInt (by omega)] at h h8
    omega
  · exact absurd (by rw [show n = 10 by omega]) h6
theorem ma_no {μ : ms} {y j : Nat} {x v : Int32} (hjn : yin x (yp_n (m_T μ)) = some j) (hk : m_kd μ j = 6) (hno : v < 0 ∨ nI (m_ac μ y j) ≤ v) : a_at (m_T μ) (m_D μ y) x v = -9223372036854775808 := by
  unfold a_at
  rw [hjn]
  show (if m_kd μ j = 6 then _ else _) = _
  rw [if_pos hk, show yin v ((m_D μ y).1 j) = none from yin_no hno]
theorem ma_yes {μ : ms} {y j t : Nat} {x : Int32} (hjn : yin x (yp_n (m_T μ)) = some j) (hk : m_kd μ j = 6) (hkc : m_kc μ y j = m_ac μ y j) (ht : t < m_ac μ y j) (hn : m_ac μ y j < 2 ^ 31) : a_at (m_T μ) (m_D μ y) x (nI t) = (m_kp μ (600 * y + 60 * j + t)).toInt64 := by
  unfold a_at
  rw [hjn]
  show (if m_kd μ j = 6 then _ else _) = _
  rw [if_pos hk, show yin (nI t) ((m_D μ y).1 j) = some t from yin_some ht hn]
  show (List.getD (if m_kd μ j = 6 then (List.range (m_kc μ y j)).map (fun q => m_kp μ (600 * y + 60 * j + q)) else []) t 0).toInt64 = _
  rw [if_pos hk, List.getD_eq_getElem?_getD, List.getElem?_map, List.getElem?_range (by omega)]
  rfl
theorem ma_other {μ : ms} {y j : Nat} {x v : Int32} (hjn : yin x (yp_n (m_T μ)) = some j) (hk : ¬ m_kd μ j = 6) : a_at (m_T μ) (m_D μ y) x v = -9223372036854775808 := by
  unfold a_at
  rw [hjn]
  exact if_neg hk
theorem mw_no {μ : ms} {y j : Nat} {x v : Int32} (hjn : yin x (m_nc μ) = some j) (hno : v < 0 ∨ nI (m_ct μ y j) ≤ v) : a_waiting (m_nc μ) (m_D μ y) x v = -9223372036854775808 := by
  unfold a_waiting
  rw [hjn]
  show (match yin v ((m_D μ y).2.2 j).length with | none => (-9223372036854775808 : Int64) | some i => (((m_D μ y).2.2 j).getD i 0).toInt64) = _
  rw [mq_len, yin_no hno]
theorem mw_yes {μ : ms} {y j t : Nat} {x : Int32} (hjn : yin x (m_nc μ) = some j) (ht : t < m_ct μ y j) (hn : m_ct μ y j < 2 ^ 31) : a_waiting (m_nc μ) (m_D μ y) x (nI t) = (m_vs μ (128 * y + 8 * j + t)).toInt64 := by
  unfold a_waiting
  rw [hjn]
  show (match yin (nI t) ((m_D μ y).2.2 j).length with | none => (-9223372036854775808 : Int64) | some i => (((m_D μ y).2.2 j).getD i 0).toInt64) = _
  rw [mq_len, yin_some ht hn]
  show (((m_D μ y).2.2 j).getD t 0).toInt64 = _
  rw [List.getD_eq_getElem?_getD, mq_get ht]
  rfl
theorem mv_J {μ : ms} {j : Nat} (hi : mI μ 0) (hj : j < m_n μ) (hk : m_kd μ j = 0) (h20 : m_tc μ j < 20) (v : Int32) : mI (mx_tc (mx_td μ (upd (m_td μ) (20 * j + m_tc μ j) v)) (va_up (m_tc μ) j (m_tc μ j + 1))) 0 ∧ m_T (mx_tc (mx_td μ (upd (m_td μ) (20 * j + m_tc μ j) v)) (va_up (m_tc μ) j (m_tc μ j + 1))) = ((m_T μ).1, (m_T μ).2.1, (m_T μ).2.2.1, (m_T μ).2.2.2.1, (m_T μ).2.2.2.2.1, (m_T μ).2.2.2.2.2.1, (m_T μ).2.2.2.2.2.2.1, va_up (yp_sr (m_T μ)) j (yp_sr (m_T μ) j ++ [v])) := by
  obtain ⟨b1, b2, b3, b4, b5, b6, b7, b8, b9⟩ := id hi
  have htc : ∀ i, m_tc (mx_tc (mx_td μ (upd (m_td μ) (20 * j + m_tc μ j) v)) (va_up (m_tc μ) j (m_tc μ j + 1))) i = if i = j then m_tc μ j + 1 else m_tc μ i := fun i => rfl
  refine ⟨⟨b1, b2, fun i h => ?_, b4, fun i => ?_, b6, b7, b8, b9⟩, ?_⟩
  · obtain ⟨c1, c2, c3, c4, c5⟩ := b3 i h
    have h : m_n μ ≤ i := h
    exact ⟨c1, c2, c3, by rw [htc, if_neg (by omega)]; exact c4, c5⟩
  · obtain ⟨c1, c2, c3, c4⟩ := b5 i
    refine ⟨c1, ?_, fun h => ?_, c4⟩
    · rw [htc]
      by_cases h : i = j
      · rw [if_pos h]; omega
      · rw [if_neg h]; exact c2
    · have h : m_kd μ i ≠ 0 := h
      rw [htc, if_neg (fun q => h (by rw [q, hk]))]
      exact c3 h
  · have e : (fun i => (List.range (va_up (m_tc μ) j (m_tc μ j + 1) i)).map (fun q => upd (m_td μ) (20 * j + m_tc μ j) v (20 * i + q))) = va_up (yp_sr (m_T μ)) j (yp_sr (m_T μ) j ++ [v]) := by
      funext i
      by_cases h : i = j
      · subst h
        rw [va_up_self, va_up_self, List.range_succ, List.map_append, List.map_singleton, pk_us]
        congr 1
        apply List.map_congr_left
        intro q hq
        have hq := List.mem_range.mp hq
        exact pk_un (by omega)
      · rw [va_up_ne _ _ h, va_up_ne _ _ h]
        apply List.map_congr_left
        intro q hq
        have hq := List.mem_range.mp hq
        have h2 := (b5 i).2.1
        exact pk_un (by omega)
    show (_, _, _, _, _, _, _, (fun i => (List.range (va_up (m_tc μ) j (m_tc μ j + 1) i)).map (fun q => upd (m_td μ) (20 * j + m_tc μ j) v (20 * i + q)))) = _
    rw [e]
    rfl
def mo_ad (μ : ms) (k : Nat) (a b : Int32) : ms := mx_n (mx_b (mx_a (mx_kd μ (va_up (m_kd μ) (m_n μ) k)) (va_up (m_a μ) (m_n μ) a)) (va_up (m_b μ) (m_n μ) b)) (m_n μ + 1)
theorem mo_add {μ : ms} {k : Nat} (hi : mI μ 0) (hk : k < 9) (hn : m_n μ < 10) (a b : Int32) : mI (mo_ad μ k a b) 0 ∧ m_D (mo_ad μ k a b) 0 = m_D μ 0 := by
  obtain ⟨b1, b2, b3, b4, b5, b6, b7, b8, b9⟩ := id hi
  obtain ⟨d1, d2, d3, d4, d5⟩ := b3 (m_n μ) (Nat.le_refl _)
  have hkd : ∀ i, m_kd (mo_ad μ k a b) i = if i = m_n μ then k else m_kd μ i := fun i => rfl
  have ha : ∀ i, m_a (mo_ad μ k a b) i = if i = m_n μ then a else m_a μ i := fun i => rfl
  have hb : ∀ i, m_b (mo_ad μ k a b) i = if i = m_n μ then b else m_b μ i := fun i => rfl
  refine ⟨⟨by show m_n μ + 1 ≤ 10; omega, b2, fun i h => ?_, b4, fun i => ?_, b6, fun i j c e => ?_, fun i j c e => ?_, b9⟩, ?_⟩
  · have h : m_n μ + 1 ≤ i := h
    rw [hkd, ha, hb, if_neg (by omega), if_neg (by omega), if_neg (by omega)]
    exact b3 i (by omega)
  · rw [hkd]
    by_cases h : i = m_n μ
    · rw [if_pos h, h]
      obtain ⟨c1, c2, c3, c4, c5, c6, c7⟩ := b5 (m_n μ)
      have e1 : m_kc μ 0 (m_n μ) = 0 := by rw [c6, if_neg (by omega)]
      have e2 : m_tn μ 0 (m_n μ) = 0 := by rw [c7, if_neg (by omega)]
      refine ⟨hk, c2, fun _ => d4, c4, fun _ => ?_, ?_, ?_⟩
      · show m_ac μ 0 (m_n μ) ≤ 60; omega
      · show m_kc μ 0 (m_n μ) = if k = 6 then m_ac μ 0 (m_n μ) else 0
        rw [e1, d5]; exact (ite_self _).symm
      · show m_tn μ 0 (m_n μ) = if k = 2 ∨ k = 3 then m_ac μ 0 (m_n μ) % 2 else 0
        rw [e2, d5]; exact (ite_self _).symm
    · rw [if_neg h]; exact b5 i
  · obtain ⟨c1, c2, c3⟩ := b7 i j c e
    rw [hkd, if_neg (by omega)]
    exact ⟨by show i < m_n μ + 1; omega, c2, c3⟩
  · obtain ⟨c1, c2, c3⟩ := b8 i j c e
    rw [hkd, if_neg (by omega)]
    exact ⟨by show i < m_n μ + 1; omega, c2, c3⟩
  · have e : (fun i => if m_kd (mo_ad μ k a b) i = 6 then (List.range (m_kc μ 0 i)).map (fun j => m_kp μ (600 * 0 + 60 * i + j)) else []) = fun i => if m_kd μ i = 6 then (List.range (m_kc μ 0 i)).map (fun j => m_kp μ (600 * 0 + 60 * i + j)) else [] := by
      funext i
      rw [hkd]
      by_cases h : i = m_n μ
      · rw [if_pos h, h, if_neg (show ¬ m_kd μ (m_n μ) = 6 by omega)]
        have e1 : m_kc μ 0 (m_n μ) = 0 := by rw [(b5 (m_n μ)).2.2.2.2.2.1, if_neg (by omega)]
        rw [e1]
        exact ite_self _
      · rw [if_neg h]
    show (_, (fun i => if m_kd (mo_ad μ k a b) i = 6 then (List.range (m_kc μ 0 i)).map (fun j => m_kp μ (600 * 0 + 60 * i + j)) else []), _) = _
    rw [e]
    rfl
set_option maxHeartbeats 4000000 in
set_option maxRecDepth 100000 in
theorem c_M_at (l : Launch) (D : va_G) (cc : ClassId × ClassId × ClassId) (ad : yl → Nat) (X : va_W) (b0 sz : Nat) (μ : ms) (hi : mI μ 0) (x v : Int32) : Met l y_M_at w_M_at ({ frames := 2, cells := 0, slots := 0, locals := 42 }) (yPr D cc b0 [.ref (ad (20, 0, 0)), .int x, .int v] (mW cc ad X μ) sz) (yQl D (mW cc ad X μ) sz (a_at (m_T μ) (m_D μ 0) x v) (mW cc ad X μ)) 0 0 (va_A (mW cc ad X μ) sz) := by
  have hn10 := hi.1
  have hc16 := hi.2.1
  rcases ysplit x (n := m_n μ) (by omega) with hno | ⟨j, hj, rfl⟩
  · refine y_ofW (cc := b_M_at) (maxL := 3) (ret := (some .long)) (by decide) rfl (Nat.le_of_ble_eq_true rfl) ?_
    intro pv ev sv mv bv tv cv ls hI hsz hw hl
    obtain ⟨hx, hb, hr, hml, hts, hown, hlocks, hnm, hK, hAb, hb0, hA⟩ := id hI
    have ht : ∀ w ∈ lg_tbl, w.before _ sv = true := fun w h => hts w (List.mem_cons_of_mem _ h)
    have hl : lv_has ls 3 [(0, .ref (ad (20, 0, 0))), (1, .int x), (2, .int v)] := hl
    refine lv_aload_n hx hb d_M_at_0 rfl (lv_at hl 0 rfl) ?_
    refine lv_iload_n hx hb d_M_at_1 rfl (lv_at hl 1 rfl) ?_
    refine yc_i (va_runV (As := [.int _]) (rest := []) ⟨hx, hb, hml, hown, hts⟩ (c_M_isSink_no l D cc ad X b0 _ μ hi x hno) (cwV 1 hts (yg_call mc_M_isSink ml_M_100 mm_M_isSink ms_M_isSink mi_M) rfl rfl rfl (by decide +kernel) ⟨Nat.le_of_ble_eq_true rfl, Nat.le_of_ble_eq_true rfl⟩) (y_preV hI hw (y_recv hK.1 hw mL_o (by rfl) rfl)) rfl rfl hl.1 rfl (lv_room (Nat.le_of_ble_eq_true rfl)) d_M_at_2 ⟨Nat.le_of_ble_eq_true rfl, Nat.le_of_ble_eq_true rfl⟩) hw hA (fun r u H locs he hw => ?_)
    subst he
    refine lv_if_eq (tgt := 37) hx hb d_M_at_5 (by decide) (fun c_5 => ?_) (fun c_5 => by first | exact absurd c_5 (by decide) | exact (c_5 (by decide)).elim)
    refine lv_ldc2 hx hb hown (ht _ mq_M_103) d_M_at_37 ?_
    exact ye_l hI () (by unfold a_at; rw [yin_no (show x < 0 ∨ nI (yp_n (m_T μ)) ≤ x from hno)]) hw d_M_at_40
  · have hjn : yin (nI j) (yp_n (m_T μ)) = some j := yin_some hj (by show m_n μ < _; omega)
    obtain ⟨a1, a2, a3, a4, a5, a6, a7⟩ := hi.2.2.2.2.1 j
    by_cases hk : m_kd μ j = 6
    · have hkc : m_kc μ 0 j = m_ac μ 0 j := by rw [a6, if_pos hk]
      rcases ysplit v (n := m_ac μ 0 j) (by omega) with hno | ⟨t, htt, rfl⟩
      · refine y_ofW (cc := b_M_at) (maxL := 3) (ret := (some .long)) (by decide) rfl (Nat.le_of_ble_eq_true rfl) ?_
        intro pv ev sv mv bv tv cv ls hI hsz hw hl
        obtain ⟨hx, hb, hr, hml, hts, hown, hlocks, hnm, hK, hAb, hb0, hA⟩ := id hI
        have ht : ∀ w ∈ lg_tbl, w.before _ sv = true := fun w h => hts w (List.mem_cons_of_mem _ h)
        have hl : lv_has ls 3 [(0, .ref (ad (20, 0, 0))), (1, .int (nI j)), (2, .int v)] := hl
        refine lv_aload_n hx hb d_M_at_0 rfl (lv_at hl 0 rfl) ?_
        refine lv_iload_n hx hb d_M_at_1 rfl (lv_at hl 1 rfl) ?_
        refine yc_i (va_runV (As := [.int _]) (rest := []) ⟨hx, hb, hml, hown, hts⟩ (c_M_isSink l D cc ad X b0 _ μ hi j hj hk) (cwV 1 hts (yg_call mc_M_isSink ml_M_100 mm_M_isSink ms_M_isSink mi_M) rfl rfl rfl (by decide +kernel) ⟨Nat.le_of_ble_eq_true rfl, Nat.le_of_ble_eq_true rfl⟩) (y_preV hI hw (y_recv hK.1 hw mL_o (by rfl) rfl)) rfl rfl hl.1 rfl (lv_room (Nat.le_of_ble_eq_true rfl)) d_M_at_2 ⟨Nat.le_of_ble_eq_true rfl, Nat.le_of_ble_eq_true rfl⟩) hw hA (fun r u H locs he hw => ?_)
        subst he
        refine lv_if_eq (tgt := 37) hx hb d_M_at_5 (by decide) (fun c_5 => by first | exact absurd c_5 (by decide) | exact (c_5 (by decide)).elim) (fun c_5 => ?_)
        refine lv_iload_n hx hb d_M_at_8 rfl (lv_at hl 2 rfl) ?_
        refine lv_if_lt (tgt := 37) hx hb d_M_at_9 (by decide) (fun c_9 => ?_) (fun c_9 => ?_)
        · refine lv_ldc2 hx hb hown (ht _ mq_M_103) d_M_at_37 ?_
          exact ye_l hI () (ma_no hjn hk hno).symm hw d_M_at_40
        · refine lv_iload_n hx hb d_M_at_12 rfl (lv_at hl 2 rfl) ?_
          refine lv_aload_n hx hb d_M_at_13 rfl (lv_at hl 0 rfl) ?_
          refine yr_get (C := R_M) (T := F_M) (N := 16) (ci := k_M) hx hb ht j_M hown hK.1 hw mL_o (by rfl) rfl 12 (by decide) (ht _ mf_M_40) (fun _ h9 => h9) (by rfl) d_M_at_14 ?_
          refine lv_iload_n hx hb d_M_at_17 rfl (lv_at hl 1 rfl) ?_
          refine yr_iald (v := nI (m_ac μ 0 j)) hx hb hK.1 hw mL_10 (by rfl) 0 rfl (vp_in_nI (N := 20) (by omega) (by omega)) (by rw [nI_clamp (by omega)]; show nI (m_kc μ (j / 10) (j % 10)) = _; rw [show j / 10 = 0 by omega, show j % 10 = j by omega, a6, if_pos hk]) d_M_at_18 ?_
          refine lv_icmp_ge (tgt := 37) hx hb d_M_at_19 (by decide) (fun c_19 => ?_) (fun c_19 => by exact (hno.elim (fun h => absurd h c_9) (fun h => absurd h c_19)))
          refine lv_ldc2 hx hb hown (ht _ mq_M_103) d_M_at_37 ?_
          exact ye_l hI () (ma_no hjn hk hno).symm hw d_M_at_40
      · refine y_ofW (cc := b_M_at) (maxL := 3) (ret := (some .long)) (by decide) rfl (Nat.le_of_ble_eq_true rfl) ?_
        intro pv ev sv mv bv tv cv ls hI hsz hw hl
        obtain ⟨hx, hb, hr, hml, hts, hown, hlocks, hnm, hK, hAb, hb0, hA⟩ := id hI
        have ht : ∀ w ∈ lg_tbl, w.before _ sv = true := fun w h => hts w (List.mem_cons_of_mem _ h)
        have hl : lv_has ls 3 [(0, .ref (ad (20, 0, 0))), (1, .int (nI j)), (2, .int (nI t))] := hl
        refine lv_aload_n hx hb d_M_at_0 rfl (lv_at hl 0 rfl) ?_
        refine lv_iload_n hx hb d_M_at_1 rfl (lv_at hl 1 rfl) ?_
        refine yc_i (va_runV (As := [.int _]) (rest := []) ⟨hx, hb, hml, hown, hts⟩ (c_M_isSink l D cc ad X b0 _ μ hi j hj hk) (cwV 1 hts (yg_call mc_M_isSink ml_M_100 mm_M_isSink ms_M_isSink mi_M) rfl rfl rfl (by decide +kernel) ⟨Nat.le_of_ble_eq_true rfl, Nat.le_of_ble_eq_true rfl⟩) (y_preV hI hw (y_recv hK.1 hw mL_o (by rfl) rfl)) rfl rfl hl.1 rfl (lv_room (Nat.le_of_ble_eq_true rfl)) d_M_at_2 ⟨Nat.le_of_ble_eq_true rfl, Nat.le_of_ble_eq_true rfl⟩) hw hA (fun r u H locs he hw => ?_)
        subst he
        refine lv_if_eq (tgt := 37) hx hb d_M_at_5 (by decide) (fun c_5 => by first | exact absurd c_5 (by decide) | exact (c_5 (by decide)).elim) (fun c_5 => ?_)
        refine lv_iload_n hx hb d_M_at_8 rfl (lv_at hl 2 rfl) ?_
        refine lv_if_lt (tgt := 37) hx hb d_M_at_9 (by decide) (fun c_9 => by exact absurd c_9 (nI_pos (by omega))) (fun c_9 => ?_)
        refine lv_iload_n hx hb d_M_at_12 rfl (lv_at hl 2 rfl) ?_
        refine lv_aload_n hx hb d_M_at_13 rfl (lv_at hl 0 rfl) ?_
        refine yr_get (C := R_M) (T := F_M) (N := 16) (ci := k_M) hx hb ht j_M hown hK.1 hw mL_o (by rfl) rfl 12 (by decide) (ht _ mf_M_40) (fun _ h9 => h9) (by rfl) d_M_at_14 ?_
        refine lv_iload_n hx hb d_M_at_17 rfl (lv_at hl 1 rfl) ?_
        refine yr_iald (v := nI (m_ac μ 0 j)) hx hb hK.1 hw mL_10 (by rfl) 0 rfl (vp_in_nI (N := 20) (by omega) (by omega)) (by rw [nI_clamp (by omega)]; show nI (m_kc μ (j / 10) (j % 10)) = _; rw [show j / 10 = 0 by omega, show j % 10 = j by omega, a6, if_pos hk]) d_M_at_18 ?_
        refine lv_icmp_ge (tgt := 37) hx hb d_M_at_19 (by decide) (fun c_19 => by exact absurd c_19 (nI_ge htt (by omega))) (fun c_19 => ?_)
        refine lv_aload_n hx hb d_M_at_22 rfl (lv_at hl 0 rfl) ?_
        refine yr_get (C := R_M) (T := F_M) (N := 16) (ci := k_M) hx hb ht j_M hown hK.1 hw mL_o (by rfl) rfl 13 (by decide) (ht _ mf_M_43) (fun _ h9 => h9) (by rfl) d_M_at_23 ?_
        refine lv_bipush (v := (nI 60)) hx hb d_M_at_26 (by decide) ?_
        refine lv_iload_n hx hb d_M_at_28 rfl (lv_at hl 1 rfl) ?_
        refine lv_imul hx hb d_M_at_29 ?_
        rw [pk_mul]
        refine lv_iload_n hx hb d_M_at_30 rfl (lv_at hl 2 rfl) ?_
        refine lv_iadd hx hb d_M_at_31 ?_
        rw [nI_add]
        refine yr_iald (v := m_kp μ (60 * j + t)) hx hb hK.1 hw mL_11 (by rfl) 0 rfl (vp_in_nI (N := 1200) (by omega) (by omega)) (by rw [nI_clamp (by omega)]; rfl) d_M_at_32 ?_
        refine lv_i2l hx hb d_M_at_33 rfl ?_
        refine lv_goto (tgt := 40) hx hb d_M_at_34 (by decide) ?_
        exact ye_l hI () (by rw [ma_yes hjn hk hkc htt (by omega), show 600 * 0 + 60 * j + t = 60 * j + t by omega]) hw d_M_at_40
    · refine y_ofW (cc := b_M_at) (maxL := 3) (ret := (some .long)) (by decide) rfl (Nat.le_of_ble_eq_true rfl) ?_
      intro pv ev sv mv bv tv cv ls hI hsz hw hl
      obtain ⟨hx, hb, hr, hml, hts, hown, hlocks, hnm, hK, hAb, hb0, hA⟩ := id hI
      have ht : ∀ w ∈ lg_tbl, w.before _ sv = true := fun w h => hts w (List.mem_cons_of_mem _ h)
      have hl : lv_has ls 3 [(0, .ref (ad (20, 0, 0))), (1, .int (nI j)), (2, .int v)] := hl
      refine lv_aload_n hx hb d_M_at_0 rfl (lv_at hl 0 rfl) ?_
      refine lv_iload_n hx hb d_M_at_1 rfl (lv_at hl 1 rfl) ?_
      refine yc_i (va_runV (As := [.int _]) (rest := []) ⟨hx, hb, hml, hown, hts⟩ (c_M_isSink_other l D cc ad X b0 _ μ hi j hj hk) (cwV 1 hts (yg_call mc_M_isSink ml_M_100 mm_M_isSink ms_M_isSink mi_M) rfl rfl rfl (by decide +kernel) ⟨Nat.le_of_ble_eq_true rfl, Nat.le_of_ble_eq_true rfl⟩) (y_preV hI hw (y_recv hK.1 hw mL_o (by rfl) rfl)) rfl rfl hl.1 rfl (lv_room (Nat.le_of_ble_eq_true rfl)) d_M_at_2 ⟨Nat.le_of_ble_eq_true rfl, Nat.le_of_ble_eq_true rfl⟩) hw hA (fun r u H locs he hw => ?_)
      subst he
      refine lv_if_eq (tgt := 37) hx hb d_M_at_5 (by decide) (fun c_5 => ?_) (fun c_5 => by first | exact absurd c_5 (by decide) | exact (c_5 (by decide)).elim)
      refine lv_ldc2 hx hb hown (ht _ mq_M_103) d_M_at_37 ?_
      exact ye_l hI () (ma_other hjn hk).symm hw d_M_at_40
set_option maxHeartbeats 4000000 in
set_option maxRecDepth 100000 in
theorem c_M_waiting (l : Launch) (D : va_G) (cc : ClassId × ClassId × ClassId) (ad : yl → Nat) (X : va_W) (b0 sz : Nat) (μ : ms) (hi : mI μ 0) (x v : Int32) : Met l y_M_waiting w_M_waiting ({ frames := 1, cells := 0, slots := 0, locals := 21 }) (yPr D cc b0 [.ref (ad (20, 0, 0)), .int x, .int v] (mW cc ad X μ) sz) (yQl D (mW cc ad X μ) sz (a_waiting (m_nc μ) (m_D μ 0) x v) (mW cc ad X μ)) 0 0 (va_A (mW cc ad X μ) sz) := by
  have hn10 := hi.1
  have hc16 := hi.2.1
  rcases ysplit x (n := m_nc μ) (by omega) with hno | ⟨j, hj, rfl⟩
  · refine y_ofW (cc := b_M_waiting) (maxL := 3) (ret := (some .long)) (by decide) rfl (Nat.le_of_ble_eq_true rfl) ?_
    intro pv ev sv mv bv tv cv ls hI hsz hw hl
    obtain ⟨hx, hb, hr, hml, hts, hown, hlocks, hnm, hK, hAb, hb0, hA⟩ := id hI
    have ht : ∀ w ∈ lg_tbl, w.before _ sv = true := fun w h => hts w (List.mem_cons_of_mem _ h)
    have hl : lv_has ls 3 [(0, .ref (ad (20, 0, 0))), (1, .int x), (2, .int v)] := hl
    refine lv_aload_n hx hb d_M_waiting_0 rfl (lv_at hl 0 rfl) ?_
    refine lv_iload_n hx hb d_M_waiting_1 rfl (lv_at hl 1 rfl) ?_
    refine yc_i (va_runV (As := [.int _]) (rest := []) ⟨hx, hb, hml, hown, hts⟩ (c_M_isChannel_no l D cc ad X b0 _ μ hi x hno) (cwV 1 hts (yg_call mc_M_isChannel ml_M_105 mm_M_isChannel ms_M_isChannel mi_M) rfl rfl rfl (by decide +kernel) ⟨Nat.le_of_ble_eq_true rfl, Nat.le_of_ble_eq_true rfl⟩) (y_preV hI hw (y_recv hK.1 hw mL_o (by rfl) rfl)) rfl rfl hl.1 rfl (lv_room (Nat.le_of_ble_eq_true rfl)) d_M_waiting_2 ⟨Nat.le_of_ble_eq_true rfl, Nat.le_of_ble_eq_true rfl⟩) hw hA (fun r u H locs he hw => ?_)
    subst he
    refine lv_if_eq (tgt := 37) hx hb d_M_waiting_5 (by decide) (fun c_5 => ?_) (fun c_5 => by first | exact absurd c_5 (by decide) | exact (c_5 (by decide)).elim)
    refine lv_ldc2 hx hb hown (ht _ mq_M_103) d_M_waiting_37 ?_
    exact ye_l hI () (by unfold a_waiting; rw [yin_no hno]) hw d_M_waiting_40
  · have hjn : yin (nI j) (m_nc μ) = some j := yin_some hj (by omega)
    obtain ⟨b1, b2, b3⟩ := hi.2.2.2.2.2.1 j hj
    rcases ysplit v (n := m_ct μ 0 j) (by omega) with hno | ⟨t, htt, rfl⟩
    · refine y_ofW (cc := b_M_waiting) (maxL := 3) (ret := (some .long)) (by decide) rfl (Nat.le_of_ble_eq_true rfl) ?_
      intro pv ev sv mv bv tv cv ls hI hsz hw hl
      obtain ⟨hx, hb, hr, hml, hts, hown, hlocks, hnm, hK, hAb, hb0, hA⟩ := id hI
      have ht : ∀ w ∈ lg_tbl, w.before _ sv = true := fun w h => hts w (List.mem_cons_of_mem _ h)
      have hl : lv_has ls 3 [(0, .ref (ad (20, 0, 0))), (1, .int (nI j)), (2, .int v)] := hl
      refine lv_aload_n hx hb d_M_waiting_0 rfl (lv_at hl 0 rfl) ?_
      refine lv_iload_n hx hb d_M_waiting_1 rfl (lv_at hl 1 rfl) ?_
      refine yc_i (va_runV (As := [.int _]) (rest := []) ⟨hx, hb, hml, hown, hts⟩ (c_M_isChannel l D cc ad X b0 _ μ hi j hj) (cwV 1 hts (yg_call mc_M_isChannel ml_M_105 mm_M_isChannel ms_M_isChannel mi_M) rfl rfl rfl (by decide +kernel) ⟨Nat.le_of_ble_eq_true rfl, Nat.le_of_ble_eq_true rfl⟩) (y_preV hI hw (y_recv hK.1 hw mL_o (by rfl) rfl)) rfl rfl hl.1 rfl (lv_room (Nat.le_of_ble_eq_true rfl)) d_M_waiting_2 ⟨Nat.le_of_ble_eq_true rfl, Nat.le_of_ble_eq_true rfl⟩) hw hA (fun r u H locs he hw => ?_)
      subst he
      refine lv_if_eq (tgt := 37) hx hb d_M_waiting_5 (by decide) (fun c_5 => by first | exact absurd c_5 (by decide) | exact (c_5 (by decide)).elim) (fun c_5 => ?_)
      refine lv_iload_n hx hb d_M_waiting_8 rfl (lv_at hl 2 rfl) ?_
      refine lv_if_lt (tgt := 37) hx hb d_M_waiting_9 (by decide) (fun c_9 => ?_) (fun c_9 => ?_)
      · refine lv_ldc2 hx hb hown (ht _ mq_M_103) d_M_waiting_37 ?_
        exact ye_l hI () (mw_no hjn hno).symm hw d_M_waiting_40
      · refine lv_iload_n hx hb d_M_waiting_12 rfl (lv_at hl 2 rfl) ?_
        refine lv_aload_n hx hb d_M_waiting_13 rfl (lv_at hl 0 rfl) ?_
        refine yr_get (C := R_M) (T := F_M) (N := 16) (ci := k_M) hx hb ht j_M hown hK.1 hw mL_o (by rfl) rfl 14 (by decide) (ht _ mf_M_46) (fun _ h9 => h9) (by rfl) d_M_waiting_14 ?_
        refine lv_iload_n hx hb d_M_waiting_17 rfl (lv_at hl 1 rfl) ?_
        refine yr_iald (v := nI (m_ct μ 0 j)) hx hb hK.1 hw mL_12 (by rfl) 0 rfl (vp_in_nI (N := 32) (by omega) (by omega)) (by rw [nI_clamp (by omega)]; show nI (m_ct μ (j / 16) (j % 16)) = _; rw [show j / 16 = 0 by omega, show j % 16 = j by omega]) d_M_waiting_18 ?_
        refine lv_icmp_ge (tgt := 37) hx hb d_M_waiting_19 (by decide) (fun c_19 => ?_) (fun c_19 => by exact (hno.elim (fun h => absurd h c_9) (fun h => absurd h c_19)))
        refine lv_ldc2 hx hb hown (ht _ mq_M_103) d_M_waiting_37 ?_
        exact ye_l hI () (mw_no hjn hno).symm hw d_M_waiting_40
    · refine y_ofW (cc := b_M_waiting) (maxL := 3) (ret := (some .long)) (by decide) rfl (Nat.le_of_ble_eq_true rfl) ?_
      intro pv ev sv mv bv tv cv ls hI hsz hw hl
      obtain ⟨hx, hb, hr, hml, hts, hown, hlocks, hnm, hK, hAb, hb0, hA⟩ := id hI
      have ht : ∀ w ∈ lg_tbl, w.before _ sv = true := fun w h => hts w (List.mem_cons_of_mem _ h)
      have hl : lv_has ls 3 [(0, .ref (ad (20, 0, 0))), (1, .int (nI j)), (2, .int (nI t))] := hl
      refine lv_aload_n hx hb d_M_waiting_0 rfl (lv_at hl 0 rfl) ?_
      refine lv_iload_n hx hb d_M_waiting_1 rfl (lv_at hl 1 rfl) ?_
      refine yc_i (va_runV (As := [.int _]) (rest := []) ⟨hx, hb, hml, hown, hts⟩ (c_M_isChannel l D cc ad X b0 _ μ hi j hj) (cwV 1 hts (yg_call mc_M_isChannel ml_M_105 mm_M_isChannel ms_M_isChannel mi_M) rfl rfl rfl (by decide +kernel) ⟨Nat.le_of_ble_eq_true rfl, Nat.le_of_ble_eq_true rfl⟩) (y_preV hI hw (y_recv hK.1 hw mL_o (by rfl) rfl)) rfl rfl hl.1 rfl (lv_room (Nat.le_of_ble_eq_true rfl)) d_M_waiting_2 ⟨Nat.le_of_ble_eq_true rfl, Nat.le_of_ble_eq_true rfl⟩) hw hA (fun r u H locs he hw => ?_)
      subst he
      refine lv_if_eq (tgt := 37) hx hb d_M_waiting_5 (by decide) (fun c_5 => by first | exact absurd c_5 (by decide) | exact (c_5 (by decide)).elim) (fun c_5 => ?_)
      refine lv_iload_n hx hb d_M_waiting_8 rfl (lv_at hl 2 rfl) ?_
      refine lv_if_lt (tgt := 37) hx hb d_M_waiting_9 (by decide) (fun c_9 => by exact absurd c_9 (nI_pos (by omega))) (fun c_9 => ?_)
      refine lv_iload_n hx hb d_M_waiting_12 rfl (lv_at hl 2 rfl) ?_
      refine lv_aload_n hx hb d_M_waiting_13 rfl (lv_at hl 0 rfl) ?_
      refine yr_get (C := R_M) (T := F_M) (N := 16) (ci := k_M) hx hb ht j_M hown hK.1 hw mL_o (by rfl) rfl 14 (by decide) (ht _ mf_M_46) (fun _ h9 => h9) (by rfl) d_M_waiting_14 ?_
      refine lv_iload_n hx hb d_M_waiting_17 rfl (lv_at hl 1 rfl) ?_
      refine yr_iald (v := nI (m_ct μ 0 j)) hx hb hK.1 hw mL_12 (by rfl) 0 rfl (vp_in_nI (N := 32) (by omega) (by omega)) (by rw [nI_clamp (by omega)]; show nI (m_ct μ (j / 16) (j % 16)) = _; rw [show j / 16 = 0 by omega, show j % 16 = j by omega]) d_M_waiting_18 ?_
      refine lv_icmp_ge (tgt := 37) hx hb d_M_waiting_19 (by decide) (fun c_19 => by exact absurd c_19 (nI_ge htt (by omega))) (fun c_19 => ?_)
      refine lv_aload_n hx hb d_M_waiting_22 rfl (lv_at hl 0 rfl) ?_
      refine yr_get (C := R_M) (T := F_M) (N := 16) (ci := k_M) hx hb ht j_M hown hK.1 hw mL_o (by rfl) rfl 15 (by decide) (ht _ mf_M_49) (fun _ h9 => h9) (by rfl) d_M_waiting_23 ?_
      refine lv_bipush (v := (nI 8)) hx hb d_M_waiting_26 (by decide) ?_
      refine lv_iload_n hx hb d_M_waiting_28 rfl (lv_at hl 1 rfl) ?_
      refine lv_imul hx hb d_M_waiting_29 ?_
      rw [pk_mul]
      refine lv_iload_n hx hb d_M_waiting_30 rfl (lv_at hl 2 rfl) ?_
      refine lv_iadd hx hb d_M_waiting_31 ?_
      rw [nI_add]
      refine yr_iald (v := m_vs μ (8 * j + t)) hx hb hK.1 hw mL_13 (by rfl) 0 rfl (vp_in_nI (N := 256) (by omega) (by omega)) (by rw [nI_clamp (by omega)]; rfl) d_M_waiting_32 ?_
      refine lv_i2l hx hb d_M_waiting_33 rfl ?_
      refine lv_goto (tgt := 40) hx hb d_M_waiting_34 (by decide) ?_
      exact ye_l hI () (by rw [mw_yes hjn htt (by omega), show 128 * 0 + 8 * j + t = 8 * j + t by omega]) hw d_M_waiting_40
set_option maxHeartbeats 4000000 in
set_option maxRecDepth 100000 in
theorem c_M_value (l : Launch) (D : va_G) (cc : ClassId × ClassId × ClassId) (ad : yl → Nat) (X : va_W) (b0 sz : Nat) (μ : ms) (hi : mI μ 0) (x v : Int32) : Met l y_M_value w_M_value ({ frames := 1, cells := 0, slots := 0, locals := 21 }) (yPr D cc b0 [.ref (ad (20, 0, 0)), .int x, .int v] (mW cc ad X μ) sz) (va_Qi (fun r μ' => r = a_val (m_T μ) x ∧ mI μ' 0 ∧ m_T μ' = a_valT (m_T μ) x v ∧ m_D μ' 0 = m_D μ 0 ∧ m_nc μ' = m_nc μ) (yB D ycl (mW cc ad X μ) sz (fun μ' => mW cc ad X μ')) (va_A (mW cc ad X μ) sz)) 0 0 (va_A (mW cc ad X μ) sz) := by
  have hn10 := hi.1
  have hc16 := hi.2.1
  rcases ysplit x (n := m_n μ) (by omega) with hno | ⟨j, hj, rfl⟩
  · refine y_ofW (cc := b_M_value) (maxL := 3) (ret := (some .boolean)) (by decide) rfl (Nat.le_of_ble_eq_true rfl) ?_
    intro pv ev sv mv bv tv cv ls hI hsz hw hl
    obtain ⟨hx, hb, hr, hml, hts, hown, hlocks, hnm, hK, hAb, hb0, hA⟩ := id hI
    have ht : ∀ w ∈ lg_tbl, w.before _ sv = true := fun w h => hts w (List.mem_cons_of_mem _ h)
    have hl : lv_has ls 3 [(0, .ref (ad (20, 0, 0))), (1, .int x), (2, .int v)] := hl
    refine lv_aload_n hx hb d_M_value_0 rfl (lv_at hl 0 rfl) ?_
    refine lv_iload_n hx hb d_M_value_1 rfl (lv_at hl 1 rfl) ?_
    refine yc_i (va_runV (As := [.int _]) (rest := []) ⟨hx, hb, hml, hown, hts⟩ (c_M_isActor_no l D cc ad X b0 _ μ hi x hno) (cwV 1 hts (yg_call mc_M_isActor ml_M_56 mm_M_isActor ms_M_isActor mi_M) rfl rfl rfl (by decide +kernel) ⟨Nat.le_of_ble_eq_true rfl, Nat.le_of_ble_eq_true rfl⟩) (y_preV hI hw (y_recv hK.1 hw mL_o (by rfl) rfl)) rfl rfl hl.1 rfl (lv_room (Nat.le_of_ble_eq_true rfl)) d_M_value_2 ⟨Nat.le_of_ble_eq_true rfl, Nat.le_of_ble_eq_true rfl⟩) hw hA (fun r u H locs he hw => ?_)
    subst he
    refine lv_if_eq (tgt := 28) hx hb d_M_value_5 (by decide) (fun c_5 => ?_) (fun c_5 => by first | exact absurd c_5 (by decide) | exact (c_5 (by decide)).elim)
    refine lv_iconst (v := (nI 0)) hx hb d_M_value_28 (by decide) ?_
    exact ye_z hI (by decide) μ ⟨by unfold a_val; rw [yin_no (show x < 0 ∨ nI (yp_n (m_T μ)) ≤ x from hno)]; rfl, hi, by unfold a_valT; rw [yin_no (show x < 0 ∨ nI (yp_n (m_T μ)) ≤ x from hno)], rfl, rfl⟩ hw d_M_value_29
  · have hjn : yin (nI j) (yp_n (m_T μ)) = some j := yin_some hj (by show m_n μ < _; omega)
    obtain ⟨a1, a2, a3, a4, a5, a6, a7⟩ := hi.2.2.2.2.1 j
    have hl20 : (yp_sr (m_T μ) j).length = m_tc μ j := msr_len
    by_cases hk : m_kd μ j = 0
    · by_cases h20 : m_tc μ j < 20
      · refine y_ofW (cc := b_M_value) (maxL := 3) (ret := (some .boolean)) (by decide) rfl (Nat.le_of_ble_eq_true rfl) ?_
        intro pv ev sv mv bv tv cv ls hI hsz hw hl
        obtain ⟨hx, hb, hr, hml, hts, hown, hlocks, hnm, hK, hAb, hb0, hA⟩ := id hI
        have ht : ∀ w ∈ lg_tbl, w.before _ sv = true := fun w h => hts w (List.mem_cons_of_mem _ h)
        have hl : lv_has ls 3 [(0, .ref (ad (20, 0, 0))), (1, .int (nI j)), (2, .int v)] := hl
        refine lv_aload_n hx hb d_M_value_0 rfl (lv_at hl 0 rfl) ?_
        refine lv_iload_n hx hb d_M_value_1 rfl (lv_at hl 1 rfl) ?_
        refine yc_i (va_runV (As := [.int _]) (rest := []) ⟨hx, hb, hml, hown, hts⟩ (c_M_isActor l D cc ad X b0 _ μ hi j hj) (cwV 1 hts (yg_call mc_M_isActor ml_M_56 mm_M_isActor ms_M_isActor mi_M) rfl rfl rfl (by decide +kernel) ⟨Nat.le_of_ble_eq_true rfl, Nat.le_of_ble_eq_true rfl⟩) (y_preV hI hw (y_recv hK.1 hw mL_o (by rfl) rfl)) rfl rfl hl.1 rfl (lv_room (Nat.le_of_ble_eq_true rfl)) d_M_value_2 ⟨Nat.le_of_ble_eq_true rfl, Nat.le_of_ble_eq_true rfl⟩) hw hA (fun r u H locs he hw => ?_)
        subst he
        refine lv_if_eq (tgt := 28) hx hb d_M_value_5 (by decide) (fun c_5 => by first | exact absurd c_5 (by decide) | exact (c_5 (by decide)).elim) (fun c_5 => ?_)
        refine lv_aload_n hx hb d_M_value_8 rfl (lv_at hl 0 rfl) ?_
        refine yr_get (C := R_M) (T := F_M) (N := 16) (ci := k_M) hx hb ht j_M hown hK.1 hw mL_o (by rfl) rfl 1 (by decide) (ht _ mf_M_7) (fun _ h9 => h9) (by rfl) d_M_value_9 ?_
        refine lv_iload_n hx hb d_M_value_12 rfl (lv_at hl 1 rfl) ?_
        refine yr_iald (v := nI (m_kd μ j)) hx hb hK.1 hw mL_0 (by rfl) 0 rfl (vp_in_nI (N := 10) (by omega) (by omega)) (by rw [nI_clamp (by omega)]; rfl) d_M_value_13 ?_
        refine lv_if_ne (tgt := 28) hx hb d_M_value_14 (by decide) (fun c_14 => by exact absurd (by rw [hk]; rfl) c_14) (fun c_14 => ?_)
        refine lv_aload_n hx hb d_M_value_17 rfl (lv_at hl 0 rfl) ?_
        refine yr_get (C := R_M) (T := F_M) (N := 16) (ci := k_M) hx hb ht j_M hown hK.1 hw mL_o (by rfl) rfl 4 (by decide) (ht _ mf_M_19) (fun _ h9 => h9) (by rfl) d_M_value_18 ?_
        refine lv_iload_n hx hb d_M_value_21 rfl (lv_at hl 1 rfl) ?_
        refine yr_iald (v := nI (m_tc μ j)) hx hb hK.1 hw mL_3 (by rfl) 0 rfl (vp_in_nI (N := 10) (by omega) (by omega)) (by rw [nI_clamp (by omega)]; rfl) d_M_value_22 ?_
        refine lv_bipush (v := (nI 20)) hx hb d_M_value_23 (by decide) ?_
        refine lv_icmp_ne (tgt := 30) hx hb d_M_value_25 (by decide) (fun c_25 => ?_) (fun c_25 => by exact absurd ((nI_eq (by omega) (by omega)).mp c_25) (by omega))
        refine lv_aload_n hx hb d_M_value_30 rfl (lv_at hl 0 rfl) ?_
        refine yr_get (C := R_M) (T := F_M) (N := 16) (ci := k_M) hx hb ht j_M hown hK.1 hw mL_o (by rfl) rfl 5 (by decide) (ht _ mf_M_22) (fun _ h9 => h9) (by rfl) d_M_value_31 ?_
        refine lv_bipush (v := (nI 20)) hx hb d_M_value_34 (by decide) ?_
        refine lv_iload_n hx hb d_M_value_36 rfl (lv_at hl 1 rfl) ?_
        refine lv_imul hx hb d_M_value_37 ?_
        rw [pk_mul]
        refine lv_aload_n hx hb d_M_value_38 rfl (lv_at hl 0 rfl) ?_
        refine yr_get (C := R_M) (T := F_M) (N := 16) (ci := k_M) hx hb ht j_M hown hK.1 hw mL_o (by rfl) rfl 4 (by decide) (ht _ mf_M_19) (fun _ h9 => h9) (by rfl) d_M_value_39 ?_
        refine lv_iload_n hx hb d_M_value_42 rfl (lv_at hl 1 rfl) ?_
        refine yr_iald (v := nI (m_tc μ j)) hx hb hK.1 hw mL_3 (by rfl) 0 rfl (vp_in_nI (N := 10) (by omega) (by omega)) (by rw [nI_clamp (by omega)]; rfl) d_M_value_43 ?_
        refine lv_iadd hx hb d_M_value_44 ?_
        rw [nI_add]
        refine lv_iload_n hx hb d_M_value_45 rfl (lv_at hl 2 rfl) ?_
        refine yr_iast hx hb hK.1 hw mL_4 (by rfl) 0 rfl (vp_in_nI (N := 200) (by omega) (by omega)) d_M_value_46 (fun H locs hw => ?_)
        rw [nI_clamp (by omega)] at hw
        have hw := mw_td (upd (m_td μ) (20 * j + m_tc μ j) v) hw rfl
        refine lv_aload_n hx hb d_M_value_47 rfl (lv_at hl 0 rfl) ?_
        refine yr_get (C := R_M) (T := F_M) (N := 16) (ci := k_M) hx hb ht j_M hown hK.1 hw mL_o (by rfl) rfl 4 (by decide) (ht _ mf_M_19) (fun _ h9 => h9) (by rfl) d_M_value_48 ?_
        refine lv_iload_n hx hb d_M_value_51 rfl (lv_at hl 1 rfl) ?_
        refine lv_dup2_11 hx hb d_M_value_52 rfl rfl ?_
        refine yr_iald (v := nI (m_tc μ j)) hx hb hK.1 hw mL_3 (by rfl) 0 rfl (vp_in_nI (N := 10) (by omega) (by omega)) (by rw [nI_clamp (by omega)]; rfl) d_M_value_53 ?_
        refine lv_iconst (v := (nI 1)) hx hb d_M_value_54 (by decide) ?_
        refine lv_iadd hx hb d_M_value_55 ?_
        rw [nI_add]
        refine yr_iast hx hb hK.1 hw mL_3 (by rfl) 0 rfl (vp_in_nI (N := 10) (by omega) (by omega)) d_M_value_56 (fun H locs hw => ?_)
        rw [nI_clamp (by omega)] at hw
        have hw := mw_tc (va_up (m_tc μ) j (m_tc μ j + 1)) hw (congrArg (fun f => Sum.inl (cc.1, 10, Sum.inl f)) upd_nI)
        refine lv_iconst (v := (nI 1)) hx hb d_M_value_57 (by decide) ?_
        exact ye_z hI (by decide) _ ⟨by unfold a_val; rw [hjn]; show _ = if m_kd μ j = 0 then yb (decide ((yp_sr (m_T μ) j).length < 20)) else 0; rw [if_pos hk, hl20, decide_eq_true h20]; rfl, (mv_J hi hj hk h20 v).1, by unfold a_valT; rw [hjn]; exact (mv_J hi hj hk h20 v).2.trans (if_pos ⟨hk, by rw [hl20]; exact h20⟩).symm, rfl, rfl⟩ hw d_M_value_58
      · refine y_ofW (cc := b_M_value) (maxL := 3) (ret := (some .boolean)) (by decide) rfl (Nat.le_of_ble_eq_true rfl) ?_
        intro pv ev sv mv bv tv cv ls hI hsz hw hl
        obtain ⟨hx, hb, hr, hml, hts, hown, hlocks, hnm, hK, hAb, hb0, hA⟩ := id hI
        have ht : ∀ w ∈ lg_tbl, w.before _ sv = true := fun w h => hts w (List.mem_cons_of_mem _ h)
        have hl : lv_has ls 3 [(0, .ref (ad (20, 0, 0))), (1, .int (nI j)), (2, .int v)] := hl
        refine lv_aload_n hx hb d_M_value_0 rfl (lv_at hl 0 rfl) ?_
        refine lv_iload_n hx hb d_M_value_1 rfl (lv_at hl 1 rfl) ?_
        refine yc_i (va_runV (As := [.int _]) (rest := []) ⟨hx, hb, hml, hown, hts⟩ (c_M_isActor l D cc ad X b0 _ μ hi j hj) (cwV 1 hts (yg_call mc_M_isActor ml_M_56 mm_M_isActor ms_M_isActor mi_M) rfl rfl rfl (by decide +kernel) ⟨Nat.le_of_ble_eq_true rfl, Nat.le_of_ble_eq_true rfl⟩) (y_preV hI hw (y_recv hK.1 hw mL_o (by rfl) rfl)) rfl rfl hl.1 rfl (lv_room (Nat.le_of_ble_eq_true rfl)) d_M_value_2 ⟨Nat.le_of_ble_eq_true rfl, Nat.le_of_ble_eq_true rfl⟩) hw hA (fun r u H locs he hw => ?_)
        subst he
        refine lv_if_eq (tgt := 28) hx hb d_M_value_5 (by decide) (fun c_5 => by first | exact absurd c_5 (by decide) | exact (c_5 (by decide)).elim) (fun c_5 => ?_)
        refine lv_aload_n hx hb d_M_value_8 rfl (lv_at hl 0 rfl) ?_
        refine yr_get (C := R_M) (T := F_M) (N := 16) (ci := k_M) hx hb ht j_M hown hK.1 hw mL_o (by rfl) rfl 1 (by decide) (ht _ mf_M_7) (fun _ h9 => h9) (by rfl) d_M_value_9 ?_
        refine lv_iload_n hx hb d_M_value_12 rfl (lv_at hl 1 rfl) ?_
        refine yr_iald (v := nI (m_kd μ j)) hx hb hK.1 hw mL_0 (by rfl) 0 rfl (vp_in_nI (N := 10) (by omega) (by omega)) (by rw [nI_clamp (by omega)]; rfl) d_M_value_13 ?_
        refine lv_if_ne (tgt := 28) hx hb d_M_value_14 (by decide) (fun c_14 => by exact absurd (by rw [hk]; rfl) c_14) (fun c_14 => ?_)
        refine lv_aload_n hx hb d_M_value_17 rfl (lv_at hl 0 rfl) ?_
        refine yr_get (C := R_M) (T := F_M) (N := 16) (ci := k_M) hx hb ht j_M hown hK.1 hw mL_o (by rfl) rfl 4 (by decide) (ht _ mf_M_19) (fun _ h9 => h9) (by rfl) d_M_value_18 ?_
        refine lv_iload_n hx hb d_M_value_21 rfl (lv_at hl 1 rfl) ?_
        refine yr_iald (v := nI (m_tc μ j)) hx hb hK.1 hw mL_3 (by rfl) 0 rfl (vp_in_nI (N := 10) (by omega) (by omega)) (by rw [nI_clamp (by omega)]; rfl) d_M_value_22 ?_
        refine lv_bipush (v := (nI 20)) hx hb d_M_value_23 (by decide) ?_
        refine lv_icmp_ne (tgt := 30) hx hb d_M_value_25 (by decide) (fun c_25 => by exact absurd (by rw [show m_tc μ j = 20 by omega]) c_25) (fun c_25 => ?_)
        refine lv_iconst (v := (nI 0)) hx hb d_M_value_28 (by decide) ?_
        exact ye_z hI (by decide) μ ⟨by unfold a_val; rw [hjn]; show _ = if m_kd μ j = 0 then yb (decide ((yp_sr (m_T μ) j).length < 20)) else 0; rw [if_pos hk, hl20, decide_eq_false h20]; rfl, hi, by unfold a_valT; rw [hjn]; exact (if_neg (fun q => h20 (by rw [← hl20]; exact q.2))).symm, rfl, rfl⟩ hw d_M_value_29
    · refine y_ofW (cc := b_M_value) (maxL := 3) (ret := (some .boolean)) (by decide) rfl (Nat.le_of_ble_eq_true rfl) ?_
      intro pv ev sv mv bv tv cv ls hI hsz hw hl
      obtain ⟨hx, hb, hr, hml, hts, hown, hlocks, hnm, hK, hAb, hb0, hA⟩ := id hI
      have ht : ∀ w ∈ lg_tbl, w.before _ sv = true := fun w h => hts w (List.mem_cons_of_mem _ h)
      have hl : lv_has ls 3 [(0, .ref (ad (20, 0, 0))), (1, .int (nI j)), (2, .int v)] := hl
      refine lv_aload_n hx hb d_M_value_0 rfl (lv_at hl 0 rfl) ?_
      refine lv_iload_n hx hb d_M_value_1 rfl (lv_at hl 1 rfl) ?_
      refine yc_i (va_runV (As := [.int _]) (rest := []) ⟨hx, hb, hml, hown, hts⟩ (c_M_isActor l D cc ad X b0 _ μ hi j hj) (cwV 1 hts (yg_call mc_M_isActor ml_M_56 mm_M_isActor ms_M_isActor mi_M) rfl rfl rfl (by decide +kernel) ⟨Nat.le_of_ble_eq_true rfl, Nat.le_of_ble_eq_true rfl⟩) (y_preV hI hw (y_recv hK.1 hw mL_o (by rfl) rfl)) rfl rfl hl.1 rfl (lv_room (Nat.le_of_ble_eq_true rfl)) d_M_value_2 ⟨Nat.le_of_ble_eq_true rfl, Nat.le_of_ble_eq_true rfl⟩) hw hA (fun r u H locs he hw => ?_)
      subst he
      refine lv_if_eq (tgt := 28) hx hb d_M_value_5 (by decide) (fun c_5 => by first | exact absurd c_5 (by decide) | exact (c_5 (by decide)).elim) (fun c_5 => ?_)
      refine lv_aload_n hx hb d_M_value_8 rfl (lv_at hl 0 rfl) ?_
      refine yr_get (C := R_M) (T := F_M) (N := 16) (ci := k_M) hx hb ht j_M hown hK.1 hw mL_o (by rfl) rfl 1 (by decide) (ht _ mf_M_7) (fun _ h9 => h9) (by rfl) d_M_value_9 ?_
      refine lv_iload_n hx hb d_M_value_12 rfl (lv_at hl 1 rfl) ?_
      refine yr_iald (v := nI (m_kd μ j)) hx hb hK.1 hw mL_0 (by rfl) 0 rfl (vp_in_nI (N := 10) (by omega) (by omega)) (by rw [nI_clamp (by omega)]; rfl) d_M_value_13 ?_
      refine lv_if_ne (tgt := 28) hx hb d_M_value_14 (by decide) (fun c_14 => ?_) (fun c_14 => by exact absurd ((nI_eq (a := m_kd μ j) (b := 0) (by omega) (by omega)).mp (by rw [nI_0]; exact c_14)) hk)
      refine lv_iconst (v := (nI 0)) hx hb d_M_value_28 (by decide) ?_
      exact ye_z hI (by decide) μ ⟨by unfold a_val; rw [hjn]; show _ = if m_kd μ j = 0 then _ else _; rw [if_neg hk]; rfl, hi, by unfold a_valT; rw [hjn]; exact (if_neg (fun q => hk q.1)).symm, rfl, rfl⟩ hw d_M_value_29
set_option maxHeartbeats 4000000 in
set_option maxRecDepth 100000 in
theorem c_M_actor (l : Launch) (D : va_G) (cc : ClassId × ClassId × ClassId) (ad : yl → Nat) (X : va_W) (b0 sz : Nat) (μ : ms) (hi : mI μ 0) (x a b : Int32) : Met l y_M_actor w_M_actor ({ frames := 0, cells := 0, slots := 0, locals := 0 }) (yPr D cc b0 [.ref (ad (20, 0, 0)), .int x, .int a, .int b] (mW cc ad X μ) sz) (va_Qi (fun r μ' => r = (match a_aok (m_T μ) x with | none => -1 | some _ => nI (m_n μ)) ∧ mI μ' 0 ∧ m_T μ' = (match a_aok (m_T μ) x with | none => m_T μ | some k => addT (m_T μ) k a b) ∧ m_D μ' 0 = m_D μ 0 ∧ m_nc μ' = m_nc μ) (yB D ycl (mW cc ad X μ) sz (fun μ' => mW cc ad X μ')) (va_A (mW cc ad X μ) sz)) 0 0 (va_A (mW cc ad X μ) sz) := by
  have hn10 := hi.1
  have hc16 := hi.2.1
  rcases aok_split (m_T μ) x with ⟨hno, hok⟩ | ⟨k, hk, hn, rfl, hok⟩
  · refine y_ofW (cc := b_M_actor) (maxL := 4) (ret := (some .int)) (by decide) rfl (Nat.le_of_ble_eq_true rfl) ?_
    intro pv ev sv mv bv tv cv ls hI hsz hw hl
    obtain ⟨hx, hb, hr, hml, hts, hown, hlocks, hnm, hK, hAb, hb0, hA⟩ := id hI
    have ht : ∀ w ∈ lg_tbl, w.before _ sv = true := fun w h => hts w (List.mem_cons_of_mem _ h)
    have hl : lv_has ls 4 [(0, .ref (ad (20, 0, 0))), (1, .int x), (2, .int a), (3, .int b)] := hl
    refine lv_aload_n hx hb d_M_actor_0 rfl (lv_at hl 0 rfl) ?_
    refine yr_get (C := R_M) (T := F_M) (N := 16) (ci := k_M) hx hb ht j_M hown hK.1 hw mL_o (by rfl) rfl 0 (by decide) (ht _ mf_M_52) (fun _ h9 => h9) (by rfl) d_M_actor_1 ?_
    refine lv_bipush (v := (nI 10)) hx hb d_M_actor_4 (by decide) ?_
    refine lv_icmp_eq (tgt := 19) hx hb d_M_actor_6 (by decide) (fun c_6 => ?_) (fun c_6 => ?_)
    · refine lv_iconst (v := (-1)) hx hb d_M_actor_19 (by decide) ?_
      exact ye_i hI μ ⟨by rw [hok], hi, by rw [hok], rfl, rfl⟩ hw d_M_actor_20
    · refine lv_iload_n hx hb d_M_actor_9 rfl (lv_at hl 1 rfl) ?_
      refine lv_if_lt (tgt := 19) hx hb d_M_actor_10 (by decide) (fun c_10 => ?_) (fun c_10 => ?_)
      · refine lv_iconst (v := (-1)) hx hb d_M_actor_19 (by decide) ?_
        exact ye_i hI μ ⟨by rw [hok], hi, by rw [hok], rfl, rfl⟩ hw d_M_actor_20
      · refine lv_iload_n hx hb d_M_actor_13 rfl (lv_at hl 1 rfl) ?_
        refine lv_bipush (v := (nI 8)) hx hb d_M_actor_14 (by decide) ?_
        refine lv_icmp_le (tgt := 21) hx hb d_M_actor_16 (by decide) (fun c_16 => by exact mo_no9 hno c_6 hn10 c_10 c_16) (fun c_16 => ?_)
        refine lv_iconst (v := (-1)) hx hb d_M_actor_19 (by decide) ?_
        exact ye_i hI μ ⟨by rw [hok], hi, by rw [hok], rfl, rfl⟩ hw d_M_actor_20
  · have hn : m_n μ < 10 := hn
    refine y_ofW (cc := b_M_actor) (maxL := 4) (ret := (some .int)) (by decide) rfl (Nat.le_of_ble_eq_true rfl) ?_
    intro pv ev sv mv bv tv cv ls hI hsz hw hl
    obtain ⟨hx, hb, hr, hml, hts, hown, hlocks, hnm, hK, hAb, hb0, hA⟩ := id hI
    have ht : ∀ w ∈ lg_tbl, w.before _ sv = true := fun w h => hts w (List.mem_cons_of_mem _ h)
    have hl : lv_has ls 4 [(0, .ref (ad (20, 0, 0))), (1, .int (nI k)), (2, .int a), (3, .int b)] := hl
    refine lv_aload_n hx hb d_M_actor_0 rfl (lv_at hl 0 rfl) ?_
    refine yr_get (C := R_M) (T := F_M) (N := 16) (ci := k_M) hx hb ht j_M hown hK.1 hw mL_o (by rfl) rfl 0 (by decide) (ht _ mf_M_52) (fun _ h9 => h9) (by rfl) d_M_actor_1 ?_
    refine lv_bipush (v := (nI 10)) hx hb d_M_actor_4 (by decide) ?_
    refine lv_icmp_eq (tgt := 19) hx hb d_M_actor_6 (by decide) (fun c_6 => by exact absurd ((nI_eq (by omega) (by omega)).mp c_6) (by omega)) (fun c_6 => ?_)
    refine lv_iload_n hx hb d_M_actor_9 rfl (lv_at hl 1 rfl) ?_
    refine lv_if_lt (tgt := 19) hx hb d_M_actor_10 (by decide) (fun c_10 => by exact absurd c_10 (nI_pos (by omega))) (fun c_10 => ?_)
    refine lv_iload_n hx hb d_M_actor_13 rfl (lv_at hl 1 rfl) ?_
    refine lv_bipush (v := (nI 8)) hx hb d_M_actor_14 (by decide) ?_
    refine lv_icmp_le (tgt := 21) hx hb d_M_actor_16 (by decide) (fun c_16 => ?_) (fun c_16 => by exact absurd (nI_le (by omega) (by omega)) c_16)
    refine lv_aload_n hx hb d_M_actor_21 rfl (lv_at hl 0 rfl) ?_
    refine yr_get (C := R_M) (T := F_M) (N := 16) (ci := k_M) hx hb ht j_M hown hK.1 hw mL_o (by rfl) rfl 1 (by decide) (ht _ mf_M_7) (fun _ h9 => h9) (by rfl) d_M_actor_22 ?_
    refine lv_aload_n hx hb d_M_actor_25 rfl (lv_at hl 0 rfl) ?_
    refine yr_get (C := R_M) (T := F_M) (N := 16) (ci := k_M) hx hb ht j_M hown hK.1 hw mL_o (by rfl) rfl 0 (by decide) (ht _ mf_M_52) (fun _ h9 => h9) (by rfl) d_M_actor_26 ?_
    refine lv_iload_n hx hb d_M_actor_29 rfl (lv_at hl 1 rfl) ?_
    refine yr_iast hx hb hK.1 hw mL_0 (by rfl) 0 rfl (vp_in_nI (N := 10) (by omega) (by omega)) d_M_actor_30 (fun H locs hw => ?_)
    rw [nI_clamp (by omega)] at hw
    have hw := mw_kd (va_up (m_kd μ) (m_n μ) k) hw (congrArg (fun f => Sum.inl (cc.1, 10, Sum.inl f)) upd_nI)
    refine lv_aload_n hx hb d_M_actor_31 rfl (lv_at hl 0 rfl) ?_
    refine yr_get (C := R_M) (T := F_M) (N := 16) (ci := k_M) hx hb ht j_M hown hK.1 hw mL_o (by rfl) rfl 2 (by decide) (ht _ mf_M_13) (fun _ h9 => h9) (by rfl) d_M_actor_32 ?_
    refine lv_aload_n hx hb d_M_actor_35 rfl (lv_at hl 0 rfl) ?_
    refine yr_get (C := R_M) (T := F_M) (N := 16) (ci := k_M) hx hb ht j_M hown hK.1 hw mL_o (by rfl) rfl 0 (by decide) (ht _ mf_M_52) (fun _ h9 => h9) (by rfl) d_M_actor_36 ?_
    refine lv_iload_n hx hb d_M_actor_39 rfl (lv_at hl 2 rfl) ?_
    refine yr_iast hx hb hK.1 hw mL_1 (by rfl) 0 rfl (vp_in_nI (N := 10) (show m_n μ < 10 by omega) (by omega)) d_M_actor_40 (fun H locs hw => ?_)
    rw [nI_clamp (show m_n (mx_kd μ (va_up (m_kd μ) (m_n μ) k)) < 2 ^ 31 from (show m_n μ < 2 ^ 31 by omega))] at hw
    have hw := mw_a (va_up (m_a μ) (m_n μ) a) hw (congrArg (fun f => Sum.inl (cc.1, 10, Sum.inl f)) upd_up)
    refine lv_aload_n hx hb d_M_actor_41 rfl (lv_at hl 0 rfl) ?_
    refine yr_get (C := R_M) (T := F_M) (N := 16) (ci := k_M) hx hb ht j_M hown hK.1 hw mL_o (by rfl) rfl 3 (by decide) (ht _ mf_M_16) (fun _ h9 => h9) (by rfl) d_M_actor_42 ?_
    refine lv_aload_n hx hb d_M_actor_45 rfl (lv_at hl 0 rfl) ?_
    refine yr_get (C := R_M) (T := F_M) (N := 16) (ci := k_M) hx hb ht j_M hown hK.1 hw mL_o (by rfl) rfl 0 (by decide) (ht _ mf_M_52) (fun _ h9 => h9) (by rfl) d_M_actor_46 ?_
    refine lv_iload_n hx hb d_M_actor_49 rfl (lv_at hl 3 rfl) ?_
    refine yr_iast hx hb hK.1 hw mL_2 (by rfl) 0 rfl (vp_in_nI (N := 10) (show m_n μ < 10 by omega) (by omega)) d_M_actor_50 (fun H locs hw => ?_)
    rw [nI_clamp (show m_n (mx_a (mx_kd μ (va_up (m_kd μ) (m_n μ) k)) (va_up (m_a μ) (m_n μ) a)) < 2 ^ 31 from (show m_n μ < 2 ^ 31 by omega))] at hw
    have hw := mw_b (va_up (m_b μ) (m_n μ) b) hw (congrArg (fun f => Sum.inl (cc.1, 10, Sum.inl f)) upd_up)
    refine lv_aload_n hx hb d_M_actor_51 rfl (lv_at hl 0 rfl) ?_
    refine lv_dup hx hb d_M_actor_52 rfl ?_
    refine yr_get (C := R_M) (T := F_M) (N := 16) (ci := k_M) hx hb ht j_M hown hK.1 hw mL_o (by rfl) rfl 0 (by decide) (ht _ mf_M_52) (fun _ h9 => h9) (by rfl) d_M_actor_53 ?_
    refine lv_iconst (v := (nI 1)) hx hb d_M_actor_56 (by decide) ?_
    refine lv_iadd hx hb d_M_actor_57 ?_
    rw [nI_add]
    refine yr_put (ty := .int) (C := R_M) (T := F_M) (N := 16) (ci := k_M) hx hb ht j_M t_M t_M_ok n_M hown hK.1 hw mL_o (by rfl) rfl 0 (by decide) (ht _ mf_M_52) (fun _ h9 => h9) rfl (by decide +kernel) rfl rfl (Nat.le_of_ble_eq_true rfl) d_M_actor_58 (fun H locs hw => ?_)
    have hw := mw_n (m_n μ + 1) hw rfl
    refine lv_aload_n hx hb d_M_actor_61 rfl (lv_at hl 0 rfl) ?_
    refine yr_get (C := R_M) (T := F_M) (N := 16) (ci := k_M) hx hb ht j_M hown hK.1 hw mL_o (by rfl) rfl 0 (by decide) (ht _ mf_M_52) (fun _ h9 => h9) (by rfl) d_M_actor_62 ?_
    refine lv_iconst (v := (nI 1)) hx hb d_M_actor_65 (by decide) ?_
    refine lv_isub hx hb d_M_actor_66 ?_
    exact ye_i hI _ ⟨by rw [hok]; exact mo_sub1 (n := m_n μ), (mo_add hi hk hn a b).1, by rw [hok]; rfl, (mo_add hi hk hn a b).2, rfl⟩ hw d_M_actor_67
