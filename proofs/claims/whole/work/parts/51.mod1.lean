/-! THE REFERENCE: what only looks -/
theorem mq_len (μ : ms) (y c : Nat) : ((m_D μ y).2.2 c).length = m_ct μ y c := by
  show ((List.range (m_ct μ y c)).map _).length = _
  rw [List.length_map, List.length_range]
theorem mq_get {μ : ms} {y c k : Nat} (h : k < m_ct μ y c) : ((m_D μ y).2.2 c)[k]? = some (m_vs μ (128 * y + 8 * c + k)) := by
  show ((List.range (m_ct μ y c)).map _)[k]? = _
  rw [List.getElem?_map, List.getElem?_range h]
  rfl
theorem mh_none {μ : ms} {y i j : Nat} (e : m_ic μ i j = none) : yp_hd (m_T μ) (m_D μ y) i j = none := by
  unfold yp_hd
  rw [show yp_ic (m_T μ) i j = none from e]
  rfl
theorem mh_some {μ : ms} {y i j c : Nat} (e : m_ic μ i j = some c) : yp_hd (m_T μ) (m_D μ y) i j = ((m_D μ y).2.2 c).head? := by
  unfold yp_hd
  rw [show yp_ic (m_T μ) i j = some c from e]
  rfl
theorem mh_head {μ : ms} {y i j c : Nat} (e : m_ic μ i j = some c) (h : 0 < m_ct μ y c) : yp_hd (m_T μ) (m_D μ y) i j = some (m_vs μ (128 * y + 8 * c)) := by
  rw [mh_some e, List.head?_eq_getElem?, mq_get h, Nat.add_zero]
theorem mh_some1 {μ : ms} {y i j c : Nat} (e : m_ic μ i j = some c) (h : 0 < m_ct μ y c) : (yp_hd (m_T μ) (m_D μ y) i j).isSome = true := by
  rw [mh_head e h]; rfl
theorem mh_some0 {μ : ms} {y i j c : Nat} (e : m_ic μ i j = some c) (h : ¬ 0 < m_ct μ y c) : (yp_hd (m_T μ) (m_D μ y) i j).isSome = false := by
  have hl := mq_len μ y c
  rw [mh_some e]
  cases hq : (m_D μ y).2.2 c with
  | nil => rfl
  | cons x l => rw [hq] at hl; simp at hl; omega
theorem mr_none {μ : ms} {y i j : Nat} (e : m_oc μ i j = none) : yp_roomb (m_T μ) (m_D μ y) i j = true := by
  unfold yp_roomb
  rw [show yp_oc (m_T μ) i j = none from e]
theorem mr_some {μ : ms} {y i j c : Nat} (e : m_oc μ i j = some c) (hc : c < m_nc μ) : yp_roomb (m_T μ) (m_D μ y) i j = decide (m_ct μ y c < m_rm μ c) := by
  unfold yp_roomb
  rw [show yp_oc (m_T μ) i j = some c from e]
  show decide (((m_D μ y).2.2 c).length < if c < m_nc μ then m_rm μ c else 1) = _
  rw [mq_len, if_pos hc]
set_option maxHeartbeats 4000000 in
set_option maxRecDepth 100000 in
theorem c_M_isActor (l : Launch) (D : va_G) (cc : ClassId × ClassId × ClassId) (ad : yl → Nat) (X : va_W) (b0 sz : Nat) (μ : ms) (hi : mI μ 0) (j : Nat) (hj : j < m_n μ) : Met l y_M_isActor w_M_isActor ({ frames := 0, cells := 0, slots := 0, locals := 0 }) (yPr D cc b0 [.ref (ad (20, 0, 0)), .int (nI j)] (mW cc ad X μ) sz) (yQi D (mW cc ad X μ) sz 1 (mW cc ad X μ)) 0 0 (va_A (mW cc ad X μ) sz) := by
  have hn10 := hi.1
  have hc16 := hi.2.1
  refine y_ofW (cc := b_M_isActor) (maxL := 2) (ret := (some .boolean)) (by decide) rfl (Nat.le_of_ble_eq_true rfl) ?_
  intro pv ev sv mv bv tv cv ls hI hsz hw hl
  obtain ⟨hx, hb, hr, hml, hts, hown, hlocks, hnm, hK, hAb, hb0, hA⟩ := id hI
  have ht : ∀ w ∈ lg_tbl, w.before _ sv = true := fun w h => hts w (List.mem_cons_of_mem _ h)
  have hl : lv_has ls 2 [(0, .ref (ad (20, 0, 0))), (1, .int (nI j))] := hl
  refine lv_iload_n hx hb d_M_isActor_0 rfl (lv_at hl 1 rfl) ?_
  refine lv_if_lt (tgt := 16) hx hb d_M_isActor_1 (by decide) (fun c_1 => by exact absurd c_1 (nI_pos (by omega))) (fun c_1 => ?_)
  refine lv_iload_n hx hb d_M_isActor_4 rfl (lv_at hl 1 rfl) ?_
  refine lv_aload_n hx hb d_M_isActor_5 rfl (lv_at hl 0 rfl) ?_
  refine yr_get (C := R_M) (T := F_M) (N := 16) (ci := k_M) hx hb ht j_M hown hK.1 hw mL_o (by rfl) rfl 0 (by decide) (ht _ mf_M_52) (fun _ h9 => h9) (by rfl) d_M_isActor_6 ?_
  refine lv_icmp_ge (tgt := 16) hx hb d_M_isActor_9 (by decide) (fun c_9 => by exact absurd ((nI_leI (by omega) (by omega)).mp c_9) (by omega)) (fun c_9 => ?_)
  refine lv_iconst (v := (nI 1)) hx hb d_M_isActor_12 (by decide) ?_
  refine lv_goto (tgt := 17) hx hb d_M_isActor_13 (by decide) ?_
  exact ye_z hI (by decide) () rfl hw d_M_isActor_17
set_option maxHeartbeats 4000000 in
set_option maxRecDepth 100000 in
theorem c_M_isActor_no (l : Launch) (D : va_G) (cc : ClassId × ClassId × ClassId) (ad : yl → Nat) (X : va_W) (b0 sz : Nat) (μ : ms) (hi : mI μ 0) (x : Int32) (hno : x < 0 ∨ nI (m_n μ) ≤ x) : Met l y_M_isActor w_M_isActor ({ frames := 0, cells := 0, slots := 0, locals := 0 }) (yPr D cc b0 [.ref (ad (20, 0, 0)), .int x] (mW cc ad X μ) sz) (yQi D (mW cc ad X μ) sz 0 (mW cc ad X μ)) 0 0 (va_A (mW cc ad X μ) sz) := by
  have hn10 := hi.1
  have hc16 := hi.2.1
  refine y_ofW (cc := b_M_isActor) (maxL := 2) (ret := (some .boolean)) (by decide) rfl (Nat.le_of_ble_eq_true rfl) ?_
  intro pv ev sv mv bv tv cv ls hI hsz hw hl
  obtain ⟨hx, hb, hr, hml, hts, hown, hlocks, hnm, hK, hAb, hb0, hA⟩ := id hI
  have ht : ∀ w ∈ lg_tbl, w.before _ sv = true := fun w h => hts w (List.mem_cons_of_mem _ h)
  have hl : lv_has ls 2 [(0, .ref (ad (20, 0, 0))), (1, .int x)] := hl
  refine lv_iload_n hx hb d_M_isActor_0 rfl (lv_at hl 1 rfl) ?_
  refine lv_if_lt (tgt := 16) hx hb d_M_isActor_1 (by decide) (fun c_1 => ?_) (fun c_1 => ?_)
  · refine lv_iconst (v := (nI 0)) hx hb d_M_isActor_16 (by decide) ?_
    exact ye_z hI (by decide) () rfl hw d_M_isActor_17
  · refine lv_iload_n hx hb d_M_isActor_4 rfl (lv_at hl 1 rfl) ?_
    refine lv_aload_n hx hb d_M_isActor_5 rfl (lv_at hl 0 rfl) ?_
    refine yr_get (C := R_M) (T := F_M) (N := 16) (ci := k_M) hx hb ht j_M hown hK.1 hw mL_o (by rfl) rfl 0 (by decide) (ht _ mf_M_52) (fun _ h9 => h9) (by rfl) d_M_isActor_6 ?_
    refine lv_icmp_ge (tgt := 16) hx hb d_M_isActor_9 (by decide) (fun c_9 => ?_) (fun c_9 => by exact (hno.elim (fun h => absurd h c_1) (fun h => absurd h c_9)))
    refine lv_iconst (v := (nI 0)) hx hb d_M_isActor_16 (by decide) ?_
    exact ye_z hI (by decide) () rfl hw d_M_isActor_17
set_option maxHeartbeats 4000000 in
set_option maxRecDepth 100000 in
theorem c_M_isChannel (l : Launch) (D : va_G) (cc : ClassId × ClassId × ClassId) (ad : yl → Nat) (X : va_W) (b0 sz : Nat) (μ : ms) (hi : mI μ 0) (j : Nat) (hj : j < m_nc μ) : Met l y_M_isChannel w_M_isChannel ({ frames := 0, cells := 0, slots := 0, locals := 0 }) (yPr D cc b0 [.ref (ad (20, 0, 0)), .int (nI j)] (mW cc ad X μ) sz) (yQi D (mW cc ad X μ) sz 1 (mW cc ad X μ)) 0 0 (va_A (mW cc ad X μ) sz) := by
  have hn10 := hi.1
  have hc16 := hi.2.1
  refine y_ofW (cc := b_M_isChannel) (maxL := 2) (ret := (some .boolean)) (by decide) rfl (Nat.le_of_ble_eq_true rfl) ?_
  intro pv ev sv mv bv tv cv ls hI hsz hw hl
  obtain ⟨hx, hb, hr, hml, hts, hown, hlocks, hnm, hK, hAb, hb0, hA⟩ := id hI
  have ht : ∀ w ∈ lg_tbl, w.before _ sv = true := fun w h => hts w (List.mem_cons_of_mem _ h)
  have hl : lv_has ls 2 [(0, .ref (ad (20, 0, 0))), (1, .int (nI j))] := hl
  refine lv_iload_n hx hb d_M_isChannel_0 rfl (lv_at hl 1 rfl) ?_
  refine lv_if_lt (tgt := 16) hx hb d_M_isChannel_1 (by decide) (fun c_1 => by exact absurd c_1 (nI_pos (by omega))) (fun c_1 => ?_)
  refine lv_iload_n hx hb d_M_isChannel_4 rfl (lv_at hl 1 rfl) ?_
  refine lv_aload_n hx hb d_M_isChannel_5 rfl (lv_at hl 0 rfl) ?_
  refine yr_get (C := R_M) (T := F_M) (N := 16) (ci := k_M) hx hb ht j_M hown hK.1 hw mL_o (by rfl) rfl 6 (by decide) (ht _ mf_M_60) (fun _ h9 => h9) (by rfl) d_M_isChannel_6 ?_
  refine lv_icmp_ge (tgt := 16) hx hb d_M_isChannel_9 (by decide) (fun c_9 => by exact absurd ((nI_leI (by omega) (by omega)).mp c_9) (by omega)) (fun c_9 => ?_)
  refine lv_iconst (v := (nI 1)) hx hb d_M_isChannel_12 (by decide) ?_
  refine lv_goto (tgt := 17) hx hb d_M_isChannel_13 (by decide) ?_
  exact ye_z hI (by decide) () rfl hw d_M_isChannel_17
set_option maxHeartbeats 4000000 in
set_option maxRecDepth 100000 in
theorem c_M_isChannel_no (l : Launch) (D : va_G) (cc : ClassId × ClassId × ClassId) (ad : yl → Nat) (X : va_W) (b0 sz : Nat) (μ : ms) (hi : mI μ 0) (x : Int32) (hno : x < 0 ∨ nI (m_nc μ) ≤ x) : Met l y_M_isChannel w_M_isChannel ({ frames := 0, cells := 0, slots := 0, locals := 0 }) (yPr D cc b0 [.ref (ad (20, 0, 0)), .int x] (mW cc ad X μ) sz) (yQi D (mW cc ad X μ) sz 0 (mW cc ad X μ)) 0 0 (va_A (mW cc ad X μ) sz) := by
  have hn10 := hi.1
  have hc16 := hi.2.1
  refine y_ofW (cc := b_M_isChannel) (maxL := 2) (ret := (some .boolean)) (by decide) rfl (Nat.le_of_ble_eq_true rfl) ?_
  intro pv ev sv mv bv tv cv ls hI hsz hw hl
  obtain ⟨hx, hb, hr, hml, hts, hown, hlocks, hnm, hK, hAb, hb0, hA⟩ := id hI
  have ht : ∀ w ∈ lg_tbl, w.before _ sv = true := fun w h => hts w (List.mem_cons_of_mem _ h)
  have hl : lv_has ls 2 [(0, .ref (ad (20, 0, 0))), (1, .int x)] := hl
  refine lv_iload_n hx hb d_M_isChannel_0 rfl (lv_at hl 1 rfl) ?_
  refine lv_if_lt (tgt := 16) hx hb d_M_isChannel_1 (by decide) (fun c_1 => ?_) (fun c_1 => ?_)
  · refine lv_iconst (v := (nI 0)) hx hb d_M_isChannel_16 (by decide) ?_
    exact ye_z hI (by decide) () rfl hw d_M_isChannel_17
  · refine lv_iload_n hx hb d_M_isChannel_4 rfl (lv_at hl 1 rfl) ?_
    refine lv_aload_n hx hb d_M_isChannel_5 rfl (lv_at hl 0 rfl) ?_
    refine yr_get (C := R_M) (T := F_M) (N := 16) (ci := k_M) hx hb ht j_M hown hK.1 hw mL_o (by rfl) rfl 6 (by decide) (ht _ mf_M_60) (fun _ h9 => h9) (by rfl) d_M_isChannel_6 ?_
    refine lv_icmp_ge (tgt := 16) hx hb d_M_isChannel_9 (by decide) (fun c_9 => ?_) (fun c_9 => by exact (hno.elim (fun h => absurd h c_1) (fun h => absurd h c_9)))
    refine lv_iconst (v := (nI 0)) hx hb d_M_isChannel_16 (by decide) ?_
    exact ye_z hI (by decide) () rfl hw d_M_isChannel_17
set_option maxHeartbeats 4000000 in
set_option maxRecDepth 100000 in
theorem c_M_isSink (l : Launch) (D : va_G) (cc : ClassId × ClassId × ClassId) (ad : yl → Nat) (X : va_W) (b0 sz : Nat) (μ : ms) (hi : mI μ 0) (j : Nat) (hj : j < m_n μ) (hk : m_kd μ j = 6) : Met l y_M_isSink w_M_isSink ({ frames := 1, cells := 0, slots := 0, locals := 21 }) (yPr D cc b0 [.ref (ad (20, 0, 0)), .int (nI j)] (mW cc ad X μ) sz) (yQi D (mW cc ad X μ) sz 1 (mW cc ad X μ)) 0 0 (va_A (mW cc ad X μ) sz) := by
  have hn10 := hi.1
  have hc16 := hi.2.1
  have hk9 := (hi.2.2.2.2.1 j).1
  refine y_ofW (cc := b_M_isSink) (maxL := 2) (ret := (some .boolean)) (by decide) rfl (Nat.le_of_ble_eq_true rfl) ?_
  intro pv ev sv mv bv tv cv ls hI hsz hw hl
  obtain ⟨hx, hb, hr, hml, hts, hown, hlocks, hnm, hK, hAb, hb0, hA⟩ := id hI
  have ht : ∀ w ∈ lg_tbl, w.before _ sv = true := fun w h => hts w (List.mem_cons_of_mem _ h)
  have hl : lv_has ls 2 [(0, .ref (ad (20, 0, 0))), (1, .int (nI j))] := hl
  refine lv_aload_n hx hb d_M_isSink_0 rfl (lv_at hl 0 rfl) ?_
  refine lv_iload_n hx hb d_M_isSink_1 rfl (lv_at hl 1 rfl) ?_
  refine yc_i (va_runV (As := [.int _]) (rest := []) ⟨hx, hb, hml, hown, hts⟩ (c_M_isActor l D cc ad X b0 _ μ hi j hj) (cwV 1 hts (yg_call mc_M_isActor ml_M_56 mm_M_isActor ms_M_isActor mi_M) rfl rfl rfl (by decide +kernel) ⟨Nat.le_of_ble_eq_true rfl, Nat.le_of_ble_eq_true rfl⟩) (y_preV hI hw (y_recv hK.1 hw mL_o (by rfl) rfl)) rfl rfl hl.1 rfl (lv_room (Nat.le_of_ble_eq_true rfl)) d_M_isSink_2 ⟨Nat.le_of_ble_eq_true rfl, Nat.le_of_ble_eq_true rfl⟩) hw hA (fun r u H locs he hw => ?_)
  subst he
  refine lv_if_eq (tgt := 23) hx hb d_M_isSink_5 (by decide) (fun c_5 => by exact absurd c_5 (by decide)) (fun c_5 => ?_)
  refine lv_aload_n hx hb d_M_isSink_8 rfl (lv_at hl 0 rfl) ?_
  refine yr_get (C := R_M) (T := F_M) (N := 16) (ci := k_M) hx hb ht j_M hown hK.1 hw mL_o (by rfl) rfl 1 (by decide) (ht _ mf_M_7) (fun _ h9 => h9) (by rfl) d_M_isSink_9 ?_
  refine lv_iload_n hx hb d_M_isSink_12 rfl (lv_at hl 1 rfl) ?_
  refine yr_iald (v := nI (m_kd μ j)) hx hb hK.1 hw mL_0 (by rfl) 0 rfl (vp_in_nI (N := 10) (by omega) (by omega)) (by rw [nI_clamp (by omega)]; rfl) d_M_isSink_13 ?_
  refine lv_bipush (v := (nI 6)) hx hb d_M_isSink_14 (by decide) ?_
  refine lv_icmp_ne (tgt := 23) hx hb d_M_isSink_16 (by decide) (fun c_16 => by exact absurd (by rw [hk]) c_16) (fun c_16 => ?_)
  refine lv_iconst (v := (nI 1)) hx hb d_M_isSink_19 (by decide) ?_
  refine lv_goto (tgt := 24) hx hb d_M_isSink_20 (by decide) ?_
  exact ye_z hI (by decide) () rfl hw d_M_isSink_24
set_option maxHeartbeats 4000000 in
set_option maxRecDepth 100000 in
theorem c_M_isSink_other (l : Launch) (D : va_G) (cc : ClassId × ClassId × ClassId) (ad : yl → Nat) (X : va_W) (b0 sz : Nat) (μ : ms) (hi : mI μ 0) (j : Nat) (hj : j < m_n μ) (hk : ¬ m_kd μ j = 6) : Met l y_M_isSink w_M_isSink ({ frames := 1, cells := 0, slots := 0, locals := 21 }) (yPr D cc b0 [.ref (ad (20, 0, 0)), .int (nI j)] (mW cc ad X μ) sz) (yQi D (mW cc ad X μ) sz 0 (mW cc ad X μ)) 0 0 (va_A (mW cc ad X μ) sz) := by
  have hn10 := hi.1
  have hc16 := hi.2.1
  have hk9 := (hi.2.2.2.2.1 j).1
  refine y_ofW (cc := b_M_isSink) (maxL := 2) (ret := (some .boolean)) (by decide) rfl (Nat.le_of_ble_eq_true rfl) ?_
  intro pv ev sv mv bv tv cv ls hI hsz hw hl
  obtain ⟨hx, hb, hr, hml, hts, hown, hlocks, hnm, hK, hAb, hb0, hA⟩ := id hI
  have ht : ∀ w ∈ lg_tbl, w.before _ sv = true := fun w h => hts w (List.mem_cons_of_mem _ h)
  have hl : lv_has ls 2 [(0, .ref (ad (20, 0, 0))), (1, .int (nI j))] := hl
  refine lv_aload_n hx hb d_M_isSink_0 rfl (lv_at hl 0 rfl) ?_
  refine lv_iload_n hx hb d_M_isSink_1 rfl (lv_at hl 1 rfl) ?_
  refine yc_i (va_runV (As := [.int _]) (rest := []) ⟨hx, hb, hml, hown, hts⟩ (c_M_isActor l D cc ad X b0 _ μ hi j hj) (cwV 1 hts (yg_call mc_M_isActor ml_M_56 mm_M_isActor ms_M_isActor mi_M) rfl rfl rfl (by decide +kernel) ⟨Nat.le_of_ble_eq_true rfl, Nat.le_of_ble_eq_true rfl⟩) (y_preV hI hw (y_recv hK.1 hw mL_o (by rfl) rfl)) rfl rfl hl.1 rfl (lv_room (Nat.le_of_ble_eq_true rfl)) d_M_isSink_2 ⟨Nat.le_of_ble_eq_true rfl, Nat.le_of_ble_eq_true rfl⟩) hw hA (fun r u H locs he hw => ?_)
  subst he
  refine lv_if_eq (tgt := 23) hx hb d_M_isSink_5 (by decide) (fun c_5 => by exact absurd c_5 (by decide)) (fun c_5 => ?_)
  refine lv_aload_n hx hb d_M_isSink_8 rfl (lv_at hl 0 rfl) ?_
  refine yr_get (C := R_M) (T := F_M) (N := 16) (ci := k_M) hx hb ht j_M hown hK.1 hw mL_o (by rfl) rfl 1 (by decide) (ht _ mf_M_7) (fun _ h9 => h9) (by rfl) d_M_isSink_9 ?_
  refine lv_iload_n hx hb d_M_isSink_12 rfl (lv_at hl 1 rfl) ?_
  refine yr_iald (v := nI (m_kd μ j)) hx hb hK.1 hw mL_0 (by rfl) 0 rfl (vp_in_nI (N := 10) (by omega) (by omega)) (by rw [nI_clamp (by omega)]; rfl) d_M_isSink_13 ?_
  refine lv_bipush (v := (nI 6)) hx hb d_M_isSink_14 (by decide) ?_
  refine lv_icmp_ne (tgt := 23) hx hb d_M_isSink_16 (by decide) (fun c_16 => ?_) (fun c_16 => by exact absurd ((nI_eq (by omega) (by omega)).mp c_16) hk)
  refine lv_iconst (v := (nI 0)) hx hb d_M_isSink_23 (by decide) ?_
  exact ye_z hI (by decide) () rfl hw d_M_isSink_24
set_option maxHeartbeats 4000000 in
set_option maxRecDepth 100000 in
theorem c_M_isSink_no (l : Launch) (D : va_G) (cc : ClassId × ClassId × ClassId) (ad : yl → Nat) (X : va_W) (b0 sz : Nat) (μ : ms) (hi : mI μ 0) (x : Int32) (hno : x < 0 ∨ nI (m_n μ) ≤ x) : Met l y_M_isSink w_M_isSink ({ frames := 1, cells := 0, slots := 0, locals := 21 }) (yPr D cc b0 [.ref (ad (20, 0, 0)), .int x] (mW cc ad X μ) sz) (yQi D (mW cc ad X μ) sz 0 (mW cc ad X μ)) 0 0 (va_A (mW cc ad X μ) sz) := by
  have hn10 := hi.1
  have hc16 := hi.2.1
  refine y_ofW (cc := b_M_isSink) (maxL := 2) (ret := (some .boolean)) (by decide) rfl (Nat.le_of_ble_eq_true rfl) ?_
  intro pv ev sv mv bv tv cv ls hI hsz hw hl
  obtain ⟨hx, hb, hr, hml, hts, hown, hlocks, hnm, hK, hAb, hb0, hA⟩ := id hI
  have ht : ∀ w ∈ lg_tbl, w.before _ sv = true := fun w h => hts w (List.mem_cons_of_mem _ h)
  have hl : lv_has ls 2 [(0, .ref (ad (20, 0, 0))), (1, .int x)] := hl
  refine lv_aload_n hx hb d_M_isSink_0 rfl (lv_at hl 0 rfl) ?_
  refine lv_iload_n hx hb d_M_isSink_1 rfl (lv_at hl 1 rfl) ?_
  refine yc_i (va_runV (As := [.int _]) (rest := []) ⟨hx, hb, hml, hown, hts⟩ (c_M_isActor_no l D cc ad X b0 _ μ hi x hno) (cwV 1 hts (yg_call mc_M_isActor ml_M_56 mm_M_isActor ms_M_isActor mi_M) rfl rfl rfl (by decide +kernel) ⟨Nat.le_of_ble_eq_true rfl, Nat.le_of_ble_eq_true rfl⟩) (y_preV hI hw (y_recv hK.1 hw mL_o (by rfl) rfl)) rfl rfl hl.1 rfl (lv_room (Nat.le_of_ble_eq_true rfl)) d_M_isSink_2 ⟨Nat.le_of_ble_eq_true rfl, Nat.le_of_ble_eq_true rfl⟩) hw hA (fun r u H locs he hw => ?_)
  subst he
  refine lv_if_eq (tgt := 23) hx hb d_M_isSink_5 (by decide) (fun c_5 => ?_) (fun c_5 => by exact absurd rfl c_5)
  refine lv_iconst (v := (nI 0)) hx hb d_M_isSink_23 (by decide) ?_
  exact ye_z hI (by decide) () rfl hw d_M_isSink_24
set_option maxHeartbeats 4000000 in
set_option maxRecDepth 100000 in
theorem c_M_insOf (l : Launch) (D : va_G) (cc : ClassId × ClassId × ClassId) (ad : yl → Nat) (X : va_W) (b0 sz : Nat) (μ : ms) (k : Nat) (hk : k < 9) : Met l y_M_insOf w_M_insOf ({ frames := 0, cells := 0, slots := 0, locals := 0 }) (yPr D cc b0 [.int (nI k)] (mW cc ad X μ) sz) (yQi D (mW cc ad X μ) sz (nI (yt_ins k)) (mW cc ad X μ)) 0 0 (va_A (mW cc ad X μ) sz) := by
  have hks : k = 0 ∨ k = 1 ∨ k = 2 ∨ k = 3 ∨ k = 4 ∨ k = 5 ∨ k = 6 ∨ k = 7 ∨ k = 8 := by omega
  rcases hks with rfl | rfl | rfl | rfl | rfl | rfl | rfl | rfl | rfl
  · refine y_ofW (cc := b_M_insOf) (maxL := 1) (ret := (some .int)) (by decide) rfl (Nat.le_of_ble_eq_true rfl) ?_
    intro pv ev sv mv bv tv cv ls hI hsz hw hl
    obtain ⟨hx, hb, hr, hml, hts, hown, hlocks, hnm, hK, hAb, hb0, hA⟩ := id hI
    have ht : ∀ w ∈ lg_tbl, w.before _ sv = true := fun w h => hts w (List.mem_cons_of_mem _ h)
    have hl : lv_has ls 1 [(0, .int (nI 0))] := hl
    refine lv_iload_n hx hb d_M_insOf_0 rfl (lv_at hl 0 rfl) ?_
    refine lv_if_ne (tgt := 8) hx hb d_M_insOf_1 (by decide) (fun c_1 => by first | exact absurd c_1 (by decide) | exact (c_1 (by decide)).elim) (fun c_1 => ?_)
    refine lv_iconst (v := (nI 0)) hx hb d_M_insOf_4 (by decide) ?_
    refine lv_goto (tgt := 29) hx hb d_M_insOf_5 (by decide) ?_
    exact ye_i hI () (by decide) hw d_M_insOf_29
  · refine y_ofW (cc := b_M_insOf) (maxL := 1) (ret := (some .int)) (by decide) rfl (Nat.le_of_ble_eq_true rfl) ?_
    intro pv ev sv mv bv tv cv ls hI hsz hw hl
    obtain ⟨hx, hb, hr, hml, hts, hown, hlocks, hnm, hK, hAb, hb0, hA⟩ := id hI
    have ht : ∀ w ∈ lg_tbl, w.before _ sv = true := fun w h => hts w (List.mem_cons_of_mem _ h)
    have hl : lv_has ls 1 [(0, .int (nI 1))] := hl
    refine lv_iload_n hx hb d_M_insOf_0 rfl (lv_at hl 0 rfl) ?_
    refine lv_if_ne (tgt := 8) hx hb d_M_insOf_1 (by decide) (fun c_1 => ?_) (fun c_1 => by first | exact absurd c_1 (by decide) | exact (c_1 (by decide)).elim)
    refine lv_iload_n hx hb d_M_insOf_8 rfl (lv_at hl 0 rfl) ?_
    refine lv_iconst (v := (nI 3)) hx hb d_M_insOf_9 (by decide) ?_
    refine lv_icmp_eq (tgt := 24) hx hb d_M_insOf_10 (by decide) (fun c_10 => by first | exact absurd c_10 (by decide) | exact (c_10 (by decide)).elim) (fun c_10 => ?_)
    refine lv_iload_n hx hb d_M_insOf_13 rfl (lv_at hl 0 rfl) ?_
    refine lv_iconst (v := (nI 4)) hx hb d_M_insOf_14 (by decide) ?_
    refine lv_icmp_eq (tgt := 24) hx hb d_M_insOf_15 (by decide) (fun c_15 => by first | exact absurd c_15 (by decide) | exact (c_15 (by decide)).elim) (fun c_15 => ?_)
    refine lv_iload_n hx hb d_M_insOf_18 rfl (lv_at hl 0 rfl) ?_
    refine lv_bipush (v := (nI 7)) hx hb d_M_insOf_19 (by decide) ?_
    refine lv_icmp_ne (tgt := 28) hx hb d_M_insOf_21 (by decide) (fun c_21 => ?_) (fun c_21 => by first | exact absurd c_21 (by decide) | exact (c_21 (by decide)).elim)
    refine lv_iconst (v := (nI 1)) hx hb d_M_insOf_28 (by decide) ?_
    exact ye_i hI () (by decide) hw d_M_insOf_29
  · refine y_ofW (cc := b_M_insOf) (maxL := 1) (ret := (some .int)) (by decide) rfl (Nat.le_of_ble_eq_true rfl) ?_
    intro pv ev sv mv bv tv cv ls hI hsz hw hl
    obtain ⟨hx, hb, hr, hml, hts, hown, hlocks, hnm, hK, hAb, hb0, hA⟩ := id hI
    have ht : ∀ w ∈ lg_tbl, w.before _ sv = true := fun w h => hts w (List.mem_cons_of_mem _ h)
    have hl : lv_has ls 1 [(0, .int (nI 2))] := hl
    refine lv_iload_n hx hb d_M_insOf_0 rfl (lv_at hl 0 rfl) ?_
    refine lv_if_ne (tgt := 8) hx hb d_M_insOf_1 (by decide) (fun c_1 => ?_) (fun c_1 => by first | exact absurd c_1 (by decide) | exact (c_1 (by decide)).elim)
    refine lv_iload_n hx hb d_M_insOf_8 rfl (lv_at hl 0 rfl) ?_
    refine lv_iconst (v := (nI 3)) hx hb d_M_insOf_9 (by decide) ?_
    refine lv_icmp_eq (tgt := 24) hx hb d_M_insOf_10 (by decide) (fun c_10 => by first | exact absurd c_10 (by decide) | exact (c_10 (by decide)).elim) (fun c_10 => ?_)
    refine lv_iload_n hx hb d_M_insOf_13 rfl (lv_at hl 0 rfl) ?_
    refine lv_iconst (v := (nI 4)) hx hb d_M_insOf_14 (by decide) ?_
    refine lv_icmp_eq (tgt := 24) hx hb d_M_insOf_15 (by decide) (fun c_15 => by first | exact absurd c_15 (by decide) | exact (c_15 (by decide)).elim) (fun c_15 => ?_)
    refine lv_iload_n hx hb d_M_insOf_18 rfl (lv_at hl 0 rfl) ?_
    refine lv_bipush (v := (nI 7)) hx hb d_M_insOf_19 (by decide) ?_
    refine lv_icmp_ne (tgt := 28) hx hb d_M_insOf_21 (by decide) (fun c_21 => ?_) (fun c_21 => by first | exact absurd c_21 (by decide) | exact (c_21 (by decide)).elim)
    refine lv_iconst (v := (nI 1)) hx hb d_M_insOf_28 (by decide) ?_
    exact ye_i hI () (by decide) hw d_M_insOf_29
  · refine y_ofW (cc := b_M_insOf) (maxL := 1) (ret := (some .int)) (by decide) rfl (Nat.le_of_ble_eq_true rfl) ?_
    intro pv ev sv mv bv tv cv ls hI hsz hw hl
    obtain ⟨hx, hb, hr, hml, hts, hown, hlocks, hnm, hK, hAb, hb0, hA⟩ := id hI
    have ht : ∀ w ∈ lg_tbl, w.before _ sv = true := fun w h => hts w (List.mem_cons_of_mem _ h)
    have hl : lv_has ls 1 [(0, .int (nI 3))] := hl
    refine lv_iload_n hx hb d_M_insOf_0 rfl (lv_at hl 0 rfl) ?_
    refine lv_if_ne (tgt := 8) hx hb d_M_insOf_1 (by decide) (fun c_1 => ?_) (fun c_1 => by first | exact absurd c_1 (by decide) | exact (c_1 (by decide)).elim)
    refine lv_iload_n hx hb d_M_insOf_8 rfl (lv_at hl 0 rfl) ?_
    refine lv_iconst (v := (nI 3)) hx hb d_M_insOf_9 (by decide) ?_
    refine lv_icmp_eq (tgt := 24) hx hb d_M_insOf_10 (by decide) (fun c_10 => ?_) (fun c_10 => by first | exact absurd c_10 (by decide) | exact (c_10 (by decide)).elim)
    refine lv_iconst (v := (nI 2)) hx hb d_M_insOf_24 (by decide) ?_
    refine lv_goto (tgt := 29) hx hb d_M_insOf_25 (by decide) ?_
    exact ye_i hI () (by decide) hw d_M_insOf_29
  · refine y_ofW (cc := b_M_insOf) (maxL := 1) (ret := (some .int)) (by decide) rfl (Nat.le_of_ble_eq_true rfl) ?_
    intro pv ev sv mv bv tv cv ls hI hsz hw hl
    obtain ⟨hx, hb, hr, hml, hts, hown, hlocks, hnm, hK, hAb, hb0, hA⟩ := id hI
    have ht : ∀ w ∈ lg_tbl, w.before _ sv = true := fun w h => hts w (List.mem_cons_of_mem _ h)
    have hl : lv_has ls 1 [(0, .int (nI 4))] := hl
    refine lv_iload_n hx hb d_M_insOf_0 rfl (lv_at hl 0 rfl) ?_
    refine lv_if_ne (tgt := 8) hx hb d_M_insOf_1 (by decide) (fun c_1 => ?_) (fun c_1 => by first | exact absurd c_1 (by decide) | exact (c_1 (by decide)).elim)
    refine lv_iload_n hx hb d_M_insOf_8 rfl (lv_at hl 0 rfl) ?_
    refine lv_iconst (v := (nI 3)) hx hb d_M_insOf_9 (by decide) ?_
    refine lv_icmp_eq (tgt := 24) hx hb d_M_insOf_10 (by decide) (fun c_10 => by first | exact absurd c_10 (by decide) | exact (c_10 (by decide)).elim) (fun c_10 => ?_)
    refine lv_iload_n hx hb d_M_insOf_13 rfl (lv_at hl 0 rfl) ?_
    refine lv_iconst (v := (nI 4)) hx hb d_M_insOf_14 (by decide) ?_
    refine lv_icmp_eq (tgt := 24) hx hb d_M_insOf_15 (by decide) (fun c_15 => ?_) (fun c_15 => by first | exact absurd c_15 (by decide) | exact (c_15 (by decide)).elim)
    refine lv_iconst (v := (nI 2)) hx hb d_M_insOf_24 (by decide) ?_
    refine lv_goto (tgt := 29) hx hb d_M_insOf_25 (by decide) ?_
    exact ye_i hI () (by decide) hw d_M_insOf_29
  · refine y_ofW (cc := b_M_insOf) (maxL := 1) (ret := (some .int)) (by decide) rfl (Nat.le_of_ble_eq_true rfl) ?_
    intro pv ev sv mv bv tv cv ls hI hsz hw hl
    obtain ⟨hx, hb, hr, hml, hts, hown, hlocks, hnm, hK, hAb, hb0, hA⟩ := id hI
    have ht : ∀ w ∈ lg_tbl, w.before _ sv = true := fun w h => hts w (List.mem_cons_of_mem _ h)
    have hl : lv_has ls 1 [(0, .int (nI 5))] := hl
    refine lv_iload_n hx hb d_M_insOf_0 rfl (lv_at hl 0 rfl) ?_
    refine lv_if_ne (tgt := 8) hx hb d_M_insOf_1 (by decide) (fun c_1 => ?_) (fun c_1 => by first | exact absurd c_1 (by decide) | exact (c_1 (by decide)).elim)
    refine lv_iload_n hx hb d_M_insOf_8 rfl (lv_at hl 0 rfl) ?_
    refine lv_iconst (v := (nI 3)) hx hb d_M_insOf_9 (by decide) ?_
    refine lv_icmp_eq (tgt := 24) hx hb d_M_insOf_10 (by decide) (fun c_10 => by first | exact absurd c_10 (by decide) | exact (c_10 (by decide)).elim) (fun c_10 => ?_)
    refine lv_iload_n hx hb d_M_insOf_13 rfl (lv_at hl 0 rfl) ?_
    refine lv_iconst (v := (nI 4)) hx hb d_M_insOf_14 (by decide) ?_
    refine lv_icmp_eq (tgt := 24) hx hb d_M_insOf_15 (by decide) (fun c_15 => by first | exact absurd c_15 (by decide) | exact (c_15 (by decide)).elim) (fun c_15 => ?_)
    refine lv_iload_n hx hb d_M_insOf_18 rfl (lv_at hl 0 rfl) ?_
    refine lv_bipush (v := (nI 7)) hx hb d_M_insOf_19 (by decide) ?_
    refine lv_icmp_ne (tgt := 28) hx hb d_M_insOf_21 (by decide) (fun c_21 => ?_) (fun c_21 => by first | exact absurd c_21 (by decide) | exact (c_21 (by decide)).elim)
    refine lv_iconst (v := (nI 1)) hx hb d_M_insOf_28 (by decide) ?_
    exact ye_i hI () (by decide) hw d_M_insOf_29
  · refine y_ofW (cc := b_M_insOf) (maxL := 1) (ret := (some .int)) (by decide) rfl (Nat.le_of_ble_eq_true rfl) ?_
    intro pv ev sv mv bv tv cv ls hI hsz hw hl
    obtain ⟨hx, hb, hr, hml, hts, hown, hlocks, hnm, hK, hAb, hb0, hA⟩ := id hI
    have ht : ∀ w ∈ lg_tbl, w.before _ sv = true := fun w h => hts w (List.mem_cons_of_mem _ h)
    have hl : lv_has ls 1 [(0, .int (nI 6))] := hl
    refine lv_iload_n hx hb d_M_insOf_0 rfl (lv_at hl 0 rfl) ?_
    refine lv_if_ne (tgt := 8) hx hb d_M_insOf_1 (by decide) (fun c_1 => ?_) (fun c_1 => by first | exact absurd c_1 (by decide) | exact (c_1 (by decide)).elim)
    refine lv_iload_n hx hb d_M_insOf_8 rfl (lv_at hl 0 rfl) ?_
    refine lv_iconst (v := (nI 3)) hx hb d_M_insOf_9 (by decide) ?_
    refine lv_icmp_eq (tgt := 24) hx hb d_M_insOf_10 (by decide) (fun c_10 => by first | exact absurd c_10 (by decide) | exact (c_10 (by decide)).elim) (fun c_10 => ?_)
    refine lv_iload_n hx hb d_M_insOf_13 rfl (lv_at hl 0 rfl) ?_
    refine lv_iconst (v := (nI 4)) hx hb d_M_insOf_14 (by decide) ?_
    refine lv_icmp_eq (tgt := 24) hx hb d_M_insOf_15 (by decide) (fun c_15 => by first | exact absurd c_15 (by decide) | exact (c_15 (by decide)).elim) (fun c_15 => ?_)
    refine lv_iload_n hx hb d_M_insOf_18 rfl (lv_at hl 0 rfl) ?_
    refine lv_bipush (v := (nI 7)) hx hb d_M_insOf_19 (by decide) ?_
    refine lv_icmp_ne (tgt := 28) hx hb d_M_insOf_21 (by decide) (fun c_21 => ?_) (fun c_21 => by first | exact absurd c_21 (by decide) | exact (c_21 (by decide)).elim)
    refine lv_iconst (v := (nI 1)) hx hb d_M_insOf_28 (by decide) ?_
    exact ye_i hI () (by decide) hw d_M_insOf_29
  · refine y_ofW (cc := b_M_insOf) (maxL := 1) (ret := (some .int)) (by decide) rfl (Nat.le_of_ble_eq_true rfl) ?_
    intro pv ev sv mv bv tv cv ls hI hsz hw hl
    obtain ⟨hx, hb, hr, hml, hts, hown, hlocks, hnm, hK, hAb, hb0, hA⟩ := id hI
    have ht : ∀ w ∈ lg_tbl, w.before _ sv = true := fun w h => hts w (List.mem_cons_of_mem _ h)
    have hl : lv_has ls 1 [(0, .int (nI 7))] := hl
    refine lv_iload_n hx hb d_M_insOf_0 rfl (lv_at hl 0 rfl) ?_
    refine lv_if_ne (tgt := 8) hx hb d_M_insOf_1 (by decide) (fun c_1 => ?_) (fun c_1 => by first | exact absurd c_1 (by decide) | exact (c_1 (by decide)).elim)
    refine lv_iload_n hx hb d_M_insOf_8 rfl (lv_at hl 0 rfl) ?_
    refine lv_iconst (v := (nI 3)) hx hb d_M_insOf_9 (by decide) ?_
    refine lv_icmp_eq (tgt := 24) hx hb d_M_insOf_10 (by decide) (fun c_10 => by first | exact absurd c_10 (by decide) | exact (c_10 (by decide)).elim) (fun c_10 => ?_)
    refine lv_iload_n hx hb d_M_insOf_13 rfl (lv_at hl 0 rfl) ?_
    refine lv_iconst (v := (nI 4)) hx hb d_M_insOf_14 (by decide) ?_
    refine lv_icmp_eq (tgt := 24) hx hb d_M_insOf_15 (by decide) (fun c_15 => by first | exact absurd c_15 (by decide) | exact (c_15 (by decide)).elim) (fun c_15 => ?_)
    refine lv_iload_n hx hb d_M_insOf_18 rfl (lv_at hl 0 rfl) ?_
    refine lv_bipush (v := (nI 7)) hx hb d_M_insOf_19 (by decide) ?_
    refine lv_icmp_ne (tgt := 28) hx hb d_M_insOf_21 (by decide) (fun c_21 => by first | exact absurd c_21 (by decide) | exact (c_21 (by decide)).elim) (fun c_21 => ?_)
    refine lv_iconst (v := (nI 2)) hx hb d_M_insOf_24 (by decide) ?_
    refine lv_goto (tgt := 29) hx hb d_M_insOf_25 (by decide) ?_
    exact ye_i hI () (by decide) hw d_M_insOf_29
  · refine y_ofW (cc := b_M_insOf) (maxL := 1) (ret := (some .int)) (by decide) rfl (Nat.le_of_ble_eq_true rfl) ?_
    intro pv ev sv mv bv tv cv ls hI hsz hw hl
    obtain ⟨hx, hb, hr, hml, hts, hown, hlocks, hnm, hK, hAb, hb0, hA⟩ := id hI
    have ht : ∀ w ∈ lg_tbl, w.before _ sv = true := fun w h => hts w (List.mem_cons_of_mem _ h)
    have hl : lv_has ls 1 [(0, .int (nI 8))] := hl
    refine lv_iload_n hx hb d_M_insOf_0 rfl (lv_at hl 0 rfl) ?_
    refine lv_if_ne (tgt := 8) hx hb d_M_insOf_1 (by decide) (fun c_1 => ?_) (fun c_1 => by first | exact absurd c_1 (by decide) | exact (c_1 (by decide)).elim)
    refine lv_iload_n hx hb d_M_insOf_8 rfl (lv_at hl 0 rfl) ?_
    refine lv_iconst (v := (nI 3)) hx hb d_M_insOf_9 (by decide) ?_
    refine lv_icmp_eq (tgt := 24) hx hb d_M_insOf_10 (by decide) (fun c_10 => by first | exact absurd c_10 (by decide) | exact (c_10 (by decide)).elim) (fun c_10 => ?_)
    refine lv_iload_n hx hb d_M_insOf_13 rfl (lv_at hl 0 rfl) ?_
    refine lv_iconst (v := (nI 4)) hx hb d_M_insOf_14 (by decide) ?_
    refine lv_icmp_eq (tgt := 24) hx hb d_M_insOf_15 (by decide) (fun c_15 => by first | exact absurd c_15 (by decide) | exact (c_15 (by decide)).elim) (fun c_15 => ?_)
    refine lv_iload_n hx hb d_M_insOf_18 rfl (lv_at hl 0 rfl) ?_
    refine lv_bipush (v := (nI 7)) hx hb d_M_insOf_19 (by decide) ?_
    refine lv_icmp_ne (tgt := 28) hx hb d_M_insOf_21 (by decide) (fun c_21 => ?_) (fun c_21 => by first | exact absurd c_21 (by decide) | exact (c_21 (by decide)).elim)
    refine lv_iconst (v := (nI 1)) hx hb d_M_insOf_28 (by decide) ?_
    exact ye_i hI () (by decide) hw d_M_insOf_29
set_option maxHeartbeats 4000000 in
set_option maxRecDepth 100000 in
theorem c_M_outsOf (l : Launch) (D : va_G) (cc : ClassId × ClassId × ClassId) (ad : yl → Nat) (X : va_W) (b0 sz : Nat) (μ : ms) (k : Nat) (hk : k < 9) : Met l y_M_outsOf w_M_outsOf ({ frames := 0, cells := 0, slots := 0, locals := 0 }) (yPr D cc b0 [.int (nI k)] (mW cc ad X μ) sz) (yQi D (mW cc ad X μ) sz (nI (yt_outs k)) (mW cc ad X μ)) 0 0 (va_A (mW cc ad X μ) sz) := by
  have hks : k = 0 ∨ k = 1 ∨ k = 2 ∨ k = 3 ∨ k = 4 ∨ k = 5 ∨ k = 6 ∨ k = 7 ∨ k = 8 := by omega
  rcases hks with rfl | rfl | rfl | rfl | rfl | rfl | rfl | rfl | rfl
  · refine y_ofW (cc := b_M_outsOf) (maxL := 1) (ret := (some .int)) (by decide) rfl (Nat.le_of_ble_eq_true rfl) ?_
    intro pv ev sv mv bv tv cv ls hI hsz hw hl
    obtain ⟨hx, hb, hr, hml, hts, hown, hlocks, hnm, hK, hAb, hb0, hA⟩ := id hI
    have ht : ∀ w ∈ lg_tbl, w.before _ sv = true := fun w h => hts w (List.mem_cons_of_mem _ h)
    have hl : lv_has ls 1 [(0, .int (nI 0))] := hl
    refine lv_iload_n hx hb d_M_outsOf_0 rfl (lv_at hl 0 rfl) ?_
    refine lv_bipush (v := (nI 6)) hx hb d_M_outsOf_1 (by decide) ?_
    refine lv_icmp_ne (tgt := 10) hx hb d_M_outsOf_3 (by decide) (fun c_3 => ?_) (fun c_3 => by first | exact absurd c_3 (by decide) | exact (c_3 (by decide)).elim)
    refine lv_iload_n hx hb d_M_outsOf_10 rfl (lv_at hl 0 rfl) ?_
    refine lv_iconst (v := (nI 2)) hx hb d_M_outsOf_11 (by decide) ?_
    refine lv_icmp_eq (tgt := 21) hx hb d_M_outsOf_12 (by decide) (fun c_12 => by first | exact absurd c_12 (by decide) | exact (c_12 (by decide)).elim) (fun c_12 => ?_)
    refine lv_iload_n hx hb d_M_outsOf_15 rfl (lv_at hl 0 rfl) ?_
    refine lv_bipush (v := (nI 8)) hx hb d_M_outsOf_16 (by decide) ?_
    refine lv_icmp_ne (tgt := 25) hx hb d_M_outsOf_18 (by decide) (fun c_18 => ?_) (fun c_18 => by first | exact absurd c_18 (by decide) | exact (c_18 (by decide)).elim)
    refine lv_iconst (v := (nI 1)) hx hb d_M_outsOf_25 (by decide) ?_
    exact ye_i hI () (by decide) hw d_M_outsOf_26
  · refine y_ofW (cc := b_M_outsOf) (maxL := 1) (ret := (some .int)) (by decide) rfl (Nat.le_of_ble_eq_true rfl) ?_
    intro pv ev sv mv bv tv cv ls hI hsz hw hl
    obtain ⟨hx, hb, hr, hml, hts, hown, hlocks, hnm, hK, hAb, hb0, hA⟩ := id hI
    have ht : ∀ w ∈ lg_tbl, w.before _ sv = true := fun w h => hts w (List.mem_cons_of_mem _ h)
    have hl : lv_has ls 1 [(0, .int (nI 1))] := hl
    refine lv_iload_n hx hb d_M_outsOf_0 rfl (lv_at hl 0 rfl) ?_
    refine lv_bipush (v := (nI 6)) hx hb d_M_outsOf_1 (by decide) ?_
    refine lv_icmp_ne (tgt := 10) hx hb d_M_outsOf_3 (by decide) (fun c_3 => ?_) (fun c_3 => by first | exact absurd c_3 (by decide) | exact (c_3 (by decide)).elim)
    refine lv_iload_n hx hb d_M_outsOf_10 rfl (lv_at hl 0 rfl) ?_
    refine lv_iconst (v := (nI 2)) hx hb d_M_outsOf_11 (by decide) ?_
    refine lv_icmp_eq (tgt := 21) hx hb d_M_outsOf_12 (by decide) (fun c_12 => by first | exact absurd c_12 (by decide) | exact (c_12 (by decide)).elim) (fun c_12 => ?_)
    refine lv_iload_n hx hb d_M_outsOf_15 rfl (lv_at hl 0 rfl) ?_
    refine lv_bipush (v := (nI 8)) hx hb d_M_outsOf_16 (by decide) ?_
    refine lv_icmp_ne (tgt := 25) hx hb d_M_outsOf_18 (by decide) (fun c_18 => ?_) (fun c_18 => by first | exact absurd c_18 (by decide) | exact (c_18 (by decide)).elim)
    refine lv_iconst (v := (nI 1)) hx hb d_M_outsOf_25 (by decide) ?_
    exact ye_i hI () (by decide) hw d_M_outsOf_26
  · refine y_ofW (cc := b_M_outsOf) (maxL := 1) (ret := (some .int)) (by decide) rfl (Nat.le_of_ble_eq_true rfl) ?_
    intro pv ev sv mv bv tv cv ls hI hsz hw hl
    obtain ⟨hx, hb, hr, hml, hts, hown, hlocks, hnm, hK, hAb, hb0, hA⟩ := id hI
    have ht : ∀ w ∈ lg_tbl, w.before _ sv = true := fun w h => hts w (List.mem_cons_of_mem _ h)
    have hl : lv_has ls 1 [(0, .int (nI 2))] := hl
    refine lv_iload_n hx hb d_M_outsOf_0 rfl (lv_at hl 0 rfl) ?_
    refine lv_bipush (v := (nI 6)) hx hb d_M_outsOf_1 (by decide) ?_
    refine lv_icmp_ne (tgt := 10) hx hb d_M_outsOf_3 (by decide) (fun c_3 => ?_) (fun c_3 => by first | exact absurd c_3 (by decide) | exact (c_3 (by decide)).elim)
    refine lv_iload_n hx hb d_M_outsOf_10 rfl (lv_at hl 0 rfl) ?_
    refine lv_iconst (v := (nI 2)) hx hb d_M_outsOf_11 (by decide) ?_
    refine lv_icmp_eq (tgt := 21) hx hb d_M_outsOf_12 (by decide) (fun c_12 => ?_) (fun c_12 => by first | exact absurd c_12 (by decide) | exact (c_12 (by decide)).elim)
    refine lv_iconst (v := (nI 2)) hx hb d_M_outsOf_21 (by decide) ?_
    refine lv_goto (tgt := 26) hx hb d_M_outsOf_22 (by decide) ?_
    exact ye_i hI () (by decide) hw d_M_outsOf_26
  · refine y_ofW (cc := b_M_outsOf) (maxL := 1) (ret := (some .int)) (by decide) rfl (Nat.le_of_ble_eq_true rfl) ?_
    intro pv ev sv mv bv tv cv ls hI hsz hw hl
    obtain ⟨hx, hb, hr, hml, hts, hown, hlocks, hnm, hK, hAb, hb0, hA⟩ := id hI
    have ht : ∀ w ∈ lg_tbl, w.before _ sv = true := fun w h => hts w (List.mem_cons_of_mem _ h)
    have hl : lv_has ls 1 [(0, .int (nI 3))] := hl
    refine lv_iload_n hx hb d_M_outsOf_0 rfl (lv_at hl 0 rfl) ?_
    refine lv_bipush (v := (nI 6)) hx hb d_M_outsOf_1 (by decide) ?_
    refine lv_icmp_ne (tgt := 10) hx hb d_M_outsOf_3 (by decide) (fun c_3 => ?_) (fun c_3 => by first | exact absurd c_3 (by decide) | exact (c_3 (by decide)).elim)
    refine lv_iload_n hx hb d_M_outsOf_10 rfl (lv_at hl 0 rfl) ?_
    refine lv_iconst (v := (nI 2)) hx hb d_M_outsOf_11 (by decide) ?_
    refine lv_icmp_eq (tgt := 21) hx hb d_M_outsOf_12 (by decide) (fun c_12 => by first | exact absurd c_12 (by decide) | exact (c_12 (by decide)).elim) (fun c_12 => ?_)
    refine lv_iload_n hx hb d_M_outsOf_15 rfl (lv_at hl 0 rfl) ?_
    refine lv_bipush (v := (nI 8)) hx hb d_M_outsOf_16 (by decide) ?_
    refine lv_icmp_ne (tgt := 25) hx hb d_M_outsOf_18 (by decide) (fun c_18 => ?_) (fun c_18 => by first | exact absurd c_18 (by decide) | exact (c_18 (by decide)).elim)
    refine lv_iconst (v := (nI 1)) hx hb d_M_outsOf_25 (by decide) ?_
    exact ye_i hI () (by decide) hw d_M_outsOf_26
  · refine y_ofW (cc := b_M_outsOf) (maxL := 1) (ret := (some .int)) (by decide) rfl (Nat.le_of_ble_eq_true rfl) ?_
    intro pv ev sv mv bv tv cv ls hI hsz hw hl
    obtain ⟨hx, hb, hr, hml, hts, hown, hlocks, hnm, hK, hAb, hb0, hA⟩ := id hI
    have ht : ∀ w ∈ lg_tbl, w.before _ sv = true := fun w h => hts w (List.mem_cons_of_mem _ h)
    have hl : lv_has ls 1 [(0, .int (nI 4))] := hl
    refine lv_iload_n hx hb d_M_outsOf_0 rfl (lv_at hl 0 rfl) ?_
    refine lv_bipush (v := (nI 6)) hx hb d_M_outsOf_1 (by decide) ?_
    refine lv_icmp_ne (tgt := 10) hx hb d_M_outsOf_3 (by decide) (fun c_3 => ?_) (fun c_3 => by first | exact absurd c_3 (by decide) | exact (c_3 (by decide)).elim)
    refine lv_iload_n hx hb d_M_outsOf_10 rfl (lv_at hl 0 rfl) ?_
    refine lv_iconst (v := (nI 2)) hx hb d_M_outsOf_11 (by decide) ?_
    refine lv_icmp_eq (tgt := 21) hx hb d_M_outsOf_12 (by decide) (fun c_12 => by first | exact absurd c_12 (by decide) | exact (c_12 (by decide)).elim) (fun c_12 => ?_)
    refine lv_iload_n hx hb d_M_outsOf_15 rfl (lv_at hl 0 rfl) ?_
    refine lv_bipush (v := (nI 8)) hx hb d_M_outsOf_16 (by decide) ?_
    refine lv_icmp_ne (tgt := 25) hx hb d_M_outsOf_18 (by decide) (fun c_18 => ?_) (fun c_18 => by first | exact absurd c_18 (by decide) | exact (c_18 (by decide)).elim)
    refine lv_iconst (v := (nI 1)) hx hb d_M_outsOf_25 (by decide) ?_
    exact ye_i hI () (by decide) hw d_M_outsOf_26
  · refine y_ofW (cc := b_M_outsOf) (maxL := 1) (ret := (some .int)) (by decide) rfl (Nat.le_of_ble_eq_true rfl) ?_
    intro pv ev sv mv bv tv cv ls hI hsz hw hl
    obtain ⟨hx, hb, hr, hml, hts, hown, hlocks, hnm, hK, hAb, hb0, hA⟩ := id hI
    have ht : ∀ w ∈ lg_tbl, w.before _ sv = true := fun w h => hts w (List.mem_cons_of_mem _ h)
    have hl : lv_has ls 1 [(0, .int (nI 5))] := hl
    refine lv_iload_n hx hb d_M_outsOf_0 rfl (lv_at hl 0 rfl) ?_
    refine lv_bipush (v := (nI 6)) hx hb d_M_outsOf_1 (by decide) ?_
    refine lv_icmp_ne (tgt := 10) hx hb d_M_outsOf_3 (by decide) (fun c_3 => ?_) (fun c_3 => by first | exact absurd c_3 (by decide) | exact (c_3 (by decide)).elim)
    refine lv_iload_n hx hb d_M_outsOf_10 rfl (lv_at hl 0 rfl) ?_
    refine lv_iconst (v := (nI 2)) hx hb d_M_outsOf_11 (by decide) ?_
    refine lv_icmp_eq (tgt := 21) hx hb d_M_outsOf_12 (by decide) (fun c_12 => by first | exact absurd c_12 (by decide) | exact (c_12 (by decide)).elim) (fun c_12 => ?_)
    refine lv_iload_n hx hb d_M_outsOf_15 rfl (lv_at hl 0 rfl) ?_
    refine lv_bipush (v := (nI 8)) hx hb d_M_outsOf_16 (by decide) ?_
    refine lv_icmp_ne (tgt := 25) hx hb d_M_outsOf_18 (by decide) (fun c_18 => ?_) (fun c_18 => by first | exact absurd c_18 (by decide) | exact (c_18 (by decide)).elim)
    refine lv_iconst (v := (nI 1)) hx hb d_M_outsOf_25 (by decide) ?_
    exact ye_i hI () (by decide) hw d_M_outsOf_26
  · refine y_ofW (cc := b_M_outsOf) (maxL := 1) (ret := (some .int)) (by decide) rfl (Nat.le_of_ble_eq_true rfl) ?_
    intro pv ev sv mv bv tv cv ls hI hsz hw hl
    obtain ⟨hx, hb, hr, hml, hts, hown, hlocks, hnm, hK, hAb, hb0, hA⟩ := id hI
    have ht : ∀ w ∈ lg_tbl, w.before _ sv = true := fun w h => hts w (List.mem_cons_of_mem _ h)
    have hl : lv_has ls 1 [(0, .int (nI 6))] := hl
    refine lv_iload_n hx hb d_M_outsOf_0 rfl (lv_at hl 0 rfl) ?_
    refine lv_bipush (v := (nI 6)) hx hb d_M_outsOf_1 (by decide) ?_
    refine lv_icmp_ne (tgt := 10) hx hb d_M_outsOf_3 (by decide) (fun c_3 => by first | exact absurd c_3 (by decide) | exact (c_3 (by decide)).elim) (fun c_3 => ?_)
    refine lv_iconst (v := (nI 0)) hx hb d_M_outsOf_6 (by decide) ?_
    refine lv_goto (tgt := 26) hx hb d_M_outsOf_7 (by decide) ?_
    exact ye_i hI () (by decide) hw d_M_outsOf_26
  · refine y_ofW (cc := b_M_outsOf) (maxL := 1) (ret := (some .int)) (by decide) rfl (Nat.le_of_ble_eq_true rfl) ?_
    intro pv ev sv mv bv tv cv ls hI hsz hw hl
    obtain ⟨hx, hb, hr, hml, hts, hown, hlocks, hnm, hK, hAb, hb0, hA⟩ := id hI
    have ht : ∀ w ∈ lg_tbl, w.before _ sv = true := fun w h => hts w (List.mem_cons_of_mem _ h)
    have hl : lv_has ls 1 [(0, .int (nI 7))] := hl
    refine lv_iload_n hx hb d_M_outsOf_0 rfl (lv_at hl 0 rfl) ?_
    refine lv_bipush (v := (nI 6)) hx hb d_M_outsOf_1 (by decide) ?_
    refine lv_icmp_ne (tgt := 10) hx hb d_M_outsOf_3 (by decide) (fun c_3 => ?_) (fun c_3 => by first | exact absurd c_3 (by decide) | exact (c_3 (by decide)).elim)
    refine lv_iload_n hx hb d_M_outsOf_10 rfl (lv_at hl 0 rfl) ?_
    refine lv_iconst (v := (nI 2)) hx hb d_M_outsOf_11 (by decide) ?_
    refine lv_icmp_eq (tgt := 21) hx hb d_M_outsOf_12 (by decide) (fun c_12 => by first | exact absurd c_12 (by decide) | exact (c_12 (by decide)).elim) (fun c_12 => ?_)
    refine lv_iload_n hx hb d_M_outsOf_15 rfl (lv_at hl 0 rfl) ?_
    refine lv_bipush (v := (nI 8)) hx hb d_M_outsOf_16 (by decide) ?_
    refine lv_icmp_ne (tgt := 25) hx hb d_M_outsOf_18 (by decide) (fun c_18 => ?_) (fun c_18 => by first | exact absurd c_18 (by decide) | exact (c_18 (by decide)).elim)
    refine lv_iconst (v := (nI 1)) hx hb d_M_outsOf_25 (by decide) ?_
    exact ye_i hI () (by decide) hw d_M_outsOf_26
  · refine y_ofW (cc := b_M_outsOf) (maxL := 1) (ret := (some .int)) (by decide) rfl (Nat.le_of_ble_eq_true rfl) ?_
    intro pv ev sv mv bv tv cv ls hI hsz hw hl
    obtain ⟨hx, hb, hr, hml, hts, hown, hlocks, hnm, hK, hAb, hb0, hA⟩ := id hI
    have ht : ∀ w ∈ lg_tbl, w.before _ sv = true := fun w h => hts w (List.mem_cons_of_mem _ h)
    have hl : lv_has ls 1 [(0, .int (nI 8))] := hl
    refine lv_iload_n hx hb d_M_outsOf_0 rfl (lv_at hl 0 rfl) ?_
    refine lv_bipush (v := (nI 6)) hx hb d_M_outsOf_1 (by decide) ?_
    refine lv_icmp_ne (tgt := 10) hx hb d_M_outsOf_3 (by decide) (fun c_3 => ?_) (fun c_3 => by first | exact absurd c_3 (by decide) | exact (c_3 (by decide)).elim)
    refine lv_iload_n hx hb d_M_outsOf_10 rfl (lv_at hl 0 rfl) ?_
    refine lv_iconst (v := (nI 2)) hx hb d_M_outsOf_11 (by decide) ?_
    refine lv_icmp_eq (tgt := 21) hx hb d_M_outsOf_12 (by decide) (fun c_12 => by first | exact absurd c_12 (by decide) | exact (c_12 (by decide)).elim) (fun c_12 => ?_)
    refine lv_iload_n hx hb d_M_outsOf_15 rfl (lv_at hl 0 rfl) ?_
    refine lv_bipush (v := (nI 8)) hx hb d_M_outsOf_16 (by decide) ?_
    refine lv_icmp_ne (tgt := 25) hx hb d_M_outsOf_18 (by decide) (fun c_18 => by first | exact absurd c_18 (by decide) | exact (c_18 (by decide)).elim) (fun c_18 => ?_)
    refine lv_iconst (v := (nI 2)) hx hb d_M_outsOf_21 (by decide) ?_
    refine lv_goto (tgt := 26) hx hb d_M_outsOf_22 (by decide) ?_
    exact ye_i hI () (by decide) hw d_M_outsOf_26
set_option maxHeartbeats 4000000 in
set_option maxRecDepth 100000 in
theorem c_M_hasValue (l : Launch) (D : va_G) (cc : ClassId × ClassId × ClassId) (ad : yl → Nat) (X : va_W) (b0 sz : Nat) (μ : ms) (y i j : Nat) (hy : y < 2) (hn : i < m_n μ) (hi : mI μ y) (hj : j < 2) : Met l y_M_hasValue w_M_hasValue ({ frames := 0, cells := 0, slots := 0, locals := 0 }) (yPr D cc b0 [.ref (ad (20, 0, 0)), .int (nI y), .int (nI i), .int (nI j)] (mW cc ad X μ) sz) (yQi D (mW cc ad X μ) sz (yb (yp_hd (m_T μ) (m_D μ y) i j).isSome) (mW cc ad X μ)) 0 0 (va_A (mW cc ad X μ) sz) := by
  have hn10 := hi.1
  have hc16 := hi.2.1
  refine y_ofW (cc := b_M_hasValue) (maxL := 5) (ret := (some .boolean)) (by decide) rfl (Nat.le_of_ble_eq_true rfl) ?_
  intro pv ev sv mv bv tv cv ls hI hsz hw hl
  obtain ⟨hx, hb, hr, hml, hts, hown, hlocks, hnm, hK, hAb, hb0, hA⟩ := id hI
  have ht : ∀ w ∈ lg_tbl, w.before _ sv = true := fun w h => hts w (List.mem_cons_of_mem _ h)
  have hl : lv_has ls 5 [(0, .ref (ad (20, 0, 0))), (1, .int (nI y)), (2, .int (nI i)), (3, .int (nI j))] := hl
  cases e : m_ic μ i j with
  | none =>
    refine lv_aload_n hx hb d_M_hasValue_0 rfl (lv_at hl 0 rfl) ?_
    refine yr_get (C := R_M) (T := F_M) (N := 16) (ci := k_M) hx hb ht j_M hown hK.1 hw mL_o (by rfl) rfl 8 (by decide) (ht _ mf_M_28) (fun _ h9 => h9) (by rfl) d_M_hasValue_1 ?_
    refine lv_iconst (v := (nI 2)) hx hb d_M_hasValue_4 (by decide) ?_
    refine lv_iload_n hx hb d_M_hasValue_5 rfl (lv_at hl 2 rfl) ?_
    refine lv_imul hx hb d_M_hasValue_6 ?_
    rw [pk_mul]
    refine lv_iload_n hx hb d_M_hasValue_7 rfl (lv_at hl 3 rfl) ?_
    refine lv_iadd hx hb d_M_hasValue_8 ?_
    rw [nI_add]
    refine yr_iald (v := (-1)) hx hb hK.1 hw mL_6 (by rfl) 0 rfl (vp_in_nI (N := 20) (by omega) (by omega)) (by rw [nI_clamp (by omega)]; show oI (m_ic μ ((2 * i + j) / 2) ((2 * i + j) % 2)) = _; rw [at_flat (f := m_ic μ) hj, e]; rfl) d_M_hasValue_9 ?_
    refine lv_istore (lv' := [(4, .int _), (0, .ref _), (1, .int _), (2, .int _), (3, .int _)]) hx hb d_M_hasValue_10 hl (by decide) rfl (fun ls hl => ?_)
    refine lv_iload hx hb d_M_hasValue_12 (lv_at hl 0 rfl) ?_
    refine lv_if_lt (tgt := 36) hx hb d_M_hasValue_14 (by decide) (fun c_14 => ?_) (fun c_14 => by exact absurd (by decide) c_14)
    refine lv_iconst (v := (nI 0)) hx hb d_M_hasValue_36 (by decide) ?_
    exact ye_z hI (by decide) () (by rw [mh_none e]; rfl) hw d_M_hasValue_37
  | some c =>
    have hc := hi.2.2.2.2.2.2.1 i j c e
    obtain ⟨b1, b2, b3⟩ := hi.2.2.2.2.2.1 c hc.2.2
    refine lv_aload_n hx hb d_M_hasValue_0 rfl (lv_at hl 0 rfl) ?_
    refine yr_get (C := R_M) (T := F_M) (N := 16) (ci := k_M) hx hb ht j_M hown hK.1 hw mL_o (by rfl) rfl 8 (by decide) (ht _ mf_M_28) (fun _ h9 => h9) (by rfl) d_M_hasValue_1 ?_
    refine lv_iconst (v := (nI 2)) hx hb d_M_hasValue_4 (by decide) ?_
    refine lv_iload_n hx hb d_M_hasValue_5 rfl (lv_at hl 2 rfl) ?_
    refine lv_imul hx hb d_M_hasValue_6 ?_
    rw [pk_mul]
    refine lv_iload_n hx hb d_M_hasValue_7 rfl (lv_at hl 3 rfl) ?_
    refine lv_iadd hx hb d_M_hasValue_8 ?_
    rw [nI_add]
    refine yr_iald (v := nI c) hx hb hK.1 hw mL_6 (by rfl) 0 rfl (vp_in_nI (N := 20) (by omega) (by omega)) (by rw [nI_clamp (by omega)]; show oI (m_ic μ ((2 * i + j) / 2) ((2 * i + j) % 2)) = _; rw [at_flat (f := m_ic μ) hj, e]; rfl) d_M_hasValue_9 ?_
    refine lv_istore (lv' := [(4, .int _), (0, .ref _), (1, .int _), (2, .int _), (3, .int _)]) hx hb d_M_hasValue_10 hl (by decide) rfl (fun ls hl => ?_)
    refine lv_iload hx hb d_M_hasValue_12 (lv_at hl 0 rfl) ?_
    refine lv_if_lt (tgt := 36) hx hb d_M_hasValue_14 (by decide) (fun c_14 => by exact absurd c_14 (nI_pos (by omega))) (fun c_14 => ?_)
    refine lv_aload_n hx hb d_M_hasValue_17 rfl (lv_at hl 1 rfl) ?_
    refine yr_get (C := R_M) (T := F_M) (N := 16) (ci := k_M) hx hb ht j_M hown hK.1 hw mL_o (by rfl) rfl 14 (by decide) (ht _ mf_M_46) (fun _ h9 => h9) (by rfl) d_M_hasValue_18 ?_
    refine lv_bipush (v := (nI 16)) hx hb d_M_hasValue_21 (by decide) ?_
    refine lv_iload_n hx hb d_M_hasValue_23 rfl (lv_at hl 2 rfl) ?_
    refine lv_imul hx hb d_M_hasValue_24 ?_
    rw [pk_mul]
    refine lv_iload hx hb d_M_hasValue_25 (lv_at hl 0 rfl) ?_
    refine lv_iadd hx hb d_M_hasValue_27 ?_
    rw [nI_add]
    refine yr_iald (v := nI (m_ct μ y c)) hx hb hK.1 hw mL_12 (by rfl) 0 rfl (vp_in_nI (N := 32) (by omega) (by omega)) (by rw [nI_clamp (by omega)]; exact congrArg nI (at_flat (f := m_ct μ) (show c < 16 by omega))) d_M_hasValue_28 ?_
    refine lv_if_le (tgt := 36) hx hb d_M_hasValue_29 (by decide) (fun c_29 => ?_) (fun c_29 => ?_)
    · have e1 : ¬ 0 < m_ct μ y c := fun h => absurd c_29 (nI_nle h (by omega))
      refine lv_iconst (v := (nI 0)) hx hb d_M_hasValue_36 (by decide) ?_
      exact ye_z hI (by decide) () (by first | (rw [mh_some1 e e1]; rfl) | (rw [mh_some0 e e1]; rfl)) hw d_M_hasValue_37
    · have e1 : 0 < m_ct μ y c := by
        rcases Nat.eq_zero_or_pos (m_ct μ y c) with h | h
        · exact absurd (by rw [h]; decide) c_29
        · exact h
      refine lv_iconst (v := (nI 1)) hx hb d_M_hasValue_32 (by decide) ?_
      refine lv_goto (tgt := 37) hx hb d_M_hasValue_33 (by decide) ?_
      exact ye_z hI (by decide) () (by first | (rw [mh_some1 e e1]; rfl) | (rw [mh_some0 e e1]; rfl)) hw d_M_hasValue_37
set_option maxHeartbeats 4000000 in
set_option maxRecDepth 100000 in
theorem c_M_hasRoom (l : Launch) (D : va_G) (cc : ClassId × ClassId × ClassId) (ad : yl → Nat) (X : va_W) (b0 sz : Nat) (μ : ms) (y i j : Nat) (hy : y < 2) (hn : i < m_n μ) (hi : mI μ y) (hj : j < 2) : Met l y_M_hasRoom w_M_hasRoom ({ frames := 0, cells := 0, slots := 0, locals := 0 }) (yPr D cc b0 [.ref (ad (20, 0, 0)), .int (nI y), .int (nI i), .int (nI j)] (mW cc ad X μ) sz) (yQi D (mW cc ad X μ) sz (yb (yp_roomb (m_T μ) (m_D μ y) i j)) (mW cc ad X μ)) 0 0 (va_A (mW cc ad X μ) sz) := by
  have hn10 := hi.1
  have hc16 := hi.2.1
  refine y_ofW (cc := b_M_hasRoom) (maxL := 5) (ret := (some .boolean)) (by decide) rfl (Nat.le_of_ble_eq_true rfl) ?_
  intro pv ev sv mv bv tv cv ls hI hsz hw hl
  obtain ⟨hx, hb, hr, hml, hts, hown, hlocks, hnm, hK, hAb, hb0, hA⟩ := id hI
  have ht : ∀ w ∈ lg_tbl, w.before _ sv = true := fun w h => hts w (List.mem_cons_of_mem _ h)
  have hl : lv_has ls 5 [(0, .ref (ad (20, 0, 0))), (1, .int (nI y)), (2, .int (nI i)), (3, .int (nI j))] := hl
  cases e : m_oc μ i j with
  | none =>
    refine lv_aload_n hx hb d_M_hasRoom_0 rfl (lv_at hl 0 rfl) ?_
    refine yr_get (C := R_M) (T := F_M) (N := 16) (ci := k_M) hx hb ht j_M hown hK.1 hw mL_o (by rfl) rfl 9 (by decide) (ht _ mf_M_31) (fun _ h9 => h9) (by rfl) d_M_hasRoom_1 ?_
    refine lv_iconst (v := (nI 2)) hx hb d_M_hasRoom_4 (by decide) ?_
    refine lv_iload_n hx hb d_M_hasRoom_5 rfl (lv_at hl 2 rfl) ?_
    refine lv_imul hx hb d_M_hasRoom_6 ?_
    rw [pk_mul]
    refine lv_iload_n hx hb d_M_hasRoom_7 rfl (lv_at hl 3 rfl) ?_
    refine lv_iadd hx hb d_M_hasRoom_8 ?_
    rw [nI_add]
    refine yr_iald (v := (-1)) hx hb hK.1 hw mL_7 (by rfl) 0 rfl (vp_in_nI (N := 20) (by omega) (by omega)) (by rw [nI_clamp (by omega)]; show oI (m_oc μ ((2 * i + j) / 2) ((2 * i + j) % 2)) = _; rw [at_flat (f := m_oc μ) hj, e]; rfl) d_M_hasRoom_9 ?_
    refine lv_istore (lv' := [(4, .int _), (0, .ref _), (1, .int _), (2, .int _), (3, .int _)]) hx hb d_M_hasRoom_10 hl (by decide) rfl (fun ls hl => ?_)
    refine lv_iload hx hb d_M_hasRoom_12 (lv_at hl 0 rfl) ?_
    refine lv_if_lt (tgt := 39) hx hb d_M_hasRoom_14 (by decide) (fun c_14 => ?_) (fun c_14 => by exact absurd (by decide) c_14)
    refine lv_iconst (v := (nI 1)) hx hb d_M_hasRoom_39 (by decide) ?_
    refine lv_goto (tgt := 44) hx hb d_M_hasRoom_40 (by decide) ?_
    exact ye_z hI (by decide) () (by rw [mr_none e]; rfl) hw d_M_hasRoom_44
  | some c =>
    have hc := hi.2.2.2.2.2.2.2.1 i j c e
    obtain ⟨b1, b2, b3⟩ := hi.2.2.2.2.2.1 c hc.2.2
    refine lv_aload_n hx hb d_M_hasRoom_0 rfl (lv_at hl 0 rfl) ?_
    refine yr_get (C := R_M) (T := F_M) (N := 16) (ci := k_M) hx hb ht j_M hown hK.1 hw mL_o (by rfl) rfl 9 (by decide) (ht _ mf_M_31) (fun _ h9 => h9) (by rfl) d_M_hasRoom_1 ?_
    refine lv_iconst (v := (nI 2)) hx hb d_M_hasRoom_4 (by decide) ?_
    refine lv_iload_n hx hb d_M_hasRoom_5 rfl (lv_at hl 2 rfl) ?_
    refine lv_imul hx hb d_M_hasRoom_6 ?_
    rw [pk_mul]
    refine lv_iload_n hx hb d_M_hasRoom_7 rfl (lv_at hl 3 rfl) ?_
    refine lv_iadd hx hb d_M_hasRoom_8 ?_
    rw [nI_add]
    refine yr_iald (v := nI c) hx hb hK.1 hw mL_7 (by rfl) 0 rfl (vp_in_nI (N := 20) (by omega) (by omega)) (by rw [nI_clamp (by omega)]; show oI (m_oc μ ((2 * i + j) / 2) ((2 * i + j) % 2)) = _; rw [at_flat (f := m_oc μ) hj, e]; rfl) d_M_hasRoom_9 ?_
    refine lv_istore (lv' := [(4, .int _), (0, .ref _), (1, .int _), (2, .int _), (3, .int _)]) hx hb d_M_hasRoom_10 hl (by decide) rfl (fun ls hl => ?_)
    refine lv_iload hx hb d_M_hasRoom_12 (lv_at hl 0 rfl) ?_
    refine lv_if_lt (tgt := 39) hx hb d_M_hasRoom_14 (by decide) (fun c_14 => by exact absurd c_14 (nI_pos (by omega))) (fun c_14 => ?_)
    refine lv_aload_n hx hb d_M_hasRoom_17 rfl (lv_at hl 1 rfl) ?_
    refine yr_get (C := R_M) (T := F_M) (N := 16) (ci := k_M) hx hb ht j_M hown hK.1 hw mL_o (by rfl) rfl 14 (by decide) (ht _ mf_M_46) (fun _ h9 => h9) (by rfl) d_M_hasRoom_18 ?_
    refine lv_bipush (v := (nI 16)) hx hb d_M_hasRoom_21 (by decide) ?_
    refine lv_iload_n hx hb d_M_hasRoom_23 rfl (lv_at hl 2 rfl) ?_
    refine lv_imul hx hb d_M_hasRoom_24 ?_
    rw [pk_mul]
    refine lv_iload hx hb d_M_hasRoom_25 (lv_at hl 0 rfl) ?_
    refine lv_iadd hx hb d_M_hasRoom_27 ?_
    rw [nI_add]
    refine yr_iald (v := nI (m_ct μ y c)) hx hb hK.1 hw mL_12 (by rfl) 0 rfl (vp_in_nI (N := 32) (by omega) (by omega)) (by rw [nI_clamp (by omega)]; exact congrArg nI (at_flat (f := m_ct μ) (show c < 16 by omega))) d_M_hasRoom_28 ?_
    refine lv_aload_n hx hb d_M_hasRoom_29 rfl (lv_at hl 1 rfl) ?_
    refine yr_get (C := R_M) (T := F_M) (N := 16) (ci := k_M) hx hb ht j_M hown hK.1 hw mL_o (by rfl) rfl 7 (by decide) (ht _ mf_M_25) (fun _ h9 => h9) (by rfl) d_M_hasRoom_30 ?_
    refine lv_iload hx hb d_M_hasRoom_33 (lv_at hl 0 rfl) ?_
    refine yr_iald (v := nI (m_rm μ c)) hx hb hK.1 hw mL_5 (by rfl) 0 rfl (vp_in_nI (N := 16) (by omega) (by omega)) (by rw [nI_clamp (by omega)]; rfl) d_M_hasRoom_35 ?_
    refine lv_icmp_ge (tgt := 43) hx hb d_M_hasRoom_36 (by decide) (fun c_36 => ?_) (fun c_36 => ?_)
    · have e1 : ¬ m_ct μ y c < m_rm μ c := by
        have := (nI_leI (by omega) (by omega)).mp c_36
        omega
      refine lv_iconst (v := (nI 0)) hx hb d_M_hasRoom_43 (by decide) ?_
      exact ye_z hI (by decide) () (by rw [mr_some e hc.2.2]; first | rfl | (rw [decide_eq_true (by omega)]; rfl) | (rw [decide_eq_false (by omega)]; rfl)) hw d_M_hasRoom_44
    · have e1 : m_ct μ y c < m_rm μ c := by
        rcases Nat.lt_or_ge (m_ct μ y c) (m_rm μ c) with h | h
        · exact h
        · exact absurd ((nI_leI (by omega) (by omega)).mpr h) c_36
      refine lv_iconst (v := (nI 1)) hx hb d_M_hasRoom_39 (by decide) ?_
      refine lv_goto (tgt := 44) hx hb d_M_hasRoom_40 (by decide) ?_
      exact ye_z hI (by decide) () (by rw [mr_some e hc.2.2]; first | rfl | (rw [decide_eq_true (by omega)]; rfl) | (rw [decide_eq_false (by omega)]; rfl)) hw d_M_hasRoom_44
set_option maxHeartbeats 4000000 in
set_option maxRecDepth 100000 in
theorem c_M_look (l : Launch) (D : va_G) (cc : ClassId × ClassId × ClassId) (ad : yl → Nat) (X : va_W) (b0 sz : Nat) (μ : ms) (y i j : Nat) (hy : y < 2) (hn : i < m_n μ) (hi : mI μ y) (hj : j < 2) (c : Nat) (e : m_ic μ i j = some c) : Met l y_M_look w_M_look ({ frames := 0, cells := 0, slots := 0, locals := 0 }) (yPr D cc b0 [.ref (ad (20, 0, 0)), .int (nI y), .int (nI i), .int (nI j)] (mW cc ad X μ) sz) (yQi D (mW cc ad X μ) sz (m_vs μ (128 * y + 8 * c)) (mW cc ad X μ)) 0 0 (va_A (mW cc ad X μ) sz) := by
  have hn10 := hi.1
  have hc16 := hi.2.1
  have hc := hi.2.2.2.2.2.2.1 i j c e
  refine y_ofW (cc := b_M_look) (maxL := 4) (ret := (some .int)) (by decide) rfl (Nat.le_of_ble_eq_true rfl) ?_
  intro pv ev sv mv bv tv cv ls hI hsz hw hl
  obtain ⟨hx, hb, hr, hml, hts, hown, hlocks, hnm, hK, hAb, hb0, hA⟩ := id hI
  have ht : ∀ w ∈ lg_tbl, w.before _ sv = true := fun w h => hts w (List.mem_cons_of_mem _ h)
  have hl : lv_has ls 4 [(0, .ref (ad (20, 0, 0))), (1, .int (nI y)), (2, .int (nI i)), (3, .int (nI j))] := hl
  refine lv_aload_n hx hb d_M_look_0 rfl (lv_at hl 0 rfl) ?_
  refine yr_get (C := R_M) (T := F_M) (N := 16) (ci := k_M) hx hb ht j_M hown hK.1 hw mL_o (by rfl) rfl 15 (by decide) (ht _ mf_M_49) (fun _ h9 => h9) (by rfl) d_M_look_1 ?_
  refine lv_sipush (v := (nI 128)) hx hb d_M_look_4 (by decide) ?_
  refine lv_iload_n hx hb d_M_look_7 rfl (lv_at hl 1 rfl) ?_
  refine lv_imul hx hb d_M_look_8 ?_
  rw [pk_mul]
  refine lv_bipush (v := (nI 8)) hx hb d_M_look_9 (by decide) ?_
  refine lv_aload_n hx hb d_M_look_11 rfl (lv_at hl 0 rfl) ?_
  refine yr_get (C := R_M) (T := F_M) (N := 16) (ci := k_M) hx hb ht j_M hown hK.1 hw mL_o (by rfl) rfl 8 (by decide) (ht _ mf_M_28) (fun _ h9 => h9) (by rfl) d_M_look_12 ?_
  refine lv_iconst (v := (nI 2)) hx hb d_M_look_15 (by decide) ?_
  refine lv_iload_n hx hb d_M_look_16 rfl (lv_at hl 2 rfl) ?_
  refine lv_imul hx hb d_M_look_17 ?_
  rw [pk_mul]
  refine lv_iload_n hx hb d_M_look_18 rfl (lv_at hl 3 rfl) ?_
  refine lv_iadd hx hb d_M_look_19 ?_
  rw [nI_add]
  refine yr_iald (v := nI c) hx hb hK.1 hw mL_6 (by rfl) 0 rfl (vp_in_nI (N := 20) (by omega) (by omega)) (by rw [nI_clamp (by omega)]; show oI (m_ic μ ((2 * i + j) / 2) ((2 * i + j) % 2)) = _; rw [at_flat (f := m_ic μ) hj, e]; rfl) d_M_look_20 ?_
  refine lv_imul hx hb d_M_look_21 ?_
  rw [pk_mul]
  refine lv_iadd hx hb d_M_look_22 ?_
  rw [nI_add]
  refine yr_iald (v := m_vs μ (128 * y + 8 * c)) hx hb hK.1 hw mL_13 (by rfl) 0 rfl (vp_in_nI (N := 256) (by omega) (by omega)) (by rw [nI_clamp (by omega)]; rfl) d_M_look_23 ?_
  exact ye_i hI () rfl hw d_M_look_24
