/-! THE REFERENCE: canAct -/
theorem nI_one : nI 1 = 1 := by decide
theorem mtm {μ : ms} {y i : Nat} : (m_D μ y).1 i = m_ac μ y i := rfl
theorem msr_len {μ : ms} {i : Nat} : (yp_sr (m_T μ) i).length = m_tc μ i := by
  show ((List.range (m_tc μ i)).map _).length = _
  rw [List.length_map, List.length_range]
theorem mh_inv {μ : ms} {y i j : Nat} (h : (yp_hd (m_T μ) (m_D μ y) i j).isSome = true) : ∃ c, m_ic μ i j = some c ∧ 0 < m_ct μ y c := by
  cases e : m_ic μ i j with
  | none => rw [mh_none e] at h; cases h
  | some c =>
    refine ⟨c, rfl, ?_⟩
    rcases Nat.eq_zero_or_pos (m_ct μ y c) with h0 | h0
    · rw [mh_some0 e (by omega)] at h; cases h
    · exact h0
set_option maxHeartbeats 4000000 in
set_option maxRecDepth 100000 in
theorem c_M_canAct (l : Launch) (D : va_G) (cc : ClassId × ClassId × ClassId) (ad : yl → Nat) (X : va_W) (b0 sz : Nat) (μ : ms) (y i : Nat) (hy : y < 2) (hn : i < m_n μ) (hi : mI μ y) : Met l y_M_canAct w_M_canAct ({ frames := 1, cells := 0, slots := 0, locals := 24 }) (yPr D cc b0 [.ref (ad (20, 0, 0)), .int (nI y), .int (nI i)] (mW cc ad X μ) sz) (yQi D (mW cc ad X μ) sz (yb (yp_canb (m_T μ) (m_D μ y) i)) (mW cc ad X μ)) 0 0 (va_A (mW cc ad X μ) sz) := by
  have hn10 := hi.1
  have hc16 := hi.2.1
  obtain ⟨a1, a2, a3, a4, a5, a6, a7⟩ := hi.2.2.2.2.1 i
  refine y_ofW (cc := b_M_canAct) (maxL := 4) (ret := (some .boolean)) (by decide) rfl (Nat.le_of_ble_eq_true rfl) ?_
  intro pv ev sv mv bv tv cv ls hI hsz hw hl
  obtain ⟨hx, hb, hr, hml, hts, hown, hlocks, hnm, hK, hAb, hb0, hA⟩ := id hI
  have ht : ∀ w ∈ lg_tbl, w.before _ sv = true := fun w h => hts w (List.mem_cons_of_mem _ h)
  have hl : lv_has ls 4 [(0, .ref (ad (20, 0, 0))), (1, .int (nI y)), (2, .int (nI i))] := hl
  by_cases h100 : m_ac μ y i = 100
  · refine lv_bipush (v := (nI 10)) hx hb d_M_canAct_0 (by decide) ?_
    refine lv_iload_n hx hb d_M_canAct_2 rfl (lv_at hl 1 rfl) ?_
    refine lv_imul hx hb d_M_canAct_3 ?_
    rw [pk_mul]
    refine lv_iload_n hx hb d_M_canAct_4 rfl (lv_at hl 2 rfl) ?_
    refine lv_iadd hx hb d_M_canAct_5 ?_
    rw [nI_add]
    refine lv_istore_n (lv' := [(3, .int _), (0, .ref _), (1, .int _), (2, .int _)]) hx hb d_M_canAct_6 rfl hl (by decide) rfl (fun ls hl => ?_)
    refine lv_aload_n hx hb d_M_canAct_7 rfl (lv_at hl 1 rfl) ?_
    refine yr_get (C := R_M) (T := F_M) (N := 16) (ci := k_M) hx hb ht j_M hown hK.1 hw mL_o (by rfl) rfl 10 (by decide) (ht _ mf_M_34) (fun _ h9 => h9) (by rfl) d_M_canAct_8 ?_
    refine lv_iload_n hx hb d_M_canAct_11 rfl (lv_at hl 0 rfl) ?_
    refine yr_iald (v := nI (m_ac μ y i)) hx hb hK.1 hw mL_8 (by rfl) 0 rfl (vp_in_nI (N := 20) (by omega) (by omega)) (by rw [nI_clamp (by omega)]; show nI (m_ac μ ((10 * y + i) / 10) ((10 * y + i) % 10)) = _; rw [at_flat (f := m_ac μ) (show i < 10 by omega)]) d_M_canAct_12 ?_
    refine lv_bipush (v := (nI 100)) hx hb d_M_canAct_13 (by decide) ?_
    refine lv_icmp_ne (tgt := 20) hx hb d_M_canAct_15 (by decide) (fun c_15 => by exact absurd (by rw [h100]) c_15) (fun c_15 => ?_)
    refine lv_iconst (v := (nI 0)) hx hb d_M_canAct_18 (by decide) ?_
    exact ye_z hI (by decide) () (by rw [yp_can100 (T := m_T μ) (by show 100 ≤ m_ac μ y i; omega)]; rfl) hw d_M_canAct_19
  · have h101 : ¬ 100 ≤ (m_D μ y).1 i := by show ¬ 100 ≤ m_ac μ y i; omega
    have hks : m_kd μ i = 0 ∨ m_kd μ i = 1 ∨ m_kd μ i = 2 ∨ m_kd μ i = 3 ∨ m_kd μ i = 4 ∨ m_kd μ i = 5 ∨ m_kd μ i = 6 ∨ m_kd μ i = 7 ∨ m_kd μ i = 8 := by omega
    rcases hks with hk | hk | hk | hk | hk | hk | hk | hk | hk
    · refine lv_bipush (v := (nI 10)) hx hb d_M_canAct_0 (by decide) ?_
      refine lv_iload_n hx hb d_M_canAct_2 rfl (lv_at hl 1 rfl) ?_
      refine lv_imul hx hb d_M_canAct_3 ?_
      rw [pk_mul]
      refine lv_iload_n hx hb d_M_canAct_4 rfl (lv_at hl 2 rfl) ?_
      refine lv_iadd hx hb d_M_canAct_5 ?_
      rw [nI_add]
      refine lv_istore_n (lv' := [(3, .int _), (0, .ref _), (1, .int _), (2, .int _)]) hx hb d_M_canAct_6 rfl hl (by decide) rfl (fun ls hl => ?_)
      refine lv_aload_n hx hb d_M_canAct_7 rfl (lv_at hl 1 rfl) ?_
      refine yr_get (C := R_M) (T := F_M) (N := 16) (ci := k_M) hx hb ht j_M hown hK.1 hw mL_o (by rfl) rfl 10 (by decide) (ht _ mf_M_34) (fun _ h9 => h9) (by rfl) d_M_canAct_8 ?_
      refine lv_iload_n hx hb d_M_canAct_11 rfl (lv_at hl 0 rfl) ?_
      refine yr_iald (v := nI (m_ac μ y i)) hx hb hK.1 hw mL_8 (by rfl) 0 rfl (vp_in_nI (N := 20) (by omega) (by omega)) (by rw [nI_clamp (by omega)]; show nI (m_ac μ ((10 * y + i) / 10) ((10 * y + i) % 10)) = _; rw [at_flat (f := m_ac μ) (show i < 10 by omega)]) d_M_canAct_12 ?_
      refine lv_bipush (v := (nI 100)) hx hb d_M_canAct_13 (by decide) ?_
      refine lv_icmp_ne (tgt := 20) hx hb d_M_canAct_15 (by decide) (fun c_15 => ?_) (fun c_15 => by exact absurd ((nI_eq (by omega) (by omega)).mp c_15) h100)
      refine lv_aload_n hx hb d_M_canAct_20 rfl (lv_at hl 1 rfl) ?_
      refine yr_get (C := R_M) (T := F_M) (N := 16) (ci := k_M) hx hb ht j_M hown hK.1 hw mL_o (by rfl) rfl 1 (by decide) (ht _ mf_M_7) (fun _ h9 => h9) (by rfl) d_M_canAct_21 ?_
      refine lv_iload_n hx hb d_M_canAct_24 rfl (lv_at hl 3 rfl) ?_
      refine yr_iald (v := nI (m_kd μ i)) hx hb hK.1 hw mL_0 (by rfl) 0 rfl (vp_in_nI (N := 10) (by omega) (by omega)) (by rw [nI_clamp (by omega)]; rfl) d_M_canAct_25 ?_
      rw [hk]
      refine lv_tableIn (off := 46) (tgt := 72) hx hb d_M_canAct_26 (by decide +kernel) (by decide +kernel) (by decide +kernel) (by decide) ?_
      refine lv_aload_n hx hb d_M_canAct_72 rfl (lv_at hl 1 rfl) ?_
      refine yr_get (C := R_M) (T := F_M) (N := 16) (ci := k_M) hx hb ht j_M hown hK.1 hw mL_o (by rfl) rfl 10 (by decide) (ht _ mf_M_34) (fun _ h9 => h9) (by rfl) d_M_canAct_73 ?_
      refine lv_iload_n hx hb d_M_canAct_76 rfl (lv_at hl 0 rfl) ?_
      refine yr_iald (v := nI (m_ac μ y i)) hx hb hK.1 hw mL_8 (by rfl) 0 rfl (vp_in_nI (N := 20) (by omega) (by omega)) (by rw [nI_clamp (by omega)]; show nI (m_ac μ ((10 * y + i) / 10) ((10 * y + i) % 10)) = _; rw [at_flat (f := m_ac μ) (show i < 10 by omega)]) d_M_canAct_77 ?_
      refine lv_aload_n hx hb d_M_canAct_78 rfl (lv_at hl 1 rfl) ?_
      refine yr_get (C := R_M) (T := F_M) (N := 16) (ci := k_M) hx hb ht j_M hown hK.1 hw mL_o (by rfl) rfl 4 (by decide) (ht _ mf_M_19) (fun _ h9 => h9) (by rfl) d_M_canAct_79 ?_
      refine lv_iload_n hx hb d_M_canAct_82 rfl (lv_at hl 3 rfl) ?_
      refine yr_iald (v := nI (m_tc μ i)) hx hb hK.1 hw mL_3 (by rfl) 0 rfl (vp_in_nI (N := 10) (by omega) (by omega)) (by rw [nI_clamp (by omega)]; rfl) d_M_canAct_83 ?_
      refine lv_icmp_ge (tgt := 101) hx hb d_M_canAct_84 (by decide) (fun c_84 => ?_) (fun c_84 => ?_)
      · have e_84 : ¬ m_ac μ y i < m_tc μ i := by
          have := (nI_leI (by omega) (by omega)).mp c_84
          omega
        refine lv_iconst (v := (nI 0)) hx hb d_M_canAct_101 (by decide) ?_
        exact ye_z hI (by decide) () (by rw [yp_can0 (T := m_T μ) h101 hk]; simp [yb, mtm, msr_len, nI_0, nI_one, e_84]) hw d_M_canAct_102
      · have e_84 : m_ac μ y i < m_tc μ i := by
          rcases Nat.lt_or_ge (m_ac μ y i) (m_tc μ i) with h | h
          · exact h
          · exact absurd ((nI_leI (by omega) (by omega)).mpr h) c_84
        refine lv_aload_n hx hb d_M_canAct_87 rfl (lv_at hl 1 rfl) ?_
        refine lv_iload_n hx hb d_M_canAct_88 rfl (lv_at hl 2 rfl) ?_
        refine lv_iload_n hx hb d_M_canAct_89 rfl (lv_at hl 3 rfl) ?_
        refine lv_iconst (v := (nI 0)) hx hb d_M_canAct_90 (by decide) ?_
        refine yc_i (va_runV (As := [.int _, .int _, .int _]) (rest := []) ⟨hx, hb, hml, hown, hts⟩ (c_M_hasRoom l D cc ad X b0 _ μ y i 0 hy hn hi (by omega)) (cwV 3 hts (yg_call mc_M_hasRoom ml_M_70 mm_M_hasRoom ms_M_hasRoom mi_M) rfl rfl rfl (by decide +kernel) ⟨Nat.le_of_ble_eq_true rfl, Nat.le_of_ble_eq_true rfl⟩) (y_preV hI hw (y_recv hK.1 hw mL_o (by rfl) rfl)) rfl rfl hl.1 rfl (lv_room (Nat.le_of_ble_eq_true rfl)) d_M_canAct_91 ⟨Nat.le_of_ble_eq_true rfl, Nat.le_of_ble_eq_true rfl⟩) hw hA (fun r u H locs he hw => ?_)
        subst he
        refine lv_if_eq (tgt := 101) hx hb d_M_canAct_94 (by decide) (fun c_94 => ?_) (fun c_94 => ?_)
        · have e_94 := yb_0 c_94
          refine lv_iconst (v := (nI 0)) hx hb d_M_canAct_101 (by decide) ?_
          exact ye_z hI (by decide) () (by rw [yp_can0 (T := m_T μ) h101 hk]; simp [yb, mtm, msr_len, nI_0, nI_one, e_84, e_94]) hw d_M_canAct_102
        · have e_94 := yb_1 c_94
          refine lv_iconst (v := (nI 1)) hx hb d_M_canAct_97 (by decide) ?_
          refine lv_goto (tgt := 102) hx hb d_M_canAct_98 (by decide) ?_
          exact ye_z hI (by decide) () (by rw [yp_can0 (T := m_T μ) h101 hk]; simp [yb, mtm, msr_len, nI_0, nI_one, e_84, e_94]) hw d_M_canAct_102
    · refine lv_bipush (v := (nI 10)) hx hb d_M_canAct_0 (by decide) ?_
      refine lv_iload_n hx hb d_M_canAct_2 rfl (lv_at hl 1 rfl) ?_
      refine lv_imul hx hb d_M_canAct_3 ?_
      rw [pk_mul]
      refine lv_iload_n hx hb d_M_canAct_4 rfl (lv_at hl 2 rfl) ?_
      refine lv_iadd hx hb d_M_canAct_5 ?_
      rw [nI_add]
      refine lv_istore_n (lv' := [(3, .int _), (0, .ref _), (1, .int _), (2, .int _)]) hx hb d_M_canAct_6 rfl hl (by decide) rfl (fun ls hl => ?_)
      refine lv_aload_n hx hb d_M_canAct_7 rfl (lv_at hl 1 rfl) ?_
      refine yr_get (C := R_M) (T := F_M) (N := 16) (ci := k_M) hx hb ht j_M hown hK.1 hw mL_o (by rfl) rfl 10 (by decide) (ht _ mf_M_34) (fun _ h9 => h9) (by rfl) d_M_canAct_8 ?_
      refine lv_iload_n hx hb d_M_canAct_11 rfl (lv_at hl 0 rfl) ?_
      refine yr_iald (v := nI (m_ac μ y i)) hx hb hK.1 hw mL_8 (by rfl) 0 rfl (vp_in_nI (N := 20) (by omega) (by omega)) (by rw [nI_clamp (by omega)]; show nI (m_ac μ ((10 * y + i) / 10) ((10 * y + i) % 10)) = _; rw [at_flat (f := m_ac μ) (show i < 10 by omega)]) d_M_canAct_12 ?_
      refine lv_bipush (v := (nI 100)) hx hb d_M_canAct_13 (by decide) ?_
      refine lv_icmp_ne (tgt := 20) hx hb d_M_canAct_15 (by decide) (fun c_15 => ?_) (fun c_15 => by exact absurd ((nI_eq (by omega) (by omega)).mp c_15) h100)
      refine lv_aload_n hx hb d_M_canAct_20 rfl (lv_at hl 1 rfl) ?_
      refine yr_get (C := R_M) (T := F_M) (N := 16) (ci := k_M) hx hb ht j_M hown hK.1 hw mL_o (by rfl) rfl 1 (by decide) (ht _ mf_M_7) (fun _ h9 => h9) (by rfl) d_M_canAct_21 ?_
      refine lv_iload_n hx hb d_M_canAct_24 rfl (lv_at hl 3 rfl) ?_
      refine yr_iald (v := nI (m_kd μ i)) hx hb hK.1 hw mL_0 (by rfl) 0 rfl (vp_in_nI (N := 10) (by omega) (by omega)) (by rw [nI_clamp (by omega)]; rfl) d_M_canAct_25 ?_
      rw [hk]
      refine lv_tableIn (off := 77) (tgt := 103) hx hb d_M_canAct_26 (by decide +kernel) (by decide +kernel) (by decide +kernel) (by decide) ?_
      refine lv_aload_n hx hb d_M_canAct_103 rfl (lv_at hl 1 rfl) ?_
      refine lv_iload_n hx hb d_M_canAct_104 rfl (lv_at hl 2 rfl) ?_
      refine lv_iload_n hx hb d_M_canAct_105 rfl (lv_at hl 3 rfl) ?_
      refine lv_iconst (v := (nI 0)) hx hb d_M_canAct_106 (by decide) ?_
      refine yc_i (va_runV (As := [.int _, .int _, .int _]) (rest := []) ⟨hx, hb, hml, hown, hts⟩ (c_M_hasValue l D cc ad X b0 _ μ y i 0 hy hn hi (by omega)) (cwV 3 hts (yg_call mc_M_hasValue ml_M_74 mm_M_hasValue ms_M_hasValue mi_M) rfl rfl rfl (by decide +kernel) ⟨Nat.le_of_ble_eq_true rfl, Nat.le_of_ble_eq_true rfl⟩) (y_preV hI hw (y_recv hK.1 hw mL_o (by rfl) rfl)) rfl rfl hl.1 rfl (lv_room (Nat.le_of_ble_eq_true rfl)) d_M_canAct_107 ⟨Nat.le_of_ble_eq_true rfl, Nat.le_of_ble_eq_true rfl⟩) hw hA (fun r u H locs he hw => ?_)
      subst he
      refine lv_if_eq (tgt := 127) hx hb d_M_canAct_110 (by decide) (fun c_110 => ?_) (fun c_110 => ?_)
      · have e_110 := yb_0 c_110
        refine lv_iconst (v := (nI 0)) hx hb d_M_canAct_127 (by decide) ?_
        exact ye_z hI (by decide) () (by rw [yp_can1 (T := m_T μ) h101 hk]; simp [yb, mtm, msr_len, nI_0, nI_one, e_110]) hw d_M_canAct_128
      · have e_110 := yb_1 c_110
        refine lv_aload_n hx hb d_M_canAct_113 rfl (lv_at hl 1 rfl) ?_
        refine lv_iload_n hx hb d_M_canAct_114 rfl (lv_at hl 2 rfl) ?_
        refine lv_iload_n hx hb d_M_canAct_115 rfl (lv_at hl 3 rfl) ?_
        refine lv_iconst (v := (nI 0)) hx hb d_M_canAct_116 (by decide) ?_
        refine yc_i (va_runV (As := [.int _, .int _, .int _]) (rest := []) ⟨hx, hb, hml, hown, hts⟩ (c_M_hasRoom l D cc ad X b0 _ μ y i 0 hy hn hi (by omega)) (cwV 3 hts (yg_call mc_M_hasRoom ml_M_70 mm_M_hasRoom ms_M_hasRoom mi_M) rfl rfl rfl (by decide +kernel) ⟨Nat.le_of_ble_eq_true rfl, Nat.le_of_ble_eq_true rfl⟩) (y_preV hI hw (y_recv hK.1 hw mL_o (by rfl) rfl)) rfl rfl hl.1 rfl (lv_room (Nat.le_of_ble_eq_true rfl)) d_M_canAct_117 ⟨Nat.le_of_ble_eq_true rfl, Nat.le_of_ble_eq_true rfl⟩) hw hA (fun r u H locs he hw => ?_)
        subst he
        refine lv_if_eq (tgt := 127) hx hb d_M_canAct_120 (by decide) (fun c_120 => ?_) (fun c_120 => ?_)
        · have e_120 := yb_0 c_120
          refine lv_iconst (v := (nI 0)) hx hb d_M_canAct_127 (by decide) ?_
          exact ye_z hI (by decide) () (by rw [yp_can1 (T := m_T μ) h101 hk]; simp [yb, mtm, msr_len, nI_0, nI_one, e_110, e_120]) hw d_M_canAct_128
        · have e_120 := yb_1 c_120
          refine lv_iconst (v := (nI 1)) hx hb d_M_canAct_123 (by decide) ?_
          refine lv_goto (tgt := 128) hx hb d_M_canAct_124 (by decide) ?_
          exact ye_z hI (by decide) () (by rw [yp_can1 (T := m_T μ) h101 hk]; simp [yb, mtm, msr_len, nI_0, nI_one, e_110, e_120]) hw d_M_canAct_128
    · have htn : m_tn μ y i = m_ac μ y i % 2 := by rw [a7, if_pos (Or.inl hk)]
      refine lv_bipush (v := (nI 10)) hx hb d_M_canAct_0 (by decide) ?_
      refine lv_iload_n hx hb d_M_canAct_2 rfl (lv_at hl 1 rfl) ?_
      refine lv_imul hx hb d_M_canAct_3 ?_
      rw [pk_mul]
      refine lv_iload_n hx hb d_M_canAct_4 rfl (lv_at hl 2 rfl) ?_
      refine lv_iadd hx hb d_M_canAct_5 ?_
      rw [nI_add]
      refine lv_istore_n (lv' := [(3, .int _), (0, .ref _), (1, .int _), (2, .int _)]) hx hb d_M_canAct_6 rfl hl (by decide) rfl (fun ls hl => ?_)
      refine lv_aload_n hx hb d_M_canAct_7 rfl (lv_at hl 1 rfl) ?_
      refine yr_get (C := R_M) (T := F_M) (N := 16) (ci := k_M) hx hb ht j_M hown hK.1 hw mL_o (by rfl) rfl 10 (by decide) (ht _ mf_M_34) (fun _ h9 => h9) (by rfl) d_M_canAct_8 ?_
      refine lv_iload_n hx hb d_M_canAct_11 rfl (lv_at hl 0 rfl) ?_
      refine yr_iald (v := nI (m_ac μ y i)) hx hb hK.1 hw mL_8 (by rfl) 0 rfl (vp_in_nI (N := 20) (by omega) (by omega)) (by rw [nI_clamp (by omega)]; show nI (m_ac μ ((10 * y + i) / 10) ((10 * y + i) % 10)) = _; rw [at_flat (f := m_ac μ) (show i < 10 by omega)]) d_M_canAct_12 ?_
      refine lv_bipush (v := (nI 100)) hx hb d_M_canAct_13 (by decide) ?_
      refine lv_icmp_ne (tgt := 20) hx hb d_M_canAct_15 (by decide) (fun c_15 => ?_) (fun c_15 => by exact absurd ((nI_eq (by omega) (by omega)).mp c_15) h100)
      refine lv_aload_n hx hb d_M_canAct_20 rfl (lv_at hl 1 rfl) ?_
      refine yr_get (C := R_M) (T := F_M) (N := 16) (ci := k_M) hx hb ht j_M hown hK.1 hw mL_o (by rfl) rfl 1 (by decide) (ht _ mf_M_7) (fun _ h9 => h9) (by rfl) d_M_canAct_21 ?_
      refine lv_iload_n hx hb d_M_canAct_24 rfl (lv_at hl 3 rfl) ?_
      refine yr_iald (v := nI (m_kd μ i)) hx hb hK.1 hw mL_0 (by rfl) 0 rfl (vp_in_nI (N := 10) (by omega) (by omega)) (by rw [nI_clamp (by omega)]; rfl) d_M_canAct_25 ?_
      rw [hk]
      refine lv_tableIn (off := 103) (tgt := 129) hx hb d_M_canAct_26 (by decide +kernel) (by decide +kernel) (by decide +kernel) (by decide) ?_
      refine lv_aload_n hx hb d_M_canAct_129 rfl (lv_at hl 1 rfl) ?_
      refine lv_iload_n hx hb d_M_canAct_130 rfl (lv_at hl 2 rfl) ?_
      refine lv_iload_n hx hb d_M_canAct_131 rfl (lv_at hl 3 rfl) ?_
      refine lv_iconst (v := (nI 0)) hx hb d_M_canAct_132 (by decide) ?_
      refine yc_i (va_runV (As := [.int _, .int _, .int _]) (rest := []) ⟨hx, hb, hml, hown, hts⟩ (c_M_hasValue l D cc ad X b0 _ μ y i 0 hy hn hi (by omega)) (cwV 3 hts (yg_call mc_M_hasValue ml_M_74 mm_M_hasValue ms_M_hasValue mi_M) rfl rfl rfl (by decide +kernel) ⟨Nat.le_of_ble_eq_true rfl, Nat.le_of_ble_eq_true rfl⟩) (y_preV hI hw (y_recv hK.1 hw mL_o (by rfl) rfl)) rfl rfl hl.1 rfl (lv_room (Nat.le_of_ble_eq_true rfl)) d_M_canAct_133 ⟨Nat.le_of_ble_eq_true rfl, Nat.le_of_ble_eq_true rfl⟩) hw hA (fun r u H locs he hw => ?_)
      subst he
      refine lv_if_eq (tgt := 158) hx hb d_M_canAct_136 (by decide) (fun c_136 => ?_) (fun c_136 => ?_)
      · have e_136 := yb_0 c_136
        refine lv_iconst (v := (nI 0)) hx hb d_M_canAct_158 (by decide) ?_
        exact ye_z hI (by decide) () (by rw [yp_can2 (T := m_T μ) h101 hk]; simp [yb, mtm, msr_len, nI_0, nI_one, e_136]) hw d_M_canAct_159
      · have e_136 := yb_1 c_136
        refine lv_aload_n hx hb d_M_canAct_139 rfl (lv_at hl 1 rfl) ?_
        refine lv_iload_n hx hb d_M_canAct_140 rfl (lv_at hl 2 rfl) ?_
        refine lv_iload_n hx hb d_M_canAct_141 rfl (lv_at hl 3 rfl) ?_
        refine lv_aload_n hx hb d_M_canAct_142 rfl (lv_at hl 1 rfl) ?_
        refine yr_get (C := R_M) (T := F_M) (N := 16) (ci := k_M) hx hb ht j_M hown hK.1 hw mL_o (by rfl) rfl 11 (by decide) (ht _ mf_M_37) (fun _ h9 => h9) (by rfl) d_M_canAct_143 ?_
        refine lv_iload_n hx hb d_M_canAct_146 rfl (lv_at hl 0 rfl) ?_
        refine yr_iald (v := nI (m_ac μ y i % 2)) hx hb hK.1 hw mL_9 (by rfl) 0 rfl (vp_in_nI (N := 20) (by omega) (by omega)) (by rw [nI_clamp (by omega)]; show nI (m_tn μ ((10 * y + i) / 10) ((10 * y + i) % 10)) = _; rw [at_flat (f := m_tn μ) (show i < 10 by omega), htn]) d_M_canAct_147 ?_
        refine yc_i (va_runV (As := [.int _, .int _, .int _]) (rest := []) ⟨hx, hb, hml, hown, hts⟩ (c_M_hasRoom l D cc ad X b0 _ μ y i (m_ac μ y i % 2) hy hn hi (Nat.mod_lt _ (by omega))) (cwV 3 hts (yg_call mc_M_hasRoom ml_M_70 mm_M_hasRoom ms_M_hasRoom mi_M) rfl rfl rfl (by decide +kernel) ⟨Nat.le_of_ble_eq_true rfl, Nat.le_of_ble_eq_true rfl⟩) (y_preV hI hw (y_recv hK.1 hw mL_o (by rfl) rfl)) rfl rfl hl.1 rfl (lv_room (Nat.le_of_ble_eq_true rfl)) d_M_canAct_148 ⟨Nat.le_of_ble_eq_true rfl, Nat.le_of_ble_eq_true rfl⟩) hw hA (fun r u H locs he hw => ?_)
        subst he
        refine lv_if_eq (tgt := 158) hx hb d_M_canAct_151 (by decide) (fun c_151 => ?_) (fun c_151 => ?_)
        · have e_151 := yb_0 c_151
          refine lv_iconst (v := (nI 0)) hx hb d_M_canAct_158 (by decide) ?_
          exact ye_z hI (by decide) () (by rw [yp_can2 (T := m_T μ) h101 hk]; simp [yb, mtm, msr_len, nI_0, nI_one, e_136, e_151]) hw d_M_canAct_159
        · have e_151 := yb_1 c_151
          refine lv_iconst (v := (nI 1)) hx hb d_M_canAct_154 (by decide) ?_
          refine lv_goto (tgt := 159) hx hb d_M_canAct_155 (by decide) ?_
          exact ye_z hI (by decide) () (by rw [yp_can2 (T := m_T μ) h101 hk]; simp [yb, mtm, msr_len, nI_0, nI_one, e_136, e_151]) hw d_M_canAct_159
    · have htn : m_tn μ y i = m_ac μ y i % 2 := by rw [a7, if_pos (Or.inr hk)]
      refine lv_bipush (v := (nI 10)) hx hb d_M_canAct_0 (by decide) ?_
      refine lv_iload_n hx hb d_M_canAct_2 rfl (lv_at hl 1 rfl) ?_
      refine lv_imul hx hb d_M_canAct_3 ?_
      rw [pk_mul]
      refine lv_iload_n hx hb d_M_canAct_4 rfl (lv_at hl 2 rfl) ?_
      refine lv_iadd hx hb d_M_canAct_5 ?_
      rw [nI_add]
      refine lv_istore_n (lv' := [(3, .int _), (0, .ref _), (1, .int _), (2, .int _)]) hx hb d_M_canAct_6 rfl hl (by decide) rfl (fun ls hl => ?_)
      refine lv_aload_n hx hb d_M_canAct_7 rfl (lv_at hl 1 rfl) ?_
      refine yr_get (C := R_M) (T := F_M) (N := 16) (ci := k_M) hx hb ht j_M hown hK.1 hw mL_o (by rfl) rfl 10 (by decide) (ht _ mf_M_34) (fun _ h9 => h9) (by rfl) d_M_canAct_8 ?_
      refine lv_iload_n hx hb d_M_canAct_11 rfl (lv_at hl 0 rfl) ?_
      refine yr_iald (v := nI (m_ac μ y i)) hx hb hK.1 hw mL_8 (by rfl) 0 rfl (vp_in_nI (N := 20) (by omega) (by omega)) (by rw [nI_clamp (by omega)]; show nI (m_ac μ ((10 * y + i) / 10) ((10 * y + i) % 10)) = _; rw [at_flat (f := m_ac μ) (show i < 10 by omega)]) d_M_canAct_12 ?_
      refine lv_bipush (v := (nI 100)) hx hb d_M_canAct_13 (by decide) ?_
      refine lv_icmp_ne (tgt := 20) hx hb d_M_canAct_15 (by decide) (fun c_15 => ?_) (fun c_15 => by exact absurd ((nI_eq (by omega) (by omega)).mp c_15) h100)
      refine lv_aload_n hx hb d_M_canAct_20 rfl (lv_at hl 1 rfl) ?_
      refine yr_get (C := R_M) (T := F_M) (N := 16) (ci := k_M) hx hb ht j_M hown hK.1 hw mL_o (by rfl) rfl 1 (by decide) (ht _ mf_M_7) (fun _ h9 => h9) (by rfl) d_M_canAct_21 ?_
      refine lv_iload_n hx hb d_M_canAct_24 rfl (lv_at hl 3 rfl) ?_
      refine yr_iald (v := nI (m_kd μ i)) hx hb hK.1 hw mL_0 (by rfl) 0 rfl (vp_in_nI (N := 10) (by omega) (by omega)) (by rw [nI_clamp (by omega)]; rfl) d_M_canAct_25 ?_
      rw [hk]
      refine lv_tableIn (off := 134) (tgt := 160) hx hb d_M_canAct_26 (by decide +kernel) (by decide +kernel) (by decide +kernel) (by decide) ?_
      refine lv_aload_n hx hb d_M_canAct_160 rfl (lv_at hl 1 rfl) ?_
      refine lv_iload_n hx hb d_M_canAct_161 rfl (lv_at hl 2 rfl) ?_
      refine lv_iload_n hx hb d_M_canAct_162 rfl (lv_at hl 3 rfl) ?_
      refine lv_aload_n hx hb d_M_canAct_163 rfl (lv_at hl 1 rfl) ?_
      refine yr_get (C := R_M) (T := F_M) (N := 16) (ci := k_M) hx hb ht j_M hown hK.1 hw mL_o (by rfl) rfl 11 (by decide) (ht _ mf_M_37) (fun _ h9 => h9) (by rfl) d_M_canAct_164 ?_
      refine lv_iload_n hx hb d_M_canAct_167 rfl (lv_at hl 0 rfl) ?_
      refine yr_iald (v := nI (m_ac μ y i % 2)) hx hb hK.1 hw mL_9 (by rfl) 0 rfl (vp_in_nI (N := 20) (by omega) (by omega)) (by rw [nI_clamp (by omega)]; show nI (m_tn μ ((10 * y + i) / 10) ((10 * y + i) % 10)) = _; rw [at_flat (f := m_tn μ) (show i < 10 by omega), htn]) d_M_canAct_168 ?_
      refine yc_i (va_runV (As := [.int _, .int _, .int _]) (rest := []) ⟨hx, hb, hml, hown, hts⟩ (c_M_hasValue l D cc ad X b0 _ μ y i (m_ac μ y i % 2) hy hn hi (Nat.mod_lt _ (by omega))) (cwV 3 hts (yg_call mc_M_hasValue ml_M_74 mm_M_hasValue ms_M_hasValue mi_M) rfl rfl rfl (by decide +kernel) ⟨Nat.le_of_ble_eq_true rfl, Nat.le_of_ble_eq_true rfl⟩) (y_preV hI hw (y_recv hK.1 hw mL_o (by rfl) rfl)) rfl rfl hl.1 rfl (lv_room (Nat.le_of_ble_eq_true rfl)) d_M_canAct_169 ⟨Nat.le_of_ble_eq_true rfl, Nat.le_of_ble_eq_true rfl⟩) hw hA (fun r u H locs he hw => ?_)
      subst he
      refine lv_if_eq (tgt := 189) hx hb d_M_canAct_172 (by decide) (fun c_172 => ?_) (fun c_172 => ?_)
      · have e_172 := yb_0 c_172
        refine lv_iconst (v := (nI 0)) hx hb d_M_canAct_189 (by decide) ?_
        exact ye_z hI (by decide) () (by rw [yp_can3 (T := m_T μ) h101 hk]; simp [yb, mtm, msr_len, nI_0, nI_one, e_172]) hw d_M_canAct_190
      · have e_172 := yb_1 c_172
        refine lv_aload_n hx hb d_M_canAct_175 rfl (lv_at hl 1 rfl) ?_
        refine lv_iload_n hx hb d_M_canAct_176 rfl (lv_at hl 2 rfl) ?_
        refine lv_iload_n hx hb d_M_canAct_177 rfl (lv_at hl 3 rfl) ?_
        refine lv_iconst (v := (nI 0)) hx hb d_M_canAct_178 (by decide) ?_
        refine yc_i (va_runV (As := [.int _, .int _, .int _]) (rest := []) ⟨hx, hb, hml, hown, hts⟩ (c_M_hasRoom l D cc ad X b0 _ μ y i 0 hy hn hi (by omega)) (cwV 3 hts (yg_call mc_M_hasRoom ml_M_70 mm_M_hasRoom ms_M_hasRoom mi_M) rfl rfl rfl (by decide +kernel) ⟨Nat.le_of_ble_eq_true rfl, Nat.le_of_ble_eq_true rfl⟩) (y_preV hI hw (y_recv hK.1 hw mL_o (by rfl) rfl)) rfl rfl hl.1 rfl (lv_room (Nat.le_of_ble_eq_true rfl)) d_M_canAct_179 ⟨Nat.le_of_ble_eq_true rfl, Nat.le_of_ble_eq_true rfl⟩) hw hA (fun r u H locs he hw => ?_)
        subst he
        refine lv_if_eq (tgt := 189) hx hb d_M_canAct_182 (by decide) (fun c_182 => ?_) (fun c_182 => ?_)
        · have e_182 := yb_0 c_182
          refine lv_iconst (v := (nI 0)) hx hb d_M_canAct_189 (by decide) ?_
          exact ye_z hI (by decide) () (by rw [yp_can3 (T := m_T μ) h101 hk]; simp [yb, mtm, msr_len, nI_0, nI_one, e_172, e_182]) hw d_M_canAct_190
        · have e_182 := yb_1 c_182
          refine lv_iconst (v := (nI 1)) hx hb d_M_canAct_185 (by decide) ?_
          refine lv_goto (tgt := 190) hx hb d_M_canAct_186 (by decide) ?_
          exact ye_z hI (by decide) () (by rw [yp_can3 (T := m_T μ) h101 hk]; simp [yb, mtm, msr_len, nI_0, nI_one, e_172, e_182]) hw d_M_canAct_190
    · refine lv_bipush (v := (nI 10)) hx hb d_M_canAct_0 (by decide) ?_
      refine lv_iload_n hx hb d_M_canAct_2 rfl (lv_at hl 1 rfl) ?_
      refine lv_imul hx hb d_M_canAct_3 ?_
      rw [pk_mul]
      refine lv_iload_n hx hb d_M_canAct_4 rfl (lv_at hl 2 rfl) ?_
      refine lv_iadd hx hb d_M_canAct_5 ?_
      rw [nI_add]
      refine lv_istore_n (lv' := [(3, .int _), (0, .ref _), (1, .int _), (2, .int _)]) hx hb d_M_canAct_6 rfl hl (by decide) rfl (fun ls hl => ?_)
      refine lv_aload_n hx hb d_M_canAct_7 rfl (lv_at hl 1 rfl) ?_
      refine yr_get (C := R_M) (T := F_M) (N := 16) (ci := k_M) hx hb ht j_M hown hK.1 hw mL_o (by rfl) rfl 10 (by decide) (ht _ mf_M_34) (fun _ h9 => h9) (by rfl) d_M_canAct_8 ?_
      refine lv_iload_n hx hb d_M_canAct_11 rfl (lv_at hl 0 rfl) ?_
      refine yr_iald (v := nI (m_ac μ y i)) hx hb hK.1 hw mL_8 (by rfl) 0 rfl (vp_in_nI (N := 20) (by omega) (by omega)) (by rw [nI_clamp (by omega)]; show nI (m_ac μ ((10 * y + i) / 10) ((10 * y + i) % 10)) = _; rw [at_flat (f := m_ac μ) (show i < 10 by omega)]) d_M_canAct_12 ?_
      refine lv_bipush (v := (nI 100)) hx hb d_M_canAct_13 (by decide) ?_
      refine lv_icmp_ne (tgt := 20) hx hb d_M_canAct_15 (by decide) (fun c_15 => ?_) (fun c_15 => by exact absurd ((nI_eq (by omega) (by omega)).mp c_15) h100)
      refine lv_aload_n hx hb d_M_canAct_20 rfl (lv_at hl 1 rfl) ?_
      refine yr_get (C := R_M) (T := F_M) (N := 16) (ci := k_M) hx hb ht j_M hown hK.1 hw mL_o (by rfl) rfl 1 (by decide) (ht _ mf_M_7) (fun _ h9 => h9) (by rfl) d_M_canAct_21 ?_
      refine lv_iload_n hx hb d_M_canAct_24 rfl (lv_at hl 3 rfl) ?_
      refine yr_iald (v := nI (m_kd μ i)) hx hb hK.1 hw mL_0 (by rfl) 0 rfl (vp_in_nI (N := 10) (by omega) (by omega)) (by rw [nI_clamp (by omega)]; rfl) d_M_canAct_25 ?_
      rw [hk]
      refine lv_tableIn (off := 165) (tgt := 191) hx hb d_M_canAct_26 (by decide +kernel) (by decide +kernel) (by decide +kernel) (by decide) ?_
      refine lv_aload_n hx hb d_M_canAct_191 rfl (lv_at hl 1 rfl) ?_
      refine lv_iload_n hx hb d_M_canAct_192 rfl (lv_at hl 2 rfl) ?_
      refine lv_iload_n hx hb d_M_canAct_193 rfl (lv_at hl 3 rfl) ?_
      refine lv_iconst (v := (nI 0)) hx hb d_M_canAct_194 (by decide) ?_
      refine yc_i (va_runV (As := [.int _, .int _, .int _]) (rest := []) ⟨hx, hb, hml, hown, hts⟩ (c_M_hasValue l D cc ad X b0 _ μ y i 0 hy hn hi (by omega)) (cwV 3 hts (yg_call mc_M_hasValue ml_M_74 mm_M_hasValue ms_M_hasValue mi_M) rfl rfl rfl (by decide +kernel) ⟨Nat.le_of_ble_eq_true rfl, Nat.le_of_ble_eq_true rfl⟩) (y_preV hI hw (y_recv hK.1 hw mL_o (by rfl) rfl)) rfl rfl hl.1 rfl (lv_room (Nat.le_of_ble_eq_true rfl)) d_M_canAct_195 ⟨Nat.le_of_ble_eq_true rfl, Nat.le_of_ble_eq_true rfl⟩) hw hA (fun r u H locs he hw => ?_)
      subst he
      refine lv_if_eq (tgt := 225) hx hb d_M_canAct_198 (by decide) (fun c_198 => ?_) (fun c_198 => ?_)
      · have e_198 := yb_0 c_198
        refine lv_iconst (v := (nI 0)) hx hb d_M_canAct_225 (by decide) ?_
        exact ye_z hI (by decide) () (by rw [yp_can4 (T := m_T μ) h101 hk]; simp [yb, mtm, msr_len, nI_0, nI_one, e_198]) hw d_M_canAct_226
      · have e_198 := yb_1 c_198
        refine lv_aload_n hx hb d_M_canAct_201 rfl (lv_at hl 1 rfl) ?_
        refine lv_iload_n hx hb d_M_canAct_202 rfl (lv_at hl 2 rfl) ?_
        refine lv_iload_n hx hb d_M_canAct_203 rfl (lv_at hl 3 rfl) ?_
        refine lv_iconst (v := (nI 1)) hx hb d_M_canAct_204 (by decide) ?_
        refine yc_i (va_runV (As := [.int _, .int _, .int _]) (rest := []) ⟨hx, hb, hml, hown, hts⟩ (c_M_hasValue l D cc ad X b0 _ μ y i 1 hy hn hi (by omega)) (cwV 3 hts (yg_call mc_M_hasValue ml_M_74 mm_M_hasValue ms_M_hasValue mi_M) rfl rfl rfl (by decide +kernel) ⟨Nat.le_of_ble_eq_true rfl, Nat.le_of_ble_eq_true rfl⟩) (y_preV hI hw (y_recv hK.1 hw mL_o (by rfl) rfl)) rfl rfl hl.1 rfl (lv_room (Nat.le_of_ble_eq_true rfl)) d_M_canAct_205 ⟨Nat.le_of_ble_eq_true rfl, Nat.le_of_ble_eq_true rfl⟩) hw hA (fun r u H locs he hw => ?_)
        subst he
        refine lv_if_eq (tgt := 225) hx hb d_M_canAct_208 (by decide) (fun c_208 => ?_) (fun c_208 => ?_)
        · have e_208 := yb_0 c_208
          refine lv_iconst (v := (nI 0)) hx hb d_M_canAct_225 (by decide) ?_
          exact ye_z hI (by decide) () (by rw [yp_can4 (T := m_T μ) h101 hk]; simp [yb, mtm, msr_len, nI_0, nI_one, e_198, e_208]) hw d_M_canAct_226
        · have e_208 := yb_1 c_208
          refine lv_aload_n hx hb d_M_canAct_211 rfl (lv_at hl 1 rfl) ?_
          refine lv_iload_n hx hb d_M_canAct_212 rfl (lv_at hl 2 rfl) ?_
          refine lv_iload_n hx hb d_M_canAct_213 rfl (lv_at hl 3 rfl) ?_
          refine lv_iconst (v := (nI 0)) hx hb d_M_canAct_214 (by decide) ?_
          refine yc_i (va_runV (As := [.int _, .int _, .int _]) (rest := []) ⟨hx, hb, hml, hown, hts⟩ (c_M_hasRoom l D cc ad X b0 _ μ y i 0 hy hn hi (by omega)) (cwV 3 hts (yg_call mc_M_hasRoom ml_M_70 mm_M_hasRoom ms_M_hasRoom mi_M) rfl rfl rfl (by decide +kernel) ⟨Nat.le_of_ble_eq_true rfl, Nat.le_of_ble_eq_true rfl⟩) (y_preV hI hw (y_recv hK.1 hw mL_o (by rfl) rfl)) rfl rfl hl.1 rfl (lv_room (Nat.le_of_ble_eq_true rfl)) d_M_canAct_215 ⟨Nat.le_of_ble_eq_true rfl, Nat.le_of_ble_eq_true rfl⟩) hw hA (fun r u H locs he hw => ?_)
          subst he
          refine lv_if_eq (tgt := 225) hx hb d_M_canAct_218 (by decide) (fun c_218 => ?_) (fun c_218 => ?_)
          · have e_218 := yb_0 c_218
            refine lv_iconst (v := (nI 0)) hx hb d_M_canAct_225 (by decide) ?_
            exact ye_z hI (by decide) () (by rw [yp_can4 (T := m_T μ) h101 hk]; simp [yb, mtm, msr_len, nI_0, nI_one, e_198, e_208, e_218]) hw d_M_canAct_226
          · have e_218 := yb_1 c_218
            refine lv_iconst (v := (nI 1)) hx hb d_M_canAct_221 (by decide) ?_
            refine lv_goto (tgt := 226) hx hb d_M_canAct_222 (by decide) ?_
            exact ye_z hI (by decide) () (by rw [yp_can4 (T := m_T μ) h101 hk]; simp [yb, mtm, msr_len, nI_0, nI_one, e_198, e_208, e_218]) hw d_M_canAct_226
    · refine lv_bipush (v := (nI 10)) hx hb d_M_canAct_0 (by decide) ?_
      refine lv_iload_n hx hb d_M_canAct_2 rfl (lv_at hl 1 rfl) ?_
      refine lv_imul hx hb d_M_canAct_3 ?_
      rw [pk_mul]
      refine lv_iload_n hx hb d_M_canAct_4 rfl (lv_at hl 2 rfl) ?_
      refine lv_iadd hx hb d_M_canAct_5 ?_
      rw [nI_add]
      refine lv_istore_n (lv' := [(3, .int _), (0, .ref _), (1, .int _), (2, .int _)]) hx hb d_M_canAct_6 rfl hl (by decide) rfl (fun ls hl => ?_)
      refine lv_aload_n hx hb d_M_canAct_7 rfl (lv_at hl 1 rfl) ?_
      refine yr_get (C := R_M) (T := F_M) (N := 16) (ci := k_M) hx hb ht j_M hown hK.1 hw mL_o (by rfl) rfl 10 (by decide) (ht _ mf_M_34) (fun _ h9 => h9) (by rfl) d_M_canAct_8 ?_
      refine lv_iload_n hx hb d_M_canAct_11 rfl (lv_at hl 0 rfl) ?_
      refine yr_iald (v := nI (m_ac μ y i)) hx hb hK.1 hw mL_8 (by rfl) 0 rfl (vp_in_nI (N := 20) (by omega) (by omega)) (by rw [nI_clamp (by omega)]; show nI (m_ac μ ((10 * y + i) / 10) ((10 * y + i) % 10)) = _; rw [at_flat (f := m_ac μ) (show i < 10 by omega)]) d_M_canAct_12 ?_
      refine lv_bipush (v := (nI 100)) hx hb d_M_canAct_13 (by decide) ?_
      refine lv_icmp_ne (tgt := 20) hx hb d_M_canAct_15 (by decide) (fun c_15 => ?_) (fun c_15 => by exact absurd ((nI_eq (by omega) (by omega)).mp c_15) h100)
      refine lv_aload_n hx hb d_M_canAct_20 rfl (lv_at hl 1 rfl) ?_
      refine yr_get (C := R_M) (T := F_M) (N := 16) (ci := k_M) hx hb ht j_M hown hK.1 hw mL_o (by rfl) rfl 1 (by decide) (ht _ mf_M_7) (fun _ h9 => h9) (by rfl) d_M_canAct_21 ?_
      refine lv_iload_n hx hb d_M_canAct_24 rfl (lv_at hl 3 rfl) ?_
      refine yr_iald (v := nI (m_kd μ i)) hx hb hK.1 hw mL_0 (by rfl) 0 rfl (vp_in_nI (N := 10) (by omega) (by omega)) (by rw [nI_clamp (by omega)]; rfl) d_M_canAct_25 ?_
      rw [hk]
      refine lv_tableIn (off := 201) (tgt := 227) hx hb d_M_canAct_26 (by decide +kernel) (by decide +kernel) (by decide +kernel) (by decide) ?_
      refine lv_aload_n hx hb d_M_canAct_227 rfl (lv_at hl 1 rfl) ?_
      refine yr_get (C := R_M) (T := F_M) (N := 16) (ci := k_M) hx hb ht j_M hown hK.1 hw mL_o (by rfl) rfl 10 (by decide) (ht _ mf_M_34) (fun _ h9 => h9) (by rfl) d_M_canAct_228 ?_
      refine lv_iload_n hx hb d_M_canAct_231 rfl (lv_at hl 0 rfl) ?_
      refine yr_iald (v := nI (m_ac μ y i)) hx hb hK.1 hw mL_8 (by rfl) 0 rfl (vp_in_nI (N := 20) (by omega) (by omega)) (by rw [nI_clamp (by omega)]; show nI (m_ac μ ((10 * y + i) / 10) ((10 * y + i) % 10)) = _; rw [at_flat (f := m_ac μ) (show i < 10 by omega)]) d_M_canAct_232 ?_
      refine lv_if_eq (tgt := 246) hx hb d_M_canAct_233 (by decide) (fun c_233 => ?_) (fun c_233 => ?_)
      · have e_233 : m_ac μ y i = 0 := by
          rw [← nI_0] at c_233
          exact (nI_eq (by omega) (by omega)).mp c_233
        refine lv_aload_n hx hb d_M_canAct_246 rfl (lv_at hl 1 rfl) ?_
        refine lv_iload_n hx hb d_M_canAct_247 rfl (lv_at hl 2 rfl) ?_
        refine lv_iload_n hx hb d_M_canAct_248 rfl (lv_at hl 3 rfl) ?_
        refine lv_iconst (v := (nI 0)) hx hb d_M_canAct_249 (by decide) ?_
        refine yc_i (va_runV (As := [.int _, .int _, .int _]) (rest := []) ⟨hx, hb, hml, hown, hts⟩ (c_M_hasRoom l D cc ad X b0 _ μ y i 0 hy hn hi (by omega)) (cwV 3 hts (yg_call mc_M_hasRoom ml_M_70 mm_M_hasRoom ms_M_hasRoom mi_M) rfl rfl rfl (by decide +kernel) ⟨Nat.le_of_ble_eq_true rfl, Nat.le_of_ble_eq_true rfl⟩) (y_preV hI hw (y_recv hK.1 hw mL_o (by rfl) rfl)) rfl rfl hl.1 rfl (lv_room (Nat.le_of_ble_eq_true rfl)) d_M_canAct_250 ⟨Nat.le_of_ble_eq_true rfl, Nat.le_of_ble_eq_true rfl⟩) hw hA (fun r u H locs he hw => ?_)
        subst he
        refine lv_if_eq (tgt := 260) hx hb d_M_canAct_253 (by decide) (fun c_253 => ?_) (fun c_253 => ?_)
        · have e_253 := yb_0 c_253
          refine lv_iconst (v := (nI 0)) hx hb d_M_canAct_260 (by decide) ?_
          exact ye_z hI (by decide) () (by rw [yp_can5 (T := m_T μ) h101 hk]; simp [yb, mtm, msr_len, nI_0, nI_one, e_233, e_253]) hw d_M_canAct_261
        · have e_253 := yb_1 c_253
          refine lv_iconst (v := (nI 1)) hx hb d_M_canAct_256 (by decide) ?_
          refine lv_goto (tgt := 261) hx hb d_M_canAct_257 (by decide) ?_
          exact ye_z hI (by decide) () (by rw [yp_can5 (T := m_T μ) h101 hk]; simp [yb, mtm, msr_len, nI_0, nI_one, e_233, e_253]) hw d_M_canAct_261
      · have e_233 : ¬ m_ac μ y i = 0 := fun h => c_233 (by rw [h]; rfl)
        refine lv_aload_n hx hb d_M_canAct_236 rfl (lv_at hl 1 rfl) ?_
        refine lv_iload_n hx hb d_M_canAct_237 rfl (lv_at hl 2 rfl) ?_
        refine lv_iload_n hx hb d_M_canAct_238 rfl (lv_at hl 3 rfl) ?_
        refine lv_iconst (v := (nI 0)) hx hb d_M_canAct_239 (by decide) ?_
        refine yc_i (va_runV (As := [.int _, .int _, .int _]) (rest := []) ⟨hx, hb, hml, hown, hts⟩ (c_M_hasValue l D cc ad X b0 _ μ y i 0 hy hn hi (by omega)) (cwV 3 hts (yg_call mc_M_hasValue ml_M_74 mm_M_hasValue ms_M_hasValue mi_M) rfl rfl rfl (by decide +kernel) ⟨Nat.le_of_ble_eq_true rfl, Nat.le_of_ble_eq_true rfl⟩) (y_preV hI hw (y_recv hK.1 hw mL_o (by rfl) rfl)) rfl rfl hl.1 rfl (lv_room (Nat.le_of_ble_eq_true rfl)) d_M_canAct_240 ⟨Nat.le_of_ble_eq_true rfl, Nat.le_of_ble_eq_true rfl⟩) hw hA (fun r u H locs he hw => ?_)
        subst he
        refine lv_if_eq (tgt := 260) hx hb d_M_canAct_243 (by decide) (fun c_243 => ?_) (fun c_243 => ?_)
        · have e_243 := yb_0 c_243
          refine lv_iconst (v := (nI 0)) hx hb d_M_canAct_260 (by decide) ?_
          exact ye_z hI (by decide) () (by rw [yp_can5 (T := m_T μ) h101 hk]; simp [yb, mtm, msr_len, nI_0, nI_one, e_233, e_243]) hw d_M_canAct_261
        · have e_243 := yb_1 c_243
          refine lv_aload_n hx hb d_M_canAct_246 rfl (lv_at hl 1 rfl) ?_
          refine lv_iload_n hx hb d_M_canAct_247 rfl (lv_at hl 2 rfl) ?_
          refine lv_iload_n hx hb d_M_canAct_248 rfl (lv_at hl 3 rfl) ?_
          refine lv_iconst (v := (nI 0)) hx hb d_M_canAct_249 (by decide) ?_
          refine yc_i (va_runV (As := [.int _, .int _, .int _]) (rest := []) ⟨hx, hb, hml, hown, hts⟩ (c_M_hasRoom l D cc ad X b0 _ μ y i 0 hy hn hi (by omega)) (cwV 3 hts (yg_call mc_M_hasRoom ml_M_70 mm_M_hasRoom ms_M_hasRoom mi_M) rfl rfl rfl (by decide +kernel) ⟨Nat.le_of_ble_eq_true rfl, Nat.le_of_ble_eq_true rfl⟩) (y_preV hI hw (y_recv hK.1 hw mL_o (by rfl) rfl)) rfl rfl hl.1 rfl (lv_room (Nat.le_of_ble_eq_true rfl)) d_M_canAct_250 ⟨Nat.le_of_ble_eq_true rfl, Nat.le_of_ble_eq_true rfl⟩) hw hA (fun r u H locs he hw => ?_)
          subst he
          refine lv_if_eq (tgt := 260) hx hb d_M_canAct_253 (by decide) (fun c_253 => ?_) (fun c_253 => ?_)
          · have e_253 := yb_0 c_253
            refine lv_iconst (v := (nI 0)) hx hb d_M_canAct_260 (by decide) ?_
            exact ye_z hI (by decide) () (by rw [yp_can5 (T := m_T μ) h101 hk]; simp [yb, mtm, msr_len, nI_0, nI_one, e_233, e_243, e_253]) hw d_M_canAct_261
          · have e_253 := yb_1 c_253
            refine lv_iconst (v := (nI 1)) hx hb d_M_canAct_256 (by decide) ?_
            refine lv_goto (tgt := 261) hx hb d_M_canAct_257 (by decide) ?_
            exact ye_z hI (by decide) () (by rw [yp_can5 (T := m_T μ) h101 hk]; simp [yb, mtm, msr_len, nI_0, nI_one, e_233, e_243, e_253]) hw d_M_canAct_261
    · have hkc : m_kc μ y i = m_ac μ y i := by rw [a6, if_pos hk]
      refine lv_bipush (v := (nI 10)) hx hb d_M_canAct_0 (by decide) ?_
      refine lv_iload_n hx hb d_M_canAct_2 rfl (lv_at hl 1 rfl) ?_
      refine lv_imul hx hb d_M_canAct_3 ?_
      rw [pk_mul]
      refine lv_iload_n hx hb d_M_canAct_4 rfl (lv_at hl 2 rfl) ?_
      refine lv_iadd hx hb d_M_canAct_5 ?_
      rw [nI_add]
      refine lv_istore_n (lv' := [(3, .int _), (0, .ref _), (1, .int _), (2, .int _)]) hx hb d_M_canAct_6 rfl hl (by decide) rfl (fun ls hl => ?_)
      refine lv_aload_n hx hb d_M_canAct_7 rfl (lv_at hl 1 rfl) ?_
      refine yr_get (C := R_M) (T := F_M) (N := 16) (ci := k_M) hx hb ht j_M hown hK.1 hw mL_o (by rfl) rfl 10 (by decide) (ht _ mf_M_34) (fun _ h9 => h9) (by rfl) d_M_canAct_8 ?_
      refine lv_iload_n hx hb d_M_canAct_11 rfl (lv_at hl 0 rfl) ?_
      refine yr_iald (v := nI (m_ac μ y i)) hx hb hK.1 hw mL_8 (by rfl) 0 rfl (vp_in_nI (N := 20) (by omega) (by omega)) (by rw [nI_clamp (by omega)]; show nI (m_ac μ ((10 * y + i) / 10) ((10 * y + i) % 10)) = _; rw [at_flat (f := m_ac μ) (show i < 10 by omega)]) d_M_canAct_12 ?_
      refine lv_bipush (v := (nI 100)) hx hb d_M_canAct_13 (by decide) ?_
      refine lv_icmp_ne (tgt := 20) hx hb d_M_canAct_15 (by decide) (fun c_15 => ?_) (fun c_15 => by exact absurd ((nI_eq (by omega) (by omega)).mp c_15) h100)
      refine lv_aload_n hx hb d_M_canAct_20 rfl (lv_at hl 1 rfl) ?_
      refine yr_get (C := R_M) (T := F_M) (N := 16) (ci := k_M) hx hb ht j_M hown hK.1 hw mL_o (by rfl) rfl 1 (by decide) (ht _ mf_M_7) (fun _ h9 => h9) (by rfl) d_M_canAct_21 ?_
      refine lv_iload_n hx hb d_M_canAct_24 rfl (lv_at hl 3 rfl) ?_
      refine yr_iald (v := nI (m_kd μ i)) hx hb hK.1 hw mL_0 (by rfl) 0 rfl (vp_in_nI (N := 10) (by omega) (by omega)) (by rw [nI_clamp (by omega)]; rfl) d_M_canAct_25 ?_
      rw [hk]
      refine lv_tableIn (off := 236) (tgt := 262) hx hb d_M_canAct_26 (by decide +kernel) (by decide +kernel) (by decide +kernel) (by decide) ?_
      refine lv_aload_n hx hb d_M_canAct_262 rfl (lv_at hl 1 rfl) ?_
      refine lv_iload_n hx hb d_M_canAct_263 rfl (lv_at hl 2 rfl) ?_
      refine lv_iload_n hx hb d_M_canAct_264 rfl (lv_at hl 3 rfl) ?_
      refine lv_iconst (v := (nI 0)) hx hb d_M_canAct_265 (by decide) ?_
      refine yc_i (va_runV (As := [.int _, .int _, .int _]) (rest := []) ⟨hx, hb, hml, hown, hts⟩ (c_M_hasValue l D cc ad X b0 _ μ y i 0 hy hn hi (by omega)) (cwV 3 hts (yg_call mc_M_hasValue ml_M_74 mm_M_hasValue ms_M_hasValue mi_M) rfl rfl rfl (by decide +kernel) ⟨Nat.le_of_ble_eq_true rfl, Nat.le_of_ble_eq_true rfl⟩) (y_preV hI hw (y_recv hK.1 hw mL_o (by rfl) rfl)) rfl rfl hl.1 rfl (lv_room (Nat.le_of_ble_eq_true rfl)) d_M_canAct_266 ⟨Nat.le_of_ble_eq_true rfl, Nat.le_of_ble_eq_true rfl⟩) hw hA (fun r u H locs he hw => ?_)
      subst he
      refine lv_if_eq (tgt := 287) hx hb d_M_canAct_269 (by decide) (fun c_269 => ?_) (fun c_269 => ?_)
      · have e_269 := yb_0 c_269
        refine lv_iconst (v := (nI 0)) hx hb d_M_canAct_287 (by decide) ?_
        exact ye_z hI (by decide) () (by rw [yp_can6 (T := m_T μ) h101 hk]; simp [yb, mtm, msr_len, nI_0, nI_one, e_269]) hw d_M_canAct_288
      · have e_269 := yb_1 c_269
        refine lv_aload_n hx hb d_M_canAct_272 rfl (lv_at hl 1 rfl) ?_
        refine yr_get (C := R_M) (T := F_M) (N := 16) (ci := k_M) hx hb ht j_M hown hK.1 hw mL_o (by rfl) rfl 12 (by decide) (ht _ mf_M_40) (fun _ h9 => h9) (by rfl) d_M_canAct_273 ?_
        refine lv_iload_n hx hb d_M_canAct_276 rfl (lv_at hl 0 rfl) ?_
        refine yr_iald (v := nI (m_ac μ y i)) hx hb hK.1 hw mL_10 (by rfl) 0 rfl (vp_in_nI (N := 20) (by omega) (by omega)) (by rw [nI_clamp (by omega)]; show nI (m_kc μ ((10 * y + i) / 10) ((10 * y + i) % 10)) = _; rw [at_flat (f := m_kc μ) (show i < 10 by omega), hkc]) d_M_canAct_277 ?_
        refine lv_bipush (v := (nI 60)) hx hb d_M_canAct_278 (by decide) ?_
        refine lv_icmp_ge (tgt := 287) hx hb d_M_canAct_280 (by decide) (fun c_280 => ?_) (fun c_280 => ?_)
        · have e_280 : ¬ m_ac μ y i < 60 := by
            have := (nI_leI (by omega) (by omega)).mp c_280
            omega
          refine lv_iconst (v := (nI 0)) hx hb d_M_canAct_287 (by decide) ?_
          exact ye_z hI (by decide) () (by rw [yp_can6 (T := m_T μ) h101 hk]; simp [yb, mtm, msr_len, nI_0, nI_one, e_269, e_280]) hw d_M_canAct_288
        · have e_280 : m_ac μ y i < 60 := by
            rcases Nat.lt_or_ge (m_ac μ y i) 60 with h | h
            · exact h
            · exact absurd ((nI_leI (by omega) (by omega)).mpr h) c_280
          refine lv_iconst (v := (nI 1)) hx hb d_M_canAct_283 (by decide) ?_
          refine lv_goto (tgt := 288) hx hb d_M_canAct_284 (by decide) ?_
          exact ye_z hI (by decide) () (by rw [yp_can6 (T := m_T μ) h101 hk]; simp [yb, mtm, msr_len, nI_0, nI_one, e_269, e_280]) hw d_M_canAct_288
    · refine lv_bipush (v := (nI 10)) hx hb d_M_canAct_0 (by decide) ?_
      refine lv_iload_n hx hb d_M_canAct_2 rfl (lv_at hl 1 rfl) ?_
      refine lv_imul hx hb d_M_canAct_3 ?_
      rw [pk_mul]
      refine lv_iload_n hx hb d_M_canAct_4 rfl (lv_at hl 2 rfl) ?_
      refine lv_iadd hx hb d_M_canAct_5 ?_
      rw [nI_add]
      refine lv_istore_n (lv' := [(3, .int _), (0, .ref _), (1, .int _), (2, .int _)]) hx hb d_M_canAct_6 rfl hl (by decide) rfl (fun ls hl => ?_)
      refine lv_aload_n hx hb d_M_canAct_7 rfl (lv_at hl 1 rfl) ?_
      refine yr_get (C := R_M) (T := F_M) (N := 16) (ci := k_M) hx hb ht j_M hown hK.1 hw mL_o (by rfl) rfl 10 (by decide) (ht _ mf_M_34) (fun _ h9 => h9) (by rfl) d_M_canAct_8 ?_
      refine lv_iload_n hx hb d_M_canAct_11 rfl (lv_at hl 0 rfl) ?_
      refine yr_iald (v := nI (m_ac μ y i)) hx hb hK.1 hw mL_8 (by rfl) 0 rfl (vp_in_nI (N := 20) (by omega) (by omega)) (by rw [nI_clamp (by omega)]; show nI (m_ac μ ((10 * y + i) / 10) ((10 * y + i) % 10)) = _; rw [at_flat (f := m_ac μ) (show i < 10 by omega)]) d_M_canAct_12 ?_
      refine lv_bipush (v := (nI 100)) hx hb d_M_canAct_13 (by decide) ?_
      refine lv_icmp_ne (tgt := 20) hx hb d_M_canAct_15 (by decide) (fun c_15 => ?_) (fun c_15 => by exact absurd ((nI_eq (by omega) (by omega)).mp c_15) h100)
      refine lv_aload_n hx hb d_M_canAct_20 rfl (lv_at hl 1 rfl) ?_
      refine yr_get (C := R_M) (T := F_M) (N := 16) (ci := k_M) hx hb ht j_M hown hK.1 hw mL_o (by rfl) rfl 1 (by decide) (ht _ mf_M_7) (fun _ h9 => h9) (by rfl) d_M_canAct_21 ?_
      refine lv_iload_n hx hb d_M_canAct_24 rfl (lv_at hl 3 rfl) ?_
      refine yr_iald (v := nI (m_kd μ i)) hx hb hK.1 hw mL_0 (by rfl) 0 rfl (vp_in_nI (N := 10) (by omega) (by omega)) (by rw [nI_clamp (by omega)]; rfl) d_M_canAct_25 ?_
      rw [hk]
      refine lv_tableIn (off := 263) (tgt := 289) hx hb d_M_canAct_26 (by decide +kernel) (by decide +kernel) (by decide +kernel) (by decide) ?_
      refine lv_aload_n hx hb d_M_canAct_289 rfl (lv_at hl 1 rfl) ?_
      refine lv_iload_n hx hb d_M_canAct_290 rfl (lv_at hl 2 rfl) ?_
      refine lv_iload_n hx hb d_M_canAct_291 rfl (lv_at hl 3 rfl) ?_
      refine lv_iconst (v := (nI 0)) hx hb d_M_canAct_292 (by decide) ?_
      refine yc_i (va_runV (As := [.int _, .int _, .int _]) (rest := []) ⟨hx, hb, hml, hown, hts⟩ (c_M_hasValue l D cc ad X b0 _ μ y i 0 hy hn hi (by omega)) (cwV 3 hts (yg_call mc_M_hasValue ml_M_74 mm_M_hasValue ms_M_hasValue mi_M) rfl rfl rfl (by decide +kernel) ⟨Nat.le_of_ble_eq_true rfl, Nat.le_of_ble_eq_true rfl⟩) (y_preV hI hw (y_recv hK.1 hw mL_o (by rfl) rfl)) rfl rfl hl.1 rfl (lv_room (Nat.le_of_ble_eq_true rfl)) d_M_canAct_293 ⟨Nat.le_of_ble_eq_true rfl, Nat.le_of_ble_eq_true rfl⟩) hw hA (fun r u H locs he hw => ?_)
      subst he
      refine lv_if_eq (tgt := 333) hx hb d_M_canAct_296 (by decide) (fun c_296 => ?_) (fun c_296 => ?_)
      · have e_296 := yb_0 c_296
        refine lv_iconst (v := (nI 0)) hx hb d_M_canAct_333 (by decide) ?_
        exact ye_z hI (by decide) () (by rw [yp_can7 (T := m_T μ) h101 hk]; simp [yb, mtm, msr_len, nI_0, nI_one, e_296]) hw d_M_canAct_334
      · have e_296 := yb_1 c_296
        obtain ⟨c0, ec0, hp0⟩ := mh_inv e_296
        refine lv_aload_n hx hb d_M_canAct_299 rfl (lv_at hl 1 rfl) ?_
        refine lv_iload_n hx hb d_M_canAct_300 rfl (lv_at hl 2 rfl) ?_
        refine lv_iload_n hx hb d_M_canAct_301 rfl (lv_at hl 3 rfl) ?_
        refine lv_iconst (v := (nI 1)) hx hb d_M_canAct_302 (by decide) ?_
        refine yc_i (va_runV (As := [.int _, .int _, .int _]) (rest := []) ⟨hx, hb, hml, hown, hts⟩ (c_M_hasValue l D cc ad X b0 _ μ y i 1 hy hn hi (by omega)) (cwV 3 hts (yg_call mc_M_hasValue ml_M_74 mm_M_hasValue ms_M_hasValue mi_M) rfl rfl rfl (by decide +kernel) ⟨Nat.le_of_ble_eq_true rfl, Nat.le_of_ble_eq_true rfl⟩) (y_preV hI hw (y_recv hK.1 hw mL_o (by rfl) rfl)) rfl rfl hl.1 rfl (lv_room (Nat.le_of_ble_eq_true rfl)) d_M_canAct_303 ⟨Nat.le_of_ble_eq_true rfl, Nat.le_of_ble_eq_true rfl⟩) hw hA (fun r u H locs he hw => ?_)
        subst he
        refine lv_if_eq (tgt := 333) hx hb d_M_canAct_306 (by decide) (fun c_306 => ?_) (fun c_306 => ?_)
        · have e_306 := yb_0 c_306
          refine lv_iconst (v := (nI 0)) hx hb d_M_canAct_333 (by decide) ?_
          exact ye_z hI (by decide) () (by rw [yp_can7 (T := m_T μ) h101 hk]; simp [yb, mtm, msr_len, nI_0, nI_one, e_296, e_306]) hw d_M_canAct_334
        · have e_306 := yb_1 c_306
          refine lv_aload_n hx hb d_M_canAct_309 rfl (lv_at hl 1 rfl) ?_
          refine lv_iload_n hx hb d_M_canAct_310 rfl (lv_at hl 2 rfl) ?_
          refine lv_iload_n hx hb d_M_canAct_311 rfl (lv_at hl 3 rfl) ?_
          refine lv_iconst (v := (nI 0)) hx hb d_M_canAct_312 (by decide) ?_
          refine yc_i (va_runV (As := [.int _, .int _, .int _]) (rest := []) ⟨hx, hb, hml, hown, hts⟩ (c_M_look l D cc ad X b0 _ μ y i 0 hy hn hi (by omega) c0 ec0) (cwV 3 hts (yg_call mc_M_look ml_M_77 mm_M_look ms_M_look mi_M) rfl rfl rfl (by decide +kernel) ⟨Nat.le_of_ble_eq_true rfl, Nat.le_of_ble_eq_true rfl⟩) (y_preV hI hw (y_recv hK.1 hw mL_o (by rfl) rfl)) rfl rfl hl.1 rfl (lv_room (Nat.le_of_ble_eq_true rfl)) d_M_canAct_313 ⟨Nat.le_of_ble_eq_true rfl, Nat.le_of_ble_eq_true rfl⟩) hw hA (fun r u H locs he hw => ?_)
          subst he
          refine lv_if_eq (tgt := 329) hx hb d_M_canAct_316 (by decide) (fun c_316 => ?_) (fun c_316 => ?_)
          · have e_316 : yp_hd (m_T μ) (m_D μ y) i 0 = some 0 := by rw [mh_head ec0 hp0, c_316]
            refine lv_iconst (v := (nI 1)) hx hb d_M_canAct_329 (by decide) ?_
            refine lv_goto (tgt := 334) hx hb d_M_canAct_330 (by decide) ?_
            exact ye_z hI (by decide) () (by rw [yp_can7 (T := m_T μ) h101 hk]; simp [yb, mtm, msr_len, nI_0, nI_one, e_296, e_306, e_316]) hw d_M_canAct_334
          · have e_316 : ¬ yp_hd (m_T μ) (m_D μ y) i 0 = some 0 := by
              rw [mh_head ec0 hp0]
              exact fun q => c_316 (Option.some.inj q)
            refine lv_aload_n hx hb d_M_canAct_319 rfl (lv_at hl 1 rfl) ?_
            refine lv_iload_n hx hb d_M_canAct_320 rfl (lv_at hl 2 rfl) ?_
            refine lv_iload_n hx hb d_M_canAct_321 rfl (lv_at hl 3 rfl) ?_
            refine lv_iconst (v := (nI 0)) hx hb d_M_canAct_322 (by decide) ?_
            refine yc_i (va_runV (As := [.int _, .int _, .int _]) (rest := []) ⟨hx, hb, hml, hown, hts⟩ (c_M_hasRoom l D cc ad X b0 _ μ y i 0 hy hn hi (by omega)) (cwV 3 hts (yg_call mc_M_hasRoom ml_M_70 mm_M_hasRoom ms_M_hasRoom mi_M) rfl rfl rfl (by decide +kernel) ⟨Nat.le_of_ble_eq_true rfl, Nat.le_of_ble_eq_true rfl⟩) (y_preV hI hw (y_recv hK.1 hw mL_o (by rfl) rfl)) rfl rfl hl.1 rfl (lv_room (Nat.le_of_ble_eq_true rfl)) d_M_canAct_323 ⟨Nat.le_of_ble_eq_true rfl, Nat.le_of_ble_eq_true rfl⟩) hw hA (fun r u H locs he hw => ?_)
            subst he
            refine lv_if_eq (tgt := 333) hx hb d_M_canAct_326 (by decide) (fun c_326 => ?_) (fun c_326 => ?_)
            · have e_326 := yb_0 c_326
              refine lv_iconst (v := (nI 0)) hx hb d_M_canAct_333 (by decide) ?_
              exact ye_z hI (by decide) () (by rw [yp_can7 (T := m_T μ) h101 hk]; simp [yb, mtm, msr_len, nI_0, nI_one, e_296, e_306, e_316, e_326]) hw d_M_canAct_334
            · have e_326 := yb_1 c_326
              refine lv_iconst (v := (nI 1)) hx hb d_M_canAct_329 (by decide) ?_
              refine lv_goto (tgt := 334) hx hb d_M_canAct_330 (by decide) ?_
              exact ye_z hI (by decide) () (by rw [yp_can7 (T := m_T μ) h101 hk]; simp [yb, mtm, msr_len, nI_0, nI_one, e_296, e_306, e_316, e_326]) hw d_M_canAct_334
    · refine lv_bipush (v := (nI 10)) hx hb d_M_canAct_0 (by decide) ?_
      refine lv_iload_n hx hb d_M_canAct_2 rfl (lv_at hl 1 rfl) ?_
      refine lv_imul hx hb d_M_canAct_3 ?_
      rw [pk_mul]
      refine lv_iload_n hx hb d_M_canAct_4 rfl (lv_at hl 2 rfl) ?_
      refine lv_iadd hx hb d_M_canAct_5 ?_
      rw [nI_add]
      refine lv_istore_n (lv' := [(3, .int _), (0, .ref _), (1, .int _), (2, .int _)]) hx hb d_M_canAct_6 rfl hl (by decide) rfl (fun ls hl => ?_)
      refine lv_aload_n hx hb d_M_canAct_7 rfl (lv_at hl 1 rfl) ?_
      refine yr_get (C := R_M) (T := F_M) (N := 16) (ci := k_M) hx hb ht j_M hown hK.1 hw mL_o (by rfl) rfl 10 (by decide) (ht _ mf_M_34) (fun _ h9 => h9) (by rfl) d_M_canAct_8 ?_
      refine lv_iload_n hx hb d_M_canAct_11 rfl (lv_at hl 0 rfl) ?_
      refine yr_iald (v := nI (m_ac μ y i)) hx hb hK.1 hw mL_8 (by rfl) 0 rfl (vp_in_nI (N := 20) (by omega) (by omega)) (by rw [nI_clamp (by omega)]; show nI (m_ac μ ((10 * y + i) / 10) ((10 * y + i) % 10)) = _; rw [at_flat (f := m_ac μ) (show i < 10 by omega)]) d_M_canAct_12 ?_
      refine lv_bipush (v := (nI 100)) hx hb d_M_canAct_13 (by decide) ?_
      refine lv_icmp_ne (tgt := 20) hx hb d_M_canAct_15 (by decide) (fun c_15 => ?_) (fun c_15 => by exact absurd ((nI_eq (by omega) (by omega)).mp c_15) h100)
      refine lv_aload_n hx hb d_M_canAct_20 rfl (lv_at hl 1 rfl) ?_
      refine yr_get (C := R_M) (T := F_M) (N := 16) (ci := k_M) hx hb ht j_M hown hK.1 hw mL_o (by rfl) rfl 1 (by decide) (ht _ mf_M_7) (fun _ h9 => h9) (by rfl) d_M_canAct_21 ?_
      refine lv_iload_n hx hb d_M_canAct_24 rfl (lv_at hl 3 rfl) ?_
      refine yr_iald (v := nI (m_kd μ i)) hx hb hK.1 hw mL_0 (by rfl) 0 rfl (vp_in_nI (N := 10) (by omega) (by omega)) (by rw [nI_clamp (by omega)]; rfl) d_M_canAct_25 ?_
      rw [hk]
      refine lv_tableOut (tgt := 335) hx hb d_M_canAct_26 (Or.inr (by decide)) (by decide) ?_
      refine lv_aload_n hx hb d_M_canAct_335 rfl (lv_at hl 1 rfl) ?_
      refine lv_iload_n hx hb d_M_canAct_336 rfl (lv_at hl 2 rfl) ?_
      refine lv_iload_n hx hb d_M_canAct_337 rfl (lv_at hl 3 rfl) ?_
      refine lv_iconst (v := (nI 0)) hx hb d_M_canAct_338 (by decide) ?_
      refine yc_i (va_runV (As := [.int _, .int _, .int _]) (rest := []) ⟨hx, hb, hml, hown, hts⟩ (c_M_hasValue l D cc ad X b0 _ μ y i 0 hy hn hi (by omega)) (cwV 3 hts (yg_call mc_M_hasValue ml_M_74 mm_M_hasValue ms_M_hasValue mi_M) rfl rfl rfl (by decide +kernel) ⟨Nat.le_of_ble_eq_true rfl, Nat.le_of_ble_eq_true rfl⟩) (y_preV hI hw (y_recv hK.1 hw mL_o (by rfl) rfl)) rfl rfl hl.1 rfl (lv_room (Nat.le_of_ble_eq_true rfl)) d_M_canAct_339 ⟨Nat.le_of_ble_eq_true rfl, Nat.le_of_ble_eq_true rfl⟩) hw hA (fun r u H locs he hw => ?_)
      subst he
      refine lv_if_eq (tgt := 369) hx hb d_M_canAct_342 (by decide) (fun c_342 => ?_) (fun c_342 => ?_)
      · have e_342 := yb_0 c_342
        refine lv_iconst (v := (nI 0)) hx hb d_M_canAct_369 (by decide) ?_
        exact ye_z hI (by decide) () (by rw [yp_can8 (T := m_T μ) h101 hk]; simp [yb, mtm, msr_len, nI_0, nI_one, e_342]) hw d_M_canAct_370
      · have e_342 := yb_1 c_342
        refine lv_aload_n hx hb d_M_canAct_345 rfl (lv_at hl 1 rfl) ?_
        refine lv_iload_n hx hb d_M_canAct_346 rfl (lv_at hl 2 rfl) ?_
        refine lv_iload_n hx hb d_M_canAct_347 rfl (lv_at hl 3 rfl) ?_
        refine lv_iconst (v := (nI 0)) hx hb d_M_canAct_348 (by decide) ?_
        refine yc_i (va_runV (As := [.int _, .int _, .int _]) (rest := []) ⟨hx, hb, hml, hown, hts⟩ (c_M_hasRoom l D cc ad X b0 _ μ y i 0 hy hn hi (by omega)) (cwV 3 hts (yg_call mc_M_hasRoom ml_M_70 mm_M_hasRoom ms_M_hasRoom mi_M) rfl rfl rfl (by decide +kernel) ⟨Nat.le_of_ble_eq_true rfl, Nat.le_of_ble_eq_true rfl⟩) (y_preV hI hw (y_recv hK.1 hw mL_o (by rfl) rfl)) rfl rfl hl.1 rfl (lv_room (Nat.le_of_ble_eq_true rfl)) d_M_canAct_349 ⟨Nat.le_of_ble_eq_true rfl, Nat.le_of_ble_eq_true rfl⟩) hw hA (fun r u H locs he hw => ?_)
        subst he
        refine lv_if_eq (tgt := 369) hx hb d_M_canAct_352 (by decide) (fun c_352 => ?_) (fun c_352 => ?_)
        · have e_352 := yb_0 c_352
          refine lv_iconst (v := (nI 0)) hx hb d_M_canAct_369 (by decide) ?_
          exact ye_z hI (by decide) () (by rw [yp_can8 (T := m_T μ) h101 hk]; simp [yb, mtm, msr_len, nI_0, nI_one, e_342, e_352]) hw d_M_canAct_370
        · have e_352 := yb_1 c_352
          refine lv_aload_n hx hb d_M_canAct_355 rfl (lv_at hl 1 rfl) ?_
          refine lv_iload_n hx hb d_M_canAct_356 rfl (lv_at hl 2 rfl) ?_
          refine lv_iload_n hx hb d_M_canAct_357 rfl (lv_at hl 3 rfl) ?_
          refine lv_iconst (v := (nI 1)) hx hb d_M_canAct_358 (by decide) ?_
          refine yc_i (va_runV (As := [.int _, .int _, .int _]) (rest := []) ⟨hx, hb, hml, hown, hts⟩ (c_M_hasRoom l D cc ad X b0 _ μ y i 1 hy hn hi (by omega)) (cwV 3 hts (yg_call mc_M_hasRoom ml_M_70 mm_M_hasRoom ms_M_hasRoom mi_M) rfl rfl rfl (by decide +kernel) ⟨Nat.le_of_ble_eq_true rfl, Nat.le_of_ble_eq_true rfl⟩) (y_preV hI hw (y_recv hK.1 hw mL_o (by rfl) rfl)) rfl rfl hl.1 rfl (lv_room (Nat.le_of_ble_eq_true rfl)) d_M_canAct_359 ⟨Nat.le_of_ble_eq_true rfl, Nat.le_of_ble_eq_true rfl⟩) hw hA (fun r u H locs he hw => ?_)
          subst he
          refine lv_if_eq (tgt := 369) hx hb d_M_canAct_362 (by decide) (fun c_362 => ?_) (fun c_362 => ?_)
          · have e_362 := yb_0 c_362
            refine lv_iconst (v := (nI 0)) hx hb d_M_canAct_369 (by decide) ?_
            exact ye_z hI (by decide) () (by rw [yp_can8 (T := m_T μ) h101 hk]; simp [yb, mtm, msr_len, nI_0, nI_one, e_342, e_352, e_362]) hw d_M_canAct_370
          · have e_362 := yb_1 c_362
            refine lv_iconst (v := (nI 1)) hx hb d_M_canAct_365 (by decide) ?_
            refine lv_goto (tgt := 370) hx hb d_M_canAct_366 (by decide) ?_
            exact ye_z hI (by decide) () (by rw [yp_can8 (T := m_T μ) h101 hk]; simp [yb, mtm, msr_len, nI_0, nI_one, e_342, e_352, e_362]) hw d_M_canAct_370
