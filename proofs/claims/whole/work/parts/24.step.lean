/-! ACTOR: step -/
theorem y2_fin {σ : ys} {y i c0 : Nat} {v : Int32} (e0 : s_ic σ y i 0 = some c0) (z : (Nat → Nat) × (Nat → List Int32)) : ((z.1, z.2, yq_gv (some v) (s_oc (yo_take σ y c0) y i ((s_ac σ y i).2.2.2.2 % 2)) (yq_tk true (some c0) (s_D σ y).2.2)) : yp_D) = (z.1, z.2, yq_gv (if (s_D σ y).1 i % 2 = 0 then ((true, false, some v, none, none) : yp_P) else (true, false, none, some v, none)).2.2.2.1 (s_oc σ y i 1) (yq_gv (if (s_D σ y).1 i % 2 = 0 then ((true, false, some v, none, none) : yp_P) else (true, false, none, some v, none)).2.2.1 (s_oc σ y i 0) (yq_tk (if (s_D σ y).1 i % 2 = 0 then ((true, false, some v, none, none) : yp_P) else (true, false, none, some v, none)).2.1 (s_ic σ y i 1) (yq_tk (if (s_D σ y).1 i % 2 = 0 then ((true, false, some v, none, none) : yp_P) else (true, false, none, some v, none)).1 (s_ic σ y i 0) (s_D σ y).2.2)))) := by
  rcases Nat.mod_two_eq_zero_or_one (s_ac σ y i).2.2.2.2 with e | e
  · have e' : (s_D σ y).1 i % 2 = 0 := e
    rw [e, if_pos e', yq_gv_n, yq_tk_f, e0]; rfl
  · have e' : ¬ (s_D σ y).1 i % 2 = 0 := fun q => by have : (s_ac σ y i).2.2.2.2 % 2 = 0 := q; omega
    rw [e, if_neg e', yq_gv_n, yq_tk_f, e0]; rfl
theorem y3_fin {σ : ys} {y i c0 : Nat} (hi : yI σ y) (hn : i < s_n σ y) (h100 : ¬ 100 ≤ (s_D σ y).1 i) (hk : (s_ac σ y i).1 = 3) (e0 : s_ic σ y i ((s_ac σ y i).2.2.2.2 % 2) = some c0) (hp0 : 0 < (s_ch σ y c0).2.2) (hr : yrm (yo_take σ y c0) y i 0) (hac : s_ac (yo_give (yo_take σ y c0) y i 0 (s_rg σ y c0 ((s_ch σ y c0).2.1 % 8))) y i = s_ac σ y i) : yStp σ y i (yo_tick (yo_give (yo_take σ y c0) y i 0 (s_rg σ y c0 ((s_ch σ y c0).2.1 % 8))) y i) := by
  have hi1 := I_take hi hp0
  rcases Nat.mod_two_eq_zero_or_one (s_ac σ y i).2.2.2.2 with e | e
  · rw [e] at e0
    exact yStp_mk hi hn (ypl3a (T := s_T σ y) h100 hk e (yh_head e0 hp0)) (yX_take.tr yX_give) (T_give.trans T_take) (by rw [D_give hi1 hr, D_take hp0, yq_gv_n, yq_tk_f, e0]; try rfl) hac (by omega) rfl (I_give hi1 hr)
  · rw [e] at e0
    exact yStp_mk hi hn (ypl3b (T := s_T σ y) h100 hk e (yh_head e0 hp0)) (yX_take.tr yX_give) (T_give.trans T_take) (by rw [D_give hi1 hr, D_take hp0, yq_gv_n, yq_tk_f, e0]; try rfl) hac (by omega) rfl (I_give hi1 hr)
set_option maxHeartbeats 4000000 in
set_option maxRecDepth 100000 in
/-- step: an act of one that can act -/
theorem c_A_step (l : Launch) (D : va_G) (cc : ClassId × ClassId × ClassId) (ad : yl → Nat) (LL : List yl) (X : va_W) (b0 sz : Nat) (σ : ys) (hL : ∀ q, yL σ q → q ∈ LL) (y i : Nat) (hy : y < 2) (hn : i < s_n σ y) (hi : yI σ y) (hc : yp_canb (s_T σ y) (s_D σ y) i = true) : Met l y_A_step w_A_step ({ frames := 2, cells := 0, slots := 0, locals := 44 }) (yPr D cc b0 [.ref (ad (5, y, i))] (yW cc ad LL X σ) sz) (va_Qv (fun σ' : ys => yStp σ y i σ') (yB D ycl (yW cc ad LL X σ) sz (fun σ' => yW cc ad LL X σ')) (va_A (yW cc ad LL X σ) sz)) 0 0 (va_A (yW cc ad LL X σ) sz) := by
  have h5 : (5, y, i) ∈ LL := hL _ ⟨hy, hn⟩
  have h6 : (6, y, i) ∈ LL := hL _ ⟨hy, hn⟩
  have h7 : (7, y, i) ∈ LL := hL _ ⟨hy, hn⟩
  have h8 : (8, y, i) ∈ LL := hL _ ⟨hy, hn⟩
  obtain ⟨a1, a2, a3, a4, a5⟩ := hi.2.2.1 i
  refine y_ofW (cc := b_A_step) (maxL := 4) (ret := none) (by decide) rfl (Nat.le_of_ble_eq_true rfl) ?_
  intro pv ev sv mv bv tv cv ls hI hsz hw hl
  obtain ⟨hx, hb, hr, hml, hts, hown, hlocks, hnm, hK, hAb, hb0, hA⟩ := id hI
  have ht : ∀ w ∈ lg_tbl, w.before _ sv = true := fun w h => hts w (List.mem_cons_of_mem _ h)
  have hl : lv_has ls 4 [(0, .ref (ad (5, y, i)))] := hl
  have h100 : ¬ 100 ≤ (s_D σ y).1 i := Nat.not_le.mpr (yp_can_lt hc)
  have h99 : (s_ac σ y i).2.2.2.2 < 100 := yp_can_lt hc
  have hks : (s_ac σ y i).1 = 0 ∨ (s_ac σ y i).1 = 1 ∨ (s_ac σ y i).1 = 2 ∨ (s_ac σ y i).1 = 3 ∨ (s_ac σ y i).1 = 4 ∨ (s_ac σ y i).1 = 5 ∨ (s_ac σ y i).1 = 6 ∨ (s_ac σ y i).1 = 7 ∨ (s_ac σ y i).1 = 8 := by omega
  rcases hks with hk | hk | hk | hk | hk | hk | hk | hk | hk
  · rw [yp_can0 (T := s_T σ y) h100 hk] at hc
    obtain ⟨q1, q2⟩ := (Bool.and_eq_true _ _).mp hc
    have q1 : (s_ac σ y i).2.2.2.2 < (s_ac σ y i).2.2.2.1 := by have := of_decide_eq_true q1; rw [ysr_len] at this; exact this
    have hr := yrm_of q2
    have ht2 : (s_ac σ y i).2.2.2.2 < yt_rows (s_ac σ y i).1 := by rw [hk]; show _ < 20; omega
    refine lv_aload_n hx hb d_A_step_0 rfl (lv_at hl 0 rfl) ?_
    refine yr_get (C := R_A) (T := F_A) (N := 8) (ci := k_A) hx hb ht j_A hown hK.1 hw (by assumption) (by rfl) rfl 0 (by decide) (ht _ mf_A_9) (fun _ h9 => h9) (by rfl) d_A_step_1 ?_
    rw [hk]
    refine lv_tableIn (off := 52) (tgt := 56) hx hb d_A_step_4 (by decide +kernel) (by decide +kernel) (by decide +kernel) (by decide) ?_
    refine lv_aload_n hx hb d_A_step_56 rfl (lv_at hl 0 rfl) ?_
    refine lv_iconst (v := (nI 0)) hx hb d_A_step_57 (by decide) ?_
    refine lv_aload_n hx hb d_A_step_58 rfl (lv_at hl 0 rfl) ?_
    refine lv_aload_n hx hb d_A_step_59 rfl (lv_at hl 0 rfl) ?_
    refine yr_get (C := R_A) (T := F_A) (N := 8) (ci := k_A) hx hb ht j_A hown hK.1 hw (by assumption) (by rfl) rfl 7 (by decide) (ht _ mf_A_40) (fun _ h9 => h9) (by rfl) d_A_step_60 ?_
    refine yc_i (va_runV (As := [.int _]) (rest := [.int _, .ref _]) ⟨hx, hb, hml, hown, hts⟩ (c_A_rowValue l D cc ad LL X b0 _ σ hL y i hy hn hi (s_ac σ y i).2.2.2.2 ht2) (cwV 1 hts (yg_call mc_A_rowValue ml_A_63 mm_A_rowValue ms_A_rowValue mi_A) rfl rfl rfl (by decide +kernel) ⟨Nat.le_of_ble_eq_true rfl, Nat.le_of_ble_eq_true rfl⟩) (y_preV hI hw (y_recv hK.1 hw h5 (by rfl) rfl)) rfl rfl hl.1 rfl (lv_room (Nat.le_of_ble_eq_true rfl)) d_A_step_63 ⟨Nat.le_of_ble_eq_true rfl, Nat.le_of_ble_eq_true rfl⟩) hw hA (fun r u H locs he hw => ?_)
    subst he
    refine yc_v (va_runV (As := [.int _, .int _]) (rest := []) ⟨hx, hb, hml, hown, hts⟩ (c_A_give l D cc ad LL X b0 _ σ hL y i hy hn hi 0 (by omega) _) (cwV 2 hts (yg_call mc_A_give ml_A_67 mm_A_give ms_A_give mi_A) rfl rfl rfl (by decide +kernel) ⟨Nat.le_of_ble_eq_true rfl, Nat.le_of_ble_eq_true rfl⟩) (y_preV hI hw (y_recv hK.1 hw h5 (by rfl) rfl)) rfl rfl hl.1 rfl (lv_room (Nat.le_of_ble_eq_true rfl)) d_A_step_66 ⟨Nat.le_of_ble_eq_true rfl, Nat.le_of_ble_eq_true rfl⟩) hw hA (fun u H locs he hw => ?_)
    refine lv_goto (tgt := 239) hx hb d_A_step_69 (by decide) ?_
    have hw : yH D ycl (va_A (yW cc ad LL X σ) sz) sv.heap H locs (yW cc ad LL X (yo_give σ y i 0 (s_rw σ y i (s_ac σ y i).2.2.2.2))) := hw
    have hac : s_ac (yo_give σ y i 0 (s_rw σ y i (s_ac σ y i).2.2.2.2)) y i = s_ac σ y i := by rw [ac_give]
    refine lv_aload_n hx hb d_A_step_239 rfl (lv_at hl 0 rfl) ?_
    refine lv_dup hx hb d_A_step_240 rfl ?_
    refine yr_get (C := R_A) (T := F_A) (N := 8) (ci := k_A) hx hb ht j_A hown hK.1 hw (by assumption) (by rfl) rfl 7 (by decide) (ht _ mf_A_40) (fun _ h9 => h9) (by rfl) d_A_step_241 ?_
    rw [hac]
    refine lv_iconst (v := 1) hx hb d_A_step_244 (by decide) ?_
    refine lv_iadd hx hb d_A_step_245 ?_
    rw [nI_1]
    refine yr_put (ty := .int) (C := R_A) (T := F_A) (N := 8) (ci := k_A) hx hb ht j_A t_A t_A_ok n_A hown hK.1 hw (by assumption) (by rfl) rfl 7 (by decide) (ht _ mf_A_40) (fun _ h9 => h9) rfl (by decide +kernel) rfl rfl (Nat.le_of_ble_eq_true rfl) d_A_step_246 (fun H locs hw => ?_)
    have hw := yw_ac ((s_ac σ y i).1, (s_ac σ y i).2.1, (s_ac σ y i).2.2.1, (s_ac σ y i).2.2.2.1, (s_ac σ y i).2.2.2.2 + 1) hw (by rw [hac]) (by rw [hac]; rfl)
    have hw : yH D ycl (va_A (yW cc ad LL X σ) sz) sv.heap H locs (yW cc ad LL X (yo_tick (yo_give σ y i 0 (s_rw σ y i (s_ac σ y i).2.2.2.2)) y i)) := by unfold yo_tick; rw [hac]; exact hw
    exact ye_v hI (yo_tick (yo_give σ y i 0 (s_rw σ y i (s_ac σ y i).2.2.2.2)) y i) (yStp_mk hi hn (ypl0 (T := s_T σ y) h100 hk (yrw_get q1)) yX_give T_give (by rw [D_give hi hr, yq_gv_n, yq_tk_f, yq_tk_f]; try rfl) hac (by omega) rfl (I_give hi hr)) hw d_A_step_249
  · rw [yp_can1 (T := s_T σ y) h100 hk] at hc
    obtain ⟨q1, q2⟩ := (Bool.and_eq_true _ _).mp hc
    obtain ⟨c0, e0, hp0⟩ := yh_inv q1
    have hr := yrm_take (c := c0) (yrm_of q2)
    have hi1 := I_take hi hp0
    have hL1 := (yX_take (σ := σ) (y := y) (c := c0)).L hL
    refine lv_aload_n hx hb d_A_step_0 rfl (lv_at hl 0 rfl) ?_
    refine yr_get (C := R_A) (T := F_A) (N := 8) (ci := k_A) hx hb ht j_A hown hK.1 hw (by assumption) (by rfl) rfl 0 (by decide) (ht _ mf_A_9) (fun _ h9 => h9) (by rfl) d_A_step_1 ?_
    rw [hk]
    refine lv_tableIn (off := 68) (tgt := 72) hx hb d_A_step_4 (by decide +kernel) (by decide +kernel) (by decide +kernel) (by decide) ?_
    refine lv_aload_n hx hb d_A_step_72 rfl (lv_at hl 0 rfl) ?_
    refine lv_iconst (v := (nI 0)) hx hb d_A_step_73 (by decide) ?_
    refine lv_aload_n hx hb d_A_step_74 rfl (lv_at hl 0 rfl) ?_
    refine lv_iconst (v := (nI 0)) hx hb d_A_step_75 (by decide) ?_
    refine yc_i (va_runV (As := [.int _]) (rest := [.int _, .ref _]) ⟨hx, hb, hml, hown, hts⟩ (c_A_take l D cc ad LL X b0 _ σ hL y i hy hn hi 0 (by omega) c0 e0 hp0) (cwV 1 hts (yg_call mc_A_take ml_A_71 mm_A_take ms_A_take mi_A) rfl rfl rfl (by decide +kernel) ⟨Nat.le_of_ble_eq_true rfl, Nat.le_of_ble_eq_true rfl⟩) (y_preV hI hw (y_recv hK.1 hw h5 (by rfl) rfl)) rfl rfl hl.1 rfl (lv_room (Nat.le_of_ble_eq_true rfl)) d_A_step_76 ⟨Nat.le_of_ble_eq_true rfl, Nat.le_of_ble_eq_true rfl⟩) hw hA (fun r u H locs he hw => ?_)
    subst he
    refine lv_aload_n hx hb d_A_step_79 rfl (lv_at hl 0 rfl) ?_
    refine yr_get (C := R_A) (T := F_A) (N := 8) (ci := k_A) hx hb ht j_A hown hK.1 hw (by assumption) (by rfl) rfl 1 (by decide) (ht _ mf_A_15) (fun _ h9 => h9) (by rfl) d_A_step_80 ?_
    refine lv_imul hx hb d_A_step_83 ?_
    refine lv_aload_n hx hb d_A_step_84 rfl (lv_at hl 0 rfl) ?_
    refine yr_get (C := R_A) (T := F_A) (N := 8) (ci := k_A) hx hb ht j_A hown hK.1 hw (by assumption) (by rfl) rfl 2 (by decide) (ht _ mf_A_18) (fun _ h9 => h9) (by rfl) d_A_step_85 ?_
    refine lv_iadd hx hb d_A_step_88 ?_
    refine yc_v (va_runV (As := [.int _, .int _]) (rest := []) ⟨hx, hb, hml, hown, hts⟩ (c_A_give l D cc ad LL X b0 _ (yo_take σ y c0) hL1 y i hy hn hi1 0 (by omega) _) (cwV 2 hts (yg_call mc_A_give ml_A_67 mm_A_give ms_A_give mi_A) rfl rfl rfl (by decide +kernel) ⟨Nat.le_of_ble_eq_true rfl, Nat.le_of_ble_eq_true rfl⟩) (y_preV hI hw (y_recv hK.1 hw h5 (by rfl) rfl)) rfl rfl hl.1 rfl (lv_room (Nat.le_of_ble_eq_true rfl)) d_A_step_89 ⟨Nat.le_of_ble_eq_true rfl, Nat.le_of_ble_eq_true rfl⟩) hw hA (fun u H locs he hw => ?_)
    refine lv_goto (tgt := 239) hx hb d_A_step_92 (by decide) ?_
    have hw : yH D ycl (va_A (yW cc ad LL X σ) sz) sv.heap H locs (yW cc ad LL X (yo_give (yo_take σ y c0) y i 0 (((s_rg σ y c0 ((s_ch σ y c0).2.1 % 8))) * (s_ac σ y i).2.1 + (s_ac σ y i).2.2.1))) := hw
    have hac : s_ac (yo_give (yo_take σ y c0) y i 0 (((s_rg σ y c0 ((s_ch σ y c0).2.1 % 8))) * (s_ac σ y i).2.1 + (s_ac σ y i).2.2.1)) y i = s_ac σ y i := by rw [ac_give]; rfl
    refine lv_aload_n hx hb d_A_step_239 rfl (lv_at hl 0 rfl) ?_
    refine lv_dup hx hb d_A_step_240 rfl ?_
    refine yr_get (C := R_A) (T := F_A) (N := 8) (ci := k_A) hx hb ht j_A hown hK.1 hw (by assumption) (by rfl) rfl 7 (by decide) (ht _ mf_A_40) (fun _ h9 => h9) (by rfl) d_A_step_241 ?_
    rw [hac]
    refine lv_iconst (v := 1) hx hb d_A_step_244 (by decide) ?_
    refine lv_iadd hx hb d_A_step_245 ?_
    rw [nI_1]
    refine yr_put (ty := .int) (C := R_A) (T := F_A) (N := 8) (ci := k_A) hx hb ht j_A t_A t_A_ok n_A hown hK.1 hw (by assumption) (by rfl) rfl 7 (by decide) (ht _ mf_A_40) (fun _ h9 => h9) rfl (by decide +kernel) rfl rfl (Nat.le_of_ble_eq_true rfl) d_A_step_246 (fun H locs hw => ?_)
    have hw := yw_ac ((s_ac σ y i).1, (s_ac σ y i).2.1, (s_ac σ y i).2.2.1, (s_ac σ y i).2.2.2.1, (s_ac σ y i).2.2.2.2 + 1) hw (by rw [hac]) (by rw [hac]; rfl)
    have hw : yH D ycl (va_A (yW cc ad LL X σ) sz) sv.heap H locs (yW cc ad LL X (yo_tick (yo_give (yo_take σ y c0) y i 0 (((s_rg σ y c0 ((s_ch σ y c0).2.1 % 8))) * (s_ac σ y i).2.1 + (s_ac σ y i).2.2.1)) y i)) := by unfold yo_tick; rw [hac]; exact hw
    exact ye_v hI (yo_tick (yo_give (yo_take σ y c0) y i 0 (((s_rg σ y c0 ((s_ch σ y c0).2.1 % 8))) * (s_ac σ y i).2.1 + (s_ac σ y i).2.2.1)) y i) (yStp_mk hi hn (ypl1 (T := s_T σ y) h100 hk (yh_head e0 hp0)) (yX_take.tr yX_give) (T_give.trans T_take) (by rw [D_give hi1 hr, D_take hp0, yq_gv_n, yq_tk_f, e0]; try rfl) hac (by omega) rfl (I_give hi1 hr)) hw d_A_step_249
  · rw [yp_can2 (T := s_T σ y) h100 hk] at hc
    obtain ⟨q1, q2⟩ := (Bool.and_eq_true _ _).mp hc
    obtain ⟨c0, e0, hp0⟩ := yh_inv q1
    have hr : yrm (yo_take σ y c0) y i ((s_ac σ y i).2.2.2.2 % 2) := yrm_take (c := c0) (yrm_of q2)
    have hi1 := I_take hi hp0
    have hL1 := (yX_take (σ := σ) (y := y) (c := c0)).L hL
    refine lv_aload_n hx hb d_A_step_0 rfl (lv_at hl 0 rfl) ?_
    refine yr_get (C := R_A) (T := F_A) (N := 8) (ci := k_A) hx hb ht j_A hown hK.1 hw (by assumption) (by rfl) rfl 0 (by decide) (ht _ mf_A_9) (fun _ h9 => h9) (by rfl) d_A_step_1 ?_
    rw [hk]
    refine lv_tableIn (off := 91) (tgt := 95) hx hb d_A_step_4 (by decide +kernel) (by decide +kernel) (by decide +kernel) (by decide) ?_
    refine lv_aload_n hx hb d_A_step_95 rfl (lv_at hl 0 rfl) ?_
    refine lv_aload_n hx hb d_A_step_96 rfl (lv_at hl 0 rfl) ?_
    refine yc_i (va_runV (As := []) (rest := [.ref _]) ⟨hx, hb, hml, hown, hts⟩ (c_A_turn l D cc ad LL X b0 _ σ hL y i hy hn hi) (cwV 0 hts (yg_call mc_A_turn ml_A_56 mm_A_turn ms_A_turn mi_A) rfl rfl rfl (by decide +kernel) ⟨Nat.le_of_ble_eq_true rfl, Nat.le_of_ble_eq_true rfl⟩) (y_preV hI hw (y_recv hK.1 hw h5 (by rfl) rfl)) rfl rfl hl.1 rfl (lv_room (Nat.le_of_ble_eq_true rfl)) d_A_step_97 ⟨Nat.le_of_ble_eq_true rfl, Nat.le_of_ble_eq_true rfl⟩) hw hA (fun r u H locs he hw => ?_)
    subst he
    refine lv_aload_n hx hb d_A_step_100 rfl (lv_at hl 0 rfl) ?_
    refine lv_iconst (v := (nI 0)) hx hb d_A_step_101 (by decide) ?_
    refine yc_i (va_runV (As := [.int _]) (rest := [.int _, .ref _]) ⟨hx, hb, hml, hown, hts⟩ (c_A_take l D cc ad LL X b0 _ σ hL y i hy hn hi 0 (by omega) c0 e0 hp0) (cwV 1 hts (yg_call mc_A_take ml_A_71 mm_A_take ms_A_take mi_A) rfl rfl rfl (by decide +kernel) ⟨Nat.le_of_ble_eq_true rfl, Nat.le_of_ble_eq_true rfl⟩) (y_preV hI hw (y_recv hK.1 hw h5 (by rfl) rfl)) rfl rfl hl.1 rfl (lv_room (Nat.le_of_ble_eq_true rfl)) d_A_step_102 ⟨Nat.le_of_ble_eq_true rfl, Nat.le_of_ble_eq_true rfl⟩) hw hA (fun r u H locs he hw => ?_)
    subst he
    refine yc_v (va_runV (As := [.int _, .int _]) (rest := []) ⟨hx, hb, hml, hown, hts⟩ (c_A_give l D cc ad LL X b0 _ (yo_take σ y c0) hL1 y i hy hn hi1 ((s_ac σ y i).2.2.2.2 % 2) (Nat.mod_lt _ (by omega)) _) (cwV 2 hts (yg_call mc_A_give ml_A_67 mm_A_give ms_A_give mi_A) rfl rfl rfl (by decide +kernel) ⟨Nat.le_of_ble_eq_true rfl, Nat.le_of_ble_eq_true rfl⟩) (y_preV hI hw (y_recv hK.1 hw h5 (by rfl) rfl)) rfl rfl hl.1 rfl (lv_room (Nat.le_of_ble_eq_true rfl)) d_A_step_105 ⟨Nat.le_of_ble_eq_true rfl, Nat.le_of_ble_eq_true rfl⟩) hw hA (fun u H locs he hw => ?_)
    refine lv_goto (tgt := 239) hx hb d_A_step_108 (by decide) ?_
    have hw : yH D ycl (va_A (yW cc ad LL X σ) sz) sv.heap H locs (yW cc ad LL X (yo_give (yo_take σ y c0) y i ((s_ac σ y i).2.2.2.2 % 2) ((s_rg σ y c0 ((s_ch σ y c0).2.1 % 8))))) := hw
    have hac : s_ac (yo_give (yo_take σ y c0) y i ((s_ac σ y i).2.2.2.2 % 2) ((s_rg σ y c0 ((s_ch σ y c0).2.1 % 8)))) y i = s_ac σ y i := by rw [ac_give]; rfl
    refine lv_aload_n hx hb d_A_step_239 rfl (lv_at hl 0 rfl) ?_
    refine lv_dup hx hb d_A_step_240 rfl ?_
    refine yr_get (C := R_A) (T := F_A) (N := 8) (ci := k_A) hx hb ht j_A hown hK.1 hw (by assumption) (by rfl) rfl 7 (by decide) (ht _ mf_A_40) (fun _ h9 => h9) (by rfl) d_A_step_241 ?_
    rw [hac]
    refine lv_iconst (v := 1) hx hb d_A_step_244 (by decide) ?_
    refine lv_iadd hx hb d_A_step_245 ?_
    rw [nI_1]
    refine yr_put (ty := .int) (C := R_A) (T := F_A) (N := 8) (ci := k_A) hx hb ht j_A t_A t_A_ok n_A hown hK.1 hw (by assumption) (by rfl) rfl 7 (by decide) (ht _ mf_A_40) (fun _ h9 => h9) rfl (by decide +kernel) rfl rfl (Nat.le_of_ble_eq_true rfl) d_A_step_246 (fun H locs hw => ?_)
    have hw := yw_ac ((s_ac σ y i).1, (s_ac σ y i).2.1, (s_ac σ y i).2.2.1, (s_ac σ y i).2.2.2.1, (s_ac σ y i).2.2.2.2 + 1) hw (by rw [hac]) (by rw [hac]; rfl)
    have hw : yH D ycl (va_A (yW cc ad LL X σ) sz) sv.heap H locs (yW cc ad LL X (yo_tick (yo_give (yo_take σ y c0) y i ((s_ac σ y i).2.2.2.2 % 2) ((s_rg σ y c0 ((s_ch σ y c0).2.1 % 8)))) y i)) := by unfold yo_tick; rw [hac]; exact hw
    exact ye_v hI (yo_tick (yo_give (yo_take σ y c0) y i ((s_ac σ y i).2.2.2.2 % 2) ((s_rg σ y c0 ((s_ch σ y c0).2.1 % 8)))) y i) (yStp_mk hi hn (ypl2 (T := s_T σ y) h100 hk (yh_head e0 hp0)) (yX_take.tr yX_give) (T_give.trans T_take) (by rw [D_give hi1 hr, D_take hp0]; exact y2_fin e0 ((s_D σ y).1, (s_D σ y).2.1)) hac (by omega) (by rcases Nat.mod_two_eq_zero_or_one ((s_D σ y).1 i) with e | e <;> rw [e] <;> rfl) (I_give hi1 hr)) hw d_A_step_249
  · rw [yp_can3 (T := s_T σ y) h100 hk] at hc
    obtain ⟨q1, q2⟩ := (Bool.and_eq_true _ _).mp hc
    obtain ⟨c0, e0, hp0⟩ := yh_inv (j := (s_ac σ y i).2.2.2.2 % 2) q1
    have hr := yrm_take (c := c0) (yrm_of q2)
    have hi1 := I_take hi hp0
    have hL1 := (yX_take (σ := σ) (y := y) (c := c0)).L hL
    refine lv_aload_n hx hb d_A_step_0 rfl (lv_at hl 0 rfl) ?_
    refine yr_get (C := R_A) (T := F_A) (N := 8) (ci := k_A) hx hb ht j_A hown hK.1 hw (by assumption) (by rfl) rfl 0 (by decide) (ht _ mf_A_9) (fun _ h9 => h9) (by rfl) d_A_step_1 ?_
    rw [hk]
    refine lv_tableIn (off := 107) (tgt := 111) hx hb d_A_step_4 (by decide +kernel) (by decide +kernel) (by decide +kernel) (by decide) ?_
    refine lv_aload_n hx hb d_A_step_111 rfl (lv_at hl 0 rfl) ?_
    refine lv_iconst (v := (nI 0)) hx hb d_A_step_112 (by decide) ?_
    refine lv_aload_n hx hb d_A_step_113 rfl (lv_at hl 0 rfl) ?_
    refine lv_aload_n hx hb d_A_step_114 rfl (lv_at hl 0 rfl) ?_
    refine yc_i (va_runV (As := []) (rest := [.ref _, .int _, .ref _]) ⟨hx, hb, hml, hown, hts⟩ (c_A_turn l D cc ad LL X b0 _ σ hL y i hy hn hi) (cwV 0 hts (yg_call mc_A_turn ml_A_56 mm_A_turn ms_A_turn mi_A) rfl rfl rfl (by decide +kernel) ⟨Nat.le_of_ble_eq_true rfl, Nat.le_of_ble_eq_true rfl⟩) (y_preV hI hw (y_recv hK.1 hw h5 (by rfl) rfl)) rfl rfl hl.1 rfl (lv_room (Nat.le_of_ble_eq_true rfl)) d_A_step_115 ⟨Nat.le_of_ble_eq_true rfl, Nat.le_of_ble_eq_true rfl⟩) hw hA (fun r u H locs he hw => ?_)
    subst he
    refine yc_i (va_runV (As := [.int _]) (rest := [.int _, .ref _]) ⟨hx, hb, hml, hown, hts⟩ (c_A_take l D cc ad LL X b0 _ σ hL y i hy hn hi ((s_ac σ y i).2.2.2.2 % 2) (Nat.mod_lt _ (by omega)) c0 e0 hp0) (cwV 1 hts (yg_call mc_A_take ml_A_71 mm_A_take ms_A_take mi_A) rfl rfl rfl (by decide +kernel) ⟨Nat.le_of_ble_eq_true rfl, Nat.le_of_ble_eq_true rfl⟩) (y_preV hI hw (y_recv hK.1 hw h5 (by rfl) rfl)) rfl rfl hl.1 rfl (lv_room (Nat.le_of_ble_eq_true rfl)) d_A_step_118 ⟨Nat.le_of_ble_eq_true rfl, Nat.le_of_ble_eq_true rfl⟩) hw hA (fun r u H locs he hw => ?_)
    subst he
    refine yc_v (va_runV (As := [.int _, .int _]) (rest := []) ⟨hx, hb, hml, hown, hts⟩ (c_A_give l D cc ad LL X b0 _ (yo_take σ y c0) hL1 y i hy hn hi1 0 (by omega) _) (cwV 2 hts (yg_call mc_A_give ml_A_67 mm_A_give ms_A_give mi_A) rfl rfl rfl (by decide +kernel) ⟨Nat.le_of_ble_eq_true rfl, Nat.le_of_ble_eq_true rfl⟩) (y_preV hI hw (y_recv hK.1 hw h5 (by rfl) rfl)) rfl rfl hl.1 rfl (lv_room (Nat.le_of_ble_eq_true rfl)) d_A_step_121 ⟨Nat.le_of_ble_eq_true rfl, Nat.le_of_ble_eq_true rfl⟩) hw hA (fun u H locs he hw => ?_)
    refine lv_goto (tgt := 239) hx hb d_A_step_124 (by decide) ?_
    have hw : yH D ycl (va_A (yW cc ad LL X σ) sz) sv.heap H locs (yW cc ad LL X (yo_give (yo_take σ y c0) y i 0 ((s_rg σ y c0 ((s_ch σ y c0).2.1 % 8))))) := hw
    have hac : s_ac (yo_give (yo_take σ y c0) y i 0 ((s_rg σ y c0 ((s_ch σ y c0).2.1 % 8)))) y i = s_ac σ y i := by rw [ac_give]; rfl
    refine lv_aload_n hx hb d_A_step_239 rfl (lv_at hl 0 rfl) ?_
    refine lv_dup hx hb d_A_step_240 rfl ?_
    refine yr_get (C := R_A) (T := F_A) (N := 8) (ci := k_A) hx hb ht j_A hown hK.1 hw (by assumption) (by rfl) rfl 7 (by decide) (ht _ mf_A_40) (fun _ h9 => h9) (by rfl) d_A_step_241 ?_
    rw [hac]
    refine lv_iconst (v := 1) hx hb d_A_step_244 (by decide) ?_
    refine lv_iadd hx hb d_A_step_245 ?_
    rw [nI_1]
    refine yr_put (ty := .int) (C := R_A) (T := F_A) (N := 8) (ci := k_A) hx hb ht j_A t_A t_A_ok n_A hown hK.1 hw (by assumption) (by rfl) rfl 7 (by decide) (ht _ mf_A_40) (fun _ h9 => h9) rfl (by decide +kernel) rfl rfl (Nat.le_of_ble_eq_true rfl) d_A_step_246 (fun H locs hw => ?_)
    have hw := yw_ac ((s_ac σ y i).1, (s_ac σ y i).2.1, (s_ac σ y i).2.2.1, (s_ac σ y i).2.2.2.1, (s_ac σ y i).2.2.2.2 + 1) hw (by rw [hac]) (by rw [hac]; rfl)
    have hw : yH D ycl (va_A (yW cc ad LL X σ) sz) sv.heap H locs (yW cc ad LL X (yo_tick (yo_give (yo_take σ y c0) y i 0 ((s_rg σ y c0 ((s_ch σ y c0).2.1 % 8)))) y i)) := by unfold yo_tick; rw [hac]; exact hw
    exact ye_v hI (yo_tick (yo_give (yo_take σ y c0) y i 0 ((s_rg σ y c0 ((s_ch σ y c0).2.1 % 8)))) y i) (y3_fin hi hn h100 hk e0 hp0 hr hac) hw d_A_step_249
  · rw [yp_can4 (T := s_T σ y) h100 hk] at hc
    obtain ⟨q0, q2⟩ := (Bool.and_eq_true _ _).mp hc
    obtain ⟨q1, q3⟩ := (Bool.and_eq_true _ _).mp q0
    obtain ⟨c0, e0, hp0⟩ := yh_inv q1
    obtain ⟨c1, e1, hp1⟩ := yh_inv q3
    have hc1 := hv_take hi (show 0 ≠ 1 by omega) e0 e1 hp1
    have hp1t : 0 < (s_ch (yo_take σ y c0) y c1).2.2 := by rw [hc1]; exact hp1
    have hi1 := I_take hi hp0
    have hi2 := I_take hi1 hp1t
    have hL1 := (yX_take (σ := σ) (y := y) (c := c0)).L hL
    have hL2 := (yX_take (σ := yo_take σ y c0) (y := y) (c := c1)).L hL1
    have hr := yrm_take (c := c1) (yrm_take (c := c0) (yrm_of q2))
    refine lv_aload_n hx hb d_A_step_0 rfl (lv_at hl 0 rfl) ?_
    refine yr_get (C := R_A) (T := F_A) (N := 8) (ci := k_A) hx hb ht j_A hown hK.1 hw (by assumption) (by rfl) rfl 0 (by decide) (ht _ mf_A_9) (fun _ h9 => h9) (by rfl) d_A_step_1 ?_
    rw [hk]
    refine lv_tableIn (off := 123) (tgt := 127) hx hb d_A_step_4 (by decide +kernel) (by decide +kernel) (by decide +kernel) (by decide) ?_
    refine lv_aload_n hx hb d_A_step_127 rfl (lv_at hl 0 rfl) ?_
    refine lv_iconst (v := (nI 0)) hx hb d_A_step_128 (by decide) ?_
    refine lv_aload_n hx hb d_A_step_129 rfl (lv_at hl 0 rfl) ?_
    refine lv_iconst (v := (nI 0)) hx hb d_A_step_130 (by decide) ?_
    refine yc_i (va_runV (As := [.int _]) (rest := [.int _, .ref _]) ⟨hx, hb, hml, hown, hts⟩ (c_A_take l D cc ad LL X b0 _ σ hL y i hy hn hi 0 (by omega) c0 e0 hp0) (cwV 1 hts (yg_call mc_A_take ml_A_71 mm_A_take ms_A_take mi_A) rfl rfl rfl (by decide +kernel) ⟨Nat.le_of_ble_eq_true rfl, Nat.le_of_ble_eq_true rfl⟩) (y_preV hI hw (y_recv hK.1 hw h5 (by rfl) rfl)) rfl rfl hl.1 rfl (lv_room (Nat.le_of_ble_eq_true rfl)) d_A_step_131 ⟨Nat.le_of_ble_eq_true rfl, Nat.le_of_ble_eq_true rfl⟩) hw hA (fun r u H locs he hw => ?_)
    subst he
    refine lv_aload_n hx hb d_A_step_134 rfl (lv_at hl 0 rfl) ?_
    refine lv_iconst (v := (nI 1)) hx hb d_A_step_135 (by decide) ?_
    refine yc_i (va_runV (As := [.int _]) (rest := [.int _, .int _, .ref _]) ⟨hx, hb, hml, hown, hts⟩ (c_A_take l D cc ad LL X b0 _ (yo_take σ y c0) hL1 y i hy hn hi1 1 (by omega) c1 e1 hp1t) (cwV 1 hts (yg_call mc_A_take ml_A_71 mm_A_take ms_A_take mi_A) rfl rfl rfl (by decide +kernel) ⟨Nat.le_of_ble_eq_true rfl, Nat.le_of_ble_eq_true rfl⟩) (y_preV hI hw (y_recv hK.1 hw h5 (by rfl) rfl)) rfl rfl hl.1 rfl (lv_room (Nat.le_of_ble_eq_true rfl)) d_A_step_136 ⟨Nat.le_of_ble_eq_true rfl, Nat.le_of_ble_eq_true rfl⟩) hw hA (fun r u H locs he hw => ?_)
    subst he
    rw [hc1]
    refine lv_iadd hx hb d_A_step_139 ?_
    refine yc_v (va_runV (As := [.int _, .int _]) (rest := []) ⟨hx, hb, hml, hown, hts⟩ (c_A_give l D cc ad LL X b0 _ (yo_take (yo_take σ y c0) y c1) hL2 y i hy hn hi2 0 (by omega) _) (cwV 2 hts (yg_call mc_A_give ml_A_67 mm_A_give ms_A_give mi_A) rfl rfl rfl (by decide +kernel) ⟨Nat.le_of_ble_eq_true rfl, Nat.le_of_ble_eq_true rfl⟩) (y_preV hI hw (y_recv hK.1 hw h5 (by rfl) rfl)) rfl rfl hl.1 rfl (lv_room (Nat.le_of_ble_eq_true rfl)) d_A_step_140 ⟨Nat.le_of_ble_eq_true rfl, Nat.le_of_ble_eq_true rfl⟩) hw hA (fun u H locs he hw => ?_)
    refine lv_goto (tgt := 239) hx hb d_A_step_143 (by decide) ?_
    have hw : yH D ycl (va_A (yW cc ad LL X σ) sz) sv.heap H locs (yW cc ad LL X (yo_give (yo_take (yo_take σ y c0) y c1) y i 0 (((s_rg σ y c0 ((s_ch σ y c0).2.1 % 8))) + ((s_rg σ y c1 ((s_ch σ y c1).2.1 % 8)))))) := hw
    have hac : s_ac (yo_give (yo_take (yo_take σ y c0) y c1) y i 0 (((s_rg σ y c0 ((s_ch σ y c0).2.1 % 8))) + ((s_rg σ y c1 ((s_ch σ y c1).2.1 % 8))))) y i = s_ac σ y i := by rw [ac_give]; rfl
    refine lv_aload_n hx hb d_A_step_239 rfl (lv_at hl 0 rfl) ?_
    refine lv_dup hx hb d_A_step_240 rfl ?_
    refine yr_get (C := R_A) (T := F_A) (N := 8) (ci := k_A) hx hb ht j_A hown hK.1 hw (by assumption) (by rfl) rfl 7 (by decide) (ht _ mf_A_40) (fun _ h9 => h9) (by rfl) d_A_step_241 ?_
    rw [hac]
    refine lv_iconst (v := 1) hx hb d_A_step_244 (by decide) ?_
    refine lv_iadd hx hb d_A_step_245 ?_
    rw [nI_1]
    refine yr_put (ty := .int) (C := R_A) (T := F_A) (N := 8) (ci := k_A) hx hb ht j_A t_A t_A_ok n_A hown hK.1 hw (by assumption) (by rfl) rfl 7 (by decide) (ht _ mf_A_40) (fun _ h9 => h9) rfl (by decide +kernel) rfl rfl (Nat.le_of_ble_eq_true rfl) d_A_step_246 (fun H locs hw => ?_)
    have hw := yw_ac ((s_ac σ y i).1, (s_ac σ y i).2.1, (s_ac σ y i).2.2.1, (s_ac σ y i).2.2.2.1, (s_ac σ y i).2.2.2.2 + 1) hw (by rw [hac]) (by rw [hac]; rfl)
    have hw : yH D ycl (va_A (yW cc ad LL X σ) sz) sv.heap H locs (yW cc ad LL X (yo_tick (yo_give (yo_take (yo_take σ y c0) y c1) y i 0 (((s_rg σ y c0 ((s_ch σ y c0).2.1 % 8))) + ((s_rg σ y c1 ((s_ch σ y c1).2.1 % 8))))) y i)) := by unfold yo_tick; rw [hac]; exact hw
    exact ye_v hI (yo_tick (yo_give (yo_take (yo_take σ y c0) y c1) y i 0 (((s_rg σ y c0 ((s_ch σ y c0).2.1 % 8))) + ((s_rg σ y c1 ((s_ch σ y c1).2.1 % 8))))) y i) (yStp_mk hi hn (ypl4 (T := s_T σ y) h100 hk (yh_head e0 hp0) (yh_head e1 hp1)) ((yX_take.tr yX_take).tr yX_give) (T_give.trans (T_take.trans T_take)) (by rw [D_give hi2 hr, D_take hp1t, D_take hp0, yq_gv_n, e0, e1]; try rfl) hac (by omega) rfl (I_give hi2 hr)) hw d_A_step_249
  · rw [yp_can5 (T := s_T σ y) h100 hk] at hc
    obtain ⟨q1, q2⟩ := (Bool.and_eq_true _ _).mp hc
    have hr0 := yrm_of q2
    by_cases h0 : (s_ac σ y i).2.2.2.2 = 0
    · refine lv_aload_n hx hb d_A_step_0 rfl (lv_at hl 0 rfl) ?_
      refine yr_get (C := R_A) (T := F_A) (N := 8) (ci := k_A) hx hb ht j_A hown hK.1 hw (by assumption) (by rfl) rfl 0 (by decide) (ht _ mf_A_9) (fun _ h9 => h9) (by rfl) d_A_step_1 ?_
      rw [hk]
      refine lv_tableIn (off := 142) (tgt := 146) hx hb d_A_step_4 (by decide +kernel) (by decide +kernel) (by decide +kernel) (by decide) ?_
      refine lv_aload_n hx hb d_A_step_146 rfl (lv_at hl 0 rfl) ?_
      refine lv_iconst (v := (nI 0)) hx hb d_A_step_147 (by decide) ?_
      refine lv_aload_n hx hb d_A_step_148 rfl (lv_at hl 0 rfl) ?_
      refine yr_get (C := R_A) (T := F_A) (N := 8) (ci := k_A) hx hb ht j_A hown hK.1 hw (by assumption) (by rfl) rfl 7 (by decide) (ht _ mf_A_40) (fun _ h9 => h9) (by rfl) d_A_step_149 ?_
      refine lv_if_ne (tgt := 162) hx hb d_A_step_152 (by decide) (fun c_152 => by exact absurd (by rw [h0]; rfl) c_152) (fun c_152 => ?_)
      refine lv_aload_n hx hb d_A_step_155 rfl (lv_at hl 0 rfl) ?_
      refine yr_get (C := R_A) (T := F_A) (N := 8) (ci := k_A) hx hb ht j_A hown hK.1 hw (by assumption) (by rfl) rfl 1 (by decide) (ht _ mf_A_15) (fun _ h9 => h9) (by rfl) d_A_step_156 ?_
      refine lv_goto (tgt := 167) hx hb d_A_step_159 (by decide) ?_
      refine yc_v (va_runV (As := [.int _, .int _]) (rest := []) ⟨hx, hb, hml, hown, hts⟩ (c_A_give l D cc ad LL X b0 _ σ hL y i hy hn hi 0 (by omega) _) (cwV 2 hts (yg_call mc_A_give ml_A_67 mm_A_give ms_A_give mi_A) rfl rfl rfl (by decide +kernel) ⟨Nat.le_of_ble_eq_true rfl, Nat.le_of_ble_eq_true rfl⟩) (y_preV hI hw (y_recv hK.1 hw h5 (by rfl) rfl)) rfl rfl hl.1 rfl (lv_room (Nat.le_of_ble_eq_true rfl)) d_A_step_167 ⟨Nat.le_of_ble_eq_true rfl, Nat.le_of_ble_eq_true rfl⟩) hw hA (fun u H locs he hw => ?_)
      refine lv_goto (tgt := 239) hx hb d_A_step_170 (by decide) ?_
      have hw : yH D ycl (va_A (yW cc ad LL X σ) sz) sv.heap H locs (yW cc ad LL X (yo_give σ y i 0 (s_ac σ y i).2.1)) := hw
      have hac : s_ac (yo_give σ y i 0 (s_ac σ y i).2.1) y i = s_ac σ y i := by rw [ac_give]
      refine lv_aload_n hx hb d_A_step_239 rfl (lv_at hl 0 rfl) ?_
      refine lv_dup hx hb d_A_step_240 rfl ?_
      refine yr_get (C := R_A) (T := F_A) (N := 8) (ci := k_A) hx hb ht j_A hown hK.1 hw (by assumption) (by rfl) rfl 7 (by decide) (ht _ mf_A_40) (fun _ h9 => h9) (by rfl) d_A_step_241 ?_
      rw [hac]
      refine lv_iconst (v := 1) hx hb d_A_step_244 (by decide) ?_
      refine lv_iadd hx hb d_A_step_245 ?_
      rw [nI_1]
      refine yr_put (ty := .int) (C := R_A) (T := F_A) (N := 8) (ci := k_A) hx hb ht j_A t_A t_A_ok n_A hown hK.1 hw (by assumption) (by rfl) rfl 7 (by decide) (ht _ mf_A_40) (fun _ h9 => h9) rfl (by decide +kernel) rfl rfl (Nat.le_of_ble_eq_true rfl) d_A_step_246 (fun H locs hw => ?_)
      have hw := yw_ac ((s_ac σ y i).1, (s_ac σ y i).2.1, (s_ac σ y i).2.2.1, (s_ac σ y i).2.2.2.1, (s_ac σ y i).2.2.2.2 + 1) hw (by rw [hac]) (by rw [hac]; rfl)
      have hw : yH D ycl (va_A (yW cc ad LL X σ) sz) sv.heap H locs (yW cc ad LL X (yo_tick (yo_give σ y i 0 (s_ac σ y i).2.1) y i)) := by unfold yo_tick; rw [hac]; exact hw
      exact ye_v hI (yo_tick (yo_give σ y i 0 (s_ac σ y i).2.1) y i) (yStp_mk hi hn (ypl5a (T := s_T σ y) h100 hk h0) yX_give T_give (by rw [D_give hi hr0, yq_gv_n, yq_tk_f, yq_tk_f]; try rfl) hac (by omega) rfl (I_give hi hr0)) hw d_A_step_249
    · have q1 : (yp_hd (s_T σ y) (s_D σ y) i 0).isSome = true := by
        rcases (Bool.or_eq_true _ _).mp q1 with h | h
        · exact absurd (of_decide_eq_true h) h0
        · exact h
      obtain ⟨c0, e0, hp0⟩ := yh_inv q1
      have hr := yrm_take (c := c0) hr0
      have hi1 := I_take hi hp0
      have hL1 := (yX_take (σ := σ) (y := y) (c := c0)).L hL
      refine lv_aload_n hx hb d_A_step_0 rfl (lv_at hl 0 rfl) ?_
      refine yr_get (C := R_A) (T := F_A) (N := 8) (ci := k_A) hx hb ht j_A hown hK.1 hw (by assumption) (by rfl) rfl 0 (by decide) (ht _ mf_A_9) (fun _ h9 => h9) (by rfl) d_A_step_1 ?_
      rw [hk]
      refine lv_tableIn (off := 142) (tgt := 146) hx hb d_A_step_4 (by decide +kernel) (by decide +kernel) (by decide +kernel) (by decide) ?_
      refine lv_aload_n hx hb d_A_step_146 rfl (lv_at hl 0 rfl) ?_
      refine lv_iconst (v := (nI 0)) hx hb d_A_step_147 (by decide) ?_
      refine lv_aload_n hx hb d_A_step_148 rfl (lv_at hl 0 rfl) ?_
      refine yr_get (C := R_A) (T := F_A) (N := 8) (ci := k_A) hx hb ht j_A hown hK.1 hw (by assumption) (by rfl) rfl 7 (by decide) (ht _ mf_A_40) (fun _ h9 => h9) (by rfl) d_A_step_149 ?_
      refine lv_if_ne (tgt := 162) hx hb d_A_step_152 (by decide) (fun c_152 => ?_) (fun c_152 => by exact absurd ((nI_eq (by omega) (by omega)).mp (c_152.trans nI_0.symm)) h0)
      refine lv_aload_n hx hb d_A_step_162 rfl (lv_at hl 0 rfl) ?_
      refine lv_iconst (v := (nI 0)) hx hb d_A_step_163 (by decide) ?_
      refine yc_i (va_runV (As := [.int _]) (rest := [.int _, .ref _]) ⟨hx, hb, hml, hown, hts⟩ (c_A_take l D cc ad LL X b0 _ σ hL y i hy hn hi 0 (by omega) c0 e0 hp0) (cwV 1 hts (yg_call mc_A_take ml_A_71 mm_A_take ms_A_take mi_A) rfl rfl rfl (by decide +kernel) ⟨Nat.le_of_ble_eq_true rfl, Nat.le_of_ble_eq_true rfl⟩) (y_preV hI hw (y_recv hK.1 hw h5 (by rfl) rfl)) rfl rfl hl.1 rfl (lv_room (Nat.le_of_ble_eq_true rfl)) d_A_step_164 ⟨Nat.le_of_ble_eq_true rfl, Nat.le_of_ble_eq_true rfl⟩) hw hA (fun r u H locs he hw => ?_)
      subst he
      refine yc_v (va_runV (As := [.int _, .int _]) (rest := []) ⟨hx, hb, hml, hown, hts⟩ (c_A_give l D cc ad LL X b0 _ (yo_take σ y c0) hL1 y i hy hn hi1 0 (by omega) _) (cwV 2 hts (yg_call mc_A_give ml_A_67 mm_A_give ms_A_give mi_A) rfl rfl rfl (by decide +kernel) ⟨Nat.le_of_ble_eq_true rfl, Nat.le_of_ble_eq_true rfl⟩) (y_preV hI hw (y_recv hK.1 hw h5 (by rfl) rfl)) rfl rfl hl.1 rfl (lv_room (Nat.le_of_ble_eq_true rfl)) d_A_step_167 ⟨Nat.le_of_ble_eq_true rfl, Nat.le_of_ble_eq_true rfl⟩) hw hA (fun u H locs he hw => ?_)
      refine lv_goto (tgt := 239) hx hb d_A_step_170 (by decide) ?_
      have hw : yH D ycl (va_A (yW cc ad LL X σ) sz) sv.heap H locs (yW cc ad LL X (yo_give (yo_take σ y c0) y i 0 ((s_rg σ y c0 ((s_ch σ y c0).2.1 % 8))))) := hw
      have hac : s_ac (yo_give (yo_take σ y c0) y i 0 ((s_rg σ y c0 ((s_ch σ y c0).2.1 % 8)))) y i = s_ac σ y i := by rw [ac_give]; rfl
      refine lv_aload_n hx hb d_A_step_239 rfl (lv_at hl 0 rfl) ?_
      refine lv_dup hx hb d_A_step_240 rfl ?_
      refine yr_get (C := R_A) (T := F_A) (N := 8) (ci := k_A) hx hb ht j_A hown hK.1 hw (by assumption) (by rfl) rfl 7 (by decide) (ht _ mf_A_40) (fun _ h9 => h9) (by rfl) d_A_step_241 ?_
      rw [hac]
      refine lv_iconst (v := 1) hx hb d_A_step_244 (by decide) ?_
      refine lv_iadd hx hb d_A_step_245 ?_
      rw [nI_1]
      refine yr_put (ty := .int) (C := R_A) (T := F_A) (N := 8) (ci := k_A) hx hb ht j_A t_A t_A_ok n_A hown hK.1 hw (by assumption) (by rfl) rfl 7 (by decide) (ht _ mf_A_40) (fun _ h9 => h9) rfl (by decide +kernel) rfl rfl (Nat.le_of_ble_eq_true rfl) d_A_step_246 (fun H locs hw => ?_)
      have hw := yw_ac ((s_ac σ y i).1, (s_ac σ y i).2.1, (s_ac σ y i).2.2.1, (s_ac σ y i).2.2.2.1, (s_ac σ y i).2.2.2.2 + 1) hw (by rw [hac]) (by rw [hac]; rfl)
      have hw : yH D ycl (va_A (yW cc ad LL X σ) sz) sv.heap H locs (yW cc ad LL X (yo_tick (yo_give (yo_take σ y c0) y i 0 ((s_rg σ y c0 ((s_ch σ y c0).2.1 % 8)))) y i)) := by unfold yo_tick; rw [hac]; exact hw
      exact ye_v hI (yo_tick (yo_give (yo_take σ y c0) y i 0 ((s_rg σ y c0 ((s_ch σ y c0).2.1 % 8)))) y i) (yStp_mk hi hn (ypl5b (T := s_T σ y) h100 hk h0 (yh_head e0 hp0)) (yX_take.tr yX_give) (T_give.trans T_take) (by rw [D_give hi1 hr, D_take hp0, yq_gv_n, yq_tk_f, e0]; try rfl) hac (by omega) rfl (I_give hi1 hr)) hw d_A_step_249
  · rw [yp_can6 (T := s_T σ y) h100 hk] at hc
    obtain ⟨q1, q2⟩ := (Bool.and_eq_true _ _).mp hc
    obtain ⟨c0, e0, hp0⟩ := yh_inv q1
    have h60 : (s_ac σ y i).2.2.2.2 < 60 := of_decide_eq_true q2
    have hi1 := I_take hi hp0
    have hL1 := (yX_take (σ := σ) (y := y) (c := c0)).L hL
    have ht2 : (s_ac σ y i).2.2.2.2 < yt_rows (s_ac σ y i).1 := by rw [hk]; show _ < 60; omega
    refine lv_aload_n hx hb d_A_step_0 rfl (lv_at hl 0 rfl) ?_
    refine yr_get (C := R_A) (T := F_A) (N := 8) (ci := k_A) hx hb ht j_A hown hK.1 hw (by assumption) (by rfl) rfl 0 (by decide) (ht _ mf_A_9) (fun _ h9 => h9) (by rfl) d_A_step_1 ?_
    rw [hk]
    refine lv_tableIn (off := 169) (tgt := 173) hx hb d_A_step_4 (by decide +kernel) (by decide +kernel) (by decide +kernel) (by decide) ?_
    refine lv_aload_n hx hb d_A_step_173 rfl (lv_at hl 0 rfl) ?_
    refine lv_aload_n hx hb d_A_step_174 rfl (lv_at hl 0 rfl) ?_
    refine lv_iconst (v := (nI 0)) hx hb d_A_step_175 (by decide) ?_
    refine yc_i (va_runV (As := [.int _]) (rest := [.ref _]) ⟨hx, hb, hml, hown, hts⟩ (c_A_take l D cc ad LL X b0 _ σ hL y i hy hn hi 0 (by omega) c0 e0 hp0) (cwV 1 hts (yg_call mc_A_take ml_A_71 mm_A_take ms_A_take mi_A) rfl rfl rfl (by decide +kernel) ⟨Nat.le_of_ble_eq_true rfl, Nat.le_of_ble_eq_true rfl⟩) (y_preV hI hw (y_recv hK.1 hw h5 (by rfl) rfl)) rfl rfl hl.1 rfl (lv_room (Nat.le_of_ble_eq_true rfl)) d_A_step_176 ⟨Nat.le_of_ble_eq_true rfl, Nat.le_of_ble_eq_true rfl⟩) hw hA (fun r u H locs he hw => ?_)
    subst he
    refine yc_v (va_runV (As := [.int _]) (rest := []) ⟨hx, hb, hml, hown, hts⟩ (c_A_keep l D cc ad LL X b0 _ (yo_take σ y c0) hL1 y i hy hn hi1 _ ht2) (cwV 1 hts (yg_call mc_A_keep ml_A_74 mm_A_keep ms_A_keep mi_A) rfl rfl rfl (by decide +kernel) ⟨Nat.le_of_ble_eq_true rfl, Nat.le_of_ble_eq_true rfl⟩) (y_preV hI hw (y_recv hK.1 hw h5 (by rfl) rfl)) rfl rfl hl.1 rfl (lv_room (Nat.le_of_ble_eq_true rfl)) d_A_step_179 ⟨Nat.le_of_ble_eq_true rfl, Nat.le_of_ble_eq_true rfl⟩) hw hA (fun u H locs he hw => ?_)
    refine lv_goto (tgt := 239) hx hb d_A_step_182 (by decide) ?_
    have hw : yH D ycl (va_A (yW cc ad LL X σ) sz) sv.heap H locs (yW cc ad LL X (yo_keep (yo_take σ y c0) y i ((s_rg σ y c0 ((s_ch σ y c0).2.1 % 8))))) := hw
    have hac : s_ac (yo_keep (yo_take σ y c0) y i ((s_rg σ y c0 ((s_ch σ y c0).2.1 % 8)))) y i = s_ac σ y i := rfl
    refine lv_aload_n hx hb d_A_step_239 rfl (lv_at hl 0 rfl) ?_
    refine lv_dup hx hb d_A_step_240 rfl ?_
    refine yr_get (C := R_A) (T := F_A) (N := 8) (ci := k_A) hx hb ht j_A hown hK.1 hw (by assumption) (by rfl) rfl 7 (by decide) (ht _ mf_A_40) (fun _ h9 => h9) (by rfl) d_A_step_241 ?_
    rw [hac]
    refine lv_iconst (v := 1) hx hb d_A_step_244 (by decide) ?_
    refine lv_iadd hx hb d_A_step_245 ?_
    rw [nI_1]
    refine yr_put (ty := .int) (C := R_A) (T := F_A) (N := 8) (ci := k_A) hx hb ht j_A t_A t_A_ok n_A hown hK.1 hw (by assumption) (by rfl) rfl 7 (by decide) (ht _ mf_A_40) (fun _ h9 => h9) rfl (by decide +kernel) rfl rfl (Nat.le_of_ble_eq_true rfl) d_A_step_246 (fun H locs hw => ?_)
    have hw := yw_ac ((s_ac σ y i).1, (s_ac σ y i).2.1, (s_ac σ y i).2.2.1, (s_ac σ y i).2.2.2.1, (s_ac σ y i).2.2.2.2 + 1) hw (by rw [hac]) (by rw [hac]; rfl)
    have hw : yH D ycl (va_A (yW cc ad LL X σ) sz) sv.heap H locs (yW cc ad LL X (yo_tick (yo_keep (yo_take σ y c0) y i ((s_rg σ y c0 ((s_ch σ y c0).2.1 % 8)))) y i)) := by unfold yo_tick; rw [hac]; exact hw
    exact ye_v hI (yo_tick (yo_keep (yo_take σ y c0) y i ((s_rg σ y c0 ((s_ch σ y c0).2.1 % 8)))) y i) (yStp_mk6 hi hn hk h60 (ypl6 (T := s_T σ y) h100 hk h60 (yh_head e0 hp0)) e0 hp0 rfl) hw d_A_step_249
  · rw [yp_can7 (T := s_T σ y) h100 hk] at hc
    obtain ⟨q0, q2⟩ := (Bool.and_eq_true _ _).mp hc
    obtain ⟨q1, q3⟩ := (Bool.and_eq_true _ _).mp q0
    obtain ⟨c0, e0, hp0⟩ := yh_inv q1
    obtain ⟨c1, e1, hp1⟩ := yh_inv q3
    have hc1 := hv_take hi (show 0 ≠ 1 by omega) e0 e1 hp1
    have hp1t : 0 < (s_ch (yo_take σ y c0) y c1).2.2 := by rw [hc1]; exact hp1
    have hi1 := I_take hi hp0
    have hi2 := I_take hi1 hp1t
    have hL1 := (yX_take (σ := σ) (y := y) (c := c0)).L hL
    have hL2 := (yX_take (σ := yo_take σ y c0) (y := y) (c := c1)).L hL1
    have hpl := ypl7 (T := s_T σ y) h100 hk (yh_head e0 hp0) (yh_head e1 hp1)
    by_cases h0 : ((s_rg σ y c0 ((s_ch σ y c0).2.1 % 8))) = 0
    · rw [if_pos h0] at hpl
      refine lv_aload_n hx hb d_A_step_0 rfl (lv_at hl 0 rfl) ?_
      refine yr_get (C := R_A) (T := F_A) (N := 8) (ci := k_A) hx hb ht j_A hown hK.1 hw (by assumption) (by rfl) rfl 0 (by decide) (ht _ mf_A_9) (fun _ h9 => h9) (by rfl) d_A_step_1 ?_
      rw [hk]
      refine lv_tableIn (off := 181) (tgt := 185) hx hb d_A_step_4 (by decide +kernel) (by decide +kernel) (by decide +kernel) (by decide) ?_
      refine lv_aload_n hx hb d_A_step_185 rfl (lv_at hl 0 rfl) ?_
      refine lv_iconst (v := (nI 0)) hx hb d_A_step_186 (by decide) ?_
      refine yc_i (va_runV (As := [.int _]) (rest := []) ⟨hx, hb, hml, hown, hts⟩ (c_A_take l D cc ad LL X b0 _ σ hL y i hy hn hi 0 (by omega) c0 e0 hp0) (cwV 1 hts (yg_call mc_A_take ml_A_71 mm_A_take ms_A_take mi_A) rfl rfl rfl (by decide +kernel) ⟨Nat.le_of_ble_eq_true rfl, Nat.le_of_ble_eq_true rfl⟩) (y_preV hI hw (y_recv hK.1 hw h5 (by rfl) rfl)) rfl rfl hl.1 rfl (lv_room (Nat.le_of_ble_eq_true rfl)) d_A_step_187 ⟨Nat.le_of_ble_eq_true rfl, Nat.le_of_ble_eq_true rfl⟩) hw hA (fun r u H locs he hw => ?_)
      subst he
      refine lv_if_eq (tgt := 197) hx hb d_A_step_190 (by decide) (fun c_190 => ?_) (fun c_190 => by exact absurd h0 c_190)
      refine lv_iconst (v := 0) hx hb d_A_step_197 (by decide) ?_
      refine lv_istore_n (lv' := [(1, .int _), (0, .ref _)]) hx hb d_A_step_198 rfl hl (by decide) rfl (fun ls hl => ?_)
      refine lv_aload_n hx hb d_A_step_199 rfl (lv_at hl 1 rfl) ?_
      refine lv_iconst (v := (nI 1)) hx hb d_A_step_200 (by decide) ?_
      refine yc_i (va_runV (As := [.int _]) (rest := []) ⟨hx, hb, hml, hown, hts⟩ (c_A_take l D cc ad LL X b0 _ (yo_take σ y c0) hL1 y i hy hn hi1 1 (by omega) c1 e1 hp1t) (cwV 1 hts (yg_call mc_A_take ml_A_71 mm_A_take ms_A_take mi_A) rfl rfl rfl (by decide +kernel) ⟨Nat.le_of_ble_eq_true rfl, Nat.le_of_ble_eq_true rfl⟩) (y_preV hI hw (y_recv hK.1 hw h5 (by rfl) rfl)) rfl rfl hl.1 rfl (lv_room (Nat.le_of_ble_eq_true rfl)) d_A_step_201 ⟨Nat.le_of_ble_eq_true rfl, Nat.le_of_ble_eq_true rfl⟩) hw hA (fun r u H locs he hw => ?_)
      subst he
      rw [hc1]
      refine lv_istore_n (lv' := [(2, .int _), (1, .int _), (0, .ref _)]) hx hb d_A_step_204 rfl hl (by decide) rfl (fun ls hl => ?_)
      refine lv_iload_n hx hb d_A_step_205 rfl (lv_at hl 1 rfl) ?_
      refine lv_if_eq (tgt := 239) hx hb d_A_step_206 (by decide) (fun c_206 => ?_) (fun c_206 => by exact absurd rfl c_206)
      have hw : yH D ycl (va_A (yW cc ad LL X σ) sz) sv.heap H locs (yW cc ad LL X (yo_take (yo_take σ y c0) y c1)) := hw
      have hac : s_ac (yo_take (yo_take σ y c0) y c1) y i = s_ac σ y i := rfl
      refine lv_aload_n hx hb d_A_step_239 rfl (lv_at hl 2 rfl) ?_
      refine lv_dup hx hb d_A_step_240 rfl ?_
      refine yr_get (C := R_A) (T := F_A) (N := 8) (ci := k_A) hx hb ht j_A hown hK.1 hw (by assumption) (by rfl) rfl 7 (by decide) (ht _ mf_A_40) (fun _ h9 => h9) (by rfl) d_A_step_241 ?_
      rw [hac]
      refine lv_iconst (v := 1) hx hb d_A_step_244 (by decide) ?_
      refine lv_iadd hx hb d_A_step_245 ?_
      rw [nI_1]
      refine yr_put (ty := .int) (C := R_A) (T := F_A) (N := 8) (ci := k_A) hx hb ht j_A t_A t_A_ok n_A hown hK.1 hw (by assumption) (by rfl) rfl 7 (by decide) (ht _ mf_A_40) (fun _ h9 => h9) rfl (by decide +kernel) rfl rfl (Nat.le_of_ble_eq_true rfl) d_A_step_246 (fun H locs hw => ?_)
      have hw := yw_ac ((s_ac σ y i).1, (s_ac σ y i).2.1, (s_ac σ y i).2.2.1, (s_ac σ y i).2.2.2.1, (s_ac σ y i).2.2.2.2 + 1) hw (by rw [hac]) (by rw [hac]; rfl)
      have hw : yH D ycl (va_A (yW cc ad LL X σ) sz) sv.heap H locs (yW cc ad LL X (yo_tick (yo_take (yo_take σ y c0) y c1) y i)) := by unfold yo_tick; rw [hac]; exact hw
      exact ye_v hI (yo_tick (yo_take (yo_take σ y c0) y c1) y i) (yStp_mk hi hn hpl (yX_take.tr yX_take) (T_take.trans T_take) (by rw [D_take hp1t, D_take hp0, yq_gv_n, yq_gv_n, e0, e1]; try rfl) hac (by omega) rfl hi2) hw d_A_step_249
    · rw [if_neg h0] at hpl
      have q2 : yp_roomb (s_T σ y) (s_D σ y) i 0 = true := by
        rcases (Bool.or_eq_true _ _).mp q2 with h | h
        · have h := of_decide_eq_true h
          rw [yh_head e0 hp0] at h
          exact absurd (Option.some.inj h) h0
        · exact h
      have hr := yrm_take (c := c1) (yrm_take (c := c0) (yrm_of q2))
      refine lv_aload_n hx hb d_A_step_0 rfl (lv_at hl 0 rfl) ?_
      refine yr_get (C := R_A) (T := F_A) (N := 8) (ci := k_A) hx hb ht j_A hown hK.1 hw (by assumption) (by rfl) rfl 0 (by decide) (ht _ mf_A_9) (fun _ h9 => h9) (by rfl) d_A_step_1 ?_
      rw [hk]
      refine lv_tableIn (off := 181) (tgt := 185) hx hb d_A_step_4 (by decide +kernel) (by decide +kernel) (by decide +kernel) (by decide) ?_
      refine lv_aload_n hx hb d_A_step_185 rfl (lv_at hl 0 rfl) ?_
      refine lv_iconst (v := (nI 0)) hx hb d_A_step_186 (by decide) ?_
      refine yc_i (va_runV (As := [.int _]) (rest := []) ⟨hx, hb, hml, hown, hts⟩ (c_A_take l D cc ad LL X b0 _ σ hL y i hy hn hi 0 (by omega) c0 e0 hp0) (cwV 1 hts (yg_call mc_A_take ml_A_71 mm_A_take ms_A_take mi_A) rfl rfl rfl (by decide +kernel) ⟨Nat.le_of_ble_eq_true rfl, Nat.le_of_ble_eq_true rfl⟩) (y_preV hI hw (y_recv hK.1 hw h5 (by rfl) rfl)) rfl rfl hl.1 rfl (lv_room (Nat.le_of_ble_eq_true rfl)) d_A_step_187 ⟨Nat.le_of_ble_eq_true rfl, Nat.le_of_ble_eq_true rfl⟩) hw hA (fun r u H locs he hw => ?_)
      subst he
      refine lv_if_eq (tgt := 197) hx hb d_A_step_190 (by decide) (fun c_190 => by exact absurd c_190 h0) (fun c_190 => ?_)
      refine lv_iconst (v := 1) hx hb d_A_step_193 (by decide) ?_
      refine lv_goto (tgt := 198) hx hb d_A_step_194 (by decide) ?_
      refine lv_istore_n (lv' := [(1, .int _), (0, .ref _)]) hx hb d_A_step_198 rfl hl (by decide) rfl (fun ls hl => ?_)
      refine lv_aload_n hx hb d_A_step_199 rfl (lv_at hl 1 rfl) ?_
      refine lv_iconst (v := (nI 1)) hx hb d_A_step_200 (by decide) ?_
      refine yc_i (va_runV (As := [.int _]) (rest := []) ⟨hx, hb, hml, hown, hts⟩ (c_A_take l D cc ad LL X b0 _ (yo_take σ y c0) hL1 y i hy hn hi1 1 (by omega) c1 e1 hp1t) (cwV 1 hts (yg_call mc_A_take ml_A_71 mm_A_take ms_A_take mi_A) rfl rfl rfl (by decide +kernel) ⟨Nat.le_of_ble_eq_true rfl, Nat.le_of_ble_eq_true rfl⟩) (y_preV hI hw (y_recv hK.1 hw h5 (by rfl) rfl)) rfl rfl hl.1 rfl (lv_room (Nat.le_of_ble_eq_true rfl)) d_A_step_201 ⟨Nat.le_of_ble_eq_true rfl, Nat.le_of_ble_eq_true rfl⟩) hw hA (fun r u H locs he hw => ?_)
      subst he
      rw [hc1]
      refine lv_istore_n (lv' := [(2, .int _), (1, .int _), (0, .ref _)]) hx hb d_A_step_204 rfl hl (by decide) rfl (fun ls hl => ?_)
      refine lv_iload_n hx hb d_A_step_205 rfl (lv_at hl 1 rfl) ?_
      refine lv_if_eq (tgt := 239) hx hb d_A_step_206 (by decide) (fun c_206 => by exact absurd c_206 (by decide)) (fun c_206 => ?_)
      refine lv_aload_n hx hb d_A_step_209 rfl (lv_at hl 2 rfl) ?_
      refine lv_iconst (v := (nI 0)) hx hb d_A_step_210 (by decide) ?_
      refine lv_iload_n hx hb d_A_step_211 rfl (lv_at hl 0 rfl) ?_
      refine yc_v (va_runV (As := [.int _, .int _]) (rest := []) ⟨hx, hb, hml, hown, hts⟩ (c_A_give l D cc ad LL X b0 _ (yo_take (yo_take σ y c0) y c1) hL2 y i hy hn hi2 0 (by omega) _) (cwV 2 hts (yg_call mc_A_give ml_A_67 mm_A_give ms_A_give mi_A) rfl rfl rfl (by decide +kernel) ⟨Nat.le_of_ble_eq_true rfl, Nat.le_of_ble_eq_true rfl⟩) (y_preV hI hw (y_recv hK.1 hw h5 (by rfl) rfl)) rfl rfl hl.1 rfl (lv_room (Nat.le_of_ble_eq_true rfl)) d_A_step_212 ⟨Nat.le_of_ble_eq_true rfl, Nat.le_of_ble_eq_true rfl⟩) hw hA (fun u H locs he hw => ?_)
      refine lv_goto (tgt := 239) hx hb d_A_step_215 (by decide) ?_
      have hw : yH D ycl (va_A (yW cc ad LL X σ) sz) sv.heap H locs (yW cc ad LL X (yo_give (yo_take (yo_take σ y c0) y c1) y i 0 ((s_rg σ y c1 ((s_ch σ y c1).2.1 % 8))))) := hw
      have hac : s_ac (yo_give (yo_take (yo_take σ y c0) y c1) y i 0 ((s_rg σ y c1 ((s_ch σ y c1).2.1 % 8)))) y i = s_ac σ y i := by rw [ac_give]; rfl
      refine lv_aload_n hx hb d_A_step_239 rfl (lv_at hl 2 rfl) ?_
      refine lv_dup hx hb d_A_step_240 rfl ?_
      refine yr_get (C := R_A) (T := F_A) (N := 8) (ci := k_A) hx hb ht j_A hown hK.1 hw (by assumption) (by rfl) rfl 7 (by decide) (ht _ mf_A_40) (fun _ h9 => h9) (by rfl) d_A_step_241 ?_
      rw [hac]
      refine lv_iconst (v := 1) hx hb d_A_step_244 (by decide) ?_
      refine lv_iadd hx hb d_A_step_245 ?_
      rw [nI_1]
      refine yr_put (ty := .int) (C := R_A) (T := F_A) (N := 8) (ci := k_A) hx hb ht j_A t_A t_A_ok n_A hown hK.1 hw (by assumption) (by rfl) rfl 7 (by decide) (ht _ mf_A_40) (fun _ h9 => h9) rfl (by decide +kernel) rfl rfl (Nat.le_of_ble_eq_true rfl) d_A_step_246 (fun H locs hw => ?_)
      have hw := yw_ac ((s_ac σ y i).1, (s_ac σ y i).2.1, (s_ac σ y i).2.2.1, (s_ac σ y i).2.2.2.1, (s_ac σ y i).2.2.2.2 + 1) hw (by rw [hac]) (by rw [hac]; rfl)
      have hw : yH D ycl (va_A (yW cc ad LL X σ) sz) sv.heap H locs (yW cc ad LL X (yo_tick (yo_give (yo_take (yo_take σ y c0) y c1) y i 0 ((s_rg σ y c1 ((s_ch σ y c1).2.1 % 8)))) y i)) := by unfold yo_tick; rw [hac]; exact hw
      exact ye_v hI (yo_tick (yo_give (yo_take (yo_take σ y c0) y c1) y i 0 ((s_rg σ y c1 ((s_ch σ y c1).2.1 % 8)))) y i) (yStp_mk hi hn hpl ((yX_take.tr yX_take).tr yX_give) (T_give.trans (T_take.trans T_take)) (by rw [D_give hi2 hr, D_take hp1t, D_take hp0, yq_gv_n, e0, e1]; try rfl) hac (by omega) rfl (I_give hi2 hr)) hw d_A_step_249
  · rw [yp_can8 (T := s_T σ y) h100 hk] at hc
    obtain ⟨q0, q3⟩ := (Bool.and_eq_true _ _).mp hc
    obtain ⟨q1, q2⟩ := (Bool.and_eq_true _ _).mp q0
    obtain ⟨c0, e0, hp0⟩ := yh_inv q1
    have hr := yrm_take (c := c0) (yrm_of q2)
    have hr1 := yrm_take (c := c0) (yrm_of q3)
    have hi1 := I_take hi hp0
    have hL1 := (yX_take (σ := σ) (y := y) (c := c0)).L hL
    have hi2 := I_give (v := ((s_rg σ y c0 ((s_ch σ y c0).2.1 % 8)))) hi1 hr
    have hr2 := yrm_give (v := ((s_rg σ y c0 ((s_ch σ y c0).2.1 % 8)))) hi1 (show 0 ≠ 1 by omega) hr1
    have hx2 := yX_give (σ := yo_take σ y c0) (y := y) (i := i) (j := 0) (v := ((s_rg σ y c0 ((s_ch σ y c0).2.1 % 8))))
    have hL2 := hx2.L hL1
    have hn2 : i < s_n (yo_give (yo_take σ y c0) y i 0 ((s_rg σ y c0 ((s_ch σ y c0).2.1 % 8)))) y := by rw [hx2.sn]; exact hn
    refine lv_aload_n hx hb d_A_step_0 rfl (lv_at hl 0 rfl) ?_
    refine yr_get (C := R_A) (T := F_A) (N := 8) (ci := k_A) hx hb ht j_A hown hK.1 hw (by assumption) (by rfl) rfl 0 (by decide) (ht _ mf_A_9) (fun _ h9 => h9) (by rfl) d_A_step_1 ?_
    rw [hk]
    refine lv_tableIn (off := 214) (tgt := 218) hx hb d_A_step_4 (by decide +kernel) (by decide +kernel) (by decide +kernel) (by decide) ?_
    refine lv_aload_n hx hb d_A_step_218 rfl (lv_at hl 0 rfl) ?_
    refine lv_iconst (v := (nI 0)) hx hb d_A_step_219 (by decide) ?_
    refine yc_i (va_runV (As := [.int _]) (rest := []) ⟨hx, hb, hml, hown, hts⟩ (c_A_take l D cc ad LL X b0 _ σ hL y i hy hn hi 0 (by omega) c0 e0 hp0) (cwV 1 hts (yg_call mc_A_take ml_A_71 mm_A_take ms_A_take mi_A) rfl rfl rfl (by decide +kernel) ⟨Nat.le_of_ble_eq_true rfl, Nat.le_of_ble_eq_true rfl⟩) (y_preV hI hw (y_recv hK.1 hw h5 (by rfl) rfl)) rfl rfl hl.1 rfl (lv_room (Nat.le_of_ble_eq_true rfl)) d_A_step_220 ⟨Nat.le_of_ble_eq_true rfl, Nat.le_of_ble_eq_true rfl⟩) hw hA (fun r u H locs he hw => ?_)
    subst he
    refine lv_istore_n (lv' := [(3, .int _), (0, .ref _)]) hx hb d_A_step_223 rfl hl (by decide) rfl (fun ls hl => ?_)
    refine lv_aload_n hx hb d_A_step_224 rfl (lv_at hl 1 rfl) ?_
    refine lv_iconst (v := (nI 0)) hx hb d_A_step_225 (by decide) ?_
    refine lv_iload_n hx hb d_A_step_226 rfl (lv_at hl 0 rfl) ?_
    refine yc_v (va_runV (As := [.int _, .int _]) (rest := []) ⟨hx, hb, hml, hown, hts⟩ (c_A_give l D cc ad LL X b0 _ (yo_take σ y c0) hL1 y i hy hn hi1 0 (by omega) _) (cwV 2 hts (yg_call mc_A_give ml_A_67 mm_A_give ms_A_give mi_A) rfl rfl rfl (by decide +kernel) ⟨Nat.le_of_ble_eq_true rfl, Nat.le_of_ble_eq_true rfl⟩) (y_preV hI hw (y_recv hK.1 hw h5 (by rfl) rfl)) rfl rfl hl.1 rfl (lv_room (Nat.le_of_ble_eq_true rfl)) d_A_step_227 ⟨Nat.le_of_ble_eq_true rfl, Nat.le_of_ble_eq_true rfl⟩) hw hA (fun u H locs he hw => ?_)
    refine lv_aload_n hx hb d_A_step_230 rfl (lv_at hl 1 rfl) ?_
    refine lv_iconst (v := (nI 1)) hx hb d_A_step_231 (by decide) ?_
    refine lv_iload_n hx hb d_A_step_232 rfl (lv_at hl 0 rfl) ?_
    refine yc_v (va_runV (As := [.int _, .int _]) (rest := []) ⟨hx, hb, hml, hown, hts⟩ (c_A_give l D cc ad LL X b0 _ (yo_give (yo_take σ y c0) y i 0 ((s_rg σ y c0 ((s_ch σ y c0).2.1 % 8)))) hL2 y i hy hn2 hi2 1 (by omega) _) (cwV 2 hts (yg_call mc_A_give ml_A_67 mm_A_give ms_A_give mi_A) rfl rfl rfl (by decide +kernel) ⟨Nat.le_of_ble_eq_true rfl, Nat.le_of_ble_eq_true rfl⟩) (y_preV hI hw (y_recv hK.1 hw h5 (by rfl) rfl)) rfl rfl hl.1 rfl (lv_room (Nat.le_of_ble_eq_true rfl)) d_A_step_233 ⟨Nat.le_of_ble_eq_true rfl, Nat.le_of_ble_eq_true rfl⟩) hw hA (fun u H locs he hw => ?_)
    refine lv_goto (tgt := 239) hx hb d_A_step_236 (by decide) ?_
    have hw : yH D ycl (va_A (yW cc ad LL X σ) sz) sv.heap H locs (yW cc ad LL X (yo_give (yo_give (yo_take σ y c0) y i 0 ((s_rg σ y c0 ((s_ch σ y c0).2.1 % 8)))) y i 1 ((s_rg σ y c0 ((s_ch σ y c0).2.1 % 8))))) := hw
    have hac : s_ac (yo_give (yo_give (yo_take σ y c0) y i 0 ((s_rg σ y c0 ((s_ch σ y c0).2.1 % 8)))) y i 1 ((s_rg σ y c0 ((s_ch σ y c0).2.1 % 8)))) y i = s_ac σ y i := by rw [ac_give, ac_give]; rfl
    refine lv_aload_n hx hb d_A_step_239 rfl (lv_at hl 1 rfl) ?_
    refine lv_dup hx hb d_A_step_240 rfl ?_
    refine yr_get (C := R_A) (T := F_A) (N := 8) (ci := k_A) hx hb ht j_A hown hK.1 hw (by assumption) (by rfl) rfl 7 (by decide) (ht _ mf_A_40) (fun _ h9 => h9) (by rfl) d_A_step_241 ?_
    rw [hac]
    refine lv_iconst (v := 1) hx hb d_A_step_244 (by decide) ?_
    refine lv_iadd hx hb d_A_step_245 ?_
    rw [nI_1]
    refine yr_put (ty := .int) (C := R_A) (T := F_A) (N := 8) (ci := k_A) hx hb ht j_A t_A t_A_ok n_A hown hK.1 hw (by assumption) (by rfl) rfl 7 (by decide) (ht _ mf_A_40) (fun _ h9 => h9) rfl (by decide +kernel) rfl rfl (Nat.le_of_ble_eq_true rfl) d_A_step_246 (fun H locs hw => ?_)
    have hw := yw_ac ((s_ac σ y i).1, (s_ac σ y i).2.1, (s_ac σ y i).2.2.1, (s_ac σ y i).2.2.2.1, (s_ac σ y i).2.2.2.2 + 1) hw (by rw [hac]) (by rw [hac]; rfl)
    have hw : yH D ycl (va_A (yW cc ad LL X σ) sz) sv.heap H locs (yW cc ad LL X (yo_tick (yo_give (yo_give (yo_take σ y c0) y i 0 ((s_rg σ y c0 ((s_ch σ y c0).2.1 % 8)))) y i 1 ((s_rg σ y c0 ((s_ch σ y c0).2.1 % 8)))) y i)) := by unfold yo_tick; rw [hac]; exact hw
    exact ye_v hI (yo_tick (yo_give (yo_give (yo_take σ y c0) y i 0 ((s_rg σ y c0 ((s_ch σ y c0).2.1 % 8)))) y i 1 ((s_rg σ y c0 ((s_ch σ y c0).2.1 % 8)))) y i) (yStp_mk hi hn (ypl8 (T := s_T σ y) h100 hk (yh_head e0 hp0)) ((yX_take.tr yX_give).tr yX_give) (T_give.trans (T_give.trans T_take)) (by rw [D_give hi2 hr2, D_give hi1 hr, D_take hp0, oc_give, yq_tk_f, e0]; try rfl) hac (by omega) rfl (I_give hi2 hr2)) hw d_A_step_249
