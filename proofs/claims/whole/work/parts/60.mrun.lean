/-! THE REFERENCE: run -/
theorem mo_sub0 {n : Nat} : nI n - nI 0 = nI n := Int32.sub_zero _
theorem rdy_l0 {T : yp_T} {d : yp_D} {i : Nat} (h : yp_canb T d i = false) : (yp_rdy T d (i + 1)).length = (yp_rdy T d i).length + 0 := by
  rw [yp_rdy_s, if_neg (by rw [h]; decide), List.append_nil]; rfl
theorem rdy_l1 {T : yp_T} {d : yp_D} {i : Nat} (h : yp_canb T d i = true) : (yp_rdy T d (i + 1)).length = (yp_rdy T d i).length + 1 := by
  rw [yp_rdy_s, if_pos h, List.length_append]; rfl
theorem rdy_pre {T : yp_T} {d : yp_D} {i : Nat} : ∀ n, i ≤ n → ∃ R, yp_rdy T d n = yp_rdy T d i ++ R
  | 0, h => ⟨[], by rw [show i = 0 by omega, List.append_nil]⟩
  | n + 1, h => by
    by_cases e : i = n + 1
    · exact ⟨[], by rw [e, List.append_nil]⟩
    · obtain ⟨R, hR⟩ := rdy_pre (T := T) (d := d) (i := i) n (by omega)
      exact ⟨R ++ (if yp_canb T d n = true then [n] else []), by rw [yp_rdy_s, hR, List.append_assoc]⟩
theorem rdy_at {T : yp_T} {d : yp_D} {i n : Nat} (hd : i < n) (h : yp_canb T d i = true) : (yp_rdy T d n).getD ((yp_rdy T d i).length + 0) 0 = i := by
  obtain ⟨R, hR⟩ := rdy_pre (T := T) (d := d) (i := i + 1) n hd
  rw [hR, yp_rdy_s, if_pos h, List.append_assoc, Nat.add_zero, List.getD_eq_getElem?_getD, List.getElem?_append_right (Nat.le_refl _), Nat.sub_self]
  rfl
set_option maxHeartbeats 4000000 in
set_option maxRecDepth 100000 in
theorem c_M_run (l : Launch) (D : va_G) (cc : ClassId × ClassId × ClassId) (ad : yl → Nat) (X : va_W) (b0 sz : Nat) (μ : ms) (hi : mI μ 0) (x0 : Int64) (x : Int32) : Met l y_M_run w_M_run ({ frames := 2, cells := 0, slots := 0, locals := 53 }) (yPr D cc b0 [.ref (ad (20, 0, 0)), .long x0, .int x] (mW cc ad X μ) sz) (va_Qi (fun r μ' => r = (a_run (m_T μ) (m_D μ 0) x0 x).1 ∧ mX μ 0 μ' ∧ mI μ' 0 ∧ m_D μ' 0 = (a_run (m_T μ) (m_D μ 0) x0 x).2) (yB D ycl (mW cc ad X μ) sz (fun μ' => mW cc ad X μ')) (va_A (mW cc ad X μ) sz)) 0 0 (va_A (mW cc ad X μ) sz) := by
  have hn10 := hi.1
  have hc16 := hi.2.1
  rcases yrsplit x with hno | ⟨k, hk, rfl⟩
  · refine y_ofW (cc := b_M_run) (maxL := 10) (ret := (some .int)) (by decide) rfl (Nat.le_of_ble_eq_true rfl) ?_
    intro pv ev sv mv bv tv cv ls hI hsz hw hl
    obtain ⟨hx, hb, hr, hml, hts, hown, hlocks, hnm, hK, hAb, hb0, hA⟩ := id hI
    have ht : ∀ w ∈ lg_tbl, w.before _ sv = true := fun w h => hts w (List.mem_cons_of_mem _ h)
    have hl : lv_has ls 10 [(0, .ref (ad (20, 0, 0))), (1, .long x0), (3, .int x)] := hl
    refine lv_iload_n hx hb d_M_run_0 rfl (lv_at hl 2 rfl) ?_
    refine lv_if_lt (tgt := 11) hx hb d_M_run_1 (by decide) (fun c_1 => ?_) (fun c_1 => ?_)
    · refine lv_iconst (v := (-1)) hx hb d_M_run_11 (by decide) ?_
      exact ye_i hI μ ⟨by unfold a_run; rw [if_pos hno], mX.rf, hi, by unfold a_run; rw [if_pos hno]⟩ hw d_M_run_12
    · refine lv_iload_n hx hb d_M_run_4 rfl (lv_at hl 2 rfl) ?_
      refine lv_sipush (v := (nI 2000)) hx hb d_M_run_5 (by decide) ?_
      refine lv_icmp_le (tgt := 13) hx hb d_M_run_8 (by decide) (fun c_8 => by exact (hno.elim (fun h => absurd h c_1) (fun h => absurd c_8 (Int32.not_le.mpr h)))) (fun c_8 => ?_)
      refine lv_iconst (v := (-1)) hx hb d_M_run_11 (by decide) ?_
      exact ye_i hI μ ⟨by unfold a_run; rw [if_pos hno], mX.rf, hi, by unfold a_run; rw [if_pos hno]⟩ hw d_M_run_12
  · refine y_ofW (cc := b_M_run) (maxL := 10) (ret := (some .int)) (by decide) rfl (Nat.le_of_ble_eq_true rfl) ?_
    intro pv ev sv mv bv tv cv ls hI hsz hw hl
    obtain ⟨hx, hb, hr, hml, hts, hown, hlocks, hnm, hK, hAb, hb0, hA⟩ := id hI
    have ht : ∀ w ∈ lg_tbl, w.before _ sv = true := fun w h => hts w (List.mem_cons_of_mem _ h)
    have hl : lv_has ls 10 [(0, .ref (ad (20, 0, 0))), (1, .long x0), (3, .int (nI k))] := hl
    have cnt : ∀ (μ1 : ms) (dn : Nat) (xx : Int64), mI μ1 0 → (∀ (H : Heap) (locs : List Loc) (ls : Array Slot), yH D ycl (va_A (mW cc ad X μ) sz) sv.heap H locs (mW cc ad X μ1) → lv_has ls 10 [(7, .int (nI (yp_rdy (m_T μ1) (m_D μ1 0) (m_n μ1)).length)), (6, .int (nI dn)), (4, .long xx), (3, .int (nI k)), (0, .ref (ad (20, 0, 0)))] → W pv l ev (headSpec w_M_run ({ frames := 2, cells := 0, slots := 0, locals := 53 })).room sv mv ([.ref (ad (20, 0, 0)), .long x0, .int (nI k)]).toArray bv tv cv H locs 0 0 (MQ bv (va_Qi (fun r μ' => r = (a_run (m_T μ) (m_D μ 0) x0 (nI k)).1 ∧ mX μ 0 μ' ∧ mI μ' 0 ∧ m_D μ' 0 = (a_run (m_T μ) (m_D μ 0) x0 (nI k)).2) (yB D ycl (mW cc ad X μ) sz (fun μ' => mW cc ad X μ')) (va_A (mW cc ad X μ) sz)) ([.ref (ad (20, 0, 0)), .long x0, .int (nI k)]).toArray sv 0 0 (va_A (mW cc ad X μ) sz)) (F0 mv 66 ls [])) → ∀ (f i : Nat) (H : Heap) (locs : List Loc) (ls : Array Slot), i + f = m_n μ1 → yH D ycl (va_A (mW cc ad X μ) sz) sv.heap H locs (mW cc ad X μ1) → lv_has ls 10 [(8, .int (nI i)), (7, .int (nI (yp_rdy (m_T μ1) (m_D μ1 0) i).length)), (6, .int (nI dn)), (4, .long xx), (3, .int (nI k)), (0, .ref (ad (20, 0, 0)))] → W pv l ev (headSpec w_M_run ({ frames := 2, cells := 0, slots := 0, locals := 53 })).room sv mv ([.ref (ad (20, 0, 0)), .long x0, .int (nI k)]).toArray bv tv cv H locs 0 0 (MQ bv (va_Qi (fun r μ' => r = (a_run (m_T μ) (m_D μ 0) x0 (nI k)).1 ∧ mX μ 0 μ' ∧ mI μ' 0 ∧ m_D μ' 0 = (a_run (m_T μ) (m_D μ 0) x0 (nI k)).2) (yB D ycl (mW cc ad X μ) sz (fun μ' => mW cc ad X μ')) (va_A (mW cc ad X μ) sz)) ([.ref (ad (20, 0, 0)), .long x0, .int (nI k)]).toArray sv 0 0 (va_A (mW cc ad X μ) sz)) (F0 mv 31 ls []) := by
      intro μ1 dn xx hI1 kk f
      have hn1 := hI1.1
      induction f with
      | zero =>
        intro i H locs ls hif hw hl
        have hie : i = m_n μ1 := by omega
        subst hie
        refine lv_iload hx hb d_M_run_31 (lv_at hl 0 rfl) ?_
        refine lv_aload_n hx hb d_M_run_33 rfl (lv_at hl 5 rfl) ?_
        refine yr_get (C := R_M) (T := F_M) (N := 16) (ci := k_M) hx hb ht j_M hown hK.1 hw mL_o (by rfl) rfl 0 (by decide) (ht _ mf_M_52) (fun _ h9 => h9) (by rfl) d_M_run_34 ?_
        refine lv_icmp_ge (tgt := 66) hx hb d_M_run_37 (by decide) (fun c_37 => ?_) (fun c_37 => by exact absurd (nI_le (by omega) (by omega)) c_37)
        exact kk _ _ _ hw (lv_sub hl [1, 2, 3, 4, 5] rfl)
      | succ f ih =>
        intro i H locs ls hif hw hl
        have hd : i < m_n μ1 := by omega
        refine lv_iload hx hb d_M_run_31 (lv_at hl 0 rfl) ?_
        refine lv_aload_n hx hb d_M_run_33 rfl (lv_at hl 5 rfl) ?_
        refine yr_get (C := R_M) (T := F_M) (N := 16) (ci := k_M) hx hb ht j_M hown hK.1 hw mL_o (by rfl) rfl 0 (by decide) (ht _ mf_M_52) (fun _ h9 => h9) (by rfl) d_M_run_34 ?_
        refine lv_icmp_ge (tgt := 66) hx hb d_M_run_37 (by decide) (fun c_37 => by exact absurd c_37 (nI_ge (by omega) (by omega))) (fun c_37 => ?_)
        refine lv_iload hx hb d_M_run_40 (lv_at hl 1 rfl) ?_
        refine lv_aload_n hx hb d_M_run_42 rfl (lv_at hl 5 rfl) ?_
        refine lv_iconst (v := (nI 0)) hx hb d_M_run_43 (by decide) ?_
        refine lv_iload hx hb d_M_run_44 (lv_at hl 0 rfl) ?_
        refine yc_i (va_runV (As := [.int _, .int _]) (rest := [.int _]) ⟨hx, hb, hml, hown, hts⟩ (c_M_canAct l D cc ad X b0 _ μ1 0 i (by omega) hd hI1) (cwV 2 hts (yg_call mc_M_canAct ml_M_88 mm_M_canAct ms_M_canAct mi_M) rfl rfl rfl (by decide +kernel) ⟨Nat.le_of_ble_eq_true rfl, Nat.le_of_ble_eq_true rfl⟩) (y_preV hI hw (y_recv hK.1 hw mL_o (by rfl) rfl)) rfl rfl hl.1 rfl (lv_room (Nat.le_of_ble_eq_true rfl)) d_M_run_46 ⟨Nat.le_of_ble_eq_true rfl, Nat.le_of_ble_eq_true rfl⟩) hw hA (fun r u H locs he hw => ?_)
        subst he
        refine lv_if_eq (tgt := 56) hx hb d_M_run_49 (by decide) (fun c_49 => ?_) (fun c_49 => ?_)
        · have e1 := yb_0 c_49
          refine lv_iconst (v := (nI 0)) hx hb d_M_run_56 (by decide) ?_
          refine lv_iadd hx hb d_M_run_57 ?_
          rw [nI_add]
          refine lv_istore (lv' := [(7, .int _), (8, .int _), (6, .int _), (4, .long _), (3, .int _), (0, .ref _)]) hx hb d_M_run_58 hl (by decide) rfl (fun ls hl => ?_)
          refine lv_iinc (v := nI (i + 1)) (lv' := [(8, .int _), (7, .int _), (6, .int _), (4, .long _), (3, .int _), (0, .ref _)]) hx hb d_M_run_60 hl (k := 1) rfl (yinc i) (by decide) rfl (fun ls hl => ?_)
          refine lv_goto (tgt := 31) hx hb d_M_run_63 (by decide) ?_
          exact ih (i + 1) _ _ _ (by omega) hw (by rw [rdy_l0 e1]; exact lv_sub hl [0, 1, 2, 3, 4, 5] rfl)
        · have e1 := yb_1 c_49
          refine lv_iconst (v := (nI 1)) hx hb d_M_run_52 (by decide) ?_
          refine lv_goto (tgt := 57) hx hb d_M_run_53 (by decide) ?_
          refine lv_iadd hx hb d_M_run_57 ?_
          rw [nI_add]
          refine lv_istore (lv' := [(7, .int _), (8, .int _), (6, .int _), (4, .long _), (3, .int _), (0, .ref _)]) hx hb d_M_run_58 hl (by decide) rfl (fun ls hl => ?_)
          refine lv_iinc (v := nI (i + 1)) (lv' := [(8, .int _), (7, .int _), (6, .int _), (4, .long _), (3, .int _), (0, .ref _)]) hx hb d_M_run_60 hl (k := 1) rfl (yinc i) (by decide) rfl (fun ls hl => ?_)
          refine lv_goto (tgt := 31) hx hb d_M_run_63 (by decide) ?_
          exact ih (i + 1) _ _ _ (by omega) hw (by rw [rdy_l1 e1]; exact lv_sub hl [0, 1, 2, 3, 4, 5] rfl)
    have srch : ∀ (μ1 : ms) (dn : Nat) (xx : Int64) (tg : Nat), mI μ1 0 → tg < (yp_rdy (m_T μ1) (m_D μ1 0) (m_n μ1)).length → (∀ (i : Nat) (H : Heap) (locs : List Loc) (ls : Array Slot), i < m_n μ1 → yp_canb (m_T μ1) (m_D μ1 0) i = true → (yp_rdy (m_T μ1) (m_D μ1 0) (m_n μ1)).getD tg 0 = i → yH D ycl (va_A (mW cc ad X μ) sz) sv.heap H locs (mW cc ad X μ1) → lv_has ls 10 [(9, .int (nI i)), (6, .int (nI dn)), (4, .long xx), (3, .int (nI k)), (0, .ref (ad (20, 0, 0)))] → W pv l ev (headSpec w_M_run ({ frames := 2, cells := 0, slots := 0, locals := 53 })).room sv mv ([.ref (ad (20, 0, 0)), .long x0, .int (nI k)]).toArray bv tv cv H locs 0 0 (MQ bv (va_Qi (fun r μ' => r = (a_run (m_T μ) (m_D μ 0) x0 (nI k)).1 ∧ mX μ 0 μ' ∧ mI μ' 0 ∧ m_D μ' 0 = (a_run (m_T μ) (m_D μ 0) x0 (nI k)).2) (yB D ycl (mW cc ad X μ) sz (fun μ' => mW cc ad X μ')) (va_A (mW cc ad X μ) sz)) ([.ref (ad (20, 0, 0)), .long x0, .int (nI k)]).toArray sv 0 0 (va_A (mW cc ad X μ) sz)) (F0 mv 142 ls [])) → ∀ (f i t : Nat) (H : Heap) (locs : List Loc) (ls : Array Slot), i + f = m_n μ1 → (yp_rdy (m_T μ1) (m_D μ1 0) i).length + t = tg → yH D ycl (va_A (mW cc ad X μ) sz) sv.heap H locs (mW cc ad X μ1) → lv_has ls 10 [(9, .int (nI i)), (8, .int (nI t)), (6, .int (nI dn)), (4, .long xx), (3, .int (nI k)), (0, .ref (ad (20, 0, 0)))] → W pv l ev (headSpec w_M_run ({ frames := 2, cells := 0, slots := 0, locals := 53 })).room sv mv ([.ref (ad (20, 0, 0)), .long x0, .int (nI k)]).toArray bv tv cv H locs 0 0 (MQ bv (va_Qi (fun r μ' => r = (a_run (m_T μ) (m_D μ 0) x0 (nI k)).1 ∧ mX μ 0 μ' ∧ mI μ' 0 ∧ m_D μ' 0 = (a_run (m_T μ) (m_D μ 0) x0 (nI k)).2) (yB D ycl (mW cc ad X μ) sz (fun μ' => mW cc ad X μ')) (va_A (mW cc ad X μ) sz)) ([.ref (ad (20, 0, 0)), .long x0, .int (nI k)]).toArray sv 0 0 (va_A (mW cc ad X μ) sz)) (F0 mv 101 ls []) := by
      intro μ1 dn xx tg hI1 htg kk f
      have hn1 := hI1.1
      have hle := yp_rdy_le (m_T μ1) (m_D μ1 0) (m_n μ1)
      induction f with
      | zero =>
        intro i t H locs ls hif htt hw hl
        have hie : i = m_n μ1 := by omega
        subst hie
        omega
      | succ f ih =>
        intro i t H locs ls hif htt hw hl
        have hd : i < m_n μ1 := by omega
        cases e1 : yp_canb (m_T μ1) (m_D μ1 0) i with
        | false =>
          cases t with
          | zero =>
            refine lv_iload hx hb d_M_run_101 (lv_at hl 1 rfl) ?_
            refine lv_if_gt (tgt := 116) hx hb d_M_run_103 (by decide) (fun c_103 => by exact absurd c_103 (by decide)) (fun c_103 => ?_)
            refine lv_aload_n hx hb d_M_run_106 rfl (lv_at hl 5 rfl) ?_
            refine lv_iconst (v := (nI 0)) hx hb d_M_run_107 (by decide) ?_
            refine lv_iload hx hb d_M_run_108 (lv_at hl 0 rfl) ?_
            refine yc_i (va_runV (As := [.int _, .int _]) (rest := []) ⟨hx, hb, hml, hown, hts⟩ (c_M_canAct l D cc ad X b0 _ μ1 0 i (by omega) hd hI1) (cwV 2 hts (yg_call mc_M_canAct ml_M_88 mm_M_canAct ms_M_canAct mi_M) rfl rfl rfl (by decide +kernel) ⟨Nat.le_of_ble_eq_true rfl, Nat.le_of_ble_eq_true rfl⟩) (y_preV hI hw (y_recv hK.1 hw mL_o (by rfl) rfl)) rfl rfl hl.1 rfl (lv_room (Nat.le_of_ble_eq_true rfl)) d_M_run_110 ⟨Nat.le_of_ble_eq_true rfl, Nat.le_of_ble_eq_true rfl⟩) hw hA (fun r u H locs he hw => ?_)
            subst he
            rw [e1]
            refine lv_if_ne (tgt := 142) hx hb d_M_run_113 (by decide) (fun c_113 => by exact absurd c_113 (by decide)) (fun c_113 => ?_)
            refine lv_iload hx hb d_M_run_116 (lv_at hl 1 rfl) ?_
            refine lv_aload_n hx hb d_M_run_118 rfl (lv_at hl 5 rfl) ?_
            refine lv_iconst (v := (nI 0)) hx hb d_M_run_119 (by decide) ?_
            refine lv_iload hx hb d_M_run_120 (lv_at hl 0 rfl) ?_
            refine yc_i (va_runV (As := [.int _, .int _]) (rest := [.int _]) ⟨hx, hb, hml, hown, hts⟩ (c_M_canAct l D cc ad X b0 _ μ1 0 i (by omega) hd hI1) (cwV 2 hts (yg_call mc_M_canAct ml_M_88 mm_M_canAct ms_M_canAct mi_M) rfl rfl rfl (by decide +kernel) ⟨Nat.le_of_ble_eq_true rfl, Nat.le_of_ble_eq_true rfl⟩) (y_preV hI hw (y_recv hK.1 hw mL_o (by rfl) rfl)) rfl rfl hl.1 rfl (lv_room (Nat.le_of_ble_eq_true rfl)) d_M_run_122 ⟨Nat.le_of_ble_eq_true rfl, Nat.le_of_ble_eq_true rfl⟩) hw hA (fun r u H locs he hw => ?_)
            subst he
            rw [e1]
            refine lv_if_eq (tgt := 132) hx hb d_M_run_125 (by decide) (fun c_125 => ?_) (fun c_125 => by exact absurd (by decide) c_125)
            refine lv_iconst (v := (nI 0)) hx hb d_M_run_132 (by decide) ?_
            refine lv_isub hx hb d_M_run_133 ?_
            rw [mo_sub0]
            refine lv_istore (lv' := [(8, .int _), (9, .int _), (6, .int _), (4, .long _), (3, .int _), (0, .ref _)]) hx hb d_M_run_134 hl (by decide) rfl (fun ls hl => ?_)
            refine lv_iinc (v := nI (i + 1)) (lv' := [(9, .int _), (8, .int _), (6, .int _), (4, .long _), (3, .int _), (0, .ref _)]) hx hb d_M_run_136 hl (k := 1) rfl (yinc i) (by decide) rfl (fun ls hl => ?_)
            refine lv_goto (tgt := 101) hx hb d_M_run_139 (by decide) ?_
            exact ih (i + 1) 0 _ _ _ (by omega) (by rw [rdy_l0 e1]; omega) hw (lv_sub hl [0, 1, 2, 3, 4, 5] rfl)
          | succ t =>
            have htl := yp_rdy_le (m_T μ1) (m_D μ1 0) i
            refine lv_iload hx hb d_M_run_101 (lv_at hl 1 rfl) ?_
            refine lv_if_gt (tgt := 116) hx hb d_M_run_103 (by decide) (fun c_103 => ?_) (fun c_103 => by exact absurd (show (0 : Int32) < nI (t + 1) by rw [← nI_0]; exact nI_lt (by omega) (by omega)) c_103)
            refine lv_iload hx hb d_M_run_116 (lv_at hl 1 rfl) ?_
            refine lv_aload_n hx hb d_M_run_118 rfl (lv_at hl 5 rfl) ?_
            refine lv_iconst (v := (nI 0)) hx hb d_M_run_119 (by decide) ?_
            refine lv_iload hx hb d_M_run_120 (lv_at hl 0 rfl) ?_
            refine yc_i (va_runV (As := [.int _, .int _]) (rest := [.int _]) ⟨hx, hb, hml, hown, hts⟩ (c_M_canAct l D cc ad X b0 _ μ1 0 i (by omega) hd hI1) (cwV 2 hts (yg_call mc_M_canAct ml_M_88 mm_M_canAct ms_M_canAct mi_M) rfl rfl rfl (by decide +kernel) ⟨Nat.le_of_ble_eq_true rfl, Nat.le_of_ble_eq_true rfl⟩) (y_preV hI hw (y_recv hK.1 hw mL_o (by rfl) rfl)) rfl rfl hl.1 rfl (lv_room (Nat.le_of_ble_eq_true rfl)) d_M_run_122 ⟨Nat.le_of_ble_eq_true rfl, Nat.le_of_ble_eq_true rfl⟩) hw hA (fun r u H locs he hw => ?_)
            subst he
            rw [e1]
            refine lv_if_eq (tgt := 132) hx hb d_M_run_125 (by decide) (fun c_125 => ?_) (fun c_125 => by exact absurd (by decide) c_125)
            refine lv_iconst (v := (nI 0)) hx hb d_M_run_132 (by decide) ?_
            refine lv_isub hx hb d_M_run_133 ?_
            rw [mo_sub0]
            refine lv_istore (lv' := [(8, .int _), (9, .int _), (6, .int _), (4, .long _), (3, .int _), (0, .ref _)]) hx hb d_M_run_134 hl (by decide) rfl (fun ls hl => ?_)
            refine lv_iinc (v := nI (i + 1)) (lv' := [(9, .int _), (8, .int _), (6, .int _), (4, .long _), (3, .int _), (0, .ref _)]) hx hb d_M_run_136 hl (k := 1) rfl (yinc i) (by decide) rfl (fun ls hl => ?_)
            refine lv_goto (tgt := 101) hx hb d_M_run_139 (by decide) ?_
            exact ih (i + 1) (t + 1) _ _ _ (by omega) (by rw [rdy_l0 e1]; omega) hw (lv_sub hl [0, 1, 2, 3, 4, 5] rfl)
        | true =>
          cases t with
          | zero =>
            refine lv_iload hx hb d_M_run_101 (lv_at hl 1 rfl) ?_
            refine lv_if_gt (tgt := 116) hx hb d_M_run_103 (by decide) (fun c_103 => by exact absurd c_103 (by decide)) (fun c_103 => ?_)
            refine lv_aload_n hx hb d_M_run_106 rfl (lv_at hl 5 rfl) ?_
            refine lv_iconst (v := (nI 0)) hx hb d_M_run_107 (by decide) ?_
            refine lv_iload hx hb d_M_run_108 (lv_at hl 0 rfl) ?_
            refine yc_i (va_runV (As := [.int _, .int _]) (rest := []) ⟨hx, hb, hml, hown, hts⟩ (c_M_canAct l D cc ad X b0 _ μ1 0 i (by omega) hd hI1) (cwV 2 hts (yg_call mc_M_canAct ml_M_88 mm_M_canAct ms_M_canAct mi_M) rfl rfl rfl (by decide +kernel) ⟨Nat.le_of_ble_eq_true rfl, Nat.le_of_ble_eq_true rfl⟩) (y_preV hI hw (y_recv hK.1 hw mL_o (by rfl) rfl)) rfl rfl hl.1 rfl (lv_room (Nat.le_of_ble_eq_true rfl)) d_M_run_110 ⟨Nat.le_of_ble_eq_true rfl, Nat.le_of_ble_eq_true rfl⟩) hw hA (fun r u H locs he hw => ?_)
            subst he
            rw [e1]
            refine lv_if_ne (tgt := 142) hx hb d_M_run_113 (by decide) (fun c_113 => ?_) (fun c_113 => by exact absurd c_113 (by decide))
            exact kk i _ _ _ hd e1 (by rw [← htt]; exact rdy_at hd e1) hw (lv_sub hl [0, 2, 3, 4, 5] rfl)
          | succ t =>
            have htl := yp_rdy_le (m_T μ1) (m_D μ1 0) i
            refine lv_iload hx hb d_M_run_101 (lv_at hl 1 rfl) ?_
            refine lv_if_gt (tgt := 116) hx hb d_M_run_103 (by decide) (fun c_103 => ?_) (fun c_103 => by exact absurd (show (0 : Int32) < nI (t + 1) by rw [← nI_0]; exact nI_lt (by omega) (by omega)) c_103)
            refine lv_iload hx hb d_M_run_116 (lv_at hl 1 rfl) ?_
            refine lv_aload_n hx hb d_M_run_118 rfl (lv_at hl 5 rfl) ?_
            refine lv_iconst (v := (nI 0)) hx hb d_M_run_119 (by decide) ?_
            refine lv_iload hx hb d_M_run_120 (lv_at hl 0 rfl) ?_
            refine yc_i (va_runV (As := [.int _, .int _]) (rest := [.int _]) ⟨hx, hb, hml, hown, hts⟩ (c_M_canAct l D cc ad X b0 _ μ1 0 i (by omega) hd hI1) (cwV 2 hts (yg_call mc_M_canAct ml_M_88 mm_M_canAct ms_M_canAct mi_M) rfl rfl rfl (by decide +kernel) ⟨Nat.le_of_ble_eq_true rfl, Nat.le_of_ble_eq_true rfl⟩) (y_preV hI hw (y_recv hK.1 hw mL_o (by rfl) rfl)) rfl rfl hl.1 rfl (lv_room (Nat.le_of_ble_eq_true rfl)) d_M_run_122 ⟨Nat.le_of_ble_eq_true rfl, Nat.le_of_ble_eq_true rfl⟩) hw hA (fun r u H locs he hw => ?_)
            subst he
            rw [e1]
            refine lv_if_eq (tgt := 132) hx hb d_M_run_125 (by decide) (fun c_125 => by exact absurd c_125 (by decide)) (fun c_125 => ?_)
            refine lv_iconst (v := (nI 1)) hx hb d_M_run_128 (by decide) ?_
            refine lv_goto (tgt := 133) hx hb d_M_run_129 (by decide) ?_
            refine lv_isub hx hb d_M_run_133 ?_
            rw [mo_sub1]
            refine lv_istore (lv' := [(8, .int _), (9, .int _), (6, .int _), (4, .long _), (3, .int _), (0, .ref _)]) hx hb d_M_run_134 hl (by decide) rfl (fun ls hl => ?_)
            refine lv_iinc (v := nI (i + 1)) (lv' := [(9, .int _), (8, .int _), (6, .int _), (4, .long _), (3, .int _), (0, .ref _)]) hx hb d_M_run_136 hl (k := 1) rfl (yinc i) (by decide) rfl (fun ls hl => ?_)
            refine lv_goto (tgt := 101) hx hb d_M_run_139 (by decide) ?_
            exact ih (i + 1) t _ _ _ (by omega) (by rw [rdy_l1 e1]; omega) hw (lv_sub hl [0, 1, 2, 3, 4, 5] rfl)
    have loop : ∀ (f dn : Nat) (xx : Int64) (μ1 : ms) (H : Heap) (locs : List Loc) (ls : Array Slot), dn + f = k → mX μ 0 μ1 → mI μ1 0 → yp_run (m_T μ) k x0 (m_D μ 0) = ((yp_run (m_T μ) f xx (m_D μ1 0)).1, dn + (yp_run (m_T μ) f xx (m_D μ1 0)).2) → yH D ycl (va_A (mW cc ad X μ) sz) sv.heap H locs (mW cc ad X μ1) → lv_has ls 10 [(6, .int (nI dn)), (4, .long xx), (3, .int (nI k)), (0, .ref (ad (20, 0, 0)))] → W pv l ev (headSpec w_M_run ({ frames := 2, cells := 0, slots := 0, locals := 53 })).room sv mv ([.ref (ad (20, 0, 0)), .long x0, .int (nI k)]).toArray bv tv cv H locs 0 0 (MQ bv (va_Qi (fun r μ' => r = (a_run (m_T μ) (m_D μ 0) x0 (nI k)).1 ∧ mX μ 0 μ' ∧ mI μ' 0 ∧ m_D μ' 0 = (a_run (m_T μ) (m_D μ 0) x0 (nI k)).2) (yB D ycl (mW cc ad X μ) sz (fun μ' => mW cc ad X μ')) (va_A (mW cc ad X μ) sz)) ([.ref (ad (20, 0, 0)), .long x0, .int (nI k)]).toArray sv 0 0 (va_A (mW cc ad X μ) sz)) (F0 mv 19 ls []) := by
      intro f
      induction f with
      | zero =>
        intro dn xx μ1 H locs ls hdf hX hI1 hrun hw hl
        have hdk : dn = k := by omega
        subst hdk
        refine lv_iload hx hb d_M_run_19 (lv_at hl 0 rfl) ?_
        refine lv_iload_n hx hb d_M_run_21 rfl (lv_at hl 2 rfl) ?_
        refine lv_icmp_ge (tgt := 155) hx hb d_M_run_22 (by decide) (fun c_22 => ?_) (fun c_22 => by exact absurd (nI_le (by omega) (by omega)) c_22)
        refine lv_iload_n hx hb d_M_run_155 rfl (lv_at hl 2 rfl) ?_
        exact ye_i hI μ1 ⟨by unfold a_run; rw [if_neg (yrno hk), nI_clamp (by omega), hrun]; try rfl, hX, hI1, by unfold a_run; rw [if_neg (yrno hk), nI_clamp (by omega), hrun]; try rfl⟩ hw d_M_run_156
      | succ f ih =>
        intro dn xx μ1 H locs ls hdf hX hI1 hrun hw hl
        have hT := hX.1.T
        have hle := yp_rdy_le (m_T μ1) (m_D μ1 0) (m_n μ1)
        have hn1 := hI1.1
        refine lv_iload hx hb d_M_run_19 (lv_at hl 0 rfl) ?_
        refine lv_iload_n hx hb d_M_run_21 rfl (lv_at hl 2 rfl) ?_
        refine lv_icmp_ge (tgt := 155) hx hb d_M_run_22 (by decide) (fun c_22 => by exact absurd c_22 (nI_ge (by omega) (by omega))) (fun c_22 => ?_)
        refine lv_iconst (v := (nI 0)) hx hb d_M_run_25 (by decide) ?_
        refine lv_istore (lv' := [(7, .int _), (6, .int _), (4, .long _), (3, .int _), (0, .ref _)]) hx hb d_M_run_26 hl (by decide) rfl (fun ls hl => ?_)
        refine lv_iconst (v := (nI 0)) hx hb d_M_run_28 (by decide) ?_
        refine lv_istore (lv' := [(8, .int _), (7, .int _), (6, .int _), (4, .long _), (3, .int _), (0, .ref _)]) hx hb d_M_run_29 hl (by decide) rfl (fun ls hl => ?_)
        refine cnt μ1 dn xx hI1 ?_ (m_n μ1) 0 _ _ _ (by omega) hw (lv_sub hl [0, 1, 2, 3, 4, 5] rfl)
        clear hw hl
        intro H locs ls hw hl
        by_cases hz : (yp_rdy (m_T μ1) (m_D μ1 0) (m_n μ1)) = []
        · refine lv_iload hx hb d_M_run_66 (lv_at hl 0 rfl) ?_
          refine lv_if_ne (tgt := 74) hx hb d_M_run_68 (by decide) (fun c_68 => by rw [hz] at c_68; exact absurd rfl c_68) (fun c_68 => ?_)
          refine lv_iload hx hb d_M_run_71 (lv_at hl 1 rfl) ?_
          have hz2 : yp_rdy (m_T μ) (m_D μ1 0) (yp_n (m_T μ)) = [] := by rw [← hT]; exact hz
          have e0 : yp_run (m_T μ) (f + 1) xx (m_D μ1 0) = (m_D μ1 0, 0) := by unfold yp_run; rw [if_pos hz2]
          rw [e0] at hrun
          exact ye_i hI μ1 ⟨by unfold a_run; rw [if_neg (yrno hk), nI_clamp (by omega), hrun]; try rfl, hX, hI1, by unfold a_run; rw [if_neg (yrno hk), nI_clamp (by omega), hrun]; try rfl⟩ hw d_M_run_73
        · have hpos : 0 < (yp_rdy (m_T μ1) (m_D μ1 0) (m_n μ1)).length := List.length_pos_iff.mpr hz
          have hyl := yush_lt (yp_nx xx)
          refine lv_iload hx hb d_M_run_66 (lv_at hl 0 rfl) ?_
          refine lv_if_ne (tgt := 74) hx hb d_M_run_68 (by decide) (fun c_68 => ?_) (fun c_68 => by exact absurd ((nI_eq (a := (yp_rdy (m_T μ1) (m_D μ1 0) (m_n μ1)).length) (b := 0) (by omega) (by omega)).mp (by rw [nI_0]; exact c_68)) (by omega))
          refine lv_lload hx hb d_M_run_74 (lv_at hl 2 rfl) ?_
          refine lv_ldc2 hx hb hown (ht _ mq_M_96) d_M_run_76 ?_
          refine lv_lmul hx hb d_M_run_79 ?_
          refine lv_ldc2 hx hb hown (ht _ mq_M_98) d_M_run_80 ?_
          refine lv_ladd hx hb d_M_run_83 ?_
          rw [show xx * 6364136223846793005 + 1442695040888963407 = yp_nx xx from rfl]
          refine lv_lstore (lv' := [(4, .long _), (7, .int _), (6, .int _), (3, .int _), (0, .ref _)]) hx hb d_M_run_84 hl (by decide) rfl (fun ls hl => ?_)
          refine lv_lload hx hb d_M_run_86 (lv_at hl 0 rfl) ?_
          refine lv_bipush (v := (nI 33)) hx hb d_M_run_88 (by decide) ?_
          refine lv_lushr hx hb d_M_run_90 rfl ?_
          rw [yush33]
          refine lv_iload hx hb d_M_run_91 (lv_at hl 1 rfl) ?_
          refine lv_i2l hx hb d_M_run_93 rfl ?_
          rw [nI_l (by omega)]
          refine lv_lrem hx hb d_M_run_94 (fun h => absurd ((pk_lEQ (a := (yp_rdy (m_T μ1) (m_D μ1 0) (m_n μ1)).length) (b := 0) (by omega) (by omega)).mp h) (by omega)) ?_
          rw [pk_lRem (by omega) hpos (by omega)]
          refine lv_l2i hx hb d_M_run_95 rfl ?_
          rw [lN_i]
          refine lv_istore (lv' := [(8, .int _), (4, .long _), (7, .int _), (6, .int _), (3, .int _), (0, .ref _)]) hx hb d_M_run_96 hl (by decide) rfl (fun ls hl => ?_)
          refine lv_iconst (v := (nI 0)) hx hb d_M_run_98 (by decide) ?_
          refine lv_istore (lv' := [(9, .int _), (8, .int _), (4, .long _), (7, .int _), (6, .int _), (3, .int _), (0, .ref _)]) hx hb d_M_run_99 hl (by decide) rfl (fun ls hl => ?_)
          refine srch μ1 dn (yp_nx xx) ((yp_nx xx).toBitVec.toNat / 8589934592 % (yp_rdy (m_T μ1) (m_D μ1 0) (m_n μ1)).length) hI1 (Nat.mod_lt _ hpos) ?_ (m_n μ1) 0 ((yp_nx xx).toBitVec.toNat / 8589934592 % (yp_rdy (m_T μ1) (m_D μ1 0) (m_n μ1)).length) _ _ _ (by omega) (by rw [yp_rdy_0]; exact Nat.zero_add _) hw (lv_sub hl [0, 1, 4, 2, 5, 6] rfl)
          clear hw hl
          intro j H locs ls hj ej hjt hw hl
          refine lv_aload_n hx hb d_M_run_142 rfl (lv_at hl 4 rfl) ?_
          refine lv_iconst (v := (nI 0)) hx hb d_M_run_143 (by decide) ?_
          refine lv_iload hx hb d_M_run_144 (lv_at hl 0 rfl) ?_
          refine yc_v (va_runV (As := [.int _, .int _]) (rest := []) ⟨hx, hb, hml, hown, hts⟩ (c_M_doAct l D cc ad X b0 _ μ1 0 j (by omega) hj hI1 ej) (cwV 2 hts (yg_call mc_M_doAct ml_M_92 mm_M_doAct ms_M_doAct mi_M) rfl rfl rfl (by decide +kernel) ⟨Nat.le_of_ble_eq_true rfl, Nat.le_of_ble_eq_true rfl⟩) (y_preV hI hw (y_recv hK.1 hw mL_o (by rfl) rfl)) rfl rfl hl.1 rfl (lv_room (Nat.le_of_ble_eq_true rfl)) d_M_run_146 ⟨Nat.le_of_ble_eq_true rfl, Nat.le_of_ble_eq_true rfl⟩) hw hA (fun u H locs he hw => ?_)
          refine lv_iinc (v := nI (dn + 1)) (lv' := [(6, .int _), (9, .int _), (4, .long _), (3, .int _), (0, .ref _)]) hx hb d_M_run_149 hl (k := 1) rfl (yinc dn) (by decide) rfl (fun ls hl => ?_)
          refine lv_goto (tgt := 19) hx hb d_M_run_152 (by decide) ?_
          have hz2 : ¬ yp_rdy (m_T μ) (m_D μ1 0) (yp_n (m_T μ)) = [] := by rw [← hT]; exact hz
          have hdr : yp_dr (m_T μ) (m_D μ1 0) (yp_nx xx) = j := by rw [← hT]; exact hjt
          have e0 : yp_run (m_T μ) (f + 1) xx (m_D μ1 0) = ((yp_run (m_T μ) f (yp_nx xx) (m_D u 0)).1, (yp_run (m_T μ) f (yp_nx xx) (m_D u 0)).2 + 1) := by rw [he.2.1, hT, ← hdr]; show (if _ then _ else _) = _; rw [if_neg hz2]
          exact ih (dn + 1) (yp_nx xx) u _ _ _ (by omega) (hX.tr he.1) he.2.2 (by rw [hrun, e0]; refine congrArg (fun z => (_, z)) ?_; omega) hw (lv_sub hl [0, 2, 3, 4] rfl)
    refine lv_iload_n hx hb d_M_run_0 rfl (lv_at hl 2 rfl) ?_
    refine lv_if_lt (tgt := 11) hx hb d_M_run_1 (by decide) (fun c_1 => by exact absurd c_1 (nI_pos (by omega))) (fun c_1 => ?_)
    refine lv_iload_n hx hb d_M_run_4 rfl (lv_at hl 2 rfl) ?_
    refine lv_sipush (v := (nI 2000)) hx hb d_M_run_5 (by decide) ?_
    refine lv_icmp_le (tgt := 13) hx hb d_M_run_8 (by decide) (fun c_8 => ?_) (fun c_8 => by exact absurd (nI_le hk (by omega)) c_8)
    refine lv_lload_n hx hb d_M_run_13 rfl (lv_at hl 1 rfl) ?_
    refine lv_lstore (lv' := [(4, .long _), (0, .ref _), (1, .long _), (3, .int _)]) hx hb d_M_run_14 hl (by decide) rfl (fun ls hl => ?_)
    refine lv_iconst (v := (nI 0)) hx hb d_M_run_16 (by decide) ?_
    refine lv_istore (lv' := [(6, .int _), (4, .long _), (0, .ref _), (1, .long _), (3, .int _)]) hx hb d_M_run_17 hl (by decide) rfl (fun ls hl => ?_)
    exact loop k 0 x0 μ _ _ _ (by omega) mX.rf hi (by rw [Nat.zero_add]) hw (lv_sub hl [0, 1, 4, 2] rfl)
