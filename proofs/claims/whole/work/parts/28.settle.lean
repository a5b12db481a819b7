/-! YARD: stepRound, settle -/
def yRnd (σ : ys) (y i : Nat) (b : Bool) (m : Nat) (σ1 : ys) : Prop := yX σ y σ1 ∧ s_T σ1 y = s_T σ y ∧ yI σ1 y ∧ yp_path (s_T σ y) m (s_D σ y) (s_D σ1 y) ∧ (b = false → m = 0 ∧ ∀ i', i' < i → yp_canb (s_T σ y) (s_D σ y) i' = false) ∧ (b = true → 0 < m)
theorem yRnd_step {σ σ1 u : ys} {y i : Nat} {b : Bool} {m : Nat} (hR : yRnd σ y i b m σ1) (hn : i < s_n σ y) (hc : yp_canb (s_T σ1 y) (s_D σ1 y) i = true) (hs : yStp σ1 y i u) : yRnd σ y i true (m + 1) u := by
  obtain ⟨h1, h2, h3, h4, h5, h6⟩ := hR
  obtain ⟨g1, g2, g3, g4⟩ := hs
  rw [h2] at hc g3
  refine ⟨h1.tr g1, g2.trans h2, g4, yp_path_app m 1 _ _ _ h4 ?_, fun q => (by cases q), fun _ => by omega⟩
  rw [g3]
  exact yp_path_1 hn hc
theorem yRnd_next1 {σ σ1 : ys} {y i : Nat} {m : Nat} (hR : yRnd σ y i true m σ1) : yRnd σ y (i + 1) true m σ1 := by
  obtain ⟨h1, h2, h3, h4, h5, h6⟩ := hR
  exact ⟨h1, h2, h3, h4, fun q => (by cases q), h6⟩
theorem yRnd_next0 {σ σ1 : ys} {y i : Nat} {b : Bool} {m : Nat} (hR : yRnd σ y i b m σ1) (hc : yp_canb (s_T σ1 y) (s_D σ1 y) i = false) : yRnd σ y (i + 1) b m σ1 := by
  obtain ⟨h1, h2, h3, h4, h5, h6⟩ := hR
  refine ⟨h1, h2, h3, h4, fun q => ?_, h6⟩
  obtain ⟨hm, hno⟩ := h5 q
  refine ⟨hm, fun i' hi' => ?_⟩
  by_cases h : i' = i
  · subst h
    subst hm
    have hD : s_D σ y = s_D σ1 y := h4
    rw [hD, ← h2]
    exact hc
  · exact hno i' (by omega)
set_option maxHeartbeats 4000000 in
set_option maxRecDepth 100000 in
/-- stepRound: each acts while it can, by their numbers -/
theorem c_Y_stepRound (l : Launch) (D : va_G) (cc : ClassId × ClassId × ClassId) (ad : yl → Nat) (LL : List yl) (X : va_W) (b0 sz : Nat) (σ : ys) (hL : ∀ q, yL σ q → q ∈ LL) (y : Nat) (hy : y < 2) (hi : yI σ y) : Met l y_Y_stepRound w_Y_stepRound ({ frames := 3, cells := 0, slots := 0, locals := 67 }) (yPr D cc b0 [.ref (ad (1, y, 0))] (yW cc ad LL X σ) sz) (va_Qi (fun r σ' => ∃ (b : Bool) (m : Nat), r = yb b ∧ yRnd σ y (s_n σ y) b m σ') (yB D ycl (yW cc ad LL X σ) sz (fun σ' => yW cc ad LL X σ')) (va_A (yW cc ad LL X σ) sz)) 0 0 (va_A (yW cc ad LL X σ) sz) := by
  have g1 : (1, y, 0) ∈ LL := hL _ ⟨hy, rfl⟩
  have g2 : (2, y, 0) ∈ LL := hL _ ⟨hy, rfl⟩
  have g3 : (3, y, 0) ∈ LL := hL _ ⟨hy, rfl⟩
  have g4 : (4, y, 0) ∈ LL := hL _ ⟨hy, rfl⟩
  have hn10 := hi.1.1
  have hc16 := hi.2.1
  refine y_ofW (cc := b_Y_stepRound) (maxL := 5) (ret := (some .boolean)) (by decide) rfl (Nat.le_of_ble_eq_true rfl) ?_
  intro pv ev sv mv bv tv cv ls hI hsz hw hl
  obtain ⟨hx, hb, hr, hml, hts, hown, hlocks, hnm, hK, hAb, hb0, hA⟩ := id hI
  have ht : ∀ w ∈ lg_tbl, w.before _ sv = true := fun w h => hts w (List.mem_cons_of_mem _ h)
  have hl : lv_has ls 5 [(0, .ref (ad (1, y, 0)))] := hl
  have loop : ∀ (f i : Nat) (b : Bool) (m : Nat) (σ1 : ys) (H : Heap) (locs : List Loc) (ls : Array Slot), i + f = s_n σ y → yRnd σ y i b m σ1 → yH D ycl (va_A (yW cc ad LL X σ) sz) sv.heap H locs (yW cc ad LL X σ1) → lv_has ls 5 [(2, .int (nI i)), (1, .int (yb b)), (0, .ref (ad (1, y, 0)))] → W pv l ev (headSpec w_Y_stepRound ({ frames := 3, cells := 0, slots := 0, locals := 67 })).room sv mv [.ref (ad (1, y, 0))].toArray bv tv cv H locs 0 0 (MQ bv (va_Qi (fun r σ' => ∃ (b : Bool) (m : Nat), r = yb b ∧ yRnd σ y (s_n σ y) b m σ') (yB D ycl (yW cc ad LL X σ) sz (fun σ' => yW cc ad LL X σ')) (va_A (yW cc ad LL X σ) sz)) [.ref (ad (1, y, 0))].toArray sv 0 0 (va_A (yW cc ad LL X σ) sz)) (F0 mv 4 ls []) := by
    intro f
    induction f with
    | zero =>
      intro i b m σ1 H locs ls hik hR hw hl
      have hie : i = s_n σ y := by omega
      subst hie
      refine lv_iload_n hx hb d_Y_stepRound_4 rfl (lv_at hl 0 rfl) ?_
      refine lv_aload_n hx hb d_Y_stepRound_5 rfl (lv_at hl 2 rfl) ?_
      refine yr_get (C := R_Y) (T := F_Y) (N := 5) (ci := k_Y) hx hb ht j_Y hown hK.1 hw (by assumption) (by rfl) rfl 3 (by decide) (ht _ mf_Y_27) (fun _ h9 => h9) (by rfl) d_Y_stepRound_6 ?_
      refine lv_icmp_ge (tgt := 60) hx hb d_Y_stepRound_9 (by decide) (fun c_9 => ?_) (fun c_9 => by exact absurd (by rw [hR.1.sn y]; exact nI_le (by omega) (by omega)) c_9)
      refine lv_iload_n hx hb d_Y_stepRound_60 rfl (lv_at hl 1 rfl) ?_
      exact ye_z hI (yb_n b) σ1 ⟨b, m, rfl, hR⟩ hw d_Y_stepRound_61
    | succ f ih =>
      intro i b m σ1 H locs ls hik hR hw hl
      have hd : i < s_n σ1 y := by rw [hR.1.sn y]; omega
      have hL0 := hR.1.L hL
      have hI0 := hR.2.2.1
      have inner : ∀ (g j : Nat) (b : Bool) (m : Nat) (σ1 : ys) (H : Heap) (locs : List Loc) (ls : Array Slot), j + g = 100 → yRnd σ y i b m σ1 → (0 < j → b = true) → yH D ycl (va_A (yW cc ad LL X σ) sz) sv.heap H locs (yW cc ad LL X σ1) → lv_has ls 5 [(4, .int (nI j)), (3, .ref (ad (5, y, i))), (2, .int (nI i)), (1, .int (yb b)), (0, .ref (ad (1, y, 0)))] → W pv l ev (headSpec w_Y_stepRound ({ frames := 3, cells := 0, slots := 0, locals := 67 })).room sv mv [.ref (ad (1, y, 0))].toArray bv tv cv H locs 0 0 (MQ bv (va_Qi (fun r σ' => ∃ (b : Bool) (m : Nat), r = yb b ∧ yRnd σ y (s_n σ y) b m σ') (yB D ycl (yW cc ad LL X σ) sz (fun σ' => yW cc ad LL X σ')) (va_A (yW cc ad LL X σ) sz)) [.ref (ad (1, y, 0))].toArray sv 0 0 (va_A (yW cc ad LL X σ) sz)) (F0 mv 21 ls []) := by
        intro g
        induction g with
        | zero =>
          intro j b m σ1 H locs ls hjg hR hjb hw hl
          refine lv_iload hx hb d_Y_stepRound_21 (lv_at hl 0 rfl) ?_
          refine lv_bipush (v := (nI 100)) hx hb d_Y_stepRound_23 (by decide) ?_
          refine lv_icmp_ge (tgt := 54) hx hb d_Y_stepRound_25 (by decide) (fun c_25 => ?_) (fun c_25 => by exact absurd (nI_le (by omega) (by omega)) c_25)
          refine lv_iinc (v := nI (i + 1)) (lv' := [(2, .int _), (4, .int _), (3, .ref _), (1, .int _), (0, .ref _)]) hx hb d_Y_stepRound_54 hl (k := 2) rfl (yinc i) (by decide) rfl (fun ls hl => ?_)
          refine lv_goto (tgt := 4) hx hb d_Y_stepRound_57 (by decide) ?_
          exact ih (i + 1) b m σ1 _ _ _ (by omega) (by have hb2 := hjb (by omega); subst hb2; exact yRnd_next1 hR) hw (lv_sub hl [0, 3, 4] rfl)
        | succ g ihg =>
          intro j b m σ1 H locs ls hjg hR hjb hw hl
          have hd1 : i < s_n σ1 y := by rw [hR.1.sn y]; omega
          have hL1 := hR.1.L hL
          have h5 : (5, y, i) ∈ LL := hL1 _ ⟨hy, hd1⟩
          refine lv_iload hx hb d_Y_stepRound_21 (lv_at hl 0 rfl) ?_
          refine lv_bipush (v := (nI 100)) hx hb d_Y_stepRound_23 (by decide) ?_
          refine lv_icmp_ge (tgt := 54) hx hb d_Y_stepRound_25 (by decide) (fun c_25 => by exact absurd c_25 (nI_ge (by omega) (by omega))) (fun c_25 => ?_)
          refine lv_aload_n hx hb d_Y_stepRound_28 rfl (lv_at hl 1 rfl) ?_
          refine lv_ifnull hx hb d_Y_stepRound_29 ?_
          refine lv_aload_n hx hb d_Y_stepRound_32 rfl (lv_at hl 1 rfl) ?_
          refine yc_i (va_runV (As := []) (rest := []) ⟨hx, hb, hml, hown, hts⟩ (c_A_isReady l D cc ad LL X b0 _ σ1 hL1 y i hy hd1 hR.2.2.1) (cwV 0 hts (yg_call mc_A_isReady ml_Y_84 mm_A_isReady ms_A_isReady mi_A) rfl rfl rfl (by decide +kernel) ⟨Nat.le_of_ble_eq_true rfl, Nat.le_of_ble_eq_true rfl⟩) (y_preV hI hw (y_recv hK.1 hw h5 (by rfl) rfl)) rfl rfl hl.1 rfl (lv_room (Nat.le_of_ble_eq_true rfl)) d_Y_stepRound_33 ⟨Nat.le_of_ble_eq_true rfl, Nat.le_of_ble_eq_true rfl⟩) hw hA (fun r u H locs he hw => ?_)
          subst he
          refine lv_if_ne (tgt := 42) hx hb d_Y_stepRound_36 (by decide) (fun c_36 => ?_) (fun c_36 => ?_)
          · have e1 := yb_1 c_36
            refine lv_aload_n hx hb d_Y_stepRound_42 rfl (lv_at hl 1 rfl) ?_
            refine yc_v (va_runV (As := []) (rest := []) ⟨hx, hb, hml, hown, hts⟩ (c_A_step l D cc ad LL X b0 _ σ1 hL1 y i hy hd1 hR.2.2.1 e1) (cwV 0 hts (yg_call mc_A_step ml_Y_81 mm_A_step ms_A_step mi_A) rfl rfl rfl (by decide +kernel) ⟨Nat.le_of_ble_eq_true rfl, Nat.le_of_ble_eq_true rfl⟩) (y_preV hI hw (y_recv hK.1 hw h5 (by rfl) rfl)) rfl rfl hl.1 rfl (lv_room (Nat.le_of_ble_eq_true rfl)) d_Y_stepRound_43 ⟨Nat.le_of_ble_eq_true rfl, Nat.le_of_ble_eq_true rfl⟩) hw hA (fun u H locs he hw => ?_)
            refine lv_iconst (v := (yb true)) hx hb d_Y_stepRound_46 (by decide) ?_
            refine lv_istore_n (lv' := [(1, .int _), (4, .int _), (3, .ref _), (2, .int _), (0, .ref _)]) hx hb d_Y_stepRound_47 rfl hl (by decide) rfl (fun ls hl => ?_)
            refine lv_iinc (v := nI (j + 1)) (lv' := [(4, .int _), (1, .int _), (3, .ref _), (2, .int _), (0, .ref _)]) hx hb d_Y_stepRound_48 hl (k := 1) rfl (yinc j) (by decide) rfl (fun ls hl => ?_)
            refine lv_goto (tgt := 21) hx hb d_Y_stepRound_51 (by decide) ?_
            exact ihg (j + 1) true (m + 1) u _ _ _ (by omega) (yRnd_step hR (by omega) e1 he) (fun _ => rfl) hw (lv_sub hl [0, 2, 3, 1, 4] rfl)
          · have e1 := yb_0 c_36
            refine lv_goto (tgt := 54) hx hb d_Y_stepRound_39 (by decide) ?_
            refine lv_iinc (v := nI (i + 1)) (lv' := [(2, .int _), (4, .int _), (3, .ref _), (1, .int _), (0, .ref _)]) hx hb d_Y_stepRound_54 hl (k := 2) rfl (yinc i) (by decide) rfl (fun ls hl => ?_)
            refine lv_goto (tgt := 4) hx hb d_Y_stepRound_57 (by decide) ?_
            exact ih (i + 1) b m σ1 _ _ _ (by omega) (yRnd_next0 hR e1) hw (lv_sub hl [0, 3, 4] rfl)
      have hn1 : s_n σ1 y ≤ 10 := by rw [hR.1.sn y]; exact hn10
      refine lv_iload_n hx hb d_Y_stepRound_4 rfl (lv_at hl 0 rfl) ?_
      refine lv_aload_n hx hb d_Y_stepRound_5 rfl (lv_at hl 2 rfl) ?_
      refine yr_get (C := R_Y) (T := F_Y) (N := 5) (ci := k_Y) hx hb ht j_Y hown hK.1 hw (by assumption) (by rfl) rfl 3 (by decide) (ht _ mf_Y_27) (fun _ h9 => h9) (by rfl) d_Y_stepRound_6 ?_
      refine lv_icmp_ge (tgt := 60) hx hb d_Y_stepRound_9 (by decide) (fun c_9 => by exact absurd ((nI_leI (by omega) (by omega)).mp c_9) (Nat.not_le.mpr hd)) (fun c_9 => ?_)
      refine lv_aload_n hx hb d_Y_stepRound_12 rfl (lv_at hl 2 rfl) ?_
      refine lv_iload_n hx hb d_Y_stepRound_13 rfl (lv_at hl 0 rfl) ?_
      refine yc_q (va_runV (As := [.int _]) (rest := []) ⟨hx, hb, hml, hown, hts⟩ (c_Y_findActor l D cc ad LL X b0 _ σ1 hL0 y hy hI0 i hd) (cwV 1 hts (yg_call mc_Y_findActor ml_Y_37 mm_Y_findActor ms_Y_findActor mi_Y) rfl rfl rfl (by decide +kernel) ⟨Nat.le_of_ble_eq_true rfl, Nat.le_of_ble_eq_true rfl⟩) (y_preV hI hw (y_recv hK.1 hw g1 (by rfl) rfl)) rfl rfl hl.1 rfl (lv_room (Nat.le_of_ble_eq_true rfl)) d_Y_stepRound_14 ⟨Nat.le_of_ble_eq_true rfl, Nat.le_of_ble_eq_true rfl⟩) hw hA (fun r u H locs he hw => ?_)
      subst he
      rw [yrf_s]
      refine lv_astore_n (lv' := [(3, .ref _), (2, .int _), (1, .int _), (0, .ref _)]) hx hb d_Y_stepRound_17 rfl hl (by decide) rfl (fun ls hl => ?_)
      refine lv_iconst (v := (nI 0)) hx hb d_Y_stepRound_18 (by decide) ?_
      refine lv_istore (lv' := [(4, .int _), (3, .ref _), (2, .int _), (1, .int _), (0, .ref _)]) hx hb d_Y_stepRound_19 hl (by decide) rfl (fun ls hl => ?_)
      exact inner 100 0 b m σ1 _ _ _ (by omega) hR (fun h => absurd h (by omega)) hw (lv_sub hl [0, 1, 2, 3, 4] rfl)
  refine lv_iconst (v := (yb false)) hx hb d_Y_stepRound_0 (by decide) ?_
  refine lv_istore_n (lv' := [(1, .int _), (0, .ref _)]) hx hb d_Y_stepRound_1 rfl hl (by decide) rfl (fun ls hl => ?_)
  refine lv_iconst (v := (nI 0)) hx hb d_Y_stepRound_2 (by decide) ?_
  refine lv_istore_n (lv' := [(2, .int _), (1, .int _), (0, .ref _)]) hx hb d_Y_stepRound_3 rfl hl (by decide) rfl (fun ls hl => ?_)
  exact loop (s_n σ y) 0 false 0 σ _ _ _ (by omega) ⟨yX.rf, rfl, hi, rfl, fun _ => ⟨rfl, fun _ h => absurd h (by omega)⟩, fun h => by cases h⟩ hw (lv_sub hl [0, 1, 2] rfl)
set_option maxHeartbeats 4000000 in
set_option maxRecDepth 100000 in
/-- settle: until nobody can act -/
theorem c_Y_settle (l : Launch) (D : va_G) (cc : ClassId × ClassId × ClassId) (ad : yl → Nat) (LL : List yl) (X : va_W) (b0 sz : Nat) (σ : ys) (hL : ∀ q, yL σ q → q ∈ LL) (y : Nat) (hy : y < 2) (hi : yI σ y) : Met l y_Y_settle w_Y_settle ({ frames := 4, cells := 0, slots := 0, locals := 91 }) (yPr D cc b0 [.ref (ad (1, y, 0))] (yW cc ad LL X σ) sz) (va_Qv (fun σ' => yX σ y σ' ∧ s_T σ' y = s_T σ y ∧ yI σ' y ∧ yp_fin (s_T σ y) (s_D σ y) (s_D σ' y)) (yB D ycl (yW cc ad LL X σ) sz (fun σ' => yW cc ad LL X σ')) (va_A (yW cc ad LL X σ) sz)) 0 0 (va_A (yW cc ad LL X σ) sz) := by
  have g1 : (1, y, 0) ∈ LL := hL _ ⟨hy, rfl⟩
  have g2 : (2, y, 0) ∈ LL := hL _ ⟨hy, rfl⟩
  have g3 : (3, y, 0) ∈ LL := hL _ ⟨hy, rfl⟩
  have g4 : (4, y, 0) ∈ LL := hL _ ⟨hy, rfl⟩
  have hn10 := hi.1.1
  have hc16 := hi.2.1
  refine y_ofW (cc := b_Y_settle) (maxL := 2) (ret := none) (by decide) rfl (Nat.le_of_ble_eq_true rfl) ?_
  intro pv ev sv mv bv tv cv ls hI hsz hw hl
  obtain ⟨hx, hb, hr, hml, hts, hown, hlocks, hnm, hK, hAb, hb0, hA⟩ := id hI
  have ht : ∀ w ∈ lg_tbl, w.before _ sv = true := fun w h => hts w (List.mem_cons_of_mem _ h)
  have hl : lv_has ls 2 [(0, .ref (ad (1, y, 0)))] := hl
  have loop : ∀ (f i m : Nat) (σ1 : ys) (H : Heap) (locs : List Loc) (ls : Array Slot), i + f = 1001 → i ≤ m → yX σ y σ1 → s_T σ1 y = s_T σ y → yI σ1 y → yp_path (s_T σ y) m (s_D σ y) (s_D σ1 y) → yH D ycl (va_A (yW cc ad LL X σ) sz) sv.heap H locs (yW cc ad LL X σ1) → lv_has ls 2 [(1, .int (nI i)), (0, .ref (ad (1, y, 0)))] → W pv l ev (headSpec w_Y_settle ({ frames := 4, cells := 0, slots := 0, locals := 91 })).room sv mv [.ref (ad (1, y, 0))].toArray bv tv cv H locs 0 0 (MQ bv (va_Qv (fun σ' => yX σ y σ' ∧ s_T σ' y = s_T σ y ∧ yI σ' y ∧ yp_fin (s_T σ y) (s_D σ y) (s_D σ' y)) (yB D ycl (yW cc ad LL X σ) sz (fun σ' => yW cc ad LL X σ')) (va_A (yW cc ad LL X σ) sz)) [.ref (ad (1, y, 0))].toArray sv 0 0 (va_A (yW cc ad LL X σ) sz)) (F0 mv 2 ls []) := by
    intro f
    induction f with
    | zero =>
      intro i m σ1 H locs ls hik him hX hT hI1 hp hw hl
      have h1 := yp_path_short hp (fun j => (hi.2.2.1 j).2.2.2.1)
      have h2 : yp_n (s_T σ y) ≤ 10 := hn10
      omega
    | succ f ih =>
      intro i m σ1 H locs ls hik him hX hT hI1 hp hw hl
      have hL1 := hX.L hL
      refine lv_iload_n hx hb d_Y_settle_2 rfl (lv_at hl 0 rfl) ?_
      refine lv_sipush (v := (nI 1000)) hx hb d_Y_settle_3 (by decide) ?_
      refine lv_icmp_gt (tgt := 25) hx hb d_Y_settle_6 (by decide) (fun c_6 => by exact absurd c_6 (nI_nlt (by omega) (by omega))) (fun c_6 => ?_)
      refine lv_aload_n hx hb d_Y_settle_9 rfl (lv_at hl 1 rfl) ?_
      refine yc_i (va_runV (As := []) (rest := []) ⟨hx, hb, hml, hown, hts⟩ (c_Y_stepRound l D cc ad LL X b0 _ σ1 hL1 y hy hI1) (cwV 0 hts (yg_call mc_Y_stepRound ml_Y_87 mm_Y_stepRound ms_Y_stepRound mi_Y) rfl rfl rfl (by decide +kernel) ⟨Nat.le_of_ble_eq_true rfl, Nat.le_of_ble_eq_true rfl⟩) (y_preV hI hw (y_recv hK.1 hw g1 (by rfl) rfl)) rfl rfl hl.1 rfl (lv_room (Nat.le_of_ble_eq_true rfl)) d_Y_settle_10 ⟨Nat.le_of_ble_eq_true rfl, Nat.le_of_ble_eq_true rfl⟩) hw hA (fun r u H locs he hw => ?_)
      obtain ⟨b, m', rfl, hR⟩ := he
      obtain ⟨hX1, hT1, hI2, hp1, hb0', hb1'⟩ := hR
      rw [hT] at hp1
      cases b with
      | false =>
        obtain ⟨hm, hno⟩ := hb0' rfl
        subst hm
        have hD : s_D σ1 y = s_D u y := hp1
        refine lv_if_ne (tgt := 19) hx hb d_Y_settle_13 (by decide) (fun c_13 => by exact absurd rfl c_13) (fun c_13 => ?_)
        refine lv_goto (tgt := 25) hx hb d_Y_settle_16 (by decide) ?_
        exact ye_v hI u ⟨hX.tr hX1, hT1.trans hT, hI2, ⟨fun i' hi' => by rw [← hD, ← hT]; exact hno i' (by rw [hX.sn y]; exact hi'), m, by rw [← hD]; exact hp⟩⟩ hw d_Y_settle_25
      | true =>
        have hm := hb1' rfl
        refine lv_if_ne (tgt := 19) hx hb d_Y_settle_13 (by decide) (fun c_13 => ?_) (fun c_13 => by exact absurd c_13 (by decide))
        refine lv_iinc (v := nI (i + 1)) (lv' := [(1, .int _), (0, .ref _)]) hx hb d_Y_settle_19 hl (k := 0) rfl (yinc i) (by decide) rfl (fun ls hl => ?_)
        refine lv_goto (tgt := 2) hx hb d_Y_settle_22 (by decide) ?_
        exact ih (i + 1) (m + m') u _ _ _ (by omega) (by omega) (hX.tr hX1) (hT1.trans hT) hI2 (yp_path_app m m' _ _ _ hp hp1) hw hl
  refine lv_iconst (v := (nI 0)) hx hb d_Y_settle_0 (by decide) ?_
  refine lv_istore_n (lv' := [(1, .int _), (0, .ref _)]) hx hb d_Y_settle_1 rfl hl (by decide) rfl (fun ls hl => ?_)
  exact loop 1001 0 0 σ _ _ _ (by omega) (by omega) yX.rf rfl hi rfl hw hl
