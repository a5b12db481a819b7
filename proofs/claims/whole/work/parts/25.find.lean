/-! YARD: finders -/
theorem yrf_s (a : Nat) : va_rf (some a) = .ref a := rfl
theorem yrf_n : va_rf none = .null := rfl
set_option maxHeartbeats 4000000 in
set_option maxRecDepth 100000 in
/-- Y_findActor: one that is there -/
theorem c_Y_findActor (l : Launch) (D : va_G) (cc : ClassId × ClassId × ClassId) (ad : yl → Nat) (LL : List yl) (X : va_W) (b0 sz : Nat) (σ : ys) (hL : ∀ q, yL σ q → q ∈ LL) (y : Nat) (hy : y < 2) (hi : yI σ y) (j : Nat) (hj : j < s_n σ y) : Met l y_Y_findActor w_Y_findActor ({ frames := 0, cells := 0, slots := 0, locals := 0 }) (yPr D cc b0 [.ref (ad (1, y, 0)), .int (nI j)] (yW cc ad LL X σ) sz) (yQq D (yW cc ad LL X σ) sz (some (ad (5, y, j))) (yW cc ad LL X σ)) 0 0 (va_A (yW cc ad LL X σ) sz) := by
  have g1 : (1, y, 0) ∈ LL := hL _ ⟨hy, rfl⟩
  have g2 : (2, y, 0) ∈ LL := hL _ ⟨hy, rfl⟩
  have g3 : (3, y, 0) ∈ LL := hL _ ⟨hy, rfl⟩
  have g4 : (4, y, 0) ∈ LL := hL _ ⟨hy, rfl⟩
  have hn10 := hi.1.1
  have hc16 := hi.2.1
  refine y_ofW (cc := b_Y_findActor) (maxL := 2) (ret := (some (.object "YardActors$Actor"))) (by decide) rfl (Nat.le_of_ble_eq_true rfl) ?_
  intro pv ev sv mv bv tv cv ls hI hsz hw hl
  obtain ⟨hx, hb, hr, hml, hts, hown, hlocks, hnm, hK, hAb, hb0, hA⟩ := id hI
  have ht : ∀ w ∈ lg_tbl, w.before _ sv = true := fun w h => hts w (List.mem_cons_of_mem _ h)
  have hl : lv_has ls 2 [(0, .ref (ad (1, y, 0))), (1, .int (nI j))] := hl
  refine lv_iload_n hx hb d_Y_findActor_0 rfl (lv_at hl 1 rfl) ?_
  refine lv_if_lt (tgt := 21) hx hb d_Y_findActor_1 (by decide) (fun c_1 => by exact absurd c_1 (nI_pos (by omega))) (fun c_1 => ?_)
  refine lv_iload_n hx hb d_Y_findActor_4 rfl (lv_at hl 1 rfl) ?_
  refine lv_aload_n hx hb d_Y_findActor_5 rfl (lv_at hl 0 rfl) ?_
  refine yr_get (C := R_Y) (T := F_Y) (N := 5) (ci := k_Y) hx hb ht j_Y hown hK.1 hw (by assumption) (by rfl) rfl 3 (by decide) (ht _ mf_Y_27) (fun _ h9 => h9) (by rfl) d_Y_findActor_6 ?_
  refine lv_icmp_ge (tgt := 21) hx hb d_Y_findActor_9 (by decide) (fun c_9 => by exact absurd ((nI_leI (by omega) (by omega)).mp c_9) (by omega)) (fun c_9 => ?_)
  refine lv_aload_n hx hb d_Y_findActor_12 rfl (lv_at hl 0 rfl) ?_
  refine yr_get (C := R_Y) (T := F_Y) (N := 5) (ci := k_Y) hx hb ht j_Y hown hK.1 hw (by assumption) (by rfl) rfl 0 (by decide) (ht _ mf_Y_11) (fun _ h9 => h9) (by rfl) d_Y_findActor_13 ?_
  refine lv_iload_n hx hb d_Y_findActor_16 rfl (lv_at hl 1 rfl) ?_
  refine yr_aldq (v := .ref (ad (5, y, j))) hx hb hK.1 hw (by assumption) (by rfl) 1 rfl (vp_in_nI (by omega) (by omega)) (by rw [nI_clamp (by omega)]; show va_rf (if j < s_n σ y then _ else _) = _; rw [if_pos hj]; rfl) d_Y_findActor_17 ?_
  refine lv_goto (tgt := 22) hx hb d_Y_findActor_18 (by decide) ?_
  exact ye_q (some (ad (5, y, j))) rfl hI () rfl hw d_Y_findActor_22
set_option maxHeartbeats 4000000 in
set_option maxRecDepth 100000 in
/-- Y_findActor: none such -/
theorem c_Y_findActor_no (l : Launch) (D : va_G) (cc : ClassId × ClassId × ClassId) (ad : yl → Nat) (LL : List yl) (X : va_W) (b0 sz : Nat) (σ : ys) (hL : ∀ q, yL σ q → q ∈ LL) (y : Nat) (hy : y < 2) (hi : yI σ y) (x : Int32) (hj : x < 0 ∨ nI (s_n σ y) ≤ x) : Met l y_Y_findActor w_Y_findActor ({ frames := 0, cells := 0, slots := 0, locals := 0 }) (yPr D cc b0 [.ref (ad (1, y, 0)), .int x] (yW cc ad LL X σ) sz) (yQq D (yW cc ad LL X σ) sz none (yW cc ad LL X σ)) 0 0 (va_A (yW cc ad LL X σ) sz) := by
  have g1 : (1, y, 0) ∈ LL := hL _ ⟨hy, rfl⟩
  have g2 : (2, y, 0) ∈ LL := hL _ ⟨hy, rfl⟩
  have g3 : (3, y, 0) ∈ LL := hL _ ⟨hy, rfl⟩
  have g4 : (4, y, 0) ∈ LL := hL _ ⟨hy, rfl⟩
  have hn10 := hi.1.1
  have hc16 := hi.2.1
  refine y_ofW (cc := b_Y_findActor) (maxL := 2) (ret := (some (.object "YardActors$Actor"))) (by decide) rfl (Nat.le_of_ble_eq_true rfl) ?_
  intro pv ev sv mv bv tv cv ls hI hsz hw hl
  obtain ⟨hx, hb, hr, hml, hts, hown, hlocks, hnm, hK, hAb, hb0, hA⟩ := id hI
  have ht : ∀ w ∈ lg_tbl, w.before _ sv = true := fun w h => hts w (List.mem_cons_of_mem _ h)
  have hl : lv_has ls 2 [(0, .ref (ad (1, y, 0))), (1, .int x)] := hl
  refine lv_iload_n hx hb d_Y_findActor_0 rfl (lv_at hl 1 rfl) ?_
  refine lv_if_lt (tgt := 21) hx hb d_Y_findActor_1 (by decide) (fun c_1 => ?_) (fun c_1 => ?_)
  · refine lv_null hx hb d_Y_findActor_21 ?_
    exact ye_q none rfl hI () rfl hw d_Y_findActor_22
  · refine lv_iload_n hx hb d_Y_findActor_4 rfl (lv_at hl 1 rfl) ?_
    refine lv_aload_n hx hb d_Y_findActor_5 rfl (lv_at hl 0 rfl) ?_
    refine yr_get (C := R_Y) (T := F_Y) (N := 5) (ci := k_Y) hx hb ht j_Y hown hK.1 hw (by assumption) (by rfl) rfl 3 (by decide) (ht _ mf_Y_27) (fun _ h9 => h9) (by rfl) d_Y_findActor_6 ?_
    refine lv_icmp_ge (tgt := 21) hx hb d_Y_findActor_9 (by decide) (fun c_9 => ?_) (fun c_9 => by exact (hj.elim (fun h => absurd h c_1) (fun h => absurd h c_9)))
    refine lv_null hx hb d_Y_findActor_21 ?_
    exact ye_q none rfl hI () rfl hw d_Y_findActor_22
set_option maxHeartbeats 4000000 in
set_option maxRecDepth 100000 in
/-- Y_findChannel: one that is there -/
theorem c_Y_findChannel (l : Launch) (D : va_G) (cc : ClassId × ClassId × ClassId) (ad : yl → Nat) (LL : List yl) (X : va_W) (b0 sz : Nat) (σ : ys) (hL : ∀ q, yL σ q → q ∈ LL) (y : Nat) (hy : y < 2) (hi : yI σ y) (j : Nat) (hj : j < s_nc σ y) : Met l y_Y_findChannel w_Y_findChannel ({ frames := 0, cells := 0, slots := 0, locals := 0 }) (yPr D cc b0 [.ref (ad (1, y, 0)), .int (nI j)] (yW cc ad LL X σ) sz) (yQq D (yW cc ad LL X σ) sz (some (ad (9, y, j))) (yW cc ad LL X σ)) 0 0 (va_A (yW cc ad LL X σ) sz) := by
  have g1 : (1, y, 0) ∈ LL := hL _ ⟨hy, rfl⟩
  have g2 : (2, y, 0) ∈ LL := hL _ ⟨hy, rfl⟩
  have g3 : (3, y, 0) ∈ LL := hL _ ⟨hy, rfl⟩
  have g4 : (4, y, 0) ∈ LL := hL _ ⟨hy, rfl⟩
  have hn10 := hi.1.1
  have hc16 := hi.2.1
  refine y_ofW (cc := b_Y_findChannel) (maxL := 2) (ret := (some (.object "YardActors$Channel"))) (by decide) rfl (Nat.le_of_ble_eq_true rfl) ?_
  intro pv ev sv mv bv tv cv ls hI hsz hw hl
  obtain ⟨hx, hb, hr, hml, hts, hown, hlocks, hnm, hK, hAb, hb0, hA⟩ := id hI
  have ht : ∀ w ∈ lg_tbl, w.before _ sv = true := fun w h => hts w (List.mem_cons_of_mem _ h)
  have hl : lv_has ls 2 [(0, .ref (ad (1, y, 0))), (1, .int (nI j))] := hl
  refine lv_iload_n hx hb d_Y_findChannel_0 rfl (lv_at hl 1 rfl) ?_
  refine lv_if_lt (tgt := 21) hx hb d_Y_findChannel_1 (by decide) (fun c_1 => by exact absurd c_1 (nI_pos (by omega))) (fun c_1 => ?_)
  refine lv_iload_n hx hb d_Y_findChannel_4 rfl (lv_at hl 1 rfl) ?_
  refine lv_aload_n hx hb d_Y_findChannel_5 rfl (lv_at hl 0 rfl) ?_
  refine yr_get (C := R_Y) (T := F_Y) (N := 5) (ci := k_Y) hx hb ht j_Y hown hK.1 hw (by assumption) (by rfl) rfl 4 (by decide) (ht _ mf_Y_31) (fun _ h9 => h9) (by rfl) d_Y_findChannel_6 ?_
  refine lv_icmp_ge (tgt := 21) hx hb d_Y_findChannel_9 (by decide) (fun c_9 => by exact absurd ((nI_leI (by omega) (by omega)).mp c_9) (by omega)) (fun c_9 => ?_)
  refine lv_aload_n hx hb d_Y_findChannel_12 rfl (lv_at hl 0 rfl) ?_
  refine yr_get (C := R_Y) (T := F_Y) (N := 5) (ci := k_Y) hx hb ht j_Y hown hK.1 hw (by assumption) (by rfl) rfl 1 (by decide) (ht _ mf_Y_19) (fun _ h9 => h9) (by rfl) d_Y_findChannel_13 ?_
  refine lv_iload_n hx hb d_Y_findChannel_16 rfl (lv_at hl 1 rfl) ?_
  refine yr_aldq (v := .ref (ad (9, y, j))) hx hb hK.1 hw (by assumption) (by rfl) 2 rfl (vp_in_nI (by omega) (by omega)) (by rw [nI_clamp (by omega)]; show va_rf (if j < s_nc σ y then _ else _) = _; rw [if_pos hj]; rfl) d_Y_findChannel_17 ?_
  refine lv_goto (tgt := 22) hx hb d_Y_findChannel_18 (by decide) ?_
  exact ye_q (some (ad (9, y, j))) rfl hI () rfl hw d_Y_findChannel_22
set_option maxHeartbeats 4000000 in
set_option maxRecDepth 100000 in
/-- Y_findChannel: none such -/
theorem c_Y_findChannel_no (l : Launch) (D : va_G) (cc : ClassId × ClassId × ClassId) (ad : yl → Nat) (LL : List yl) (X : va_W) (b0 sz : Nat) (σ : ys) (hL : ∀ q, yL σ q → q ∈ LL) (y : Nat) (hy : y < 2) (hi : yI σ y) (x : Int32) (hj : x < 0 ∨ nI (s_nc σ y) ≤ x) : Met l y_Y_findChannel w_Y_findChannel ({ frames := 0, cells := 0, slots := 0, locals := 0 }) (yPr D cc b0 [.ref (ad (1, y, 0)), .int x] (yW cc ad LL X σ) sz) (yQq D (yW cc ad LL X σ) sz none (yW cc ad LL X σ)) 0 0 (va_A (yW cc ad LL X σ) sz) := by
  have g1 : (1, y, 0) ∈ LL := hL _ ⟨hy, rfl⟩
  have g2 : (2, y, 0) ∈ LL := hL _ ⟨hy, rfl⟩
  have g3 : (3, y, 0) ∈ LL := hL _ ⟨hy, rfl⟩
  have g4 : (4, y, 0) ∈ LL := hL _ ⟨hy, rfl⟩
  have hn10 := hi.1.1
  have hc16 := hi.2.1
  refine y_ofW (cc := b_Y_findChannel) (maxL := 2) (ret := (some (.object "YardActors$Channel"))) (by decide) rfl (Nat.le_of_ble_eq_true rfl) ?_
  intro pv ev sv mv bv tv cv ls hI hsz hw hl
  obtain ⟨hx, hb, hr, hml, hts, hown, hlocks, hnm, hK, hAb, hb0, hA⟩ := id hI
  have ht : ∀ w ∈ lg_tbl, w.before _ sv = true := fun w h => hts w (List.mem_cons_of_mem _ h)
  have hl : lv_has ls 2 [(0, .ref (ad (1, y, 0))), (1, .int x)] := hl
  refine lv_iload_n hx hb d_Y_findChannel_0 rfl (lv_at hl 1 rfl) ?_
  refine lv_if_lt (tgt := 21) hx hb d_Y_findChannel_1 (by decide) (fun c_1 => ?_) (fun c_1 => ?_)
  · refine lv_null hx hb d_Y_findChannel_21 ?_
    exact ye_q none rfl hI () rfl hw d_Y_findChannel_22
  · refine lv_iload_n hx hb d_Y_findChannel_4 rfl (lv_at hl 1 rfl) ?_
    refine lv_aload_n hx hb d_Y_findChannel_5 rfl (lv_at hl 0 rfl) ?_
    refine yr_get (C := R_Y) (T := F_Y) (N := 5) (ci := k_Y) hx hb ht j_Y hown hK.1 hw (by assumption) (by rfl) rfl 4 (by decide) (ht _ mf_Y_31) (fun _ h9 => h9) (by rfl) d_Y_findChannel_6 ?_
    refine lv_icmp_ge (tgt := 21) hx hb d_Y_findChannel_9 (by decide) (fun c_9 => ?_) (fun c_9 => by exact (hj.elim (fun h => absurd h c_1) (fun h => absurd h c_9)))
    refine lv_null hx hb d_Y_findChannel_21 ?_
    exact ye_q none rfl hI () rfl hw d_Y_findChannel_22
set_option maxHeartbeats 4000000 in
set_option maxRecDepth 100000 in
theorem c_Y_findKind (l : Launch) (D : va_G) (cc : ClassId × ClassId × ClassId) (ad : yl → Nat) (LL : List yl) (X : va_W) (b0 sz : Nat) (σ : ys) (hL : ∀ q, yL σ q → q ∈ LL) (y : Nat) (hy : y < 2) (hi : yI σ y) (j : Nat) (hj : j < s_n σ y) (k : Nat) (hk : k < 9) (hkj : (s_ac σ y j).1 = k) : Met l y_Y_findKind w_Y_findKind ({ frames := 1, cells := 0, slots := 0, locals := 21 }) (yPr D cc b0 [.ref (ad (1, y, 0)), .int (nI j), .int (nI k)] (yW cc ad LL X σ) sz) (yQq D (yW cc ad LL X σ) sz (some (ad (5, y, j))) (yW cc ad LL X σ)) 0 0 (va_A (yW cc ad LL X σ) sz) := by
  have h5 : (5, y, j) ∈ LL := hL _ ⟨hy, hj⟩
  have g1 : (1, y, 0) ∈ LL := hL _ ⟨hy, rfl⟩
  have g2 : (2, y, 0) ∈ LL := hL _ ⟨hy, rfl⟩
  have g3 : (3, y, 0) ∈ LL := hL _ ⟨hy, rfl⟩
  have g4 : (4, y, 0) ∈ LL := hL _ ⟨hy, rfl⟩
  have hn10 := hi.1.1
  have hc16 := hi.2.1
  refine y_ofW (cc := b_Y_findKind) (maxL := 4) (ret := (some (.object "YardActors$Actor"))) (by decide) rfl (Nat.le_of_ble_eq_true rfl) ?_
  intro pv ev sv mv bv tv cv ls hI hsz hw hl
  obtain ⟨hx, hb, hr, hml, hts, hown, hlocks, hnm, hK, hAb, hb0, hA⟩ := id hI
  have ht : ∀ w ∈ lg_tbl, w.before _ sv = true := fun w h => hts w (List.mem_cons_of_mem _ h)
  have hl : lv_has ls 4 [(0, .ref (ad (1, y, 0))), (1, .int (nI j)), (2, .int (nI k))] := hl
  refine lv_aload_n hx hb d_Y_findKind_0 rfl (lv_at hl 0 rfl) ?_
  refine lv_iload_n hx hb d_Y_findKind_1 rfl (lv_at hl 1 rfl) ?_
  refine yc_q (va_runV (As := [.int _]) (rest := []) ⟨hx, hb, hml, hown, hts⟩ (c_Y_findActor l D cc ad LL X b0 _ σ hL y hy hi j hj) (cwV 1 hts (yg_call mc_Y_findActor ml_Y_37 mm_Y_findActor ms_Y_findActor mi_Y) rfl rfl rfl (by decide +kernel) ⟨Nat.le_of_ble_eq_true rfl, Nat.le_of_ble_eq_true rfl⟩) (y_preV hI hw (y_recv hK.1 hw g1 (by rfl) rfl)) rfl rfl hl.1 rfl (lv_room (Nat.le_of_ble_eq_true rfl)) d_Y_findKind_2 ⟨Nat.le_of_ble_eq_true rfl, Nat.le_of_ble_eq_true rfl⟩) hw hA (fun r u H locs he hw => ?_)
  subst he
  rw [yrf_s]
  refine lv_astore_n (lv' := [(3, .ref _), (0, .ref _), (1, .int _), (2, .int _)]) hx hb d_Y_findKind_5 rfl hl (by decide) rfl (fun ls hl => ?_)
  refine lv_aload_n hx hb d_Y_findKind_6 rfl (lv_at hl 0 rfl) ?_
  refine lv_ifnull hx hb d_Y_findKind_7 ?_
  refine lv_aload_n hx hb d_Y_findKind_10 rfl (lv_at hl 0 rfl) ?_
  refine lv_iload_n hx hb d_Y_findKind_11 rfl (lv_at hl 3 rfl) ?_
  refine yc_i (va_runV (As := [.int _]) (rest := []) ⟨hx, hb, hml, hown, hts⟩ (c_A_isKind l D cc ad LL X b0 _ σ hL y j hy hj hi k hk) (cwV 1 hts (yg_call mc_A_isKind ml_Y_58 mm_A_isKind ms_A_isKind mi_A) rfl rfl rfl (by decide +kernel) ⟨Nat.le_of_ble_eq_true rfl, Nat.le_of_ble_eq_true rfl⟩) (y_preV hI hw (y_recv hK.1 hw h5 (by rfl) rfl)) rfl rfl hl.1 rfl (lv_room (Nat.le_of_ble_eq_true rfl)) d_Y_findKind_12 ⟨Nat.le_of_ble_eq_true rfl, Nat.le_of_ble_eq_true rfl⟩) hw hA (fun r u H locs he hw => ?_)
  subst he
  refine lv_if_eq (tgt := 22) hx hb d_Y_findKind_15 (by decide) (fun c_15 => by exact absurd (yb_0 c_15) (by rw [decide_eq_true hkj]; decide)) (fun c_15 => ?_)
  refine lv_aload_n hx hb d_Y_findKind_18 rfl (lv_at hl 0 rfl) ?_
  refine lv_goto (tgt := 23) hx hb d_Y_findKind_19 (by decide) ?_
  exact ye_q (some (ad (5, y, j))) rfl hI () rfl hw d_Y_findKind_23
set_option maxHeartbeats 4000000 in
set_option maxRecDepth 100000 in
theorem c_Y_findKind_other (l : Launch) (D : va_G) (cc : ClassId × ClassId × ClassId) (ad : yl → Nat) (LL : List yl) (X : va_W) (b0 sz : Nat) (σ : ys) (hL : ∀ q, yL σ q → q ∈ LL) (y : Nat) (hy : y < 2) (hi : yI σ y) (j : Nat) (hj : j < s_n σ y) (k : Nat) (hk : k < 9) (hkj : ¬ (s_ac σ y j).1 = k) : Met l y_Y_findKind w_Y_findKind ({ frames := 1, cells := 0, slots := 0, locals := 21 }) (yPr D cc b0 [.ref (ad (1, y, 0)), .int (nI j), .int (nI k)] (yW cc ad LL X σ) sz) (yQq D (yW cc ad LL X σ) sz none (yW cc ad LL X σ)) 0 0 (va_A (yW cc ad LL X σ) sz) := by
  have h5 : (5, y, j) ∈ LL := hL _ ⟨hy, hj⟩
  have g1 : (1, y, 0) ∈ LL := hL _ ⟨hy, rfl⟩
  have g2 : (2, y, 0) ∈ LL := hL _ ⟨hy, rfl⟩
  have g3 : (3, y, 0) ∈ LL := hL _ ⟨hy, rfl⟩
  have g4 : (4, y, 0) ∈ LL := hL _ ⟨hy, rfl⟩
  have hn10 := hi.1.1
  have hc16 := hi.2.1
  refine y_ofW (cc := b_Y_findKind) (maxL := 4) (ret := (some (.object "YardActors$Actor"))) (by decide) rfl (Nat.le_of_ble_eq_true rfl) ?_
  intro pv ev sv mv bv tv cv ls hI hsz hw hl
  obtain ⟨hx, hb, hr, hml, hts, hown, hlocks, hnm, hK, hAb, hb0, hA⟩ := id hI
  have ht : ∀ w ∈ lg_tbl, w.before _ sv = true := fun w h => hts w (List.mem_cons_of_mem _ h)
  have hl : lv_has ls 4 [(0, .ref (ad (1, y, 0))), (1, .int (nI j)), (2, .int (nI k))] := hl
  refine lv_aload_n hx hb d_Y_findKind_0 rfl (lv_at hl 0 rfl) ?_
  refine lv_iload_n hx hb d_Y_findKind_1 rfl (lv_at hl 1 rfl) ?_
  refine yc_q (va_runV (As := [.int _]) (rest := []) ⟨hx, hb, hml, hown, hts⟩ (c_Y_findActor l D cc ad LL X b0 _ σ hL y hy hi j hj) (cwV 1 hts (yg_call mc_Y_findActor ml_Y_37 mm_Y_findActor ms_Y_findActor mi_Y) rfl rfl rfl (by decide +kernel) ⟨Nat.le_of_ble_eq_true rfl, Nat.le_of_ble_eq_true rfl⟩) (y_preV hI hw (y_recv hK.1 hw g1 (by rfl) rfl)) rfl rfl hl.1 rfl (lv_room (Nat.le_of_ble_eq_true rfl)) d_Y_findKind_2 ⟨Nat.le_of_ble_eq_true rfl, Nat.le_of_ble_eq_true rfl⟩) hw hA (fun r u H locs he hw => ?_)
  subst he
  rw [yrf_s]
  refine lv_astore_n (lv' := [(3, .ref _), (0, .ref _), (1, .int _), (2, .int _)]) hx hb d_Y_findKind_5 rfl hl (by decide) rfl (fun ls hl => ?_)
  refine lv_aload_n hx hb d_Y_findKind_6 rfl (lv_at hl 0 rfl) ?_
  refine lv_ifnull hx hb d_Y_findKind_7 ?_
  refine lv_aload_n hx hb d_Y_findKind_10 rfl (lv_at hl 0 rfl) ?_
  refine lv_iload_n hx hb d_Y_findKind_11 rfl (lv_at hl 3 rfl) ?_
  refine yc_i (va_runV (As := [.int _]) (rest := []) ⟨hx, hb, hml, hown, hts⟩ (c_A_isKind l D cc ad LL X b0 _ σ hL y j hy hj hi k hk) (cwV 1 hts (yg_call mc_A_isKind ml_Y_58 mm_A_isKind ms_A_isKind mi_A) rfl rfl rfl (by decide +kernel) ⟨Nat.le_of_ble_eq_true rfl, Nat.le_of_ble_eq_true rfl⟩) (y_preV hI hw (y_recv hK.1 hw h5 (by rfl) rfl)) rfl rfl hl.1 rfl (lv_room (Nat.le_of_ble_eq_true rfl)) d_Y_findKind_12 ⟨Nat.le_of_ble_eq_true rfl, Nat.le_of_ble_eq_true rfl⟩) hw hA (fun r u H locs he hw => ?_)
  subst he
  refine lv_if_eq (tgt := 22) hx hb d_Y_findKind_15 (by decide) (fun c_15 => ?_) (fun c_15 => by exact absurd (yb_1 c_15) (by rw [decide_eq_false hkj]; decide))
  refine lv_null hx hb d_Y_findKind_22 ?_
  exact ye_q none rfl hI () rfl hw d_Y_findKind_23
set_option maxHeartbeats 4000000 in
set_option maxRecDepth 100000 in
theorem c_Y_findKind_no (l : Launch) (D : va_G) (cc : ClassId × ClassId × ClassId) (ad : yl → Nat) (LL : List yl) (X : va_W) (b0 sz : Nat) (σ : ys) (hL : ∀ q, yL σ q → q ∈ LL) (y : Nat) (hy : y < 2) (hi : yI σ y) (x : Int32) (hj : x < 0 ∨ nI (s_n σ y) ≤ x) (k : Nat) : Met l y_Y_findKind w_Y_findKind ({ frames := 1, cells := 0, slots := 0, locals := 21 }) (yPr D cc b0 [.ref (ad (1, y, 0)), .int x, .int (nI k)] (yW cc ad LL X σ) sz) (yQq D (yW cc ad LL X σ) sz none (yW cc ad LL X σ)) 0 0 (va_A (yW cc ad LL X σ) sz) := by
  have g1 : (1, y, 0) ∈ LL := hL _ ⟨hy, rfl⟩
  have g2 : (2, y, 0) ∈ LL := hL _ ⟨hy, rfl⟩
  have g3 : (3, y, 0) ∈ LL := hL _ ⟨hy, rfl⟩
  have g4 : (4, y, 0) ∈ LL := hL _ ⟨hy, rfl⟩
  have hn10 := hi.1.1
  have hc16 := hi.2.1
  refine y_ofW (cc := b_Y_findKind) (maxL := 4) (ret := (some (.object "YardActors$Actor"))) (by decide) rfl (Nat.le_of_ble_eq_true rfl) ?_
  intro pv ev sv mv bv tv cv ls hI hsz hw hl
  obtain ⟨hx, hb, hr, hml, hts, hown, hlocks, hnm, hK, hAb, hb0, hA⟩ := id hI
  have ht : ∀ w ∈ lg_tbl, w.before _ sv = true := fun w h => hts w (List.mem_cons_of_mem _ h)
  have hl : lv_has ls 4 [(0, .ref (ad (1, y, 0))), (1, .int x), (2, .int (nI k))] := hl
  refine lv_aload_n hx hb d_Y_findKind_0 rfl (lv_at hl 0 rfl) ?_
  refine lv_iload_n hx hb d_Y_findKind_1 rfl (lv_at hl 1 rfl) ?_
  refine yc_q (va_runV (As := [.int _]) (rest := []) ⟨hx, hb, hml, hown, hts⟩ (c_Y_findActor_no l D cc ad LL X b0 _ σ hL y hy hi x hj) (cwV 1 hts (yg_call mc_Y_findActor ml_Y_37 mm_Y_findActor ms_Y_findActor mi_Y) rfl rfl rfl (by decide +kernel) ⟨Nat.le_of_ble_eq_true rfl, Nat.le_of_ble_eq_true rfl⟩) (y_preV hI hw (y_recv hK.1 hw g1 (by rfl) rfl)) rfl rfl hl.1 rfl (lv_room (Nat.le_of_ble_eq_true rfl)) d_Y_findKind_2 ⟨Nat.le_of_ble_eq_true rfl, Nat.le_of_ble_eq_true rfl⟩) hw hA (fun r u H locs he hw => ?_)
  subst he
  rw [yrf_n]
  refine lv_astore_nN (lv' := [(3, .null), (0, .ref _), (1, .int _), (2, .int _)]) hx hb d_Y_findKind_5 rfl hl (by decide) rfl (fun ls hl => ?_)
  refine lv_aload_nN hx hb d_Y_findKind_6 rfl (lv_at hl 0 rfl) ?_
  refine lv_ifnullN (tgt := 22) hx hb d_Y_findKind_7 (by decide) ?_
  refine lv_null hx hb d_Y_findKind_22 ?_
  exact ye_q none rfl hI () rfl hw d_Y_findKind_23
