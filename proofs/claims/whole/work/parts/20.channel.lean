/-! CHANNEL -/
theorem yo_ch {σ : ys} {y c : Nat} {v : yc} : s_ch (sx_ch σ y c v) y c = v := up2_s _ _ _ _
theorem up2_up2 {β : Type} (f : Nat → Nat → β) (y i : Nat) (a b : β) : up2 (up2 f y i a) y i b = up2 f y i b := by
  funext y1 i1
  by_cases h : y1 = y ∧ i1 = i
  · rw [h.1, h.2, up2_s, up2_s]
  · rw [up2_n _ _ h, up2_n _ _ h, up2_n _ _ h]
theorem yo_ch_ch {σ : ys} {y c : Nat} {v w : yc} : sx_ch (sx_ch σ y c v) y c w = sx_ch σ y c w := by
  unfold sx_ch
  rw [up2_up2]
theorem ydec {n : Nat} (h : 0 < n) : nI n - 1 = nI (n - 1) := by
  obtain ⟨k, rfl⟩ : ∃ k, n = k + 1 := ⟨n - 1, by omega⟩
  exact nI_pred k
/-- one more value in a channel; the first value of a channel goes -/
def yo_put (σ : ys) (y c : Nat) (v : Int32) : ys := sx_ch (sx_rg σ y c (upd (s_rg σ y c) (((s_ch σ y c).2.1 + (s_ch σ y c).2.2) % 8) v)) y c ((s_ch σ y c).1, (s_ch σ y c).2.1, (s_ch σ y c).2.2 + 1)
def yo_take (σ : ys) (y c : Nat) : ys := sx_ch σ y c ((s_ch σ y c).1, ((s_ch σ y c).2.1 + 1) % 8, (s_ch σ y c).2.2 - 1)
set_option maxHeartbeats 4000000 in
set_option maxRecDepth 100000 in
/-- size: how many values wait -/
theorem c_C_size (l : Launch) (D : va_G) (cc : ClassId × ClassId × ClassId) (ad : yl → Nat) (LL : List yl) (X : va_W) (b0 sz : Nat) (σ : ys) (y c : Nat) (h9 : (9, y, c) ∈ LL) (h10 : (10, y, c) ∈ LL) : Met l y_C_size w_C_size ({ frames := 0, cells := 0, slots := 0, locals := 0 }) (yPr D cc b0 [.ref (ad (9, y, c))] (yW cc ad LL X σ) sz) (yQi D (yW cc ad LL X σ) sz (nI (s_ch σ y c).2.2) (yW cc ad LL X σ)) 0 0 (va_A (yW cc ad LL X σ) sz) := by
  refine y_ofW (cc := b_C_size) (maxL := 1) (ret := (some .int)) (by decide) rfl (Nat.le_of_ble_eq_true rfl) ?_
  intro pv ev sv mv bv tv cv ls hI hsz hw hl
  obtain ⟨hx, hb, hr, hml, hts, hown, hlocks, hnm, hK, hAb, hb0, hA⟩ := id hI
  have ht : ∀ w ∈ lg_tbl, w.before _ sv = true := fun w h => hts w (List.mem_cons_of_mem _ h)
  have hl : lv_has ls 1 [(0, .ref (ad (9, y, c)))] := hl
  refine lv_aload_n hx hb d_C_size_0 rfl (lv_at hl 0 rfl) ?_
  refine yr_get (C := R_C) (T := F_C) (N := 4) (ci := k_C) hx hb ht j_C hown hK.1 hw (by assumption) (by rfl) rfl 3 (by decide) (ht _ mf_C_22) (fun _ h9 => h9) (by rfl) d_C_size_1 ?_
  exact ye_i hI () rfl hw d_C_size_4
set_option maxHeartbeats 4000000 in
set_option maxRecDepth 100000 in
/-- isFull: no room is left -/
theorem c_C_isFull (l : Launch) (D : va_G) (cc : ClassId × ClassId × ClassId) (ad : yl → Nat) (LL : List yl) (X : va_W) (b0 sz : Nat) (σ : ys) (y c : Nat) (h9 : (9, y, c) ∈ LL) (h10 : (10, y, c) ∈ LL) (hi : (s_ch σ y c).1 ≤ 8 ∧ (s_ch σ y c).2.1 < 8 ∧ (s_ch σ y c).2.2 ≤ 8) : Met l y_C_isFull w_C_isFull ({ frames := 0, cells := 0, slots := 0, locals := 0 }) (yPr D cc b0 [.ref (ad (9, y, c))] (yW cc ad LL X σ) sz) (yQi D (yW cc ad LL X σ) sz (yb (decide ((s_ch σ y c).1 ≤ (s_ch σ y c).2.2))) (yW cc ad LL X σ)) 0 0 (va_A (yW cc ad LL X σ) sz) := by
  refine y_ofW (cc := b_C_isFull) (maxL := 1) (ret := (some .boolean)) (by decide) rfl (Nat.le_of_ble_eq_true rfl) ?_
  intro pv ev sv mv bv tv cv ls hI hsz hw hl
  obtain ⟨hx, hb, hr, hml, hts, hown, hlocks, hnm, hK, hAb, hb0, hA⟩ := id hI
  have ht : ∀ w ∈ lg_tbl, w.before _ sv = true := fun w h => hts w (List.mem_cons_of_mem _ h)
  have hl : lv_has ls 1 [(0, .ref (ad (9, y, c)))] := hl
  refine lv_aload_n hx hb d_C_isFull_0 rfl (lv_at hl 0 rfl) ?_
  refine yr_get (C := R_C) (T := F_C) (N := 4) (ci := k_C) hx hb ht j_C hown hK.1 hw (by assumption) (by rfl) rfl 3 (by decide) (ht _ mf_C_22) (fun _ h9 => h9) (by rfl) d_C_isFull_1 ?_
  refine lv_aload_n hx hb d_C_isFull_4 rfl (lv_at hl 0 rfl) ?_
  refine yr_get (C := R_C) (T := F_C) (N := 4) (ci := k_C) hx hb ht j_C hown hK.1 hw (by assumption) (by rfl) rfl 0 (by decide) (ht _ mf_C_9) (fun _ h9 => h9) (by rfl) d_C_isFull_5 ?_
  refine lv_icmp_lt (tgt := 15) hx hb d_C_isFull_8 (by decide) (fun c_8 => ?_) (fun c_8 => ?_)
  · have e1 : (s_ch σ y c).2.2 < (s_ch σ y c).1 := (nI_ltI (by omega) (by omega)).mp c_8
    refine lv_iconst (v := 0) hx hb d_C_isFull_15 (by decide) ?_
    exact ye_z hI (by decide) () (by first | rfl | (rw [decide_eq_true (by omega)]; rfl) | (rw [decide_eq_false (by omega)]; rfl)) hw d_C_isFull_16
  · have e1 : ¬ (s_ch σ y c).2.2 < (s_ch σ y c).1 := fun h => c_8 ((nI_ltI (by omega) (by omega)).mpr h)
    refine lv_iconst (v := 1) hx hb d_C_isFull_11 (by decide) ?_
    refine lv_goto (tgt := 16) hx hb d_C_isFull_12 (by decide) ?_
    exact ye_z hI (by decide) () (by first | rfl | (rw [decide_eq_true (by omega)]; rfl) | (rw [decide_eq_false (by omega)]; rfl)) hw d_C_isFull_16
set_option maxHeartbeats 4000000 in
set_option maxRecDepth 100000 in
/-- peek: the j-th that waits -/
theorem c_C_peek (l : Launch) (D : va_G) (cc : ClassId × ClassId × ClassId) (ad : yl → Nat) (LL : List yl) (X : va_W) (b0 sz : Nat) (σ : ys) (y c : Nat) (h9 : (9, y, c) ∈ LL) (h10 : (10, y, c) ∈ LL) (hi : (s_ch σ y c).1 ≤ 8 ∧ (s_ch σ y c).2.1 < 8 ∧ (s_ch σ y c).2.2 ≤ 8) (j : Nat) (hj : j < 8) : Met l y_C_peek w_C_peek ({ frames := 0, cells := 0, slots := 0, locals := 0 }) (yPr D cc b0 [.ref (ad (9, y, c)), .int (nI j)] (yW cc ad LL X σ) sz) (yQi D (yW cc ad LL X σ) sz (s_rg σ y c (((s_ch σ y c).2.1 + j) % 8)) (yW cc ad LL X σ)) 0 0 (va_A (yW cc ad LL X σ) sz) := by
  refine y_ofW (cc := b_C_peek) (maxL := 2) (ret := (some .int)) (by decide) rfl (Nat.le_of_ble_eq_true rfl) ?_
  intro pv ev sv mv bv tv cv ls hI hsz hw hl
  obtain ⟨hx, hb, hr, hml, hts, hown, hlocks, hnm, hK, hAb, hb0, hA⟩ := id hI
  have ht : ∀ w ∈ lg_tbl, w.before _ sv = true := fun w h => hts w (List.mem_cons_of_mem _ h)
  have hl : lv_has ls 2 [(0, .ref (ad (9, y, c))), (1, .int (nI j))] := hl
  refine lv_aload_n hx hb d_C_peek_0 rfl (lv_at hl 0 rfl) ?_
  refine yr_get (C := R_C) (T := F_C) (N := 4) (ci := k_C) hx hb ht j_C hown hK.1 hw (by assumption) (by rfl) rfl 1 (by decide) (ht _ mf_C_15) (fun _ h9 => h9) (by rfl) d_C_peek_1 ?_
  refine lv_aload_n hx hb d_C_peek_4 rfl (lv_at hl 0 rfl) ?_
  refine yr_get (C := R_C) (T := F_C) (N := 4) (ci := k_C) hx hb ht j_C hown hK.1 hw (by assumption) (by rfl) rfl 2 (by decide) (ht _ mf_C_19) (fun _ h9 => h9) (by rfl) d_C_peek_5 ?_
  refine lv_iload_n hx hb d_C_peek_8 rfl (lv_at hl 1 rfl) ?_
  refine lv_iadd hx hb d_C_peek_9 ?_
  refine lv_bipush (v := 7) hx hb d_C_peek_10 (by decide) ?_
  refine lv_iand hx hb d_C_peek_12 ?_
  rw [nI_add, yand7 (by omega)]
  refine yr_iald (v := s_rg σ y c (((s_ch σ y c).2.1 + j) % 8)) hx hb hK.1 hw (by assumption) (by rfl) 0 rfl (vp_in_nI (by omega) (by omega)) (by rw [nI_clamp (by omega)]) d_C_peek_13 ?_
  exact ye_i hI () rfl hw d_C_peek_14
set_option maxHeartbeats 4000000 in
set_option maxRecDepth 100000 in
/-- put: one more value waits -/
theorem c_C_put (l : Launch) (D : va_G) (cc : ClassId × ClassId × ClassId) (ad : yl → Nat) (LL : List yl) (X : va_W) (b0 sz : Nat) (σ : ys) (y c : Nat) (h9 : (9, y, c) ∈ LL) (h10 : (10, y, c) ∈ LL) (hi : (s_ch σ y c).1 ≤ 8 ∧ (s_ch σ y c).2.1 < 8 ∧ (s_ch σ y c).2.2 ≤ 8) (v : Int32) : Met l y_C_put w_C_put ({ frames := 0, cells := 0, slots := 0, locals := 0 }) (yPr D cc b0 [.ref (ad (9, y, c)), .int v] (yW cc ad LL X σ) sz) (yQv D (yW cc ad LL X σ) sz (yW cc ad LL X (yo_put σ y c v))) 0 0 (va_A (yW cc ad LL X σ) sz) := by
  refine y_ofW (cc := b_C_put) (maxL := 2) (ret := none) (by decide) rfl (Nat.le_of_ble_eq_true rfl) ?_
  intro pv ev sv mv bv tv cv ls hI hsz hw hl
  obtain ⟨hx, hb, hr, hml, hts, hown, hlocks, hnm, hK, hAb, hb0, hA⟩ := id hI
  have ht : ∀ w ∈ lg_tbl, w.before _ sv = true := fun w h => hts w (List.mem_cons_of_mem _ h)
  have hl : lv_has ls 2 [(0, .ref (ad (9, y, c))), (1, .int v)] := hl
  refine lv_aload_n hx hb d_C_put_0 rfl (lv_at hl 0 rfl) ?_
  refine yr_get (C := R_C) (T := F_C) (N := 4) (ci := k_C) hx hb ht j_C hown hK.1 hw (by assumption) (by rfl) rfl 1 (by decide) (ht _ mf_C_15) (fun _ h9 => h9) (by rfl) d_C_put_1 ?_
  refine lv_aload_n hx hb d_C_put_4 rfl (lv_at hl 0 rfl) ?_
  refine yr_get (C := R_C) (T := F_C) (N := 4) (ci := k_C) hx hb ht j_C hown hK.1 hw (by assumption) (by rfl) rfl 2 (by decide) (ht _ mf_C_19) (fun _ h9 => h9) (by rfl) d_C_put_5 ?_
  refine lv_aload_n hx hb d_C_put_8 rfl (lv_at hl 0 rfl) ?_
  refine yr_get (C := R_C) (T := F_C) (N := 4) (ci := k_C) hx hb ht j_C hown hK.1 hw (by assumption) (by rfl) rfl 3 (by decide) (ht _ mf_C_22) (fun _ h9 => h9) (by rfl) d_C_put_9 ?_
  refine lv_iadd hx hb d_C_put_12 ?_
  refine lv_bipush (v := 7) hx hb d_C_put_13 (by decide) ?_
  refine lv_iand hx hb d_C_put_15 ?_
  rw [nI_add, yand7 (by omega)]
  refine lv_iload_n hx hb d_C_put_16 rfl (lv_at hl 1 rfl) ?_
  refine yr_iast hx hb hK.1 hw (by assumption) (by rfl) 0 rfl (vp_in_nI (by omega) (by omega)) d_C_put_17 (fun H locs hw => ?_)
  rw [nI_clamp (by omega)] at hw
  have hw := yw_rg _ hw rfl
  refine lv_aload_n hx hb d_C_put_18 rfl (lv_at hl 0 rfl) ?_
  refine lv_dup hx hb d_C_put_19 rfl ?_
  refine yr_get (C := R_C) (T := F_C) (N := 4) (ci := k_C) hx hb ht j_C hown hK.1 hw (by assumption) (by rfl) rfl 3 (by decide) (ht _ mf_C_22) (fun _ h9 => h9) (by rfl) d_C_put_20 ?_
  refine lv_iconst (v := 1) hx hb d_C_put_23 (by decide) ?_
  refine lv_iadd hx hb d_C_put_24 ?_
  rw [nI_1]
  refine yr_put (ty := .int) (C := R_C) (T := F_C) (N := 4) (ci := k_C) hx hb ht j_C t_C t_C_ok n_C hown hK.1 hw (by assumption) (by rfl) rfl 3 (by decide) (ht _ mf_C_22) (fun _ h9 => h9) rfl (by decide +kernel) rfl rfl (Nat.le_of_ble_eq_true rfl) d_C_put_25 (fun H locs hw => ?_)
  have hw := yw_ch ((s_ch σ y c).1, (s_ch σ y c).2.1, (s_ch σ y c).2.2 + 1) hw rfl
  exact ye_v hI () trivial hw d_C_put_28
set_option maxHeartbeats 4000000 in
set_option maxRecDepth 100000 in
/-- take: the first value goes -/
theorem c_C_take (l : Launch) (D : va_G) (cc : ClassId × ClassId × ClassId) (ad : yl → Nat) (LL : List yl) (X : va_W) (b0 sz : Nat) (σ : ys) (y c : Nat) (h9 : (9, y, c) ∈ LL) (h10 : (10, y, c) ∈ LL) (hi : (s_ch σ y c).1 ≤ 8 ∧ (s_ch σ y c).2.1 < 8 ∧ (s_ch σ y c).2.2 ≤ 8) (hp : 0 < (s_ch σ y c).2.2) : Met l y_C_take w_C_take ({ frames := 0, cells := 0, slots := 0, locals := 0 }) (yPr D cc b0 [.ref (ad (9, y, c))] (yW cc ad LL X σ) sz) (yQi D (yW cc ad LL X σ) sz (s_rg σ y c ((s_ch σ y c).2.1 % 8)) (yW cc ad LL X (yo_take σ y c))) 0 0 (va_A (yW cc ad LL X σ) sz) := by
  refine y_ofW (cc := b_C_take) (maxL := 2) (ret := (some .int)) (by decide) rfl (Nat.le_of_ble_eq_true rfl) ?_
  intro pv ev sv mv bv tv cv ls hI hsz hw hl
  obtain ⟨hx, hb, hr, hml, hts, hown, hlocks, hnm, hK, hAb, hb0, hA⟩ := id hI
  have ht : ∀ w ∈ lg_tbl, w.before _ sv = true := fun w h => hts w (List.mem_cons_of_mem _ h)
  have hl : lv_has ls 2 [(0, .ref (ad (9, y, c)))] := hl
  refine lv_aload_n hx hb d_C_take_0 rfl (lv_at hl 0 rfl) ?_
  refine yr_get (C := R_C) (T := F_C) (N := 4) (ci := k_C) hx hb ht j_C hown hK.1 hw (by assumption) (by rfl) rfl 1 (by decide) (ht _ mf_C_15) (fun _ h9 => h9) (by rfl) d_C_take_1 ?_
  refine lv_aload_n hx hb d_C_take_4 rfl (lv_at hl 0 rfl) ?_
  refine yr_get (C := R_C) (T := F_C) (N := 4) (ci := k_C) hx hb ht j_C hown hK.1 hw (by assumption) (by rfl) rfl 2 (by decide) (ht _ mf_C_19) (fun _ h9 => h9) (by rfl) d_C_take_5 ?_
  refine lv_bipush (v := 7) hx hb d_C_take_8 (by decide) ?_
  refine lv_iand hx hb d_C_take_10 ?_
  rw [yand7 (by omega)]
  refine yr_iald (v := s_rg σ y c ((s_ch σ y c).2.1 % 8)) hx hb hK.1 hw (by assumption) (by rfl) 0 rfl (vp_in_nI (by omega) (by omega)) (by rw [nI_clamp (by omega)]) d_C_take_11 ?_
  refine lv_istore_n (lv' := [(1, .int _), (0, .ref _)]) hx hb d_C_take_12 rfl hl (by decide) rfl (fun ls hl => ?_)
  refine lv_aload_n hx hb d_C_take_13 rfl (lv_at hl 1 rfl) ?_
  refine lv_aload_n hx hb d_C_take_14 rfl (lv_at hl 1 rfl) ?_
  refine yr_get (C := R_C) (T := F_C) (N := 4) (ci := k_C) hx hb ht j_C hown hK.1 hw (by assumption) (by rfl) rfl 2 (by decide) (ht _ mf_C_19) (fun _ h9 => h9) (by rfl) d_C_take_15 ?_
  refine lv_iconst (v := 1) hx hb d_C_take_18 (by decide) ?_
  refine lv_iadd hx hb d_C_take_19 ?_
  refine lv_bipush (v := 7) hx hb d_C_take_20 (by decide) ?_
  refine lv_iand hx hb d_C_take_22 ?_
  rw [nI_1, yand7 (by omega)]
  refine yr_put (ty := .int) (C := R_C) (T := F_C) (N := 4) (ci := k_C) hx hb ht j_C t_C t_C_ok n_C hown hK.1 hw (by assumption) (by rfl) rfl 2 (by decide) (ht _ mf_C_19) (fun _ h9 => h9) rfl (by decide +kernel) rfl rfl (Nat.le_of_ble_eq_true rfl) d_C_take_23 (fun H locs hw => ?_)
  have hw := yw_ch ((s_ch σ y c).1, ((s_ch σ y c).2.1 + 1) % 8, (s_ch σ y c).2.2) hw rfl
  refine lv_aload_n hx hb d_C_take_26 rfl (lv_at hl 1 rfl) ?_
  refine lv_dup hx hb d_C_take_27 rfl ?_
  refine yr_get (C := R_C) (T := F_C) (N := 4) (ci := k_C) hx hb ht j_C hown hK.1 hw (by assumption) (by rfl) rfl 3 (by decide) (ht _ mf_C_22) (fun _ h9 => h9) (by rfl) d_C_take_28 ?_
  rw [yo_ch]
  refine lv_iconst (v := 1) hx hb d_C_take_31 (by decide) ?_
  refine lv_isub hx hb d_C_take_32 ?_
  rw [ydec hp]
  refine yr_put (ty := .int) (C := R_C) (T := F_C) (N := 4) (ci := k_C) hx hb ht j_C t_C t_C_ok n_C hown hK.1 hw (by assumption) (by rfl) rfl 3 (by decide) (ht _ mf_C_22) (fun _ h9 => h9) rfl (by decide +kernel) rfl rfl (Nat.le_of_ble_eq_true rfl) d_C_take_33 (fun H locs hw => ?_)
  have hw := yw_ch ((s_ch σ y c).1, ((s_ch σ y c).2.1 + 1) % 8, (s_ch σ y c).2.2 - 1) hw (by simp [yo_ch])
  rw [yo_ch_ch] at hw
  refine lv_iload_n hx hb d_C_take_36 rfl (lv_at hl 0 rfl) ?_
  exact ye_i hI () rfl hw d_C_take_37
