/-! ACTOR: the small methods -/
theorem yt_rows_le (k : Nat) : yt_rows k ≤ 60 := by
  unfold yt_rows
  match k with
  | 0 => decide
  | 1 => decide
  | 2 => decide
  | 3 => decide
  | 4 => decide
  | 5 => decide
  | 6 => decide
  | 7 => decide
  | 8 => decide
  | n + 9 => exact Nat.zero_le _
def yo_tell (σ : ys) (y i : Nat) (v : Int32) : ys := sx_ac (sx_rw σ y i (upd (s_rw σ y i) (s_ac σ y i).2.2.2.1 v)) y i ((s_ac σ y i).1, (s_ac σ y i).2.1, (s_ac σ y i).2.2.1, (s_ac σ y i).2.2.2.1 + 1, (s_ac σ y i).2.2.2.2)
def yo_give (σ : ys) (y i j : Nat) (v : Int32) : ys := match s_oc σ y i j with
  | none => σ
  | some c => yo_put σ y c v
theorem yo_give_n {σ : ys} {y i j : Nat} {v : Int32} (e : s_oc σ y i j = none) : yo_give σ y i j v = σ := by unfold yo_give; rw [e]
theorem yo_give_s {σ : ys} {y i j c : Nat} {v : Int32} (e : s_oc σ y i j = some c) : yo_give σ y i j v = yo_put σ y c v := by unfold yo_give; rw [e]
theorem yh_none {σ : ys} {y i j : Nat} (e : s_ic σ y i j = none) : yp_hd (s_T σ y) (s_D σ y) i j = none := by
  unfold yp_hd
  rw [show yp_ic (s_T σ y) i j = none from e]
  rfl
theorem yh_some {σ : ys} {y i j c : Nat} (e : s_ic σ y i j = some c) : yp_hd (s_T σ y) (s_D σ y) i j = (yrq (s_rg σ y c) (s_ch σ y c).2.1 (s_ch σ y c).2.2).head? := by
  unfold yp_hd
  rw [show yp_ic (s_T σ y) i j = some c from e]
  rfl
theorem yh_head {σ : ys} {y i j c : Nat} (e : s_ic σ y i j = some c) (h : 0 < (s_ch σ y c).2.2) : yp_hd (s_T σ y) (s_D σ y) i j = some (s_rg σ y c ((s_ch σ y c).2.1 % 8)) := by
  rw [yh_some e, yrq_head h]
theorem yh_some1 {σ : ys} {y i j c : Nat} (e : s_ic σ y i j = some c) (h : 0 < (s_ch σ y c).2.2) : (yp_hd (s_T σ y) (s_D σ y) i j).isSome = true := by
  rw [yh_head e h]; rfl
theorem yh_some0 {σ : ys} {y i j c : Nat} (e : s_ic σ y i j = some c) (h : ¬ 0 < (s_ch σ y c).2.2) : (yp_hd (s_T σ y) (s_D σ y) i j).isSome = false := by
  rw [yh_some e, show (s_ch σ y c).2.2 = 0 by omega]; rfl
theorem yr_none {σ : ys} {y i j : Nat} (e : s_oc σ y i j = none) : yp_roomb (s_T σ y) (s_D σ y) i j = true := by
  unfold yp_roomb
  rw [show yp_oc (s_T σ y) i j = none from e]
theorem yr_some {σ : ys} {y i j c : Nat} (e : s_oc σ y i j = some c) : yp_roomb (s_T σ y) (s_D σ y) i j = decide ((s_ch σ y c).2.2 < (s_ch σ y c).1) := by
  unfold yp_roomb
  rw [show yp_oc (s_T σ y) i j = some c from e]
  show decide ((yrq _ _ _).length < _) = _
  rw [yrq_len]
  rfl
set_option maxHeartbeats 4000000 in
set_option maxRecDepth 100000 in
/-- isKind -/
theorem c_A_isKind (l : Launch) (D : va_G) (cc : ClassId × ClassId × ClassId) (ad : yl → Nat) (LL : List yl) (X : va_W) (b0 sz : Nat) (σ : ys) (hL : ∀ q, yL σ q → q ∈ LL) (y i : Nat) (hy : y < 2) (hn : i < s_n σ y) (hi : yI σ y) (k : Nat) (hk : k < 9) : Met l y_A_isKind w_A_isKind ({ frames := 0, cells := 0, slots := 0, locals := 0 }) (yPr D cc b0 [.ref (ad (5, y, i)), .int (nI k)] (yW cc ad LL X σ) sz) (yQi D (yW cc ad LL X σ) sz (yb (decide ((s_ac σ y i).1 = k))) (yW cc ad LL X σ)) 0 0 (va_A (yW cc ad LL X σ) sz) := by
  have h5 : (5, y, i) ∈ LL := hL _ ⟨hy, hn⟩
  have h6 : (6, y, i) ∈ LL := hL _ ⟨hy, hn⟩
  have h7 : (7, y, i) ∈ LL := hL _ ⟨hy, hn⟩
  have h8 : (8, y, i) ∈ LL := hL _ ⟨hy, hn⟩
  obtain ⟨a1, a2, a3, a4, a5⟩ := hi.2.2.1 i
  refine y_ofW (cc := b_A_isKind) (maxL := 2) (ret := (some .boolean)) (by decide) rfl (Nat.le_of_ble_eq_true rfl) ?_
  intro pv ev sv mv bv tv cv ls hI hsz hw hl
  obtain ⟨hx, hb, hr, hml, hts, hown, hlocks, hnm, hK, hAb, hb0, hA⟩ := id hI
  have ht : ∀ w ∈ lg_tbl, w.before _ sv = true := fun w h => hts w (List.mem_cons_of_mem _ h)
  have hl : lv_has ls 2 [(0, .ref (ad (5, y, i))), (1, .int (nI k))] := hl
  refine lv_aload_n hx hb d_A_isKind_0 rfl (lv_at hl 0 rfl) ?_
  refine yr_get (C := R_A) (T := F_A) (N := 8) (ci := k_A) hx hb ht j_A hown hK.1 hw (by assumption) (by rfl) rfl 0 (by decide) (ht _ mf_A_9) (fun _ h9 => h9) (by rfl) d_A_isKind_1 ?_
  refine lv_iload_n hx hb d_A_isKind_4 rfl (lv_at hl 1 rfl) ?_
  refine lv_icmp_ne (tgt := 12) hx hb d_A_isKind_5 (by decide) (fun c_5 => ?_) (fun c_5 => ?_)
  · have e1 : ¬ (s_ac σ y i).1 = k := fun h => c_5 ((nI_eq (by omega) (by omega)).mpr h)
    refine lv_iconst (v := 0) hx hb d_A_isKind_12 (by decide) ?_
    exact ye_z hI (by decide) () (by first | rfl | (rw [decide_eq_true (by omega)]; rfl) | (rw [decide_eq_false (by omega)]; rfl)) hw d_A_isKind_13
  · have e1 : (s_ac σ y i).1 = k := (nI_eq (by omega) (by omega)).mp c_5
    refine lv_iconst (v := 1) hx hb d_A_isKind_8 (by decide) ?_
    refine lv_goto (tgt := 13) hx hb d_A_isKind_9 (by decide) ?_
    exact ye_z hI (by decide) () (by first | rfl | (rw [decide_eq_true (by omega)]; rfl) | (rw [decide_eq_false (by omega)]; rfl)) hw d_A_isKind_13
set_option maxHeartbeats 4000000 in
set_option maxRecDepth 100000 in
/-- times -/
theorem c_A_times (l : Launch) (D : va_G) (cc : ClassId × ClassId × ClassId) (ad : yl → Nat) (LL : List yl) (X : va_W) (b0 sz : Nat) (σ : ys) (hL : ∀ q, yL σ q → q ∈ LL) (y i : Nat) (hy : y < 2) (hn : i < s_n σ y) (hi : yI σ y) : Met l y_A_times w_A_times ({ frames := 0, cells := 0, slots := 0, locals := 0 }) (yPr D cc b0 [.ref (ad (5, y, i))] (yW cc ad LL X σ) sz) (yQi D (yW cc ad LL X σ) sz (nI (s_ac σ y i).2.2.2.2) (yW cc ad LL X σ)) 0 0 (va_A (yW cc ad LL X σ) sz) := by
  have h5 : (5, y, i) ∈ LL := hL _ ⟨hy, hn⟩
  have h6 : (6, y, i) ∈ LL := hL _ ⟨hy, hn⟩
  have h7 : (7, y, i) ∈ LL := hL _ ⟨hy, hn⟩
  have h8 : (8, y, i) ∈ LL := hL _ ⟨hy, hn⟩
  obtain ⟨a1, a2, a3, a4, a5⟩ := hi.2.2.1 i
  refine y_ofW (cc := b_A_times) (maxL := 1) (ret := (some .int)) (by decide) rfl (Nat.le_of_ble_eq_true rfl) ?_
  intro pv ev sv mv bv tv cv ls hI hsz hw hl
  obtain ⟨hx, hb, hr, hml, hts, hown, hlocks, hnm, hK, hAb, hb0, hA⟩ := id hI
  have ht : ∀ w ∈ lg_tbl, w.before _ sv = true := fun w h => hts w (List.mem_cons_of_mem _ h)
  have hl : lv_has ls 1 [(0, .ref (ad (5, y, i)))] := hl
  refine lv_aload_n hx hb d_A_times_0 rfl (lv_at hl 0 rfl) ?_
  refine yr_get (C := R_A) (T := F_A) (N := 8) (ci := k_A) hx hb ht j_A hown hK.1 hw (by assumption) (by rfl) rfl 7 (by decide) (ht _ mf_A_40) (fun _ h9 => h9) (by rfl) d_A_times_1 ?_
  exact ye_i hI () rfl hw d_A_times_4
set_option maxHeartbeats 4000000 in
set_option maxRecDepth 100000 in
/-- turn -/
theorem c_A_turn (l : Launch) (D : va_G) (cc : ClassId × ClassId × ClassId) (ad : yl → Nat) (LL : List yl) (X : va_W) (b0 sz : Nat) (σ : ys) (hL : ∀ q, yL σ q → q ∈ LL) (y i : Nat) (hy : y < 2) (hn : i < s_n σ y) (hi : yI σ y) : Met l y_A_turn w_A_turn ({ frames := 0, cells := 0, slots := 0, locals := 0 }) (yPr D cc b0 [.ref (ad (5, y, i))] (yW cc ad LL X σ) sz) (yQi D (yW cc ad LL X σ) sz (nI ((s_ac σ y i).2.2.2.2 % 2)) (yW cc ad LL X σ)) 0 0 (va_A (yW cc ad LL X σ) sz) := by
  have h5 : (5, y, i) ∈ LL := hL _ ⟨hy, hn⟩
  have h6 : (6, y, i) ∈ LL := hL _ ⟨hy, hn⟩
  have h7 : (7, y, i) ∈ LL := hL _ ⟨hy, hn⟩
  have h8 : (8, y, i) ∈ LL := hL _ ⟨hy, hn⟩
  obtain ⟨a1, a2, a3, a4, a5⟩ := hi.2.2.1 i
  refine y_ofW (cc := b_A_turn) (maxL := 1) (ret := (some .int)) (by decide) rfl (Nat.le_of_ble_eq_true rfl) ?_
  intro pv ev sv mv bv tv cv ls hI hsz hw hl
  obtain ⟨hx, hb, hr, hml, hts, hown, hlocks, hnm, hK, hAb, hb0, hA⟩ := id hI
  have ht : ∀ w ∈ lg_tbl, w.before _ sv = true := fun w h => hts w (List.mem_cons_of_mem _ h)
  have hl : lv_has ls 1 [(0, .ref (ad (5, y, i)))] := hl
  refine lv_aload_n hx hb d_A_turn_0 rfl (lv_at hl 0 rfl) ?_
  refine yr_get (C := R_A) (T := F_A) (N := 8) (ci := k_A) hx hb ht j_A hown hK.1 hw (by assumption) (by rfl) rfl 7 (by decide) (ht _ mf_A_40) (fun _ h9 => h9) (by rfl) d_A_turn_1 ?_
  refine lv_iconst (v := 1) hx hb d_A_turn_4 (by decide) ?_
  refine lv_iand hx hb d_A_turn_5 ?_
  rw [yand1 (by omega)]
  exact ye_i hI () rfl hw d_A_turn_6
set_option maxHeartbeats 4000000 in
set_option maxRecDepth 100000 in
/-- rowValue -/
theorem c_A_rowValue (l : Launch) (D : va_G) (cc : ClassId × ClassId × ClassId) (ad : yl → Nat) (LL : List yl) (X : va_W) (b0 sz : Nat) (σ : ys) (hL : ∀ q, yL σ q → q ∈ LL) (y i : Nat) (hy : y < 2) (hn : i < s_n σ y) (hi : yI σ y) (t : Nat) (ht2 : t < yt_rows (s_ac σ y i).1) : Met l y_A_rowValue w_A_rowValue ({ frames := 0, cells := 0, slots := 0, locals := 0 }) (yPr D cc b0 [.ref (ad (5, y, i)), .int (nI t)] (yW cc ad LL X σ) sz) (yQi D (yW cc ad LL X σ) sz (s_rw σ y i t) (yW cc ad LL X σ)) 0 0 (va_A (yW cc ad LL X σ) sz) := by
  have hr60 := yt_rows_le (s_ac σ y i).1
  have h5 : (5, y, i) ∈ LL := hL _ ⟨hy, hn⟩
  have h6 : (6, y, i) ∈ LL := hL _ ⟨hy, hn⟩
  have h7 : (7, y, i) ∈ LL := hL _ ⟨hy, hn⟩
  have h8 : (8, y, i) ∈ LL := hL _ ⟨hy, hn⟩
  obtain ⟨a1, a2, a3, a4, a5⟩ := hi.2.2.1 i
  refine y_ofW (cc := b_A_rowValue) (maxL := 2) (ret := (some .int)) (by decide) rfl (Nat.le_of_ble_eq_true rfl) ?_
  intro pv ev sv mv bv tv cv ls hI hsz hw hl
  obtain ⟨hx, hb, hr, hml, hts, hown, hlocks, hnm, hK, hAb, hb0, hA⟩ := id hI
  have ht : ∀ w ∈ lg_tbl, w.before _ sv = true := fun w h => hts w (List.mem_cons_of_mem _ h)
  have hl : lv_has ls 2 [(0, .ref (ad (5, y, i))), (1, .int (nI t))] := hl
  refine lv_iload_n hx hb d_A_rowValue_0 rfl (lv_at hl 1 rfl) ?_
  refine lv_if_lt (tgt := 22) hx hb d_A_rowValue_1 (by decide) (fun c_1 => by exact absurd c_1 (nI_pos (by omega))) (fun c_1 => ?_)
  refine lv_iload_n hx hb d_A_rowValue_4 rfl (lv_at hl 1 rfl) ?_
  refine lv_aload_n hx hb d_A_rowValue_5 rfl (lv_at hl 0 rfl) ?_
  refine yr_get (C := R_A) (T := F_A) (N := 8) (ci := k_A) hx hb ht j_A hown hK.1 hw (by assumption) (by rfl) rfl 5 (by decide) (ht _ mf_A_34) (fun _ h9 => h9) (by rfl) d_A_rowValue_6 ?_
  refine yr_alen (v := nI (yt_rows (s_ac σ y i).1)) hx hb hK.1 hw (by assumption) (by rfl) 0 rfl rfl d_A_rowValue_9 ?_
  refine lv_icmp_ge (tgt := 22) hx hb d_A_rowValue_10 (by decide) (fun c_10 => by exact absurd ((nI_leI (by omega) (by omega)).mp c_10) (by omega)) (fun c_10 => ?_)
  refine lv_aload_n hx hb d_A_rowValue_13 rfl (lv_at hl 0 rfl) ?_
  refine yr_get (C := R_A) (T := F_A) (N := 8) (ci := k_A) hx hb ht j_A hown hK.1 hw (by assumption) (by rfl) rfl 5 (by decide) (ht _ mf_A_34) (fun _ h9 => h9) (by rfl) d_A_rowValue_14 ?_
  refine lv_iload_n hx hb d_A_rowValue_17 rfl (lv_at hl 1 rfl) ?_
  refine yr_iald (v := s_rw σ y i t) hx hb hK.1 hw (by assumption) (by rfl) 0 rfl (vp_in_nI ht2 (by omega)) (by rw [nI_clamp (by omega)]) d_A_rowValue_18 ?_
  refine lv_goto (tgt := 23) hx hb d_A_rowValue_19 (by decide) ?_
  exact ye_i hI () rfl hw d_A_rowValue_23
set_option maxHeartbeats 4000000 in
set_option maxRecDepth 100000 in
/-- tell, refused -/
theorem c_A_tell_no (l : Launch) (D : va_G) (cc : ClassId × ClassId × ClassId) (ad : yl → Nat) (LL : List yl) (X : va_W) (b0 sz : Nat) (σ : ys) (hL : ∀ q, yL σ q → q ∈ LL) (y i : Nat) (hy : y < 2) (hn : i < s_n σ y) (hi : yI σ y) (v : Int32) (ht2 : ¬ (s_ac σ y i).2.2.2.1 < yt_rows (s_ac σ y i).1) : Met l y_A_tell w_A_tell ({ frames := 0, cells := 0, slots := 0, locals := 0 }) (yPr D cc b0 [.ref (ad (5, y, i)), .int v] (yW cc ad LL X σ) sz) (yQi D (yW cc ad LL X σ) sz 0 (yW cc ad LL X σ)) 0 0 (va_A (yW cc ad LL X σ) sz) := by
  have hr60 := yt_rows_le (s_ac σ y i).1
  have h5 : (5, y, i) ∈ LL := hL _ ⟨hy, hn⟩
  have h6 : (6, y, i) ∈ LL := hL _ ⟨hy, hn⟩
  have h7 : (7, y, i) ∈ LL := hL _ ⟨hy, hn⟩
  have h8 : (8, y, i) ∈ LL := hL _ ⟨hy, hn⟩
  obtain ⟨a1, a2, a3, a4, a5⟩ := hi.2.2.1 i
  refine y_ofW (cc := b_A_tell) (maxL := 2) (ret := (some .boolean)) (by decide) rfl (Nat.le_of_ble_eq_true rfl) ?_
  intro pv ev sv mv bv tv cv ls hI hsz hw hl
  obtain ⟨hx, hb, hr, hml, hts, hown, hlocks, hnm, hK, hAb, hb0, hA⟩ := id hI
  have ht : ∀ w ∈ lg_tbl, w.before _ sv = true := fun w h => hts w (List.mem_cons_of_mem _ h)
  have hl : lv_has ls 2 [(0, .ref (ad (5, y, i))), (1, .int v)] := hl
  refine lv_aload_n hx hb d_A_tell_0 rfl (lv_at hl 0 rfl) ?_
  refine yr_get (C := R_A) (T := F_A) (N := 8) (ci := k_A) hx hb ht j_A hown hK.1 hw (by assumption) (by rfl) rfl 6 (by decide) (ht _ mf_A_37) (fun _ h9 => h9) (by rfl) d_A_tell_1 ?_
  refine lv_aload_n hx hb d_A_tell_4 rfl (lv_at hl 0 rfl) ?_
  refine yr_get (C := R_A) (T := F_A) (N := 8) (ci := k_A) hx hb ht j_A hown hK.1 hw (by assumption) (by rfl) rfl 5 (by decide) (ht _ mf_A_34) (fun _ h9 => h9) (by rfl) d_A_tell_5 ?_
  refine yr_alen (v := nI (yt_rows (s_ac σ y i).1)) hx hb hK.1 hw (by assumption) (by rfl) 0 rfl rfl d_A_tell_8 ?_
  refine lv_icmp_lt (tgt := 14) hx hb d_A_tell_9 (by decide) (fun c_9 => by exact absurd ((nI_ltI (by omega) (by omega)).mp c_9) (by omega)) (fun c_9 => ?_)
  refine lv_iconst (v := 0) hx hb d_A_tell_12 (by decide) ?_
  exact ye_z hI (by decide) () (by first | rfl | (rw [decide_eq_true (by omega)]; rfl) | (rw [decide_eq_false (by omega)]; rfl)) hw d_A_tell_13
set_option maxHeartbeats 4000000 in
set_option maxRecDepth 100000 in
/-- tell -/
theorem c_A_tell (l : Launch) (D : va_G) (cc : ClassId × ClassId × ClassId) (ad : yl → Nat) (LL : List yl) (X : va_W) (b0 sz : Nat) (σ : ys) (hL : ∀ q, yL σ q → q ∈ LL) (y i : Nat) (hy : y < 2) (hn : i < s_n σ y) (hi : yI σ y) (v : Int32) (ht2 : (s_ac σ y i).2.2.2.1 < yt_rows (s_ac σ y i).1) : Met l y_A_tell w_A_tell ({ frames := 0, cells := 0, slots := 0, locals := 0 }) (yPr D cc b0 [.ref (ad (5, y, i)), .int v] (yW cc ad LL X σ) sz) (yQi D (yW cc ad LL X σ) sz 1 (yW cc ad LL X (yo_tell σ y i v))) 0 0 (va_A (yW cc ad LL X σ) sz) := by
  have hr60 := yt_rows_le (s_ac σ y i).1
  have h5 : (5, y, i) ∈ LL := hL _ ⟨hy, hn⟩
  have h6 : (6, y, i) ∈ LL := hL _ ⟨hy, hn⟩
  have h7 : (7, y, i) ∈ LL := hL _ ⟨hy, hn⟩
  have h8 : (8, y, i) ∈ LL := hL _ ⟨hy, hn⟩
  obtain ⟨a1, a2, a3, a4, a5⟩ := hi.2.2.1 i
  refine y_ofW (cc := b_A_tell) (maxL := 2) (ret := (some .boolean)) (by decide) rfl (Nat.le_of_ble_eq_true rfl) ?_
  intro pv ev sv mv bv tv cv ls hI hsz hw hl
  obtain ⟨hx, hb, hr, hml, hts, hown, hlocks, hnm, hK, hAb, hb0, hA⟩ := id hI
  have ht : ∀ w ∈ lg_tbl, w.before _ sv = true := fun w h => hts w (List.mem_cons_of_mem _ h)
  have hl : lv_has ls 2 [(0, .ref (ad (5, y, i))), (1, .int v)] := hl
  refine lv_aload_n hx hb d_A_tell_0 rfl (lv_at hl 0 rfl) ?_
  refine yr_get (C := R_A) (T := F_A) (N := 8) (ci := k_A) hx hb ht j_A hown hK.1 hw (by assumption) (by rfl) rfl 6 (by decide) (ht _ mf_A_37) (fun _ h9 => h9) (by rfl) d_A_tell_1 ?_
  refine lv_aload_n hx hb d_A_tell_4 rfl (lv_at hl 0 rfl) ?_
  refine yr_get (C := R_A) (T := F_A) (N := 8) (ci := k_A) hx hb ht j_A hown hK.1 hw (by assumption) (by rfl) rfl 5 (by decide) (ht _ mf_A_34) (fun _ h9 => h9) (by rfl) d_A_tell_5 ?_
  refine yr_alen (v := nI (yt_rows (s_ac σ y i).1)) hx hb hK.1 hw (by assumption) (by rfl) 0 rfl rfl d_A_tell_8 ?_
  refine lv_icmp_lt (tgt := 14) hx hb d_A_tell_9 (by decide) (fun c_9 => ?_) (fun c_9 => by exact absurd ((nI_ltI (by omega) (by omega)).mpr ht2) c_9)
  refine lv_aload_n hx hb d_A_tell_14 rfl (lv_at hl 0 rfl) ?_
  refine yr_get (C := R_A) (T := F_A) (N := 8) (ci := k_A) hx hb ht j_A hown hK.1 hw (by assumption) (by rfl) rfl 5 (by decide) (ht _ mf_A_34) (fun _ h9 => h9) (by rfl) d_A_tell_15 ?_
  refine lv_aload_n hx hb d_A_tell_18 rfl (lv_at hl 0 rfl) ?_
  refine yr_get (C := R_A) (T := F_A) (N := 8) (ci := k_A) hx hb ht j_A hown hK.1 hw (by assumption) (by rfl) rfl 6 (by decide) (ht _ mf_A_37) (fun _ h9 => h9) (by rfl) d_A_tell_19 ?_
  refine lv_iload_n hx hb d_A_tell_22 rfl (lv_at hl 1 rfl) ?_
  refine yr_iast hx hb hK.1 hw (by assumption) (by rfl) 0 rfl (vp_in_nI ht2 (by omega)) d_A_tell_23 (fun H locs hw => ?_)
  rw [nI_clamp (by omega)] at hw
  have hw := yw_rw _ hw rfl
  refine lv_aload_n hx hb d_A_tell_24 rfl (lv_at hl 0 rfl) ?_
  refine lv_dup hx hb d_A_tell_25 rfl ?_
  refine yr_get (C := R_A) (T := F_A) (N := 8) (ci := k_A) hx hb ht j_A hown hK.1 hw (by assumption) (by rfl) rfl 6 (by decide) (ht _ mf_A_37) (fun _ h9 => h9) (by rfl) d_A_tell_26 ?_
  refine lv_iconst (v := 1) hx hb d_A_tell_29 (by decide) ?_
  refine lv_iadd hx hb d_A_tell_30 ?_
  rw [nI_1]
  refine yr_put (ty := .int) (C := R_A) (T := F_A) (N := 8) (ci := k_A) hx hb ht j_A t_A t_A_ok n_A hown hK.1 hw (by assumption) (by rfl) rfl 6 (by decide) (ht _ mf_A_37) (fun _ h9 => h9) rfl (by decide +kernel) rfl rfl (Nat.le_of_ble_eq_true rfl) d_A_tell_31 (fun H locs hw => ?_)
  have hw := yw_ac ((s_ac σ y i).1, (s_ac σ y i).2.1, (s_ac σ y i).2.2.1, (s_ac σ y i).2.2.2.1 + 1, (s_ac σ y i).2.2.2.2) hw rfl rfl
  refine lv_iconst (v := 1) hx hb d_A_tell_34 (by decide) ?_
  exact ye_z hI (by decide) () rfl hw d_A_tell_35
set_option maxHeartbeats 4000000 in
set_option maxRecDepth 100000 in
/-- keep -/
theorem c_A_keep (l : Launch) (D : va_G) (cc : ClassId × ClassId × ClassId) (ad : yl → Nat) (LL : List yl) (X : va_W) (b0 sz : Nat) (σ : ys) (hL : ∀ q, yL σ q → q ∈ LL) (y i : Nat) (hy : y < 2) (hn : i < s_n σ y) (hi : yI σ y) (v : Int32) (ht2 : (s_ac σ y i).2.2.2.2 < yt_rows (s_ac σ y i).1) : Met l y_A_keep w_A_keep ({ frames := 0, cells := 0, slots := 0, locals := 0 }) (yPr D cc b0 [.ref (ad (5, y, i)), .int v] (yW cc ad LL X σ) sz) (yQv D (yW cc ad LL X σ) sz (yW cc ad LL X (sx_rw σ y i (upd (s_rw σ y i) (s_ac σ y i).2.2.2.2 v)))) 0 0 (va_A (yW cc ad LL X σ) sz) := by
  have hr60 := yt_rows_le (s_ac σ y i).1
  have h5 : (5, y, i) ∈ LL := hL _ ⟨hy, hn⟩
  have h6 : (6, y, i) ∈ LL := hL _ ⟨hy, hn⟩
  have h7 : (7, y, i) ∈ LL := hL _ ⟨hy, hn⟩
  have h8 : (8, y, i) ∈ LL := hL _ ⟨hy, hn⟩
  obtain ⟨a1, a2, a3, a4, a5⟩ := hi.2.2.1 i
  refine y_ofW (cc := b_A_keep) (maxL := 2) (ret := none) (by decide) rfl (Nat.le_of_ble_eq_true rfl) ?_
  intro pv ev sv mv bv tv cv ls hI hsz hw hl
  obtain ⟨hx, hb, hr, hml, hts, hown, hlocks, hnm, hK, hAb, hb0, hA⟩ := id hI
  have ht : ∀ w ∈ lg_tbl, w.before _ sv = true := fun w h => hts w (List.mem_cons_of_mem _ h)
  have hl : lv_has ls 2 [(0, .ref (ad (5, y, i))), (1, .int v)] := hl
  refine lv_aload_n hx hb d_A_keep_0 rfl (lv_at hl 0 rfl) ?_
  refine yr_get (C := R_A) (T := F_A) (N := 8) (ci := k_A) hx hb ht j_A hown hK.1 hw (by assumption) (by rfl) rfl 7 (by decide) (ht _ mf_A_40) (fun _ h9 => h9) (by rfl) d_A_keep_1 ?_
  refine lv_aload_n hx hb d_A_keep_4 rfl (lv_at hl 0 rfl) ?_
  refine yr_get (C := R_A) (T := F_A) (N := 8) (ci := k_A) hx hb ht j_A hown hK.1 hw (by assumption) (by rfl) rfl 5 (by decide) (ht _ mf_A_34) (fun _ h9 => h9) (by rfl) d_A_keep_5 ?_
  refine yr_alen (v := nI (yt_rows (s_ac σ y i).1)) hx hb hK.1 hw (by assumption) (by rfl) 0 rfl rfl d_A_keep_8 ?_
  refine lv_icmp_ge (tgt := 22) hx hb d_A_keep_9 (by decide) (fun c_9 => by exact absurd ((nI_leI (by omega) (by omega)).mp c_9) (by omega)) (fun c_9 => ?_)
  refine lv_aload_n hx hb d_A_keep_12 rfl (lv_at hl 0 rfl) ?_
  refine yr_get (C := R_A) (T := F_A) (N := 8) (ci := k_A) hx hb ht j_A hown hK.1 hw (by assumption) (by rfl) rfl 5 (by decide) (ht _ mf_A_34) (fun _ h9 => h9) (by rfl) d_A_keep_13 ?_
  refine lv_aload_n hx hb d_A_keep_16 rfl (lv_at hl 0 rfl) ?_
  refine yr_get (C := R_A) (T := F_A) (N := 8) (ci := k_A) hx hb ht j_A hown hK.1 hw (by assumption) (by rfl) rfl 7 (by decide) (ht _ mf_A_40) (fun _ h9 => h9) (by rfl) d_A_keep_17 ?_
  refine lv_iload_n hx hb d_A_keep_20 rfl (lv_at hl 1 rfl) ?_
  refine yr_iast hx hb hK.1 hw (by assumption) (by rfl) 0 rfl (vp_in_nI ht2 (by omega)) d_A_keep_21 (fun H locs hw => ?_)
  rw [nI_clamp (by omega)] at hw
  have hw := yw_rw _ hw rfl
  exact ye_v hI () trivial hw d_A_keep_22
set_option maxHeartbeats 4000000 in
set_option maxRecDepth 100000 in
/-- hasValue -/
theorem c_A_hasValue (l : Launch) (D : va_G) (cc : ClassId × ClassId × ClassId) (ad : yl → Nat) (LL : List yl) (X : va_W) (b0 sz : Nat) (σ : ys) (hL : ∀ q, yL σ q → q ∈ LL) (y i : Nat) (hy : y < 2) (hn : i < s_n σ y) (hi : yI σ y) (j : Nat) (hj : j < 2) : Met l y_A_hasValue w_A_hasValue ({ frames := 1, cells := 0, slots := 0, locals := 20 }) (yPr D cc b0 [.ref (ad (5, y, i)), .int (nI j)] (yW cc ad LL X σ) sz) (yQi D (yW cc ad LL X σ) sz (yb (yp_hd (s_T σ y) (s_D σ y) i j).isSome) (yW cc ad LL X σ)) 0 0 (va_A (yW cc ad LL X σ) sz) := by
  have h5 : (5, y, i) ∈ LL := hL _ ⟨hy, hn⟩
  have h6 : (6, y, i) ∈ LL := hL _ ⟨hy, hn⟩
  have h7 : (7, y, i) ∈ LL := hL _ ⟨hy, hn⟩
  have h8 : (8, y, i) ∈ LL := hL _ ⟨hy, hn⟩
  obtain ⟨a1, a2, a3, a4, a5⟩ := hi.2.2.1 i
  refine y_ofW (cc := b_A_hasValue) (maxL := 3) (ret := (some .boolean)) (by decide) rfl (Nat.le_of_ble_eq_true rfl) ?_
  intro pv ev sv mv bv tv cv ls hI hsz hw hl
  obtain ⟨hx, hb, hr, hml, hts, hown, hlocks, hnm, hK, hAb, hb0, hA⟩ := id hI
  have ht : ∀ w ∈ lg_tbl, w.before _ sv = true := fun w h => hts w (List.mem_cons_of_mem _ h)
  have hl : lv_has ls 3 [(0, .ref (ad (5, y, i))), (1, .int (nI j))] := hl
  cases e : s_ic σ y i j with
  | none =>
    refine lv_aload_n hx hb d_A_hasValue_0 rfl (lv_at hl 0 rfl) ?_
    refine yr_get (C := R_A) (T := F_A) (N := 8) (ci := k_A) hx hb ht j_A hown hK.1 hw (by assumption) (by rfl) rfl 3 (by decide) (ht _ mf_A_23) (fun _ h9 => h9) (by rfl) d_A_hasValue_1 ?_
    refine lv_iload_n hx hb d_A_hasValue_4 rfl (lv_at hl 1 rfl) ?_
    refine yr_aldq (v := .null) hx hb hK.1 hw (by assumption) (by rfl) 2 rfl (vp_in_nI (by omega) (by omega)) (by rw [nI_clamp (by omega)]; show va_rf ((s_ic σ y i j).map _) = _; rw [e]; rfl) d_A_hasValue_5 ?_
    refine lv_astore_nN (lv' := [(2, .null), (0, .ref _), (1, .int _)]) hx hb d_A_hasValue_6 rfl hl (by decide) rfl (fun ls hl => ?_)
    refine lv_aload_nN hx hb d_A_hasValue_7 rfl (lv_at hl 0 rfl) ?_
    refine lv_ifnullN (tgt := 22) hx hb d_A_hasValue_8 (by decide) ?_
    refine lv_iconst (v := 0) hx hb d_A_hasValue_22 (by decide) ?_
    exact ye_z hI (by decide) () (by rw [yh_none e]; rfl) hw d_A_hasValue_23
  | some c =>
    have hc := hi.2.2.2.2.1 i j c e
    have h9 : (9, y, c) ∈ LL := hL _ ⟨hy, hc.2.2⟩
    have h10 : (10, y, c) ∈ LL := hL _ ⟨hy, hc.2.2⟩
    obtain ⟨b1, b2, b3, b4⟩ := hi.2.2.2.1 c
    refine lv_aload_n hx hb d_A_hasValue_0 rfl (lv_at hl 0 rfl) ?_
    refine yr_get (C := R_A) (T := F_A) (N := 8) (ci := k_A) hx hb ht j_A hown hK.1 hw (by assumption) (by rfl) rfl 3 (by decide) (ht _ mf_A_23) (fun _ h9 => h9) (by rfl) d_A_hasValue_1 ?_
    refine lv_iload_n hx hb d_A_hasValue_4 rfl (lv_at hl 1 rfl) ?_
    refine yr_aldq (v := .ref (ad (9, y, c))) hx hb hK.1 hw (by assumption) (by rfl) 2 rfl (vp_in_nI (by omega) (by omega)) (by rw [nI_clamp (by omega)]; show va_rf ((s_ic σ y i j).map _) = _; rw [e]; rfl) d_A_hasValue_5 ?_
    refine lv_astore_n (lv' := [(2, .ref _), (0, .ref _), (1, .int _)]) hx hb d_A_hasValue_6 rfl hl (by decide) rfl (fun ls hl => ?_)
    refine lv_aload_n hx hb d_A_hasValue_7 rfl (lv_at hl 0 rfl) ?_
    refine lv_ifnull hx hb d_A_hasValue_8 ?_
    refine lv_aload_n hx hb d_A_hasValue_11 rfl (lv_at hl 0 rfl) ?_
    refine yc_i (va_runV (As := []) (rest := []) ⟨hx, hb, hml, hown, hts⟩ (c_C_size l D cc ad LL X b0 _ σ y c h9 h10) (cwV 0 hts (yg_call mc_C_size ml_A_78 mm_C_size ms_C_size mi_C) rfl rfl rfl (by decide +kernel) ⟨Nat.le_of_ble_eq_true rfl, Nat.le_of_ble_eq_true rfl⟩) (y_preV hI hw (y_recv hK.1 hw h9 (by rfl) rfl)) rfl rfl hl.1 rfl (lv_room (Nat.le_of_ble_eq_true rfl)) d_A_hasValue_12 ⟨Nat.le_of_ble_eq_true rfl, Nat.le_of_ble_eq_true rfl⟩) hw hA (fun r u H locs he hw => ?_)
    subst he
    refine lv_if_le (tgt := 22) hx hb d_A_hasValue_15 (by decide) (fun c_15 => ?_) (fun c_15 => ?_)
    · have e1 : ¬ 0 < (s_ch σ y c).2.2 := fun h => absurd c_15 (nI_nle h (by omega))
      refine lv_iconst (v := 0) hx hb d_A_hasValue_22 (by decide) ?_
      exact ye_z hI (by decide) () (by first | (rw [yh_some1 e e1]; rfl) | (rw [yh_some0 e e1]; rfl)) hw d_A_hasValue_23
    · have e1 : 0 < (s_ch σ y c).2.2 := by
        rcases Nat.eq_zero_or_pos (s_ch σ y c).2.2 with h | h
        · exact absurd (by rw [h]; decide) c_15
        · exact h
      refine lv_iconst (v := 1) hx hb d_A_hasValue_18 (by decide) ?_
      refine lv_goto (tgt := 23) hx hb d_A_hasValue_19 (by decide) ?_
      exact ye_z hI (by decide) () (by first | (rw [yh_some1 e e1]; rfl) | (rw [yh_some0 e e1]; rfl)) hw d_A_hasValue_23
set_option maxHeartbeats 4000000 in
set_option maxRecDepth 100000 in
/-- hasRoom -/
theorem c_A_hasRoom (l : Launch) (D : va_G) (cc : ClassId × ClassId × ClassId) (ad : yl → Nat) (LL : List yl) (X : va_W) (b0 sz : Nat) (σ : ys) (hL : ∀ q, yL σ q → q ∈ LL) (y i : Nat) (hy : y < 2) (hn : i < s_n σ y) (hi : yI σ y) (j : Nat) (hj : j < 2) : Met l y_A_hasRoom w_A_hasRoom ({ frames := 1, cells := 0, slots := 0, locals := 20 }) (yPr D cc b0 [.ref (ad (5, y, i)), .int (nI j)] (yW cc ad LL X σ) sz) (yQi D (yW cc ad LL X σ) sz (yb (yp_roomb (s_T σ y) (s_D σ y) i j)) (yW cc ad LL X σ)) 0 0 (va_A (yW cc ad LL X σ) sz) := by
  have h5 : (5, y, i) ∈ LL := hL _ ⟨hy, hn⟩
  have h6 : (6, y, i) ∈ LL := hL _ ⟨hy, hn⟩
  have h7 : (7, y, i) ∈ LL := hL _ ⟨hy, hn⟩
  have h8 : (8, y, i) ∈ LL := hL _ ⟨hy, hn⟩
  obtain ⟨a1, a2, a3, a4, a5⟩ := hi.2.2.1 i
  refine y_ofW (cc := b_A_hasRoom) (maxL := 3) (ret := (some .boolean)) (by decide) rfl (Nat.le_of_ble_eq_true rfl) ?_
  intro pv ev sv mv bv tv cv ls hI hsz hw hl
  obtain ⟨hx, hb, hr, hml, hts, hown, hlocks, hnm, hK, hAb, hb0, hA⟩ := id hI
  have ht : ∀ w ∈ lg_tbl, w.before _ sv = true := fun w h => hts w (List.mem_cons_of_mem _ h)
  have hl : lv_has ls 3 [(0, .ref (ad (5, y, i))), (1, .int (nI j))] := hl
  cases e : s_oc σ y i j with
  | none =>
    refine lv_aload_n hx hb d_A_hasRoom_0 rfl (lv_at hl 0 rfl) ?_
    refine yr_get (C := R_A) (T := F_A) (N := 8) (ci := k_A) hx hb ht j_A hown hK.1 hw (by assumption) (by rfl) rfl 4 (by decide) (ht _ mf_A_27) (fun _ h9 => h9) (by rfl) d_A_hasRoom_1 ?_
    refine lv_iload_n hx hb d_A_hasRoom_4 rfl (lv_at hl 1 rfl) ?_
    refine yr_aldq (v := .null) hx hb hK.1 hw (by assumption) (by rfl) 2 rfl (vp_in_nI (by omega) (by omega)) (by rw [nI_clamp (by omega)]; show va_rf ((s_oc σ y i j).map _) = _; rw [e]; rfl) d_A_hasRoom_5 ?_
    refine lv_astore_nN (lv' := [(2, .null), (0, .ref _), (1, .int _)]) hx hb d_A_hasRoom_6 rfl hl (by decide) rfl (fun ls hl => ?_)
    refine lv_aload_nN hx hb d_A_hasRoom_7 rfl (lv_at hl 0 rfl) ?_
    refine lv_ifnullN (tgt := 18) hx hb d_A_hasRoom_8 (by decide) ?_
    refine lv_iconst (v := 1) hx hb d_A_hasRoom_18 (by decide) ?_
    refine lv_goto (tgt := 23) hx hb d_A_hasRoom_19 (by decide) ?_
    exact ye_z hI (by decide) () (by rw [yr_none e]; rfl) hw d_A_hasRoom_23
  | some c =>
    have hc := hi.2.2.2.2.2.1 i j c e
    have h9 : (9, y, c) ∈ LL := hL _ ⟨hy, hc.2.2⟩
    have h10 : (10, y, c) ∈ LL := hL _ ⟨hy, hc.2.2⟩
    obtain ⟨b1, b2, b3, b4⟩ := hi.2.2.2.1 c
    refine lv_aload_n hx hb d_A_hasRoom_0 rfl (lv_at hl 0 rfl) ?_
    refine yr_get (C := R_A) (T := F_A) (N := 8) (ci := k_A) hx hb ht j_A hown hK.1 hw (by assumption) (by rfl) rfl 4 (by decide) (ht _ mf_A_27) (fun _ h9 => h9) (by rfl) d_A_hasRoom_1 ?_
    refine lv_iload_n hx hb d_A_hasRoom_4 rfl (lv_at hl 1 rfl) ?_
    refine yr_aldq (v := .ref (ad (9, y, c))) hx hb hK.1 hw (by assumption) (by rfl) 2 rfl (vp_in_nI (by omega) (by omega)) (by rw [nI_clamp (by omega)]; show va_rf ((s_oc σ y i j).map _) = _; rw [e]; rfl) d_A_hasRoom_5 ?_
    refine lv_astore_n (lv' := [(2, .ref _), (0, .ref _), (1, .int _)]) hx hb d_A_hasRoom_6 rfl hl (by decide) rfl (fun ls hl => ?_)
    refine lv_aload_n hx hb d_A_hasRoom_7 rfl (lv_at hl 0 rfl) ?_
    refine lv_ifnull hx hb d_A_hasRoom_8 ?_
    refine lv_aload_n hx hb d_A_hasRoom_11 rfl (lv_at hl 0 rfl) ?_
    refine yc_i (va_runV (As := []) (rest := []) ⟨hx, hb, hml, hown, hts⟩ (c_C_isFull l D cc ad LL X b0 _ σ y c h9 h10 ⟨by omega, by omega, by omega⟩) (cwV 0 hts (yg_call mc_C_isFull ml_A_84 mm_C_isFull ms_C_isFull mi_C) rfl rfl rfl (by decide +kernel) ⟨Nat.le_of_ble_eq_true rfl, Nat.le_of_ble_eq_true rfl⟩) (y_preV hI hw (y_recv hK.1 hw h9 (by rfl) rfl)) rfl rfl hl.1 rfl (lv_room (Nat.le_of_ble_eq_true rfl)) d_A_hasRoom_12 ⟨Nat.le_of_ble_eq_true rfl, Nat.le_of_ble_eq_true rfl⟩) hw hA (fun r u H locs he hw => ?_)
    subst he
    refine lv_if_ne (tgt := 22) hx hb d_A_hasRoom_15 (by decide) (fun c_15 => ?_) (fun c_15 => ?_)
    · have e1 : ¬ (s_ch σ y c).2.2 < (s_ch σ y c).1 := fun h => c_15 (by rw [decide_eq_false (by omega)]; rfl)
      refine lv_iconst (v := 0) hx hb d_A_hasRoom_22 (by decide) ?_
      exact ye_z hI (by decide) () (by rw [yr_some e]; first | rfl | (rw [decide_eq_true (by omega)]; rfl) | (rw [decide_eq_false (by omega)]; rfl)) hw d_A_hasRoom_23
    · have e1 : (s_ch σ y c).2.2 < (s_ch σ y c).1 := by
        by_cases h : (s_ch σ y c).2.2 < (s_ch σ y c).1
        · exact h
        · rw [decide_eq_true (by omega)] at c_15
          exact absurd c_15 (by decide)
      refine lv_iconst (v := 1) hx hb d_A_hasRoom_18 (by decide) ?_
      refine lv_goto (tgt := 23) hx hb d_A_hasRoom_19 (by decide) ?_
      exact ye_z hI (by decide) () (by rw [yr_some e]; first | rfl | (rw [decide_eq_true (by omega)]; rfl) | (rw [decide_eq_false (by omega)]; rfl)) hw d_A_hasRoom_23
set_option maxHeartbeats 4000000 in
set_option maxRecDepth 100000 in
/-- give -/
theorem c_A_give (l : Launch) (D : va_G) (cc : ClassId × ClassId × ClassId) (ad : yl → Nat) (LL : List yl) (X : va_W) (b0 sz : Nat) (σ : ys) (hL : ∀ q, yL σ q → q ∈ LL) (y i : Nat) (hy : y < 2) (hn : i < s_n σ y) (hi : yI σ y) (j : Nat) (hj : j < 2) (v : Int32) : Met l y_A_give w_A_give ({ frames := 1, cells := 0, slots := 0, locals := 21 }) (yPr D cc b0 [.ref (ad (5, y, i)), .int (nI j), .int v] (yW cc ad LL X σ) sz) (yQv D (yW cc ad LL X σ) sz (yW cc ad LL X (yo_give σ y i j v))) 0 0 (va_A (yW cc ad LL X σ) sz) := by
  have h5 : (5, y, i) ∈ LL := hL _ ⟨hy, hn⟩
  have h6 : (6, y, i) ∈ LL := hL _ ⟨hy, hn⟩
  have h7 : (7, y, i) ∈ LL := hL _ ⟨hy, hn⟩
  have h8 : (8, y, i) ∈ LL := hL _ ⟨hy, hn⟩
  obtain ⟨a1, a2, a3, a4, a5⟩ := hi.2.2.1 i
  refine y_ofW (cc := b_A_give) (maxL := 4) (ret := none) (by decide) rfl (Nat.le_of_ble_eq_true rfl) ?_
  intro pv ev sv mv bv tv cv ls hI hsz hw hl
  obtain ⟨hx, hb, hr, hml, hts, hown, hlocks, hnm, hK, hAb, hb0, hA⟩ := id hI
  have ht : ∀ w ∈ lg_tbl, w.before _ sv = true := fun w h => hts w (List.mem_cons_of_mem _ h)
  have hl : lv_has ls 4 [(0, .ref (ad (5, y, i))), (1, .int (nI j)), (2, .int v)] := hl
  cases e : s_oc σ y i j with
  | none =>
    refine lv_aload_n hx hb d_A_give_0 rfl (lv_at hl 0 rfl) ?_
    refine yr_get (C := R_A) (T := F_A) (N := 8) (ci := k_A) hx hb ht j_A hown hK.1 hw (by assumption) (by rfl) rfl 4 (by decide) (ht _ mf_A_27) (fun _ h9 => h9) (by rfl) d_A_give_1 ?_
    refine lv_iload_n hx hb d_A_give_4 rfl (lv_at hl 1 rfl) ?_
    refine yr_aldq (v := .null) hx hb hK.1 hw (by assumption) (by rfl) 2 rfl (vp_in_nI (by omega) (by omega)) (by rw [nI_clamp (by omega)]; show va_rf ((s_oc σ y i j).map _) = _; rw [e]; rfl) d_A_give_5 ?_
    refine lv_astore_nN (lv' := [(3, .null), (0, .ref _), (1, .int _), (2, .int _)]) hx hb d_A_give_6 rfl hl (by decide) rfl (fun ls hl => ?_)
    refine lv_aload_nN hx hb d_A_give_7 rfl (lv_at hl 0 rfl) ?_
    refine lv_ifnullN (tgt := 16) hx hb d_A_give_8 (by decide) ?_
    rw [yo_give_n e]
    exact ye_v hI () trivial hw d_A_give_16
  | some c =>
    have hc := hi.2.2.2.2.2.1 i j c e
    have h9 : (9, y, c) ∈ LL := hL _ ⟨hy, hc.2.2⟩
    have h10 : (10, y, c) ∈ LL := hL _ ⟨hy, hc.2.2⟩
    obtain ⟨b1, b2, b3, b4⟩ := hi.2.2.2.1 c
    refine lv_aload_n hx hb d_A_give_0 rfl (lv_at hl 0 rfl) ?_
    refine yr_get (C := R_A) (T := F_A) (N := 8) (ci := k_A) hx hb ht j_A hown hK.1 hw (by assumption) (by rfl) rfl 4 (by decide) (ht _ mf_A_27) (fun _ h9 => h9) (by rfl) d_A_give_1 ?_
    refine lv_iload_n hx hb d_A_give_4 rfl (lv_at hl 1 rfl) ?_
    refine yr_aldq (v := .ref (ad (9, y, c))) hx hb hK.1 hw (by assumption) (by rfl) 2 rfl (vp_in_nI (by omega) (by omega)) (by rw [nI_clamp (by omega)]; show va_rf ((s_oc σ y i j).map _) = _; rw [e]; rfl) d_A_give_5 ?_
    refine lv_astore_n (lv' := [(3, .ref _), (0, .ref _), (1, .int _), (2, .int _)]) hx hb d_A_give_6 rfl hl (by decide) rfl (fun ls hl => ?_)
    refine lv_aload_n hx hb d_A_give_7 rfl (lv_at hl 0 rfl) ?_
    refine lv_ifnull hx hb d_A_give_8 ?_
    refine lv_aload_n hx hb d_A_give_11 rfl (lv_at hl 0 rfl) ?_
    refine lv_iload_n hx hb d_A_give_12 rfl (lv_at hl 3 rfl) ?_
    refine yc_v (va_runV (As := [.int _]) (rest := []) ⟨hx, hb, hml, hown, hts⟩ (c_C_put l D cc ad LL X b0 _ σ y c h9 h10 ⟨by omega, by omega, by omega⟩ v) (cwV 1 hts (yg_call mc_C_put ml_A_90 mm_C_put ms_C_put mi_C) rfl rfl rfl (by decide +kernel) ⟨Nat.le_of_ble_eq_true rfl, Nat.le_of_ble_eq_true rfl⟩) (y_preV hI hw (y_recv hK.1 hw h9 (by rfl) rfl)) rfl rfl hl.1 rfl (lv_room (Nat.le_of_ble_eq_true rfl)) d_A_give_13 ⟨Nat.le_of_ble_eq_true rfl, Nat.le_of_ble_eq_true rfl⟩) hw hA (fun u H locs he hw => ?_)
    rw [yo_give_s e]
    exact ye_v hI () trivial hw d_A_give_16
set_option maxHeartbeats 4000000 in
set_option maxRecDepth 100000 in
/-- isZero, where a value waits -/
theorem c_A_isZero (l : Launch) (D : va_G) (cc : ClassId × ClassId × ClassId) (ad : yl → Nat) (LL : List yl) (X : va_W) (b0 sz : Nat) (σ : ys) (hL : ∀ q, yL σ q → q ∈ LL) (y i : Nat) (hy : y < 2) (hn : i < s_n σ y) (hi : yI σ y) (j : Nat) (hj : j < 2) (c : Nat) (e : s_ic σ y i j = some c) (hp : 0 < (s_ch σ y c).2.2) : Met l y_A_isZero w_A_isZero ({ frames := 1, cells := 0, slots := 0, locals := 21 }) (yPr D cc b0 [.ref (ad (5, y, i)), .int (nI j)] (yW cc ad LL X σ) sz) (yQi D (yW cc ad LL X σ) sz (yb (decide (yp_hd (s_T σ y) (s_D σ y) i j = some 0))) (yW cc ad LL X σ)) 0 0 (va_A (yW cc ad LL X σ) sz) := by
  have h5 : (5, y, i) ∈ LL := hL _ ⟨hy, hn⟩
  have h6 : (6, y, i) ∈ LL := hL _ ⟨hy, hn⟩
  have h7 : (7, y, i) ∈ LL := hL _ ⟨hy, hn⟩
  have h8 : (8, y, i) ∈ LL := hL _ ⟨hy, hn⟩
  obtain ⟨a1, a2, a3, a4, a5⟩ := hi.2.2.1 i
  refine y_ofW (cc := b_A_isZero) (maxL := 3) (ret := (some .boolean)) (by decide) rfl (Nat.le_of_ble_eq_true rfl) ?_
  intro pv ev sv mv bv tv cv ls hI hsz hw hl
  obtain ⟨hx, hb, hr, hml, hts, hown, hlocks, hnm, hK, hAb, hb0, hA⟩ := id hI
  have ht : ∀ w ∈ lg_tbl, w.before _ sv = true := fun w h => hts w (List.mem_cons_of_mem _ h)
  have hl : lv_has ls 3 [(0, .ref (ad (5, y, i))), (1, .int (nI j))] := hl
  have hc := hi.2.2.2.2.1 i j c e
  have h9 : (9, y, c) ∈ LL := hL _ ⟨hy, hc.2.2⟩
  have h10 : (10, y, c) ∈ LL := hL _ ⟨hy, hc.2.2⟩
  obtain ⟨b1, b2, b3, b4⟩ := hi.2.2.2.1 c
  refine lv_aload_n hx hb d_A_isZero_0 rfl (lv_at hl 0 rfl) ?_
  refine yr_get (C := R_A) (T := F_A) (N := 8) (ci := k_A) hx hb ht j_A hown hK.1 hw (by assumption) (by rfl) rfl 3 (by decide) (ht _ mf_A_23) (fun _ h9 => h9) (by rfl) d_A_isZero_1 ?_
  refine lv_iload_n hx hb d_A_isZero_4 rfl (lv_at hl 1 rfl) ?_
  refine yr_aldq (v := .ref (ad (9, y, c))) hx hb hK.1 hw (by assumption) (by rfl) 2 rfl (vp_in_nI (by omega) (by omega)) (by rw [nI_clamp (by omega)]; show va_rf ((s_ic σ y i j).map _) = _; rw [e]; rfl) d_A_isZero_5 ?_
  refine lv_astore_n (lv' := [(2, .ref _), (0, .ref _), (1, .int _)]) hx hb d_A_isZero_6 rfl hl (by decide) rfl (fun ls hl => ?_)
  refine lv_aload_n hx hb d_A_isZero_7 rfl (lv_at hl 0 rfl) ?_
  refine lv_ifnull hx hb d_A_isZero_8 ?_
  refine lv_aload_n hx hb d_A_isZero_11 rfl (lv_at hl 0 rfl) ?_
  refine lv_iconst (v := (nI 0)) hx hb d_A_isZero_12 (by decide) ?_
  refine yc_i (va_runV (As := [.int _]) (rest := []) ⟨hx, hb, hml, hown, hts⟩ (c_C_peek l D cc ad LL X b0 _ σ y c h9 h10 ⟨by omega, by omega, by omega⟩ 0 (by omega)) (cwV 1 hts (yg_call mc_C_peek ml_A_81 mm_C_peek ms_C_peek mi_C) rfl rfl rfl (by decide +kernel) ⟨Nat.le_of_ble_eq_true rfl, Nat.le_of_ble_eq_true rfl⟩) (y_preV hI hw (y_recv hK.1 hw h9 (by rfl) rfl)) rfl rfl hl.1 rfl (lv_room (Nat.le_of_ble_eq_true rfl)) d_A_isZero_13 ⟨Nat.le_of_ble_eq_true rfl, Nat.le_of_ble_eq_true rfl⟩) hw hA (fun r u H locs he hw => ?_)
  subst he
  refine lv_if_ne (tgt := 23) hx hb d_A_isZero_16 (by decide) (fun c_16 => ?_) (fun c_16 => ?_)
  · refine lv_iconst (v := 0) hx hb d_A_isZero_23 (by decide) ?_
    exact ye_z hI (by decide) () (by rw [yh_head e hp]; simp_all [yb]) hw d_A_isZero_24
  · refine lv_iconst (v := 1) hx hb d_A_isZero_19 (by decide) ?_
    refine lv_goto (tgt := 24) hx hb d_A_isZero_20 (by decide) ?_
    exact ye_z hI (by decide) () (by rw [yh_head e hp]; simp_all [yb]) hw d_A_isZero_24
set_option maxHeartbeats 4000000 in
set_option maxRecDepth 100000 in
/-- take, where a value waits -/
theorem c_A_take (l : Launch) (D : va_G) (cc : ClassId × ClassId × ClassId) (ad : yl → Nat) (LL : List yl) (X : va_W) (b0 sz : Nat) (σ : ys) (hL : ∀ q, yL σ q → q ∈ LL) (y i : Nat) (hy : y < 2) (hn : i < s_n σ y) (hi : yI σ y) (j : Nat) (hj : j < 2) (c : Nat) (e : s_ic σ y i j = some c) (hp : 0 < (s_ch σ y c).2.2) : Met l y_A_take w_A_take ({ frames := 1, cells := 0, slots := 0, locals := 21 }) (yPr D cc b0 [.ref (ad (5, y, i)), .int (nI j)] (yW cc ad LL X σ) sz) (yQi D (yW cc ad LL X σ) sz (s_rg σ y c ((s_ch σ y c).2.1 % 8)) (yW cc ad LL X (yo_take σ y c))) 0 0 (va_A (yW cc ad LL X σ) sz) := by
  have h5 : (5, y, i) ∈ LL := hL _ ⟨hy, hn⟩
  have h6 : (6, y, i) ∈ LL := hL _ ⟨hy, hn⟩
  have h7 : (7, y, i) ∈ LL := hL _ ⟨hy, hn⟩
  have h8 : (8, y, i) ∈ LL := hL _ ⟨hy, hn⟩
  obtain ⟨a1, a2, a3, a4, a5⟩ := hi.2.2.1 i
  refine y_ofW (cc := b_A_take) (maxL := 3) (ret := (some .int)) (by decide) rfl (Nat.le_of_ble_eq_true rfl) ?_
  intro pv ev sv mv bv tv cv ls hI hsz hw hl
  obtain ⟨hx, hb, hr, hml, hts, hown, hlocks, hnm, hK, hAb, hb0, hA⟩ := id hI
  have ht : ∀ w ∈ lg_tbl, w.before _ sv = true := fun w h => hts w (List.mem_cons_of_mem _ h)
  have hl : lv_has ls 3 [(0, .ref (ad (5, y, i))), (1, .int (nI j))] := hl
  have hc := hi.2.2.2.2.1 i j c e
  have h9 : (9, y, c) ∈ LL := hL _ ⟨hy, hc.2.2⟩
  have h10 : (10, y, c) ∈ LL := hL _ ⟨hy, hc.2.2⟩
  obtain ⟨b1, b2, b3, b4⟩ := hi.2.2.2.1 c
  refine lv_aload_n hx hb d_A_take_0 rfl (lv_at hl 0 rfl) ?_
  refine yr_get (C := R_A) (T := F_A) (N := 8) (ci := k_A) hx hb ht j_A hown hK.1 hw (by assumption) (by rfl) rfl 3 (by decide) (ht _ mf_A_23) (fun _ h9 => h9) (by rfl) d_A_take_1 ?_
  refine lv_iload_n hx hb d_A_take_4 rfl (lv_at hl 1 rfl) ?_
  refine yr_aldq (v := .ref (ad (9, y, c))) hx hb hK.1 hw (by assumption) (by rfl) 2 rfl (vp_in_nI (by omega) (by omega)) (by rw [nI_clamp (by omega)]; show va_rf ((s_ic σ y i j).map _) = _; rw [e]; rfl) d_A_take_5 ?_
  refine lv_astore_n (lv' := [(2, .ref _), (0, .ref _), (1, .int _)]) hx hb d_A_take_6 rfl hl (by decide) rfl (fun ls hl => ?_)
  refine lv_aload_n hx hb d_A_take_7 rfl (lv_at hl 0 rfl) ?_
  refine lv_ifnonnull (tgt := 15) hx hb d_A_take_8 (by decide) ?_
  refine lv_aload_n hx hb d_A_take_15 rfl (lv_at hl 0 rfl) ?_
  refine yc_i (va_runV (As := []) (rest := []) ⟨hx, hb, hml, hown, hts⟩ (c_C_take l D cc ad LL X b0 _ σ y c h9 h10 ⟨by omega, by omega, by omega⟩ hp) (cwV 0 hts (yg_call mc_C_take ml_A_88 mm_C_take ms_C_take mi_C) rfl rfl rfl (by decide +kernel) ⟨Nat.le_of_ble_eq_true rfl, Nat.le_of_ble_eq_true rfl⟩) (y_preV hI hw (y_recv hK.1 hw h9 (by rfl) rfl)) rfl rfl hl.1 rfl (lv_room (Nat.le_of_ble_eq_true rfl)) d_A_take_16 ⟨Nat.le_of_ble_eq_true rfl, Nat.le_of_ble_eq_true rfl⟩) hw hA (fun r u H locs he hw => ?_)
  subst he
  exact ye_i hI () rfl hw d_A_take_19
