/-! ACTOR: free ins and outs; joining -/
theorem yt_ins_le (k : Nat) : yt_ins k ≤ 2 := by
  unfold yt_ins
  match k with
  | 0 => decide
  | 1 => decide
  | 2 => decide
  | 3 => decide
  | 4 => decide
  | 5 => decide
  | 6 => decide
  | 7 => decide
  | 8 => decide
  | n + 9 => exact Nat.zero_le _
theorem yt_outs_le (k : Nat) : yt_outs k ≤ 2 := by
  unfold yt_outs
  match k with
  | 0 => decide
  | 1 => decide
  | 2 => decide
  | 3 => decide
  | 4 => decide
  | 5 => decide
  | 6 => decide
  | 7 => decide
  | 8 => decide
  | n + 9 => exact Nat.zero_le _
set_option maxHeartbeats 4000000 in
set_option maxRecDepth 100000 in
theorem c_A_hasFreeIn_no (l : Launch) (D : va_G) (cc : ClassId × ClassId × ClassId) (ad : yl → Nat) (LL : List yl) (X : va_W) (b0 sz : Nat) (σ : ys) (hL : ∀ q, yL σ q → q ∈ LL) (y i : Nat) (hy : y < 2) (hn : i < s_n σ y) (hi : yI σ y) (x : Int32) (hno : x < 0 ∨ nI (yt_ins (s_ac σ y i).1) ≤ x) : Met l y_A_hasFreeIn w_A_hasFreeIn ({ frames := 0, cells := 0, slots := 0, locals := 0 }) (yPr D cc b0 [.ref (ad (5, y, i)), .int x] (yW cc ad LL X σ) sz) (yQi D (yW cc ad LL X σ) sz 0 (yW cc ad LL X σ)) 0 0 (va_A (yW cc ad LL X σ) sz) := by
  have h5 : (5, y, i) ∈ LL := hL _ ⟨hy, hn⟩
  have h6 : (6, y, i) ∈ LL := hL _ ⟨hy, hn⟩
  have h7 : (7, y, i) ∈ LL := hL _ ⟨hy, hn⟩
  have h8 : (8, y, i) ∈ LL := hL _ ⟨hy, hn⟩
  obtain ⟨a1, a2, a3, a4, a5⟩ := hi.2.2.1 i
  refine y_ofW (cc := b_A_hasFreeIn) (maxL := 2) (ret := (some .boolean)) (by decide) rfl (Nat.le_of_ble_eq_true rfl) ?_
  intro pv ev sv mv bv tv cv ls hI hsz hw hl
  obtain ⟨hx, hb, hr, hml, hts, hown, hlocks, hnm, hK, hAb, hb0, hA⟩ := id hI
  have ht : ∀ w ∈ lg_tbl, w.before _ sv = true := fun w h => hts w (List.mem_cons_of_mem _ h)
  have hl : lv_has ls 2 [(0, .ref (ad (5, y, i))), (1, .int x)] := hl
  refine lv_iload_n hx hb d_A_hasFreeIn_0 rfl (lv_at hl 1 rfl) ?_
  refine lv_if_lt (tgt := 29) hx hb d_A_hasFreeIn_1 (by decide) (fun c_1 => ?_) (fun c_1 => ?_)
  · refine lv_iconst (v := 0) hx hb d_A_hasFreeIn_29 (by decide) ?_
    exact ye_z hI (by decide) () rfl hw d_A_hasFreeIn_30
  · refine lv_iload_n hx hb d_A_hasFreeIn_4 rfl (lv_at hl 1 rfl) ?_
    obtain ⟨z0, t, z1, z2⟩ := hK.2.2.2 (43, "INS", yt_ins) (by simp [yzs])
    refine va_getsN hx hb (z1.narrow hAb) (hsz ▸ hw.2.2) hown (va_Nw.use rfl z0) (fun _ h9 => h9) d_A_hasFreeIn_5 ?_
    refine lv_aload_n hx hb d_A_hasFreeIn_8 rfl (lv_at hl 0 rfl) ?_
    refine yr_get (C := R_A) (T := F_A) (N := 8) (ci := k_A) hx hb ht j_A hown hK.1 hw (by assumption) (by rfl) rfl 0 (by decide) (ht _ mf_A_9) (fun _ h9 => h9) (by rfl) d_A_hasFreeIn_9 ?_
    refine va_ti (v := .int (nI (yt_ins (s_ac σ y i).1))) hx hb (z2.narrow hAb) (hsz ▸ hw.2.2) (vp_in_nI a1 (by omega)) (by rw [nI_clamp (by omega)]) d_A_hasFreeIn_12 ?_
    refine lv_icmp_ge (tgt := 29) hx hb d_A_hasFreeIn_13 (by decide) (fun c_13 => ?_) (fun c_13 => by exact (hno.elim (fun h => absurd h c_1) (fun h => absurd h c_13)))
    refine lv_iconst (v := 0) hx hb d_A_hasFreeIn_29 (by decide) ?_
    exact ye_z hI (by decide) () rfl hw d_A_hasFreeIn_30
set_option maxHeartbeats 4000000 in
set_option maxRecDepth 100000 in
theorem c_A_hasFreeIn (l : Launch) (D : va_G) (cc : ClassId × ClassId × ClassId) (ad : yl → Nat) (LL : List yl) (X : va_W) (b0 sz : Nat) (σ : ys) (hL : ∀ q, yL σ q → q ∈ LL) (y i : Nat) (hy : y < 2) (hn : i < s_n σ y) (hi : yI σ y) (j : Nat) (hj : j < yt_ins (s_ac σ y i).1) : Met l y_A_hasFreeIn w_A_hasFreeIn ({ frames := 0, cells := 0, slots := 0, locals := 0 }) (yPr D cc b0 [.ref (ad (5, y, i)), .int (nI j)] (yW cc ad LL X σ) sz) (yQi D (yW cc ad LL X σ) sz (yb (s_ic σ y i j).isNone) (yW cc ad LL X σ)) 0 0 (va_A (yW cc ad LL X σ) sz) := by
  have ht2 : yt_ins (s_ac σ y i).1 ≤ 2 := yt_ins_le _
  have h5 : (5, y, i) ∈ LL := hL _ ⟨hy, hn⟩
  have h6 : (6, y, i) ∈ LL := hL _ ⟨hy, hn⟩
  have h7 : (7, y, i) ∈ LL := hL _ ⟨hy, hn⟩
  have h8 : (8, y, i) ∈ LL := hL _ ⟨hy, hn⟩
  obtain ⟨a1, a2, a3, a4, a5⟩ := hi.2.2.1 i
  refine y_ofW (cc := b_A_hasFreeIn) (maxL := 2) (ret := (some .boolean)) (by decide) rfl (Nat.le_of_ble_eq_true rfl) ?_
  intro pv ev sv mv bv tv cv ls hI hsz hw hl
  obtain ⟨hx, hb, hr, hml, hts, hown, hlocks, hnm, hK, hAb, hb0, hA⟩ := id hI
  have ht : ∀ w ∈ lg_tbl, w.before _ sv = true := fun w h => hts w (List.mem_cons_of_mem _ h)
  have hl : lv_has ls 2 [(0, .ref (ad (5, y, i))), (1, .int (nI j))] := hl
  cases e : s_ic σ y i j with
  | none =>
    refine lv_iload_n hx hb d_A_hasFreeIn_0 rfl (lv_at hl 1 rfl) ?_
    refine lv_if_lt (tgt := 29) hx hb d_A_hasFreeIn_1 (by decide) (fun c_1 => by exact absurd c_1 (nI_pos (by omega))) (fun c_1 => ?_)
    refine lv_iload_n hx hb d_A_hasFreeIn_4 rfl (lv_at hl 1 rfl) ?_
    obtain ⟨z0, t, z1, z2⟩ := hK.2.2.2 (43, "INS", yt_ins) (by simp [yzs])
    refine va_getsN hx hb (z1.narrow hAb) (hsz ▸ hw.2.2) hown (va_Nw.use rfl z0) (fun _ h9 => h9) d_A_hasFreeIn_5 ?_
    refine lv_aload_n hx hb d_A_hasFreeIn_8 rfl (lv_at hl 0 rfl) ?_
    refine yr_get (C := R_A) (T := F_A) (N := 8) (ci := k_A) hx hb ht j_A hown hK.1 hw (by assumption) (by rfl) rfl 0 (by decide) (ht _ mf_A_9) (fun _ h9 => h9) (by rfl) d_A_hasFreeIn_9 ?_
    refine va_ti (v := .int (nI (yt_ins (s_ac σ y i).1))) hx hb (z2.narrow hAb) (hsz ▸ hw.2.2) (vp_in_nI a1 (by omega)) (by rw [nI_clamp (by omega)]) d_A_hasFreeIn_12 ?_
    refine lv_icmp_ge (tgt := 29) hx hb d_A_hasFreeIn_13 (by decide) (fun c_13 => by exact absurd ((nI_leI (by omega) (by omega)).mp c_13) (Nat.not_le.mpr hj)) (fun c_13 => ?_)
    refine lv_aload_n hx hb d_A_hasFreeIn_16 rfl (lv_at hl 0 rfl) ?_
    refine yr_get (C := R_A) (T := F_A) (N := 8) (ci := k_A) hx hb ht j_A hown hK.1 hw (by assumption) (by rfl) rfl 3 (by decide) (ht _ mf_A_23) (fun _ h9 => h9) (by rfl) d_A_hasFreeIn_17 ?_
    refine lv_iload_n hx hb d_A_hasFreeIn_20 rfl (lv_at hl 1 rfl) ?_
    refine yr_aldq (v := .null) hx hb hK.1 hw (by assumption) (by rfl) 2 rfl (vp_in_nI (by omega) (by omega)) (by rw [nI_clamp (by omega)]; show va_rf ((s_ic σ y i j).map _) = _; rw [e]; rfl) d_A_hasFreeIn_21 ?_
    refine lv_ifnonnullN hx hb d_A_hasFreeIn_22 ?_
    refine lv_iconst (v := 1) hx hb d_A_hasFreeIn_25 (by decide) ?_
    refine lv_goto (tgt := 30) hx hb d_A_hasFreeIn_26 (by decide) ?_
    exact ye_z hI (by decide) () rfl hw d_A_hasFreeIn_30
  | some c =>
    refine lv_iload_n hx hb d_A_hasFreeIn_0 rfl (lv_at hl 1 rfl) ?_
    refine lv_if_lt (tgt := 29) hx hb d_A_hasFreeIn_1 (by decide) (fun c_1 => by exact absurd c_1 (nI_pos (by omega))) (fun c_1 => ?_)
    refine lv_iload_n hx hb d_A_hasFreeIn_4 rfl (lv_at hl 1 rfl) ?_
    obtain ⟨z0, t, z1, z2⟩ := hK.2.2.2 (43, "INS", yt_ins) (by simp [yzs])
    refine va_getsN hx hb (z1.narrow hAb) (hsz ▸ hw.2.2) hown (va_Nw.use rfl z0) (fun _ h9 => h9) d_A_hasFreeIn_5 ?_
    refine lv_aload_n hx hb d_A_hasFreeIn_8 rfl (lv_at hl 0 rfl) ?_
    refine yr_get (C := R_A) (T := F_A) (N := 8) (ci := k_A) hx hb ht j_A hown hK.1 hw (by assumption) (by rfl) rfl 0 (by decide) (ht _ mf_A_9) (fun _ h9 => h9) (by rfl) d_A_hasFreeIn_9 ?_
    refine va_ti (v := .int (nI (yt_ins (s_ac σ y i).1))) hx hb (z2.narrow hAb) (hsz ▸ hw.2.2) (vp_in_nI a1 (by omega)) (by rw [nI_clamp (by omega)]) d_A_hasFreeIn_12 ?_
    refine lv_icmp_ge (tgt := 29) hx hb d_A_hasFreeIn_13 (by decide) (fun c_13 => by exact absurd ((nI_leI (by omega) (by omega)).mp c_13) (Nat.not_le.mpr hj)) (fun c_13 => ?_)
    refine lv_aload_n hx hb d_A_hasFreeIn_16 rfl (lv_at hl 0 rfl) ?_
    refine yr_get (C := R_A) (T := F_A) (N := 8) (ci := k_A) hx hb ht j_A hown hK.1 hw (by assumption) (by rfl) rfl 3 (by decide) (ht _ mf_A_23) (fun _ h9 => h9) (by rfl) d_A_hasFreeIn_17 ?_
    refine lv_iload_n hx hb d_A_hasFreeIn_20 rfl (lv_at hl 1 rfl) ?_
    refine yr_aldq (v := .ref (ad (9, y, c))) hx hb hK.1 hw (by assumption) (by rfl) 2 rfl (vp_in_nI (by omega) (by omega)) (by rw [nI_clamp (by omega)]; show va_rf ((s_ic σ y i j).map _) = _; rw [e]; rfl) d_A_hasFreeIn_21 ?_
    refine lv_ifnonnull (tgt := 29) hx hb d_A_hasFreeIn_22 (by decide) ?_
    refine lv_iconst (v := 0) hx hb d_A_hasFreeIn_29 (by decide) ?_
    exact ye_z hI (by decide) () rfl hw d_A_hasFreeIn_30
set_option maxHeartbeats 4000000 in
set_option maxRecDepth 100000 in
theorem c_A_hasFreeOut_no (l : Launch) (D : va_G) (cc : ClassId × ClassId × ClassId) (ad : yl → Nat) (LL : List yl) (X : va_W) (b0 sz : Nat) (σ : ys) (hL : ∀ q, yL σ q → q ∈ LL) (y i : Nat) (hy : y < 2) (hn : i < s_n σ y) (hi : yI σ y) (x : Int32) (hno : x < 0 ∨ nI (yt_outs (s_ac σ y i).1) ≤ x) : Met l y_A_hasFreeOut w_A_hasFreeOut ({ frames := 0, cells := 0, slots := 0, locals := 0 }) (yPr D cc b0 [.ref (ad (5, y, i)), .int x] (yW cc ad LL X σ) sz) (yQi D (yW cc ad LL X σ) sz 0 (yW cc ad LL X σ)) 0 0 (va_A (yW cc ad LL X σ) sz) := by
  have h5 : (5, y, i) ∈ LL := hL _ ⟨hy, hn⟩
  have h6 : (6, y, i) ∈ LL := hL _ ⟨hy, hn⟩
  have h7 : (7, y, i) ∈ LL := hL _ ⟨hy, hn⟩
  have h8 : (8, y, i) ∈ LL := hL _ ⟨hy, hn⟩
  obtain ⟨a1, a2, a3, a4, a5⟩ := hi.2.2.1 i
  refine y_ofW (cc := b_A_hasFreeOut) (maxL := 2) (ret := (some .boolean)) (by decide) rfl (Nat.le_of_ble_eq_true rfl) ?_
  intro pv ev sv mv bv tv cv ls hI hsz hw hl
  obtain ⟨hx, hb, hr, hml, hts, hown, hlocks, hnm, hK, hAb, hb0, hA⟩ := id hI
  have ht : ∀ w ∈ lg_tbl, w.before _ sv = true := fun w h => hts w (List.mem_cons_of_mem _ h)
  have hl : lv_has ls 2 [(0, .ref (ad (5, y, i))), (1, .int x)] := hl
  refine lv_iload_n hx hb d_A_hasFreeOut_0 rfl (lv_at hl 1 rfl) ?_
  refine lv_if_lt (tgt := 29) hx hb d_A_hasFreeOut_1 (by decide) (fun c_1 => ?_) (fun c_1 => ?_)
  · refine lv_iconst (v := 0) hx hb d_A_hasFreeOut_29 (by decide) ?_
    exact ye_z hI (by decide) () rfl hw d_A_hasFreeOut_30
  · refine lv_iload_n hx hb d_A_hasFreeOut_4 rfl (lv_at hl 1 rfl) ?_
    obtain ⟨z0, t, z1, z2⟩ := hK.2.2.2 (46, "OUTS", yt_outs) (by simp [yzs])
    refine va_getsN hx hb (z1.narrow hAb) (hsz ▸ hw.2.2) hown (va_Nw.use rfl z0) (fun _ h9 => h9) d_A_hasFreeOut_5 ?_
    refine lv_aload_n hx hb d_A_hasFreeOut_8 rfl (lv_at hl 0 rfl) ?_
    refine yr_get (C := R_A) (T := F_A) (N := 8) (ci := k_A) hx hb ht j_A hown hK.1 hw (by assumption) (by rfl) rfl 0 (by decide) (ht _ mf_A_9) (fun _ h9 => h9) (by rfl) d_A_hasFreeOut_9 ?_
    refine va_ti (v := .int (nI (yt_outs (s_ac σ y i).1))) hx hb (z2.narrow hAb) (hsz ▸ hw.2.2) (vp_in_nI a1 (by omega)) (by rw [nI_clamp (by omega)]) d_A_hasFreeOut_12 ?_
    refine lv_icmp_ge (tgt := 29) hx hb d_A_hasFreeOut_13 (by decide) (fun c_13 => ?_) (fun c_13 => by exact (hno.elim (fun h => absurd h c_1) (fun h => absurd h c_13)))
    refine lv_iconst (v := 0) hx hb d_A_hasFreeOut_29 (by decide) ?_
    exact ye_z hI (by decide) () rfl hw d_A_hasFreeOut_30
set_option maxHeartbeats 4000000 in
set_option maxRecDepth 100000 in
theorem c_A_hasFreeOut (l : Launch) (D : va_G) (cc : ClassId × ClassId × ClassId) (ad : yl → Nat) (LL : List yl) (X : va_W) (b0 sz : Nat) (σ : ys) (hL : ∀ q, yL σ q → q ∈ LL) (y i : Nat) (hy : y < 2) (hn : i < s_n σ y) (hi : yI σ y) (j : Nat) (hj : j < yt_outs (s_ac σ y i).1) : Met l y_A_hasFreeOut w_A_hasFreeOut ({ frames := 0, cells := 0, slots := 0, locals := 0 }) (yPr D cc b0 [.ref (ad (5, y, i)), .int (nI j)] (yW cc ad LL X σ) sz) (yQi D (yW cc ad LL X σ) sz (yb (s_oc σ y i j).isNone) (yW cc ad LL X σ)) 0 0 (va_A (yW cc ad LL X σ) sz) := by
  have ht2 : yt_outs (s_ac σ y i).1 ≤ 2 := yt_outs_le _
  have h5 : (5, y, i) ∈ LL := hL _ ⟨hy, hn⟩
  have h6 : (6, y, i) ∈ LL := hL _ ⟨hy, hn⟩
  have h7 : (7, y, i) ∈ LL := hL _ ⟨hy, hn⟩
  have h8 : (8, y, i) ∈ LL := hL _ ⟨hy, hn⟩
  obtain ⟨a1, a2, a3, a4, a5⟩ := hi.2.2.1 i
  refine y_ofW (cc := b_A_hasFreeOut) (maxL := 2) (ret := (some .boolean)) (by decide) rfl (Nat.le_of_ble_eq_true rfl) ?_
  intro pv ev sv mv bv tv cv ls hI hsz hw hl
  obtain ⟨hx, hb, hr, hml, hts, hown, hlocks, hnm, hK, hAb, hb0, hA⟩ := id hI
  have ht : ∀ w ∈ lg_tbl, w.before _ sv = true := fun w h => hts w (List.mem_cons_of_mem _ h)
  have hl : lv_has ls 2 [(0, .ref (ad (5, y, i))), (1, .int (nI j))] := hl
  cases e : s_oc σ y i j with
  | none =>
    refine lv_iload_n hx hb d_A_hasFreeOut_0 rfl (lv_at hl 1 rfl) ?_
    refine lv_if_lt (tgt := 29) hx hb d_A_hasFreeOut_1 (by decide) (fun c_1 => by exact absurd c_1 (nI_pos (by omega))) (fun c_1 => ?_)
    refine lv_iload_n hx hb d_A_hasFreeOut_4 rfl (lv_at hl 1 rfl) ?_
    obtain ⟨z0, t, z1, z2⟩ := hK.2.2.2 (46, "OUTS", yt_outs) (by simp [yzs])
    refine va_getsN hx hb (z1.narrow hAb) (hsz ▸ hw.2.2) hown (va_Nw.use rfl z0) (fun _ h9 => h9) d_A_hasFreeOut_5 ?_
    refine lv_aload_n hx hb d_A_hasFreeOut_8 rfl (lv_at hl 0 rfl) ?_
    refine yr_get (C := R_A) (T := F_A) (N := 8) (ci := k_A) hx hb ht j_A hown hK.1 hw (by assumption) (by rfl) rfl 0 (by decide) (ht _ mf_A_9) (fun _ h9 => h9) (by rfl) d_A_hasFreeOut_9 ?_
    refine va_ti (v := .int (nI (yt_outs (s_ac σ y i).1))) hx hb (z2.narrow hAb) (hsz ▸ hw.2.2) (vp_in_nI a1 (by omega)) (by rw [nI_clamp (by omega)]) d_A_hasFreeOut_12 ?_
    refine lv_icmp_ge (tgt := 29) hx hb d_A_hasFreeOut_13 (by decide) (fun c_13 => by exact absurd ((nI_leI (by omega) (by omega)).mp c_13) (Nat.not_le.mpr hj)) (fun c_13 => ?_)
    refine lv_aload_n hx hb d_A_hasFreeOut_16 rfl (lv_at hl 0 rfl) ?_
    refine yr_get (C := R_A) (T := F_A) (N := 8) (ci := k_A) hx hb ht j_A hown hK.1 hw (by assumption) (by rfl) rfl 4 (by decide) (ht _ mf_A_27) (fun _ h9 => h9) (by rfl) d_A_hasFreeOut_17 ?_
    refine lv_iload_n hx hb d_A_hasFreeOut_20 rfl (lv_at hl 1 rfl) ?_
    refine yr_aldq (v := .null) hx hb hK.1 hw (by assumption) (by rfl) 2 rfl (vp_in_nI (by omega) (by omega)) (by rw [nI_clamp (by omega)]; show va_rf ((s_oc σ y i j).map _) = _; rw [e]; rfl) d_A_hasFreeOut_21 ?_
    refine lv_ifnonnullN hx hb d_A_hasFreeOut_22 ?_
    refine lv_iconst (v := 1) hx hb d_A_hasFreeOut_25 (by decide) ?_
    refine lv_goto (tgt := 30) hx hb d_A_hasFreeOut_26 (by decide) ?_
    exact ye_z hI (by decide) () rfl hw d_A_hasFreeOut_30
  | some c =>
    refine lv_iload_n hx hb d_A_hasFreeOut_0 rfl (lv_at hl 1 rfl) ?_
    refine lv_if_lt (tgt := 29) hx hb d_A_hasFreeOut_1 (by decide) (fun c_1 => by exact absurd c_1 (nI_pos (by omega))) (fun c_1 => ?_)
    refine lv_iload_n hx hb d_A_hasFreeOut_4 rfl (lv_at hl 1 rfl) ?_
    obtain ⟨z0, t, z1, z2⟩ := hK.2.2.2 (46, "OUTS", yt_outs) (by simp [yzs])
    refine va_getsN hx hb (z1.narrow hAb) (hsz ▸ hw.2.2) hown (va_Nw.use rfl z0) (fun _ h9 => h9) d_A_hasFreeOut_5 ?_
    refine lv_aload_n hx hb d_A_hasFreeOut_8 rfl (lv_at hl 0 rfl) ?_
    refine yr_get (C := R_A) (T := F_A) (N := 8) (ci := k_A) hx hb ht j_A hown hK.1 hw (by assumption) (by rfl) rfl 0 (by decide) (ht _ mf_A_9) (fun _ h9 => h9) (by rfl) d_A_hasFreeOut_9 ?_
    refine va_ti (v := .int (nI (yt_outs (s_ac σ y i).1))) hx hb (z2.narrow hAb) (hsz ▸ hw.2.2) (vp_in_nI a1 (by omega)) (by rw [nI_clamp (by omega)]) d_A_hasFreeOut_12 ?_
    refine lv_icmp_ge (tgt := 29) hx hb d_A_hasFreeOut_13 (by decide) (fun c_13 => by exact absurd ((nI_leI (by omega) (by omega)).mp c_13) (Nat.not_le.mpr hj)) (fun c_13 => ?_)
    refine lv_aload_n hx hb d_A_hasFreeOut_16 rfl (lv_at hl 0 rfl) ?_
    refine yr_get (C := R_A) (T := F_A) (N := 8) (ci := k_A) hx hb ht j_A hown hK.1 hw (by assumption) (by rfl) rfl 4 (by decide) (ht _ mf_A_27) (fun _ h9 => h9) (by rfl) d_A_hasFreeOut_17 ?_
    refine lv_iload_n hx hb d_A_hasFreeOut_20 rfl (lv_at hl 1 rfl) ?_
    refine yr_aldq (v := .ref (ad (9, y, c))) hx hb hK.1 hw (by assumption) (by rfl) 2 rfl (vp_in_nI (by omega) (by omega)) (by rw [nI_clamp (by omega)]; show va_rf ((s_oc σ y i j).map _) = _; rw [e]; rfl) d_A_hasFreeOut_21 ?_
    refine lv_ifnonnull (tgt := 29) hx hb d_A_hasFreeOut_22 (by decide) ?_
    refine lv_iconst (v := 0) hx hb d_A_hasFreeOut_29 (by decide) ?_
    exact ye_z hI (by decide) () rfl hw d_A_hasFreeOut_30
set_option maxHeartbeats 4000000 in
set_option maxRecDepth 100000 in
theorem c_A_joinIn (l : Launch) (D : va_G) (cc : ClassId × ClassId × ClassId) (ad : yl → Nat) (LL : List yl) (g : yl → va_E) (X : va_W) (b0 sz : Nat) (y i c : Nat) (h5 : (5, y, i) ∈ LL) (hF : (6, y, i) ∈ LL) (h9 : (9, y, c) ∈ LL) (v0 v1 v2 v5 v6 v7 : Value) (hg5 : g (5, y, i) = .inr (k_A, [v0, v1, v2, .ref (ad (6, y, i)), .ref (ad (7, y, i)), v5, v6, v7])) (f : Nat → Option Nat) (hgF : g (6, y, i) = .inl (cc.2.2, 2, .inr (.inr (.inr (.inr f))))) (vs : List Value) (hg9 : g (9, y, c) = .inr (k_C, vs)) (j : Nat) (hj : j < 2) : Met l y_A_joinIn w_A_joinIn ({ frames := 0, cells := 0, slots := 0, locals := 0 }) (yPr D cc b0 [.ref (ad (5, y, i)), .int (nI j), .ref (ad (9, y, c))] (wl ad LL g ++ X) sz) (yQv D (wl ad LL g ++ X) sz (wl ad LL (yu g (6, y, i) (.inl (cc.2.2, 2, .inr (.inr (.inr (.inr (va_up f j (some (ad (9, y, c)))))))))) ++ X)) 0 0 (va_A (wl ad LL g ++ X) sz) := by
  refine y_ofW (cc := b_A_joinIn) (maxL := 3) (ret := none) (by decide) rfl (Nat.le_of_ble_eq_true rfl) ?_
  intro pv ev sv mv bv tv cv ls hI hsz hw hl
  obtain ⟨hx, hb, hr, hml, hts, hown, hlocks, hnm, hK, hAb, hb0, hA⟩ := id hI
  have ht : ∀ w ∈ lg_tbl, w.before _ sv = true := fun w h => hts w (List.mem_cons_of_mem _ h)
  have hl : lv_has ls 3 [(0, .ref (ad (5, y, i))), (1, .int (nI j)), (2, .ref (ad (9, y, c)))] := hl
  refine lv_aload_n hx hb d_A_joinIn_0 rfl (lv_at hl 0 rfl) ?_
  refine yr_get (C := R_A) (T := F_A) (N := 8) (ci := k_A) hx hb ht j_A hown hK.1 hw h5 hg5 rfl 3 (by decide) (ht _ mf_A_23) (fun _ h9 => h9) (by rfl) d_A_joinIn_1 ?_
  refine lv_iload_n hx hb d_A_joinIn_4 rfl (lv_at hl 1 rfl) ?_
  refine lv_aload_n hx hb d_A_joinIn_5 rfl (lv_at hl 2 rfl) ?_
  refine yr_astq (r := (R_C, F_C, 4)) (ci := k_C) hx hb hK.1 hw hF hgF 2 rfl h9 hg9 rfl (vp_in_nI hj (by omega)) d_A_joinIn_6 (fun H locs hw => ?_)
  rw [nI_clamp (by omega)] at hw
  exact ye_v hI () trivial hw d_A_joinIn_7
set_option maxHeartbeats 4000000 in
set_option maxRecDepth 100000 in
theorem c_A_joinOut (l : Launch) (D : va_G) (cc : ClassId × ClassId × ClassId) (ad : yl → Nat) (LL : List yl) (g : yl → va_E) (X : va_W) (b0 sz : Nat) (y i c : Nat) (h5 : (5, y, i) ∈ LL) (hF : (7, y, i) ∈ LL) (h9 : (9, y, c) ∈ LL) (v0 v1 v2 v5 v6 v7 : Value) (hg5 : g (5, y, i) = .inr (k_A, [v0, v1, v2, .ref (ad (6, y, i)), .ref (ad (7, y, i)), v5, v6, v7])) (f : Nat → Option Nat) (hgF : g (7, y, i) = .inl (cc.2.2, 2, .inr (.inr (.inr (.inr f))))) (vs : List Value) (hg9 : g (9, y, c) = .inr (k_C, vs)) (j : Nat) (hj : j < 2) : Met l y_A_joinOut w_A_joinOut ({ frames := 0, cells := 0, slots := 0, locals := 0 }) (yPr D cc b0 [.ref (ad (5, y, i)), .int (nI j), .ref (ad (9, y, c))] (wl ad LL g ++ X) sz) (yQv D (wl ad LL g ++ X) sz (wl ad LL (yu g (7, y, i) (.inl (cc.2.2, 2, .inr (.inr (.inr (.inr (va_up f j (some (ad (9, y, c)))))))))) ++ X)) 0 0 (va_A (wl ad LL g ++ X) sz) := by
  refine y_ofW (cc := b_A_joinOut) (maxL := 3) (ret := none) (by decide) rfl (Nat.le_of_ble_eq_true rfl) ?_
  intro pv ev sv mv bv tv cv ls hI hsz hw hl
  obtain ⟨hx, hb, hr, hml, hts, hown, hlocks, hnm, hK, hAb, hb0, hA⟩ := id hI
  have ht : ∀ w ∈ lg_tbl, w.before _ sv = true := fun w h => hts w (List.mem_cons_of_mem _ h)
  have hl : lv_has ls 3 [(0, .ref (ad (5, y, i))), (1, .int (nI j)), (2, .ref (ad (9, y, c)))] := hl
  refine lv_aload_n hx hb d_A_joinOut_0 rfl (lv_at hl 0 rfl) ?_
  refine yr_get (C := R_A) (T := F_A) (N := 8) (ci := k_A) hx hb ht j_A hown hK.1 hw h5 hg5 rfl 4 (by decide) (ht _ mf_A_27) (fun _ h9 => h9) (by rfl) d_A_joinOut_1 ?_
  refine lv_iload_n hx hb d_A_joinOut_4 rfl (lv_at hl 1 rfl) ?_
  refine lv_aload_n hx hb d_A_joinOut_5 rfl (lv_at hl 2 rfl) ?_
  refine yr_astq (r := (R_C, F_C, 4)) (ci := k_C) hx hb hK.1 hw hF hgF 2 rfl h9 hg9 rfl (vp_in_nI hj (by omega)) d_A_joinOut_6 (fun H locs hw => ?_)
  rw [nI_clamp (by omega)] at hw
  exact ye_v hI () trivial hw d_A_joinOut_7
