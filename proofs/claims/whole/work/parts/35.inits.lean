/-! CONSTRUCTORS -/
set_option maxHeartbeats 4000000 in
set_option maxRecDepth 100000 in
theorem c_C_init (l : Launch) (D : va_G) (cc : ClassId × ClassId × ClassId) (ad : yl → Nat) (LL : List yl) (g : yl → va_E) (X : va_W) (b0 sz : Nat) (y c : Nat) (h9 : (9, y, c) ∈ LL) (h10 : (10, y, c) ∉ LL) (hg : g (9, y, c) = .inr (k_C, [.int 0, .null, .int 0, .int 0])) (room : Int32) : Met l y_C_init w_C_init ({ frames := 1, cells := 1, slots := 8, locals := 12 }) (yPr D cc b0 [.ref (ad (9, y, c)), .int room] (wl ad LL g ++ X) sz) (va_Qv (fun ad' : yl → Nat => ∀ z, z ∈ LL → ad' z = ad z) (yB D ycl (wl ad LL g ++ X) sz (fun ad' => wl ad' (LL ++ [(10, y, c)]) (yu (yu g (10, y, c) (.inl (cc.1, 8, .inl (fun _ => 0)))) (9, y, c) (.inr (k_C, [.int room, .ref (ad' (10, y, c)), .int 0, .int 0]))) ++ X)) (va_A (wl ad LL g ++ X) sz)) 1 8 (va_A (wl ad LL g ++ X) sz) := by
  refine y_ofW (cc := b_C_init) (maxL := 2) (ret := none) (by decide) rfl (Nat.le_of_ble_eq_true rfl) ?_
  intro pv ev sv mv bv tv cv ls hI hsz hw hl
  generalize hargs : ([.ref (ad (9, y, c)), .int room] : List Value).toArray = args at hI ⊢
  obtain ⟨hx, hb, hr, hml, hts, hown, hlocks, hnm, hK, hAb, hb0, hA⟩ := id hI
  have ht : ∀ w ∈ lg_tbl, w.before _ sv = true := fun w h => hts w (List.mem_cons_of_mem _ h)
  have hl : lv_has ls 2 [(0, .ref (ad (9, y, c))), (1, .int room)] := hl
  refine lv_aload_n hx hb d_C_init_0 rfl (lv_at hl 0 rfl) ?_
  refine W.objInit hx hb hown (ht _ ml_C_3) (ht _ mw_objm) (ht _ mw_objc) rfl (by rw [hml]; exact hl.1) rfl d_C_init_1 (Nat.le_of_ble_eq_true rfl) (Nat.le_of_ble_eq_true rfl) ?_
  refine W.eq (g2 := F0 mv 4 ls []) rfl ?_
  refine lv_aload_n hx hb d_C_init_4 rfl (lv_at hl 0 rfl) ?_
  refine lv_iload_n hx hb d_C_init_5 rfl (lv_at hl 1 rfl) ?_
  refine yr_putF (ty := .int) (C := R_C) (T := F_C) (N := 4) (ci := k_C) hx hb ht j_C t_C t_C_ok n_C hown hK.1 hw h9 hg rfl 0 (by decide) (ht _ mf_C_9) (fun _ h9 => h9) rfl hnm rfl (by decide +kernel) rfl rfl (Nat.le_of_ble_eq_true rfl) d_C_init_6 (fun H locs hw => ?_)
  refine lv_aload_n hx hb d_C_init_9 rfl (lv_at hl 0 rfl) ?_
  refine lv_bipush (v := (nI 8)) hx hb d_C_init_10 (by decide) ?_
  refine yr_newi (N' := 8) hx hb (ht _ ma_int) hK.1 hK.2.1 List.mem_cons_self hw hA (10, y, c) h10 (nI_pos (by omega)) (nI_clamp (by omega)) (by omega) (Nat.le_of_ble_eq_true rfl) (Nat.le_of_ble_eq_true rfl) d_C_init_12 (fun ad1 H hag hw => ?_)
  rw [← hag _ h9] at hl ⊢
  have h9 : (9, y, c) ∈ LL ++ [(10, y, c)] := List.mem_append_left _ h9
  refine yr_putF (ty := .array .int) (C := R_C) (T := F_C) (N := 4) (ci := k_C) hx hb ht j_C t_C t_C_ok n_C hown hK.1 hw h9 (by rw [yu_n _ _ (by simp)]; exact yu_s _ _ _) rfl 1 (by decide) (ht _ mf_C_15) (fun _ h9 => h9) rfl hnm rfl (by decide +kernel) rfl rfl (Nat.le_of_ble_eq_true rfl) d_C_init_14 (fun H locs hw => ?_)
  refine lv_aload_n hx hb d_C_init_17 rfl (lv_at hl 0 rfl) ?_
  refine lv_iconst (v := 0) hx hb d_C_init_18 (by decide) ?_
  refine yr_put (ty := .int) (C := R_C) (T := F_C) (N := 4) (ci := k_C) hx hb ht j_C t_C t_C_ok n_C hown hK.1 hw h9 (yu_s _ _ _) rfl 2 (by decide) (ht _ mf_C_19) (fun _ h9 => h9) rfl (by decide +kernel) rfl rfl (Nat.le_of_ble_eq_true rfl) d_C_init_19 (fun H locs hw => ?_)
  refine lv_aload_n hx hb d_C_init_22 rfl (lv_at hl 0 rfl) ?_
  refine lv_iconst (v := 0) hx hb d_C_init_23 (by decide) ?_
  refine yr_put (ty := .int) (C := R_C) (T := F_C) (N := 4) (ci := k_C) hx hb ht j_C t_C t_C_ok n_C hown hK.1 hw h9 (yu_s _ _ _) rfl 3 (by decide) (ht _ mf_C_22) (fun _ h9 => h9) rfl (by decide +kernel) rfl rfl (Nat.le_of_ble_eq_true rfl) d_C_init_24 (fun H locs hw => ?_)
  exact ye_v hI ad1 hag (y_same hw (fun q _ => by by_cases q9 : q = (9, y, c) <;> by_cases q10 : q = (10, y, c) <;> simp [yu, q9, q10])) d_C_init_27
set_option maxHeartbeats 4000000 in
set_option maxRecDepth 100000 in
theorem c_A_init (l : Launch) (D : va_G) (cc : ClassId × ClassId × ClassId) (ad : yl → Nat) (LL : List yl) (g : yl → va_E) (X : va_W) (b0 sz : Nat) (y i : Nat) (h5 : (5, y, i) ∈ LL) (h6 : (6, y, i) ∉ LL) (h7 : (7, y, i) ∉ LL) (h8 : (8, y, i) ∉ LL) (hg : g (5, y, i) = .inr (k_A, [.int 0, .int 0, .int 0, .null, .null, .null, .int 0, .int 0])) (k : Nat) (hk : k < 9) (a b : Int32) : Met l y_A_init w_A_init ({ frames := 1, cells := 3, slots := 64, locals := 12 }) (yPr D cc b0 [.ref (ad (5, y, i)), .int (nI k), .int a, .int b] (wl ad LL g ++ X) sz) (va_Qv (fun ad' : yl → Nat => ∀ z, z ∈ LL → ad' z = ad z) (yB D ycl (wl ad LL g ++ X) sz (fun ad' => wl ad' (((LL ++ [(6, y, i)]) ++ [(7, y, i)]) ++ [(8, y, i)]) (yu (yu (yu (yu g (6, y, i) (.inl (cc.2.2, 2, .inr (.inr (.inr (.inr (fun _ => none))))))) (7, y, i) (.inl (cc.2.2, 2, .inr (.inr (.inr (.inr (fun _ => none))))))) (8, y, i) (.inl (cc.1, yt_rows k, .inl (fun _ => 0)))) (5, y, i) (.inr (k_A, [.int (nI k), .int a, .int b, .ref (ad' (6, y, i)), .ref (ad' (7, y, i)), .ref (ad' (8, y, i)), .int 0, .int 0]))) ++ X)) (va_A (wl ad LL g ++ X) sz)) 3 64 (va_A (wl ad LL g ++ X) sz) := by
  have hr60 := yt_rows_le k
  refine y_ofW (cc := b_A_init) (maxL := 4) (ret := none) (by decide) rfl (Nat.le_of_ble_eq_true rfl) ?_
  intro pv ev sv mv bv tv cv ls hI hsz hw hl
  generalize hargs : ([.ref (ad (5, y, i)), .int (nI k), .int a, .int b] : List Value).toArray = args at hI ⊢
  obtain ⟨hx, hb, hr, hml, hts, hown, hlocks, hnm, hK, hAb, hb0, hA⟩ := id hI
  have ht : ∀ w ∈ lg_tbl, w.before _ sv = true := fun w h => hts w (List.mem_cons_of_mem _ h)
  have hl : lv_has ls 4 [(0, .ref (ad (5, y, i))), (1, .int (nI k)), (2, .int a), (3, .int b)] := hl
  refine lv_aload_n hx hb d_A_init_0 rfl (lv_at hl 0 rfl) ?_
  refine W.objInit hx hb hown (ht _ ml_A_3) (ht _ mw_objm) (ht _ mw_objc) rfl (by rw [hml]; exact hl.1) rfl d_A_init_1 (Nat.le_of_ble_eq_true rfl) (Nat.le_of_ble_eq_true rfl) ?_
  refine W.eq (g2 := F0 mv 4 ls []) rfl ?_
  refine lv_aload_n hx hb d_A_init_4 rfl (lv_at hl 0 rfl) ?_
  refine lv_iload_n hx hb d_A_init_5 rfl (lv_at hl 1 rfl) ?_
  refine yr_putF (ty := .int) (C := R_A) (T := F_A) (N := 8) (ci := k_A) hx hb ht j_A t_A t_A_ok n_A hown hK.1 hw h5 hg rfl 0 (by decide) (ht _ mf_A_9) (fun _ h9 => h9) rfl hnm rfl (by decide +kernel) rfl rfl (Nat.le_of_ble_eq_true rfl) d_A_init_6 (fun H locs hw => ?_)
  refine lv_aload_n hx hb d_A_init_9 rfl (lv_at hl 0 rfl) ?_
  refine lv_iload_n hx hb d_A_init_10 rfl (lv_at hl 2 rfl) ?_
  refine yr_putF (ty := .int) (C := R_A) (T := F_A) (N := 8) (ci := k_A) hx hb ht j_A t_A t_A_ok n_A hown hK.1 hw h5 (yu_s _ _ _) rfl 1 (by decide) (ht _ mf_A_15) (fun _ h9 => h9) rfl hnm rfl (by decide +kernel) rfl rfl (Nat.le_of_ble_eq_true rfl) d_A_init_11 (fun H locs hw => ?_)
  refine lv_aload_n hx hb d_A_init_14 rfl (lv_at hl 0 rfl) ?_
  refine lv_iload_n hx hb d_A_init_15 rfl (lv_at hl 3 rfl) ?_
  refine yr_putF (ty := .int) (C := R_A) (T := F_A) (N := 8) (ci := k_A) hx hb ht j_A t_A t_A_ok n_A hown hK.1 hw h5 (yu_s _ _ _) rfl 2 (by decide) (ht _ mf_A_18) (fun _ h9 => h9) rfl hnm rfl (by decide +kernel) rfl rfl (Nat.le_of_ble_eq_true rfl) d_A_init_16 (fun H locs hw => ?_)
  refine lv_aload_n hx hb d_A_init_19 rfl (lv_at hl 0 rfl) ?_
  refine lv_iconst (v := (nI 2)) hx hb d_A_init_20 (by decide) ?_
  refine yr_newq (N' := 2) hx hb hown (ht _ mk_A_21) (hK.2.2.1 _ (by simp [yao])) hK.1 hK.2.1 (List.mem_cons_of_mem _ (List.mem_cons_of_mem _ List.mem_cons_self)) hw hA (6, y, i) h6 (nI_pos (by omega)) (nI_clamp (by omega)) (by omega) (Nat.le_of_ble_eq_true rfl) (Nat.le_of_ble_eq_true rfl) d_A_init_21 (fun ad1 H hag1 hw => ?_)
  rw [← hag1 _ h5] at hl ⊢
  have k5 := h5
  have h5 : (5, y, i) ∈ LL ++ [(6, y, i)] := List.mem_append_left _ h5
  refine yr_putF (ty := .array (.object "YardActors$Channel")) (C := R_A) (T := F_A) (N := 8) (ci := k_A) hx hb ht j_A t_A t_A_ok n_A hown hK.1 hw h5 (by rw [yu_n _ _ (by simp)]; exact yu_s _ _ _) rfl 3 (by decide) (ht _ mf_A_23) (fun _ h9 => h9) rfl hnm rfl (by decide +kernel) rfl rfl (Nat.le_of_ble_eq_true rfl) d_A_init_24 (fun H locs hw => ?_)
  refine lv_aload_n hx hb d_A_init_27 rfl (lv_at hl 0 rfl) ?_
  refine lv_iconst (v := (nI 2)) hx hb d_A_init_28 (by decide) ?_
  refine yr_newq (N' := 2) hx hb hown (ht _ mk_A_21) (hK.2.2.1 _ (by simp [yao])) hK.1 hK.2.1 (List.mem_cons_of_mem _ (List.mem_cons_of_mem _ List.mem_cons_self)) hw hA (7, y, i) (by simp [h7]) (nI_pos (by omega)) (nI_clamp (by omega)) (by omega) (Nat.le_of_ble_eq_true rfl) (Nat.le_of_ble_eq_true rfl) d_A_init_29 (fun ad2 H hag2 hw => ?_)
  rw [← hag2 _ h5] at hl ⊢
  have h5 : (5, y, i) ∈ (LL ++ [(6, y, i)]) ++ [(7, y, i)] := List.mem_append_left _ h5
  refine yr_putF (ty := .array (.object "YardActors$Channel")) (C := R_A) (T := F_A) (N := 8) (ci := k_A) hx hb ht j_A t_A t_A_ok n_A hown hK.1 hw h5 (by rw [yu_n _ _ (by simp)]; exact yu_s _ _ _) rfl 4 (by decide) (ht _ mf_A_27) (fun _ h9 => h9) rfl hnm rfl (by decide +kernel) rfl rfl (Nat.le_of_ble_eq_true rfl) d_A_init_32 (fun H locs hw => ?_)
  refine lv_aload_n hx hb d_A_init_35 rfl (lv_at hl 0 rfl) ?_
  obtain ⟨z0, t, z1, z2⟩ := hK.2.2.2 (30, "ROWS", yt_rows) (by simp [yzs])
  refine va_getsN hx hb (z1.narrow hAb) (hsz ▸ hw.2.2) hown (va_Nw.use rfl z0) (fun _ h9 => h9) d_A_init_36 ?_
  refine lv_iload_n hx hb d_A_init_39 rfl (lv_at hl 1 rfl) ?_
  refine va_ti (v := .int (nI (yt_rows k))) hx hb (z2.narrow hAb) (hsz ▸ hw.2.2) (vp_in_nI hk (by omega)) (by rw [nI_clamp (by omega)]) d_A_init_40 ?_
  refine yr_newi (N' := (yt_rows k)) hx hb (ht _ ma_int) hK.1 hK.2.1 List.mem_cons_self hw hA (8, y, i) (by simp [h8]) (nI_pos (by omega)) (nI_clamp (by omega)) (by omega) (Nat.le_of_ble_eq_true rfl) (by show 0 + 2 + 2 + yt_rows k ≤ 64; omega) d_A_init_41 (fun ad3 H hag3 hw => ?_)
  rw [← hag3 _ h5] at hl ⊢
  have h5 : (5, y, i) ∈ ((LL ++ [(6, y, i)]) ++ [(7, y, i)]) ++ [(8, y, i)] := List.mem_append_left _ h5
  refine yr_putF (ty := .array .int) (C := R_A) (T := F_A) (N := 8) (ci := k_A) hx hb ht j_A t_A t_A_ok n_A hown hK.1 hw h5 (by rw [yu_n _ _ (by simp)]; exact yu_s _ _ _) rfl 5 (by decide) (ht _ mf_A_34) (fun _ h9 => h9) rfl hnm rfl (by decide +kernel) rfl rfl (Nat.le_of_ble_eq_true rfl) d_A_init_43 (fun H locs hw => ?_)
  refine lv_aload_n hx hb d_A_init_46 rfl (lv_at hl 0 rfl) ?_
  refine lv_iconst (v := 0) hx hb d_A_init_47 (by decide) ?_
  refine yr_put (ty := .int) (C := R_A) (T := F_A) (N := 8) (ci := k_A) hx hb ht j_A t_A t_A_ok n_A hown hK.1 hw h5 (yu_s _ _ _) rfl 6 (by decide) (ht _ mf_A_37) (fun _ h9 => h9) rfl (by decide +kernel) rfl rfl (Nat.le_of_ble_eq_true rfl) d_A_init_48 (fun H locs hw => ?_)
  refine lv_aload_n hx hb d_A_init_51 rfl (lv_at hl 0 rfl) ?_
  refine lv_iconst (v := 0) hx hb d_A_init_52 (by decide) ?_
  refine yr_put (ty := .int) (C := R_A) (T := F_A) (N := 8) (ci := k_A) hx hb ht j_A t_A t_A_ok n_A hown hK.1 hw h5 (yu_s _ _ _) rfl 7 (by decide) (ht _ mf_A_40) (fun _ h9 => h9) rfl (by decide +kernel) rfl rfl (Nat.le_of_ble_eq_true rfl) d_A_init_53 (fun H locs hw => ?_)
  have e6 : ad1 (6, y, i) = ad3 (6, y, i) := by rw [hag3 _ (by simp), hag2 _ (by simp)]
  have e7 : ad2 (7, y, i) = ad3 (7, y, i) := by rw [hag3 _ (by simp)]
  rw [e6, e7] at hw
  refine W.widen (k := 3) (n := 64) (by omega) (by show 0 + 2 + 2 + yt_rows k ≤ 64; omega) ?_
  exact ye_v hI ad3 (fun z hz => by rw [hag3 _ (by simp [hz]), hag2 _ (by simp [hz]), hag1 _ hz]) (y_same hw (fun q _ => by by_cases q5 : q = (5, y, i) <;> by_cases q6 : q = (6, y, i) <;> by_cases q7 : q = (7, y, i) <;> by_cases q8 : q = (8, y, i) <;> simp [yu, q5, q6, q7, q8])) d_A_init_56
set_option maxHeartbeats 4000000 in
set_option maxRecDepth 100000 in
theorem c_Y_init (l : Launch) (D : va_G) (cc : ClassId × ClassId × ClassId) (ad : yl → Nat) (LL : List yl) (g : yl → va_E) (X : va_W) (b0 sz : Nat) (y : Nat) (h1 : (1, y, 0) ∈ LL) (h2 : (2, y, 0) ∉ LL) (h3 : (3, y, 0) ∉ LL) (h4 : (4, y, 0) ∉ LL) (hg : g (1, y, 0) = .inr (k_Y, [.null, .null, .null, .int 0, .int 0])) : Met l y_Y_init w_Y_init ({ frames := 1, cells := 3, slots := 36, locals := 12 }) (yPr D cc b0 [.ref (ad (1, y, 0))] (wl ad LL g ++ X) sz) (va_Qv (fun ad' : yl → Nat => ∀ z, z ∈ LL → ad' z = ad z) (yB D ycl (wl ad LL g ++ X) sz (fun ad' => wl ad' (((LL ++ [(2, y, 0)]) ++ [(3, y, 0)]) ++ [(4, y, 0)]) (yu (yu (yu (yu g (2, y, 0) (.inl (cc.2.1, 10, .inr (.inr (.inr (.inr (fun _ => none))))))) (3, y, 0) (.inl (cc.2.2, 16, .inr (.inr (.inr (.inr (fun _ => none))))))) (4, y, 0) (.inl (cc.1, 10, .inl (fun _ => 0)))) (1, y, 0) (.inr (k_Y, [.ref (ad' (2, y, 0)), .ref (ad' (3, y, 0)), .ref (ad' (4, y, 0)), .int 0, .int 0]))) ++ X)) (va_A (wl ad LL g ++ X) sz)) 3 36 (va_A (wl ad LL g ++ X) sz) := by
  refine y_ofW (cc := b_Y_init) (maxL := 1) (ret := none) (by decide) rfl (Nat.le_of_ble_eq_true rfl) ?_
  intro pv ev sv mv bv tv cv ls hI hsz hw hl
  generalize hargs : ([.ref (ad (1, y, 0))] : List Value).toArray = args at hI ⊢
  obtain ⟨hx, hb, hr, hml, hts, hown, hlocks, hnm, hK, hAb, hb0, hA⟩ := id hI
  have ht : ∀ w ∈ lg_tbl, w.before _ sv = true := fun w h => hts w (List.mem_cons_of_mem _ h)
  have hl : lv_has ls 1 [(0, .ref (ad (1, y, 0)))] := hl
  refine lv_aload_n hx hb d_Y_init_0 rfl (lv_at hl 0 rfl) ?_
  refine W.objInit hx hb hown (ht _ ml_Y_3) (ht _ mw_objm) (ht _ mw_objc) rfl (by rw [hml]; exact hl.1) rfl d_Y_init_1 (Nat.le_of_ble_eq_true rfl) (Nat.le_of_ble_eq_true rfl) ?_
  refine W.eq (g2 := F0 mv 4 ls []) rfl ?_
  refine lv_aload_n hx hb d_Y_init_4 rfl (lv_at hl 0 rfl) ?_
  refine lv_bipush (v := (nI 10)) hx hb d_Y_init_5 (by decide) ?_
  refine yr_newq (N' := 10) hx hb hown (ht _ mk_Y_9) (hK.2.2.1 _ (by simp [yao])) hK.1 hK.2.1 (List.mem_cons_of_mem _ List.mem_cons_self) hw hA (2, y, 0) h2 (nI_pos (by omega)) (nI_clamp (by omega)) (by omega) (Nat.le_of_ble_eq_true rfl) (Nat.le_of_ble_eq_true rfl) d_Y_init_7 (fun ad1 H hag1 hw => ?_)
  rw [← hag1 _ h1] at hl ⊢
  have h1 : (1, y, 0) ∈ LL ++ [(2, y, 0)] := List.mem_append_left _ h1
  refine yr_putF (ty := .array (.object "YardActors$Actor")) (C := R_Y) (T := F_Y) (N := 5) (ci := k_Y) hx hb ht j_Y t_Y t_Y_ok n_Y hown hK.1 hw h1 (by rw [yu_n _ _ (by simp)]; exact hg) rfl 0 (by decide) (ht _ mf_Y_11) (fun _ h9 => h9) rfl hnm rfl (by decide +kernel) rfl rfl (Nat.le_of_ble_eq_true rfl) d_Y_init_10 (fun H locs hw => ?_)
  refine lv_aload_n hx hb d_Y_init_13 rfl (lv_at hl 0 rfl) ?_
  refine lv_bipush (v := (nI 16)) hx hb d_Y_init_14 (by decide) ?_
  refine yr_newq (N' := 16) hx hb hown (ht _ mk_Y_17) (hK.2.2.1 _ (by simp [yao])) hK.1 hK.2.1 (List.mem_cons_of_mem _ (List.mem_cons_of_mem _ List.mem_cons_self)) hw hA (3, y, 0) (by simp [h3]) (nI_pos (by omega)) (nI_clamp (by omega)) (by omega) (Nat.le_of_ble_eq_true rfl) (Nat.le_of_ble_eq_true rfl) d_Y_init_16 (fun ad2 H hag2 hw => ?_)
  rw [← hag2 _ h1] at hl ⊢
  have h1 : (1, y, 0) ∈ (LL ++ [(2, y, 0)]) ++ [(3, y, 0)] := List.mem_append_left _ h1
  refine yr_putF (ty := .array (.object "YardActors$Channel")) (C := R_Y) (T := F_Y) (N := 5) (ci := k_Y) hx hb ht j_Y t_Y t_Y_ok n_Y hown hK.1 hw h1 (by rw [yu_n _ _ (by simp)]; exact yu_s _ _ _) rfl 1 (by decide) (ht _ mf_Y_19) (fun _ h9 => h9) rfl hnm rfl (by decide +kernel) rfl rfl (Nat.le_of_ble_eq_true rfl) d_Y_init_19 (fun H locs hw => ?_)
  refine lv_aload_n hx hb d_Y_init_22 rfl (lv_at hl 0 rfl) ?_
  refine lv_bipush (v := (nI 10)) hx hb d_Y_init_23 (by decide) ?_
  refine yr_newi (N' := 10) hx hb (ht _ ma_int) hK.1 hK.2.1 List.mem_cons_self hw hA (4, y, 0) (by simp [h4]) (nI_pos (by omega)) (nI_clamp (by omega)) (by omega) (Nat.le_of_ble_eq_true rfl) (Nat.le_of_ble_eq_true rfl) d_Y_init_25 (fun ad3 H hag3 hw => ?_)
  rw [← hag3 _ h1] at hl ⊢
  have h1 : (1, y, 0) ∈ ((LL ++ [(2, y, 0)]) ++ [(3, y, 0)]) ++ [(4, y, 0)] := List.mem_append_left _ h1
  refine yr_putF (ty := .array .int) (C := R_Y) (T := F_Y) (N := 5) (ci := k_Y) hx hb ht j_Y t_Y t_Y_ok n_Y hown hK.1 hw h1 (by rw [yu_n _ _ (by simp)]; exact yu_s _ _ _) rfl 2 (by decide) (ht _ mf_Y_23) (fun _ h9 => h9) rfl hnm rfl (by decide +kernel) rfl rfl (Nat.le_of_ble_eq_true rfl) d_Y_init_27 (fun H locs hw => ?_)
  refine lv_aload_n hx hb d_Y_init_30 rfl (lv_at hl 0 rfl) ?_
  refine lv_iconst (v := 0) hx hb d_Y_init_31 (by decide) ?_
  refine yr_put (ty := .int) (C := R_Y) (T := F_Y) (N := 5) (ci := k_Y) hx hb ht j_Y t_Y t_Y_ok n_Y hown hK.1 hw h1 (yu_s _ _ _) rfl 3 (by decide) (ht _ mf_Y_27) (fun _ h9 => h9) rfl (by decide +kernel) rfl rfl (Nat.le_of_ble_eq_true rfl) d_Y_init_32 (fun H locs hw => ?_)
  refine lv_aload_n hx hb d_Y_init_35 rfl (lv_at hl 0 rfl) ?_
  refine lv_iconst (v := 0) hx hb d_Y_init_36 (by decide) ?_
  refine yr_put (ty := .int) (C := R_Y) (T := F_Y) (N := 5) (ci := k_Y) hx hb ht j_Y t_Y t_Y_ok n_Y hown hK.1 hw h1 (yu_s _ _ _) rfl 4 (by decide) (ht _ mf_Y_31) (fun _ h9 => h9) rfl (by decide +kernel) rfl rfl (Nat.le_of_ble_eq_true rfl) d_Y_init_37 (fun H locs hw => ?_)
  have e6 : ad1 (2, y, 0) = ad3 (2, y, 0) := by rw [hag3 _ (by simp), hag2 _ (by simp)]
  have e7 : ad2 (3, y, 0) = ad3 (3, y, 0) := by rw [hag3 _ (by simp)]
  rw [e6, e7] at hw
  exact ye_v hI ad3 (fun z hz => by rw [hag3 _ (by simp [hz]), hag2 _ (by simp [hz]), hag1 _ hz]) (y_same hw (fun q _ => by by_cases q5 : q = (1, y, 0) <;> by_cases q6 : q = (2, y, 0) <;> by_cases q7 : q = (3, y, 0) <;> by_cases q8 : q = (4, y, 0) <;> simp [yu, q5, q6, q7, q8])) d_Y_init_40
