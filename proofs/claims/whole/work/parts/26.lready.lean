/-! YARD: listReady -/
theorem yinc (n : Nat) : nI n + Int32.ofInt 1 = nI (n + 1) := nI_1 n
theorem yrd_rd {σ : ys} {y i : Nat} {v w : Nat → Int32} : sx_rd (sx_rd σ y i v) y i w = sx_rd σ y i w := by
  unfold sx_rd
  rw [up2_up2]
theorem yrd_same {σ : ys} {y i : Nat} : sx_rd σ y i (s_rd σ y i) = σ := by
  have e : up2 (s_rd σ) y i (s_rd σ y i) = s_rd σ := by
    funext y' i'
    by_cases h : y' = y ∧ i' = i
    · rw [h.1, h.2, up2_s]
    · rw [up2_n _ _ h]
  unfold sx_rd
  show (_, _, _, _, _, _, _, _, up2 (s_rd σ) y i (s_rd σ y i)) = σ
  rw [e]
  rfl
theorem yrd_get {σ : ys} {y i : Nat} {v : Nat → Int32} : s_rd (sx_rd σ y i v) y i = v := up2_s _ _ _ _
theorem yrd_app {L : List Nat} {r : Nat → Int32} {i : Nat} (h : ∀ j, j < L.length → r j = nI (L.getD j 0)) : ∀ j, j < (L ++ [i]).length → upd r L.length (nI i) j = nI ((L ++ [i]).getD j 0) := by
  intro j hj
  rw [List.length_append] at hj
  have hj : j < L.length + 1 := hj
  by_cases h1 : j < L.length
  · rw [pk_un (by omega), h j h1]
    congr 1
    rw [List.getD_eq_getElem?_getD, List.getD_eq_getElem?_getD, List.getElem?_append_left h1]
  · have h2 : j = L.length := by omega
    subst h2
    rw [pk_us, List.getD_eq_getElem?_getD, List.getElem?_append_right (Nat.le_refl _), Nat.sub_self]
    rfl
set_option maxHeartbeats 4000000 in
set_option maxRecDepth 100000 in
/-- listReady: those who can act, by their numbers -/
theorem c_Y_listReady (l : Launch) (D : va_G) (cc : ClassId × ClassId × ClassId) (ad : yl → Nat) (LL : List yl) (X : va_W) (b0 sz : Nat) (σ : ys) (hL : ∀ q, yL σ q → q ∈ LL) (y : Nat) (hy : y < 2) (hi : yI σ y) : Met l y_Y_listReady w_Y_listReady ({ frames := 3, cells := 0, slots := 0, locals := 63 }) (yPr D cc b0 [.ref (ad (1, y, 0))] (yW cc ad LL X σ) sz) ((va_Qi (fun c (r : Nat → Int32) => c = nI (yp_rdy (s_T σ y) (s_D σ y) (s_n σ y)).length ∧ ∀ j, j < (yp_rdy (s_T σ y) (s_D σ y) (s_n σ y)).length → r j = nI ((yp_rdy (s_T σ y) (s_D σ y) (s_n σ y)).getD j 0)) (yB D ycl (yW cc ad LL X σ) sz (fun r => yW cc ad LL X (sx_rd σ y 0 r))) (va_A (yW cc ad LL X σ) sz))) 0 0 (va_A (yW cc ad LL X σ) sz) := by
  have g1 : (1, y, 0) ∈ LL := hL _ ⟨hy, rfl⟩
  have g2 : (2, y, 0) ∈ LL := hL _ ⟨hy, rfl⟩
  have g3 : (3, y, 0) ∈ LL := hL _ ⟨hy, rfl⟩
  have g4 : (4, y, 0) ∈ LL := hL _ ⟨hy, rfl⟩
  have hn10 := hi.1.1
  have hc16 := hi.2.1
  refine y_ofW (cc := b_Y_listReady) (maxL := 4) (ret := (some .int)) (by decide) rfl (Nat.le_of_ble_eq_true rfl) ?_
  intro pv ev sv mv bv tv cv ls hI hsz hw hl
  obtain ⟨hx, hb, hr, hml, hts, hown, hlocks, hnm, hK, hAb, hb0, hA⟩ := id hI
  have ht : ∀ w ∈ lg_tbl, w.before _ sv = true := fun w h => hts w (List.mem_cons_of_mem _ h)
  have hl : lv_has ls 4 [(0, .ref (ad (1, y, 0)))] := hl
  have loop : ∀ (f i : Nat) (r : Nat → Int32) (H : Heap) (locs : List Loc) (ls : Array Slot), i ≤ s_n σ y → s_n σ y - i < f → (∀ j, j < (yp_rdy (s_T σ y) (s_D σ y) i).length → r j = nI ((yp_rdy (s_T σ y) (s_D σ y) i).getD j 0)) → yH D ycl (va_A (yW cc ad LL X σ) sz) sv.heap H locs (yW cc ad LL X (sx_rd σ y 0 r)) → lv_has ls 4 [(2, .int (nI i)), (1, .int (nI (yp_rdy (s_T σ y) (s_D σ y) i).length)), (0, .ref (ad (1, y, 0)))] → W pv l ev (headSpec w_Y_listReady ({ frames := 3, cells := 0, slots := 0, locals := 63 })).room sv mv [.ref (ad (1, y, 0))].toArray bv tv cv H locs 0 0 (MQ bv (va_Qi (fun c (r : Nat → Int32) => c = nI (yp_rdy (s_T σ y) (s_D σ y) (s_n σ y)).length ∧ ∀ j, j < (yp_rdy (s_T σ y) (s_D σ y) (s_n σ y)).length → r j = nI ((yp_rdy (s_T σ y) (s_D σ y) (s_n σ y)).getD j 0)) (yB D ycl (yW cc ad LL X σ) sz (fun r => yW cc ad LL X (sx_rd σ y 0 r))) (va_A (yW cc ad LL X σ) sz)) [.ref (ad (1, y, 0))].toArray sv 0 0 (va_A (yW cc ad LL X σ) sz)) (F0 mv 4 ls []) := by
    intro f
    induction f with
    | zero => intro i r H locs ls h1 h2; omega
    | succ f ih =>
      intro i r H locs ls h1 h2 hr hw hl
      have hle := yp_rdy_le (s_T σ y) (s_D σ y) i
      by_cases hd : i < s_n σ y
      · have h5 : (5, y, i) ∈ LL := hL _ ⟨hy, hd⟩
        refine lv_iload_n hx hb d_Y_listReady_4 rfl (lv_at hl 0 rfl) ?_
        refine lv_aload_n hx hb d_Y_listReady_5 rfl (lv_at hl 2 rfl) ?_
        refine yr_get (C := R_Y) (T := F_Y) (N := 5) (ci := k_Y) hx hb ht j_Y hown hK.1 hw (by assumption) (by rfl) rfl 3 (by decide) (ht _ mf_Y_27) (fun _ h9 => h9) (by rfl) d_Y_listReady_6 ?_
        refine lv_icmp_ge (tgt := 45) hx hb d_Y_listReady_9 (by decide) (fun c_9 => by exact absurd ((nI_leI (a := s_n σ y) (b := i) (by omega) (by omega)).mp c_9) (Nat.not_le.mpr hd)) (fun c_9 => ?_)
        refine lv_aload_n hx hb d_Y_listReady_12 rfl (lv_at hl 2 rfl) ?_
        refine lv_iload_n hx hb d_Y_listReady_13 rfl (lv_at hl 0 rfl) ?_
        refine yc_q (va_runV (As := [.int _]) (rest := []) ⟨hx, hb, hml, hown, hts⟩ (c_Y_findActor l D cc ad LL X b0 _ (sx_rd σ y 0 r) hL y hy hi i hd) (cwV 1 hts (yg_call mc_Y_findActor ml_Y_37 mm_Y_findActor ms_Y_findActor mi_Y) rfl rfl rfl (by decide +kernel) ⟨Nat.le_of_ble_eq_true rfl, Nat.le_of_ble_eq_true rfl⟩) (y_preV hI hw (y_recv hK.1 hw g1 (by rfl) rfl)) rfl rfl hl.1 rfl (lv_room (Nat.le_of_ble_eq_true rfl)) d_Y_listReady_14 ⟨Nat.le_of_ble_eq_true rfl, Nat.le_of_ble_eq_true rfl⟩) hw hA (fun r u H locs he hw => ?_)
        subst he
        rw [yrf_s]
        refine lv_astore_n (lv' := [(3, .ref _), (2, .int _), (1, .int _), (0, .ref _)]) hx hb d_Y_listReady_17 rfl hl (by decide) rfl (fun ls hl => ?_)
        refine lv_aload_n hx hb d_Y_listReady_18 rfl (lv_at hl 0 rfl) ?_
        refine lv_ifnull hx hb d_Y_listReady_19 ?_
        refine lv_aload_n hx hb d_Y_listReady_22 rfl (lv_at hl 0 rfl) ?_
        refine yc_i (va_runV (As := []) (rest := []) ⟨hx, hb, hml, hown, hts⟩ (c_A_isReady l D cc ad LL X b0 _ (sx_rd σ y 0 r) hL y i hy hd hi) (cwV 0 hts (yg_call mc_A_isReady ml_Y_84 mm_A_isReady ms_A_isReady mi_A) rfl rfl rfl (by decide +kernel) ⟨Nat.le_of_ble_eq_true rfl, Nat.le_of_ble_eq_true rfl⟩) (y_preV hI hw (y_recv hK.1 hw h5 (by rfl) rfl)) rfl rfl hl.1 rfl (lv_room (Nat.le_of_ble_eq_true rfl)) d_Y_listReady_23 ⟨Nat.le_of_ble_eq_true rfl, Nat.le_of_ble_eq_true rfl⟩) hw hA (fun r u H locs he hw => ?_)
        subst he
        refine lv_if_eq (tgt := 39) hx hb d_Y_listReady_26 (by decide) (fun c_26 => ?_) (fun c_26 => ?_)
        · have e1 := yb_0 c_26
          refine lv_iinc (v := nI (i + 1)) (lv' := [(2, .int _), (3, .ref _), (1, .int _), (0, .ref _)]) hx hb d_Y_listReady_39 hl (k := 1) rfl (yinc i) (by decide) rfl (fun ls hl => ?_)
          refine lv_goto (tgt := 4) hx hb d_Y_listReady_42 (by decide) ?_
          exact ih (i + 1) r _ _ _ hd (by omega) (by rw [yp_rdy_s, if_neg (by rw [show yp_canb (s_T σ y) (s_D σ y) i = false from e1]; decide), List.append_nil]; exact hr) hw (by rw [yp_rdy_s, if_neg (by rw [show yp_canb (s_T σ y) (s_D σ y) i = false from e1]; decide), List.append_nil]; exact lv_sub hl [0, 2, 3] rfl)
        · have e1 := yb_1 c_26
          refine lv_aload_n hx hb d_Y_listReady_29 rfl (lv_at hl 3 rfl) ?_
          refine yr_get (C := R_Y) (T := F_Y) (N := 5) (ci := k_Y) hx hb ht j_Y hown hK.1 hw (by assumption) (by rfl) rfl 2 (by decide) (ht _ mf_Y_23) (fun _ h9 => h9) (by rfl) d_Y_listReady_30 ?_
          refine lv_iload_n hx hb d_Y_listReady_33 rfl (lv_at hl 2 rfl) ?_
          refine lv_iload_n hx hb d_Y_listReady_34 rfl (lv_at hl 1 rfl) ?_
          refine yr_iast hx hb hK.1 hw (by assumption) (by rfl) 0 rfl (vp_in_nI (by omega) (by omega)) d_Y_listReady_35 (fun H locs hw => ?_)
          rw [nI_clamp (by omega)] at hw
          have hw := yw_rd _ hw rfl
          rw [yrd_rd, yrd_get] at hw
          refine lv_iinc (v := nI ((yp_rdy (s_T σ y) (s_D σ y) i).length + 1)) (lv' := [(1, .int _), (3, .ref _), (2, .int _), (0, .ref _)]) hx hb d_Y_listReady_36 hl (k := 2) rfl (yinc _) (by decide) rfl (fun ls hl => ?_)
          refine lv_iinc (v := nI (i + 1)) (lv' := [(2, .int _), (1, .int _), (3, .ref _), (0, .ref _)]) hx hb d_Y_listReady_39 hl (k := 2) rfl (yinc i) (by decide) rfl (fun ls hl => ?_)
          refine lv_goto (tgt := 4) hx hb d_Y_listReady_42 (by decide) ?_
          have e2 : yp_rdy (s_T σ y) (s_D σ y) (i + 1) = yp_rdy (s_T σ y) (s_D σ y) i ++ [i] := by rw [yp_rdy_s, if_pos (show yp_canb (s_T σ y) (s_D σ y) i = true from e1)]
          exact ih (i + 1) _ _ _ _ hd (by omega) (by rw [e2]; exact yrd_app hr) hw (by rw [e2, List.length_append]; exact lv_sub hl [0, 1, 3] rfl)
      · have hie : i = s_n σ y := by omega
        subst hie
        refine lv_iload_n hx hb d_Y_listReady_4 rfl (lv_at hl 0 rfl) ?_
        refine lv_aload_n hx hb d_Y_listReady_5 rfl (lv_at hl 2 rfl) ?_
        refine yr_get (C := R_Y) (T := F_Y) (N := 5) (ci := k_Y) hx hb ht j_Y hown hK.1 hw (by assumption) (by rfl) rfl 3 (by decide) (ht _ mf_Y_27) (fun _ h9 => h9) (by rfl) d_Y_listReady_6 ?_
        refine lv_icmp_ge (tgt := 45) hx hb d_Y_listReady_9 (by decide) (fun c_9 => ?_) (fun c_9 => by exact absurd ((nI_leI (a := s_n σ y) (b := s_n σ y) (by omega) (by omega)).mpr (Nat.le_refl _)) c_9)
        refine lv_iload_n hx hb d_Y_listReady_45 rfl (lv_at hl 1 rfl) ?_
        exact ye_i hI r ⟨rfl, hr⟩ hw d_Y_listReady_46
  refine lv_iconst (v := (nI 0)) hx hb d_Y_listReady_0 (by decide) ?_
  refine lv_istore_n (lv' := [(1, .int _), (0, .ref _)]) hx hb d_Y_listReady_1 rfl hl (by decide) rfl (fun ls hl => ?_)
  refine lv_iconst (v := (nI 0)) hx hb d_Y_listReady_2 (by decide) ?_
  refine lv_istore_n (lv' := [(2, .int _), (1, .int _), (0, .ref _)]) hx hb d_Y_listReady_3 rfl hl (by decide) rfl (fun ls hl => ?_)
  exact loop (s_n σ y + 1) 0 (s_rd σ y 0) _ _ _ (Nat.zero_le _) (by omega) (fun j hj => absurd hj (by rw [yp_rdy_0]; exact Nat.not_lt_zero j)) (by rw [yrd_same]; exact hw) (lv_sub hl [0, 1, 2] rfl)
