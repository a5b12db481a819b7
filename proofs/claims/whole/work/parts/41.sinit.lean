/-! THE FACE: a new object -/
def y0 : ys := (fun _ _ => 0, fun _ => (0, 0), fun _ _ => (0, 0, 0, 0, 0), fun _ _ _ => none, fun _ _ _ => none, fun _ _ _ => 0, fun _ _ => (1, 0, 0), fun _ _ _ => 0, fun _ _ _ => 0)
def yLL0 : List yl := ((((((([(0, 0, 0)] ++ [(1, 0, 0)]) ++ [(2, 0, 0)]) ++ [(3, 0, 0)]) ++ [(4, 0, 0)]) ++ [(1, 1, 0)]) ++ [(2, 1, 0)]) ++ [(3, 1, 0)]) ++ [(4, 1, 0)]
theorem z_2 {cc : ClassId × ClassId × ClassId} {ad : yl → Nat} (y : Nat) : yG cc y0 ad (2, y, 0) = .inl (cc.2.1, 10, .inr (.inr (.inr (.inr (fun _ => none))))) := by
  show Sum.inl (cc.2.1, 10, Sum.inr (Sum.inr (Sum.inr (Sum.inr (fun j => if j < s_n y0 y then some (ad (5, y, j)) else none))))) = _
  have e : (fun j => if j < s_n y0 y then some (ad (5, y, j)) else none) = fun _ => (none : Option Nat) := funext fun j => if_neg (Nat.not_lt_zero j)
  rw [e]
theorem z_3 {cc : ClassId × ClassId × ClassId} {ad : yl → Nat} (y : Nat) : yG cc y0 ad (3, y, 0) = .inl (cc.2.2, 16, .inr (.inr (.inr (.inr (fun _ => none))))) := by
  show Sum.inl (cc.2.2, 16, Sum.inr (Sum.inr (Sum.inr (Sum.inr (fun j => if j < s_nc y0 y then some (ad (9, y, j)) else none))))) = _
  have e : (fun j => if j < s_nc y0 y then some (ad (9, y, j)) else none) = fun _ => (none : Option Nat) := funext fun j => if_neg (Nat.not_lt_zero j)
  rw [e]
theorem z_same {cc : ClassId × ClassId × ClassId} {ad : yl → Nat} {g : yl → va_E} {e1 e2 : va_E} {f1 f2 : va_E} : ∀ q, q ∈ yLL0 → (yu (yu (yu (yu (yu (yu (yu (yu (yu (yu (yu (yu (yu g (1, 0, 0) e1) (2, 0, 0) (.inl (cc.2.1, 10, .inr (.inr (.inr (.inr (fun _ => none))))))) (3, 0, 0) (.inl (cc.2.2, 16, .inr (.inr (.inr (.inr (fun _ => none))))))) (4, 0, 0) (.inl (cc.1, 10, .inl (fun _ => 0)))) (1, 0, 0) (.inr (k_Y, [.ref (ad (2, 0, 0)), .ref (ad (3, 0, 0)), .ref (ad (4, 0, 0)), .int 0, .int 0]))) (0, 0, 0) f1) (1, 1, 0) e2) (2, 1, 0) (.inl (cc.2.1, 10, .inr (.inr (.inr (.inr (fun _ => none))))))) (3, 1, 0) (.inl (cc.2.2, 16, .inr (.inr (.inr (.inr (fun _ => none))))))) (4, 1, 0) (.inl (cc.1, 10, .inl (fun _ => 0)))) (1, 1, 0) (.inr (k_Y, [.ref (ad (2, 1, 0)), .ref (ad (3, 1, 0)), .ref (ad (4, 1, 0)), .int 0, .int 0]))) (0, 0, 0) f2) (0, 0, 0) (.inr (k_S, [.ref (ad (1, 0, 0)), .ref (ad (1, 1, 0)), .int 0]))) q = yG cc y0 ad q := by
  intro q hq
  have hq : q = (0, 0, 0) ∨ q = (1, 0, 0) ∨ q = (2, 0, 0) ∨ q = (3, 0, 0) ∨ q = (4, 0, 0) ∨ q = (1, 1, 0) ∨ q = (2, 1, 0) ∨ q = (3, 1, 0) ∨ q = (4, 1, 0) := by
    simpa [yLL0, or_assoc] using hq
  rcases hq with rfl | rfl | rfl | rfl | rfl | rfl | rfl | rfl | rfl
  · simp [yu]; rfl
  · simp [yu]; rfl
  · simp [yu, z_2]
  · simp [yu, z_3]
  · simp [yu]; rfl
  · simp [yu]; rfl
  · simp [yu, z_2]
  · simp [yu, z_3]
  · simp [yu]; rfl
theorem z_L : ∀ q, q ∈ yLL0 ↔ yL y0 q := by
  intro q
  have hm : q ∈ yLL0 ↔ q = (0, 0, 0) ∨ q = (1, 0, 0) ∨ q = (2, 0, 0) ∨ q = (3, 0, 0) ∨ q = (4, 0, 0) ∨ q = (1, 1, 0) ∨ q = (2, 1, 0) ∨ q = (3, 1, 0) ∨ q = (4, 1, 0) := by
    simp [yLL0, or_assoc]
  rw [hm]
  obtain ⟨f, z, i⟩ := q
  have k2 : ∀ z, z < 2 ↔ z = 0 ∨ z = 1 := fun z => by omega
  match f with
  | 0 => show _ ↔ (z = 0 ∧ i = 0); simp
  | 1 => show _ ↔ (z < 2 ∧ i = 0); rw [k2]; simp; omega
  | 2 => show _ ↔ (z < 2 ∧ i = 0); rw [k2]; simp; omega
  | 3 => show _ ↔ (z < 2 ∧ i = 0); rw [k2]; simp; omega
  | 4 => show _ ↔ (z < 2 ∧ i = 0); rw [k2]; simp; omega
  | 5 => show _ ↔ (z < 2 ∧ i < 0); simp
  | 6 => show _ ↔ (z < 2 ∧ i < 0); simp
  | 7 => show _ ↔ (z < 2 ∧ i < 0); simp
  | 8 => show _ ↔ (z < 2 ∧ i < 0); simp
  | 9 => show _ ↔ (z < 2 ∧ i < 0); simp
  | 10 => show _ ↔ (z < 2 ∧ i < 0); simp
  | n + 11 => show _ ↔ False; simp
theorem z_I (y : Nat) : yI y0 y := by
  refine ⟨⟨by show 0 ≤ 10; omega, fun _ _ => rfl, fun _ _ => rfl⟩, by show 0 ≤ 16; omega, fun _ => ⟨by show 0 < 9; omega, by show 0 ≤ 20; omega, fun _ => rfl, by show 0 ≤ 100; omega, fun _ => by show 0 ≤ 60; omega⟩, fun _ => ⟨by show 1 ≤ 1; omega, by show 1 ≤ 8; omega, by show 0 < 8; omega, by show 0 ≤ 1; omega⟩, fun _ _ _ e => (by cases e), fun _ _ _ e => (by cases e), ⟨fun _ _ _ _ _ e => (by cases e), fun _ _ _ _ _ e => (by cases e)⟩⟩
theorem z_J : yJ y0 := ⟨z_I 0, z_I 1, ⟨rfl, rfl, fun _ => ⟨rfl, rfl, rfl⟩, rfl, rfl, fun _ => rfl⟩, Or.inl rfl⟩
set_option maxHeartbeats 4000000 in
set_option maxRecDepth 100000 in
theorem c_S_init (l : Launch) (D : va_G) (cc : ClassId × ClassId × ClassId) (ad : yl → Nat) (g : yl → va_E) (X : va_W) (b0 sz : Nat) (hg : g (0, 0, 0) = .inr (k_S, [.null, .null, .int 0])) : Met l y_S_init w_S_init ({ frames := 2, cells := 8, slots := 82, locals := 32 }) (yPr D cc b0 [.ref (ad (0, 0, 0))] (wl ad [(0, 0, 0)] g ++ X) sz) (va_Qv (fun ad' : yl → Nat => ad' (0, 0, 0) = ad (0, 0, 0)) (yB D ycl (wl ad [(0, 0, 0)] g ++ X) sz (fun ad' => yW cc ad' yLL0 X y0)) (va_A (wl ad [(0, 0, 0)] g ++ X) sz)) 8 82 (va_A (wl ad [(0, 0, 0)] g ++ X) sz) := by
  refine y_ofW (cc := b_S_init) (maxL := 1) (ret := none) (by decide) rfl (Nat.le_of_ble_eq_true rfl) ?_
  intro pv ev sv mv bv tv cv ls hI hsz hw hl
  generalize hargs : ([.ref (ad (0, 0, 0))] : List Value).toArray = args at hI ⊢
  obtain ⟨hx, hb, hr, hml, hts, hown, hlocks, hnm, hK, hAb, hb0, hA⟩ := id hI
  have ht : ∀ w ∈ lg_tbl, w.before _ sv = true := fun w h => hts w (List.mem_cons_of_mem _ h)
  have hl : lv_has ls 1 [(0, .ref (ad (0, 0, 0)))] := hl
  refine lv_aload_n hx hb d_S_init_0 rfl (lv_at hl 0 rfl) ?_
  refine W.objInit hx hb hown (ht _ ml_S_5) (ht _ mw_objm) (ht _ mw_objc) rfl (by rw [hml]; exact hl.1) rfl d_S_init_1 (Nat.le_of_ble_eq_true rfl) (Nat.le_of_ble_eq_true rfl) ?_
  refine W.eq (g2 := F0 mv 4 ls []) rfl ?_
  refine lv_aload_n hx hb d_S_init_4 rfl (lv_at hl 0 rfl) ?_
  refine yr_new (fs := [.null, .null, .null, .int 0, .int 0]) (C := R_Y) (T := F_Y) (N := 5) (ci := k_Y) hx hb ht j_Y t_Y t_Y_ok hown (ht _ mk_S_11) (ht _ mn_Y) (ht _ mi_Y) hK.1 hw hA (1, 0, 0) (by simp) rfl (fun j hj => by rcases (show j = 0 ∨ j = 1 ∨ j = 2 ∨ j = 3 ∨ j = 4 by omega) with rfl | rfl | rfl | rfl | rfl <;> rfl) (Nat.le_of_ble_eq_true rfl) (Nat.le_of_ble_eq_true rfl) d_S_init_5 (fun ad1 H hag1 hw => ?_)
  have m0 : (0, 0, 0) ∈ ([(0, 0, 0)] : List yl) := by simp
  rw [← hag1 _ m0] at hl ⊢
  refine lv_dup hx hb d_S_init_8 rfl ?_
  refine yc_v (va_runI (As := []) (rest := [.ref _, .ref _]) ⟨hx, hb, hml, hown, hts⟩ (c_Y_init l D cc ad1 ([(0, 0, 0)] ++ [(1, 0, 0)]) (yu g (1, 0, 0) (.inr (k_Y, [.null, .null, .null, .int 0, .int 0]))) X b0 _ 0 (by simp) (by simp) (by simp) (by simp) (yu_s _ _ _)) (cwI 0 hts (yg_sub mc_Y_init) rfl rfl rfl (ht _ mi_Y) (ht _ ml_S_13) (ht _ mm_Y_init) rfl (by decide +kernel) ⟨Nat.le_of_ble_eq_true rfl, Nat.le_of_ble_eq_true rfl⟩) (y_preS hI hw) rfl rfl hl.1 rfl (lv_room (Nat.le_of_ble_eq_true rfl)) d_S_init_9 ⟨Nat.le_of_ble_eq_true rfl, Nat.le_of_ble_eq_true rfl⟩) hw hA (fun ad2 H locs hag2 hw => ?_)
  have m1 : (0, 0, 0) ∈ ([(0, 0, 0)] : List yl) ++ [(1, 0, 0)] := by simp
  have m2 : (1, 0, 0) ∈ ([(0, 0, 0)] : List yl) ++ [(1, 0, 0)] := by simp
  rw [← hag2 _ m1] at hl ⊢
  rw [← hag2 _ m2]
  have p0 : (0, 0, 0) ∈ (((([(0, 0, 0)] ++ [(1, 0, 0)]) ++ [(2, 0, 0)]) ++ [(3, 0, 0)]) ++ [(4, 0, 0)] : List yl) := by simp
  refine yr_putF (ty := .object "YardActors$Yard") (C := R_S) (T := F_S) (N := 3) (ci := k_S) hx hb ht j_S t_S t_S_ok n_S hown hK.1 hw p0 (by rw [yu_n _ _ (by simp), yu_n _ _ (by simp), yu_n _ _ (by simp), yu_n _ _ (by simp), yu_n _ _ (by simp)]; exact hg) rfl 0 (by decide) (ht _ mf_S_14) (fun _ h9 => h9) rfl hnm rfl (by decide +kernel) rfl rfl (Nat.le_of_ble_eq_true rfl) d_S_init_12 (fun H locs hw => ?_)
  refine lv_aload_n hx hb d_S_init_15 rfl (lv_at hl 0 rfl) ?_
  refine yr_new (fs := [.null, .null, .null, .int 0, .int 0]) (C := R_Y) (T := F_Y) (N := 5) (ci := k_Y) hx hb ht j_Y t_Y t_Y_ok hown (ht _ mk_S_11) (ht _ mn_Y) (ht _ mi_Y) hK.1 hw hA (1, 1, 0) (by simp) rfl (fun j hj => by rcases (show j = 0 ∨ j = 1 ∨ j = 2 ∨ j = 3 ∨ j = 4 by omega) with rfl | rfl | rfl | rfl | rfl <;> rfl) (Nat.le_of_ble_eq_true rfl) (Nat.le_of_ble_eq_true rfl) d_S_init_16 (fun ad3 H hag3 hw => ?_)
  rw [← hag3 _ p0] at hl ⊢
  refine lv_dup hx hb d_S_init_19 rfl ?_
  refine yc_v (va_runI (As := []) (rest := [.ref _, .ref _]) ⟨hx, hb, hml, hown, hts⟩ (c_Y_init l D cc ad3 ((((([(0, 0, 0)] ++ [(1, 0, 0)]) ++ [(2, 0, 0)]) ++ [(3, 0, 0)]) ++ [(4, 0, 0)]) ++ [(1, 1, 0)]) _ X b0 _ 1 (by simp) (by simp) (by simp) (by simp) (yu_s _ _ _)) (cwI 0 hts (yg_sub mc_Y_init) rfl rfl rfl (ht _ mi_Y) (ht _ ml_S_13) (ht _ mm_Y_init) rfl (by decide +kernel) ⟨Nat.le_of_ble_eq_true rfl, Nat.le_of_ble_eq_true rfl⟩) (y_preS hI hw) rfl rfl hl.1 rfl (lv_room (Nat.le_of_ble_eq_true rfl)) d_S_init_20 ⟨Nat.le_of_ble_eq_true rfl, Nat.le_of_ble_eq_true rfl⟩) hw hA (fun ad4 H locs hag4 hw => ?_)
  have s0 : (0, 0, 0) ∈ ((((([(0, 0, 0)] ++ [(1, 0, 0)]) ++ [(2, 0, 0)]) ++ [(3, 0, 0)]) ++ [(4, 0, 0)]) ++ [(1, 1, 0)] : List yl) := by simp
  have s1 : (1, 1, 0) ∈ ((((([(0, 0, 0)] ++ [(1, 0, 0)]) ++ [(2, 0, 0)]) ++ [(3, 0, 0)]) ++ [(4, 0, 0)]) ++ [(1, 1, 0)] : List yl) := by simp
  rw [← hag4 _ s0] at hl ⊢
  rw [← hag4 _ s1]
  have t0 : (0, 0, 0) ∈ (((((((([(0, 0, 0)] ++ [(1, 0, 0)]) ++ [(2, 0, 0)]) ++ [(3, 0, 0)]) ++ [(4, 0, 0)]) ++ [(1, 1, 0)]) ++ [(2, 1, 0)]) ++ [(3, 1, 0)]) ++ [(4, 1, 0)] : List yl) := by simp
  refine yr_putF (ty := .object "YardActors$Yard") (C := R_S) (T := F_S) (N := 3) (ci := k_S) hx hb ht j_S t_S t_S_ok n_S hown hK.1 hw t0 (by rw [yu_n _ _ (by simp), yu_n _ _ (by simp), yu_n _ _ (by simp), yu_n _ _ (by simp), yu_n _ _ (by simp)]; exact yu_s _ _ _) rfl 1 (by decide) (ht _ mf_S_18) (fun _ h9 => h9) rfl hnm rfl (by decide +kernel) rfl rfl (Nat.le_of_ble_eq_true rfl) d_S_init_23 (fun H locs hw => ?_)
  refine lv_aload_n hx hb d_S_init_26 rfl (lv_at hl 0 rfl) ?_
  refine lv_iconst (v := 0) hx hb d_S_init_27 (by decide) ?_
  refine yr_put (ty := .boolean) (C := R_S) (T := F_S) (N := 3) (ci := k_S) hx hb ht j_S t_S t_S_ok n_S hown hK.1 hw t0 (yu_s _ _ _) rfl 2 (by decide) (ht _ mf_S_21) (fun _ h9 => h9) rfl (by decide +kernel) (by decide) (by decide) (Nat.le_of_ble_eq_true rfl) d_S_init_28 (fun H locs hw => ?_)
  have hE : ∀ z, z ∈ (((([(0, 0, 0)] ++ [(1, 0, 0)]) ++ [(2, 0, 0)]) ++ [(3, 0, 0)]) ++ [(4, 0, 0)] : List yl) → ad2 z = ad4 z := fun z hz => by rw [hag4 z (List.mem_append_left _ hz), hag3 z hz]
  rw [hE (1, 0, 0) (by simp), hE (2, 0, 0) (by simp), hE (3, 0, 0) (by simp), hE (4, 0, 0) (by simp)] at hw
  exact ye_v hI ad4 rfl (y_same hw (z_same)) d_S_init_31
