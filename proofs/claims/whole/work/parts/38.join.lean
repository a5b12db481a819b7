/-! YARD: join -/
/-- which channel a call asks for, where it is not refused -/
def a_jok (T : yp_T) (nc : Nat) (f o t i r : Int32) : Option (Nat × Nat × Nat × Nat × Nat) :=
  match yin f (yp_n T), yin t (yp_n T) with
  | some jf, some jt =>
    if nc < 16 then
      if r < nI 1 ∨ nI 8 < r then none else
      match yin o (yt_outs (yp_kd T jf)), yin i (yt_ins (yp_kd T jt)) with
      | some jo, some ji => if (yp_oc T jf jo).isNone = true ∧ (yp_ic T jt ji).isNone = true then some (jf, jo, jt, ji, r.toNatClampNeg) else none
      | _, _ => none
    else none
  | _, _ => none
theorem jok_yes {T : yp_T} {nc jf jt jo ji : Nat} {r : Int32} (hjf : jf < yp_n T) (hjt : jt < yp_n T) (hn : yp_n T < 2 ^ 31) (hc : nc < 16) (hr : ¬ (r < nI 1 ∨ nI 8 < r)) (hjo : jo < yt_outs (yp_kd T jf)) (hji : ji < yt_ins (yp_kd T jt)) (eo : yp_oc T jf jo = none) (ei : yp_ic T jt ji = none) : a_jok T nc (nI jf) (nI jo) (nI jt) (nI ji) r = some (jf, jo, jt, ji, r.toNatClampNeg) := by
  have h1 := yt_outs_le (yp_kd T jf)
  have h2 := yt_ins_le (yp_kd T jt)
  unfold a_jok
  rw [yin_some hjf hn, yin_some hjt hn]
  show (if nc < 16 then _ else _) = _
  rw [if_pos hc, if_neg hr, yin_some hjo (by omega), yin_some hji (by omega)]
  show (if _ then _ else _) = _
  rw [if_pos ⟨by rw [eo]; rfl, by rw [ei]; rfl⟩]
/-- one more channel -/
def yo_join (σ : ys) (y jf jo jt ji r : Nat) : ys := sx_cn (sx_ic (sx_oc (sx_rg (sx_ch σ y (s_nc σ y) (r, 0, 0)) y (s_nc σ y) (fun _ => 0)) y jf (va_up (s_oc σ y jf) jo (some (s_nc σ y)))) y jt (va_up (s_ic σ y jt) ji (some (s_nc σ y)))) y (s_n σ y, s_nc σ y + 1)
theorem join_g1 {cc : ClassId × ClassId × ClassId} {σ : ys} {ad ad2 : yl → Nat} {LL : List yl} {y r : Nat} {e0 : va_E} (hLL : ∀ q, q ∈ LL ↔ yL σ q) (hIo : ∀ z, yI σ z ∨ 2 ≤ z) (hag : ∀ z, z ∈ LL → ad2 z = ad z) : ∀ q, q ∈ ((LL ++ [(9, y, s_nc σ y)]) ++ [(10, y, s_nc σ y)]) → (yu (yu (yu (yG cc σ ad) (9, y, s_nc σ y) e0) (10, y, s_nc σ y) (.inl (cc.1, 8, .inl (fun _ => 0)))) (9, y, s_nc σ y) (.inr (k_C, [.int (nI r), .ref (ad2 (10, y, s_nc σ y)), .int 0, .int 0]))) q = (yu (yu (yG cc σ ad2) (10, y, s_nc σ y) (.inl (cc.1, 8, .inl (fun _ => 0)))) (9, y, s_nc σ y) (.inr (k_C, [.int (nI r), .ref (ad2 (10, y, s_nc σ y)), .int 0, .int 0]))) q := by
  intro q hq
  by_cases q9 : q = (9, y, s_nc σ y)
  · subst q9; simp [yu]
  · by_cases q10 : q = (10, y, s_nc σ y)
    · subst q10; simp [yu]
    · have hq' : q ∈ LL := by simpa [q9, q10] using hq
      have e := yG_ad (cc := cc) hIo (fun z hz => hag z ((hLL z).mpr hz)) ((hLL q).mp hq')
      simp [yu, q9, q10, e]
theorem map_up {f : Nat → Option Nat} {j v : Nat} {h : Nat → Nat} : (fun k => (va_up f j (some v) k).map h) = va_up (fun k => (f k).map h) j (some (h v)) := by
  funext k
  unfold va_up
  by_cases e : k = j
  · rw [if_pos e, if_pos e]; rfl
  · rw [if_neg e, if_neg e]
theorem join_g2 {cc : ClassId × ClassId × ClassId} {σ : ys} {ad2 : yl → Nat} {LL : List yl} {y jf jo jt ji r : Nat} (hLL : ∀ q, q ∈ LL ↔ yL σ q) : ∀ q, q ∈ ((LL ++ [(9, y, s_nc σ y)]) ++ [(10, y, s_nc σ y)]) → (yu (yu (yu (yu (yu (yu (yG cc σ ad2) (10, y, s_nc σ y) (.inl (cc.1, 8, .inl (fun _ => 0)))) (9, y, s_nc σ y) (.inr (k_C, [.int (nI r), .ref (ad2 (10, y, s_nc σ y)), .int 0, .int 0]))) (7, y, jf) (.inl (cc.2.2, 2, .inr (.inr (.inr (.inr (va_up (fun j => (s_oc σ y jf j).map (fun c => ad2 (9, y, c))) jo (some (ad2 (9, y, s_nc σ y)))))))))) (6, y, jt) (.inl (cc.2.2, 2, .inr (.inr (.inr (.inr (va_up (fun j => (s_ic σ y jt j).map (fun c => ad2 (9, y, c))) ji (some (ad2 (9, y, s_nc σ y)))))))))) (3, y, 0) (.inl (cc.2.2, 16, .inr (.inr (.inr (.inr (va_up (fun j => if j < s_nc σ y then some (ad2 (9, y, j)) else none) (s_nc σ y) (some (ad2 (9, y, s_nc σ y)))))))))) (1, y, 0) (.inr (k_Y, [.ref (ad2 (2, y, 0)), .ref (ad2 (3, y, 0)), .ref (ad2 (4, y, 0)), .int (nI (s_n σ y)), .int (nI (s_nc σ y + 1))]))) q = yG cc (yo_join σ y jf jo jt ji r) ad2 q := by
  intro q hq
  have hcn : ∀ z, s_n (yo_join σ y jf jo jt ji r) z = s_n σ z := fun z => by
    show (va_up σ.2.1 y (s_n σ y, s_nc σ y + 1) z).1 = _
    unfold va_up
    by_cases h : z = y
    · rw [if_pos h, h]
    · rw [if_neg h]; rfl
  have hcc : ∀ z, s_nc (yo_join σ y jf jo jt ji r) z = if z = y then s_nc σ y + 1 else s_nc σ z := fun z => by
    show (va_up σ.2.1 y (s_n σ y, s_nc σ y + 1) z).2 = _
    unfold va_up
    by_cases h : z = y
    · rw [if_pos h, if_pos h]
    · rw [if_neg h, if_neg h]; rfl
  have hch : ∀ z i, s_ch (yo_join σ y jf jo jt ji r) z i = if z = y ∧ i = s_nc σ y then (r, 0, 0) else s_ch σ z i := fun z i => rfl
  have hrg : ∀ z i, s_rg (yo_join σ y jf jo jt ji r) z i = if z = y ∧ i = s_nc σ y then (fun _ => 0) else s_rg σ z i := fun z i => rfl
  have hoc : ∀ z i, s_oc (yo_join σ y jf jo jt ji r) z i = if z = y ∧ i = jf then va_up (s_oc σ y jf) jo (some (s_nc σ y)) else s_oc σ z i := fun z i => rfl
  have hic : ∀ z i, s_ic (yo_join σ y jf jo jt ji r) z i = if z = y ∧ i = jt then va_up (s_ic σ y jt) ji (some (s_nc σ y)) else s_ic σ z i := fun z i => rfl
  by_cases q1 : q = (1, y, 0)
  · subst q1
    rw [yu_s]
    show Sum.inr (k_Y, [_, _, _, Value.int (nI (s_n σ y)), Value.int (nI (s_nc σ y + 1))]) = Sum.inr (k_Y, [_, _, _, Value.int (nI (s_n (yo_join σ y jf jo jt ji r) y)), Value.int (nI (s_nc (yo_join σ y jf jo jt ji r) y))])
    rw [hcn, hcc, if_pos rfl]
  · rw [yu_n _ _ q1]
    by_cases q3 : q = (3, y, 0)
    · subst q3
      rw [yu_s]
      show Sum.inl (cc.2.2, 16, Sum.inr (Sum.inr (Sum.inr (Sum.inr (va_up (fun j => if j < s_nc σ y then some (ad2 (9, y, j)) else none) (s_nc σ y) (some (ad2 (9, y, s_nc σ y)))))))) = Sum.inl (cc.2.2, 16, Sum.inr (Sum.inr (Sum.inr (Sum.inr (fun j => if j < s_nc (yo_join σ y jf jo jt ji r) y then some (ad2 (9, y, j)) else none)))))
      have e : va_up (fun j => if j < s_nc σ y then some (ad2 (9, y, j)) else none) (s_nc σ y) (some (ad2 (9, y, s_nc σ y))) = fun j => if j < s_nc (yo_join σ y jf jo jt ji r) y then some (ad2 (9, y, j)) else none := by
        funext j
        rw [hcc, if_pos rfl]
        unfold va_up
        by_cases h : j = s_nc σ y
        · rw [if_pos h, if_pos (by omega), h]
        · rw [if_neg h]
          show (if j < s_nc σ y then some (ad2 (9, y, j)) else none) = _
          by_cases h2 : j < s_nc σ y
          · rw [if_pos h2, if_pos (by omega)]
          · rw [if_neg h2, if_neg (by omega)]
      rw [e]
    · rw [yu_n _ _ q3]
      by_cases q6 : q = (6, y, jt)
      · subst q6
        rw [yu_s]
        show _ = Sum.inl (cc.2.2, 2, Sum.inr (Sum.inr (Sum.inr (Sum.inr (fun j => (s_ic (yo_join σ y jf jo jt ji r) y jt j).map (fun c => ad2 (9, y, c)))))))
        rw [hic, if_pos ⟨rfl, rfl⟩, map_up]
      · rw [yu_n _ _ q6]
        by_cases q7 : q = (7, y, jf)
        · subst q7
          rw [yu_s]
          show _ = Sum.inl (cc.2.2, 2, Sum.inr (Sum.inr (Sum.inr (Sum.inr (fun j => (s_oc (yo_join σ y jf jo jt ji r) y jf j).map (fun c => ad2 (9, y, c)))))))
          rw [hoc, if_pos ⟨rfl, rfl⟩, map_up]
        · rw [yu_n _ _ q7]
          by_cases q9 : q = (9, y, s_nc σ y)
          · subst q9
            rw [yu_s]
            show _ = Sum.inr (k_C, [Value.int (nI (s_ch (yo_join σ y jf jo jt ji r) y (s_nc σ y)).1), _, Value.int (nI (s_ch (yo_join σ y jf jo jt ji r) y (s_nc σ y)).2.1), Value.int (nI (s_ch (yo_join σ y jf jo jt ji r) y (s_nc σ y)).2.2)])
            rw [hch, if_pos ⟨rfl, rfl⟩]
            rfl
          · rw [yu_n _ _ q9]
            by_cases q10 : q = (10, y, s_nc σ y)
            · subst q10
              rw [yu_s]
              show _ = Sum.inl (cc.1, 8, Sum.inl (s_rg (yo_join σ y jf jo jt ji r) y (s_nc σ y)))
              rw [hrg, if_pos ⟨rfl, rfl⟩]
            · rw [yu_n _ _ q10]
              have hq' : q ∈ LL := by simpa [q9, q10] using hq
              have hl := (hLL q).mp hq'
              obtain ⟨f, z, i⟩ := q
              match f, hl, q1, q3, q6, q7, q9, q10 with
              | 0, _, _, _, _, _, _, _ => rfl
              | 1, hl, q1, _, _, _, _, _ =>
                have hz : z ≠ y := fun h => q1 (by rw [h, hl.2])
                show Sum.inr (k_Y, [_, _, _, Value.int (nI (s_n σ z)), Value.int (nI (s_nc σ z))]) = Sum.inr (k_Y, [_, _, _, Value.int (nI (s_n (yo_join σ y jf jo jt ji r) z)), Value.int (nI (s_nc (yo_join σ y jf jo jt ji r) z))])
                rw [hcn, hcc, if_neg hz]
              | 2, _, _, _, _, _, _, _ =>
                show Sum.inl (cc.2.1, 10, Sum.inr (Sum.inr (Sum.inr (Sum.inr (fun j => if j < s_n σ z then some (ad2 (5, z, j)) else none))))) = Sum.inl (cc.2.1, 10, Sum.inr (Sum.inr (Sum.inr (Sum.inr (fun j => if j < s_n (yo_join σ y jf jo jt ji r) z then some (ad2 (5, z, j)) else none)))))
                rw [hcn]
              | 3, hl, _, q3, _, _, _, _ =>
                have hz : z ≠ y := fun h => q3 (by rw [h, hl.2])
                show Sum.inl (cc.2.2, 16, Sum.inr (Sum.inr (Sum.inr (Sum.inr (fun j => if j < s_nc σ z then some (ad2 (9, z, j)) else none))))) = Sum.inl (cc.2.2, 16, Sum.inr (Sum.inr (Sum.inr (Sum.inr (fun j => if j < s_nc (yo_join σ y jf jo jt ji r) z then some (ad2 (9, z, j)) else none)))))
                rw [hcc, if_neg hz]
              | 4, _, _, _, _, _, _, _ => rfl
              | 5, _, _, _, _, _, _, _ => rfl
              | 6, _, _, _, q6, _, _, _ =>
                show Sum.inl (cc.2.2, 2, Sum.inr (Sum.inr (Sum.inr (Sum.inr (fun j => (s_ic σ z i j).map (fun c => ad2 (9, z, c))))))) = Sum.inl (cc.2.2, 2, Sum.inr (Sum.inr (Sum.inr (Sum.inr (fun j => (s_ic (yo_join σ y jf jo jt ji r) z i j).map (fun c => ad2 (9, z, c)))))))
                rw [hic, if_neg (fun h => q6 (by rw [h.1, h.2]))]
              | 7, _, _, _, _, q7, _, _ =>
                show Sum.inl (cc.2.2, 2, Sum.inr (Sum.inr (Sum.inr (Sum.inr (fun j => (s_oc σ z i j).map (fun c => ad2 (9, z, c))))))) = Sum.inl (cc.2.2, 2, Sum.inr (Sum.inr (Sum.inr (Sum.inr (fun j => (s_oc (yo_join σ y jf jo jt ji r) z i j).map (fun c => ad2 (9, z, c)))))))
                rw [hoc, if_neg (fun h => q7 (by rw [h.1, h.2]))]
              | 8, _, _, _, _, _, _, _ => rfl
              | 9, _, _, _, _, _, q9, _ =>
                show Sum.inr (k_C, [Value.int (nI (s_ch σ z i).1), _, Value.int (nI (s_ch σ z i).2.1), Value.int (nI (s_ch σ z i).2.2)]) = Sum.inr (k_C, [Value.int (nI (s_ch (yo_join σ y jf jo jt ji r) z i).1), _, Value.int (nI (s_ch (yo_join σ y jf jo jt ji r) z i).2.1), Value.int (nI (s_ch (yo_join σ y jf jo jt ji r) z i).2.2)])
                rw [hch, if_neg (fun h => q9 (by rw [h.1, h.2]))]
              | 10, _, _, _, _, _, _, q10 =>
                show Sum.inl (cc.1, 8, Sum.inl (s_rg σ z i)) = Sum.inl (cc.1, 8, Sum.inl (s_rg (yo_join σ y jf jo jt ji r) z i))
                rw [hrg, if_neg (fun h => q10 (by rw [h.1, h.2]))]
set_option maxHeartbeats 4000000 in
set_option maxRecDepth 100000 in
theorem c_Y_join_no (l : Launch) (D : va_G) (cc : ClassId × ClassId × ClassId) (ad : yl → Nat) (LL : List yl) (X : va_W) (b0 sz : Nat) (σ : ys) (hLL : ∀ q, q ∈ LL ↔ yL σ q) (y : Nat) (hy : y < 2) (hi : yI σ y) (f o t i r : Int32) (hnj : a_jok (s_T σ y) (s_nc σ y) f o t i r = none) : Met l y_Y_join w_Y_join ({ frames := 2, cells := 0, slots := 0, locals := 33 }) (yPr D cc b0 [.ref (ad (1, y, 0)), .int f, .int o, .int t, .int i, .int r] (yW cc ad LL X σ) sz) (yQi D (yW cc ad LL X σ) sz (-1) (yW cc ad LL X σ)) 0 0 (va_A (yW cc ad LL X σ) sz) := by
  have hL : ∀ q, yL σ q → q ∈ LL := fun q h => (hLL q).mpr h
  have g1 : (1, y, 0) ∈ LL := hL _ ⟨hy, rfl⟩
  have g2 : (2, y, 0) ∈ LL := hL _ ⟨hy, rfl⟩
  have g3 : (3, y, 0) ∈ LL := hL _ ⟨hy, rfl⟩
  have g4 : (4, y, 0) ∈ LL := hL _ ⟨hy, rfl⟩
  have hn10 := hi.1.1
  have hc16 := hi.2.1
  rcases ysplit f (n := s_n σ y) (by omega) with hno | ⟨jf, hjf, rfl⟩
  · rcases ysplit t (n := s_n σ y) (by omega) with hno2 | ⟨jt, hjt, rfl⟩
    · refine y_ofW (cc := b_Y_join) (maxL := 9) (ret := (some .int)) (by decide) rfl (Nat.le_of_ble_eq_true rfl) ?_
      intro pv ev sv mv bv tv cv ls hI hsz hw hl
      obtain ⟨hx, hb, hr, hml, hts, hown, hlocks, hnm, hK, hAb, hb0, hA⟩ := id hI
      have ht : ∀ w ∈ lg_tbl, w.before _ sv = true := fun w h => hts w (List.mem_cons_of_mem _ h)
      have hl : lv_has ls 9 [(0, .ref (ad (1, y, 0))), (1, .int f), (2, .int o), (3, .int t), (4, .int i), (5, .int r)] := hl
      refine lv_aload_n hx hb d_Y_join_0 rfl (lv_at hl 0 rfl) ?_
      refine lv_iload_n hx hb d_Y_join_1 rfl (lv_at hl 1 rfl) ?_
      refine yc_q (va_runV (As := [.int _]) (rest := []) ⟨hx, hb, hml, hown, hts⟩ (c_Y_findActor_no l D cc ad LL X b0 _ σ hL y hy hi f hno) (cwV 1 hts (yg_call mc_Y_findActor ml_Y_37 mm_Y_findActor ms_Y_findActor mi_Y) rfl rfl rfl (by decide +kernel) ⟨Nat.le_of_ble_eq_true rfl, Nat.le_of_ble_eq_true rfl⟩) (y_preV hI hw (y_recv hK.1 hw g1 (by rfl) rfl)) rfl rfl hl.1 rfl (lv_room (Nat.le_of_ble_eq_true rfl)) d_Y_join_2 ⟨Nat.le_of_ble_eq_true rfl, Nat.le_of_ble_eq_true rfl⟩) hw hA (fun r u H locs he hw => ?_)
      subst he
      rw [yrf_n]
      refine lv_astoreN (lv' := [(6, .null), (0, .ref _), (1, .int _), (2, .int _), (3, .int _), (4, .int _), (5, .int _)]) hx hb d_Y_join_5 hl (by decide) rfl (fun ls hl => ?_)
      refine lv_aload_n hx hb d_Y_join_7 rfl (lv_at hl 1 rfl) ?_
      refine lv_iload_n hx hb d_Y_join_8 rfl (lv_at hl 4 rfl) ?_
      refine yc_q (va_runV (As := [.int _]) (rest := []) ⟨hx, hb, hml, hown, hts⟩ (c_Y_findActor_no l D cc ad LL X b0 _ σ hL y hy hi t hno2) (cwV 1 hts (yg_call mc_Y_findActor ml_Y_37 mm_Y_findActor ms_Y_findActor mi_Y) rfl rfl rfl (by decide +kernel) ⟨Nat.le_of_ble_eq_true rfl, Nat.le_of_ble_eq_true rfl⟩) (y_preV hI hw (y_recv hK.1 hw g1 (by rfl) rfl)) rfl rfl hl.1 rfl (lv_room (Nat.le_of_ble_eq_true rfl)) d_Y_join_9 ⟨Nat.le_of_ble_eq_true rfl, Nat.le_of_ble_eq_true rfl⟩) hw hA (fun r u H locs he hw => ?_)
      subst he
      rw [yrf_n]
      refine lv_astoreN (lv' := [(7, .null), (6, .null), (0, .ref _), (1, .int _), (2, .int _), (3, .int _), (4, .int _), (5, .int _)]) hx hb d_Y_join_12 hl (by decide) rfl (fun ls hl => ?_)
      refine lv_aloadN hx hb d_Y_join_14 (lv_at hl 1 rfl) ?_
      refine lv_ifnullN (tgt := 33) hx hb d_Y_join_16 (by decide) ?_
      refine lv_iconst (v := (-1)) hx hb d_Y_join_33 (by decide) ?_
      exact ye_i hI () rfl hw d_Y_join_34
    · refine y_ofW (cc := b_Y_join) (maxL := 9) (ret := (some .int)) (by decide) rfl (Nat.le_of_ble_eq_true rfl) ?_
      intro pv ev sv mv bv tv cv ls hI hsz hw hl
      obtain ⟨hx, hb, hr, hml, hts, hown, hlocks, hnm, hK, hAb, hb0, hA⟩ := id hI
      have ht : ∀ w ∈ lg_tbl, w.before _ sv = true := fun w h => hts w (List.mem_cons_of_mem _ h)
      have hl : lv_has ls 9 [(0, .ref (ad (1, y, 0))), (1, .int f), (2, .int o), (3, .int (nI jt)), (4, .int i), (5, .int r)] := hl
      refine lv_aload_n hx hb d_Y_join_0 rfl (lv_at hl 0 rfl) ?_
      refine lv_iload_n hx hb d_Y_join_1 rfl (lv_at hl 1 rfl) ?_
      refine yc_q (va_runV (As := [.int _]) (rest := []) ⟨hx, hb, hml, hown, hts⟩ (c_Y_findActor_no l D cc ad LL X b0 _ σ hL y hy hi f hno) (cwV 1 hts (yg_call mc_Y_findActor ml_Y_37 mm_Y_findActor ms_Y_findActor mi_Y) rfl rfl rfl (by decide +kernel) ⟨Nat.le_of_ble_eq_true rfl, Nat.le_of_ble_eq_true rfl⟩) (y_preV hI hw (y_recv hK.1 hw g1 (by rfl) rfl)) rfl rfl hl.1 rfl (lv_room (Nat.le_of_ble_eq_true rfl)) d_Y_join_2 ⟨Nat.le_of_ble_eq_true rfl, Nat.le_of_ble_eq_true rfl⟩) hw hA (fun r u H locs he hw => ?_)
      subst he
      rw [yrf_n]
      refine lv_astoreN (lv' := [(6, .null), (0, .ref _), (1, .int _), (2, .int _), (3, .int _), (4, .int _), (5, .int _)]) hx hb d_Y_join_5 hl (by decide) rfl (fun ls hl => ?_)
      refine lv_aload_n hx hb d_Y_join_7 rfl (lv_at hl 1 rfl) ?_
      refine lv_iload_n hx hb d_Y_join_8 rfl (lv_at hl 4 rfl) ?_
      refine yc_q (va_runV (As := [.int _]) (rest := []) ⟨hx, hb, hml, hown, hts⟩ (c_Y_findActor l D cc ad LL X b0 _ σ hL y hy hi jt hjt) (cwV 1 hts (yg_call mc_Y_findActor ml_Y_37 mm_Y_findActor ms_Y_findActor mi_Y) rfl rfl rfl (by decide +kernel) ⟨Nat.le_of_ble_eq_true rfl, Nat.le_of_ble_eq_true rfl⟩) (y_preV hI hw (y_recv hK.1 hw g1 (by rfl) rfl)) rfl rfl hl.1 rfl (lv_room (Nat.le_of_ble_eq_true rfl)) d_Y_join_9 ⟨Nat.le_of_ble_eq_true rfl, Nat.le_of_ble_eq_true rfl⟩) hw hA (fun r u H locs he hw => ?_)
      subst he
      rw [yrf_s]
      refine lv_astore (lv' := [(7, .ref _), (6, .null), (0, .ref _), (1, .int _), (2, .int _), (3, .int _), (4, .int _), (5, .int _)]) hx hb d_Y_join_12 hl (by decide) rfl (fun ls hl => ?_)
      refine lv_aloadN hx hb d_Y_join_14 (lv_at hl 1 rfl) ?_
      refine lv_ifnullN (tgt := 33) hx hb d_Y_join_16 (by decide) ?_
      refine lv_iconst (v := (-1)) hx hb d_Y_join_33 (by decide) ?_
      exact ye_i hI () rfl hw d_Y_join_34
  · rcases ysplit t (n := s_n σ y) (by omega) with hno | ⟨jt, hjt, rfl⟩
    · refine y_ofW (cc := b_Y_join) (maxL := 9) (ret := (some .int)) (by decide) rfl (Nat.le_of_ble_eq_true rfl) ?_
      intro pv ev sv mv bv tv cv ls hI hsz hw hl
      obtain ⟨hx, hb, hr, hml, hts, hown, hlocks, hnm, hK, hAb, hb0, hA⟩ := id hI
      have ht : ∀ w ∈ lg_tbl, w.before _ sv = true := fun w h => hts w (List.mem_cons_of_mem _ h)
      have hl : lv_has ls 9 [(0, .ref (ad (1, y, 0))), (1, .int (nI jf)), (2, .int o), (3, .int t), (4, .int i), (5, .int r)] := hl
      refine lv_aload_n hx hb d_Y_join_0 rfl (lv_at hl 0 rfl) ?_
      refine lv_iload_n hx hb d_Y_join_1 rfl (lv_at hl 1 rfl) ?_
      refine yc_q (va_runV (As := [.int _]) (rest := []) ⟨hx, hb, hml, hown, hts⟩ (c_Y_findActor l D cc ad LL X b0 _ σ hL y hy hi jf hjf) (cwV 1 hts (yg_call mc_Y_findActor ml_Y_37 mm_Y_findActor ms_Y_findActor mi_Y) rfl rfl rfl (by decide +kernel) ⟨Nat.le_of_ble_eq_true rfl, Nat.le_of_ble_eq_true rfl⟩) (y_preV hI hw (y_recv hK.1 hw g1 (by rfl) rfl)) rfl rfl hl.1 rfl (lv_room (Nat.le_of_ble_eq_true rfl)) d_Y_join_2 ⟨Nat.le_of_ble_eq_true rfl, Nat.le_of_ble_eq_true rfl⟩) hw hA (fun r u H locs he hw => ?_)
      subst he
      rw [yrf_s]
      refine lv_astore (lv' := [(6, .ref _), (0, .ref _), (1, .int _), (2, .int _), (3, .int _), (4, .int _), (5, .int _)]) hx hb d_Y_join_5 hl (by decide) rfl (fun ls hl => ?_)
      refine lv_aload_n hx hb d_Y_join_7 rfl (lv_at hl 1 rfl) ?_
      refine lv_iload_n hx hb d_Y_join_8 rfl (lv_at hl 4 rfl) ?_
      refine yc_q (va_runV (As := [.int _]) (rest := []) ⟨hx, hb, hml, hown, hts⟩ (c_Y_findActor_no l D cc ad LL X b0 _ σ hL y hy hi t hno) (cwV 1 hts (yg_call mc_Y_findActor ml_Y_37 mm_Y_findActor ms_Y_findActor mi_Y) rfl rfl rfl (by decide +kernel) ⟨Nat.le_of_ble_eq_true rfl, Nat.le_of_ble_eq_true rfl⟩) (y_preV hI hw (y_recv hK.1 hw g1 (by rfl) rfl)) rfl rfl hl.1 rfl (lv_room (Nat.le_of_ble_eq_true rfl)) d_Y_join_9 ⟨Nat.le_of_ble_eq_true rfl, Nat.le_of_ble_eq_true rfl⟩) hw hA (fun r u H locs he hw => ?_)
      subst he
      rw [yrf_n]
      refine lv_astoreN (lv' := [(7, .null), (6, .ref _), (0, .ref _), (1, .int _), (2, .int _), (3, .int _), (4, .int _), (5, .int _)]) hx hb d_Y_join_12 hl (by decide) rfl (fun ls hl => ?_)
      refine lv_aload hx hb d_Y_join_14 (lv_at hl 1 rfl) ?_
      refine lv_ifnull hx hb d_Y_join_16 ?_
      refine lv_aloadN hx hb d_Y_join_19 (lv_at hl 0 rfl) ?_
      refine lv_ifnullN (tgt := 33) hx hb d_Y_join_21 (by decide) ?_
      refine lv_iconst (v := (-1)) hx hb d_Y_join_33 (by decide) ?_
      exact ye_i hI () rfl hw d_Y_join_34
    · have hf5 : (5, y, jf) ∈ LL := hL _ ⟨hy, hjf⟩
      have ht5 : (5, y, jt) ∈ LL := hL _ ⟨hy, hjt⟩
      have hno2 := yt_outs_le (s_ac σ y jf).1
      have hni2 := yt_ins_le (s_ac σ y jt).1
      by_cases hc : s_nc σ y < 16
      · by_cases hrm : r < nI 1 ∨ nI 8 < r
        · refine y_ofW (cc := b_Y_join) (maxL := 9) (ret := (some .int)) (by decide) rfl (Nat.le_of_ble_eq_true rfl) ?_
          intro pv ev sv mv bv tv cv ls hI hsz hw hl
          obtain ⟨hx, hb, hr, hml, hts, hown, hlocks, hnm, hK, hAb, hb0, hA⟩ := id hI
          have ht : ∀ w ∈ lg_tbl, w.before _ sv = true := fun w h => hts w (List.mem_cons_of_mem _ h)
          have hl : lv_has ls 9 [(0, .ref (ad (1, y, 0))), (1, .int (nI jf)), (2, .int o), (3, .int (nI jt)), (4, .int i), (5, .int r)] := hl
          refine lv_aload_n hx hb d_Y_join_0 rfl (lv_at hl 0 rfl) ?_
          refine lv_iload_n hx hb d_Y_join_1 rfl (lv_at hl 1 rfl) ?_
          refine yc_q (va_runV (As := [.int _]) (rest := []) ⟨hx, hb, hml, hown, hts⟩ (c_Y_findActor l D cc ad LL X b0 _ σ hL y hy hi jf hjf) (cwV 1 hts (yg_call mc_Y_findActor ml_Y_37 mm_Y_findActor ms_Y_findActor mi_Y) rfl rfl rfl (by decide +kernel) ⟨Nat.le_of_ble_eq_true rfl, Nat.le_of_ble_eq_true rfl⟩) (y_preV hI hw (y_recv hK.1 hw g1 (by rfl) rfl)) rfl rfl hl.1 rfl (lv_room (Nat.le_of_ble_eq_true rfl)) d_Y_join_2 ⟨Nat.le_of_ble_eq_true rfl, Nat.le_of_ble_eq_true rfl⟩) hw hA (fun r u H locs he hw => ?_)
          subst he
          rw [yrf_s]
          refine lv_astore (lv' := [(6, .ref _), (0, .ref _), (1, .int _), (2, .int _), (3, .int _), (4, .int _), (5, .int _)]) hx hb d_Y_join_5 hl (by decide) rfl (fun ls hl => ?_)
          refine lv_aload_n hx hb d_Y_join_7 rfl (lv_at hl 1 rfl) ?_
          refine lv_iload_n hx hb d_Y_join_8 rfl (lv_at hl 4 rfl) ?_
          refine yc_q (va_runV (As := [.int _]) (rest := []) ⟨hx, hb, hml, hown, hts⟩ (c_Y_findActor l D cc ad LL X b0 _ σ hL y hy hi jt hjt) (cwV 1 hts (yg_call mc_Y_findActor ml_Y_37 mm_Y_findActor ms_Y_findActor mi_Y) rfl rfl rfl (by decide +kernel) ⟨Nat.le_of_ble_eq_true rfl, Nat.le_of_ble_eq_true rfl⟩) (y_preV hI hw (y_recv hK.1 hw g1 (by rfl) rfl)) rfl rfl hl.1 rfl (lv_room (Nat.le_of_ble_eq_true rfl)) d_Y_join_9 ⟨Nat.le_of_ble_eq_true rfl, Nat.le_of_ble_eq_true rfl⟩) hw hA (fun r u H locs he hw => ?_)
          subst he
          rw [yrf_s]
          refine lv_astore (lv' := [(7, .ref _), (6, .ref _), (0, .ref _), (1, .int _), (2, .int _), (3, .int _), (4, .int _), (5, .int _)]) hx hb d_Y_join_12 hl (by decide) rfl (fun ls hl => ?_)
          refine lv_aload hx hb d_Y_join_14 (lv_at hl 1 rfl) ?_
          refine lv_ifnull hx hb d_Y_join_16 ?_
          refine lv_aload hx hb d_Y_join_19 (lv_at hl 0 rfl) ?_
          refine lv_ifnull hx hb d_Y_join_21 ?_
          refine lv_aload_n hx hb d_Y_join_24 rfl (lv_at hl 2 rfl) ?_
          refine yr_get (C := R_Y) (T := F_Y) (N := 5) (ci := k_Y) hx hb ht j_Y hown hK.1 hw (by assumption) (by rfl) rfl 4 (by decide) (ht _ mf_Y_31) (fun _ h9 => h9) (by rfl) d_Y_join_25 ?_
          refine lv_bipush (v := (nI 16)) hx hb d_Y_join_28 (by decide) ?_
          refine lv_icmp_lt (tgt := 35) hx hb d_Y_join_30 (by decide) (fun c_30 => ?_) (fun c_30 => by exact absurd (nI_lt hc (by omega)) c_30)
          refine lv_iload hx hb d_Y_join_35 (lv_at hl 7 rfl) ?_
          refine lv_iconst (v := (nI 1)) hx hb d_Y_join_37 (by decide) ?_
          refine lv_icmp_lt (tgt := 67) hx hb d_Y_join_38 (by decide) (fun c_38 => ?_) (fun c_38 => ?_)
          · refine lv_iconst (v := (-1)) hx hb d_Y_join_67 (by decide) ?_
            exact ye_i hI () rfl hw d_Y_join_68
          · refine lv_iload hx hb d_Y_join_41 (lv_at hl 7 rfl) ?_
            refine lv_bipush (v := (nI 8)) hx hb d_Y_join_43 (by decide) ?_
            refine lv_icmp_gt (tgt := 67) hx hb d_Y_join_45 (by decide) (fun c_45 => ?_) (fun c_45 => by exact (hrm.elim (fun q => absurd q c_38) (fun q => absurd q c_45)))
            refine lv_iconst (v := (-1)) hx hb d_Y_join_67 (by decide) ?_
            exact ye_i hI () rfl hw d_Y_join_68
        · rcases ysplit o (n := yt_outs (s_ac σ y jf).1) (by omega) with hno | ⟨jo, hjo, rfl⟩
          · refine y_ofW (cc := b_Y_join) (maxL := 9) (ret := (some .int)) (by decide) rfl (Nat.le_of_ble_eq_true rfl) ?_
            intro pv ev sv mv bv tv cv ls hI hsz hw hl
            obtain ⟨hx, hb, hr, hml, hts, hown, hlocks, hnm, hK, hAb, hb0, hA⟩ := id hI
            have ht : ∀ w ∈ lg_tbl, w.before _ sv = true := fun w h => hts w (List.mem_cons_of_mem _ h)
            have hl : lv_has ls 9 [(0, .ref (ad (1, y, 0))), (1, .int (nI jf)), (2, .int o), (3, .int (nI jt)), (4, .int i), (5, .int r)] := hl
            refine lv_aload_n hx hb d_Y_join_0 rfl (lv_at hl 0 rfl) ?_
            refine lv_iload_n hx hb d_Y_join_1 rfl (lv_at hl 1 rfl) ?_
            refine yc_q (va_runV (As := [.int _]) (rest := []) ⟨hx, hb, hml, hown, hts⟩ (c_Y_findActor l D cc ad LL X b0 _ σ hL y hy hi jf hjf) (cwV 1 hts (yg_call mc_Y_findActor ml_Y_37 mm_Y_findActor ms_Y_findActor mi_Y) rfl rfl rfl (by decide +kernel) ⟨Nat.le_of_ble_eq_true rfl, Nat.le_of_ble_eq_true rfl⟩) (y_preV hI hw (y_recv hK.1 hw g1 (by rfl) rfl)) rfl rfl hl.1 rfl (lv_room (Nat.le_of_ble_eq_true rfl)) d_Y_join_2 ⟨Nat.le_of_ble_eq_true rfl, Nat.le_of_ble_eq_true rfl⟩) hw hA (fun r u H locs he hw => ?_)
            subst he
            rw [yrf_s]
            refine lv_astore (lv' := [(6, .ref _), (0, .ref _), (1, .int _), (2, .int _), (3, .int _), (4, .int _), (5, .int _)]) hx hb d_Y_join_5 hl (by decide) rfl (fun ls hl => ?_)
            refine lv_aload_n hx hb d_Y_join_7 rfl (lv_at hl 1 rfl) ?_
            refine lv_iload_n hx hb d_Y_join_8 rfl (lv_at hl 4 rfl) ?_
            refine yc_q (va_runV (As := [.int _]) (rest := []) ⟨hx, hb, hml, hown, hts⟩ (c_Y_findActor l D cc ad LL X b0 _ σ hL y hy hi jt hjt) (cwV 1 hts (yg_call mc_Y_findActor ml_Y_37 mm_Y_findActor ms_Y_findActor mi_Y) rfl rfl rfl (by decide +kernel) ⟨Nat.le_of_ble_eq_true rfl, Nat.le_of_ble_eq_true rfl⟩) (y_preV hI hw (y_recv hK.1 hw g1 (by rfl) rfl)) rfl rfl hl.1 rfl (lv_room (Nat.le_of_ble_eq_true rfl)) d_Y_join_9 ⟨Nat.le_of_ble_eq_true rfl, Nat.le_of_ble_eq_true rfl⟩) hw hA (fun r u H locs he hw => ?_)
            subst he
            rw [yrf_s]
            refine lv_astore (lv' := [(7, .ref _), (6, .ref _), (0, .ref _), (1, .int _), (2, .int _), (3, .int _), (4, .int _), (5, .int _)]) hx hb d_Y_join_12 hl (by decide) rfl (fun ls hl => ?_)
            refine lv_aload hx hb d_Y_join_14 (lv_at hl 1 rfl) ?_
            refine lv_ifnull hx hb d_Y_join_16 ?_
            refine lv_aload hx hb d_Y_join_19 (lv_at hl 0 rfl) ?_
            refine lv_ifnull hx hb d_Y_join_21 ?_
            refine lv_aload_n hx hb d_Y_join_24 rfl (lv_at hl 2 rfl) ?_
            refine yr_get (C := R_Y) (T := F_Y) (N := 5) (ci := k_Y) hx hb ht j_Y hown hK.1 hw (by assumption) (by rfl) rfl 4 (by decide) (ht _ mf_Y_31) (fun _ h9 => h9) (by rfl) d_Y_join_25 ?_
            refine lv_bipush (v := (nI 16)) hx hb d_Y_join_28 (by decide) ?_
            refine lv_icmp_lt (tgt := 35) hx hb d_Y_join_30 (by decide) (fun c_30 => ?_) (fun c_30 => by exact absurd (nI_lt hc (by omega)) c_30)
            refine lv_iload hx hb d_Y_join_35 (lv_at hl 7 rfl) ?_
            refine lv_iconst (v := (nI 1)) hx hb d_Y_join_37 (by decide) ?_
            refine lv_icmp_lt (tgt := 67) hx hb d_Y_join_38 (by decide) (fun c_38 => by exact absurd (Or.inl c_38) hrm) (fun c_38 => ?_)
            refine lv_iload hx hb d_Y_join_41 (lv_at hl 7 rfl) ?_
            refine lv_bipush (v := (nI 8)) hx hb d_Y_join_43 (by decide) ?_
            refine lv_icmp_gt (tgt := 67) hx hb d_Y_join_45 (by decide) (fun c_45 => by exact absurd (Or.inr c_45) hrm) (fun c_45 => ?_)
            refine lv_aload hx hb d_Y_join_48 (lv_at hl 1 rfl) ?_
            refine lv_iload_n hx hb d_Y_join_50 rfl (lv_at hl 4 rfl) ?_
            refine yc_i (va_runV (As := [.int _]) (rest := []) ⟨hx, hb, hml, hown, hts⟩ (c_A_hasFreeOut_no l D cc ad LL X b0 _ σ hL y jf hy hjf hi o hno) (cwV 1 hts (yg_call mc_A_hasFreeOut ml_Y_41 mm_A_hasFreeOut ms_A_hasFreeOut mi_A) rfl rfl rfl (by decide +kernel) ⟨Nat.le_of_ble_eq_true rfl, Nat.le_of_ble_eq_true rfl⟩) (y_preV hI hw (y_recv hK.1 hw hf5 (by rfl) rfl)) rfl rfl hl.1 rfl (lv_room (Nat.le_of_ble_eq_true rfl)) d_Y_join_51 ⟨Nat.le_of_ble_eq_true rfl, Nat.le_of_ble_eq_true rfl⟩) hw hA (fun r u H locs he hw => ?_)
            subst he
            refine lv_if_eq (tgt := 67) hx hb d_Y_join_54 (by decide) (fun c_54 => ?_) (fun c_54 => by exact absurd rfl c_54)
            refine lv_iconst (v := (-1)) hx hb d_Y_join_67 (by decide) ?_
            exact ye_i hI () rfl hw d_Y_join_68
          · cases eo : s_oc σ y jf jo with
            | some c0 =>
              refine y_ofW (cc := b_Y_join) (maxL := 9) (ret := (some .int)) (by decide) rfl (Nat.le_of_ble_eq_true rfl) ?_
              intro pv ev sv mv bv tv cv ls hI hsz hw hl
              obtain ⟨hx, hb, hr, hml, hts, hown, hlocks, hnm, hK, hAb, hb0, hA⟩ := id hI
              have ht : ∀ w ∈ lg_tbl, w.before _ sv = true := fun w h => hts w (List.mem_cons_of_mem _ h)
              have hl : lv_has ls 9 [(0, .ref (ad (1, y, 0))), (1, .int (nI jf)), (2, .int (nI jo)), (3, .int (nI jt)), (4, .int i), (5, .int r)] := hl
              refine lv_aload_n hx hb d_Y_join_0 rfl (lv_at hl 0 rfl) ?_
              refine lv_iload_n hx hb d_Y_join_1 rfl (lv_at hl 1 rfl) ?_
              refine yc_q (va_runV (As := [.int _]) (rest := []) ⟨hx, hb, hml, hown, hts⟩ (c_Y_findActor l D cc ad LL X b0 _ σ hL y hy hi jf hjf) (cwV 1 hts (yg_call mc_Y_findActor ml_Y_37 mm_Y_findActor ms_Y_findActor mi_Y) rfl rfl rfl (by decide +kernel) ⟨Nat.le_of_ble_eq_true rfl, Nat.le_of_ble_eq_true rfl⟩) (y_preV hI hw (y_recv hK.1 hw g1 (by rfl) rfl)) rfl rfl hl.1 rfl (lv_room (Nat.le_of_ble_eq_true rfl)) d_Y_join_2 ⟨Nat.le_of_ble_eq_true rfl, Nat.le_of_ble_eq_true rfl⟩) hw hA (fun r u H locs he hw => ?_)
              subst he
              rw [yrf_s]
              refine lv_astore (lv' := [(6, .ref _), (0, .ref _), (1, .int _), (2, .int _), (3, .int _), (4, .int _), (5, .int _)]) hx hb d_Y_join_5 hl (by decide) rfl (fun ls hl => ?_)
              refine lv_aload_n hx hb d_Y_join_7 rfl (lv_at hl 1 rfl) ?_
              refine lv_iload_n hx hb d_Y_join_8 rfl (lv_at hl 4 rfl) ?_
              refine yc_q (va_runV (As := [.int _]) (rest := []) ⟨hx, hb, hml, hown, hts⟩ (c_Y_findActor l D cc ad LL X b0 _ σ hL y hy hi jt hjt) (cwV 1 hts (yg_call mc_Y_findActor ml_Y_37 mm_Y_findActor ms_Y_findActor mi_Y) rfl rfl rfl (by decide +kernel) ⟨Nat.le_of_ble_eq_true rfl, Nat.le_of_ble_eq_true rfl⟩) (y_preV hI hw (y_recv hK.1 hw g1 (by rfl) rfl)) rfl rfl hl.1 rfl (lv_room (Nat.le_of_ble_eq_true rfl)) d_Y_join_9 ⟨Nat.le_of_ble_eq_true rfl, Nat.le_of_ble_eq_true rfl⟩) hw hA (fun r u H locs he hw => ?_)
              subst he
              rw [yrf_s]
              refine lv_astore (lv' := [(7, .ref _), (6, .ref _), (0, .ref _), (1, .int _), (2, .int _), (3, .int _), (4, .int _), (5, .int _)]) hx hb d_Y_join_12 hl (by decide) rfl (fun ls hl => ?_)
              refine lv_aload hx hb d_Y_join_14 (lv_at hl 1 rfl) ?_
              refine lv_ifnull hx hb d_Y_join_16 ?_
              refine lv_aload hx hb d_Y_join_19 (lv_at hl 0 rfl) ?_
              refine lv_ifnull hx hb d_Y_join_21 ?_
              refine lv_aload_n hx hb d_Y_join_24 rfl (lv_at hl 2 rfl) ?_
              refine yr_get (C := R_Y) (T := F_Y) (N := 5) (ci := k_Y) hx hb ht j_Y hown hK.1 hw (by assumption) (by rfl) rfl 4 (by decide) (ht _ mf_Y_31) (fun _ h9 => h9) (by rfl) d_Y_join_25 ?_
              refine lv_bipush (v := (nI 16)) hx hb d_Y_join_28 (by decide) ?_
              refine lv_icmp_lt (tgt := 35) hx hb d_Y_join_30 (by decide) (fun c_30 => ?_) (fun c_30 => by exact absurd (nI_lt hc (by omega)) c_30)
              refine lv_iload hx hb d_Y_join_35 (lv_at hl 7 rfl) ?_
              refine lv_iconst (v := (nI 1)) hx hb d_Y_join_37 (by decide) ?_
              refine lv_icmp_lt (tgt := 67) hx hb d_Y_join_38 (by decide) (fun c_38 => by exact absurd (Or.inl c_38) hrm) (fun c_38 => ?_)
              refine lv_iload hx hb d_Y_join_41 (lv_at hl 7 rfl) ?_
              refine lv_bipush (v := (nI 8)) hx hb d_Y_join_43 (by decide) ?_
              refine lv_icmp_gt (tgt := 67) hx hb d_Y_join_45 (by decide) (fun c_45 => by exact absurd (Or.inr c_45) hrm) (fun c_45 => ?_)
              refine lv_aload hx hb d_Y_join_48 (lv_at hl 1 rfl) ?_
              refine lv_iload_n hx hb d_Y_join_50 rfl (lv_at hl 4 rfl) ?_
              refine yc_i (va_runV (As := [.int _]) (rest := []) ⟨hx, hb, hml, hown, hts⟩ (c_A_hasFreeOut l D cc ad LL X b0 _ σ hL y jf hy hjf hi jo hjo) (cwV 1 hts (yg_call mc_A_hasFreeOut ml_Y_41 mm_A_hasFreeOut ms_A_hasFreeOut mi_A) rfl rfl rfl (by decide +kernel) ⟨Nat.le_of_ble_eq_true rfl, Nat.le_of_ble_eq_true rfl⟩) (y_preV hI hw (y_recv hK.1 hw hf5 (by rfl) rfl)) rfl rfl hl.1 rfl (lv_room (Nat.le_of_ble_eq_true rfl)) d_Y_join_51 ⟨Nat.le_of_ble_eq_true rfl, Nat.le_of_ble_eq_true rfl⟩) hw hA (fun r u H locs he hw => ?_)
              subst he
              refine lv_if_eq (tgt := 67) hx hb d_Y_join_54 (by decide) (fun c_54 => ?_) (fun c_54 => by rw [eo] at c_54; exact absurd rfl c_54)
              refine lv_iconst (v := (-1)) hx hb d_Y_join_67 (by decide) ?_
              exact ye_i hI () rfl hw d_Y_join_68
            | none =>
              rcases ysplit i (n := yt_ins (s_ac σ y jt).1) (by omega) with hno | ⟨ji, hji, rfl⟩
              · refine y_ofW (cc := b_Y_join) (maxL := 9) (ret := (some .int)) (by decide) rfl (Nat.le_of_ble_eq_true rfl) ?_
                intro pv ev sv mv bv tv cv ls hI hsz hw hl
                obtain ⟨hx, hb, hr, hml, hts, hown, hlocks, hnm, hK, hAb, hb0, hA⟩ := id hI
                have ht : ∀ w ∈ lg_tbl, w.before _ sv = true := fun w h => hts w (List.mem_cons_of_mem _ h)
                have hl : lv_has ls 9 [(0, .ref (ad (1, y, 0))), (1, .int (nI jf)), (2, .int (nI jo)), (3, .int (nI jt)), (4, .int i), (5, .int r)] := hl
                refine lv_aload_n hx hb d_Y_join_0 rfl (lv_at hl 0 rfl) ?_
                refine lv_iload_n hx hb d_Y_join_1 rfl (lv_at hl 1 rfl) ?_
                refine yc_q (va_runV (As := [.int _]) (rest := []) ⟨hx, hb, hml, hown, hts⟩ (c_Y_findActor l D cc ad LL X b0 _ σ hL y hy hi jf hjf) (cwV 1 hts (yg_call mc_Y_findActor ml_Y_37 mm_Y_findActor ms_Y_findActor mi_Y) rfl rfl rfl (by decide +kernel) ⟨Nat.le_of_ble_eq_true rfl, Nat.le_of_ble_eq_true rfl⟩) (y_preV hI hw (y_recv hK.1 hw g1 (by rfl) rfl)) rfl rfl hl.1 rfl (lv_room (Nat.le_of_ble_eq_true rfl)) d_Y_join_2 ⟨Nat.le_of_ble_eq_true rfl, Nat.le_of_ble_eq_true rfl⟩) hw hA (fun r u H locs he hw => ?_)
                subst he
                rw [yrf_s]
                refine lv_astore (lv' := [(6, .ref _), (0, .ref _), (1, .int _), (2, .int _), (3, .int _), (4, .int _), (5, .int _)]) hx hb d_Y_join_5 hl (by decide) rfl (fun ls hl => ?_)
                refine lv_aload_n hx hb d_Y_join_7 rfl (lv_at hl 1 rfl) ?_
                refine lv_iload_n hx hb d_Y_join_8 rfl (lv_at hl 4 rfl) ?_
                refine yc_q (va_runV (As := [.int _]) (rest := []) ⟨hx, hb, hml, hown, hts⟩ (c_Y_findActor l D cc ad LL X b0 _ σ hL y hy hi jt hjt) (cwV 1 hts (yg_call mc_Y_findActor ml_Y_37 mm_Y_findActor ms_Y_findActor mi_Y) rfl rfl rfl (by decide +kernel) ⟨Nat.le_of_ble_eq_true rfl, Nat.le_of_ble_eq_true rfl⟩) (y_preV hI hw (y_recv hK.1 hw g1 (by rfl) rfl)) rfl rfl hl.1 rfl (lv_room (Nat.le_of_ble_eq_true rfl)) d_Y_join_9 ⟨Nat.le_of_ble_eq_true rfl, Nat.le_of_ble_eq_true rfl⟩) hw hA (fun r u H locs he hw => ?_)
                subst he
                rw [yrf_s]
                refine lv_astore (lv' := [(7, .ref _), (6, .ref _), (0, .ref _), (1, .int _), (2, .int _), (3, .int _), (4, .int _), (5, .int _)]) hx hb d_Y_join_12 hl (by decide) rfl (fun ls hl => ?_)
                refine lv_aload hx hb d_Y_join_14 (lv_at hl 1 rfl) ?_
                refine lv_ifnull hx hb d_Y_join_16 ?_
                refine lv_aload hx hb d_Y_join_19 (lv_at hl 0 rfl) ?_
                refine lv_ifnull hx hb d_Y_join_21 ?_
                refine lv_aload_n hx hb d_Y_join_24 rfl (lv_at hl 2 rfl) ?_
                refine yr_get (C := R_Y) (T := F_Y) (N := 5) (ci := k_Y) hx hb ht j_Y hown hK.1 hw (by assumption) (by rfl) rfl 4 (by decide) (ht _ mf_Y_31) (fun _ h9 => h9) (by rfl) d_Y_join_25 ?_
                refine lv_bipush (v := (nI 16)) hx hb d_Y_join_28 (by decide) ?_
                refine lv_icmp_lt (tgt := 35) hx hb d_Y_join_30 (by decide) (fun c_30 => ?_) (fun c_30 => by exact absurd (nI_lt hc (by omega)) c_30)
                refine lv_iload hx hb d_Y_join_35 (lv_at hl 7 rfl) ?_
                refine lv_iconst (v := (nI 1)) hx hb d_Y_join_37 (by decide) ?_
                refine lv_icmp_lt (tgt := 67) hx hb d_Y_join_38 (by decide) (fun c_38 => by exact absurd (Or.inl c_38) hrm) (fun c_38 => ?_)
                refine lv_iload hx hb d_Y_join_41 (lv_at hl 7 rfl) ?_
                refine lv_bipush (v := (nI 8)) hx hb d_Y_join_43 (by decide) ?_
                refine lv_icmp_gt (tgt := 67) hx hb d_Y_join_45 (by decide) (fun c_45 => by exact absurd (Or.inr c_45) hrm) (fun c_45 => ?_)
                refine lv_aload hx hb d_Y_join_48 (lv_at hl 1 rfl) ?_
                refine lv_iload_n hx hb d_Y_join_50 rfl (lv_at hl 4 rfl) ?_
                refine yc_i (va_runV (As := [.int _]) (rest := []) ⟨hx, hb, hml, hown, hts⟩ (c_A_hasFreeOut l D cc ad LL X b0 _ σ hL y jf hy hjf hi jo hjo) (cwV 1 hts (yg_call mc_A_hasFreeOut ml_Y_41 mm_A_hasFreeOut ms_A_hasFreeOut mi_A) rfl rfl rfl (by decide +kernel) ⟨Nat.le_of_ble_eq_true rfl, Nat.le_of_ble_eq_true rfl⟩) (y_preV hI hw (y_recv hK.1 hw hf5 (by rfl) rfl)) rfl rfl hl.1 rfl (lv_room (Nat.le_of_ble_eq_true rfl)) d_Y_join_51 ⟨Nat.le_of_ble_eq_true rfl, Nat.le_of_ble_eq_true rfl⟩) hw hA (fun r u H locs he hw => ?_)
                subst he
                refine lv_if_eq (tgt := 67) hx hb d_Y_join_54 (by decide) (fun c_54 => by rw [eo] at c_54; exact absurd c_54 (by decide)) (fun c_54 => ?_)
                refine lv_aload hx hb d_Y_join_57 (lv_at hl 0 rfl) ?_
                refine lv_iload hx hb d_Y_join_59 (lv_at hl 6 rfl) ?_
                refine yc_i (va_runV (As := [.int _]) (rest := []) ⟨hx, hb, hml, hown, hts⟩ (c_A_hasFreeIn_no l D cc ad LL X b0 _ σ hL y jt hy hjt hi i hno) (cwV 1 hts (yg_call mc_A_hasFreeIn ml_Y_45 mm_A_hasFreeIn ms_A_hasFreeIn mi_A) rfl rfl rfl (by decide +kernel) ⟨Nat.le_of_ble_eq_true rfl, Nat.le_of_ble_eq_true rfl⟩) (y_preV hI hw (y_recv hK.1 hw ht5 (by rfl) rfl)) rfl rfl hl.1 rfl (lv_room (Nat.le_of_ble_eq_true rfl)) d_Y_join_61 ⟨Nat.le_of_ble_eq_true rfl, Nat.le_of_ble_eq_true rfl⟩) hw hA (fun r u H locs he hw => ?_)
                subst he
                refine lv_if_ne (tgt := 69) hx hb d_Y_join_64 (by decide) (fun c_64 => by exact absurd rfl c_64) (fun c_64 => ?_)
                refine lv_iconst (v := (-1)) hx hb d_Y_join_67 (by decide) ?_
                exact ye_i hI () rfl hw d_Y_join_68
              · cases ei : s_ic σ y jt ji with
                | some c0 =>
                  refine y_ofW (cc := b_Y_join) (maxL := 9) (ret := (some .int)) (by decide) rfl (Nat.le_of_ble_eq_true rfl) ?_
                  intro pv ev sv mv bv tv cv ls hI hsz hw hl
                  obtain ⟨hx, hb, hr, hml, hts, hown, hlocks, hnm, hK, hAb, hb0, hA⟩ := id hI
                  have ht : ∀ w ∈ lg_tbl, w.before _ sv = true := fun w h => hts w (List.mem_cons_of_mem _ h)
                  have hl : lv_has ls 9 [(0, .ref (ad (1, y, 0))), (1, .int (nI jf)), (2, .int (nI jo)), (3, .int (nI jt)), (4, .int (nI ji)), (5, .int r)] := hl
                  refine lv_aload_n hx hb d_Y_join_0 rfl (lv_at hl 0 rfl) ?_
                  refine lv_iload_n hx hb d_Y_join_1 rfl (lv_at hl 1 rfl) ?_
                  refine yc_q (va_runV (As := [.int _]) (rest := []) ⟨hx, hb, hml, hown, hts⟩ (c_Y_findActor l D cc ad LL X b0 _ σ hL y hy hi jf hjf) (cwV 1 hts (yg_call mc_Y_findActor ml_Y_37 mm_Y_findActor ms_Y_findActor mi_Y) rfl rfl rfl (by decide +kernel) ⟨Nat.le_of_ble_eq_true rfl, Nat.le_of_ble_eq_true rfl⟩) (y_preV hI hw (y_recv hK.1 hw g1 (by rfl) rfl)) rfl rfl hl.1 rfl (lv_room (Nat.le_of_ble_eq_true rfl)) d_Y_join_2 ⟨Nat.le_of_ble_eq_true rfl, Nat.le_of_ble_eq_true rfl⟩) hw hA (fun r u H locs he hw => ?_)
                  subst he
                  rw [yrf_s]
                  refine lv_astore (lv' := [(6, .ref _), (0, .ref _), (1, .int _), (2, .int _), (3, .int _), (4, .int _), (5, .int _)]) hx hb d_Y_join_5 hl (by decide) rfl (fun ls hl => ?_)
                  refine lv_aload_n hx hb d_Y_join_7 rfl (lv_at hl 1 rfl) ?_
                  refine lv_iload_n hx hb d_Y_join_8 rfl (lv_at hl 4 rfl) ?_
                  refine yc_q (va_runV (As := [.int _]) (rest := []) ⟨hx, hb, hml, hown, hts⟩ (c_Y_findActor l D cc ad LL X b0 _ σ hL y hy hi jt hjt) (cwV 1 hts (yg_call mc_Y_findActor ml_Y_37 mm_Y_findActor ms_Y_findActor mi_Y) rfl rfl rfl (by decide +kernel) ⟨Nat.le_of_ble_eq_true rfl, Nat.le_of_ble_eq_true rfl⟩) (y_preV hI hw (y_recv hK.1 hw g1 (by rfl) rfl)) rfl rfl hl.1 rfl (lv_room (Nat.le_of_ble_eq_true rfl)) d_Y_join_9 ⟨Nat.le_of_ble_eq_true rfl, Nat.le_of_ble_eq_true rfl⟩) hw hA (fun r u H locs he hw => ?_)
                  subst he
                  rw [yrf_s]
                  refine lv_astore (lv' := [(7, .ref _), (6, .ref _), (0, .ref _), (1, .int _), (2, .int _), (3, .int _), (4, .int _), (5, .int _)]) hx hb d_Y_join_12 hl (by decide) rfl (fun ls hl => ?_)
                  refine lv_aload hx hb d_Y_join_14 (lv_at hl 1 rfl) ?_
                  refine lv_ifnull hx hb d_Y_join_16 ?_
                  refine lv_aload hx hb d_Y_join_19 (lv_at hl 0 rfl) ?_
                  refine lv_ifnull hx hb d_Y_join_21 ?_
                  refine lv_aload_n hx hb d_Y_join_24 rfl (lv_at hl 2 rfl) ?_
                  refine yr_get (C := R_Y) (T := F_Y) (N := 5) (ci := k_Y) hx hb ht j_Y hown hK.1 hw (by assumption) (by rfl) rfl 4 (by decide) (ht _ mf_Y_31) (fun _ h9 => h9) (by rfl) d_Y_join_25 ?_
                  refine lv_bipush (v := (nI 16)) hx hb d_Y_join_28 (by decide) ?_
                  refine lv_icmp_lt (tgt := 35) hx hb d_Y_join_30 (by decide) (fun c_30 => ?_) (fun c_30 => by exact absurd (nI_lt hc (by omega)) c_30)
                  refine lv_iload hx hb d_Y_join_35 (lv_at hl 7 rfl) ?_
                  refine lv_iconst (v := (nI 1)) hx hb d_Y_join_37 (by decide) ?_
                  refine lv_icmp_lt (tgt := 67) hx hb d_Y_join_38 (by decide) (fun c_38 => by exact absurd (Or.inl c_38) hrm) (fun c_38 => ?_)
                  refine lv_iload hx hb d_Y_join_41 (lv_at hl 7 rfl) ?_
                  refine lv_bipush (v := (nI 8)) hx hb d_Y_join_43 (by decide) ?_
                  refine lv_icmp_gt (tgt := 67) hx hb d_Y_join_45 (by decide) (fun c_45 => by exact absurd (Or.inr c_45) hrm) (fun c_45 => ?_)
                  refine lv_aload hx hb d_Y_join_48 (lv_at hl 1 rfl) ?_
                  refine lv_iload_n hx hb d_Y_join_50 rfl (lv_at hl 4 rfl) ?_
                  refine yc_i (va_runV (As := [.int _]) (rest := []) ⟨hx, hb, hml, hown, hts⟩ (c_A_hasFreeOut l D cc ad LL X b0 _ σ hL y jf hy hjf hi jo hjo) (cwV 1 hts (yg_call mc_A_hasFreeOut ml_Y_41 mm_A_hasFreeOut ms_A_hasFreeOut mi_A) rfl rfl rfl (by decide +kernel) ⟨Nat.le_of_ble_eq_true rfl, Nat.le_of_ble_eq_true rfl⟩) (y_preV hI hw (y_recv hK.1 hw hf5 (by rfl) rfl)) rfl rfl hl.1 rfl (lv_room (Nat.le_of_ble_eq_true rfl)) d_Y_join_51 ⟨Nat.le_of_ble_eq_true rfl, Nat.le_of_ble_eq_true rfl⟩) hw hA (fun r u H locs he hw => ?_)
                  subst he
                  refine lv_if_eq (tgt := 67) hx hb d_Y_join_54 (by decide) (fun c_54 => by rw [eo] at c_54; exact absurd c_54 (by decide)) (fun c_54 => ?_)
                  refine lv_aload hx hb d_Y_join_57 (lv_at hl 0 rfl) ?_
                  refine lv_iload hx hb d_Y_join_59 (lv_at hl 6 rfl) ?_
                  refine yc_i (va_runV (As := [.int _]) (rest := []) ⟨hx, hb, hml, hown, hts⟩ (c_A_hasFreeIn l D cc ad LL X b0 _ σ hL y jt hy hjt hi ji hji) (cwV 1 hts (yg_call mc_A_hasFreeIn ml_Y_45 mm_A_hasFreeIn ms_A_hasFreeIn mi_A) rfl rfl rfl (by decide +kernel) ⟨Nat.le_of_ble_eq_true rfl, Nat.le_of_ble_eq_true rfl⟩) (y_preV hI hw (y_recv hK.1 hw ht5 (by rfl) rfl)) rfl rfl hl.1 rfl (lv_room (Nat.le_of_ble_eq_true rfl)) d_Y_join_61 ⟨Nat.le_of_ble_eq_true rfl, Nat.le_of_ble_eq_true rfl⟩) hw hA (fun r u H locs he hw => ?_)
                  subst he
                  refine lv_if_ne (tgt := 69) hx hb d_Y_join_64 (by decide) (fun c_64 => by rw [ei] at c_64; exact absurd rfl c_64) (fun c_64 => ?_)
                  refine lv_iconst (v := (-1)) hx hb d_Y_join_67 (by decide) ?_
                  exact ye_i hI () rfl hw d_Y_join_68
                | none =>
                  exfalso
                  rw [jok_yes (T := s_T σ y) hjf hjt (by show s_n σ y < _; omega) hc hrm hjo hji eo ei] at hnj
                  cases hnj
      · refine y_ofW (cc := b_Y_join) (maxL := 9) (ret := (some .int)) (by decide) rfl (Nat.le_of_ble_eq_true rfl) ?_
        intro pv ev sv mv bv tv cv ls hI hsz hw hl
        obtain ⟨hx, hb, hr, hml, hts, hown, hlocks, hnm, hK, hAb, hb0, hA⟩ := id hI
        have ht : ∀ w ∈ lg_tbl, w.before _ sv = true := fun w h => hts w (List.mem_cons_of_mem _ h)
        have hl : lv_has ls 9 [(0, .ref (ad (1, y, 0))), (1, .int (nI jf)), (2, .int o), (3, .int (nI jt)), (4, .int i), (5, .int r)] := hl
        refine lv_aload_n hx hb d_Y_join_0 rfl (lv_at hl 0 rfl) ?_
        refine lv_iload_n hx hb d_Y_join_1 rfl (lv_at hl 1 rfl) ?_
        refine yc_q (va_runV (As := [.int _]) (rest := []) ⟨hx, hb, hml, hown, hts⟩ (c_Y_findActor l D cc ad LL X b0 _ σ hL y hy hi jf hjf) (cwV 1 hts (yg_call mc_Y_findActor ml_Y_37 mm_Y_findActor ms_Y_findActor mi_Y) rfl rfl rfl (by decide +kernel) ⟨Nat.le_of_ble_eq_true rfl, Nat.le_of_ble_eq_true rfl⟩) (y_preV hI hw (y_recv hK.1 hw g1 (by rfl) rfl)) rfl rfl hl.1 rfl (lv_room (Nat.le_of_ble_eq_true rfl)) d_Y_join_2 ⟨Nat.le_of_ble_eq_true rfl, Nat.le_of_ble_eq_true rfl⟩) hw hA (fun r u H locs he hw => ?_)
        subst he
        rw [yrf_s]
        refine lv_astore (lv' := [(6, .ref _), (0, .ref _), (1, .int _), (2, .int _), (3, .int _), (4, .int _), (5, .int _)]) hx hb d_Y_join_5 hl (by decide) rfl (fun ls hl => ?_)
        refine lv_aload_n hx hb d_Y_join_7 rfl (lv_at hl 1 rfl) ?_
        refine lv_iload_n hx hb d_Y_join_8 rfl (lv_at hl 4 rfl) ?_
        refine yc_q (va_runV (As := [.int _]) (rest := []) ⟨hx, hb, hml, hown, hts⟩ (c_Y_findActor l D cc ad LL X b0 _ σ hL y hy hi jt hjt) (cwV 1 hts (yg_call mc_Y_findActor ml_Y_37 mm_Y_findActor ms_Y_findActor mi_Y) rfl rfl rfl (by decide +kernel) ⟨Nat.le_of_ble_eq_true rfl, Nat.le_of_ble_eq_true rfl⟩) (y_preV hI hw (y_recv hK.1 hw g1 (by rfl) rfl)) rfl rfl hl.1 rfl (lv_room (Nat.le_of_ble_eq_true rfl)) d_Y_join_9 ⟨Nat.le_of_ble_eq_true rfl, Nat.le_of_ble_eq_true rfl⟩) hw hA (fun r u H locs he hw => ?_)
        subst he
        rw [yrf_s]
        refine lv_astore (lv' := [(7, .ref _), (6, .ref _), (0, .ref _), (1, .int _), (2, .int _), (3, .int _), (4, .int _), (5, .int _)]) hx hb d_Y_join_12 hl (by decide) rfl (fun ls hl => ?_)
        refine lv_aload hx hb d_Y_join_14 (lv_at hl 1 rfl) ?_
        refine lv_ifnull hx hb d_Y_join_16 ?_
        refine lv_aload hx hb d_Y_join_19 (lv_at hl 0 rfl) ?_
        refine lv_ifnull hx hb d_Y_join_21 ?_
        refine lv_aload_n hx hb d_Y_join_24 rfl (lv_at hl 2 rfl) ?_
        refine yr_get (C := R_Y) (T := F_Y) (N := 5) (ci := k_Y) hx hb ht j_Y hown hK.1 hw (by assumption) (by rfl) rfl 4 (by decide) (ht _ mf_Y_31) (fun _ h9 => h9) (by rfl) d_Y_join_25 ?_
        refine lv_bipush (v := (nI 16)) hx hb d_Y_join_28 (by decide) ?_
        refine lv_icmp_lt (tgt := 35) hx hb d_Y_join_30 (by decide) (fun c_30 => by exact absurd ((nI_ltI (by omega) (by omega)).mp c_30) hc) (fun c_30 => ?_)
        refine lv_iconst (v := (-1)) hx hb d_Y_join_33 (by decide) ?_
        exact ye_i hI () rfl hw d_Y_join_34
set_option maxHeartbeats 4000000 in
set_option maxRecDepth 100000 in
theorem c_Y_join (l : Launch) (D : va_G) (cc : ClassId × ClassId × ClassId) (ad : yl → Nat) (LL : List yl) (X : va_W) (b0 sz : Nat) (σ : ys) (hLL : ∀ q, q ∈ LL ↔ yL σ q) (y : Nat) (hy : y < 2) (hi : yI σ y) (hIo : ∀ z, yI σ z ∨ 2 ≤ z) (jf jo jt ji r : Nat) (hjf : jf < s_n σ y) (hjt : jt < s_n σ y) (hc : s_nc σ y < 16) (hrm : 1 ≤ r ∧ r ≤ 8) (hjo : jo < yt_outs (s_ac σ y jf).1) (hji : ji < yt_ins (s_ac σ y jt).1) (eo : s_oc σ y jf jo = none) (ei : s_ic σ y jt ji = none) : Met l y_Y_join w_Y_join ({ frames := 2, cells := 2, slots := 12, locals := 33 }) (yPr D cc b0 [.ref (ad (1, y, 0)), .int (nI jf), .int (nI jo), .int (nI jt), .int (nI ji), .int (nI r)] (yW cc ad LL X σ) sz) (va_Qi (fun r (u : yl → Nat) => r = nI (s_nc σ y) ∧ ∀ z, z ∈ LL → u z = ad z) (yB D ycl (yW cc ad LL X σ) sz (fun u => yW cc u ((LL ++ [(9, y, s_nc σ y)]) ++ [(10, y, s_nc σ y)]) X (yo_join σ y jf jo jt ji r))) (va_A (yW cc ad LL X σ) sz)) 2 12 (va_A (yW cc ad LL X σ) sz) := by
  have hL : ∀ q, yL σ q → q ∈ LL := fun q h => (hLL q).mpr h
  have g1 : (1, y, 0) ∈ LL := hL _ ⟨hy, rfl⟩
  have g2 : (2, y, 0) ∈ LL := hL _ ⟨hy, rfl⟩
  have g3 : (3, y, 0) ∈ LL := hL _ ⟨hy, rfl⟩
  have g4 : (4, y, 0) ∈ LL := hL _ ⟨hy, rfl⟩
  have hn10 := hi.1.1
  have hc16 := hi.2.1
  have hf5 : (5, y, jf) ∈ LL := hL _ ⟨hy, hjf⟩
  have ht5 : (5, y, jt) ∈ LL := hL _ ⟨hy, hjt⟩
  have hno2 := yt_outs_le (s_ac σ y jf).1
  have hni2 := yt_ins_le (s_ac σ y jt).1
  refine y_ofW (cc := b_Y_join) (maxL := 9) (ret := (some .int)) (by decide) rfl (Nat.le_of_ble_eq_true rfl) ?_
  intro pv ev sv mv bv tv cv ls hI hsz hw hl
  generalize hargs : ([.ref (ad (1, y, 0)), .int (nI jf), .int (nI jo), .int (nI jt), .int (nI ji), .int (nI r)] : List Value).toArray = args at hI ⊢
  obtain ⟨hx, hb, hr, hml, hts, hown, hlocks, hnm, hK, hAb, hb0, hA⟩ := id hI
  have ht : ∀ w ∈ lg_tbl, w.before _ sv = true := fun w h => hts w (List.mem_cons_of_mem _ h)
  have hl : lv_has ls 9 [(0, .ref (ad (1, y, 0))), (1, .int (nI jf)), (2, .int (nI jo)), (3, .int (nI jt)), (4, .int (nI ji)), (5, .int (nI r))] := hl
  refine lv_aload_n hx hb d_Y_join_0 rfl (lv_at hl 0 rfl) ?_
  refine lv_iload_n hx hb d_Y_join_1 rfl (lv_at hl 1 rfl) ?_
  refine yc_q (va_runV (As := [.int _]) (rest := []) ⟨hx, hb, hml, hown, hts⟩ (c_Y_findActor l D cc ad LL X b0 _ σ hL y hy hi jf hjf) (cwV 1 hts (yg_call mc_Y_findActor ml_Y_37 mm_Y_findActor ms_Y_findActor mi_Y) rfl rfl rfl (by decide +kernel) ⟨Nat.le_of_ble_eq_true rfl, Nat.le_of_ble_eq_true rfl⟩) (y_preV hI hw (y_recv hK.1 hw g1 (by rfl) rfl)) rfl rfl hl.1 rfl (lv_room (Nat.le_of_ble_eq_true rfl)) d_Y_join_2 ⟨Nat.le_of_ble_eq_true rfl, Nat.le_of_ble_eq_true rfl⟩) hw hA (fun r u H locs he hw => ?_)
  subst he
  rw [yrf_s]
  refine lv_astore (lv' := [(6, .ref _), (0, .ref _), (1, .int _), (2, .int _), (3, .int _), (4, .int _), (5, .int _)]) hx hb d_Y_join_5 hl (by decide) rfl (fun ls hl => ?_)
  refine lv_aload_n hx hb d_Y_join_7 rfl (lv_at hl 1 rfl) ?_
  refine lv_iload_n hx hb d_Y_join_8 rfl (lv_at hl 4 rfl) ?_
  refine yc_q (va_runV (As := [.int _]) (rest := []) ⟨hx, hb, hml, hown, hts⟩ (c_Y_findActor l D cc ad LL X b0 _ σ hL y hy hi jt hjt) (cwV 1 hts (yg_call mc_Y_findActor ml_Y_37 mm_Y_findActor ms_Y_findActor mi_Y) rfl rfl rfl (by decide +kernel) ⟨Nat.le_of_ble_eq_true rfl, Nat.le_of_ble_eq_true rfl⟩) (y_preV hI hw (y_recv hK.1 hw g1 (by rfl) rfl)) rfl rfl hl.1 rfl (lv_room (Nat.le_of_ble_eq_true rfl)) d_Y_join_9 ⟨Nat.le_of_ble_eq_true rfl, Nat.le_of_ble_eq_true rfl⟩) hw hA (fun r u H locs he hw => ?_)
  subst he
  rw [yrf_s]
  refine lv_astore (lv' := [(7, .ref _), (6, .ref _), (0, .ref _), (1, .int _), (2, .int _), (3, .int _), (4, .int _), (5, .int _)]) hx hb d_Y_join_12 hl (by decide) rfl (fun ls hl => ?_)
  refine lv_aload hx hb d_Y_join_14 (lv_at hl 1 rfl) ?_
  refine lv_ifnull hx hb d_Y_join_16 ?_
  refine lv_aload hx hb d_Y_join_19 (lv_at hl 0 rfl) ?_
  refine lv_ifnull hx hb d_Y_join_21 ?_
  refine lv_aload_n hx hb d_Y_join_24 rfl (lv_at hl 2 rfl) ?_
  refine yr_get (C := R_Y) (T := F_Y) (N := 5) (ci := k_Y) hx hb ht j_Y hown hK.1 hw (by assumption) (by rfl) rfl 4 (by decide) (ht _ mf_Y_31) (fun _ h9 => h9) (by rfl) d_Y_join_25 ?_
  refine lv_bipush (v := (nI 16)) hx hb d_Y_join_28 (by decide) ?_
  refine lv_icmp_lt (tgt := 35) hx hb d_Y_join_30 (by decide) (fun c_30 => ?_) (fun c_30 => by exact absurd (nI_lt hc (by omega)) c_30)
  refine lv_iload hx hb d_Y_join_35 (lv_at hl 7 rfl) ?_
  refine lv_iconst (v := (nI 1)) hx hb d_Y_join_37 (by decide) ?_
  refine lv_icmp_lt (tgt := 67) hx hb d_Y_join_38 (by decide) (fun c_38 => by exact absurd ((nI_ltI (by omega) (by omega)).mp c_38) (by omega)) (fun c_38 => ?_)
  refine lv_iload hx hb d_Y_join_41 (lv_at hl 7 rfl) ?_
  refine lv_bipush (v := (nI 8)) hx hb d_Y_join_43 (by decide) ?_
  refine lv_icmp_gt (tgt := 67) hx hb d_Y_join_45 (by decide) (fun c_45 => by exact absurd ((nI_ltI (by omega) (by omega)).mp c_45) (by omega)) (fun c_45 => ?_)
  refine lv_aload hx hb d_Y_join_48 (lv_at hl 1 rfl) ?_
  refine lv_iload_n hx hb d_Y_join_50 rfl (lv_at hl 4 rfl) ?_
  refine yc_i (va_runV (As := [.int _]) (rest := []) ⟨hx, hb, hml, hown, hts⟩ (c_A_hasFreeOut l D cc ad LL X b0 _ σ hL y jf hy hjf hi jo hjo) (cwV 1 hts (yg_call mc_A_hasFreeOut ml_Y_41 mm_A_hasFreeOut ms_A_hasFreeOut mi_A) rfl rfl rfl (by decide +kernel) ⟨Nat.le_of_ble_eq_true rfl, Nat.le_of_ble_eq_true rfl⟩) (y_preV hI hw (y_recv hK.1 hw hf5 (by rfl) rfl)) rfl rfl hl.1 rfl (lv_room (Nat.le_of_ble_eq_true rfl)) d_Y_join_51 ⟨Nat.le_of_ble_eq_true rfl, Nat.le_of_ble_eq_true rfl⟩) hw hA (fun r u H locs he hw => ?_)
  subst he
  refine lv_if_eq (tgt := 67) hx hb d_Y_join_54 (by decide) (fun c_54 => by rw [eo] at c_54; exact absurd c_54 (by decide)) (fun c_54 => ?_)
  refine lv_aload hx hb d_Y_join_57 (lv_at hl 0 rfl) ?_
  refine lv_iload hx hb d_Y_join_59 (lv_at hl 6 rfl) ?_
  refine yc_i (va_runV (As := [.int _]) (rest := []) ⟨hx, hb, hml, hown, hts⟩ (c_A_hasFreeIn l D cc ad LL X b0 _ σ hL y jt hy hjt hi ji hji) (cwV 1 hts (yg_call mc_A_hasFreeIn ml_Y_45 mm_A_hasFreeIn ms_A_hasFreeIn mi_A) rfl rfl rfl (by decide +kernel) ⟨Nat.le_of_ble_eq_true rfl, Nat.le_of_ble_eq_true rfl⟩) (y_preV hI hw (y_recv hK.1 hw ht5 (by rfl) rfl)) rfl rfl hl.1 rfl (lv_room (Nat.le_of_ble_eq_true rfl)) d_Y_join_61 ⟨Nat.le_of_ble_eq_true rfl, Nat.le_of_ble_eq_true rfl⟩) hw hA (fun r u H locs he hw => ?_)
  subst he
  refine lv_if_ne (tgt := 69) hx hb d_Y_join_64 (by decide) (fun c_64 => ?_) (fun c_64 => by rw [ei] at c_64; exact absurd c_64 (by decide))
  refine yr_new (fs := [.int 0, .null, .int 0, .int 0]) (C := R_C) (T := F_C) (N := 4) (ci := k_C) hx hb ht j_C t_C t_C_ok hown (ht _ mk_Y_17) (ht _ mn_C) (ht _ mi_C) hK.1 hw hA (9, y, s_nc σ y) (fun q => absurd ((hLL _).mp q).2 (Nat.lt_irrefl _)) rfl (fun j hj => by rcases (show j = 0 ∨ j = 1 ∨ j = 2 ∨ j = 3 by omega) with rfl | rfl | rfl | rfl <;> rfl) (Nat.le_of_ble_eq_true rfl) (Nat.le_of_ble_eq_true rfl) d_Y_join_69 (fun ad1 H hag1 hw => ?_)
  rw [← hag1 _ g1] at hl
  rw [← hag1 _ hf5] at hl
  try rw [← hag1 _ ht5] at hl
  refine lv_dup hx hb d_Y_join_72 rfl ?_
  refine lv_iload hx hb d_Y_join_73 (lv_at hl 7 rfl) ?_
  refine yc_v (va_runI (As := [.int _]) (rest := [.ref _]) ⟨hx, hb, hml, hown, hts⟩ (c_C_init l D cc ad1 (LL ++ [(9, y, s_nc σ y)]) (yu (yG cc σ ad) (9, y, s_nc σ y) (.inr (k_C, [.int 0, .null, .int 0, .int 0]))) X b0 _ y (s_nc σ y) (by simp) (by intro q; rcases List.mem_append.mp q with q | q; exact absurd ((hLL _).mp q).2 (Nat.lt_irrefl _); simp at q) (yu_s _ _ _) (nI r)) (cwI 1 hts (yg_sub mc_C_init) rfl rfl rfl (ht _ mi_C) (ht _ ml_Y_48) (ht _ mm_C_init) rfl (by decide +kernel) ⟨Nat.le_of_ble_eq_true rfl, Nat.le_of_ble_eq_true rfl⟩) (y_preS hI hw) rfl rfl hl.1 rfl (lv_room (Nat.le_of_ble_eq_true rfl)) d_Y_join_75 ⟨Nat.le_of_ble_eq_true rfl, Nat.le_of_ble_eq_true rfl⟩) hw hA (fun ad2 H locs hag2 hw => ?_)
  have m1 : (1, y, 0) ∈ LL ++ [(9, y, s_nc σ y)] := by simp [g1]
  have mf : (5, y, jf) ∈ LL ++ [(9, y, s_nc σ y)] := by simp [hf5]
  have mt : (5, y, jt) ∈ LL ++ [(9, y, s_nc σ y)] := by simp [ht5]
  have m9 : (9, y, s_nc σ y) ∈ LL ++ [(9, y, s_nc σ y)] := by simp
  rw [← hag2 _ m9]
  rw [← hag2 _ m1] at hl
  rw [← hag2 _ mf] at hl
  try rw [← hag2 _ mt] at hl
  have hag : ∀ z, z ∈ LL → ad2 z = ad z := fun z hz => by rw [hag2 z (by simp [hz]), hag1 z hz]
  have hw := y_same (g' := (yu (yu (yG cc σ ad2) (10, y, s_nc σ y) (.inl (cc.1, 8, .inl (fun _ => 0)))) (9, y, s_nc σ y) (.inr (k_C, [.int (nI r), .ref (ad2 (10, y, s_nc σ y)), .int 0, .int 0])))) hw (join_g1 hLL hIo hag)
  have f1 : (1, y, 0) ∈ ((LL ++ [(9, y, s_nc σ y)]) ++ [(10, y, s_nc σ y)]) := by simp [g1]
  have f3 : (3, y, 0) ∈ ((LL ++ [(9, y, s_nc σ y)]) ++ [(10, y, s_nc σ y)]) := by simp [g3]
  have ff : (5, y, jf) ∈ ((LL ++ [(9, y, s_nc σ y)]) ++ [(10, y, s_nc σ y)]) := by simp [hf5]
  have ft : (5, y, jt) ∈ ((LL ++ [(9, y, s_nc σ y)]) ++ [(10, y, s_nc σ y)]) := by simp [ht5]
  have f7 : (7, y, jf) ∈ ((LL ++ [(9, y, s_nc σ y)]) ++ [(10, y, s_nc σ y)]) := by simp [show (7, y, jf) ∈ LL from hL _ ⟨hy, hjf⟩]
  have f6 : (6, y, jt) ∈ ((LL ++ [(9, y, s_nc σ y)]) ++ [(10, y, s_nc σ y)]) := by simp [show (6, y, jt) ∈ LL from hL _ ⟨hy, hjt⟩]
  have f9 : (9, y, s_nc σ y) ∈ ((LL ++ [(9, y, s_nc σ y)]) ++ [(10, y, s_nc σ y)]) := by simp
  refine lv_astore (lv' := [(8, .ref _), (7, .ref _), (6, .ref _), (0, .ref _), (1, .int _), (2, .int _), (3, .int _), (4, .int _), (5, .int _)]) hx hb d_Y_join_78 hl (by decide) rfl (fun ls hl => ?_)
  refine lv_aload hx hb d_Y_join_80 (lv_at hl 2 rfl) ?_
  refine lv_iload_n hx hb d_Y_join_82 rfl (lv_at hl 5 rfl) ?_
  refine lv_aload hx hb d_Y_join_83 (lv_at hl 0 rfl) ?_
  refine yc_v (va_runV (As := [.int _, .ref _]) (rest := []) ⟨hx, hb, hml, hown, hts⟩ (c_A_joinOut l D cc ad2 ((LL ++ [(9, y, s_nc σ y)]) ++ [(10, y, s_nc σ y)]) (yu (yu (yG cc σ ad2) (10, y, s_nc σ y) (.inl (cc.1, 8, .inl (fun _ => 0)))) (9, y, s_nc σ y) (.inr (k_C, [.int (nI r), .ref (ad2 (10, y, s_nc σ y)), .int 0, .int 0]))) X b0 _ y jf (s_nc σ y) ff f7 f9 (.int (nI (s_ac σ y jf).1)) (.int (s_ac σ y jf).2.1) (.int (s_ac σ y jf).2.2.1) (.ref (ad2 (8, y, jf))) (.int (nI (s_ac σ y jf).2.2.2.1)) (.int (nI (s_ac σ y jf).2.2.2.2)) (by rw [yu_n _ _ (by simp), yu_n _ _ (by simp)]; rfl) (fun j => (s_oc σ y jf j).map (fun c => ad2 (9, y, c))) (by rw [yu_n _ _ (by simp), yu_n _ _ (by simp)]; rfl) _ (yu_s _ _ _) jo (by omega)) (cwV 2 hts (yg_call mc_A_joinOut ml_Y_51 mm_A_joinOut ms_A_joinOut mi_A) rfl rfl rfl (by decide +kernel) ⟨Nat.le_of_ble_eq_true rfl, Nat.le_of_ble_eq_true rfl⟩) (y_preV hI hw (y_recv hK.1 hw ff (by rw [yu_n _ _ (by simp), yu_n _ _ (by simp)]; rfl) rfl)) rfl rfl hl.1 rfl (lv_room (Nat.le_of_ble_eq_true rfl)) d_Y_join_85 ⟨Nat.le_of_ble_eq_true rfl, Nat.le_of_ble_eq_true rfl⟩) hw hA (fun u H locs he hw => ?_)
  refine lv_aload hx hb d_Y_join_88 (lv_at hl 1 rfl) ?_
  refine lv_iload hx hb d_Y_join_90 (lv_at hl 7 rfl) ?_
  refine lv_aload hx hb d_Y_join_92 (lv_at hl 0 rfl) ?_
  refine yc_v (va_runV (As := [.int _, .ref _]) (rest := []) ⟨hx, hb, hml, hown, hts⟩ (c_A_joinIn l D cc ad2 ((LL ++ [(9, y, s_nc σ y)]) ++ [(10, y, s_nc σ y)]) (yu (yu (yu (yG cc σ ad2) (10, y, s_nc σ y) (.inl (cc.1, 8, .inl (fun _ => 0)))) (9, y, s_nc σ y) (.inr (k_C, [.int (nI r), .ref (ad2 (10, y, s_nc σ y)), .int 0, .int 0]))) (7, y, jf) (.inl (cc.2.2, 2, .inr (.inr (.inr (.inr (va_up (fun j => (s_oc σ y jf j).map (fun c => ad2 (9, y, c))) jo (some (ad2 (9, y, s_nc σ y)))))))))) X b0 _ y jt (s_nc σ y) ft f6 f9 (.int (nI (s_ac σ y jt).1)) (.int (s_ac σ y jt).2.1) (.int (s_ac σ y jt).2.2.1) (.ref (ad2 (8, y, jt))) (.int (nI (s_ac σ y jt).2.2.2.1)) (.int (nI (s_ac σ y jt).2.2.2.2)) (by rw [yu_n _ _ (by simp), yu_n _ _ (by simp), yu_n _ _ (by simp)]; rfl) (fun j => (s_ic σ y jt j).map (fun c => ad2 (9, y, c))) (by rw [yu_n _ _ (by simp), yu_n _ _ (by simp), yu_n _ _ (by simp)]; rfl) _ (by rw [yu_n _ _ (by simp)]; exact yu_s _ _ _) ji (by omega)) (cwV 2 hts (yg_call mc_A_joinIn ml_Y_55 mm_A_joinIn ms_A_joinIn mi_A) rfl rfl rfl (by decide +kernel) ⟨Nat.le_of_ble_eq_true rfl, Nat.le_of_ble_eq_true rfl⟩) (y_preV hI hw (y_recv hK.1 hw ft (by rw [yu_n _ _ (by simp), yu_n _ _ (by simp), yu_n _ _ (by simp)]; rfl) rfl)) rfl rfl hl.1 rfl (lv_room (Nat.le_of_ble_eq_true rfl)) d_Y_join_94 ⟨Nat.le_of_ble_eq_true rfl, Nat.le_of_ble_eq_true rfl⟩) hw hA (fun u H locs he hw => ?_)
  refine lv_aload_n hx hb d_Y_join_97 rfl (lv_at hl 3 rfl) ?_
  refine yr_get (C := R_Y) (T := F_Y) (N := 5) (ci := k_Y) hx hb ht j_Y hown hK.1 hw f1 (by rw [yu_n _ _ (by simp), yu_n _ _ (by simp), yu_n _ _ (by simp), yu_n _ _ (by simp)]; rfl) rfl 1 (by decide) (ht _ mf_Y_19) (fun _ h9 => h9) (by rfl) d_Y_join_98 ?_
  refine lv_aload_n hx hb d_Y_join_101 rfl (lv_at hl 3 rfl) ?_
  refine yr_get (C := R_Y) (T := F_Y) (N := 5) (ci := k_Y) hx hb ht j_Y hown hK.1 hw f1 (by rw [yu_n _ _ (by simp), yu_n _ _ (by simp), yu_n _ _ (by simp), yu_n _ _ (by simp)]; rfl) rfl 4 (by decide) (ht _ mf_Y_31) (fun _ h9 => h9) (by rfl) d_Y_join_102 ?_
  refine lv_aload hx hb d_Y_join_105 (lv_at hl 0 rfl) ?_
  refine yr_astq (r := (R_C, F_C, 4)) (ci := k_C) hx hb hK.1 hw f3 (by rw [yu_n _ _ (by simp), yu_n _ _ (by simp), yu_n _ _ (by simp), yu_n _ _ (by simp)]; rfl) 2 rfl f9 (by rw [yu_n _ _ (by simp), yu_n _ _ (by simp)]; exact yu_s _ _ _) rfl (vp_in_nI hc (by omega)) d_Y_join_107 (fun H locs hw => ?_)
  rw [nI_clamp (by omega)] at hw
  refine lv_aload_n hx hb d_Y_join_108 rfl (lv_at hl 3 rfl) ?_
  refine lv_dup hx hb d_Y_join_109 rfl ?_
  refine yr_get (C := R_Y) (T := F_Y) (N := 5) (ci := k_Y) hx hb ht j_Y hown hK.1 hw f1 (by rw [yu_n _ _ (by simp), yu_n _ _ (by simp), yu_n _ _ (by simp), yu_n _ _ (by simp), yu_n _ _ (by simp)]; rfl) rfl 4 (by decide) (ht _ mf_Y_31) (fun _ h9 => h9) (by rfl) d_Y_join_110 ?_
  refine lv_iconst (v := 1) hx hb d_Y_join_113 (by decide) ?_
  refine lv_iadd hx hb d_Y_join_114 ?_
  rw [nI_1]
  refine yr_put (ty := .int) (C := R_Y) (T := F_Y) (N := 5) (ci := k_Y) hx hb ht j_Y t_Y t_Y_ok n_Y hown hK.1 hw f1 (by rw [yu_n _ _ (by simp), yu_n _ _ (by simp), yu_n _ _ (by simp), yu_n _ _ (by simp), yu_n _ _ (by simp)]; rfl) rfl 4 (by decide) (ht _ mf_Y_31) (fun _ h9 => h9) rfl (by decide +kernel) rfl rfl (Nat.le_of_ble_eq_true rfl) d_Y_join_115 (fun H locs hw => ?_)
  refine lv_aload_n hx hb d_Y_join_118 rfl (lv_at hl 3 rfl) ?_
  refine yr_get (C := R_Y) (T := F_Y) (N := 5) (ci := k_Y) hx hb ht j_Y hown hK.1 hw f1 (yu_s _ _ _) rfl 4 (by decide) (ht _ mf_Y_31) (fun _ h9 => h9) (by rfl) d_Y_join_119 ?_
  refine lv_iconst (v := 1) hx hb d_Y_join_122 (by decide) ?_
  refine lv_isub hx hb d_Y_join_123 ?_
  rw [nI_pred]
  exact ye_i hI ad2 ⟨rfl, hag⟩ (y_same hw (join_g2 hLL)) d_Y_join_124
