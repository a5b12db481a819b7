/-! YARD: addActor -/
/-- addresses matter at places that are there alone -/
theorem yG_ad {cc : ClassId × ClassId × ClassId} {σ : ys} {ad ad' : yl → Nat} (hIo : ∀ z, yI σ z ∨ 2 ≤ z) (h : ∀ z, yL σ z → ad' z = ad z) {q : yl} (hq : yL σ q) : yG cc σ ad q = yG cc σ ad' q := by
  obtain ⟨f, y, i⟩ := q
  have h0 : ∀ f, f < 5 → 0 < f → ∀ y, y < 2 → yL σ (f, y, 0) := fun f h1 h2 y hy => by
    match f, h1, h2 with
    | 1, _, _ => exact ⟨hy, rfl⟩
    | 2, _, _ => exact ⟨hy, rfl⟩
    | 3, _, _ => exact ⟨hy, rfl⟩
    | 4, _, _ => exact ⟨hy, rfl⟩
  have hmap : ∀ (o : Option Nat), (∀ c, o = some c → c < s_nc σ y) → y < 2 → o.map (fun c => ad (9, y, c)) = o.map (fun c => ad' (9, y, c)) := fun o ho hy => by
    cases o with
    | none => rfl
    | some c => show some (ad (9, y, c)) = some (ad' (9, y, c)); rw [h (9, y, c) ⟨hy, ho c rfl⟩]
  match f, hq with
  | 0, hq =>
    show Sum.inr (k_S, [Value.ref (ad (1, 0, 0)), Value.ref (ad (1, 1, 0)), _]) = Sum.inr (k_S, [Value.ref (ad' (1, 0, 0)), Value.ref (ad' (1, 1, 0)), _])
    rw [h _ (h0 1 (by omega) (by omega) 0 (by omega)), h _ (h0 1 (by omega) (by omega) 1 (by omega))]
  | 1, hq =>
    show Sum.inr (k_Y, [Value.ref (ad (2, y, 0)), Value.ref (ad (3, y, 0)), Value.ref (ad (4, y, 0)), _, _]) = Sum.inr (k_Y, [Value.ref (ad' (2, y, 0)), Value.ref (ad' (3, y, 0)), Value.ref (ad' (4, y, 0)), _, _])
    rw [h _ (h0 2 (by omega) (by omega) y hq.1), h _ (h0 3 (by omega) (by omega) y hq.1), h _ (h0 4 (by omega) (by omega) y hq.1)]
  | 2, hq =>
    show Sum.inl (cc.2.1, 10, Sum.inr (Sum.inr (Sum.inr (Sum.inr (fun j => if j < s_n σ y then some (ad (5, y, j)) else none))))) = Sum.inl (cc.2.1, 10, Sum.inr (Sum.inr (Sum.inr (Sum.inr (fun j => if j < s_n σ y then some (ad' (5, y, j)) else none)))))
    have e : (fun j => if j < s_n σ y then some (ad (5, y, j)) else none) = fun j => if j < s_n σ y then some (ad' (5, y, j)) else none := by
      funext j
      by_cases hj : j < s_n σ y
      · rw [if_pos hj, if_pos hj, h (5, y, j) ⟨hq.1, hj⟩]
      · rw [if_neg hj, if_neg hj]
    rw [e]
  | 3, hq =>
    show Sum.inl (cc.2.2, 16, Sum.inr (Sum.inr (Sum.inr (Sum.inr (fun j => if j < s_nc σ y then some (ad (9, y, j)) else none))))) = Sum.inl (cc.2.2, 16, Sum.inr (Sum.inr (Sum.inr (Sum.inr (fun j => if j < s_nc σ y then some (ad' (9, y, j)) else none)))))
    have e : (fun j => if j < s_nc σ y then some (ad (9, y, j)) else none) = fun j => if j < s_nc σ y then some (ad' (9, y, j)) else none := by
      funext j
      by_cases hj : j < s_nc σ y
      · rw [if_pos hj, if_pos hj, h (9, y, j) ⟨hq.1, hj⟩]
      · rw [if_neg hj, if_neg hj]
    rw [e]
  | 4, hq => rfl
  | 5, hq =>
    show Sum.inr (k_A, [_, _, _, Value.ref (ad (6, y, i)), Value.ref (ad (7, y, i)), Value.ref (ad (8, y, i)), _, _]) = Sum.inr (k_A, [_, _, _, Value.ref (ad' (6, y, i)), Value.ref (ad' (7, y, i)), Value.ref (ad' (8, y, i)), _, _])
    rw [h (6, y, i) hq, h (7, y, i) hq, h (8, y, i) hq]
  | 6, hq =>
    show Sum.inl (cc.2.2, 2, Sum.inr (Sum.inr (Sum.inr (Sum.inr (fun j => (s_ic σ y i j).map (fun c => ad (9, y, c))))))) = Sum.inl (cc.2.2, 2, Sum.inr (Sum.inr (Sum.inr (Sum.inr (fun j => (s_ic σ y i j).map (fun c => ad' (9, y, c)))))))
    have e : (fun j => (s_ic σ y i j).map (fun c => ad (9, y, c))) = fun j => (s_ic σ y i j).map (fun c => ad' (9, y, c)) := by
      funext j
      rcases hIo y with hi | hi
      · exact hmap _ (fun c e => (hi.2.2.2.2.1 i j c e).2.2) hq.1
      · exact absurd hq.1 (by omega)
    rw [e]
  | 7, hq =>
    show Sum.inl (cc.2.2, 2, Sum.inr (Sum.inr (Sum.inr (Sum.inr (fun j => (s_oc σ y i j).map (fun c => ad (9, y, c))))))) = Sum.inl (cc.2.2, 2, Sum.inr (Sum.inr (Sum.inr (Sum.inr (fun j => (s_oc σ y i j).map (fun c => ad' (9, y, c)))))))
    have e : (fun j => (s_oc σ y i j).map (fun c => ad (9, y, c))) = fun j => (s_oc σ y i j).map (fun c => ad' (9, y, c)) := by
      funext j
      rcases hIo y with hi | hi
      · exact hmap _ (fun c e => (hi.2.2.2.2.2.1 i j c e).2.2) hq.1
      · exact absurd hq.1 (by omega)
    rw [e]
  | 8, hq => rfl
  | 9, hq =>
    show Sum.inr (k_C, [_, Value.ref (ad (10, y, i)), _, _]) = Sum.inr (k_C, [_, Value.ref (ad' (10, y, i)), _, _])
    rw [h (10, y, i) hq]
  | 10, hq => rfl
/-- one more actor -/
def yo_add (σ : ys) (y k : Nat) (a b : Int32) : ys := sx_cn (sx_rw (sx_ac σ y (s_n σ y) (k, a, b, 0, 0)) y (s_n σ y) (fun _ => 0)) y (s_n σ y + 1, s_nc σ y)
theorem add_g1 {cc : ClassId × ClassId × ClassId} {σ : ys} {ad ad2 : yl → Nat} {LL : List yl} {y k : Nat} {a b : Int32} {e0 : va_E} (hLL : ∀ q, q ∈ LL ↔ yL σ q) (hIo : ∀ z, yI σ z ∨ 2 ≤ z) (hag : ∀ z, z ∈ LL → ad2 z = ad z) : ∀ q, q ∈ ((((LL ++ [(5, y, s_n σ y)]) ++ [(6, y, s_n σ y)]) ++ [(7, y, s_n σ y)]) ++ [(8, y, s_n σ y)]) → (yu (yu (yu (yu (yu (yG cc σ ad) (5, y, s_n σ y) e0) (6, y, s_n σ y) (.inl (cc.2.2, 2, .inr (.inr (.inr (.inr (fun _ => none))))))) (7, y, s_n σ y) (.inl (cc.2.2, 2, .inr (.inr (.inr (.inr (fun _ => none))))))) (8, y, s_n σ y) (.inl (cc.1, yt_rows k, .inl (fun _ => 0)))) (5, y, s_n σ y) (.inr (k_A, [.int (nI k), .int a, .int b, .ref (ad2 (6, y, s_n σ y)), .ref (ad2 (7, y, s_n σ y)), .ref (ad2 (8, y, s_n σ y)), .int 0, .int 0]))) q = (yu (yu (yu (yu (yG cc σ ad2) (6, y, s_n σ y) (.inl (cc.2.2, 2, .inr (.inr (.inr (.inr (fun _ => none))))))) (7, y, s_n σ y) (.inl (cc.2.2, 2, .inr (.inr (.inr (.inr (fun _ => none))))))) (8, y, s_n σ y) (.inl (cc.1, yt_rows k, .inl (fun _ => 0)))) (5, y, s_n σ y) (.inr (k_A, [.int (nI k), .int a, .int b, .ref (ad2 (6, y, s_n σ y)), .ref (ad2 (7, y, s_n σ y)), .ref (ad2 (8, y, s_n σ y)), .int 0, .int 0]))) q := by
  intro q hq
  by_cases q5 : q = (5, y, s_n σ y)
  · subst q5; simp [yu]
  · by_cases q6 : q = (6, y, s_n σ y)
    · subst q6; simp [yu]
    · by_cases q7 : q = (7, y, s_n σ y)
      · subst q7; simp [yu]
      · by_cases q8 : q = (8, y, s_n σ y)
        · subst q8; simp [yu]
        · have hq' : q ∈ LL := by simpa [q5, q6, q7, q8] using hq
          have e := yG_ad (cc := cc) hIo (fun z hz => hag z ((hLL z).mpr hz)) ((hLL q).mp hq')
          simp [yu, q5, q6, q7, q8, e]
theorem add_g2 {cc : ClassId × ClassId × ClassId} {σ : ys} {ad2 : yl → Nat} {LL : List yl} {y k : Nat} {a b : Int32} (hLL : ∀ q, q ∈ LL ↔ yL σ q) (hi : yI σ y) (hn : s_n σ y < 10) : ∀ q, q ∈ ((((LL ++ [(5, y, s_n σ y)]) ++ [(6, y, s_n σ y)]) ++ [(7, y, s_n σ y)]) ++ [(8, y, s_n σ y)]) → (yu (yu (yu (yu (yu (yu (yG cc σ ad2) (6, y, s_n σ y) (.inl (cc.2.2, 2, .inr (.inr (.inr (.inr (fun _ => none))))))) (7, y, s_n σ y) (.inl (cc.2.2, 2, .inr (.inr (.inr (.inr (fun _ => none))))))) (8, y, s_n σ y) (.inl (cc.1, yt_rows k, .inl (fun _ => 0)))) (5, y, s_n σ y) (.inr (k_A, [.int (nI k), .int a, .int b, .ref (ad2 (6, y, s_n σ y)), .ref (ad2 (7, y, s_n σ y)), .ref (ad2 (8, y, s_n σ y)), .int 0, .int 0]))) (2, y, 0) (.inl (cc.2.1, 10, .inr (.inr (.inr (.inr (va_up (fun j => if j < s_n σ y then some (ad2 (5, y, j)) else none) (s_n σ y) (some (ad2 (5, y, s_n σ y)))))))))) (1, y, 0) (.inr (k_Y, [.ref (ad2 (2, y, 0)), .ref (ad2 (3, y, 0)), .ref (ad2 (4, y, 0)), .int (nI (s_n σ y + 1)), .int (nI (s_nc σ y))]))) q = yG cc (yo_add σ y k a b) ad2 q := by
  intro q hq
  have hcn : ∀ z, s_n (yo_add σ y k a b) z = if z = y then s_n σ y + 1 else s_n σ z := fun z => by
    show (va_up σ.2.1 y (s_n σ y + 1, s_nc σ y) z).1 = _
    unfold va_up
    by_cases h : z = y
    · rw [if_pos h, if_pos h]
    · rw [if_neg h, if_neg h]; rfl
  have hcc : ∀ z, s_nc (yo_add σ y k a b) z = s_nc σ z := fun z => by
    show (va_up σ.2.1 y (s_n σ y + 1, s_nc σ y) z).2 = _
    unfold va_up
    by_cases h : z = y
    · rw [if_pos h, h]
    · rw [if_neg h]; rfl
  have hac : ∀ z i, s_ac (yo_add σ y k a b) z i = if z = y ∧ i = s_n σ y then (k, a, b, 0, 0) else s_ac σ z i := fun z i => rfl
  have hrw : ∀ z i, s_rw (yo_add σ y k a b) z i = if z = y ∧ i = s_n σ y then (fun _ => 0) else s_rw σ z i := fun z i => rfl
  by_cases q1 : q = (1, y, 0)
  · subst q1
    rw [yu_s]
    show Sum.inr (k_Y, [Value.ref (ad2 (2, y, 0)), Value.ref (ad2 (3, y, 0)), Value.ref (ad2 (4, y, 0)), Value.int (nI (s_n σ y + 1)), Value.int (nI (s_nc σ y))]) = Sum.inr (k_Y, [Value.ref (ad2 (2, y, 0)), Value.ref (ad2 (3, y, 0)), Value.ref (ad2 (4, y, 0)), Value.int (nI (s_n (yo_add σ y k a b) y)), Value.int (nI (s_nc (yo_add σ y k a b) y))])
    rw [hcn, hcc, if_pos rfl]
  · rw [yu_n _ _ q1]
    by_cases q2 : q = (2, y, 0)
    · subst q2
      rw [yu_s]
      show Sum.inl (cc.2.1, 10, Sum.inr (Sum.inr (Sum.inr (Sum.inr (va_up (fun j => if j < s_n σ y then some (ad2 (5, y, j)) else none) (s_n σ y) (some (ad2 (5, y, s_n σ y)))))))) = Sum.inl (cc.2.1, 10, Sum.inr (Sum.inr (Sum.inr (Sum.inr (fun j => if j < s_n (yo_add σ y k a b) y then some (ad2 (5, y, j)) else none)))))
      have e : va_up (fun j => if j < s_n σ y then some (ad2 (5, y, j)) else none) (s_n σ y) (some (ad2 (5, y, s_n σ y))) = fun j => if j < s_n (yo_add σ y k a b) y then some (ad2 (5, y, j)) else none := by
        funext j
        rw [hcn, if_pos rfl]
        unfold va_up
        by_cases h : j = s_n σ y
        · rw [if_pos h, if_pos (by omega), h]
        · rw [if_neg h]
          show (if j < s_n σ y then some (ad2 (5, y, j)) else none) = _
          by_cases h2 : j < s_n σ y
          · rw [if_pos h2, if_pos (by omega)]
          · rw [if_neg h2, if_neg (by omega)]
      rw [e]
    · rw [yu_n _ _ q2]
      have nic : ∀ j, s_ic σ y (s_n σ y) j = none := fun j => by
        cases e : s_ic σ y (s_n σ y) j with
        | none => rfl
        | some c => exact absurd (hi.2.2.2.2.1 _ _ _ e).1 (Nat.lt_irrefl _)
      have noc : ∀ j, s_oc σ y (s_n σ y) j = none := fun j => by
        cases e : s_oc σ y (s_n σ y) j with
        | none => rfl
        | some c => exact absurd (hi.2.2.2.2.2.1 _ _ _ e).1 (Nat.lt_irrefl _)
      by_cases q5 : q = (5, y, s_n σ y)
      · subst q5
        rw [yu_s]
        show _ = Sum.inr (k_A, [Value.int (nI (s_ac (yo_add σ y k a b) y (s_n σ y)).1), Value.int (s_ac (yo_add σ y k a b) y (s_n σ y)).2.1, Value.int (s_ac (yo_add σ y k a b) y (s_n σ y)).2.2.1, Value.ref (ad2 (6, y, s_n σ y)), Value.ref (ad2 (7, y, s_n σ y)), Value.ref (ad2 (8, y, s_n σ y)), Value.int (nI (s_ac (yo_add σ y k a b) y (s_n σ y)).2.2.2.1), Value.int (nI (s_ac (yo_add σ y k a b) y (s_n σ y)).2.2.2.2)])
        rw [hac, if_pos ⟨rfl, rfl⟩]
        rfl
      · rw [yu_n _ _ q5]
        by_cases q8 : q = (8, y, s_n σ y)
        · subst q8
          rw [yu_s]
          show _ = Sum.inl (cc.1, yt_rows (s_ac (yo_add σ y k a b) y (s_n σ y)).1, Sum.inl (s_rw (yo_add σ y k a b) y (s_n σ y)))
          rw [hac, hrw, if_pos ⟨rfl, rfl⟩, if_pos ⟨rfl, rfl⟩]
        · rw [yu_n _ _ q8]
          by_cases q7 : q = (7, y, s_n σ y)
          · subst q7
            rw [yu_s]
            show _ = Sum.inl (cc.2.2, 2, Sum.inr (Sum.inr (Sum.inr (Sum.inr (fun j => (s_oc σ y (s_n σ y) j).map (fun c => ad2 (9, y, c)))))))
            rw [show (fun j => (s_oc σ y (s_n σ y) j).map (fun c => ad2 (9, y, c))) = fun _ => none from funext fun j => by rw [noc j]; rfl]
          · rw [yu_n _ _ q7]
            by_cases q6 : q = (6, y, s_n σ y)
            · subst q6
              rw [yu_s]
              show _ = Sum.inl (cc.2.2, 2, Sum.inr (Sum.inr (Sum.inr (Sum.inr (fun j => (s_ic σ y (s_n σ y) j).map (fun c => ad2 (9, y, c)))))))
              rw [show (fun j => (s_ic σ y (s_n σ y) j).map (fun c => ad2 (9, y, c))) = fun _ => none from funext fun j => by rw [nic j]; rfl]
            · rw [yu_n _ _ q6]
              have hq' : q ∈ LL := by simpa [q5, q6, q7, q8] using hq
              have hl := (hLL q).mp hq'
              obtain ⟨f, z, i⟩ := q
              match f, hl, q1, q2, q5, q8 with
              | 0, _, _, _, _, _ => rfl
              | 1, hl, q1, _, _, _ =>
                have hz : z ≠ y := fun h => q1 (by rw [h, hl.2])
                show Sum.inr (k_Y, [_, _, _, Value.int (nI (s_n σ z)), Value.int (nI (s_nc σ z))]) = Sum.inr (k_Y, [_, _, _, Value.int (nI (s_n (yo_add σ y k a b) z)), Value.int (nI (s_nc (yo_add σ y k a b) z))])
                rw [hcn, hcc, if_neg hz]
              | 2, hl, _, q2, _, _ =>
                have hz : z ≠ y := fun h => q2 (by rw [h, hl.2])
                show Sum.inl (cc.2.1, 10, Sum.inr (Sum.inr (Sum.inr (Sum.inr (fun j => if j < s_n σ z then some (ad2 (5, z, j)) else none))))) = Sum.inl (cc.2.1, 10, Sum.inr (Sum.inr (Sum.inr (Sum.inr (fun j => if j < s_n (yo_add σ y k a b) z then some (ad2 (5, z, j)) else none)))))
                rw [hcn, if_neg hz]
              | 3, hl, _, _, _, _ =>
                show Sum.inl (cc.2.2, 16, Sum.inr (Sum.inr (Sum.inr (Sum.inr (fun j => if j < s_nc σ z then some (ad2 (9, z, j)) else none))))) = Sum.inl (cc.2.2, 16, Sum.inr (Sum.inr (Sum.inr (Sum.inr (fun j => if j < s_nc (yo_add σ y k a b) z then some (ad2 (9, z, j)) else none)))))
                rw [hcc]
              | 4, _, _, _, _, _ => rfl
              | 5, hl, _, _, q5, _ =>
                show Sum.inr (k_A, [Value.int (nI (s_ac σ z i).1), Value.int (s_ac σ z i).2.1, Value.int (s_ac σ z i).2.2.1, _, _, _, Value.int (nI (s_ac σ z i).2.2.2.1), Value.int (nI (s_ac σ z i).2.2.2.2)]) = Sum.inr (k_A, [Value.int (nI (s_ac (yo_add σ y k a b) z i).1), Value.int (s_ac (yo_add σ y k a b) z i).2.1, Value.int (s_ac (yo_add σ y k a b) z i).2.2.1, _, _, _, Value.int (nI (s_ac (yo_add σ y k a b) z i).2.2.2.1), Value.int (nI (s_ac (yo_add σ y k a b) z i).2.2.2.2)])
                rw [hac, if_neg (fun h => q5 (by rw [h.1, h.2]))]
              | 6, _, _, _, _, _ => rfl
              | 7, _, _, _, _, _ => rfl
              | 8, hl, _, _, _, q8 =>
                show Sum.inl (cc.1, yt_rows (s_ac σ z i).1, Sum.inl (s_rw σ z i)) = Sum.inl (cc.1, yt_rows (s_ac (yo_add σ y k a b) z i).1, Sum.inl (s_rw (yo_add σ y k a b) z i))
                rw [hac, hrw, if_neg (fun h => q8 (by rw [h.1, h.2])), if_neg (fun h => q8 (by rw [h.1, h.2]))]
              | 9, _, _, _, _, _ => rfl
              | 10, _, _, _, _, _ => rfl
set_option maxHeartbeats 4000000 in
set_option maxRecDepth 100000 in
theorem c_Y_addActor_no (l : Launch) (D : va_G) (cc : ClassId × ClassId × ClassId) (ad : yl → Nat) (LL : List yl) (X : va_W) (b0 sz : Nat) (σ : ys) (hLL : ∀ q, q ∈ LL ↔ yL σ q) (y : Nat) (hy : y < 2) (hi : yI σ y) (x a b : Int32) (hno : x < 0 ∨ nI 9 ≤ x ∨ 10 ≤ s_n σ y) : Met l y_Y_addActor w_Y_addActor ({ frames := 2, cells := 0, slots := 0, locals := 35 }) (yPr D cc b0 [.ref (ad (1, y, 0)), .int x, .int a, .int b] (yW cc ad LL X σ) sz) (yQi D (yW cc ad LL X σ) sz (-1) (yW cc ad LL X σ)) 0 0 (va_A (yW cc ad LL X σ) sz) := by
  have hL : ∀ q, yL σ q → q ∈ LL := fun q h => (hLL q).mpr h
  have g1 : (1, y, 0) ∈ LL := hL _ ⟨hy, rfl⟩
  have g2 : (2, y, 0) ∈ LL := hL _ ⟨hy, rfl⟩
  have g3 : (3, y, 0) ∈ LL := hL _ ⟨hy, rfl⟩
  have g4 : (4, y, 0) ∈ LL := hL _ ⟨hy, rfl⟩
  have hn10 := hi.1.1
  have hc16 := hi.2.1
  refine y_ofW (cc := b_Y_addActor) (maxL := 4) (ret := (some .int)) (by decide) rfl (Nat.le_of_ble_eq_true rfl) ?_
  intro pv ev sv mv bv tv cv ls hI hsz hw hl
  obtain ⟨hx, hb, hr, hml, hts, hown, hlocks, hnm, hK, hAb, hb0, hA⟩ := id hI
  have ht : ∀ w ∈ lg_tbl, w.before _ sv = true := fun w h => hts w (List.mem_cons_of_mem _ h)
  have hl : lv_has ls 4 [(0, .ref (ad (1, y, 0))), (1, .int x), (2, .int a), (3, .int b)] := hl
  refine lv_iload_n hx hb d_Y_addActor_0 rfl (lv_at hl 1 rfl) ?_
  refine lv_if_lt (tgt := 19) hx hb d_Y_addActor_1 (by decide) (fun c_1 => ?_) (fun c_1 => ?_)
  · refine lv_iconst (v := (-1)) hx hb d_Y_addActor_19 (by decide) ?_
    exact ye_i hI () rfl hw d_Y_addActor_20
  · refine lv_iload_n hx hb d_Y_addActor_4 rfl (lv_at hl 1 rfl) ?_
    refine lv_bipush (v := (nI 9)) hx hb d_Y_addActor_5 (by decide) ?_
    refine lv_icmp_ge (tgt := 19) hx hb d_Y_addActor_7 (by decide) (fun c_7 => ?_) (fun c_7 => ?_)
    · refine lv_iconst (v := (-1)) hx hb d_Y_addActor_19 (by decide) ?_
      exact ye_i hI () rfl hw d_Y_addActor_20
    · refine lv_aload_n hx hb d_Y_addActor_10 rfl (lv_at hl 0 rfl) ?_
      refine yr_get (C := R_Y) (T := F_Y) (N := 5) (ci := k_Y) hx hb ht j_Y hown hK.1 hw (by assumption) (by rfl) rfl 3 (by decide) (ht _ mf_Y_27) (fun _ h9 => h9) (by rfl) d_Y_addActor_11 ?_
      refine lv_bipush (v := (nI 10)) hx hb d_Y_addActor_14 (by decide) ?_
      refine lv_icmp_lt (tgt := 21) hx hb d_Y_addActor_16 (by decide) (fun c_16 => by exact (hno.elim (fun h => absurd h c_1) (fun h => h.elim (fun h => absurd h c_7) (fun h => absurd c_16 (nI_nlt h (by omega)))))) (fun c_16 => ?_)
      refine lv_iconst (v := (-1)) hx hb d_Y_addActor_19 (by decide) ?_
      exact ye_i hI () rfl hw d_Y_addActor_20
set_option maxHeartbeats 4000000 in
set_option maxRecDepth 100000 in
theorem c_Y_addActor (l : Launch) (D : va_G) (cc : ClassId × ClassId × ClassId) (ad : yl → Nat) (LL : List yl) (X : va_W) (b0 sz : Nat) (σ : ys) (hLL : ∀ q, q ∈ LL ↔ yL σ q) (y : Nat) (hy : y < 2) (hi : yI σ y) (hIo : ∀ z, yI σ z ∨ 2 ≤ z) (k : Nat) (hk : k < 9) (hn : s_n σ y < 10) (a b : Int32) : Met l y_Y_addActor w_Y_addActor ({ frames := 2, cells := 4, slots := 72, locals := 35 }) (yPr D cc b0 [.ref (ad (1, y, 0)), .int (nI k), .int a, .int b] (yW cc ad LL X σ) sz) (va_Qi (fun r (u : yl → Nat) => r = nI (s_n σ y) ∧ ∀ z, z ∈ LL → u z = ad z) (yB D ycl (yW cc ad LL X σ) sz (fun u => yW cc u ((((LL ++ [(5, y, s_n σ y)]) ++ [(6, y, s_n σ y)]) ++ [(7, y, s_n σ y)]) ++ [(8, y, s_n σ y)]) X (yo_add σ y k a b))) (va_A (yW cc ad LL X σ) sz)) 4 72 (va_A (yW cc ad LL X σ) sz) := by
  have hL : ∀ q, yL σ q → q ∈ LL := fun q h => (hLL q).mpr h
  have g1 : (1, y, 0) ∈ LL := hL _ ⟨hy, rfl⟩
  have g2 : (2, y, 0) ∈ LL := hL _ ⟨hy, rfl⟩
  have g3 : (3, y, 0) ∈ LL := hL _ ⟨hy, rfl⟩
  have g4 : (4, y, 0) ∈ LL := hL _ ⟨hy, rfl⟩
  have hn10 := hi.1.1
  have hc16 := hi.2.1
  refine y_ofW (cc := b_Y_addActor) (maxL := 4) (ret := (some .int)) (by decide) rfl (Nat.le_of_ble_eq_true rfl) ?_
  intro pv ev sv mv bv tv cv ls hI hsz hw hl
  generalize hargs : ([.ref (ad (1, y, 0)), .int (nI k), .int a, .int b] : List Value).toArray = args at hI ⊢
  obtain ⟨hx, hb, hr, hml, hts, hown, hlocks, hnm, hK, hAb, hb0, hA⟩ := id hI
  have ht : ∀ w ∈ lg_tbl, w.before _ sv = true := fun w h => hts w (List.mem_cons_of_mem _ h)
  have hl : lv_has ls 4 [(0, .ref (ad (1, y, 0))), (1, .int (nI k)), (2, .int a), (3, .int b)] := hl
  refine lv_iload_n hx hb d_Y_addActor_0 rfl (lv_at hl 1 rfl) ?_
  refine lv_if_lt (tgt := 19) hx hb d_Y_addActor_1 (by decide) (fun c_1 => by exact absurd c_1 (nI_pos (by omega))) (fun c_1 => ?_)
  refine lv_iload_n hx hb d_Y_addActor_4 rfl (lv_at hl 1 rfl) ?_
  refine lv_bipush (v := (nI 9)) hx hb d_Y_addActor_5 (by decide) ?_
  refine lv_icmp_ge (tgt := 19) hx hb d_Y_addActor_7 (by decide) (fun c_7 => by exact absurd ((nI_leI (by omega) (by omega)).mp c_7) (by omega)) (fun c_7 => ?_)
  refine lv_aload_n hx hb d_Y_addActor_10 rfl (lv_at hl 0 rfl) ?_
  refine yr_get (C := R_Y) (T := F_Y) (N := 5) (ci := k_Y) hx hb ht j_Y hown hK.1 hw (by assumption) (by rfl) rfl 3 (by decide) (ht _ mf_Y_27) (fun _ h9 => h9) (by rfl) d_Y_addActor_11 ?_
  refine lv_bipush (v := (nI 10)) hx hb d_Y_addActor_14 (by decide) ?_
  refine lv_icmp_lt (tgt := 21) hx hb d_Y_addActor_16 (by decide) (fun c_16 => ?_) (fun c_16 => by exact absurd (nI_lt hn (by omega)) c_16)
  refine lv_aload_n hx hb d_Y_addActor_21 rfl (lv_at hl 0 rfl) ?_
  refine yr_get (C := R_Y) (T := F_Y) (N := 5) (ci := k_Y) hx hb ht j_Y hown hK.1 hw (by assumption) (by rfl) rfl 0 (by decide) (ht _ mf_Y_11) (fun _ h9 => h9) (by rfl) d_Y_addActor_22 ?_
  refine lv_aload_n hx hb d_Y_addActor_25 rfl (lv_at hl 0 rfl) ?_
  refine yr_get (C := R_Y) (T := F_Y) (N := 5) (ci := k_Y) hx hb ht j_Y hown hK.1 hw (by assumption) (by rfl) rfl 3 (by decide) (ht _ mf_Y_27) (fun _ h9 => h9) (by rfl) d_Y_addActor_26 ?_
  refine yr_new (fs := [.int 0, .int 0, .int 0, .null, .null, .null, .int 0, .int 0]) (C := R_A) (T := F_A) (N := 8) (ci := k_A) hx hb ht j_A t_A t_A_ok hown (ht _ mk_Y_9) (ht _ mn_A) (ht _ mi_A) hK.1 hw hA (5, y, s_n σ y) (fun q => absurd ((hLL _).mp q).2 (Nat.lt_irrefl _)) rfl (fun j hj => by rcases (show j = 0 ∨ j = 1 ∨ j = 2 ∨ j = 3 ∨ j = 4 ∨ j = 5 ∨ j = 6 ∨ j = 7 by omega) with rfl | rfl | rfl | rfl | rfl | rfl | rfl | rfl <;> rfl) (Nat.le_of_ble_eq_true rfl) (Nat.le_of_ble_eq_true rfl) d_Y_addActor_29 (fun ad1 H hag1 hw => ?_)
  rw [← hag1 _ g2]
  rw [← hag1 _ g1] at hl
  refine lv_dup hx hb d_Y_addActor_32 rfl ?_
  refine lv_iload_n hx hb d_Y_addActor_33 rfl (lv_at hl 1 rfl) ?_
  refine lv_iload_n hx hb d_Y_addActor_34 rfl (lv_at hl 2 rfl) ?_
  refine lv_iload_n hx hb d_Y_addActor_35 rfl (lv_at hl 3 rfl) ?_
  refine yc_v (va_runI (As := [.int _, .int _, .int _]) (rest := [.ref _, .int _, .ref _]) ⟨hx, hb, hml, hown, hts⟩ (c_A_init l D cc ad1 (LL ++ [(5, y, s_n σ y)]) (yu (yG cc σ ad) (5, y, s_n σ y) (.inr (k_A, [.int 0, .int 0, .int 0, .null, .null, .null, .int 0, .int 0]))) X b0 _ y (s_n σ y) (by simp) (by intro q; rcases List.mem_append.mp q with q | q; exact absurd ((hLL _).mp q).2 (Nat.lt_irrefl _); simp at q) (by intro q; rcases List.mem_append.mp q with q | q; exact absurd ((hLL _).mp q).2 (Nat.lt_irrefl _); simp at q) (by intro q; rcases List.mem_append.mp q with q | q; exact absurd ((hLL _).mp q).2 (Nat.lt_irrefl _); simp at q) (yu_s _ _ _) k hk a b) (cwI 3 hts (yg_sub mc_A_init) rfl rfl rfl (ht _ mi_A) (ht _ ml_Y_34) (ht _ mm_A_init) rfl (by decide +kernel) ⟨Nat.le_of_ble_eq_true rfl, Nat.le_of_ble_eq_true rfl⟩) (y_preS hI hw) rfl rfl hl.1 rfl (lv_room (Nat.le_of_ble_eq_true rfl)) d_Y_addActor_36 ⟨Nat.le_of_ble_eq_true rfl, Nat.le_of_ble_eq_true rfl⟩) hw hA (fun ad2 H locs hag2 hw => ?_)
  have m1 : (1, y, 0) ∈ LL ++ [(5, y, s_n σ y)] := by simp [g1]
  have m2 : (2, y, 0) ∈ LL ++ [(5, y, s_n σ y)] := by simp [g2]
  have m5 : (5, y, s_n σ y) ∈ LL ++ [(5, y, s_n σ y)] := by simp
  rw [← hag2 _ m2, ← hag2 _ m5]
  rw [← hag2 _ m1] at hl
  have hag : ∀ z, z ∈ LL → ad2 z = ad z := fun z hz => by rw [hag2 z (by simp [hz]), hag1 z hz]
  have hw := y_same (g' := (yu (yu (yu (yu (yG cc σ ad2) (6, y, s_n σ y) (.inl (cc.2.2, 2, .inr (.inr (.inr (.inr (fun _ => none))))))) (7, y, s_n σ y) (.inl (cc.2.2, 2, .inr (.inr (.inr (.inr (fun _ => none))))))) (8, y, s_n σ y) (.inl (cc.1, yt_rows k, .inl (fun _ => 0)))) (5, y, s_n σ y) (.inr (k_A, [.int (nI k), .int a, .int b, .ref (ad2 (6, y, s_n σ y)), .ref (ad2 (7, y, s_n σ y)), .ref (ad2 (8, y, s_n σ y)), .int 0, .int 0])))) hw (add_g1 hLL hIo hag)
  have f1 : (1, y, 0) ∈ ((((LL ++ [(5, y, s_n σ y)]) ++ [(6, y, s_n σ y)]) ++ [(7, y, s_n σ y)]) ++ [(8, y, s_n σ y)]) := by simp [g1]
  have f2 : (2, y, 0) ∈ ((((LL ++ [(5, y, s_n σ y)]) ++ [(6, y, s_n σ y)]) ++ [(7, y, s_n σ y)]) ++ [(8, y, s_n σ y)]) := by simp [g2]
  have f5 : (5, y, s_n σ y) ∈ ((((LL ++ [(5, y, s_n σ y)]) ++ [(6, y, s_n σ y)]) ++ [(7, y, s_n σ y)]) ++ [(8, y, s_n σ y)]) := by simp
  refine yr_astq (r := (R_A, F_A, 8)) (ci := k_A) hx hb hK.1 hw f2 (by rw [yu_n _ _ (by simp), yu_n _ _ (by simp), yu_n _ _ (by simp), yu_n _ _ (by simp)]; rfl) 1 rfl f5 (yu_s _ _ _) rfl (vp_in_nI (by omega) (by omega)) d_Y_addActor_39 (fun H locs hw => ?_)
  rw [nI_clamp (by omega)] at hw
  refine lv_aload_n hx hb d_Y_addActor_40 rfl (lv_at hl 0 rfl) ?_
  refine lv_dup hx hb d_Y_addActor_41 rfl ?_
  refine yr_get (C := R_Y) (T := F_Y) (N := 5) (ci := k_Y) hx hb ht j_Y hown hK.1 hw f1 (by rw [yu_n _ _ (by simp), yu_n _ _ (by simp), yu_n _ _ (by simp), yu_n _ _ (by simp), yu_n _ _ (by simp)]; rfl) rfl 3 (by decide) (ht _ mf_Y_27) (fun _ h9 => h9) (by rfl) d_Y_addActor_42 ?_
  refine lv_iconst (v := 1) hx hb d_Y_addActor_45 (by decide) ?_
  refine lv_iadd hx hb d_Y_addActor_46 ?_
  rw [nI_1]
  refine yr_put (ty := .int) (C := R_Y) (T := F_Y) (N := 5) (ci := k_Y) hx hb ht j_Y t_Y t_Y_ok n_Y hown hK.1 hw f1 (by rw [yu_n _ _ (by simp), yu_n _ _ (by simp), yu_n _ _ (by simp), yu_n _ _ (by simp), yu_n _ _ (by simp)]; rfl) rfl 3 (by decide) (ht _ mf_Y_27) (fun _ h9 => h9) rfl (by decide +kernel) rfl rfl (Nat.le_of_ble_eq_true rfl) d_Y_addActor_47 (fun H locs hw => ?_)
  refine lv_aload_n hx hb d_Y_addActor_50 rfl (lv_at hl 0 rfl) ?_
  refine yr_get (C := R_Y) (T := F_Y) (N := 5) (ci := k_Y) hx hb ht j_Y hown hK.1 hw f1 (yu_s _ _ _) rfl 3 (by decide) (ht _ mf_Y_27) (fun _ h9 => h9) (by rfl) d_Y_addActor_51 ?_
  refine lv_iconst (v := 1) hx hb d_Y_addActor_54 (by decide) ?_
  refine lv_isub hx hb d_Y_addActor_55 ?_
  rw [nI_pred]
  exact ye_i hI ad2 ⟨rfl, hag⟩ (y_same hw (add_g2 hLL hi hn)) d_Y_addActor_56
