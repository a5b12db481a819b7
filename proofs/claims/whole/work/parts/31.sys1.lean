/-! FULL CHANNELS; WHICH NUMBERS ARE THERE; ANSWERS -/
def yff (p : Nat → Bool) (k : Int32) : Nat → Nat → Nat → Int32
  | 0, _, _ => -1
  | m + 1, i, sn => if p i = true then (if nI sn = k then nI i else yff p k m (i + 1) (sn + 1)) else yff p k m (i + 1) sn
theorem yff_0 {p : Nat → Bool} {k : Int32} {m i sn : Nat} (h : p i = false) : yff p k (m + 1) i sn = yff p k m (i + 1) sn := by
  show (if p i = true then _ else _) = _
  rw [if_neg (by rw [h]; decide)]
theorem yff_1 {p : Nat → Bool} {k : Int32} {m i sn : Nat} (h : p i = true) (h2 : ¬ nI sn = k) : yff p k (m + 1) i sn = yff p k m (i + 1) (sn + 1) := by
  show (if p i = true then _ else _) = _
  rw [if_pos h, if_neg h2]
theorem yff_2 {p : Nat → Bool} {k : Int32} {m i sn : Nat} (h : p i = true) (h2 : nI sn = k) : yff p k (m + 1) i sn = nI i := by
  show (if p i = true then _ else _) = _
  rw [if_pos h, if_pos h2]
theorem ysplit (x : Int32) {n : Nat} (hn : n < 2 ^ 31) : (x < 0 ∨ nI n ≤ x) ∨ ∃ j, j < n ∧ x = nI j := by
  rcases pk_ix x hn with h | h | h
  · exact Or.inl (Or.inl h)
  · exact Or.inl (Or.inr h)
  · exact Or.inr h
def yin (x : Int32) (n : Nat) : Option Nat := if x < 0 ∨ nI n ≤ x then none else some x.toNatClampNeg
theorem yin_no {x : Int32} {n : Nat} (h : x < 0 ∨ nI n ≤ x) : yin x n = none := if_pos h
theorem yin_some {j n : Nat} (h : j < n) (hn : n < 2 ^ 31) : yin (nI j) n = some j := by
  unfold yin
  rw [if_neg (fun q => q.elim (fun a => nI_pos (by omega) a) (fun a => nI_ge h hn a)), nI_clamp (by omega)]
set_option maxHeartbeats 4000000 in
set_option maxRecDepth 100000 in
/-- findFull -/
theorem c_Y_findFull (l : Launch) (D : va_G) (cc : ClassId × ClassId × ClassId) (ad : yl → Nat) (LL : List yl) (X : va_W) (b0 sz : Nat) (σ : ys) (hL : ∀ q, yL σ q → q ∈ LL) (y : Nat) (hy : y < 2) (hi : yI σ y) (x : Int32) : Met l y_Y_findFull w_Y_findFull ({ frames := 1, cells := 0, slots := 0, locals := 21 }) (yPr D cc b0 [.ref (ad (1, y, 0)), .int x] (yW cc ad LL X σ) sz) (yQi D (yW cc ad LL X σ) sz (yff (fun c => decide ((s_ch σ y c).1 ≤ (s_ch σ y c).2.2)) x (s_nc σ y) 0 0) (yW cc ad LL X σ)) 0 0 (va_A (yW cc ad LL X σ) sz) := by
  have g1 : (1, y, 0) ∈ LL := hL _ ⟨hy, rfl⟩
  have g2 : (2, y, 0) ∈ LL := hL _ ⟨hy, rfl⟩
  have g3 : (3, y, 0) ∈ LL := hL _ ⟨hy, rfl⟩
  have g4 : (4, y, 0) ∈ LL := hL _ ⟨hy, rfl⟩
  have hn10 := hi.1.1
  have hc16 := hi.2.1
  refine y_ofW (cc := b_Y_findFull) (maxL := 5) (ret := (some .int)) (by decide) rfl (Nat.le_of_ble_eq_true rfl) ?_
  intro pv ev sv mv bv tv cv ls hI hsz hw hl
  obtain ⟨hx, hb, hr, hml, hts, hown, hlocks, hnm, hK, hAb, hb0, hA⟩ := id hI
  have ht : ∀ w ∈ lg_tbl, w.before _ sv = true := fun w h => hts w (List.mem_cons_of_mem _ h)
  have hl : lv_has ls 5 [(0, .ref (ad (1, y, 0))), (1, .int x)] := hl
  have loop : ∀ (f i sn : Nat) (H : Heap) (locs : List Loc) (ls : Array Slot), i + f = s_nc σ y → sn ≤ i → yff (fun c => decide ((s_ch σ y c).1 ≤ (s_ch σ y c).2.2)) x f i sn = yff (fun c => decide ((s_ch σ y c).1 ≤ (s_ch σ y c).2.2)) x (s_nc σ y) 0 0 → yH D ycl (va_A (yW cc ad LL X σ) sz) sv.heap H locs (yW cc ad LL X σ) → lv_has ls 5 [(3, .int (nI i)), (2, .int (nI sn)), (0, .ref (ad (1, y, 0))), (1, .int x)] → W pv l ev (headSpec w_Y_findFull ({ frames := 1, cells := 0, slots := 0, locals := 21 })).room sv mv [.ref (ad (1, y, 0)), .int x].toArray bv tv cv H locs 0 0 (MQ bv (yQi D (yW cc ad LL X σ) sz (yff (fun c => decide ((s_ch σ y c).1 ≤ (s_ch σ y c).2.2)) x (s_nc σ y) 0 0) (yW cc ad LL X σ)) [.ref (ad (1, y, 0)), .int x].toArray sv 0 0 (va_A (yW cc ad LL X σ) sz)) (F0 mv 4 ls []) := by
    intro f
    induction f with
    | zero =>
      intro i sn H locs ls hik hsn hv hw hl
      refine lv_iload_n hx hb d_Y_findFull_4 rfl (lv_at hl 0 rfl) ?_
      refine lv_aload_n hx hb d_Y_findFull_5 rfl (lv_at hl 2 rfl) ?_
      refine yr_get (C := R_Y) (T := F_Y) (N := 5) (ci := k_Y) hx hb ht j_Y hown hK.1 hw (by assumption) (by rfl) rfl 4 (by decide) (ht _ mf_Y_31) (fun _ h9 => h9) (by rfl) d_Y_findFull_6 ?_
      refine lv_icmp_ge (tgt := 48) hx hb d_Y_findFull_9 (by decide) (fun c_9 => ?_) (fun c_9 => by exact absurd (nI_le (by omega) (by omega)) c_9)
      refine lv_iconst (v := (-1)) hx hb d_Y_findFull_48 (by decide) ?_
      exact ye_i hI () (by rw [← hv]; rfl) hw d_Y_findFull_49
    | succ f ih =>
      intro i sn H locs ls hik hsn hv hw hl
      have hd : i < s_nc σ y := by omega
      have h9 : (9, y, i) ∈ LL := hL _ ⟨hy, hd⟩
      have h10 : (10, y, i) ∈ LL := hL _ ⟨hy, hd⟩
      obtain ⟨b1, b2, b3, b4⟩ := hi.2.2.2.1 i
      refine lv_iload_n hx hb d_Y_findFull_4 rfl (lv_at hl 0 rfl) ?_
      refine lv_aload_n hx hb d_Y_findFull_5 rfl (lv_at hl 2 rfl) ?_
      refine yr_get (C := R_Y) (T := F_Y) (N := 5) (ci := k_Y) hx hb ht j_Y hown hK.1 hw (by assumption) (by rfl) rfl 4 (by decide) (ht _ mf_Y_31) (fun _ h9 => h9) (by rfl) d_Y_findFull_6 ?_
      refine lv_icmp_ge (tgt := 48) hx hb d_Y_findFull_9 (by decide) (fun c_9 => by exact absurd ((nI_leI (by omega) (by omega)).mp c_9) (Nat.not_le.mpr hd)) (fun c_9 => ?_)
      refine lv_aload_n hx hb d_Y_findFull_12 rfl (lv_at hl 2 rfl) ?_
      refine lv_iload_n hx hb d_Y_findFull_13 rfl (lv_at hl 0 rfl) ?_
      refine yc_q (va_runV (As := [.int _]) (rest := []) ⟨hx, hb, hml, hown, hts⟩ (c_Y_findChannel l D cc ad LL X b0 _ σ hL y hy hi i hd) (cwV 1 hts (yg_call mc_Y_findChannel ml_Y_61 mm_Y_findChannel ms_Y_findChannel mi_Y) rfl rfl rfl (by decide +kernel) ⟨Nat.le_of_ble_eq_true rfl, Nat.le_of_ble_eq_true rfl⟩) (y_preV hI hw (y_recv hK.1 hw g1 (by rfl) rfl)) rfl rfl hl.1 rfl (lv_room (Nat.le_of_ble_eq_true rfl)) d_Y_findFull_14 ⟨Nat.le_of_ble_eq_true rfl, Nat.le_of_ble_eq_true rfl⟩) hw hA (fun r u H locs he hw => ?_)
      subst he
      rw [yrf_s]
      refine lv_astore (lv' := [(4, .ref _), (3, .int _), (2, .int _), (0, .ref _), (1, .int _)]) hx hb d_Y_findFull_17 hl (by decide) rfl (fun ls hl => ?_)
      refine lv_aload hx hb d_Y_findFull_19 (lv_at hl 0 rfl) ?_
      refine lv_ifnull hx hb d_Y_findFull_21 ?_
      refine lv_aload hx hb d_Y_findFull_24 (lv_at hl 0 rfl) ?_
      refine yc_i (va_runV (As := []) (rest := []) ⟨hx, hb, hml, hown, hts⟩ (c_C_isFull l D cc ad LL X b0 _ σ y i h9 h10 ⟨by omega, by omega, by omega⟩) (cwV 0 hts (yg_call mc_C_isFull ml_Y_65 mm_C_isFull ms_C_isFull mi_C) rfl rfl rfl (by decide +kernel) ⟨Nat.le_of_ble_eq_true rfl, Nat.le_of_ble_eq_true rfl⟩) (y_preV hI hw (y_recv hK.1 hw h9 (by rfl) rfl)) rfl rfl hl.1 rfl (lv_room (Nat.le_of_ble_eq_true rfl)) d_Y_findFull_26 ⟨Nat.le_of_ble_eq_true rfl, Nat.le_of_ble_eq_true rfl⟩) hw hA (fun r u H locs he hw => ?_)
      subst he
      refine lv_if_eq (tgt := 42) hx hb d_Y_findFull_29 (by decide) (fun c_29 => ?_) (fun c_29 => ?_)
      · have e1 := yb_0 c_29
        refine lv_iinc (v := nI (i + 1)) (lv' := [(3, .int _), (4, .ref _), (2, .int _), (0, .ref _), (1, .int _)]) hx hb d_Y_findFull_42 hl (k := 1) rfl (yinc i) (by decide) rfl (fun ls hl => ?_)
        refine lv_goto (tgt := 4) hx hb d_Y_findFull_45 (by decide) ?_
        exact ih (i + 1) sn _ _ _ (by omega) (by omega) (by rw [← hv]; exact (yff_0 e1).symm) hw (lv_sub hl [0, 2, 3, 4] rfl)
      · have e1 := yb_1 c_29
        refine lv_iload_n hx hb d_Y_findFull_32 rfl (lv_at hl 2 rfl) ?_
        refine lv_iload_n hx hb d_Y_findFull_33 rfl (lv_at hl 4 rfl) ?_
        refine lv_icmp_ne (tgt := 39) hx hb d_Y_findFull_34 (by decide) (fun c_34 => ?_) (fun c_34 => ?_)
        · refine lv_iinc (v := nI (sn + 1)) (lv' := [(2, .int _), (4, .ref _), (3, .int _), (0, .ref _), (1, .int _)]) hx hb d_Y_findFull_39 hl (k := 2) rfl (yinc sn) (by decide) rfl (fun ls hl => ?_)
          refine lv_iinc (v := nI (i + 1)) (lv' := [(3, .int _), (2, .int _), (4, .ref _), (0, .ref _), (1, .int _)]) hx hb d_Y_findFull_42 hl (k := 2) rfl (yinc i) (by decide) rfl (fun ls hl => ?_)
          refine lv_goto (tgt := 4) hx hb d_Y_findFull_45 (by decide) ?_
          exact ih (i + 1) (sn + 1) _ _ _ (by omega) (by omega) (by rw [← hv]; exact (yff_1 e1 c_34).symm) hw (lv_sub hl [0, 1, 3, 4] rfl)
        · refine lv_iload_n hx hb d_Y_findFull_37 rfl (lv_at hl 1 rfl) ?_
          exact ye_i hI () (by rw [← hv]; exact (yff_2 e1 c_34).symm) hw d_Y_findFull_38
  refine lv_iconst (v := (nI 0)) hx hb d_Y_findFull_0 (by decide) ?_
  refine lv_istore_n (lv' := [(2, .int _), (0, .ref _), (1, .int _)]) hx hb d_Y_findFull_1 rfl hl (by decide) rfl (fun ls hl => ?_)
  refine lv_iconst (v := (nI 0)) hx hb d_Y_findFull_2 (by decide) ?_
  refine lv_istore_n (lv' := [(3, .int _), (2, .int _), (0, .ref _), (1, .int _)]) hx hb d_Y_findFull_3 rfl hl (by decide) rfl (fun ls hl => ?_)
  exact loop (s_nc σ y) 0 0 _ _ _ (by omega) (by omega) rfl hw (lv_sub hl [0, 1, 2, 3] rfl)
set_option maxHeartbeats 4000000 in
set_option maxRecDepth 100000 in
theorem c_S_timesOf (l : Launch) (D : va_G) (cc : ClassId × ClassId × ClassId) (ad : yl → Nat) (LL : List yl) (X : va_W) (b0 sz : Nat) (σ : ys) (hL : ∀ q, yL σ q → q ∈ LL) (y i : Nat) (hy : y < 2) (hn : i < s_n σ y) (hi : yI σ y) : Met l y_S_timesOf w_S_timesOf ({ frames := 1, cells := 0, slots := 0, locals := 20 }) (yPr D cc b0 [.ref (ad (5, y, i))] (yW cc ad LL X σ) sz) (yQi D (yW cc ad LL X σ) sz (nI (s_ac σ y i).2.2.2.2) (yW cc ad LL X σ)) 0 0 (va_A (yW cc ad LL X σ) sz) := by
  have h5 : (5, y, i) ∈ LL := hL _ ⟨hy, hn⟩
  refine y_ofW (cc := b_S_timesOf) (maxL := 1) (ret := (some .int)) (by decide) rfl (Nat.le_of_ble_eq_true rfl) ?_
  intro pv ev sv mv bv tv cv ls hI hsz hw hl
  obtain ⟨hx, hb, hr, hml, hts, hown, hlocks, hnm, hK, hAb, hb0, hA⟩ := id hI
  have ht : ∀ w ∈ lg_tbl, w.before _ sv = true := fun w h => hts w (List.mem_cons_of_mem _ h)
  have hl : lv_has ls 1 [(0, .ref (ad (5, y, i)))] := hl
  refine lv_aload_n hx hb d_S_timesOf_0 rfl (lv_at hl 0 rfl) ?_
  refine lv_ifnonnull (tgt := 8) hx hb d_S_timesOf_1 (by decide) ?_
  refine lv_aload_n hx hb d_S_timesOf_8 rfl (lv_at hl 0 rfl) ?_
  refine yc_i (va_runV (As := []) (rest := []) ⟨hx, hb, hml, hown, hts⟩ (c_A_times l D cc ad LL X b0 _ σ hL y i hy hn hi) (cwV 0 hts (yg_call mc_A_times ml_S_96 mm_A_times ms_A_times mi_A) rfl rfl rfl (by decide +kernel) ⟨Nat.le_of_ble_eq_true rfl, Nat.le_of_ble_eq_true rfl⟩) (y_preV hI hw (y_recv hK.1 hw h5 (by rfl) rfl)) rfl rfl hl.1 rfl (lv_room (Nat.le_of_ble_eq_true rfl)) d_S_timesOf_9 ⟨Nat.le_of_ble_eq_true rfl, Nat.le_of_ble_eq_true rfl⟩) hw hA (fun r u H locs he hw => ?_)
  subst he
  exact ye_i hI () rfl hw d_S_timesOf_12
set_option maxHeartbeats 4000000 in
set_option maxRecDepth 100000 in
theorem c_S_timesOf_null (l : Launch) (D : va_G) (cc : ClassId × ClassId × ClassId) (ad : yl → Nat) (LL : List yl) (X : va_W) (b0 sz : Nat) (σ : ys)  : Met l y_S_timesOf w_S_timesOf ({ frames := 1, cells := 0, slots := 0, locals := 20 }) (yPr D cc b0 [.null] (yW cc ad LL X σ) sz) (yQi D (yW cc ad LL X σ) sz (-1) (yW cc ad LL X σ)) 0 0 (va_A (yW cc ad LL X σ) sz) := by
  refine y_ofW (cc := b_S_timesOf) (maxL := 1) (ret := (some .int)) (by decide) rfl (Nat.le_of_ble_eq_true rfl) ?_
  intro pv ev sv mv bv tv cv ls hI hsz hw hl
  obtain ⟨hx, hb, hr, hml, hts, hown, hlocks, hnm, hK, hAb, hb0, hA⟩ := id hI
  have ht : ∀ w ∈ lg_tbl, w.before _ sv = true := fun w h => hts w (List.mem_cons_of_mem _ h)
  have hl : lv_has ls 1 [(0, .null)] := hl
  refine lv_aload_nN hx hb d_S_timesOf_0 rfl (lv_at hl 0 rfl) ?_
  refine lv_ifnonnullN hx hb d_S_timesOf_1 ?_
  refine lv_iconst (v := (-1)) hx hb d_S_timesOf_4 (by decide) ?_
  refine lv_goto (tgt := 12) hx hb d_S_timesOf_5 (by decide) ?_
  exact ye_i hI () rfl hw d_S_timesOf_12
set_option maxHeartbeats 4000000 in
set_option maxRecDepth 100000 in
theorem c_S_keptValue_null (l : Launch) (D : va_G) (cc : ClassId × ClassId × ClassId) (ad : yl → Nat) (LL : List yl) (X : va_W) (b0 sz : Nat) (σ : ys) (x : Int32) : Met l y_S_keptValue w_S_keptValue ({ frames := 1, cells := 0, slots := 0, locals := 21 }) (yPr D cc b0 [.null, .int x] (yW cc ad LL X σ) sz) (yQl D (yW cc ad LL X σ) sz (-9223372036854775808) (yW cc ad LL X σ)) 0 0 (va_A (yW cc ad LL X σ) sz) := by
  refine y_ofW (cc := b_S_keptValue) (maxL := 2) (ret := (some .long)) (by decide) rfl (Nat.le_of_ble_eq_true rfl) ?_
  intro pv ev sv mv bv tv cv ls hI hsz hw hl
  obtain ⟨hx, hb, hr, hml, hts, hown, hlocks, hnm, hK, hAb, hb0, hA⟩ := id hI
  have ht : ∀ w ∈ lg_tbl, w.before _ sv = true := fun w h => hts w (List.mem_cons_of_mem _ h)
  have hl : lv_has ls 2 [(0, .null), (1, .int x)] := hl
  refine lv_aload_nN hx hb d_S_keptValue_0 rfl (lv_at hl 0 rfl) ?_
  refine lv_ifnullN (tgt := 16) hx hb d_S_keptValue_1 (by decide) ?_
  refine lv_ldc2 hx hb hown (ht _ mq_S_76) d_S_keptValue_16 ?_
  exact ye_l hI () rfl hw d_S_keptValue_19
set_option maxHeartbeats 4000000 in
set_option maxRecDepth 100000 in
theorem c_S_keptValue (l : Launch) (D : va_G) (cc : ClassId × ClassId × ClassId) (ad : yl → Nat) (LL : List yl) (X : va_W) (b0 sz : Nat) (σ : ys) (hL : ∀ q, yL σ q → q ∈ LL) (y i : Nat) (hy : y < 2) (hn : i < s_n σ y) (hi : yI σ y) (hk6 : (s_ac σ y i).1 = 6) (x : Int32) : Met l y_S_keptValue w_S_keptValue ({ frames := 1, cells := 0, slots := 0, locals := 21 }) (yPr D cc b0 [.ref (ad (5, y, i)), .int x] (yW cc ad LL X σ) sz) (yQl D (yW cc ad LL X σ) sz (match yin x (s_ac σ y i).2.2.2.2 with | none => (-9223372036854775808) | some j => (s_rw σ y i j).toInt64) (yW cc ad LL X σ)) 0 0 (va_A (yW cc ad LL X σ) sz) := by
  have h5 : (5, y, i) ∈ LL := hL _ ⟨hy, hn⟩
  obtain ⟨a1, a2, a3, a4, a5⟩ := hi.2.2.1 i
  have h60 := a5 hk6
  rcases ysplit x (n := (s_ac σ y i).2.2.2.2) (by omega) with hno | ⟨j, hj, rfl⟩
  · refine y_ofW (cc := b_S_keptValue) (maxL := 2) (ret := (some .long)) (by decide) rfl (Nat.le_of_ble_eq_true rfl) ?_
    intro pv ev sv mv bv tv cv ls hI hsz hw hl
    obtain ⟨hx, hb, hr, hml, hts, hown, hlocks, hnm, hK, hAb, hb0, hA⟩ := id hI
    have ht : ∀ w ∈ lg_tbl, w.before _ sv = true := fun w h => hts w (List.mem_cons_of_mem _ h)
    have hl : lv_has ls 2 [(0, .ref (ad (5, y, i))), (1, .int x)] := hl
    refine lv_aload_n hx hb d_S_keptValue_0 rfl (lv_at hl 0 rfl) ?_
    refine lv_ifnull hx hb d_S_keptValue_1 ?_
    refine lv_iload_n hx hb d_S_keptValue_4 rfl (lv_at hl 1 rfl) ?_
    refine lv_if_lt (tgt := 16) hx hb d_S_keptValue_5 (by decide) (fun c_5 => ?_) (fun c_5 => ?_)
    · refine lv_ldc2 hx hb hown (ht _ mq_S_76) d_S_keptValue_16 ?_
      exact ye_l hI () (by rw [yin_no hno]) hw d_S_keptValue_19
    · refine lv_iload_n hx hb d_S_keptValue_8 rfl (lv_at hl 1 rfl) ?_
      refine lv_aload_n hx hb d_S_keptValue_9 rfl (lv_at hl 0 rfl) ?_
      refine yc_i (va_runV (As := []) (rest := [.int _]) ⟨hx, hb, hml, hown, hts⟩ (c_A_times l D cc ad LL X b0 _ σ hL y i hy hn hi) (cwV 0 hts (yg_call mc_A_times ml_S_96 mm_A_times ms_A_times mi_A) rfl rfl rfl (by decide +kernel) ⟨Nat.le_of_ble_eq_true rfl, Nat.le_of_ble_eq_true rfl⟩) (y_preV hI hw (y_recv hK.1 hw h5 (by rfl) rfl)) rfl rfl hl.1 rfl (lv_room (Nat.le_of_ble_eq_true rfl)) d_S_keptValue_10 ⟨Nat.le_of_ble_eq_true rfl, Nat.le_of_ble_eq_true rfl⟩) hw hA (fun r u H locs he hw => ?_)
      subst he
      refine lv_icmp_lt (tgt := 20) hx hb d_S_keptValue_13 (by decide) (fun c_13 => by exact (hno.elim (fun h => absurd h c_5) (fun h => absurd c_13 (Int32.not_lt.mpr h)))) (fun c_13 => ?_)
      refine lv_ldc2 hx hb hown (ht _ mq_S_76) d_S_keptValue_16 ?_
      exact ye_l hI () (by rw [yin_no hno]) hw d_S_keptValue_19
  · refine y_ofW (cc := b_S_keptValue) (maxL := 2) (ret := (some .long)) (by decide) rfl (Nat.le_of_ble_eq_true rfl) ?_
    intro pv ev sv mv bv tv cv ls hI hsz hw hl
    obtain ⟨hx, hb, hr, hml, hts, hown, hlocks, hnm, hK, hAb, hb0, hA⟩ := id hI
    have ht : ∀ w ∈ lg_tbl, w.before _ sv = true := fun w h => hts w (List.mem_cons_of_mem _ h)
    have hl : lv_has ls 2 [(0, .ref (ad (5, y, i))), (1, .int (nI j))] := hl
    refine lv_aload_n hx hb d_S_keptValue_0 rfl (lv_at hl 0 rfl) ?_
    refine lv_ifnull hx hb d_S_keptValue_1 ?_
    refine lv_iload_n hx hb d_S_keptValue_4 rfl (lv_at hl 1 rfl) ?_
    refine lv_if_lt (tgt := 16) hx hb d_S_keptValue_5 (by decide) (fun c_5 => by exact absurd c_5 (nI_pos (by omega))) (fun c_5 => ?_)
    refine lv_iload_n hx hb d_S_keptValue_8 rfl (lv_at hl 1 rfl) ?_
    refine lv_aload_n hx hb d_S_keptValue_9 rfl (lv_at hl 0 rfl) ?_
    refine yc_i (va_runV (As := []) (rest := [.int _]) ⟨hx, hb, hml, hown, hts⟩ (c_A_times l D cc ad LL X b0 _ σ hL y i hy hn hi) (cwV 0 hts (yg_call mc_A_times ml_S_96 mm_A_times ms_A_times mi_A) rfl rfl rfl (by decide +kernel) ⟨Nat.le_of_ble_eq_true rfl, Nat.le_of_ble_eq_true rfl⟩) (y_preV hI hw (y_recv hK.1 hw h5 (by rfl) rfl)) rfl rfl hl.1 rfl (lv_room (Nat.le_of_ble_eq_true rfl)) d_S_keptValue_10 ⟨Nat.le_of_ble_eq_true rfl, Nat.le_of_ble_eq_true rfl⟩) hw hA (fun r u H locs he hw => ?_)
    subst he
    refine lv_icmp_lt (tgt := 20) hx hb d_S_keptValue_13 (by decide) (fun c_13 => ?_) (fun c_13 => by exact absurd (nI_lt hj (by omega)) c_13)
    refine lv_aload_n hx hb d_S_keptValue_20 rfl (lv_at hl 0 rfl) ?_
    refine lv_iload_n hx hb d_S_keptValue_21 rfl (lv_at hl 1 rfl) ?_
    refine yc_i (va_runV (As := [.int _]) (rest := []) ⟨hx, hb, hml, hown, hts⟩ (c_A_rowValue l D cc ad LL X b0 _ σ hL y i hy hn hi j (by rw [hk6]; show j < 60; omega)) (cwV 1 hts (yg_call mc_A_rowValue ml_S_99 mm_A_rowValue ms_A_rowValue mi_A) rfl rfl rfl (by decide +kernel) ⟨Nat.le_of_ble_eq_true rfl, Nat.le_of_ble_eq_true rfl⟩) (y_preV hI hw (y_recv hK.1 hw h5 (by rfl) rfl)) rfl rfl hl.1 rfl (lv_room (Nat.le_of_ble_eq_true rfl)) d_S_keptValue_22 ⟨Nat.le_of_ble_eq_true rfl, Nat.le_of_ble_eq_true rfl⟩) hw hA (fun r u H locs he hw => ?_)
    subst he
    refine lv_i2l hx hb d_S_keptValue_25 rfl ?_
    exact ye_l hI () (by rw [yin_some hj (by omega)]) hw d_S_keptValue_26
