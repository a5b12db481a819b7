/-! THE REFERENCE: take, give -/
def mo_sh (f : Nat → Int32) (a m : Nat) : Nat → Int32 := fun j => if a ≤ j ∧ j < a + m then f (j + 1) else f j
theorem mo_sh_0 {f : Nat → Int32} {a : Nat} {μ : ms} (h : m_vs μ = f) : mx_vs μ (mo_sh f a 0) = μ := by
  have e : mo_sh f a 0 = f := funext fun j => if_neg (fun q => by omega)
  rw [e, ← h]
  rfl
theorem mo_sh_ge {f : Nat → Int32} {a m j : Nat} (h : a + m ≤ j) : mo_sh f a m j = f j := if_neg (fun q => by omega)
theorem mo_sh_s {f : Nat → Int32} {a m : Nat} : upd (mo_sh f a m) (a + m) (f (a + m + 1)) = mo_sh f a (m + 1) := by
  funext j
  by_cases h : j = a + m
  · subst h
    rw [pk_us]
    unfold mo_sh
    rw [if_pos ⟨by omega, by omega⟩]
  · rw [pk_un h]
    unfold mo_sh
    by_cases h2 : a ≤ j ∧ j < a + m
    · rw [if_pos h2, if_pos ⟨h2.1, by omega⟩]
    · rw [if_neg h2, if_neg (fun q => h2 ⟨q.1, by omega⟩)]
theorem mx_vs_vs {μ : ms} {a b : Nat → Int32} : mx_vs (mx_vs μ a) b = mx_vs μ b := rfl
def mo_take (μ : ms) (y c : Nat) : ms := mx_vs (mx_ct μ (up2 (m_ct μ) y c (m_ct μ y c - 1))) (mo_sh (m_vs μ) (128 * y + 8 * c) (m_ct μ y c - 1))
def mo_put (μ : ms) (y c : Nat) (v : Int32) : ms := mx_ct (mx_vs μ (upd (m_vs μ) (128 * y + 8 * c + m_ct μ y c) v)) (up2 (m_ct μ) y c (m_ct μ y c + 1))
def mo_give (μ : ms) (y i j : Nat) (v : Int32) : ms := match m_oc μ i j with
  | none => μ
  | some c => mo_put μ y c v
theorem mo_give_n {μ : ms} {y i j : Nat} {v : Int32} (e : m_oc μ i j = none) : mo_give μ y i j v = μ := by unfold mo_give; rw [e]
theorem mo_give_s {μ : ms} {y i j c : Nat} {v : Int32} (e : m_oc μ i j = some c) : mo_give μ y i j v = mo_put μ y c v := by unfold mo_give; rw [e]
set_option maxHeartbeats 4000000 in
set_option maxRecDepth 100000 in
theorem c_M_take (l : Launch) (D : va_G) (cc : ClassId × ClassId × ClassId) (ad : yl → Nat) (X : va_W) (b0 sz : Nat) (μ : ms) (y i j : Nat) (hy : y < 2) (hn : i < m_n μ) (hi : mI μ y) (hj : j < 2) (c : Nat) (e : m_ic μ i j = some c) (hp : 0 < m_ct μ y c) : Met l y_M_take w_M_take ({ frames := 0, cells := 0, slots := 0, locals := 0 }) (yPr D cc b0 [.ref (ad (20, 0, 0)), .int (nI y), .int (nI i), .int (nI j)] (mW cc ad X μ) sz) (yQi D (mW cc ad X μ) sz (m_vs μ (128 * y + 8 * c)) (mW cc ad X (mo_take μ y c))) 0 0 (va_A (mW cc ad X μ) sz) := by
  have hn10 := hi.1
  have hc16 := hi.2.1
  have hc := hi.2.2.2.2.2.2.1 i j c e
  obtain ⟨b1, b2, b3⟩ := hi.2.2.2.2.2.1 c hc.2.2
  refine y_ofW (cc := b_M_take) (maxL := 8) (ret := (some .int)) (by decide) rfl (Nat.le_of_ble_eq_true rfl) ?_
  intro pv ev sv mv bv tv cv ls hI hsz hw hl
  obtain ⟨hx, hb, hr, hml, hts, hown, hlocks, hnm, hK, hAb, hb0, hA⟩ := id hI
  have ht : ∀ w ∈ lg_tbl, w.before _ sv = true := fun w h => hts w (List.mem_cons_of_mem _ h)
  have hl : lv_has ls 8 [(0, .ref (ad (20, 0, 0))), (1, .int (nI y)), (2, .int (nI i)), (3, .int (nI j))] := hl
  have loop : ∀ (f t : Nat) (H : Heap) (locs : List Loc) (ls : Array Slot), t + f = m_ct μ y c - 1 → yH D ycl (va_A (mW cc ad X μ) sz) sv.heap H locs (mW cc ad X (mx_vs (mx_ct μ (up2 (m_ct μ) y c (m_ct μ y c - 1))) (mo_sh (m_vs μ) (128 * y + 8 * c) t))) → lv_has ls 8 [(7, .int (nI t)), (6, .int (m_vs μ (128 * y + 8 * c))), (5, .int (nI (128 * y + 8 * c))), (4, .int (nI c)), (0, .ref (ad (20, 0, 0))), (1, .int (nI y)), (2, .int (nI i)), (3, .int (nI j))] → W pv l ev (headSpec w_M_take ({ frames := 0, cells := 0, slots := 0, locals := 0 })).room sv mv ([.ref (ad (20, 0, 0)), .int (nI y), .int (nI i), .int (nI j)]).toArray bv tv cv H locs 0 0 (MQ bv (yQi D (mW cc ad X μ) sz (m_vs μ (128 * y + 8 * c)) (mW cc ad X (mo_take μ y c))) ([.ref (ad (20, 0, 0)), .int (nI y), .int (nI i), .int (nI j)]).toArray sv 0 0 (va_A (mW cc ad X μ) sz)) (F0 mv 53 ls []) := by
    intro f
    induction f with
    | zero =>
      intro t H locs ls htf hw hl
      refine lv_iload hx hb d_M_take_53 (lv_at hl 0 rfl) ?_
      refine lv_aload_n hx hb d_M_take_55 rfl (lv_at hl 4 rfl) ?_
      refine yr_get (C := R_M) (T := F_M) (N := 16) (ci := k_M) hx hb ht j_M hown hK.1 hw mL_o (by rfl) rfl 14 (by decide) (ht _ mf_M_46) (fun _ h9 => h9) (by rfl) d_M_take_56 ?_
      refine lv_bipush (v := (nI 16)) hx hb d_M_take_59 (by decide) ?_
      refine lv_iload_n hx hb d_M_take_61 rfl (lv_at hl 5 rfl) ?_
      refine lv_imul hx hb d_M_take_62 ?_
      rw [pk_mul]
      refine lv_iload hx hb d_M_take_63 (lv_at hl 3 rfl) ?_
      refine lv_iadd hx hb d_M_take_65 ?_
      rw [nI_add]
      refine yr_iald (v := nI (m_ct μ y c - 1)) hx hb hK.1 hw mL_12 (by rfl) 0 rfl (vp_in_nI (N := 32) (by omega) (by omega)) (by rw [nI_clamp (by omega)]; show nI (up2 (m_ct μ) y c _ ((16 * y + c) / 16) ((16 * y + c) % 16)) = _; rw [at_flat (f := up2 (m_ct μ) y c _) (show c < 16 by omega), up2_s]) d_M_take_66 ?_
      refine lv_icmp_ge (tgt := 98) hx hb d_M_take_67 (by decide) (fun c_67 => ?_) (fun c_67 => by exact absurd (nI_le (by omega) (by omega)) c_67)
      refine lv_iload hx hb d_M_take_98 (lv_at hl 1 rfl) ?_
      have ht0 : t = m_ct μ y c - 1 := by omega
      subst ht0
      exact ye_i hI () rfl hw d_M_take_100
    | succ f ih =>
      intro t H locs ls htf hw hl
      refine lv_iload hx hb d_M_take_53 (lv_at hl 0 rfl) ?_
      refine lv_aload_n hx hb d_M_take_55 rfl (lv_at hl 4 rfl) ?_
      refine yr_get (C := R_M) (T := F_M) (N := 16) (ci := k_M) hx hb ht j_M hown hK.1 hw mL_o (by rfl) rfl 14 (by decide) (ht _ mf_M_46) (fun _ h9 => h9) (by rfl) d_M_take_56 ?_
      refine lv_bipush (v := (nI 16)) hx hb d_M_take_59 (by decide) ?_
      refine lv_iload_n hx hb d_M_take_61 rfl (lv_at hl 5 rfl) ?_
      refine lv_imul hx hb d_M_take_62 ?_
      rw [pk_mul]
      refine lv_iload hx hb d_M_take_63 (lv_at hl 3 rfl) ?_
      refine lv_iadd hx hb d_M_take_65 ?_
      rw [nI_add]
      refine yr_iald (v := nI (m_ct μ y c - 1)) hx hb hK.1 hw mL_12 (by rfl) 0 rfl (vp_in_nI (N := 32) (by omega) (by omega)) (by rw [nI_clamp (by omega)]; show nI (up2 (m_ct μ) y c _ ((16 * y + c) / 16) ((16 * y + c) % 16)) = _; rw [at_flat (f := up2 (m_ct μ) y c _) (show c < 16 by omega), up2_s]) d_M_take_66 ?_
      refine lv_icmp_ge (tgt := 98) hx hb d_M_take_67 (by decide) (fun c_67 => by exact absurd c_67 (nI_ge (by omega) (by omega))) (fun c_67 => ?_)
      refine lv_aload_n hx hb d_M_take_70 rfl (lv_at hl 4 rfl) ?_
      refine yr_get (C := R_M) (T := F_M) (N := 16) (ci := k_M) hx hb ht j_M hown hK.1 hw mL_o (by rfl) rfl 15 (by decide) (ht _ mf_M_49) (fun _ h9 => h9) (by rfl) d_M_take_71 ?_
      refine lv_iload hx hb d_M_take_74 (lv_at hl 2 rfl) ?_
      refine lv_iload hx hb d_M_take_76 (lv_at hl 0 rfl) ?_
      refine lv_iadd hx hb d_M_take_78 ?_
      rw [nI_add]
      refine lv_aload_n hx hb d_M_take_79 rfl (lv_at hl 4 rfl) ?_
      refine yr_get (C := R_M) (T := F_M) (N := 16) (ci := k_M) hx hb ht j_M hown hK.1 hw mL_o (by rfl) rfl 15 (by decide) (ht _ mf_M_49) (fun _ h9 => h9) (by rfl) d_M_take_80 ?_
      refine lv_iload hx hb d_M_take_83 (lv_at hl 2 rfl) ?_
      refine lv_iload hx hb d_M_take_85 (lv_at hl 0 rfl) ?_
      refine lv_iadd hx hb d_M_take_87 ?_
      rw [nI_add]
      refine lv_iconst (v := (nI 1)) hx hb d_M_take_88 (by decide) ?_
      refine lv_iadd hx hb d_M_take_89 ?_
      rw [nI_add]
      refine yr_iald (v := m_vs μ ((128 * y + 8 * c) + t + 1)) hx hb hK.1 hw mL_13 (by rfl) 0 rfl (vp_in_nI (N := 256) (by omega) (by omega)) (by rw [nI_clamp (by omega)]; exact mo_sh_ge (by omega)) d_M_take_90 ?_
      refine yr_iast hx hb hK.1 hw mL_13 (by rfl) 0 rfl (vp_in_nI (N := 256) (by omega) (by omega)) d_M_take_91 (fun H locs hw => ?_)
      rw [nI_clamp (by omega)] at hw
      have hw := mw_vs (mo_sh (m_vs μ) (128 * y + 8 * c) (t + 1)) hw (by show Sum.inl (cc.1, mlen 13, Sum.inl (upd (mo_sh (m_vs μ) (128 * y + 8 * c) t) ((128 * y + 8 * c) + t) (m_vs μ ((128 * y + 8 * c) + t + 1)))) = _; rw [mo_sh_s]; rfl)
      rw [mx_vs_vs] at hw
      refine lv_iinc (v := nI (t + 1)) (lv' := [(7, .int _), (6, .int _), (5, .int _), (4, .int _), (0, .ref _), (1, .int _), (2, .int _), (3, .int _)]) hx hb d_M_take_92 hl (k := 0) rfl (yinc t) (by decide) rfl (fun ls hl => ?_)
      refine lv_goto (tgt := 53) hx hb d_M_take_95 (by decide) ?_
      exact ih (t + 1) _ _ _ (by omega) hw (lv_sub hl [0, 1, 2, 3, 4, 5, 6, 7] rfl)
  refine lv_aload_n hx hb d_M_take_0 rfl (lv_at hl 0 rfl) ?_
  refine yr_get (C := R_M) (T := F_M) (N := 16) (ci := k_M) hx hb ht j_M hown hK.1 hw mL_o (by rfl) rfl 8 (by decide) (ht _ mf_M_28) (fun _ h9 => h9) (by rfl) d_M_take_1 ?_
  refine lv_iconst (v := (nI 2)) hx hb d_M_take_4 (by decide) ?_
  refine lv_iload_n hx hb d_M_take_5 rfl (lv_at hl 2 rfl) ?_
  refine lv_imul hx hb d_M_take_6 ?_
  rw [pk_mul]
  refine lv_iload_n hx hb d_M_take_7 rfl (lv_at hl 3 rfl) ?_
  refine lv_iadd hx hb d_M_take_8 ?_
  rw [nI_add]
  refine yr_iald (v := nI c) hx hb hK.1 hw mL_6 (by rfl) 0 rfl (vp_in_nI (N := 20) (by omega) (by omega)) (by rw [nI_clamp (by omega)]; show oI (m_ic μ ((2 * i + j) / 2) ((2 * i + j) % 2)) = _; rw [at_flat (f := m_ic μ) hj, e]; rfl) d_M_take_9 ?_
  refine lv_istore (lv' := [(4, .int _), (0, .ref _), (1, .int _), (2, .int _), (3, .int _)]) hx hb d_M_take_10 hl (by decide) rfl (fun ls hl => ?_)
  refine lv_sipush (v := (nI 128)) hx hb d_M_take_12 (by decide) ?_
  refine lv_iload_n hx hb d_M_take_15 rfl (lv_at hl 2 rfl) ?_
  refine lv_imul hx hb d_M_take_16 ?_
  rw [pk_mul]
  refine lv_bipush (v := (nI 8)) hx hb d_M_take_17 (by decide) ?_
  refine lv_iload hx hb d_M_take_19 (lv_at hl 0 rfl) ?_
  refine lv_imul hx hb d_M_take_21 ?_
  rw [pk_mul]
  refine lv_iadd hx hb d_M_take_22 ?_
  rw [nI_add]
  refine lv_istore (lv' := [(5, .int _), (4, .int _), (0, .ref _), (1, .int _), (2, .int _), (3, .int _)]) hx hb d_M_take_23 hl (by decide) rfl (fun ls hl => ?_)
  refine lv_aload_n hx hb d_M_take_25 rfl (lv_at hl 2 rfl) ?_
  refine yr_get (C := R_M) (T := F_M) (N := 16) (ci := k_M) hx hb ht j_M hown hK.1 hw mL_o (by rfl) rfl 15 (by decide) (ht _ mf_M_49) (fun _ h9 => h9) (by rfl) d_M_take_26 ?_
  refine lv_iload hx hb d_M_take_29 (lv_at hl 0 rfl) ?_
  refine yr_iald (v := m_vs μ (128 * y + 8 * c)) hx hb hK.1 hw mL_13 (by rfl) 0 rfl (vp_in_nI (N := 256) (by omega) (by omega)) (by rw [nI_clamp (by omega)]; rfl) d_M_take_31 ?_
  refine lv_istore (lv' := [(6, .int _), (5, .int _), (4, .int _), (0, .ref _), (1, .int _), (2, .int _), (3, .int _)]) hx hb d_M_take_32 hl (by decide) rfl (fun ls hl => ?_)
  refine lv_aload_n hx hb d_M_take_34 rfl (lv_at hl 3 rfl) ?_
  refine yr_get (C := R_M) (T := F_M) (N := 16) (ci := k_M) hx hb ht j_M hown hK.1 hw mL_o (by rfl) rfl 14 (by decide) (ht _ mf_M_46) (fun _ h9 => h9) (by rfl) d_M_take_35 ?_
  refine lv_bipush (v := (nI 16)) hx hb d_M_take_38 (by decide) ?_
  refine lv_iload_n hx hb d_M_take_40 rfl (lv_at hl 4 rfl) ?_
  refine lv_imul hx hb d_M_take_41 ?_
  rw [pk_mul]
  refine lv_iload hx hb d_M_take_42 (lv_at hl 2 rfl) ?_
  refine lv_iadd hx hb d_M_take_44 ?_
  rw [nI_add]
  refine lv_dup2_11 hx hb d_M_take_45 rfl rfl ?_
  refine yr_iald (v := nI (m_ct μ y c)) hx hb hK.1 hw mL_12 (by rfl) 0 rfl (vp_in_nI (N := 32) (by omega) (by omega)) (by rw [nI_clamp (by omega)]; exact congrArg nI (at_flat (f := m_ct μ) (show c < 16 by omega))) d_M_take_46 ?_
  refine lv_iconst (v := (nI 1)) hx hb d_M_take_47 (by decide) ?_
  refine lv_isub hx hb d_M_take_48 ?_
  rw [show nI 1 = 1 from rfl, ydec hp]
  refine yr_iast hx hb hK.1 hw mL_12 (by rfl) 0 rfl (vp_in_nI (N := 32) (by omega) (by omega)) d_M_take_49 (fun H locs hw => ?_)
  rw [nI_clamp (by omega)] at hw
  have hw := mw_ct (up2 (m_ct μ) y c (m_ct μ y c - 1)) hw (by rw [← upd_flat (show c < 16 by omega)]; rfl)
  refine lv_iconst (v := (nI 0)) hx hb d_M_take_50 (by decide) ?_
  refine lv_istore (lv' := [(7, .int _), (6, .int _), (5, .int _), (4, .int _), (0, .ref _), (1, .int _), (2, .int _), (3, .int _)]) hx hb d_M_take_51 hl (by decide) rfl (fun ls hl => ?_)
  exact loop (m_ct μ y c - 1) 0 _ _ _ (by omega) (by rw [mo_sh_0 (μ := mx_ct μ (up2 (m_ct μ) y c (m_ct μ y c - 1))) (f := m_vs μ) rfl]; exact hw) (lv_sub hl [0, 1, 2, 3, 4, 5, 6, 7] rfl)
set_option maxHeartbeats 4000000 in
set_option maxRecDepth 100000 in
theorem c_M_give (l : Launch) (D : va_G) (cc : ClassId × ClassId × ClassId) (ad : yl → Nat) (X : va_W) (b0 sz : Nat) (μ : ms) (y i j : Nat) (hy : y < 2) (hn : i < m_n μ) (hi : mI μ y) (hj : j < 2) (v : Int32) (hr2 : ∀ c, m_oc μ i j = some c → m_ct μ y c < m_rm μ c) : Met l y_M_give w_M_give ({ frames := 0, cells := 0, slots := 0, locals := 0 }) (yPr D cc b0 [.ref (ad (20, 0, 0)), .int (nI y), .int (nI i), .int (nI j), .int v] (mW cc ad X μ) sz) (yQv D (mW cc ad X μ) sz (mW cc ad X (mo_give μ y i j v))) 0 0 (va_A (mW cc ad X μ) sz) := by
  have hn10 := hi.1
  have hc16 := hi.2.1
  refine y_ofW (cc := b_M_give) (maxL := 6) (ret := none) (by decide) rfl (Nat.le_of_ble_eq_true rfl) ?_
  intro pv ev sv mv bv tv cv ls hI hsz hw hl
  obtain ⟨hx, hb, hr, hml, hts, hown, hlocks, hnm, hK, hAb, hb0, hA⟩ := id hI
  have ht : ∀ w ∈ lg_tbl, w.before _ sv = true := fun w h => hts w (List.mem_cons_of_mem _ h)
  have hl : lv_has ls 6 [(0, .ref (ad (20, 0, 0))), (1, .int (nI y)), (2, .int (nI i)), (3, .int (nI j)), (4, .int v)] := hl
  cases e : m_oc μ i j with
  | none =>
    refine lv_aload_n hx hb d_M_give_0 rfl (lv_at hl 0 rfl) ?_
    refine yr_get (C := R_M) (T := F_M) (N := 16) (ci := k_M) hx hb ht j_M hown hK.1 hw mL_o (by rfl) rfl 9 (by decide) (ht _ mf_M_31) (fun _ h9 => h9) (by rfl) d_M_give_1 ?_
    refine lv_iconst (v := (nI 2)) hx hb d_M_give_4 (by decide) ?_
    refine lv_iload_n hx hb d_M_give_5 rfl (lv_at hl 2 rfl) ?_
    refine lv_imul hx hb d_M_give_6 ?_
    rw [pk_mul]
    refine lv_iload_n hx hb d_M_give_7 rfl (lv_at hl 3 rfl) ?_
    refine lv_iadd hx hb d_M_give_8 ?_
    rw [nI_add]
    refine yr_iald (v := (-1)) hx hb hK.1 hw mL_7 (by rfl) 0 rfl (vp_in_nI (N := 20) (by omega) (by omega)) (by rw [nI_clamp (by omega)]; show oI (m_oc μ ((2 * i + j) / 2) ((2 * i + j) % 2)) = _; rw [at_flat (f := m_oc μ) hj, e]; rfl) d_M_give_9 ?_
    refine lv_istore (lv' := [(5, .int _), (0, .ref _), (1, .int _), (2, .int _), (3, .int _), (4, .int _)]) hx hb d_M_give_10 hl (by decide) rfl (fun ls hl => ?_)
    refine lv_iload hx hb d_M_give_12 (lv_at hl 0 rfl) ?_
    refine lv_if_lt (tgt := 64) hx hb d_M_give_14 (by decide) (fun c_14 => ?_) (fun c_14 => by exact absurd (by decide) c_14)
    rw [mo_give_n e]
    exact ye_v hI () trivial hw d_M_give_64
  | some c =>
    have hc := hi.2.2.2.2.2.2.2.1 i j c e
    obtain ⟨b1, b2, b3⟩ := hi.2.2.2.2.2.1 c hc.2.2
    have hct : m_ct μ y c < 8 := by have := hr2 c e; omega
    refine lv_aload_n hx hb d_M_give_0 rfl (lv_at hl 0 rfl) ?_
    refine yr_get (C := R_M) (T := F_M) (N := 16) (ci := k_M) hx hb ht j_M hown hK.1 hw mL_o (by rfl) rfl 9 (by decide) (ht _ mf_M_31) (fun _ h9 => h9) (by rfl) d_M_give_1 ?_
    refine lv_iconst (v := (nI 2)) hx hb d_M_give_4 (by decide) ?_
    refine lv_iload_n hx hb d_M_give_5 rfl (lv_at hl 2 rfl) ?_
    refine lv_imul hx hb d_M_give_6 ?_
    rw [pk_mul]
    refine lv_iload_n hx hb d_M_give_7 rfl (lv_at hl 3 rfl) ?_
    refine lv_iadd hx hb d_M_give_8 ?_
    rw [nI_add]
    refine yr_iald (v := nI c) hx hb hK.1 hw mL_7 (by rfl) 0 rfl (vp_in_nI (N := 20) (by omega) (by omega)) (by rw [nI_clamp (by omega)]; show oI (m_oc μ ((2 * i + j) / 2) ((2 * i + j) % 2)) = _; rw [at_flat (f := m_oc μ) hj, e]; rfl) d_M_give_9 ?_
    refine lv_istore (lv' := [(5, .int _), (0, .ref _), (1, .int _), (2, .int _), (3, .int _), (4, .int _)]) hx hb d_M_give_10 hl (by decide) rfl (fun ls hl => ?_)
    refine lv_iload hx hb d_M_give_12 (lv_at hl 0 rfl) ?_
    refine lv_if_lt (tgt := 64) hx hb d_M_give_14 (by decide) (fun c_14 => by exact absurd c_14 (nI_pos (by omega))) (fun c_14 => ?_)
    refine lv_aload_n hx hb d_M_give_17 rfl (lv_at hl 1 rfl) ?_
    refine yr_get (C := R_M) (T := F_M) (N := 16) (ci := k_M) hx hb ht j_M hown hK.1 hw mL_o (by rfl) rfl 15 (by decide) (ht _ mf_M_49) (fun _ h9 => h9) (by rfl) d_M_give_18 ?_
    refine lv_sipush (v := (nI 128)) hx hb d_M_give_21 (by decide) ?_
    refine lv_iload_n hx hb d_M_give_24 rfl (lv_at hl 2 rfl) ?_
    refine lv_imul hx hb d_M_give_25 ?_
    rw [pk_mul]
    refine lv_bipush (v := (nI 8)) hx hb d_M_give_26 (by decide) ?_
    refine lv_iload hx hb d_M_give_28 (lv_at hl 0 rfl) ?_
    refine lv_imul hx hb d_M_give_30 ?_
    rw [pk_mul]
    refine lv_iadd hx hb d_M_give_31 ?_
    rw [nI_add]
    refine lv_aload_n hx hb d_M_give_32 rfl (lv_at hl 1 rfl) ?_
    refine yr_get (C := R_M) (T := F_M) (N := 16) (ci := k_M) hx hb ht j_M hown hK.1 hw mL_o (by rfl) rfl 14 (by decide) (ht _ mf_M_46) (fun _ h9 => h9) (by rfl) d_M_give_33 ?_
    refine lv_bipush (v := (nI 16)) hx hb d_M_give_36 (by decide) ?_
    refine lv_iload_n hx hb d_M_give_38 rfl (lv_at hl 2 rfl) ?_
    refine lv_imul hx hb d_M_give_39 ?_
    rw [pk_mul]
    refine lv_iload hx hb d_M_give_40 (lv_at hl 0 rfl) ?_
    refine lv_iadd hx hb d_M_give_42 ?_
    rw [nI_add]
    refine yr_iald (v := nI (m_ct μ y c)) hx hb hK.1 hw mL_12 (by rfl) 0 rfl (vp_in_nI (N := 32) (by omega) (by omega)) (by rw [nI_clamp (by omega)]; exact congrArg nI (at_flat (f := m_ct μ) (show c < 16 by omega))) d_M_give_43 ?_
    refine lv_iadd hx hb d_M_give_44 ?_
    rw [nI_add]
    refine lv_iload hx hb d_M_give_45 (lv_at hl 5 rfl) ?_
    refine yr_iast hx hb hK.1 hw mL_13 (by rfl) 0 rfl (vp_in_nI (N := 256) (by omega) (by omega)) d_M_give_47 (fun H locs hw => ?_)
    rw [nI_clamp (by omega)] at hw
    have hw := mw_vs (upd (m_vs μ) (128 * y + 8 * c + m_ct μ y c) v) hw rfl
    refine lv_aload_n hx hb d_M_give_48 rfl (lv_at hl 1 rfl) ?_
    refine yr_get (C := R_M) (T := F_M) (N := 16) (ci := k_M) hx hb ht j_M hown hK.1 hw mL_o (by rfl) rfl 14 (by decide) (ht _ mf_M_46) (fun _ h9 => h9) (by rfl) d_M_give_49 ?_
    refine lv_bipush (v := (nI 16)) hx hb d_M_give_52 (by decide) ?_
    refine lv_iload_n hx hb d_M_give_54 rfl (lv_at hl 2 rfl) ?_
    refine lv_imul hx hb d_M_give_55 ?_
    rw [pk_mul]
    refine lv_iload hx hb d_M_give_56 (lv_at hl 0 rfl) ?_
    refine lv_iadd hx hb d_M_give_58 ?_
    rw [nI_add]
    refine lv_dup2_11 hx hb d_M_give_59 rfl rfl ?_
    refine yr_iald (v := nI (m_ct μ y c)) hx hb hK.1 hw mL_12 (by rfl) 0 rfl (vp_in_nI (N := 32) (by omega) (by omega)) (by rw [nI_clamp (by omega)]; exact congrArg nI (at_flat (f := m_ct μ) (show c < 16 by omega))) d_M_give_60 ?_
    refine lv_iconst (v := (nI 1)) hx hb d_M_give_61 (by decide) ?_
    refine lv_iadd hx hb d_M_give_62 ?_
    rw [nI_add]
    refine yr_iast hx hb hK.1 hw mL_12 (by rfl) 0 rfl (vp_in_nI (N := 32) (by omega) (by omega)) d_M_give_63 (fun H locs hw => ?_)
    rw [nI_clamp (by omega)] at hw
    have hw := mw_ct (up2 (m_ct μ) y c (m_ct μ y c + 1)) hw (by rw [← upd_flat (show c < 16 by omega)]; rfl)
    rw [mo_give_s e]
    exact ye_v hI () trivial hw d_M_give_64
