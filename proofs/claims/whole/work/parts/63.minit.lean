/-! THE REFERENCE: a new object -/
theorem arrV_cg {c : ClassId} {n : Nat} {f f' : Nat → Value} (h : ∀ j, j < n → f j = f' j) : arrV c n f = arrV c n f' := by
  have e : (fun j : Fin n => f j.val) = fun j : Fin n => f' j.val := funext fun j => h j.val j.isLt
  unfold arrV
  rw [e]
theorem va_D_fst {A : Nat → Prop} {ws ws' : va_W} (h : va_D A ws) (e : ws'.map Prod.fst = ws.map Prod.fst) : va_D A ws' := by
  have k0 : ∀ (i : Nat) (p : Nat × va_E), ws'[i]? = some p → ∃ p0, ws[i]? = some p0 ∧ p0.1 = p.1 := by
    intro i p hp
    have h1 : (ws'.map Prod.fst)[i]? = some p.1 := by rw [List.getElem?_map, hp]; rfl
    rw [e, List.getElem?_map] at h1
    cases hq : ws[i]? with
    | none => rw [hq] at h1; cases h1
    | some p0 => rw [hq] at h1; exact ⟨p0, rfl, Option.some.inj h1⟩
  refine ⟨fun i j p q hp hq hpq => ?_, fun i p hp => ?_⟩
  · obtain ⟨p0, e1, e2⟩ := k0 i p hp
    obtain ⟨q0, e3, e4⟩ := k0 j q hq
    exact h.1 i j p0 q0 e1 e3 (by rw [e2, e4, hpq])
  · obtain ⟨p0, e1, e2⟩ := k0 i p hp
    rw [← e2]
    exact h.2 i p0 e1
/-- the same world by other words: what lies beyond an array's end says nothing -/
theorem y_sim {D : va_G} {cl : List vw_C} {A : Nat → Prop} {H0 H : Heap} {locs : List Loc} {ad : yl → Nat} {LL : List yl} {g g' : yl → va_E} {X : va_W} (hw : yH D cl A H0 H locs (wl ad LL g ++ X)) (h : ∀ q, q ∈ LL → g q = g' q ∨ ∃ (c : ClassId) (n : Nat) (f f' : Nat → Int32), g q = .inl (c, n, .inl f) ∧ g' q = .inl (c, n, .inl f') ∧ ∀ j, j < n → f j = f' j) : yH D cl A H0 H locs (wl ad LL g' ++ X) := by
  obtain ⟨hP, hD, hS⟩ := hw
  refine ⟨fun k p hk => ?_, va_D_fst hD ?_, hS⟩
  · by_cases hl : k < LL.length
    · have hq : LL[k]? = some LL[k] := List.getElem?_eq_getElem hl
      have h1 := hP k _ (wl_at hq)
      rw [wl_at hq] at hk
      have hp := Option.some.inj hk
      subst hp
      rcases h LL[k] (List.getElem_mem hl) with e | ⟨c, n, f, f', e1, e2, e3⟩
      · rw [← e]; exact h1
      · rw [e1] at h1
        rw [e2]
        have h1 : H[ad LL[k]]? = some (vp_cell c (n, .inl f)) := h1
        show H[ad LL[k]]? = some (vp_cell c (n, .inl f'))
        rw [h1, vp_cell_i, vp_cell_i, arrV_cg (fun j hj => by rw [e3 j hj])]
    · refine hP k p ?_
      rw [List.getElem?_append_right (by rw [wl_len]; omega), wl_len] at hk ⊢
      exact hk
  · rw [List.map_append, List.map_append]
    unfold wl
    rw [List.map_map, List.map_map]
    rfl
def mNr (k j : Nat) (ad : yl → Nat) : Value := if j < k then .ref (ad (21, j, 0)) else .null
def mNl (k : Nat) : List yl := (20, 0, 0) :: (List.range k).map (fun j => (21, j, 0))
def mNg (cc : ClassId × ClassId × ClassId) (k : Nat) (ad : yl → Nat) (q : yl) : va_E := match q with
  | (20, _, _) => .inr (k_M, [.int 0, mNr k 0 ad, mNr k 1 ad, mNr k 2 ad, mNr k 3 ad, mNr k 4 ad, .int 0, mNr k 5 ad, mNr k 6 ad, mNr k 7 ad, mNr k 8 ad, mNr k 9 ad, mNr k 10 ad, mNr k 11 ad, mNr k 12 ad, mNr k 13 ad])
  | (21, j, _) => .inl (cc.1, mlen j, .inl (fun _ => 0))
  | _ => .inr (0, [])
theorem mN_f (k : Nat) : (21, k, 0) ∉ mNl k := by
  intro h
  rcases List.mem_cons.mp h with h | h
  · cases h
  · obtain ⟨j, hj, e⟩ := List.mem_map.mp h
    have hj := List.mem_range.mp hj
    simp at e
    omega
theorem mN_o (k : Nat) : (20, 0, 0) ∈ mNl k := List.mem_cons_self
theorem mN_j {k j : Nat} (h : j < k) : (21, j, 0) ∈ mNl k := List.mem_cons_of_mem _ (List.mem_map.mpr ⟨j, List.mem_range.mpr h, rfl⟩)
theorem mN_s (k : Nat) : mNl k ++ [(21, k, 0)] = mNl (k + 1) := by
  unfold mNl
  rw [List.range_succ, List.map_append]
  rfl
theorem mN_r {k j : Nat} {ad ad' : yl → Nat} (h : ∀ z, z ∈ mNl k → ad' z = ad z) : mNr k j ad = mNr k j ad' := by
  unfold mNr
  by_cases q : j < k
  · rw [if_pos q, if_pos q, h _ (mN_j q)]
  · rw [if_neg q, if_neg q]
section MN
variable {D : va_G} {cl : List vw_C} {A : Nat → Prop} {H0 H : Heap} {locs : List Loc} {cc : ClassId × ClassId × ClassId} {ad ad' : yl → Nat} {X : va_W}
theorem mN_start {g : yl → va_E} (hg : g (20, 0, 0) = .inr (k_M, [.int 0, .null, .null, .null, .null, .null, .int 0, .null, .null, .null, .null, .null, .null, .null, .null, .null])) (hw : yH D cl A H0 H locs (wl ad [(20, 0, 0)] g ++ X)) : yH D cl A H0 H locs (wl ad (mNl 0) (mNg cc 0 ad) ++ X) := by
  refine y_same (LL := mNl 0) hw (fun q hq => ?_)
  rcases List.mem_cons.mp hq with rfl | h
  · rw [hg]; rfl
  · cases h
theorem mN_new (k : Nat) {n : Nat} (hag : ∀ z, z ∈ mNl k → ad' z = ad z) (hn : n = mlen k) (hw : yH D cl A H0 H locs (wl ad' (mNl k ++ [(21, k, 0)]) (yu (mNg cc k ad) (21, k, 0) (.inl (cc.1, n, .inl (fun _ => 0)))) ++ X)) : yH D cl A H0 H locs (wl ad' (mNl (k + 1)) (mNg cc k ad') ++ X) := by
  rw [mN_s] at hw
  refine y_same hw (fun q hq => ?_)
  rcases List.mem_cons.mp hq with rfl | h
  · rw [yu_n _ _ (by simp)]
    show (Sum.inr (k_M, [.int 0, mNr k 0 ad, mNr k 1 ad, mNr k 2 ad, mNr k 3 ad, mNr k 4 ad, .int 0, mNr k 5 ad, mNr k 6 ad, mNr k 7 ad, mNr k 8 ad, mNr k 9 ad, mNr k 10 ad, mNr k 11 ad, mNr k 12 ad, mNr k 13 ad]) : va_E) = _
    rw [mN_r (j := 0) hag, mN_r (j := 1) hag, mN_r (j := 2) hag, mN_r (j := 3) hag, mN_r (j := 4) hag, mN_r (j := 5) hag, mN_r (j := 6) hag, mN_r (j := 7) hag, mN_r (j := 8) hag, mN_r (j := 9) hag, mN_r (j := 10) hag, mN_r (j := 11) hag, mN_r (j := 12) hag, mN_r (j := 13) hag]
    rfl
  · obtain ⟨j, hj, rfl⟩ := List.mem_map.mp h
    by_cases e : j = k
    · subst e
      rw [yu_s, hn]
      rfl
    · rw [yu_n _ _ (fun q => e (by simpa using q))]
      rfl
theorem mN_put (k : Nat) {e : va_E} (hw : yH D cl A H0 H locs (wl ad (mNl (k + 1)) (yu (mNg cc k ad) (20, 0, 0) e) ++ X)) (he : e = mNg cc (k + 1) ad (20, 0, 0)) : yH D cl A H0 H locs (wl ad (mNl (k + 1)) (mNg cc (k + 1) ad) ++ X) := by
  refine y_same hw (fun q hq => ?_)
  rcases List.mem_cons.mp hq with rfl | h
  · rw [yu_s, he]
  · obtain ⟨j, hj, rfl⟩ := List.mem_map.mp h
    rw [yu_n _ _ (by simp)]
    rfl
def mKg (cc : ClassId × ClassId × ClassId) (i o : Nat) (ad : yl → Nat) (q : yl) : va_E := match q with
  | (20, _, _) => .inr (k_M, [.int 0, .ref (ad (21, 0, 0)), .ref (ad (21, 1, 0)), .ref (ad (21, 2, 0)), .ref (ad (21, 3, 0)), .ref (ad (21, 4, 0)), .int 0, .ref (ad (21, 5, 0)), .ref (ad (21, 6, 0)), .ref (ad (21, 7, 0)), .ref (ad (21, 8, 0)), .ref (ad (21, 9, 0)), .ref (ad (21, 10, 0)), .ref (ad (21, 11, 0)), .ref (ad (21, 12, 0)), .ref (ad (21, 13, 0))])
  | (21, 6, _) => .inl (cc.1, 20, .inl (fun j => if j < i then -1 else 0))
  | (21, 7, _) => .inl (cc.1, 20, .inl (fun j => if j < o then -1 else 0))
  | (21, k, _) => .inl (cc.1, mlen k, .inl (fun _ => 0))
  | _ => .inr (0, [])
def m0 : ms := (0, 0, fun _ => 0, fun _ => 0, fun _ => 0, fun _ => 0, fun _ => 0, fun _ => 0, fun _ _ => none, fun _ _ => none, fun _ _ => 0, fun _ _ => 0, fun _ _ => 0, fun _ => 0, fun _ _ => 0, fun _ => 0)
theorem mK_z : (fun _ => 0 : Nat → Int32) = fun j => if j < 0 then -1 else 0 := funext fun j => (if_neg (Nat.not_lt_zero j)).symm
theorem mK_u {i : Nat} : upd (fun j => if j < i then (-1 : Int32) else 0) i (-1) = fun j => if j < i + 1 then -1 else 0 := by
  funext j
  by_cases h : j = i
  · subst h
    rw [pk_us, if_pos (Nat.lt_succ_self _)]
  · rw [pk_un h]
    by_cases q : j < i
    · rw [if_pos q, if_pos (by omega)]
    · rw [if_neg q, if_neg (by omega)]
theorem mK_start (hw : yH D cl A H0 H locs (wl ad (mNl 14) (mNg cc 14 ad) ++ X)) : yH D cl A H0 H locs (wl ad mLL (mKg cc 0 0 ad) ++ X) := by
  refine y_same (LL := mLL) hw (fun q hq => ?_)
  simp only [mLL, List.mem_cons, List.not_mem_nil, or_false] at hq
  rcases hq with rfl | rfl | rfl | rfl | rfl | rfl | rfl | rfl | rfl | rfl | rfl | rfl | rfl | rfl | rfl <;> first
    | rfl
    | exact congrArg (fun f => Sum.inl (cc.1, 20, Sum.inl f)) mK_z
theorem mK_i {i o : Nat} (hw : yH D cl A H0 H locs (wl ad mLL (yu (mKg cc i o ad) (21, 6, 0) (.inl (cc.1, 20, .inl (upd (fun j => if j < i then (-1 : Int32) else 0) i (-1))))) ++ X)) : yH D cl A H0 H locs (wl ad mLL (mKg cc (i + 1) o ad) ++ X) := by
  refine y_same hw (fun q hq => ?_)
  simp only [mLL, List.mem_cons, List.not_mem_nil, or_false] at hq
  rcases hq with rfl | rfl | rfl | rfl | rfl | rfl | rfl | rfl | rfl | rfl | rfl | rfl | rfl | rfl | rfl <;> first
    | (rw [yu_n _ _ (by simp)]; rfl)
    | (rw [yu_s]; exact congrArg (fun f => Sum.inl (cc.1, 20, Sum.inl f)) mK_u)
theorem mK_o {i o : Nat} (hw : yH D cl A H0 H locs (wl ad mLL (yu (mKg cc i o ad) (21, 7, 0) (.inl (cc.1, 20, .inl (upd (fun j => if j < o then (-1 : Int32) else 0) o (-1))))) ++ X)) : yH D cl A H0 H locs (wl ad mLL (mKg cc i (o + 1) ad) ++ X) := by
  refine y_same hw (fun q hq => ?_)
  simp only [mLL, List.mem_cons, List.not_mem_nil, or_false] at hq
  rcases hq with rfl | rfl | rfl | rfl | rfl | rfl | rfl | rfl | rfl | rfl | rfl | rfl | rfl | rfl | rfl <;> first
    | (rw [yu_n _ _ (by simp)]; rfl)
    | (rw [yu_s]; exact congrArg (fun f => Sum.inl (cc.1, 20, Sum.inl f)) mK_u)
theorem mK_end (hw : yH D cl A H0 H locs (wl ad mLL (mKg cc 20 20 ad) ++ X)) : yH D cl A H0 H locs (mW cc ad X m0) := by
  refine y_sim hw (fun q hq => ?_)
  have hz : (fun _ => 0 : Nat → Int32) = fun _ => nI 0 := funext fun _ => nI_0.symm
  simp only [mLL, List.mem_cons, List.not_mem_nil, or_false] at hq
  rcases hq with rfl | rfl | rfl | rfl | rfl | rfl | rfl | rfl | rfl | rfl | rfl | rfl | rfl | rfl | rfl
  · exact Or.inl (by show (Sum.inr (k_M, [.int 0, .ref (ad (21, 0, 0)), .ref (ad (21, 1, 0)), .ref (ad (21, 2, 0)), .ref (ad (21, 3, 0)), .ref (ad (21, 4, 0)), .int 0, .ref (ad (21, 5, 0)), .ref (ad (21, 6, 0)), .ref (ad (21, 7, 0)), .ref (ad (21, 8, 0)), .ref (ad (21, 9, 0)), .ref (ad (21, 10, 0)), .ref (ad (21, 11, 0)), .ref (ad (21, 12, 0)), .ref (ad (21, 13, 0))]) : va_E) = Sum.inr (k_M, [.int (nI 0), .ref (ad (21, 0, 0)), .ref (ad (21, 1, 0)), .ref (ad (21, 2, 0)), .ref (ad (21, 3, 0)), .ref (ad (21, 4, 0)), .int (nI 0), .ref (ad (21, 5, 0)), .ref (ad (21, 6, 0)), .ref (ad (21, 7, 0)), .ref (ad (21, 8, 0)), .ref (ad (21, 9, 0)), .ref (ad (21, 10, 0)), .ref (ad (21, 11, 0)), .ref (ad (21, 12, 0)), .ref (ad (21, 13, 0))]); rw [nI_0])
  · exact Or.inl (congrArg (fun f => Sum.inl (cc.1, 10, Sum.inl f)) hz)
  · exact Or.inl rfl
  · exact Or.inl rfl
  · exact Or.inl (congrArg (fun f => Sum.inl (cc.1, 10, Sum.inl f)) hz)
  · exact Or.inl rfl
  · exact Or.inl (congrArg (fun f => Sum.inl (cc.1, 16, Sum.inl f)) hz)
  · exact Or.inr ⟨cc.1, 20, _, _, rfl, rfl, fun j hj => if_pos hj⟩
  · exact Or.inr ⟨cc.1, 20, _, _, rfl, rfl, fun j hj => if_pos hj⟩
  · exact Or.inl (congrArg (fun f => Sum.inl (cc.1, 20, Sum.inl f)) hz)
  · exact Or.inl (congrArg (fun f => Sum.inl (cc.1, 20, Sum.inl f)) hz)
  · exact Or.inl (congrArg (fun f => Sum.inl (cc.1, 20, Sum.inl f)) hz)
  · exact Or.inl rfl
  · exact Or.inl (congrArg (fun f => Sum.inl (cc.1, 32, Sum.inl f)) hz)
  · exact Or.inl rfl
end MN
theorem m0_I (y : Nat) : mI m0 y := by
  refine ⟨Nat.zero_le _, Nat.zero_le _, fun i _ => ⟨rfl, rfl, rfl, rfl, rfl⟩, fun _ _ => rfl, fun i => ⟨by show 0 < 9; omega, Nat.zero_le _, fun _ => rfl, Nat.zero_le _, fun _ => Nat.zero_le _, ?_, ?_⟩, fun c h => absurd h (Nat.not_lt_zero c), fun _ _ _ e => (by cases e), fun _ _ _ e => (by cases e), ⟨fun _ _ _ _ _ e => (by cases e), fun _ _ _ _ _ e => (by cases e)⟩⟩
  · exact (if_neg (show ¬ 0 = 6 by decide)).symm
  · exact (if_neg (show ¬ (0 = 2 ∨ 0 = 3) by decide)).symm
theorem m0_T : m_T m0 = s_T y0 0 := by
  have e : (fun c => if c < m_nc m0 then m_rm m0 c else 1) = fun _ => 1 := funext fun c => if_neg (Nat.not_lt_zero c)
  unfold m_T
  rw [e]
  rfl
theorem m0_D : m_D m0 0 = s_D y0 0 := rfl
set_option maxHeartbeats 4000000 in
set_option maxRecDepth 100000 in
theorem c_M_init (l : Launch) (D : va_G) (cc : ClassId × ClassId × ClassId) (ad : yl → Nat) (g : yl → va_E) (X : va_W) (b0 sz : Nat) (hg : g (20, 0, 0) = .inr (k_M, [.int 0, .null, .null, .null, .null, .null, .int 0, .null, .null, .null, .null, .null, .null, .null, .null, .null])) : Met l y_M_init w_M_init ({ frames := 1, cells := 14, slots := 1844, locals := 12 }) (yPr D cc b0 [.ref (ad (20, 0, 0))] (wl ad [(20, 0, 0)] g ++ X) sz) (va_Qv (fun ad' : yl → Nat => ad' (20, 0, 0) = ad (20, 0, 0)) (yB D ycl (wl ad [(20, 0, 0)] g ++ X) sz (fun ad' => mW cc ad' X m0)) (va_A (wl ad [(20, 0, 0)] g ++ X) sz)) 14 1844 (va_A (wl ad [(20, 0, 0)] g ++ X) sz) := by
  refine y_ofW (cc := b_M_init) (maxL := 2) (ret := none) (by decide) rfl (Nat.le_of_ble_eq_true rfl) ?_
  intro pv ev sv mv bv tv cv ls hI hsz hw hl
  generalize hargs : ([.ref (ad (20, 0, 0))] : List Value).toArray = args at hI ⊢
  obtain ⟨hx, hb, hr, hml, hts, hown, hlocks, hnm, hK, hAb, hb0, hA⟩ := id hI
  have ht : ∀ w ∈ lg_tbl, w.before _ sv = true := fun w h => hts w (List.mem_cons_of_mem _ h)
  have hl : lv_has ls 2 [(0, .ref (ad (20, 0, 0)))] := hl
  generalize hpost : (fun ad' : yl → Nat => ad' (20, 0, 0) = ad (20, 0, 0)) = post
  have loop : ∀ (f i : Nat) (ad' : yl → Nat) (H : Heap) (locs : List Loc) (ls : Array Slot), i + f = 20 → ad' (20, 0, 0) = ad (20, 0, 0) → yH D ycl (va_A (wl ad [(20, 0, 0)] g ++ X) sz) sv.heap H locs (wl ad' mLL (mKg cc i i ad') ++ X) → lv_has ls 2 [(1, .int (nI i)), (0, .ref (ad' (20, 0, 0)))] → W pv l ev (headSpec w_M_init ({ frames := 1, cells := 14, slots := 1844, locals := 12 })).room sv mv args bv tv cv H locs 14 1844 (MQ bv (va_Qv post (yB D ycl (wl ad [(20, 0, 0)] g ++ X) sz (fun ad' => mW cc ad' X m0)) (va_A (wl ad [(20, 0, 0)] g ++ X) sz)) args sv 14 1844 (va_A (wl ad [(20, 0, 0)] g ++ X) sz)) (F0 mv 121 ls []) := by
    intro f
    induction f with
    | zero =>
      intro i ad' H locs ls hif had hw hl
      have hie : i = 20 := by omega
      subst hie
      refine lv_iload_n hx hb d_M_init_121 rfl (lv_at hl 0 rfl) ?_
      refine lv_bipush (v := (nI 20)) hx hb d_M_init_122 (by decide) ?_
      refine lv_icmp_ge (tgt := 147) hx hb d_M_init_124 (by decide) (fun c_124 => ?_) (fun c_124 => by exact absurd (nI_le (by omega) (by omega)) c_124)
      exact ye_v hI ad' (by rw [← hpost]; exact had) (mK_end hw) d_M_init_147
    | succ f ih =>
      intro i ad' H locs ls hif had hw hl
      refine lv_iload_n hx hb d_M_init_121 rfl (lv_at hl 0 rfl) ?_
      refine lv_bipush (v := (nI 20)) hx hb d_M_init_122 (by decide) ?_
      refine lv_icmp_ge (tgt := 147) hx hb d_M_init_124 (by decide) (fun c_124 => by exact absurd c_124 (nI_ge (by omega) (by omega))) (fun c_124 => ?_)
      refine lv_aload_n hx hb d_M_init_127 rfl (lv_at hl 1 rfl) ?_
      refine yr_get (C := R_M) (T := F_M) (N := 16) (ci := k_M) hx hb ht j_M hown hK.1 hw mL_o (by rfl) rfl 8 (by decide) (ht _ mf_M_28) (fun _ h9 => h9) (by rfl) d_M_init_128 ?_
      refine lv_iload_n hx hb d_M_init_131 rfl (lv_at hl 0 rfl) ?_
      refine lv_iconst (v := (-1)) hx hb d_M_init_132 (by decide) ?_
      refine yr_iast hx hb hK.1 hw mL_6 (by rfl) 0 rfl (vp_in_nI (N := 20) (by omega) (by omega)) d_M_init_133 (fun H locs hw => ?_)
      rw [nI_clamp (by omega)] at hw
      have hw := mK_i hw
      refine lv_aload_n hx hb d_M_init_134 rfl (lv_at hl 1 rfl) ?_
      refine yr_get (C := R_M) (T := F_M) (N := 16) (ci := k_M) hx hb ht j_M hown hK.1 hw mL_o (by rfl) rfl 9 (by decide) (ht _ mf_M_31) (fun _ h9 => h9) (by rfl) d_M_init_135 ?_
      refine lv_iload_n hx hb d_M_init_138 rfl (lv_at hl 0 rfl) ?_
      refine lv_iconst (v := (-1)) hx hb d_M_init_139 (by decide) ?_
      refine yr_iast hx hb hK.1 hw mL_7 (by rfl) 0 rfl (vp_in_nI (N := 20) (by omega) (by omega)) d_M_init_140 (fun H locs hw => ?_)
      rw [nI_clamp (by omega)] at hw
      have hw := mK_o hw
      refine lv_iinc (v := nI (i + 1)) (lv' := [(1, .int _), (0, .ref _)]) hx hb d_M_init_141 hl (k := 0) rfl (yinc i) (by decide) rfl (fun ls hl => ?_)
      refine lv_goto (tgt := 121) hx hb d_M_init_144 (by decide) ?_
      exact ih (i + 1) ad' _ _ _ (by omega) had hw (lv_sub hl [0, 1] rfl)
  have hw := mN_start (cc := cc) hg hw
  refine lv_aload_n hx hb d_M_init_0 rfl (lv_at hl 0 rfl) ?_
  refine W.objInit hx hb hown (ht _ ml_M_1) (ht _ mw_objm) (ht _ mw_objc) rfl (by rw [hml]; exact hl.1) rfl d_M_init_1 (Nat.le_of_ble_eq_true rfl) (Nat.le_of_ble_eq_true rfl) ?_
  refine W.eq (g2 := F0 mv 4 ls []) rfl ?_
  refine lv_aload_n hx hb d_M_init_4 rfl (lv_at hl 0 rfl) ?_
  refine lv_bipush (v := (nI 10)) hx hb d_M_init_5 (by decide) ?_
  refine yr_newi (N' := 10) hx hb (ht _ ma_int) hK.1 hK.2.1 List.mem_cons_self hw hA (21, 0, 0) (mN_f 0) (nI_pos (by omega)) (nI_clamp (by omega)) (by omega) (Nat.le_of_ble_eq_true rfl) (Nat.le_of_ble_eq_true rfl) d_M_init_7 (fun ad1 H hag1 hw => ?_)
  rw [← hag1 _ (mN_o 0)] at hl ⊢
  have hw := mN_new 0 hag1 rfl hw
  refine yr_putF (ty := .array .int) (C := R_M) (T := F_M) (N := 16) (ci := k_M) hx hb ht j_M t_M t_M_ok n_M hown hK.1 hw (mN_o 1) (by rfl) rfl 1 (by decide) (ht _ mf_M_7) (fun _ h9 => h9) rfl hnm rfl (by decide +kernel) rfl rfl (Nat.le_of_ble_eq_true rfl) d_M_init_9 (fun H locs hw => ?_)
  have hw := mN_put 0 hw rfl
  refine lv_aload_n hx hb d_M_init_12 rfl (lv_at hl 0 rfl) ?_
  refine lv_bipush (v := (nI 10)) hx hb d_M_init_13 (by decide) ?_
  refine yr_newi (N' := 10) hx hb (ht _ ma_int) hK.1 hK.2.1 List.mem_cons_self hw hA (21, 1, 0) (mN_f 1) (nI_pos (by omega)) (nI_clamp (by omega)) (by omega) (Nat.le_of_ble_eq_true rfl) (Nat.le_of_ble_eq_true rfl) d_M_init_15 (fun ad2 H hag2 hw => ?_)
  rw [← hag2 _ (mN_o 1)] at hl ⊢
  have hw := mN_new 1 hag2 rfl hw
  refine yr_putF (ty := .array .int) (C := R_M) (T := F_M) (N := 16) (ci := k_M) hx hb ht j_M t_M t_M_ok n_M hown hK.1 hw (mN_o 2) (by rfl) rfl 2 (by decide) (ht _ mf_M_13) (fun _ h9 => h9) rfl hnm rfl (by decide +kernel) rfl rfl (Nat.le_of_ble_eq_true rfl) d_M_init_17 (fun H locs hw => ?_)
  have hw := mN_put 1 hw rfl
  refine lv_aload_n hx hb d_M_init_20 rfl (lv_at hl 0 rfl) ?_
  refine lv_bipush (v := (nI 10)) hx hb d_M_init_21 (by decide) ?_
  refine yr_newi (N' := 10) hx hb (ht _ ma_int) hK.1 hK.2.1 List.mem_cons_self hw hA (21, 2, 0) (mN_f 2) (nI_pos (by omega)) (nI_clamp (by omega)) (by omega) (Nat.le_of_ble_eq_true rfl) (Nat.le_of_ble_eq_true rfl) d_M_init_23 (fun ad3 H hag3 hw => ?_)
  rw [← hag3 _ (mN_o 2)] at hl ⊢
  have hw := mN_new 2 hag3 rfl hw
  refine yr_putF (ty := .array .int) (C := R_M) (T := F_M) (N := 16) (ci := k_M) hx hb ht j_M t_M t_M_ok n_M hown hK.1 hw (mN_o 3) (by rfl) rfl 3 (by decide) (ht _ mf_M_16) (fun _ h9 => h9) rfl hnm rfl (by decide +kernel) rfl rfl (Nat.le_of_ble_eq_true rfl) d_M_init_25 (fun H locs hw => ?_)
  have hw := mN_put 2 hw rfl
  refine lv_aload_n hx hb d_M_init_28 rfl (lv_at hl 0 rfl) ?_
  refine lv_bipush (v := (nI 10)) hx hb d_M_init_29 (by decide) ?_
  refine yr_newi (N' := 10) hx hb (ht _ ma_int) hK.1 hK.2.1 List.mem_cons_self hw hA (21, 3, 0) (mN_f 3) (nI_pos (by omega)) (nI_clamp (by omega)) (by omega) (Nat.le_of_ble_eq_true rfl) (Nat.le_of_ble_eq_true rfl) d_M_init_31 (fun ad4 H hag4 hw => ?_)
  rw [← hag4 _ (mN_o 3)] at hl ⊢
  have hw := mN_new 3 hag4 rfl hw
  refine yr_putF (ty := .array .int) (C := R_M) (T := F_M) (N := 16) (ci := k_M) hx hb ht j_M t_M t_M_ok n_M hown hK.1 hw (mN_o 4) (by rfl) rfl 4 (by decide) (ht _ mf_M_19) (fun _ h9 => h9) rfl hnm rfl (by decide +kernel) rfl rfl (Nat.le_of_ble_eq_true rfl) d_M_init_33 (fun H locs hw => ?_)
  have hw := mN_put 3 hw rfl
  refine lv_aload_n hx hb d_M_init_36 rfl (lv_at hl 0 rfl) ?_
  refine lv_sipush (v := (nI 200)) hx hb d_M_init_37 (by decide) ?_
  refine yr_newi (N' := 200) hx hb (ht _ ma_int) hK.1 hK.2.1 List.mem_cons_self hw hA (21, 4, 0) (mN_f 4) (nI_pos (by omega)) (nI_clamp (by omega)) (by omega) (Nat.le_of_ble_eq_true rfl) (Nat.le_of_ble_eq_true rfl) d_M_init_40 (fun ad5 H hag5 hw => ?_)
  rw [← hag5 _ (mN_o 4)] at hl ⊢
  have hw := mN_new 4 hag5 rfl hw
  refine yr_putF (ty := .array .int) (C := R_M) (T := F_M) (N := 16) (ci := k_M) hx hb ht j_M t_M t_M_ok n_M hown hK.1 hw (mN_o 5) (by rfl) rfl 5 (by decide) (ht _ mf_M_22) (fun _ h9 => h9) rfl hnm rfl (by decide +kernel) rfl rfl (Nat.le_of_ble_eq_true rfl) d_M_init_42 (fun H locs hw => ?_)
  have hw := mN_put 4 hw rfl
  refine lv_aload_n hx hb d_M_init_45 rfl (lv_at hl 0 rfl) ?_
  refine lv_bipush (v := (nI 16)) hx hb d_M_init_46 (by decide) ?_
  refine yr_newi (N' := 16) hx hb (ht _ ma_int) hK.1 hK.2.1 List.mem_cons_self hw hA (21, 5, 0) (mN_f 5) (nI_pos (by omega)) (nI_clamp (by omega)) (by omega) (Nat.le_of_ble_eq_true rfl) (Nat.le_of_ble_eq_true rfl) d_M_init_48 (fun ad6 H hag6 hw => ?_)
  rw [← hag6 _ (mN_o 5)] at hl ⊢
  have hw := mN_new 5 hag6 rfl hw
  refine yr_putF (ty := .array .int) (C := R_M) (T := F_M) (N := 16) (ci := k_M) hx hb ht j_M t_M t_M_ok n_M hown hK.1 hw (mN_o 6) (by rfl) rfl 7 (by decide) (ht _ mf_M_25) (fun _ h9 => h9) rfl hnm rfl (by decide +kernel) rfl rfl (Nat.le_of_ble_eq_true rfl) d_M_init_50 (fun H locs hw => ?_)
  have hw := mN_put 5 hw rfl
  refine lv_aload_n hx hb d_M_init_53 rfl (lv_at hl 0 rfl) ?_
  refine lv_bipush (v := (nI 20)) hx hb d_M_init_54 (by decide) ?_
  refine yr_newi (N' := 20) hx hb (ht _ ma_int) hK.1 hK.2.1 List.mem_cons_self hw hA (21, 6, 0) (mN_f 6) (nI_pos (by omega)) (nI_clamp (by omega)) (by omega) (Nat.le_of_ble_eq_true rfl) (Nat.le_of_ble_eq_true rfl) d_M_init_56 (fun ad7 H hag7 hw => ?_)
  rw [← hag7 _ (mN_o 6)] at hl ⊢
  have hw := mN_new 6 hag7 rfl hw
  refine yr_putF (ty := .array .int) (C := R_M) (T := F_M) (N := 16) (ci := k_M) hx hb ht j_M t_M t_M_ok n_M hown hK.1 hw (mN_o 7) (by rfl) rfl 8 (by decide) (ht _ mf_M_28) (fun _ h9 => h9) rfl hnm rfl (by decide +kernel) rfl rfl (Nat.le_of_ble_eq_true rfl) d_M_init_58 (fun H locs hw => ?_)
  have hw := mN_put 6 hw rfl
  refine lv_aload_n hx hb d_M_init_61 rfl (lv_at hl 0 rfl) ?_
  refine lv_bipush (v := (nI 20)) hx hb d_M_init_62 (by decide) ?_
  refine yr_newi (N' := 20) hx hb (ht _ ma_int) hK.1 hK.2.1 List.mem_cons_self hw hA (21, 7, 0) (mN_f 7) (nI_pos (by omega)) (nI_clamp (by omega)) (by omega) (Nat.le_of_ble_eq_true rfl) (Nat.le_of_ble_eq_true rfl) d_M_init_64 (fun ad8 H hag8 hw => ?_)
  rw [← hag8 _ (mN_o 7)] at hl ⊢
  have hw := mN_new 7 hag8 rfl hw
  refine yr_putF (ty := .array .int) (C := R_M) (T := F_M) (N := 16) (ci := k_M) hx hb ht j_M t_M t_M_ok n_M hown hK.1 hw (mN_o 8) (by rfl) rfl 9 (by decide) (ht _ mf_M_31) (fun _ h9 => h9) rfl hnm rfl (by decide +kernel) rfl rfl (Nat.le_of_ble_eq_true rfl) d_M_init_66 (fun H locs hw => ?_)
  have hw := mN_put 7 hw rfl
  refine lv_aload_n hx hb d_M_init_69 rfl (lv_at hl 0 rfl) ?_
  refine lv_bipush (v := (nI 20)) hx hb d_M_init_70 (by decide) ?_
  refine yr_newi (N' := 20) hx hb (ht _ ma_int) hK.1 hK.2.1 List.mem_cons_self hw hA (21, 8, 0) (mN_f 8) (nI_pos (by omega)) (nI_clamp (by omega)) (by omega) (Nat.le_of_ble_eq_true rfl) (Nat.le_of_ble_eq_true rfl) d_M_init_72 (fun ad9 H hag9 hw => ?_)
  rw [← hag9 _ (mN_o 8)] at hl ⊢
  have hw := mN_new 8 hag9 rfl hw
  refine yr_putF (ty := .array .int) (C := R_M) (T := F_M) (N := 16) (ci := k_M) hx hb ht j_M t_M t_M_ok n_M hown hK.1 hw (mN_o 9) (by rfl) rfl 10 (by decide) (ht _ mf_M_34) (fun _ h9 => h9) rfl hnm rfl (by decide +kernel) rfl rfl (Nat.le_of_ble_eq_true rfl) d_M_init_74 (fun H locs hw => ?_)
  have hw := mN_put 8 hw rfl
  refine lv_aload_n hx hb d_M_init_77 rfl (lv_at hl 0 rfl) ?_
  refine lv_bipush (v := (nI 20)) hx hb d_M_init_78 (by decide) ?_
  refine yr_newi (N' := 20) hx hb (ht _ ma_int) hK.1 hK.2.1 List.mem_cons_self hw hA (21, 9, 0) (mN_f 9) (nI_pos (by omega)) (nI_clamp (by omega)) (by omega) (Nat.le_of_ble_eq_true rfl) (Nat.le_of_ble_eq_true rfl) d_M_init_80 (fun ad10 H hag10 hw => ?_)
  rw [← hag10 _ (mN_o 9)] at hl ⊢
  have hw := mN_new 9 hag10 rfl hw
  refine yr_putF (ty := .array .int) (C := R_M) (T := F_M) (N := 16) (ci := k_M) hx hb ht j_M t_M t_M_ok n_M hown hK.1 hw (mN_o 10) (by rfl) rfl 11 (by decide) (ht _ mf_M_37) (fun _ h9 => h9) rfl hnm rfl (by decide +kernel) rfl rfl (Nat.le_of_ble_eq_true rfl) d_M_init_82 (fun H locs hw => ?_)
  have hw := mN_put 9 hw rfl
  refine lv_aload_n hx hb d_M_init_85 rfl (lv_at hl 0 rfl) ?_
  refine lv_bipush (v := (nI 20)) hx hb d_M_init_86 (by decide) ?_
  refine yr_newi (N' := 20) hx hb (ht _ ma_int) hK.1 hK.2.1 List.mem_cons_self hw hA (21, 10, 0) (mN_f 10) (nI_pos (by omega)) (nI_clamp (by omega)) (by omega) (Nat.le_of_ble_eq_true rfl) (Nat.le_of_ble_eq_true rfl) d_M_init_88 (fun ad11 H hag11 hw => ?_)
  rw [← hag11 _ (mN_o 10)] at hl ⊢
  have hw := mN_new 10 hag11 rfl hw
  refine yr_putF (ty := .array .int) (C := R_M) (T := F_M) (N := 16) (ci := k_M) hx hb ht j_M t_M t_M_ok n_M hown hK.1 hw (mN_o 11) (by rfl) rfl 12 (by decide) (ht _ mf_M_40) (fun _ h9 => h9) rfl hnm rfl (by decide +kernel) rfl rfl (Nat.le_of_ble_eq_true rfl) d_M_init_90 (fun H locs hw => ?_)
  have hw := mN_put 10 hw rfl
  refine lv_aload_n hx hb d_M_init_93 rfl (lv_at hl 0 rfl) ?_
  refine lv_sipush (v := (nI 1200)) hx hb d_M_init_94 (by decide) ?_
  refine yr_newi (N' := 1200) hx hb (ht _ ma_int) hK.1 hK.2.1 List.mem_cons_self hw hA (21, 11, 0) (mN_f 11) (nI_pos (by omega)) (nI_clamp (by omega)) (by omega) (Nat.le_of_ble_eq_true rfl) (Nat.le_of_ble_eq_true rfl) d_M_init_97 (fun ad12 H hag12 hw => ?_)
  rw [← hag12 _ (mN_o 11)] at hl ⊢
  have hw := mN_new 11 hag12 rfl hw
  refine yr_putF (ty := .array .int) (C := R_M) (T := F_M) (N := 16) (ci := k_M) hx hb ht j_M t_M t_M_ok n_M hown hK.1 hw (mN_o 12) (by rfl) rfl 13 (by decide) (ht _ mf_M_43) (fun _ h9 => h9) rfl hnm rfl (by decide +kernel) rfl rfl (Nat.le_of_ble_eq_true rfl) d_M_init_99 (fun H locs hw => ?_)
  have hw := mN_put 11 hw rfl
  refine lv_aload_n hx hb d_M_init_102 rfl (lv_at hl 0 rfl) ?_
  refine lv_bipush (v := (nI 32)) hx hb d_M_init_103 (by decide) ?_
  refine yr_newi (N' := 32) hx hb (ht _ ma_int) hK.1 hK.2.1 List.mem_cons_self hw hA (21, 12, 0) (mN_f 12) (nI_pos (by omega)) (nI_clamp (by omega)) (by omega) (Nat.le_of_ble_eq_true rfl) (Nat.le_of_ble_eq_true rfl) d_M_init_105 (fun ad13 H hag13 hw => ?_)
  rw [← hag13 _ (mN_o 12)] at hl ⊢
  have hw := mN_new 12 hag13 rfl hw
  refine yr_putF (ty := .array .int) (C := R_M) (T := F_M) (N := 16) (ci := k_M) hx hb ht j_M t_M t_M_ok n_M hown hK.1 hw (mN_o 13) (by rfl) rfl 14 (by decide) (ht _ mf_M_46) (fun _ h9 => h9) rfl hnm rfl (by decide +kernel) rfl rfl (Nat.le_of_ble_eq_true rfl) d_M_init_107 (fun H locs hw => ?_)
  have hw := mN_put 12 hw rfl
  refine lv_aload_n hx hb d_M_init_110 rfl (lv_at hl 0 rfl) ?_
  refine lv_sipush (v := (nI 256)) hx hb d_M_init_111 (by decide) ?_
  refine yr_newi (N' := 256) hx hb (ht _ ma_int) hK.1 hK.2.1 List.mem_cons_self hw hA (21, 13, 0) (mN_f 13) (nI_pos (by omega)) (nI_clamp (by omega)) (by omega) (Nat.le_of_ble_eq_true rfl) (Nat.le_of_ble_eq_true rfl) d_M_init_114 (fun ad14 H hag14 hw => ?_)
  rw [← hag14 _ (mN_o 13)] at hl ⊢
  have hw := mN_new 13 hag14 rfl hw
  refine yr_putF (ty := .array .int) (C := R_M) (T := F_M) (N := 16) (ci := k_M) hx hb ht j_M t_M t_M_ok n_M hown hK.1 hw (mN_o 14) (by rfl) rfl 15 (by decide) (ht _ mf_M_49) (fun _ h9 => h9) rfl hnm rfl (by decide +kernel) rfl rfl (Nat.le_of_ble_eq_true rfl) d_M_init_116 (fun H locs hw => ?_)
  have hw := mN_put 13 hw rfl
  refine lv_iconst (v := (nI 0)) hx hb d_M_init_119 (by decide) ?_
  refine lv_istore_n (lv' := [(1, .int _), (0, .ref _)]) hx hb d_M_init_120 rfl hl (by decide) rfl (fun ls hl => ?_)
  refine W.widen (k := 14) (n := 1844) (by omega) (by omega) ?_
  refine loop 20 0 ad14 _ _ _ (by omega) ?_ (mK_start hw) (lv_sub hl [0, 1] rfl)
  rw [hag14 _ (mN_o 13), hag13 _ (mN_o 12), hag12 _ (mN_o 11), hag11 _ (mN_o 10), hag10 _ (mN_o 9), hag9 _ (mN_o 8), hag8 _ (mN_o 7), hag7 _ (mN_o 6), hag6 _ (mN_o 5), hag5 _ (mN_o 4), hag4 _ (mN_o 3), hag3 _ (mN_o 2), hag2 _ (mN_o 1), hag1 _ (mN_o 0)]
