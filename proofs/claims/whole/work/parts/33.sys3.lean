/-! THE FACE: act, run, value, settled, what will be at last -/
def a_actD (T : yp_T) (d : yp_D) (x : Int32) : yp_D := match yin x (yp_n T) with
  | none => d
  | some j => if yp_canb T d j = true then yp_act T d j else d
def a_run (T : yp_T) (d : yp_D) (x0 : Int64) (x : Int32) : Int32 × yp_D := if x < 0 ∨ nI 2000 < x then (-1, d) else (nI (yp_run T x.toNatClampNeg x0 d).2, (yp_run T x.toNatClampNeg x0 d).1)
theorem yrsplit (x : Int32) : (x < 0 ∨ nI 2000 < x) ∨ ∃ k, k ≤ 2000 ∧ x = nI k := by
  rcases ysplit x (n := 2001) (by omega) with (h | h) | ⟨k, hk, e⟩
  · exact Or.inl (Or.inl h)
  · exact Or.inl (Or.inr (by
      rw [Int32.le_iff_toInt_le, nI_toInt (by omega)] at h
      rw [Int32.lt_iff_toInt_lt, nI_toInt (by omega)]
      omega))
  · exact Or.inr ⟨k, by omega, e⟩
theorem yrno {k : Nat} (hk : k ≤ 2000) : ¬ (nI k < 0 ∨ nI 2000 < nI k) := fun q => q.elim (fun a => nI_pos (by omega) a) (fun a => nI_nlt hk (by omega) a)
def a_val (T : yp_T) (x : Int32) : Int32 := match yin x (yp_n T) with
  | none => 0
  | some j => if yp_kd T j = 0 then yb (decide ((yp_sr T j).length < 20)) else 0
def a_valT (T : yp_T) (x v : Int32) : yp_T := match yin x (yp_n T) with
  | none => T
  | some j => if yp_kd T j = 0 ∧ (yp_sr T j).length < 20 then (T.1, T.2.1, T.2.2.1, T.2.2.2.1, T.2.2.2.2.1, T.2.2.2.2.2.1, T.2.2.2.2.2.2.1, va_up (yp_sr T) j (yp_sr T j ++ [v])) else T
theorem L_cnt {σ σ' : ys} (h : σ'.2.1 = σ.2.1) {LL : List yl} (hL : ∀ q, yL σ q → q ∈ LL) : ∀ q, yL σ' q → q ∈ LL := by
  intro q hq
  apply hL q
  have e1 : ∀ y, s_n σ' y = s_n σ y := fun y => by unfold s_n; rw [h]
  have e2 : ∀ y, s_nc σ' y = s_nc σ y := fun y => by unfold s_nc; rw [h]
  obtain ⟨f, y', i'⟩ := q
  match f, hq with
  | 0, hq => exact hq
  | 1, hq => exact hq
  | 2, hq => exact hq
  | 3, hq => exact hq
  | 4, hq => exact hq
  | 5, hq => exact ⟨hq.1, by rw [← e1]; exact hq.2⟩
  | 6, hq => exact ⟨hq.1, by rw [← e1]; exact hq.2⟩
  | 7, hq => exact ⟨hq.1, by rw [← e1]; exact hq.2⟩
  | 8, hq => exact ⟨hq.1, by rw [← e1]; exact hq.2⟩
  | 9, hq => exact ⟨hq.1, by rw [← e2]; exact hq.2⟩
  | 10, hq => exact ⟨hq.1, by rw [← e2]; exact hq.2⟩
theorem E_of {σ : ys} (hc : s_nc σ 1 = s_nc σ 0) (hT : s_T σ 1 = s_T σ 0) : yE σ 1 0 := by
  refine ⟨congrArg (fun T : yp_T => T.1) hT, hc, fun i => ⟨congrFun (congrArg (fun T : yp_T => T.2.1) hT) i, congrFun (congrArg (fun T : yp_T => T.2.2.1) hT) i, congrFun (congrArg (fun T : yp_T => T.2.2.2.1) hT) i⟩, congrArg (fun T : yp_T => T.2.2.2.2.1) hT, congrArg (fun T : yp_T => T.2.2.2.2.2.1) hT, fun c => congrFun (congrArg (fun T : yp_T => T.2.2.2.2.2.2.1) hT) c⟩
theorem E_keep {σ σ' : ys} (hX : yX σ 0 σ') (hT : s_T σ' 0 = s_T σ 0) (hE : yE σ 1 0) : yE σ' 1 0 := by
  obtain ⟨e1, e2, e3, e4, e5, e6⟩ := hE
  obtain ⟨a1, a2, a3, a4, a5, a6⟩ := hX.2.2 1 (by omega)
  refine ⟨by rw [hX.sn, hX.sn]; exact e1, by rw [hX.snc, hX.snc]; exact e2, fun i => ?_, ?_, ?_, fun c => ?_⟩
  · rw [a1]
    have q1 : (s_ac σ' 0 i).1 = (s_ac σ 0 i).1 := congrFun (congrArg (fun T : yp_T => T.2.1) hT) i
    have q2 : (s_ac σ' 0 i).2.1 = (s_ac σ 0 i).2.1 := congrFun (congrArg (fun T : yp_T => T.2.2.1) hT) i
    have q3 : (s_ac σ' 0 i).2.2.1 = (s_ac σ 0 i).2.2.1 := congrFun (congrArg (fun T : yp_T => T.2.2.2.1) hT) i
    rw [q1, q2, q3]
    exact e3 i
  · rw [a2, show s_ic σ' 0 = s_ic σ 0 from congrArg (fun T : yp_T => T.2.2.2.2.1) hT]; exact e4
  · rw [a3, show s_oc σ' 0 = s_oc σ 0 from congrArg (fun T : yp_T => T.2.2.2.2.2.1) hT]; exact e5
  · rw [a5, show (s_ch σ' 0 c).1 = (s_ch σ 0 c).1 from congrFun (congrArg (fun T : yp_T => T.2.2.2.2.2.2.1) hT) c]; exact e6 c
theorem J_path {σ σ' : ys} {m : Nat} (hX : yX σ 0 σ') (hT : s_T σ' 0 = s_T σ 0) (hI : yI σ' 0) (hp : yp_path (s_T σ 0) m (s_D σ 0) (s_D σ' 0)) (hJ : yJ σ) : yJ σ' := by
  obtain ⟨j1, j2, j3, j4⟩ := hJ
  refine ⟨hI, hX.I (by omega) j2, E_keep hX hT j3, ?_⟩
  rw [hX.1, hX.sT (show (1 : Nat) ≠ 0 by omega), hX.sD (show (1 : Nat) ≠ 0 by omega), hT]
  rcases j4 with h | ⟨h, hT1, hF⟩
  · exact Or.inl h
  · exact Or.inr ⟨h, hT1, yp_fin_fwd j1.2.2.2.2.2.2 hp hF⟩
theorem val_J {σ : ys} {j : Nat} {v : Int32} (hJ : yJ σ) (hj : j < s_n σ 0) (hk : (s_ac σ 0 j).1 = 0) (ht : (s_ac σ 0 j).2.2.2.1 < 20) : yJ (sx_fl (yo_tell σ 0 j v) 0 0 0) ∧ s_T (sx_fl (yo_tell σ 0 j v) 0 0 0) 0 = ((s_T σ 0).1, (s_T σ 0).2.1, (s_T σ 0).2.2.1, (s_T σ 0).2.2.2.1, (s_T σ 0).2.2.2.2.1, (s_T σ 0).2.2.2.2.2.1, (s_T σ 0).2.2.2.2.2.2.1, va_up (yp_sr (s_T σ 0)) j (yp_sr (s_T σ 0) j ++ [v])) ∧ s_D (sx_fl (yo_tell σ 0 j v) 0 0 0) 0 = s_D σ 0 := by
  generalize hσ : sx_fl (yo_tell σ 0 j v) 0 0 0 = σ'
  have hac : ∀ i, s_ac σ' 0 i = if i = j then ((s_ac σ 0 j).1, (s_ac σ 0 j).2.1, (s_ac σ 0 j).2.2.1, (s_ac σ 0 j).2.2.2.1 + 1, (s_ac σ 0 j).2.2.2.2) else s_ac σ 0 i := fun i => by rw [← hσ]; exact s_ac_at
  have hrw : ∀ i, s_rw σ' 0 i = if i = j then upd (s_rw σ 0 j) (s_ac σ 0 j).2.2.2.1 v else s_rw σ 0 i := fun i => by rw [← hσ]; exact s_rw_at
  have hk1 : ∀ i, (s_ac σ' 0 i).1 = (s_ac σ 0 i).1 ∧ (s_ac σ' 0 i).2.1 = (s_ac σ 0 i).2.1 ∧ (s_ac σ' 0 i).2.2.1 = (s_ac σ 0 i).2.2.1 ∧ (s_ac σ' 0 i).2.2.2.2 = (s_ac σ 0 i).2.2.2.2 := fun i => by
    rw [hac]
    by_cases h : i = j
    · rw [if_pos h, h]; exact ⟨rfl, rfl, rfl, rfl⟩
    · rw [if_neg h]; exact ⟨rfl, rfl, rfl, rfl⟩
  have hcn : σ'.2.1 = σ.2.1 := by rw [← hσ]; rfl
  have hic : s_ic σ' = s_ic σ := by rw [← hσ]; rfl
  have hoc : s_oc σ' = s_oc σ := by rw [← hσ]; rfl
  have hch : s_ch σ' = s_ch σ := by rw [← hσ]; rfl
  have hrg : s_rg σ' = s_rg σ := by rw [← hσ]; rfl
  have h1 : s_ac σ' 1 = s_ac σ 1 := by rw [← hσ]; exact ((yX_rw.tr yX_ac : yX σ 0 (yo_tell σ 0 j v)).2.2 1 (by omega)).1
  have h2 : s_rw σ' 1 = s_rw σ 1 := by rw [← hσ]; exact ((yX_rw.tr yX_ac : yX σ 0 (yo_tell σ 0 j v)).2.2 1 (by omega)).2.2.2.1
  have hn : ∀ y, s_n σ' y = s_n σ y := fun y => by unfold s_n; rw [hcn]
  have hnc : ∀ y, s_nc σ' y = s_nc σ y := fun y => by unfold s_nc; rw [hcn]
  have hT : s_T σ' 0 = ((s_T σ 0).1, (s_T σ 0).2.1, (s_T σ 0).2.2.1, (s_T σ 0).2.2.2.1, (s_T σ 0).2.2.2.2.1, (s_T σ 0).2.2.2.2.2.1, (s_T σ 0).2.2.2.2.2.2.1, va_up (yp_sr (s_T σ 0)) j (yp_sr (s_T σ 0) j ++ [v])) := by
    have e1 : (fun i => (s_ac σ' 0 i).1) = fun i => (s_ac σ 0 i).1 := funext fun i => (hk1 i).1
    have e2 : (fun i => (s_ac σ' 0 i).2.1) = fun i => (s_ac σ 0 i).2.1 := funext fun i => (hk1 i).2.1
    have e3 : (fun i => (s_ac σ' 0 i).2.2.1) = fun i => (s_ac σ 0 i).2.2.1 := funext fun i => (hk1 i).2.2.1
    have e4 : (fun i => yrw (s_rw σ' 0 i) (s_ac σ' 0 i).2.2.2.1) = va_up (yp_sr (s_T σ 0)) j (yp_sr (s_T σ 0) j ++ [v]) := by
      funext i
      rw [hac, hrw]
      unfold va_up
      by_cases h : i = j
      · rw [if_pos h, if_pos h, if_pos h]
        exact yrw_push
      · rw [if_neg h, if_neg h, if_neg h]; rfl
    unfold s_T
    rw [e1, e2, e3, e4, hic, hoc, hch, hn]
    rfl
  have hD : s_D σ' 0 = s_D σ 0 := by
    have e1 : (fun i => (s_ac σ' 0 i).2.2.2.2) = fun i => (s_ac σ 0 i).2.2.2.2 := funext fun i => (hk1 i).2.2.2
    have e2 : (fun i => if (s_ac σ' 0 i).1 = 6 then yrw (s_rw σ' 0 i) (s_ac σ' 0 i).2.2.2.2 else []) = fun i => if (s_ac σ 0 i).1 = 6 then yrw (s_rw σ 0 i) (s_ac σ 0 i).2.2.2.2 else [] := by
      funext i
      rw [(hk1 i).1, (hk1 i).2.2.2, hrw]
      by_cases h : i = j
      · rw [h, hk, if_neg (by omega), if_neg (by omega)]
      · rw [if_neg h]
    unfold s_D
    rw [e1, e2, hch, hrg]
  obtain ⟨j1, j2, j3, j4⟩ := hJ
  refine ⟨⟨?_, ?_, ?_, Or.inl (by rw [← hσ]; show up2 (s_fl (yo_tell σ 0 j v)) 0 0 0 0 0 = 0; exact up2_s _ _ _ _)⟩, hT, hD⟩
  · obtain ⟨b1, b2, b3, b4, b5, b6, b7⟩ := j1
    refine ⟨⟨by rw [hn]; exact b1.1, fun i hi => ?_, fun c hc => by rw [hch]; exact b1.2.2 c (by rw [← hnc]; exact hc)⟩, by rw [hnc]; exact b2, fun i => ?_, by rw [hch]; exact b4, fun i k c e => ?_, fun i k c e => ?_, wf_io (by rw [hic]) (by rw [hoc]) b7⟩
    · rw [hn] at hi
      rw [hac, if_neg (by omega)]
      exact b1.2.1 i hi
    · obtain ⟨c1, c2, c3, c4, c5⟩ := b3 i
      rw [hac]
      by_cases h : i = j
      · rw [if_pos h]
        rw [h] at c1 c2 c3 c4 c5
        exact ⟨c1, ht, fun q => absurd hk q, c4, c5⟩
      · rw [if_neg h]; exact ⟨c1, c2, c3, c4, c5⟩
    · rw [hic] at e
      rw [(hk1 i).1, hn, hnc]
      exact b5 i k c e
    · rw [hoc] at e
      rw [(hk1 i).1, hn, hnc]
      exact b6 i k c e
  · unfold yI
    rw [hn, hnc, h1, hch, hic, hoc]
    have e : s_T σ' 1 = s_T σ 1 := by unfold s_T; rw [hn, h1, h2, hic, hoc, hch]
    rw [e]
    exact j2
  · obtain ⟨e1, e2, e3, e4, e5, e6⟩ := j3
    refine ⟨by rw [hn, hn]; exact e1, by rw [hnc, hnc]; exact e2, fun i => ?_, by rw [hic]; exact e4, by rw [hoc]; exact e5, by rw [hch]; exact e6⟩
    rw [h1, (hk1 i).1, (hk1 i).2.1, (hk1 i).2.2.1]
    exact e3 i
/-- the second yard is how all ends; the first is as it was -/
def ySt (σ σ' : ys) : Prop := yJ σ' ∧ σ'.2.1 = σ.2.1 ∧ s_fl σ' 0 0 = 1 ∧ s_T σ' 0 = s_T σ 0 ∧ s_D σ' 0 = s_D σ 0
theorem St_fin {σ u : ys} (h : ySt σ u) : s_T u 1 = s_T σ 0 ∧ yp_fin (s_T σ 0) (s_D σ 0) (s_D u 1) := by
  obtain ⟨j, c, f, T, D⟩ := h
  rcases j.2.2.2 with h0 | ⟨h1, h2, h3⟩
  · rw [f] at h0; exact absurd h0 (by decide)
  · rw [T] at h2 h3
    rw [D] at h3
    exact ⟨h2, h3⟩
theorem set_J {σ u1 u2 : ys} (hJ : yJ σ) (x1 : yX σ 1 u1) (x2 : s_T u1 1 = s_T σ 0) (x3 : s_D u1 1 = s_D σ 0) (z1 : yX u1 1 u2) (z2 : s_T u2 1 = s_T u1 1) (z3 : yI u2 1) (z4 : yp_fin (s_T u1 1) (s_D u1 1) (s_D u2 1)) : ySt σ (sx_fl u2 0 0 1) := by
  have hX := x1.tr z1
  have hT0 : s_T u2 0 = s_T σ 0 := hX.sT (by omega)
  have hD0 : s_D u2 0 = s_D σ 0 := hX.sD (by omega)
  have hT1 : s_T u2 1 = s_T u2 0 := by rw [hT0, z2, x2]
  have hf : s_fl (sx_fl u2 0 0 1) 0 0 = 1 := by
    show up2 (s_fl u2) 0 0 1 0 0 = 1
    exact up2_s _ _ _ _
  refine ⟨⟨hX.I (by omega) hJ.1, z3, ?_, Or.inr ⟨hf, hT1, ?_⟩⟩, hX.2.1, hf, hT0, hD0⟩
  · exact E_of (σ := u2) (by rw [hX.snc, hX.snc]; exact hJ.2.2.1.2.1) hT1
  · show yp_fin (s_T u2 0) (s_D u2 0) (s_D u2 1)
    rw [x2, x3] at z4
    rw [hT0, hD0]
    exact z4
theorem full_eq (σ : ys) {y : Nat} (x : Int32) : yff (fun c => decide ((s_ch σ y c).1 ≤ (s_ch σ y c).2.2)) x (s_nc σ y) 0 0 = a_full (s_T σ y) (s_nc σ y) (s_D σ y) x := by
  unfold a_full
  have e : (fun c => decide ((s_ch σ y c).1 ≤ (s_ch σ y c).2.2)) = fun c => decide (yp_rm (s_T σ y) c ≤ ((s_D σ y).2.2 c).length) := by
    funext c
    show _ = decide ((s_ch σ y c).1 ≤ (yrq _ _ _).length)
    rw [yrq_len]
  rw [e]
set_option maxHeartbeats 4000000 in
set_option maxRecDepth 100000 in
/-- act -/
theorem c_S_act (l : Launch) (D : va_G) (cc : ClassId × ClassId × ClassId) (ad : yl → Nat) (LL : List yl) (X : va_W) (b0 sz : Nat) (σ : ys) (hL : ∀ q, yL σ q → q ∈ LL) (hJ : yJ σ) (x : Int32) : Met l y_S_act w_S_act ({ frames := 3, cells := 0, slots := 0, locals := 67 }) (yPr D cc b0 [.ref (ad (0, 0, 0)), .int x] (yW cc ad LL X σ) sz) (va_Qi (fun r σ' => r = a_can (s_T σ 0) (s_D σ 0) x ∧ yJ σ' ∧ σ'.2.1 = σ.2.1 ∧ s_T σ' 0 = s_T σ 0 ∧ s_D σ' 0 = a_actD (s_T σ 0) (s_D σ 0) x) (yB D ycl (yW cc ad LL X σ) sz (fun σ' => yW cc ad LL X σ')) (va_A (yW cc ad LL X σ) sz)) 0 0 (va_A (yW cc ad LL X σ) sz) := by
  have o0 : (0, 0, 0) ∈ LL := hL _ ⟨rfl, rfl⟩
  have n0 : (1, 0, 0) ∈ LL := hL _ ⟨by omega, rfl⟩
  have n1 : (1, 1, 0) ∈ LL := hL _ ⟨by omega, rfl⟩
  have hi := hJ.1
  have hi1 := hJ.2.1
  have hn10 := hi.1.1
  have hc16 := hi.2.1
  have hm10 := hi1.1.1
  have hd16 := hi1.2.1
  rcases ysplit x (n := s_n σ 0) (by omega) with hno | ⟨j, hj, rfl⟩
  · refine y_ofW (cc := b_S_act) (maxL := 3) (ret := (some .boolean)) (by decide) rfl (Nat.le_of_ble_eq_true rfl) ?_
    intro pv ev sv mv bv tv cv ls hI hsz hw hl
    obtain ⟨hx, hb, hr, hml, hts, hown, hlocks, hnm, hK, hAb, hb0, hA⟩ := id hI
    have ht : ∀ w ∈ lg_tbl, w.before _ sv = true := fun w h => hts w (List.mem_cons_of_mem _ h)
    have hl : lv_has ls 3 [(0, .ref (ad (0, 0, 0))), (1, .int x)] := hl
    refine lv_aload_n hx hb d_S_act_0 rfl (lv_at hl 0 rfl) ?_
    refine yr_get (C := R_S) (T := F_S) (N := 3) (ci := k_S) hx hb ht j_S hown hK.1 hw (by assumption) (by rfl) rfl 0 (by decide) (ht _ mf_S_14) (fun _ h9 => h9) (by rfl) d_S_act_1 ?_
    refine lv_iload_n hx hb d_S_act_4 rfl (lv_at hl 1 rfl) ?_
    refine yc_q (va_runV (As := [.int _]) (rest := []) ⟨hx, hb, hml, hown, hts⟩ (c_Y_findActor_no l D cc ad LL X b0 _ σ hL 0 (by omega) hi x hno) (cwV 1 hts (yg_call mc_Y_findActor ml_S_43 mm_Y_findActor ms_Y_findActor mi_Y) rfl rfl rfl (by decide +kernel) ⟨Nat.le_of_ble_eq_true rfl, Nat.le_of_ble_eq_true rfl⟩) (y_preV hI hw (y_recv hK.1 hw n0 (by rfl) rfl)) rfl rfl hl.1 rfl (lv_room (Nat.le_of_ble_eq_true rfl)) d_S_act_5 ⟨Nat.le_of_ble_eq_true rfl, Nat.le_of_ble_eq_true rfl⟩) hw hA (fun r u H locs he hw => ?_)
    subst he
    rw [yrf_n]
    refine lv_astore_nN (lv' := [(2, .null), (0, .ref _), (1, .int _)]) hx hb d_S_act_8 rfl hl (by decide) rfl (fun ls hl => ?_)
    refine lv_aload_nN hx hb d_S_act_9 rfl (lv_at hl 0 rfl) ?_
    refine lv_ifnullN (tgt := 20) hx hb d_S_act_10 (by decide) ?_
    refine lv_iconst (v := 0) hx hb d_S_act_20 (by decide) ?_
    exact ye_z hI (by decide) σ ⟨by unfold a_can; rw [yin_no (show x < 0 ∨ nI (yp_n (s_T σ 0)) ≤ x from hno)], hJ, rfl, rfl, by unfold a_actD; rw [yin_no (show x < 0 ∨ nI (yp_n (s_T σ 0)) ≤ x from hno)]⟩ hw d_S_act_21
  · have h5 : (5, 0, j) ∈ LL := hL _ ⟨by omega, hj⟩
    have hjn : yin (nI j) (yp_n (s_T σ 0)) = some j := yin_some hj (by show s_n σ 0 < _; omega)
    refine y_ofW (cc := b_S_act) (maxL := 3) (ret := (some .boolean)) (by decide) rfl (Nat.le_of_ble_eq_true rfl) ?_
    intro pv ev sv mv bv tv cv ls hI hsz hw hl
    obtain ⟨hx, hb, hr, hml, hts, hown, hlocks, hnm, hK, hAb, hb0, hA⟩ := id hI
    have ht : ∀ w ∈ lg_tbl, w.before _ sv = true := fun w h => hts w (List.mem_cons_of_mem _ h)
    have hl : lv_has ls 3 [(0, .ref (ad (0, 0, 0))), (1, .int (nI j))] := hl
    refine lv_aload_n hx hb d_S_act_0 rfl (lv_at hl 0 rfl) ?_
    refine yr_get (C := R_S) (T := F_S) (N := 3) (ci := k_S) hx hb ht j_S hown hK.1 hw (by assumption) (by rfl) rfl 0 (by decide) (ht _ mf_S_14) (fun _ h9 => h9) (by rfl) d_S_act_1 ?_
    refine lv_iload_n hx hb d_S_act_4 rfl (lv_at hl 1 rfl) ?_
    refine yc_q (va_runV (As := [.int _]) (rest := []) ⟨hx, hb, hml, hown, hts⟩ (c_Y_findActor l D cc ad LL X b0 _ σ hL 0 (by omega) hi j hj) (cwV 1 hts (yg_call mc_Y_findActor ml_S_43 mm_Y_findActor ms_Y_findActor mi_Y) rfl rfl rfl (by decide +kernel) ⟨Nat.le_of_ble_eq_true rfl, Nat.le_of_ble_eq_true rfl⟩) (y_preV hI hw (y_recv hK.1 hw n0 (by rfl) rfl)) rfl rfl hl.1 rfl (lv_room (Nat.le_of_ble_eq_true rfl)) d_S_act_5 ⟨Nat.le_of_ble_eq_true rfl, Nat.le_of_ble_eq_true rfl⟩) hw hA (fun r u H locs he hw => ?_)
    subst he
    rw [yrf_s]
    refine lv_astore_n (lv' := [(2, .ref _), (0, .ref _), (1, .int _)]) hx hb d_S_act_8 rfl hl (by decide) rfl (fun ls hl => ?_)
    refine lv_aload_n hx hb d_S_act_9 rfl (lv_at hl 0 rfl) ?_
    refine lv_ifnull hx hb d_S_act_10 ?_
    refine lv_aload_n hx hb d_S_act_13 rfl (lv_at hl 0 rfl) ?_
    refine yc_i (va_runV (As := []) (rest := []) ⟨hx, hb, hml, hown, hts⟩ (c_A_isReady l D cc ad LL X b0 _ σ hL 0 j (by omega) hj hi) (cwV 0 hts (yg_call mc_A_isReady ml_S_47 mm_A_isReady ms_A_isReady mi_A) rfl rfl rfl (by decide +kernel) ⟨Nat.le_of_ble_eq_true rfl, Nat.le_of_ble_eq_true rfl⟩) (y_preV hI hw (y_recv hK.1 hw h5 (by rfl) rfl)) rfl rfl hl.1 rfl (lv_room (Nat.le_of_ble_eq_true rfl)) d_S_act_14 ⟨Nat.le_of_ble_eq_true rfl, Nat.le_of_ble_eq_true rfl⟩) hw hA (fun r u H locs he hw => ?_)
    subst he
    refine lv_if_ne (tgt := 22) hx hb d_S_act_17 (by decide) (fun c_17 => ?_) (fun c_17 => ?_)
    · have e1 := yb_1 c_17
      refine lv_aload_n hx hb d_S_act_22 rfl (lv_at hl 0 rfl) ?_
      refine yc_v (va_runV (As := []) (rest := []) ⟨hx, hb, hml, hown, hts⟩ (c_A_step l D cc ad LL X b0 _ σ hL 0 j (by omega) hj hi e1) (cwV 0 hts (yg_call mc_A_step ml_S_51 mm_A_step ms_A_step mi_A) rfl rfl rfl (by decide +kernel) ⟨Nat.le_of_ble_eq_true rfl, Nat.le_of_ble_eq_true rfl⟩) (y_preV hI hw (y_recv hK.1 hw h5 (by rfl) rfl)) rfl rfl hl.1 rfl (lv_room (Nat.le_of_ble_eq_true rfl)) d_S_act_23 ⟨Nat.le_of_ble_eq_true rfl, Nat.le_of_ble_eq_true rfl⟩) hw hA (fun u H locs he hw => ?_)
      refine lv_iconst (v := 1) hx hb d_S_act_26 (by decide) ?_
      exact ye_z hI (by decide) u ⟨by unfold a_can; rw [hjn]; show _ = yb _; rw [e1]; rfl, J_path he.1 he.2.1 he.2.2.2 (he.2.2.1 ▸ yp_path_1 hj e1) hJ, he.1.2.1, he.2.1, by unfold a_actD; rw [hjn]; show _ = if _ then _ else _; rw [if_pos e1]; exact he.2.2.1⟩ hw d_S_act_27
    · have e1 := yb_0 c_17
      refine lv_iconst (v := 0) hx hb d_S_act_20 (by decide) ?_
      exact ye_z hI (by decide) σ ⟨by unfold a_can; rw [hjn]; show _ = yb _; rw [e1]; rfl, hJ, rfl, rfl, by unfold a_actD; rw [hjn]; show _ = if _ then _ else _; rw [if_neg (by rw [e1]; decide)]⟩ hw d_S_act_21
set_option maxHeartbeats 4000000 in
set_option maxRecDepth 100000 in
/-- run -/
theorem c_S_run (l : Launch) (D : va_G) (cc : ClassId × ClassId × ClassId) (ad : yl → Nat) (LL : List yl) (X : va_W) (b0 sz : Nat) (σ : ys) (hL : ∀ q, yL σ q → q ∈ LL) (hJ : yJ σ) (x0 : Int64) (x : Int32) : Met l y_S_run w_S_run ({ frames := 6, cells := 0, slots := 0, locals := 138 }) (yPr D cc b0 [.ref (ad (0, 0, 0)), .long x0, .int x] (yW cc ad LL X σ) sz) (va_Qi (fun r σ' => r = (a_run (s_T σ 0) (s_D σ 0) x0 x).1 ∧ yJ σ' ∧ σ'.2.1 = σ.2.1 ∧ s_T σ' 0 = s_T σ 0 ∧ s_D σ' 0 = (a_run (s_T σ 0) (s_D σ 0) x0 x).2) (yB D ycl (yW cc ad LL X σ) sz (fun σ' => yW cc ad LL X σ')) (va_A (yW cc ad LL X σ) sz)) 0 0 (va_A (yW cc ad LL X σ) sz) := by
  have o0 : (0, 0, 0) ∈ LL := hL _ ⟨rfl, rfl⟩
  have n0 : (1, 0, 0) ∈ LL := hL _ ⟨by omega, rfl⟩
  have n1 : (1, 1, 0) ∈ LL := hL _ ⟨by omega, rfl⟩
  have hi := hJ.1
  have hi1 := hJ.2.1
  have hn10 := hi.1.1
  have hc16 := hi.2.1
  have hm10 := hi1.1.1
  have hd16 := hi1.2.1
  rcases yrsplit x with hno | ⟨k, hk, rfl⟩
  · refine y_ofW (cc := b_S_run) (maxL := 4) (ret := (some .int)) (by decide) rfl (Nat.le_of_ble_eq_true rfl) ?_
    intro pv ev sv mv bv tv cv ls hI hsz hw hl
    obtain ⟨hx, hb, hr, hml, hts, hown, hlocks, hnm, hK, hAb, hb0, hA⟩ := id hI
    have ht : ∀ w ∈ lg_tbl, w.before _ sv = true := fun w h => hts w (List.mem_cons_of_mem _ h)
    have hl : lv_has ls 4 [(0, .ref (ad (0, 0, 0))), (1, .long x0), (3, .int x)] := hl
    refine lv_iload_n hx hb d_S_run_0 rfl (lv_at hl 2 rfl) ?_
    refine lv_if_lt (tgt := 11) hx hb d_S_run_1 (by decide) (fun c_1 => ?_) (fun c_1 => ?_)
    · refine lv_iconst (v := (-1)) hx hb d_S_run_11 (by decide) ?_
      exact ye_i hI σ ⟨by unfold a_run; rw [if_pos hno], hJ, rfl, rfl, by unfold a_run; rw [if_pos hno]⟩ hw d_S_run_12
    · refine lv_iload_n hx hb d_S_run_4 rfl (lv_at hl 2 rfl) ?_
      refine lv_sipush (v := (nI 2000)) hx hb d_S_run_5 (by decide) ?_
      refine lv_icmp_le (tgt := 13) hx hb d_S_run_8 (by decide) (fun c_8 => by exact (hno.elim (fun h => absurd h c_1) (fun h => absurd c_8 (Int32.not_le.mpr h)))) (fun c_8 => ?_)
      refine lv_iconst (v := (-1)) hx hb d_S_run_11 (by decide) ?_
      exact ye_i hI σ ⟨by unfold a_run; rw [if_pos hno], hJ, rfl, rfl, by unfold a_run; rw [if_pos hno]⟩ hw d_S_run_12
  · refine y_ofW (cc := b_S_run) (maxL := 4) (ret := (some .int)) (by decide) rfl (Nat.le_of_ble_eq_true rfl) ?_
    intro pv ev sv mv bv tv cv ls hI hsz hw hl
    obtain ⟨hx, hb, hr, hml, hts, hown, hlocks, hnm, hK, hAb, hb0, hA⟩ := id hI
    have ht : ∀ w ∈ lg_tbl, w.before _ sv = true := fun w h => hts w (List.mem_cons_of_mem _ h)
    have hl : lv_has ls 4 [(0, .ref (ad (0, 0, 0))), (1, .long x0), (3, .int (nI k))] := hl
    refine lv_iload_n hx hb d_S_run_0 rfl (lv_at hl 2 rfl) ?_
    refine lv_if_lt (tgt := 11) hx hb d_S_run_1 (by decide) (fun c_1 => by exact absurd c_1 (nI_pos (by omega))) (fun c_1 => ?_)
    refine lv_iload_n hx hb d_S_run_4 rfl (lv_at hl 2 rfl) ?_
    refine lv_sipush (v := (nI 2000)) hx hb d_S_run_5 (by decide) ?_
    refine lv_icmp_le (tgt := 13) hx hb d_S_run_8 (by decide) (fun c_8 => ?_) (fun c_8 => by exact absurd (nI_le hk (by omega)) c_8)
    refine lv_aload_n hx hb d_S_run_13 rfl (lv_at hl 0 rfl) ?_
    refine yr_get (C := R_S) (T := F_S) (N := 3) (ci := k_S) hx hb ht j_S hown hK.1 hw (by assumption) (by rfl) rfl 0 (by decide) (ht _ mf_S_14) (fun _ h9 => h9) (by rfl) d_S_run_14 ?_
    refine lv_lload_n hx hb d_S_run_17 rfl (lv_at hl 1 rfl) ?_
    refine lv_iload_n hx hb d_S_run_18 rfl (lv_at hl 2 rfl) ?_
    refine yc_i (va_runV (As := [.long _, .int _]) (rest := []) ⟨hx, hb, hml, hown, hts⟩ (c_Y_stepBySeed l D cc ad LL X b0 _ σ hL 0 (by omega) hi x0 k hk) (cwV 2 hts (yg_call mc_Y_stepBySeed ml_S_54 mm_Y_stepBySeed ms_Y_stepBySeed mi_Y) rfl rfl rfl (by decide +kernel) ⟨Nat.le_of_ble_eq_true rfl, Nat.le_of_ble_eq_true rfl⟩) (y_preV hI hw (y_recv hK.1 hw n0 (by rfl) rfl)) rfl rfl hl.1 rfl (lv_room (Nat.le_of_ble_eq_true rfl)) d_S_run_19 ⟨Nat.le_of_ble_eq_true rfl, Nat.le_of_ble_eq_true rfl⟩) hw hA (fun r u H locs he hw => ?_)
    obtain ⟨h1, h2, h3, rfl, h5⟩ := he
    obtain ⟨mm, hmm⟩ := yp_run_path (T := s_T σ 0) k x0 (s_D σ 0)
    exact ye_i hI u ⟨by unfold a_run; rw [if_neg (yrno hk), nI_clamp (by omega)], J_path h1 h2 h3 (h5 ▸ hmm) hJ, h1.2.1, h2, by unfold a_run; rw [if_neg (yrno hk), nI_clamp (by omega)]; exact h5⟩ hw d_S_run_22
set_option maxHeartbeats 4000000 in
set_option maxRecDepth 100000 in
/-- value -/
theorem c_S_value (l : Launch) (D : va_G) (cc : ClassId × ClassId × ClassId) (ad : yl → Nat) (LL : List yl) (X : va_W) (b0 sz : Nat) (σ : ys) (hL : ∀ q, yL σ q → q ∈ LL) (hJ : yJ σ) (x v : Int32) : Met l y_S_value w_S_value ({ frames := 2, cells := 0, slots := 0, locals := 44 }) (yPr D cc b0 [.ref (ad (0, 0, 0)), .int x, .int v] (yW cc ad LL X σ) sz) (va_Qi (fun r σ' => r = a_val (s_T σ 0) x ∧ yJ σ' ∧ σ'.2.1 = σ.2.1 ∧ s_T σ' 0 = a_valT (s_T σ 0) x v ∧ s_D σ' 0 = s_D σ 0) (yB D ycl (yW cc ad LL X σ) sz (fun σ' => yW cc ad LL X σ')) (va_A (yW cc ad LL X σ) sz)) 0 0 (va_A (yW cc ad LL X σ) sz) := by
  have o0 : (0, 0, 0) ∈ LL := hL _ ⟨rfl, rfl⟩
  have n0 : (1, 0, 0) ∈ LL := hL _ ⟨by omega, rfl⟩
  have n1 : (1, 1, 0) ∈ LL := hL _ ⟨by omega, rfl⟩
  have hi := hJ.1
  have hi1 := hJ.2.1
  have hn10 := hi.1.1
  have hc16 := hi.2.1
  have hm10 := hi1.1.1
  have hd16 := hi1.2.1
  rcases ysplit x (n := s_n σ 0) (by omega) with hno | ⟨j, hj, rfl⟩
  · refine y_ofW (cc := b_S_value) (maxL := 4) (ret := (some .boolean)) (by decide) rfl (Nat.le_of_ble_eq_true rfl) ?_
    intro pv ev sv mv bv tv cv ls hI hsz hw hl
    obtain ⟨hx, hb, hr, hml, hts, hown, hlocks, hnm, hK, hAb, hb0, hA⟩ := id hI
    have ht : ∀ w ∈ lg_tbl, w.before _ sv = true := fun w h => hts w (List.mem_cons_of_mem _ h)
    have hl : lv_has ls 4 [(0, .ref (ad (0, 0, 0))), (1, .int x), (2, .int v)] := hl
    refine lv_aload_n hx hb d_S_value_0 rfl (lv_at hl 0 rfl) ?_
    refine yr_get (C := R_S) (T := F_S) (N := 3) (ci := k_S) hx hb ht j_S hown hK.1 hw (by assumption) (by rfl) rfl 0 (by decide) (ht _ mf_S_14) (fun _ h9 => h9) (by rfl) d_S_value_1 ?_
    refine lv_iload_n hx hb d_S_value_4 rfl (lv_at hl 1 rfl) ?_
    refine lv_iconst (v := (nI 0)) hx hb d_S_value_5 (by decide) ?_
    refine yc_q (va_runV (As := [.int _, .int _]) (rest := []) ⟨hx, hb, hml, hown, hts⟩ (c_Y_findKind_no l D cc ad LL X b0 _ σ hL 0 (by omega) hi x hno 0) (cwV 2 hts (yg_call mc_Y_findKind ml_S_29 mm_Y_findKind ms_Y_findKind mi_Y) rfl rfl rfl (by decide +kernel) ⟨Nat.le_of_ble_eq_true rfl, Nat.le_of_ble_eq_true rfl⟩) (y_preV hI hw (y_recv hK.1 hw n0 (by rfl) rfl)) rfl rfl hl.1 rfl (lv_room (Nat.le_of_ble_eq_true rfl)) d_S_value_6 ⟨Nat.le_of_ble_eq_true rfl, Nat.le_of_ble_eq_true rfl⟩) hw hA (fun r u H locs he hw => ?_)
    subst he
    rw [yrf_n]
    refine lv_astore_nN (lv' := [(3, .null), (0, .ref _), (1, .int _), (2, .int _)]) hx hb d_S_value_9 rfl hl (by decide) rfl (fun ls hl => ?_)
    refine lv_aload_nN hx hb d_S_value_10 rfl (lv_at hl 0 rfl) ?_
    refine lv_ifnullN (tgt := 22) hx hb d_S_value_11 (by decide) ?_
    refine lv_iconst (v := 0) hx hb d_S_value_22 (by decide) ?_
    exact ye_z hI (by decide) σ ⟨by unfold a_val; rw [yin_no (show x < 0 ∨ nI (yp_n (s_T σ 0)) ≤ x from hno)], hJ, rfl, by unfold a_valT; rw [yin_no (show x < 0 ∨ nI (yp_n (s_T σ 0)) ≤ x from hno)], rfl⟩ hw d_S_value_23
  · have h5 : (5, 0, j) ∈ LL := hL _ ⟨by omega, hj⟩
    have hjn : yin (nI j) (yp_n (s_T σ 0)) = some j := yin_some hj (by show s_n σ 0 < _; omega)
    by_cases hk0 : (s_ac σ 0 j).1 = 0
    · have hl20 : (yp_sr (s_T σ 0) j).length = (s_ac σ 0 j).2.2.2.1 := ysr_len
      have hr20 : yt_rows (s_ac σ 0 j).1 = 20 := by rw [hk0]; rfl
      by_cases ht2 : (s_ac σ 0 j).2.2.2.1 < 20
      · refine y_ofW (cc := b_S_value) (maxL := 4) (ret := (some .boolean)) (by decide) rfl (Nat.le_of_ble_eq_true rfl) ?_
        intro pv ev sv mv bv tv cv ls hI hsz hw hl
        obtain ⟨hx, hb, hr, hml, hts, hown, hlocks, hnm, hK, hAb, hb0, hA⟩ := id hI
        have ht : ∀ w ∈ lg_tbl, w.before _ sv = true := fun w h => hts w (List.mem_cons_of_mem _ h)
        have hl : lv_has ls 4 [(0, .ref (ad (0, 0, 0))), (1, .int (nI j)), (2, .int v)] := hl
        refine lv_aload_n hx hb d_S_value_0 rfl (lv_at hl 0 rfl) ?_
        refine yr_get (C := R_S) (T := F_S) (N := 3) (ci := k_S) hx hb ht j_S hown hK.1 hw (by assumption) (by rfl) rfl 0 (by decide) (ht _ mf_S_14) (fun _ h9 => h9) (by rfl) d_S_value_1 ?_
        refine lv_iload_n hx hb d_S_value_4 rfl (lv_at hl 1 rfl) ?_
        refine lv_iconst (v := (nI 0)) hx hb d_S_value_5 (by decide) ?_
        refine yc_q (va_runV (As := [.int _, .int _]) (rest := []) ⟨hx, hb, hml, hown, hts⟩ (c_Y_findKind l D cc ad LL X b0 _ σ hL 0 (by omega) hi j hj 0 (by omega) hk0) (cwV 2 hts (yg_call mc_Y_findKind ml_S_29 mm_Y_findKind ms_Y_findKind mi_Y) rfl rfl rfl (by decide +kernel) ⟨Nat.le_of_ble_eq_true rfl, Nat.le_of_ble_eq_true rfl⟩) (y_preV hI hw (y_recv hK.1 hw n0 (by rfl) rfl)) rfl rfl hl.1 rfl (lv_room (Nat.le_of_ble_eq_true rfl)) d_S_value_6 ⟨Nat.le_of_ble_eq_true rfl, Nat.le_of_ble_eq_true rfl⟩) hw hA (fun r u H locs he hw => ?_)
        subst he
        rw [yrf_s]
        refine lv_astore_n (lv' := [(3, .ref _), (0, .ref _), (1, .int _), (2, .int _)]) hx hb d_S_value_9 rfl hl (by decide) rfl (fun ls hl => ?_)
        refine lv_aload_n hx hb d_S_value_10 rfl (lv_at hl 0 rfl) ?_
        refine lv_ifnull hx hb d_S_value_11 ?_
        refine lv_aload_n hx hb d_S_value_14 rfl (lv_at hl 0 rfl) ?_
        refine lv_iload_n hx hb d_S_value_15 rfl (lv_at hl 3 rfl) ?_
        refine yc_i (va_runV (As := [.int _]) (rest := []) ⟨hx, hb, hml, hown, hts⟩ (c_A_tell l D cc ad LL X b0 _ σ hL 0 j (by omega) hj hi v (by rw [hr20]; exact ht2)) (cwV 1 hts (yg_call mc_A_tell ml_S_33 mm_A_tell ms_A_tell mi_A) rfl rfl rfl (by decide +kernel) ⟨Nat.le_of_ble_eq_true rfl, Nat.le_of_ble_eq_true rfl⟩) (y_preV hI hw (y_recv hK.1 hw h5 (by rfl) rfl)) rfl rfl hl.1 rfl (lv_room (Nat.le_of_ble_eq_true rfl)) d_S_value_16 ⟨Nat.le_of_ble_eq_true rfl, Nat.le_of_ble_eq_true rfl⟩) hw hA (fun r u H locs he hw => ?_)
        subst he
        refine lv_if_ne (tgt := 24) hx hb d_S_value_19 (by decide) (fun c_19 => ?_) (fun c_19 => by exact absurd c_19 (by decide))
        refine lv_aload_n hx hb d_S_value_24 rfl (lv_at hl 1 rfl) ?_
        refine lv_iconst (v := 0) hx hb d_S_value_25 (by decide) ?_
        refine yr_put (ty := .boolean) (C := R_S) (T := F_S) (N := 3) (ci := k_S) hx hb ht j_S t_S t_S_ok n_S hown hK.1 hw o0 (by rfl) rfl 2 (by decide) (ht _ mf_S_21) (fun _ h9 => h9) rfl (by decide +kernel) (by decide) (by decide) (Nat.le_of_ble_eq_true rfl) d_S_value_26 (fun H locs hw => ?_)
        have hw := yw_fl 0 hw rfl
        refine lv_iconst (v := 1) hx hb d_S_value_29 (by decide) ?_
        exact ye_z hI (by decide) _ ⟨by unfold a_val; rw [hjn]; show _ = if (s_ac σ 0 j).1 = 0 then yb (decide ((yp_sr (s_T σ 0) j).length < 20)) else 0; rw [if_pos hk0, hl20, decide_eq_true ht2]; rfl, (val_J hJ hj hk0 ht2).1, rfl, by unfold a_valT; rw [hjn]; exact (val_J hJ hj hk0 ht2).2.1.trans (if_pos ⟨hk0, by rw [hl20]; exact ht2⟩).symm, (val_J hJ hj hk0 ht2).2.2⟩ hw d_S_value_30
      · refine y_ofW (cc := b_S_value) (maxL := 4) (ret := (some .boolean)) (by decide) rfl (Nat.le_of_ble_eq_true rfl) ?_
        intro pv ev sv mv bv tv cv ls hI hsz hw hl
        obtain ⟨hx, hb, hr, hml, hts, hown, hlocks, hnm, hK, hAb, hb0, hA⟩ := id hI
        have ht : ∀ w ∈ lg_tbl, w.before _ sv = true := fun w h => hts w (List.mem_cons_of_mem _ h)
        have hl : lv_has ls 4 [(0, .ref (ad (0, 0, 0))), (1, .int (nI j)), (2, .int v)] := hl
        refine lv_aload_n hx hb d_S_value_0 rfl (lv_at hl 0 rfl) ?_
        refine yr_get (C := R_S) (T := F_S) (N := 3) (ci := k_S) hx hb ht j_S hown hK.1 hw (by assumption) (by rfl) rfl 0 (by decide) (ht _ mf_S_14) (fun _ h9 => h9) (by rfl) d_S_value_1 ?_
        refine lv_iload_n hx hb d_S_value_4 rfl (lv_at hl 1 rfl) ?_
        refine lv_iconst (v := (nI 0)) hx hb d_S_value_5 (by decide) ?_
        refine yc_q (va_runV (As := [.int _, .int _]) (rest := []) ⟨hx, hb, hml, hown, hts⟩ (c_Y_findKind l D cc ad LL X b0 _ σ hL 0 (by omega) hi j hj 0 (by omega) hk0) (cwV 2 hts (yg_call mc_Y_findKind ml_S_29 mm_Y_findKind ms_Y_findKind mi_Y) rfl rfl rfl (by decide +kernel) ⟨Nat.le_of_ble_eq_true rfl, Nat.le_of_ble_eq_true rfl⟩) (y_preV hI hw (y_recv hK.1 hw n0 (by rfl) rfl)) rfl rfl hl.1 rfl (lv_room (Nat.le_of_ble_eq_true rfl)) d_S_value_6 ⟨Nat.le_of_ble_eq_true rfl, Nat.le_of_ble_eq_true rfl⟩) hw hA (fun r u H locs he hw => ?_)
        subst he
        rw [yrf_s]
        refine lv_astore_n (lv' := [(3, .ref _), (0, .ref _), (1, .int _), (2, .int _)]) hx hb d_S_value_9 rfl hl (by decide) rfl (fun ls hl => ?_)
        refine lv_aload_n hx hb d_S_value_10 rfl (lv_at hl 0 rfl) ?_
        refine lv_ifnull hx hb d_S_value_11 ?_
        refine lv_aload_n hx hb d_S_value_14 rfl (lv_at hl 0 rfl) ?_
        refine lv_iload_n hx hb d_S_value_15 rfl (lv_at hl 3 rfl) ?_
        refine yc_i (va_runV (As := [.int _]) (rest := []) ⟨hx, hb, hml, hown, hts⟩ (c_A_tell_no l D cc ad LL X b0 _ σ hL 0 j (by omega) hj hi v (by rw [hr20]; exact ht2)) (cwV 1 hts (yg_call mc_A_tell ml_S_33 mm_A_tell ms_A_tell mi_A) rfl rfl rfl (by decide +kernel) ⟨Nat.le_of_ble_eq_true rfl, Nat.le_of_ble_eq_true rfl⟩) (y_preV hI hw (y_recv hK.1 hw h5 (by rfl) rfl)) rfl rfl hl.1 rfl (lv_room (Nat.le_of_ble_eq_true rfl)) d_S_value_16 ⟨Nat.le_of_ble_eq_true rfl, Nat.le_of_ble_eq_true rfl⟩) hw hA (fun r u H locs he hw => ?_)
        subst he
        refine lv_if_ne (tgt := 24) hx hb d_S_value_19 (by decide) (fun c_19 => by exact absurd rfl c_19) (fun c_19 => ?_)
        refine lv_iconst (v := 0) hx hb d_S_value_22 (by decide) ?_
        exact ye_z hI (by decide) σ ⟨by unfold a_val; rw [hjn]; show _ = if (s_ac σ 0 j).1 = 0 then yb (decide ((yp_sr (s_T σ 0) j).length < 20)) else 0; rw [if_pos hk0, hl20, decide_eq_false ht2]; rfl, hJ, rfl, by unfold a_valT; rw [hjn]; exact (if_neg (fun q => ht2 (by rw [← hl20]; exact q.2))).symm, rfl⟩ hw d_S_value_23
    · refine y_ofW (cc := b_S_value) (maxL := 4) (ret := (some .boolean)) (by decide) rfl (Nat.le_of_ble_eq_true rfl) ?_
      intro pv ev sv mv bv tv cv ls hI hsz hw hl
      obtain ⟨hx, hb, hr, hml, hts, hown, hlocks, hnm, hK, hAb, hb0, hA⟩ := id hI
      have ht : ∀ w ∈ lg_tbl, w.before _ sv = true := fun w h => hts w (List.mem_cons_of_mem _ h)
      have hl : lv_has ls 4 [(0, .ref (ad (0, 0, 0))), (1, .int (nI j)), (2, .int v)] := hl
      refine lv_aload_n hx hb d_S_value_0 rfl (lv_at hl 0 rfl) ?_
      refine yr_get (C := R_S) (T := F_S) (N := 3) (ci := k_S) hx hb ht j_S hown hK.1 hw (by assumption) (by rfl) rfl 0 (by decide) (ht _ mf_S_14) (fun _ h9 => h9) (by rfl) d_S_value_1 ?_
      refine lv_iload_n hx hb d_S_value_4 rfl (lv_at hl 1 rfl) ?_
      refine lv_iconst (v := (nI 0)) hx hb d_S_value_5 (by decide) ?_
      refine yc_q (va_runV (As := [.int _, .int _]) (rest := []) ⟨hx, hb, hml, hown, hts⟩ (c_Y_findKind_other l D cc ad LL X b0 _ σ hL 0 (by omega) hi j hj 0 (by omega) hk0) (cwV 2 hts (yg_call mc_Y_findKind ml_S_29 mm_Y_findKind ms_Y_findKind mi_Y) rfl rfl rfl (by decide +kernel) ⟨Nat.le_of_ble_eq_true rfl, Nat.le_of_ble_eq_true rfl⟩) (y_preV hI hw (y_recv hK.1 hw n0 (by rfl) rfl)) rfl rfl hl.1 rfl (lv_room (Nat.le_of_ble_eq_true rfl)) d_S_value_6 ⟨Nat.le_of_ble_eq_true rfl, Nat.le_of_ble_eq_true rfl⟩) hw hA (fun r u H locs he hw => ?_)
      subst he
      rw [yrf_n]
      refine lv_astore_nN (lv' := [(3, .null), (0, .ref _), (1, .int _), (2, .int _)]) hx hb d_S_value_9 rfl hl (by decide) rfl (fun ls hl => ?_)
      refine lv_aload_nN hx hb d_S_value_10 rfl (lv_at hl 0 rfl) ?_
      refine lv_ifnullN (tgt := 22) hx hb d_S_value_11 (by decide) ?_
      refine lv_iconst (v := 0) hx hb d_S_value_22 (by decide) ?_
      exact ye_z hI (by decide) σ ⟨by unfold a_val; rw [hjn]; show _ = if (s_ac σ 0 j).1 = 0 then _ else _; rw [if_neg hk0], hJ, rfl, by unfold a_valT; rw [hjn]; exact (if_neg (fun q => hk0 q.1)).symm, rfl⟩ hw d_S_value_23
set_option maxHeartbeats 4000000 in
set_option maxRecDepth 100000 in
/-- settled -/
theorem c_S_settled (l : Launch) (D : va_G) (cc : ClassId × ClassId × ClassId) (ad : yl → Nat) (LL : List yl) (X : va_W) (b0 sz : Nat) (σ : ys) (hL : ∀ q, yL σ q → q ∈ LL) (hJ : yJ σ) : Met l y_S_settled w_S_settled ({ frames := 5, cells := 0, slots := 0, locals := 112 }) (yPr D cc b0 [.ref (ad (0, 0, 0))] (yW cc ad LL X σ) sz) (va_Qq (fun r σ' => r = some (ad (1, 1, 0)) ∧ ySt σ σ') (yB D ycl (yW cc ad LL X σ) sz (fun σ' => yW cc ad LL X σ')) (va_A (yW cc ad LL X σ) sz)) 0 0 (va_A (yW cc ad LL X σ) sz) := by
  have o0 : (0, 0, 0) ∈ LL := hL _ ⟨rfl, rfl⟩
  have n0 : (1, 0, 0) ∈ LL := hL _ ⟨by omega, rfl⟩
  have n1 : (1, 1, 0) ∈ LL := hL _ ⟨by omega, rfl⟩
  have hi := hJ.1
  have hi1 := hJ.2.1
  have hn10 := hi.1.1
  have hc16 := hi.2.1
  have hm10 := hi1.1.1
  have hd16 := hi1.2.1
  rcases hJ.2.2.2 with hf | ⟨hf, hfT, hfF⟩
  · refine y_ofW (cc := b_S_settled) (maxL := 1) (ret := (some (.object "YardActors$Yard"))) (by decide) rfl (Nat.le_of_ble_eq_true rfl) ?_
    intro pv ev sv mv bv tv cv ls hI hsz hw hl
    obtain ⟨hx, hb, hr, hml, hts, hown, hlocks, hnm, hK, hAb, hb0, hA⟩ := id hI
    have ht : ∀ w ∈ lg_tbl, w.before _ sv = true := fun w h => hts w (List.mem_cons_of_mem _ h)
    have hl : lv_has ls 1 [(0, .ref (ad (0, 0, 0)))] := hl
    refine lv_aload_n hx hb d_S_settled_0 rfl (lv_at hl 0 rfl) ?_
    refine yr_get (C := R_S) (T := F_S) (N := 3) (ci := k_S) hx hb ht j_S hown hK.1 hw o0 (by rfl) rfl 2 (by decide) (ht _ mf_S_21) (fun _ h9 => h9) (by rfl) d_S_settled_1 ?_
    rw [hf]
    refine lv_if_ne (tgt := 30) hx hb d_S_settled_4 (by decide) (fun c_4 => by exact absurd rfl c_4) (fun c_4 => ?_)
    refine lv_aload_n hx hb d_S_settled_7 rfl (lv_at hl 0 rfl) ?_
    refine yr_get (C := R_S) (T := F_S) (N := 3) (ci := k_S) hx hb ht j_S hown hK.1 hw o0 (by rfl) rfl 1 (by decide) (ht _ mf_S_18) (fun _ h9 => h9) (by rfl) d_S_settled_8 ?_
    refine lv_aload_n hx hb d_S_settled_11 rfl (lv_at hl 0 rfl) ?_
    refine yr_get (C := R_S) (T := F_S) (N := 3) (ci := k_S) hx hb ht j_S hown hK.1 hw o0 (by rfl) rfl 0 (by decide) (ht _ mf_S_14) (fun _ h9 => h9) (by rfl) d_S_settled_12 ?_
    refine yc_v (va_runV (As := [.ref _]) (rest := []) ⟨hx, hb, hml, hown, hts⟩ (c_Y_copyFrom l D cc ad LL X b0 _ σ hL 1 0 (by omega) (by omega) (by omega) hJ.2.2.1 hi1 hi) (cwV 1 hts (yg_call mc_Y_copyFrom ml_S_89 mm_Y_copyFrom ms_Y_copyFrom mi_Y) rfl rfl rfl (by decide +kernel) ⟨Nat.le_of_ble_eq_true rfl, Nat.le_of_ble_eq_true rfl⟩) (y_preV hI hw (y_recv hK.1 hw n1 (by rfl) rfl)) rfl rfl hl.1 rfl (lv_room (Nat.le_of_ble_eq_true rfl)) d_S_settled_15 ⟨Nat.le_of_ble_eq_true rfl, Nat.le_of_ble_eq_true rfl⟩) hw hA (fun u1 H locs hc hw => ?_)
    obtain ⟨x1, x2, x3, x4⟩ := hc
    have hL1 := x1.L hL
    refine lv_aload_n hx hb d_S_settled_18 rfl (lv_at hl 0 rfl) ?_
    refine yr_get (C := R_S) (T := F_S) (N := 3) (ci := k_S) hx hb ht j_S hown hK.1 hw o0 (by rfl) rfl 1 (by decide) (ht _ mf_S_18) (fun _ h9 => h9) (by rfl) d_S_settled_19 ?_
    refine yc_v (va_runV (As := []) (rest := []) ⟨hx, hb, hml, hown, hts⟩ (c_Y_settle l D cc ad LL X b0 _ u1 hL1 1 (by omega) x4) (cwV 0 hts (yg_call mc_Y_settle ml_S_93 mm_Y_settle ms_Y_settle mi_Y) rfl rfl rfl (by decide +kernel) ⟨Nat.le_of_ble_eq_true rfl, Nat.le_of_ble_eq_true rfl⟩) (y_preV hI hw (y_recv hK.1 hw n1 (by rfl) rfl)) rfl rfl hl.1 rfl (lv_room (Nat.le_of_ble_eq_true rfl)) d_S_settled_22 ⟨Nat.le_of_ble_eq_true rfl, Nat.le_of_ble_eq_true rfl⟩) hw hA (fun u2 H locs hc hw => ?_)
    obtain ⟨z1, z2, z3, z4⟩ := hc
    refine lv_aload_n hx hb d_S_settled_25 rfl (lv_at hl 0 rfl) ?_
    refine lv_iconst (v := 1) hx hb d_S_settled_26 (by decide) ?_
    refine yr_put (ty := .boolean) (C := R_S) (T := F_S) (N := 3) (ci := k_S) hx hb ht j_S t_S t_S_ok n_S hown hK.1 hw o0 (by rfl) rfl 2 (by decide) (ht _ mf_S_21) (fun _ h9 => h9) rfl (by decide +kernel) (by decide) (by decide) (Nat.le_of_ble_eq_true rfl) d_S_settled_27 (fun H locs hw => ?_)
    have hw := yw_fl 1 hw rfl
    refine lv_aload_n hx hb d_S_settled_30 rfl (lv_at hl 0 rfl) ?_
    refine yr_get (C := R_S) (T := F_S) (N := 3) (ci := k_S) hx hb ht j_S hown hK.1 hw o0 (by rfl) rfl 1 (by decide) (ht _ mf_S_18) (fun _ h9 => h9) (by rfl) d_S_settled_31 ?_
    exact ye_q (some (ad (1, 1, 0))) rfl hI (sx_fl u2 0 0 1) ⟨rfl, set_J hJ x1 x2 x3 z1 z2 z3 z4⟩ hw d_S_settled_34
  · refine y_ofW (cc := b_S_settled) (maxL := 1) (ret := (some (.object "YardActors$Yard"))) (by decide) rfl (Nat.le_of_ble_eq_true rfl) ?_
    intro pv ev sv mv bv tv cv ls hI hsz hw hl
    obtain ⟨hx, hb, hr, hml, hts, hown, hlocks, hnm, hK, hAb, hb0, hA⟩ := id hI
    have ht : ∀ w ∈ lg_tbl, w.before _ sv = true := fun w h => hts w (List.mem_cons_of_mem _ h)
    have hl : lv_has ls 1 [(0, .ref (ad (0, 0, 0)))] := hl
    refine lv_aload_n hx hb d_S_settled_0 rfl (lv_at hl 0 rfl) ?_
    refine yr_get (C := R_S) (T := F_S) (N := 3) (ci := k_S) hx hb ht j_S hown hK.1 hw o0 (by rfl) rfl 2 (by decide) (ht _ mf_S_21) (fun _ h9 => h9) (by rfl) d_S_settled_1 ?_
    rw [hf]
    refine lv_if_ne (tgt := 30) hx hb d_S_settled_4 (by decide) (fun c_4 => ?_) (fun c_4 => by exact absurd c_4 (by decide))
    refine lv_aload_n hx hb d_S_settled_30 rfl (lv_at hl 0 rfl) ?_
    refine yr_get (C := R_S) (T := F_S) (N := 3) (ci := k_S) hx hb ht j_S hown hK.1 hw o0 (by rfl) rfl 1 (by decide) (ht _ mf_S_18) (fun _ h9 => h9) (by rfl) d_S_settled_31 ?_
    exact ye_q (some (ad (1, 1, 0))) rfl hI σ ⟨rfl, hJ, rfl, hf, rfl, rfl⟩ hw d_S_settled_34
set_option maxHeartbeats 4000000 in
set_option maxRecDepth 100000 in
theorem c_S_actedAtLast (l : Launch) (D : va_G) (cc : ClassId × ClassId × ClassId) (ad : yl → Nat) (LL : List yl) (X : va_W) (b0 sz : Nat) (σ : ys) (hL : ∀ q, yL σ q → q ∈ LL) (hJ : yJ σ) (x : Int32) : Met l y_S_actedAtLast w_S_actedAtLast ({ frames := 6, cells := 0, slots := 0, locals := 132 }) (yPr D cc b0 [.ref (ad (0, 0, 0)), .int x] (yW cc ad LL X σ) sz) (va_Qi (fun r σ' => ∃ N, yp_fin (s_T σ 0) (s_D σ 0) N ∧ r = a_acted (s_T σ 0) N x ∧ yJ σ' ∧ σ'.2.1 = σ.2.1 ∧ s_T σ' 0 = s_T σ 0 ∧ s_D σ' 0 = s_D σ 0) (yB D ycl (yW cc ad LL X σ) sz (fun σ' => yW cc ad LL X σ')) (va_A (yW cc ad LL X σ) sz)) 0 0 (va_A (yW cc ad LL X σ) sz) := by
  have o0 : (0, 0, 0) ∈ LL := hL _ ⟨rfl, rfl⟩
  have n0 : (1, 0, 0) ∈ LL := hL _ ⟨by omega, rfl⟩
  have n1 : (1, 1, 0) ∈ LL := hL _ ⟨by omega, rfl⟩
  have hi := hJ.1
  have hi1 := hJ.2.1
  have hn10 := hi.1.1
  have hc16 := hi.2.1
  have hm10 := hi1.1.1
  have hd16 := hi1.2.1
  rcases ysplit x (n := s_n σ 0) (by omega) with hno | ⟨j, hj, rfl⟩
  · refine y_ofW (cc := b_S_actedAtLast) (maxL := 2) (ret := (some .int)) (by decide) rfl (Nat.le_of_ble_eq_true rfl) ?_
    intro pv ev sv mv bv tv cv ls hI hsz hw hl
    obtain ⟨hx, hb, hr, hml, hts, hown, hlocks, hnm, hK, hAb, hb0, hA⟩ := id hI
    have ht : ∀ w ∈ lg_tbl, w.before _ sv = true := fun w h => hts w (List.mem_cons_of_mem _ h)
    have hl : lv_has ls 2 [(0, .ref (ad (0, 0, 0))), (1, .int x)] := hl
    refine lv_aload_n hx hb d_S_actedAtLast_0 rfl (lv_at hl 0 rfl) ?_
    refine yc_q (va_runV (As := []) (rest := []) ⟨hx, hb, hml, hown, hts⟩ (c_S_settled l D cc ad LL X b0 _ σ hL hJ) (cwV 0 hts (yg_call mc_S_settled ml_S_82 mm_S_settled ms_S_settled mi_S) rfl rfl rfl (by decide +kernel) ⟨Nat.le_of_ble_eq_true rfl, Nat.le_of_ble_eq_true rfl⟩) (y_preV hI hw (y_recv hK.1 hw o0 (by rfl) rfl)) rfl rfl hl.1 rfl (lv_room (Nat.le_of_ble_eq_true rfl)) d_S_actedAtLast_1 ⟨Nat.le_of_ble_eq_true rfl, Nat.le_of_ble_eq_true rfl⟩) hw hA (fun r u H locs he hw => ?_)
    obtain ⟨rfl, hSt⟩ := he
    rw [yrf_s]
    obtain ⟨uJ, uc, uf, uT, uD⟩ := id hSt
    have un : s_n u 1 = s_n σ 0 := by rw [uJ.2.2.1.1]; unfold s_n; rw [uc]
    have unc : s_nc u 1 = s_nc σ 0 := by rw [uJ.2.2.1.2.1]; unfold s_nc; rw [uc]
    obtain ⟨uT1, uF⟩ := St_fin hSt
    have hLu : ∀ q, yL u q → q ∈ LL := L_cnt uc hL
    have ui := uJ.2.1
    refine lv_iload_n hx hb d_S_actedAtLast_4 rfl (lv_at hl 1 rfl) ?_
    refine yc_q (va_runV (As := [.int _]) (rest := []) ⟨hx, hb, hml, hown, hts⟩ (c_Y_findActor_no l D cc ad LL X b0 _ u hLu 1 (by omega) ui x (by rw [un]; exact hno)) (cwV 1 hts (yg_call mc_Y_findActor ml_S_43 mm_Y_findActor ms_Y_findActor mi_Y) rfl rfl rfl (by decide +kernel) ⟨Nat.le_of_ble_eq_true rfl, Nat.le_of_ble_eq_true rfl⟩) (y_preV hI hw (y_recv hK.1 hw n1 (by rfl) rfl)) rfl rfl hl.1 rfl (lv_room (Nat.le_of_ble_eq_true rfl)) d_S_actedAtLast_5 ⟨Nat.le_of_ble_eq_true rfl, Nat.le_of_ble_eq_true rfl⟩) hw hA (fun r u_ H locs he hw => ?_)
    subst he
    rw [yrf_n]
    refine yc_i (va_runS (As := [.null]) (rest := []) ⟨hx, hb, hml, hown, hts⟩ (c_S_timesOf_null l D cc ad LL X b0 _ u) (va_cwS 1 hts (yg_callS mc_S_timesOf ml_S_58 mt_S_timesOf mi_S) rfl rfl rfl (by decide +kernel) ⟨Nat.le_of_ble_eq_true rfl, Nat.le_of_ble_eq_true rfl⟩) (y_preS hI hw) rfl rfl hl.1 rfl (lv_room (Nat.le_of_ble_eq_true rfl)) d_S_actedAtLast_8 ⟨Nat.le_of_ble_eq_true rfl, Nat.le_of_ble_eq_true rfl⟩) hw hA (fun r u_ H locs he hw => ?_)
    subst he
    exact ye_i hI u ⟨s_D u 1, uF, by rw [← uT1]; unfold a_acted; rw [yin_no (show x < 0 ∨ nI (yp_n (s_T u 1)) ≤ x from (by show x < 0 ∨ nI (s_n u 1) ≤ x; rw [un]; exact hno))], uJ, uc, uT, uD⟩ hw d_S_actedAtLast_11
  · refine y_ofW (cc := b_S_actedAtLast) (maxL := 2) (ret := (some .int)) (by decide) rfl (Nat.le_of_ble_eq_true rfl) ?_
    intro pv ev sv mv bv tv cv ls hI hsz hw hl
    obtain ⟨hx, hb, hr, hml, hts, hown, hlocks, hnm, hK, hAb, hb0, hA⟩ := id hI
    have ht : ∀ w ∈ lg_tbl, w.before _ sv = true := fun w h => hts w (List.mem_cons_of_mem _ h)
    have hl : lv_has ls 2 [(0, .ref (ad (0, 0, 0))), (1, .int (nI j))] := hl
    refine lv_aload_n hx hb d_S_actedAtLast_0 rfl (lv_at hl 0 rfl) ?_
    refine yc_q (va_runV (As := []) (rest := []) ⟨hx, hb, hml, hown, hts⟩ (c_S_settled l D cc ad LL X b0 _ σ hL hJ) (cwV 0 hts (yg_call mc_S_settled ml_S_82 mm_S_settled ms_S_settled mi_S) rfl rfl rfl (by decide +kernel) ⟨Nat.le_of_ble_eq_true rfl, Nat.le_of_ble_eq_true rfl⟩) (y_preV hI hw (y_recv hK.1 hw o0 (by rfl) rfl)) rfl rfl hl.1 rfl (lv_room (Nat.le_of_ble_eq_true rfl)) d_S_actedAtLast_1 ⟨Nat.le_of_ble_eq_true rfl, Nat.le_of_ble_eq_true rfl⟩) hw hA (fun r u H locs he hw => ?_)
    obtain ⟨rfl, hSt⟩ := he
    rw [yrf_s]
    obtain ⟨uJ, uc, uf, uT, uD⟩ := id hSt
    have un : s_n u 1 = s_n σ 0 := by rw [uJ.2.2.1.1]; unfold s_n; rw [uc]
    have unc : s_nc u 1 = s_nc σ 0 := by rw [uJ.2.2.1.2.1]; unfold s_nc; rw [uc]
    obtain ⟨uT1, uF⟩ := St_fin hSt
    have hLu : ∀ q, yL u q → q ∈ LL := L_cnt uc hL
    have ui := uJ.2.1
    have hju : j < s_n u 1 := by rw [un]; exact hj
    have h5 : (5, 1, j) ∈ LL := hLu _ ⟨by omega, hju⟩
    have hjn : yin (nI j) (yp_n (s_T u 1)) = some j := yin_some hju (by show s_n u 1 < _; rw [un]; omega)
    refine lv_iload_n hx hb d_S_actedAtLast_4 rfl (lv_at hl 1 rfl) ?_
    refine yc_q (va_runV (As := [.int _]) (rest := []) ⟨hx, hb, hml, hown, hts⟩ (c_Y_findActor l D cc ad LL X b0 _ u hLu 1 (by omega) ui j hju) (cwV 1 hts (yg_call mc_Y_findActor ml_S_43 mm_Y_findActor ms_Y_findActor mi_Y) rfl rfl rfl (by decide +kernel) ⟨Nat.le_of_ble_eq_true rfl, Nat.le_of_ble_eq_true rfl⟩) (y_preV hI hw (y_recv hK.1 hw n1 (by rfl) rfl)) rfl rfl hl.1 rfl (lv_room (Nat.le_of_ble_eq_true rfl)) d_S_actedAtLast_5 ⟨Nat.le_of_ble_eq_true rfl, Nat.le_of_ble_eq_true rfl⟩) hw hA (fun r u_ H locs he hw => ?_)
    subst he
    rw [yrf_s]
    refine yc_i (va_runS (As := [.ref _]) (rest := []) ⟨hx, hb, hml, hown, hts⟩ (c_S_timesOf l D cc ad LL X b0 _ u hLu 1 j (by omega) hju ui) (va_cwS 1 hts (yg_callS mc_S_timesOf ml_S_58 mt_S_timesOf mi_S) rfl rfl rfl (by decide +kernel) ⟨Nat.le_of_ble_eq_true rfl, Nat.le_of_ble_eq_true rfl⟩) (y_preS hI hw) rfl rfl hl.1 rfl (lv_room (Nat.le_of_ble_eq_true rfl)) d_S_actedAtLast_8 ⟨Nat.le_of_ble_eq_true rfl, Nat.le_of_ble_eq_true rfl⟩) hw hA (fun r u_ H locs he hw => ?_)
    subst he
    exact ye_i hI u ⟨s_D u 1, uF, by rw [← uT1]; unfold a_acted; rw [hjn]; rfl, uJ, uc, uT, uD⟩ hw d_S_actedAtLast_11
set_option maxHeartbeats 4000000 in
set_option maxRecDepth 100000 in
theorem c_S_keptAtLast (l : Launch) (D : va_G) (cc : ClassId × ClassId × ClassId) (ad : yl → Nat) (LL : List yl) (X : va_W) (b0 sz : Nat) (σ : ys) (hL : ∀ q, yL σ q → q ∈ LL) (hJ : yJ σ) (x : Int32) : Met l y_S_keptAtLast w_S_keptAtLast ({ frames := 6, cells := 0, slots := 0, locals := 132 }) (yPr D cc b0 [.ref (ad (0, 0, 0)), .int x] (yW cc ad LL X σ) sz) (va_Qi (fun r σ' => ∃ N, yp_fin (s_T σ 0) (s_D σ 0) N ∧ r = a_kept (s_T σ 0) N x ∧ yJ σ' ∧ σ'.2.1 = σ.2.1 ∧ s_T σ' 0 = s_T σ 0 ∧ s_D σ' 0 = s_D σ 0) (yB D ycl (yW cc ad LL X σ) sz (fun σ' => yW cc ad LL X σ')) (va_A (yW cc ad LL X σ) sz)) 0 0 (va_A (yW cc ad LL X σ) sz) := by
  have o0 : (0, 0, 0) ∈ LL := hL _ ⟨rfl, rfl⟩
  have n0 : (1, 0, 0) ∈ LL := hL _ ⟨by omega, rfl⟩
  have n1 : (1, 1, 0) ∈ LL := hL _ ⟨by omega, rfl⟩
  have hi := hJ.1
  have hi1 := hJ.2.1
  have hn10 := hi.1.1
  have hc16 := hi.2.1
  have hm10 := hi1.1.1
  have hd16 := hi1.2.1
  rcases ysplit x (n := s_n σ 0) (by omega) with hno | ⟨j, hj, rfl⟩
  · refine y_ofW (cc := b_S_keptAtLast) (maxL := 2) (ret := (some .int)) (by decide) rfl (Nat.le_of_ble_eq_true rfl) ?_
    intro pv ev sv mv bv tv cv ls hI hsz hw hl
    obtain ⟨hx, hb, hr, hml, hts, hown, hlocks, hnm, hK, hAb, hb0, hA⟩ := id hI
    have ht : ∀ w ∈ lg_tbl, w.before _ sv = true := fun w h => hts w (List.mem_cons_of_mem _ h)
    have hl : lv_has ls 2 [(0, .ref (ad (0, 0, 0))), (1, .int x)] := hl
    refine lv_aload_n hx hb d_S_keptAtLast_0 rfl (lv_at hl 0 rfl) ?_
    refine yc_q (va_runV (As := []) (rest := []) ⟨hx, hb, hml, hown, hts⟩ (c_S_settled l D cc ad LL X b0 _ σ hL hJ) (cwV 0 hts (yg_call mc_S_settled ml_S_82 mm_S_settled ms_S_settled mi_S) rfl rfl rfl (by decide +kernel) ⟨Nat.le_of_ble_eq_true rfl, Nat.le_of_ble_eq_true rfl⟩) (y_preV hI hw (y_recv hK.1 hw o0 (by rfl) rfl)) rfl rfl hl.1 rfl (lv_room (Nat.le_of_ble_eq_true rfl)) d_S_keptAtLast_1 ⟨Nat.le_of_ble_eq_true rfl, Nat.le_of_ble_eq_true rfl⟩) hw hA (fun r u H locs he hw => ?_)
    obtain ⟨rfl, hSt⟩ := he
    rw [yrf_s]
    obtain ⟨uJ, uc, uf, uT, uD⟩ := id hSt
    have un : s_n u 1 = s_n σ 0 := by rw [uJ.2.2.1.1]; unfold s_n; rw [uc]
    have unc : s_nc u 1 = s_nc σ 0 := by rw [uJ.2.2.1.2.1]; unfold s_nc; rw [uc]
    obtain ⟨uT1, uF⟩ := St_fin hSt
    have hLu : ∀ q, yL u q → q ∈ LL := L_cnt uc hL
    have ui := uJ.2.1
    refine lv_iload_n hx hb d_S_keptAtLast_4 rfl (lv_at hl 1 rfl) ?_
    refine lv_bipush (v := (nI 6)) hx hb d_S_keptAtLast_5 (by decide) ?_
    refine yc_q (va_runV (As := [.int _, .int _]) (rest := []) ⟨hx, hb, hml, hown, hts⟩ (c_Y_findKind_no l D cc ad LL X b0 _ u hLu 1 (by omega) ui x (by rw [un]; exact hno) 6) (cwV 2 hts (yg_call mc_Y_findKind ml_S_29 mm_Y_findKind ms_Y_findKind mi_Y) rfl rfl rfl (by decide +kernel) ⟨Nat.le_of_ble_eq_true rfl, Nat.le_of_ble_eq_true rfl⟩) (y_preV hI hw (y_recv hK.1 hw n1 (by rfl) rfl)) rfl rfl hl.1 rfl (lv_room (Nat.le_of_ble_eq_true rfl)) d_S_keptAtLast_7 ⟨Nat.le_of_ble_eq_true rfl, Nat.le_of_ble_eq_true rfl⟩) hw hA (fun r u_ H locs he hw => ?_)
    subst he
    rw [yrf_n]
    refine yc_i (va_runS (As := [.null]) (rest := []) ⟨hx, hb, hml, hown, hts⟩ (c_S_timesOf_null l D cc ad LL X b0 _ u) (va_cwS 1 hts (yg_callS mc_S_timesOf ml_S_58 mt_S_timesOf mi_S) rfl rfl rfl (by decide +kernel) ⟨Nat.le_of_ble_eq_true rfl, Nat.le_of_ble_eq_true rfl⟩) (y_preS hI hw) rfl rfl hl.1 rfl (lv_room (Nat.le_of_ble_eq_true rfl)) d_S_keptAtLast_10 ⟨Nat.le_of_ble_eq_true rfl, Nat.le_of_ble_eq_true rfl⟩) hw hA (fun r u_ H locs he hw => ?_)
    subst he
    exact ye_i hI u ⟨s_D u 1, uF, by rw [← uT1]; unfold a_kept; rw [yin_no (show x < 0 ∨ nI (yp_n (s_T u 1)) ≤ x from (by show x < 0 ∨ nI (s_n u 1) ≤ x; rw [un]; exact hno))], uJ, uc, uT, uD⟩ hw d_S_keptAtLast_13
  · refine y_ofW (cc := b_S_keptAtLast) (maxL := 2) (ret := (some .int)) (by decide) rfl (Nat.le_of_ble_eq_true rfl) ?_
    intro pv ev sv mv bv tv cv ls hI hsz hw hl
    obtain ⟨hx, hb, hr, hml, hts, hown, hlocks, hnm, hK, hAb, hb0, hA⟩ := id hI
    have ht : ∀ w ∈ lg_tbl, w.before _ sv = true := fun w h => hts w (List.mem_cons_of_mem _ h)
    have hl : lv_has ls 2 [(0, .ref (ad (0, 0, 0))), (1, .int (nI j))] := hl
    refine lv_aload_n hx hb d_S_keptAtLast_0 rfl (lv_at hl 0 rfl) ?_
    refine yc_q (va_runV (As := []) (rest := []) ⟨hx, hb, hml, hown, hts⟩ (c_S_settled l D cc ad LL X b0 _ σ hL hJ) (cwV 0 hts (yg_call mc_S_settled ml_S_82 mm_S_settled ms_S_settled mi_S) rfl rfl rfl (by decide +kernel) ⟨Nat.le_of_ble_eq_true rfl, Nat.le_of_ble_eq_true rfl⟩) (y_preV hI hw (y_recv hK.1 hw o0 (by rfl) rfl)) rfl rfl hl.1 rfl (lv_room (Nat.le_of_ble_eq_true rfl)) d_S_keptAtLast_1 ⟨Nat.le_of_ble_eq_true rfl, Nat.le_of_ble_eq_true rfl⟩) hw hA (fun r u H locs he hw => ?_)
    obtain ⟨rfl, hSt⟩ := he
    rw [yrf_s]
    obtain ⟨uJ, uc, uf, uT, uD⟩ := id hSt
    have un : s_n u 1 = s_n σ 0 := by rw [uJ.2.2.1.1]; unfold s_n; rw [uc]
    have unc : s_nc u 1 = s_nc σ 0 := by rw [uJ.2.2.1.2.1]; unfold s_nc; rw [uc]
    obtain ⟨uT1, uF⟩ := St_fin hSt
    have hLu : ∀ q, yL u q → q ∈ LL := L_cnt uc hL
    have ui := uJ.2.1
    have hju : j < s_n u 1 := by rw [un]; exact hj
    have h5 : (5, 1, j) ∈ LL := hLu _ ⟨by omega, hju⟩
    have hjn : yin (nI j) (yp_n (s_T u 1)) = some j := yin_some hju (by show s_n u 1 < _; rw [un]; omega)
    by_cases hk6 : (s_ac u 1 j).1 = 6
    · refine lv_iload_n hx hb d_S_keptAtLast_4 rfl (lv_at hl 1 rfl) ?_
      refine lv_bipush (v := (nI 6)) hx hb d_S_keptAtLast_5 (by decide) ?_
      refine yc_q (va_runV (As := [.int _, .int _]) (rest := []) ⟨hx, hb, hml, hown, hts⟩ (c_Y_findKind l D cc ad LL X b0 _ u hLu 1 (by omega) ui j hju 6 (by omega) hk6) (cwV 2 hts (yg_call mc_Y_findKind ml_S_29 mm_Y_findKind ms_Y_findKind mi_Y) rfl rfl rfl (by decide +kernel) ⟨Nat.le_of_ble_eq_true rfl, Nat.le_of_ble_eq_true rfl⟩) (y_preV hI hw (y_recv hK.1 hw n1 (by rfl) rfl)) rfl rfl hl.1 rfl (lv_room (Nat.le_of_ble_eq_true rfl)) d_S_keptAtLast_7 ⟨Nat.le_of_ble_eq_true rfl, Nat.le_of_ble_eq_true rfl⟩) hw hA (fun r u_ H locs he hw => ?_)
      subst he
      rw [yrf_s]
      refine yc_i (va_runS (As := [.ref _]) (rest := []) ⟨hx, hb, hml, hown, hts⟩ (c_S_timesOf l D cc ad LL X b0 _ u hLu 1 j (by omega) hju ui) (va_cwS 1 hts (yg_callS mc_S_timesOf ml_S_58 mt_S_timesOf mi_S) rfl rfl rfl (by decide +kernel) ⟨Nat.le_of_ble_eq_true rfl, Nat.le_of_ble_eq_true rfl⟩) (y_preS hI hw) rfl rfl hl.1 rfl (lv_room (Nat.le_of_ble_eq_true rfl)) d_S_keptAtLast_10 ⟨Nat.le_of_ble_eq_true rfl, Nat.le_of_ble_eq_true rfl⟩) hw hA (fun r u_ H locs he hw => ?_)
      subst he
      exact ye_i hI u ⟨s_D u 1, uF, by rw [← uT1]; unfold a_kept; rw [hjn]; show _ = if (s_ac u 1 j).1 = 6 then _ else _; rw [if_pos hk6]; rfl, uJ, uc, uT, uD⟩ hw d_S_keptAtLast_13
    · refine lv_iload_n hx hb d_S_keptAtLast_4 rfl (lv_at hl 1 rfl) ?_
      refine lv_bipush (v := (nI 6)) hx hb d_S_keptAtLast_5 (by decide) ?_
      refine yc_q (va_runV (As := [.int _, .int _]) (rest := []) ⟨hx, hb, hml, hown, hts⟩ (c_Y_findKind_other l D cc ad LL X b0 _ u hLu 1 (by omega) ui j hju 6 (by omega) hk6) (cwV 2 hts (yg_call mc_Y_findKind ml_S_29 mm_Y_findKind ms_Y_findKind mi_Y) rfl rfl rfl (by decide +kernel) ⟨Nat.le_of_ble_eq_true rfl, Nat.le_of_ble_eq_true rfl⟩) (y_preV hI hw (y_recv hK.1 hw n1 (by rfl) rfl)) rfl rfl hl.1 rfl (lv_room (Nat.le_of_ble_eq_true rfl)) d_S_keptAtLast_7 ⟨Nat.le_of_ble_eq_true rfl, Nat.le_of_ble_eq_true rfl⟩) hw hA (fun r u_ H locs he hw => ?_)
      subst he
      rw [yrf_n]
      refine yc_i (va_runS (As := [.null]) (rest := []) ⟨hx, hb, hml, hown, hts⟩ (c_S_timesOf_null l D cc ad LL X b0 _ u) (va_cwS 1 hts (yg_callS mc_S_timesOf ml_S_58 mt_S_timesOf mi_S) rfl rfl rfl (by decide +kernel) ⟨Nat.le_of_ble_eq_true rfl, Nat.le_of_ble_eq_true rfl⟩) (y_preS hI hw) rfl rfl hl.1 rfl (lv_room (Nat.le_of_ble_eq_true rfl)) d_S_keptAtLast_10 ⟨Nat.le_of_ble_eq_true rfl, Nat.le_of_ble_eq_true rfl⟩) hw hA (fun r u_ H locs he hw => ?_)
      subst he
      exact ye_i hI u ⟨s_D u 1, uF, by rw [← uT1]; unfold a_kept; rw [hjn]; show _ = if (s_ac u 1 j).1 = 6 then _ else _; rw [if_neg hk6], uJ, uc, uT, uD⟩ hw d_S_keptAtLast_13
set_option maxHeartbeats 4000000 in
set_option maxRecDepth 100000 in
theorem c_S_atLast (l : Launch) (D : va_G) (cc : ClassId × ClassId × ClassId) (ad : yl → Nat) (LL : List yl) (X : va_W) (b0 sz : Nat) (σ : ys) (hL : ∀ q, yL σ q → q ∈ LL) (hJ : yJ σ) (x : Int32) (v : Int32) : Met l y_S_atLast w_S_atLast ({ frames := 6, cells := 0, slots := 0, locals := 132 }) (yPr D cc b0 [.ref (ad (0, 0, 0)), .int x, .int v] (yW cc ad LL X σ) sz) (va_Ql (fun r σ' => ∃ N, yp_fin (s_T σ 0) (s_D σ 0) N ∧ r = a_at (s_T σ 0) N x v ∧ yJ σ' ∧ σ'.2.1 = σ.2.1 ∧ s_T σ' 0 = s_T σ 0 ∧ s_D σ' 0 = s_D σ 0) (yB D ycl (yW cc ad LL X σ) sz (fun σ' => yW cc ad LL X σ')) (va_A (yW cc ad LL X σ) sz)) 0 0 (va_A (yW cc ad LL X σ) sz) := by
  have o0 : (0, 0, 0) ∈ LL := hL _ ⟨rfl, rfl⟩
  have n0 : (1, 0, 0) ∈ LL := hL _ ⟨by omega, rfl⟩
  have n1 : (1, 1, 0) ∈ LL := hL _ ⟨by omega, rfl⟩
  have hi := hJ.1
  have hi1 := hJ.2.1
  have hn10 := hi.1.1
  have hc16 := hi.2.1
  have hm10 := hi1.1.1
  have hd16 := hi1.2.1
  rcases ysplit x (n := s_n σ 0) (by omega) with hno | ⟨j, hj, rfl⟩
  · refine y_ofW (cc := b_S_atLast) (maxL := 3) (ret := (some .long)) (by decide) rfl (Nat.le_of_ble_eq_true rfl) ?_
    intro pv ev sv mv bv tv cv ls hI hsz hw hl
    obtain ⟨hx, hb, hr, hml, hts, hown, hlocks, hnm, hK, hAb, hb0, hA⟩ := id hI
    have ht : ∀ w ∈ lg_tbl, w.before _ sv = true := fun w h => hts w (List.mem_cons_of_mem _ h)
    have hl : lv_has ls 3 [(0, .ref (ad (0, 0, 0))), (1, .int x), (2, .int v)] := hl
    refine lv_aload_n hx hb d_S_atLast_0 rfl (lv_at hl 0 rfl) ?_
    refine yc_q (va_runV (As := []) (rest := []) ⟨hx, hb, hml, hown, hts⟩ (c_S_settled l D cc ad LL X b0 _ σ hL hJ) (cwV 0 hts (yg_call mc_S_settled ml_S_82 mm_S_settled ms_S_settled mi_S) rfl rfl rfl (by decide +kernel) ⟨Nat.le_of_ble_eq_true rfl, Nat.le_of_ble_eq_true rfl⟩) (y_preV hI hw (y_recv hK.1 hw o0 (by rfl) rfl)) rfl rfl hl.1 rfl (lv_room (Nat.le_of_ble_eq_true rfl)) d_S_atLast_1 ⟨Nat.le_of_ble_eq_true rfl, Nat.le_of_ble_eq_true rfl⟩) hw hA (fun r u H locs he hw => ?_)
    obtain ⟨rfl, hSt⟩ := he
    rw [yrf_s]
    obtain ⟨uJ, uc, uf, uT, uD⟩ := id hSt
    have un : s_n u 1 = s_n σ 0 := by rw [uJ.2.2.1.1]; unfold s_n; rw [uc]
    have unc : s_nc u 1 = s_nc σ 0 := by rw [uJ.2.2.1.2.1]; unfold s_nc; rw [uc]
    obtain ⟨uT1, uF⟩ := St_fin hSt
    have hLu : ∀ q, yL u q → q ∈ LL := L_cnt uc hL
    have ui := uJ.2.1
    refine lv_iload_n hx hb d_S_atLast_4 rfl (lv_at hl 1 rfl) ?_
    refine lv_bipush (v := (nI 6)) hx hb d_S_atLast_5 (by decide) ?_
    refine yc_q (va_runV (As := [.int _, .int _]) (rest := []) ⟨hx, hb, hml, hown, hts⟩ (c_Y_findKind_no l D cc ad LL X b0 _ u hLu 1 (by omega) ui x (by rw [un]; exact hno) 6) (cwV 2 hts (yg_call mc_Y_findKind ml_S_29 mm_Y_findKind ms_Y_findKind mi_Y) rfl rfl rfl (by decide +kernel) ⟨Nat.le_of_ble_eq_true rfl, Nat.le_of_ble_eq_true rfl⟩) (y_preV hI hw (y_recv hK.1 hw n1 (by rfl) rfl)) rfl rfl hl.1 rfl (lv_room (Nat.le_of_ble_eq_true rfl)) d_S_atLast_7 ⟨Nat.le_of_ble_eq_true rfl, Nat.le_of_ble_eq_true rfl⟩) hw hA (fun r u_ H locs he hw => ?_)
    subst he
    rw [yrf_n]
    refine lv_iload_n hx hb d_S_atLast_10 rfl (lv_at hl 2 rfl) ?_
    refine yc_l (va_runS (As := [.null, .int _]) (rest := []) ⟨hx, hb, hml, hown, hts⟩ (c_S_keptValue_null l D cc ad LL X b0 _ u v) (va_cwS 2 hts (yg_callS mc_S_keptValue ml_S_62 mt_S_keptValue mi_S) rfl rfl rfl (by decide +kernel) ⟨Nat.le_of_ble_eq_true rfl, Nat.le_of_ble_eq_true rfl⟩) (y_preS hI hw) rfl rfl hl.1 rfl (lv_room (Nat.le_of_ble_eq_true rfl)) d_S_atLast_11 ⟨Nat.le_of_ble_eq_true rfl, Nat.le_of_ble_eq_true rfl⟩) hw hA (fun r u_ H locs he hw => ?_)
    subst he
    exact ye_l hI u ⟨s_D u 1, uF, by rw [← uT1]; unfold a_at; rw [yin_no (show x < 0 ∨ nI (yp_n (s_T u 1)) ≤ x from (by show x < 0 ∨ nI (s_n u 1) ≤ x; rw [un]; exact hno))], uJ, uc, uT, uD⟩ hw d_S_atLast_14
  · refine y_ofW (cc := b_S_atLast) (maxL := 3) (ret := (some .long)) (by decide) rfl (Nat.le_of_ble_eq_true rfl) ?_
    intro pv ev sv mv bv tv cv ls hI hsz hw hl
    obtain ⟨hx, hb, hr, hml, hts, hown, hlocks, hnm, hK, hAb, hb0, hA⟩ := id hI
    have ht : ∀ w ∈ lg_tbl, w.before _ sv = true := fun w h => hts w (List.mem_cons_of_mem _ h)
    have hl : lv_has ls 3 [(0, .ref (ad (0, 0, 0))), (1, .int (nI j)), (2, .int v)] := hl
    refine lv_aload_n hx hb d_S_atLast_0 rfl (lv_at hl 0 rfl) ?_
    refine yc_q (va_runV (As := []) (rest := []) ⟨hx, hb, hml, hown, hts⟩ (c_S_settled l D cc ad LL X b0 _ σ hL hJ) (cwV 0 hts (yg_call mc_S_settled ml_S_82 mm_S_settled ms_S_settled mi_S) rfl rfl rfl (by decide +kernel) ⟨Nat.le_of_ble_eq_true rfl, Nat.le_of_ble_eq_true rfl⟩) (y_preV hI hw (y_recv hK.1 hw o0 (by rfl) rfl)) rfl rfl hl.1 rfl (lv_room (Nat.le_of_ble_eq_true rfl)) d_S_atLast_1 ⟨Nat.le_of_ble_eq_true rfl, Nat.le_of_ble_eq_true rfl⟩) hw hA (fun r u H locs he hw => ?_)
    obtain ⟨rfl, hSt⟩ := he
    rw [yrf_s]
    obtain ⟨uJ, uc, uf, uT, uD⟩ := id hSt
    have un : s_n u 1 = s_n σ 0 := by rw [uJ.2.2.1.1]; unfold s_n; rw [uc]
    have unc : s_nc u 1 = s_nc σ 0 := by rw [uJ.2.2.1.2.1]; unfold s_nc; rw [uc]
    obtain ⟨uT1, uF⟩ := St_fin hSt
    have hLu : ∀ q, yL u q → q ∈ LL := L_cnt uc hL
    have ui := uJ.2.1
    have hju : j < s_n u 1 := by rw [un]; exact hj
    have h5 : (5, 1, j) ∈ LL := hLu _ ⟨by omega, hju⟩
    have hjn : yin (nI j) (yp_n (s_T u 1)) = some j := yin_some hju (by show s_n u 1 < _; rw [un]; omega)
    by_cases hk6 : (s_ac u 1 j).1 = 6
    · refine lv_iload_n hx hb d_S_atLast_4 rfl (lv_at hl 1 rfl) ?_
      refine lv_bipush (v := (nI 6)) hx hb d_S_atLast_5 (by decide) ?_
      refine yc_q (va_runV (As := [.int _, .int _]) (rest := []) ⟨hx, hb, hml, hown, hts⟩ (c_Y_findKind l D cc ad LL X b0 _ u hLu 1 (by omega) ui j hju 6 (by omega) hk6) (cwV 2 hts (yg_call mc_Y_findKind ml_S_29 mm_Y_findKind ms_Y_findKind mi_Y) rfl rfl rfl (by decide +kernel) ⟨Nat.le_of_ble_eq_true rfl, Nat.le_of_ble_eq_true rfl⟩) (y_preV hI hw (y_recv hK.1 hw n1 (by rfl) rfl)) rfl rfl hl.1 rfl (lv_room (Nat.le_of_ble_eq_true rfl)) d_S_atLast_7 ⟨Nat.le_of_ble_eq_true rfl, Nat.le_of_ble_eq_true rfl⟩) hw hA (fun r u_ H locs he hw => ?_)
      subst he
      rw [yrf_s]
      refine lv_iload_n hx hb d_S_atLast_10 rfl (lv_at hl 2 rfl) ?_
      refine yc_l (va_runS (As := [.ref _, .int _]) (rest := []) ⟨hx, hb, hml, hown, hts⟩ (c_S_keptValue l D cc ad LL X b0 _ u hLu 1 j (by omega) hju ui hk6 v) (va_cwS 2 hts (yg_callS mc_S_keptValue ml_S_62 mt_S_keptValue mi_S) rfl rfl rfl (by decide +kernel) ⟨Nat.le_of_ble_eq_true rfl, Nat.le_of_ble_eq_true rfl⟩) (y_preS hI hw) rfl rfl hl.1 rfl (lv_room (Nat.le_of_ble_eq_true rfl)) d_S_atLast_11 ⟨Nat.le_of_ble_eq_true rfl, Nat.le_of_ble_eq_true rfl⟩) hw hA (fun r u_ H locs he hw => ?_)
      subst he
      exact ye_l hI u ⟨s_D u 1, uF, by rw [← uT1]; unfold a_at; rw [hjn]; show _ = if (s_ac u 1 j).1 = 6 then _ else _; rw [if_pos hk6]; exact at_eq hk6 v, uJ, uc, uT, uD⟩ hw d_S_atLast_14
    · refine lv_iload_n hx hb d_S_atLast_4 rfl (lv_at hl 1 rfl) ?_
      refine lv_bipush (v := (nI 6)) hx hb d_S_atLast_5 (by decide) ?_
      refine yc_q (va_runV (As := [.int _, .int _]) (rest := []) ⟨hx, hb, hml, hown, hts⟩ (c_Y_findKind_other l D cc ad LL X b0 _ u hLu 1 (by omega) ui j hju 6 (by omega) hk6) (cwV 2 hts (yg_call mc_Y_findKind ml_S_29 mm_Y_findKind ms_Y_findKind mi_Y) rfl rfl rfl (by decide +kernel) ⟨Nat.le_of_ble_eq_true rfl, Nat.le_of_ble_eq_true rfl⟩) (y_preV hI hw (y_recv hK.1 hw n1 (by rfl) rfl)) rfl rfl hl.1 rfl (lv_room (Nat.le_of_ble_eq_true rfl)) d_S_atLast_7 ⟨Nat.le_of_ble_eq_true rfl, Nat.le_of_ble_eq_true rfl⟩) hw hA (fun r u_ H locs he hw => ?_)
      subst he
      rw [yrf_n]
      refine lv_iload_n hx hb d_S_atLast_10 rfl (lv_at hl 2 rfl) ?_
      refine yc_l (va_runS (As := [.null, .int _]) (rest := []) ⟨hx, hb, hml, hown, hts⟩ (c_S_keptValue_null l D cc ad LL X b0 _ u v) (va_cwS 2 hts (yg_callS mc_S_keptValue ml_S_62 mt_S_keptValue mi_S) rfl rfl rfl (by decide +kernel) ⟨Nat.le_of_ble_eq_true rfl, Nat.le_of_ble_eq_true rfl⟩) (y_preS hI hw) rfl rfl hl.1 rfl (lv_room (Nat.le_of_ble_eq_true rfl)) d_S_atLast_11 ⟨Nat.le_of_ble_eq_true rfl, Nat.le_of_ble_eq_true rfl⟩) hw hA (fun r u_ H locs he hw => ?_)
      subst he
      exact ye_l hI u ⟨s_D u 1, uF, by rw [← uT1]; unfold a_at; rw [hjn]; show _ = if (s_ac u 1 j).1 = 6 then _ else _; rw [if_neg hk6], uJ, uc, uT, uD⟩ hw d_S_atLast_14
set_option maxHeartbeats 4000000 in
set_option maxRecDepth 100000 in
theorem c_S_fullAtLast (l : Launch) (D : va_G) (cc : ClassId × ClassId × ClassId) (ad : yl → Nat) (LL : List yl) (X : va_W) (b0 sz : Nat) (σ : ys) (hL : ∀ q, yL σ q → q ∈ LL) (hJ : yJ σ) (x : Int32) : Met l y_S_fullAtLast w_S_fullAtLast ({ frames := 6, cells := 0, slots := 0, locals := 132 }) (yPr D cc b0 [.ref (ad (0, 0, 0)), .int x] (yW cc ad LL X σ) sz) (va_Qi (fun r σ' => ∃ N, yp_fin (s_T σ 0) (s_D σ 0) N ∧ r = a_full (s_T σ 0) (s_nc σ 0) N x ∧ yJ σ' ∧ σ'.2.1 = σ.2.1 ∧ s_T σ' 0 = s_T σ 0 ∧ s_D σ' 0 = s_D σ 0) (yB D ycl (yW cc ad LL X σ) sz (fun σ' => yW cc ad LL X σ')) (va_A (yW cc ad LL X σ) sz)) 0 0 (va_A (yW cc ad LL X σ) sz) := by
  have o0 : (0, 0, 0) ∈ LL := hL _ ⟨rfl, rfl⟩
  have n0 : (1, 0, 0) ∈ LL := hL _ ⟨by omega, rfl⟩
  have n1 : (1, 1, 0) ∈ LL := hL _ ⟨by omega, rfl⟩
  have hi := hJ.1
  have hi1 := hJ.2.1
  have hn10 := hi.1.1
  have hc16 := hi.2.1
  have hm10 := hi1.1.1
  have hd16 := hi1.2.1
  refine y_ofW (cc := b_S_fullAtLast) (maxL := 2) (ret := (some .int)) (by decide) rfl (Nat.le_of_ble_eq_true rfl) ?_
  intro pv ev sv mv bv tv cv ls hI hsz hw hl
  obtain ⟨hx, hb, hr, hml, hts, hown, hlocks, hnm, hK, hAb, hb0, hA⟩ := id hI
  have ht : ∀ w ∈ lg_tbl, w.before _ sv = true := fun w h => hts w (List.mem_cons_of_mem _ h)
  have hl : lv_has ls 2 [(0, .ref (ad (0, 0, 0))), (1, .int x)] := hl
  refine lv_aload_n hx hb d_S_fullAtLast_0 rfl (lv_at hl 0 rfl) ?_
  refine yc_q (va_runV (As := []) (rest := []) ⟨hx, hb, hml, hown, hts⟩ (c_S_settled l D cc ad LL X b0 _ σ hL hJ) (cwV 0 hts (yg_call mc_S_settled ml_S_82 mm_S_settled ms_S_settled mi_S) rfl rfl rfl (by decide +kernel) ⟨Nat.le_of_ble_eq_true rfl, Nat.le_of_ble_eq_true rfl⟩) (y_preV hI hw (y_recv hK.1 hw o0 (by rfl) rfl)) rfl rfl hl.1 rfl (lv_room (Nat.le_of_ble_eq_true rfl)) d_S_fullAtLast_1 ⟨Nat.le_of_ble_eq_true rfl, Nat.le_of_ble_eq_true rfl⟩) hw hA (fun r u H locs he hw => ?_)
  obtain ⟨rfl, hSt⟩ := he
  rw [yrf_s]
  obtain ⟨uJ, uc, uf, uT, uD⟩ := id hSt
  have un : s_n u 1 = s_n σ 0 := by rw [uJ.2.2.1.1]; unfold s_n; rw [uc]
  have unc : s_nc u 1 = s_nc σ 0 := by rw [uJ.2.2.1.2.1]; unfold s_nc; rw [uc]
  obtain ⟨uT1, uF⟩ := St_fin hSt
  have hLu : ∀ q, yL u q → q ∈ LL := L_cnt uc hL
  have ui := uJ.2.1
  refine lv_iload_n hx hb d_S_fullAtLast_4 rfl (lv_at hl 1 rfl) ?_
  refine yc_i (va_runV (As := [.int _]) (rest := []) ⟨hx, hb, hml, hown, hts⟩ (c_Y_findFull l D cc ad LL X b0 _ u hLu 1 (by omega) ui x) (cwV 1 hts (yg_call mc_Y_findFull ml_S_86 mm_Y_findFull ms_Y_findFull mi_Y) rfl rfl rfl (by decide +kernel) ⟨Nat.le_of_ble_eq_true rfl, Nat.le_of_ble_eq_true rfl⟩) (y_preV hI hw (y_recv hK.1 hw n1 (by rfl) rfl)) rfl rfl hl.1 rfl (lv_room (Nat.le_of_ble_eq_true rfl)) d_S_fullAtLast_5 ⟨Nat.le_of_ble_eq_true rfl, Nat.le_of_ble_eq_true rfl⟩) hw hA (fun r u_ H locs he hw => ?_)
  subst he
  exact ye_i hI u ⟨s_D u 1, uF, by rw [← uT1, ← unc]; exact full_eq u x, uJ, uc, uT, uD⟩ hw d_S_fullAtLast_8
