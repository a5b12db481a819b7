/-! THE REFERENCE: doAct -/
def mStp (μ : ms) (y i : Nat) (μ' : ms) : Prop := mX μ y μ' ∧ m_D μ' y = yp_act (m_T μ) (m_D μ y) i ∧ mI μ' y
/-- behind the takes and gives of an act -/
def mQ (μ : ms) (y i : Nat) (p : yp_P) (z : ms) : Prop := mX μ y z ∧ mI z y ∧ m_D z y = ((m_D μ y).1, (m_D μ y).2.1, yq_gv p.2.2.2.1 (m_oc μ i 1) (yq_gv p.2.2.1 (m_oc μ i 0) (yq_tk p.2.1 (m_ic μ i 1) (yq_tk p.1 (m_ic μ i 0) (m_D μ y).2.2)))) ∧ m_ac z = m_ac μ ∧ m_tn z = m_tn μ ∧ m_kc z = m_kc μ
theorem mQ_mk {μ : ms} {y i : Nat} {p : yp_P} {z : ms} (h1 : mX μ y z) (h2 : mI z y) (h3 : m_D z y = ((m_D μ y).1, (m_D μ y).2.1, yq_gv p.2.2.2.1 (m_oc μ i 1) (yq_gv p.2.2.1 (m_oc μ i 0) (yq_tk p.2.1 (m_ic μ i 1) (yq_tk p.1 (m_ic μ i 0) (m_D μ y).2.2))))) (h4 : mS μ z ∧ m_ac z = m_ac μ ∧ m_tn z = m_tn μ ∧ m_kc z = m_kc μ ∧ m_kp z = m_kp μ) : mQ μ y i p z := ⟨h1, h2, h3, h4.2.1, h4.2.2.1, h4.2.2.2.1⟩
theorem mio_t {μ z : ms} {y c : Nat} (h : mS (mo_take μ y c) z ∧ m_ac z = m_ac (mo_take μ y c) ∧ m_tn z = m_tn (mo_take μ y c) ∧ m_kc z = m_kc (mo_take μ y c) ∧ m_kp z = m_kp (mo_take μ y c)) : mS μ z ∧ m_ac z = m_ac μ ∧ m_tn z = m_tn μ ∧ m_kc z = m_kc μ ∧ m_kp z = m_kp μ := h
theorem mio_g {μ u z : ms} (g : mS μ u ∧ m_ac u = m_ac μ ∧ m_tn u = m_tn μ ∧ m_kc u = m_kc μ ∧ m_kp u = m_kp μ) (h : mS u z ∧ m_ac z = m_ac u ∧ m_tn z = m_tn u ∧ m_kc z = m_kc u ∧ m_kp z = m_kp u) : mS μ z ∧ m_ac z = m_ac μ ∧ m_tn z = m_tn μ ∧ m_kc z = m_kc μ ∧ m_kp z = m_kp μ := ⟨g.1.tr h.1, h.2.1.trans g.2.1, h.2.2.1.trans g.2.2.1, h.2.2.2.1.trans g.2.2.2.1, h.2.2.2.2.trans g.2.2.2.2⟩
theorem mflip {n : Nat} : nI (1 - n % 2) = nI ((n + 1) % 2) := by
  congr 1; omega
theorem msr_get {μ : ms} {i k : Nat} (h : k < m_tc μ i) : (yp_sr (m_T μ) i)[k]? = some (m_td μ (20 * i + k)) := by
  show ((List.range (m_tc μ i)).map _)[k]? = _
  rw [List.getElem?_map, List.getElem?_range h]
  rfl
theorem mtn0 {μ μ1 : ms} {y i : Nat} {p : yp_P} (hq : mQ μ y i p μ1) (hk : ¬ (m_kd μ i = 2 ∨ m_kd μ i = 3)) (h : m_tn μ y i = if m_kd μ i = 2 ∨ m_kd μ i = 3 then m_ac μ y i % 2 else 0) : ∀ z k, m_tn μ1 z k = if z = y ∧ k = i then (if m_kd μ i = 2 ∨ m_kd μ i = 3 then (m_ac μ y i + 1) % 2 else 0) else m_tn μ1 z k := by
  intro z k
  by_cases e : z = y ∧ k = i
  · rw [if_pos e, if_neg hk, e.1, e.2, hq.2.2.2.2.1, h, if_neg hk]
  · rw [if_neg e]
theorem mtn2 {μ μ1 : ms} {y i : Nat} (hk : m_kd μ i = 2 ∨ m_kd μ i = 3) : ∀ z k, up2 (m_tn μ1) y i ((m_ac μ y i + 1) % 2) z k = if z = y ∧ k = i then (if m_kd μ i = 2 ∨ m_kd μ i = 3 then (m_ac μ y i + 1) % 2 else 0) else m_tn μ1 z k := by
  intro z k
  rw [if_pos hk]
  rfl
theorem mStp_mk {μ μ1 μ2 : ms} {y i : Nat} {p : yp_P} (hi : mI μ y) (hn : i < m_n μ) (hp : yp_pl (m_T μ) (m_D μ y) i = some p) (hq : mQ μ y i p μ1) (h6 : m_kd μ i ≠ 6) (hkp : p.2.2.2.2 = none) (hS : mS μ1 μ2) (h2ac : ∀ z k, m_ac μ2 z k = if z = y ∧ k = i then m_ac μ y i + 1 else m_ac μ1 z k) (h2tn : ∀ z k, m_tn μ2 z k = if z = y ∧ k = i then (if m_kd μ i = 2 ∨ m_kd μ i = 3 then (m_ac μ y i + 1) % 2 else 0) else m_tn μ1 z k) (h2kc : m_kc μ2 = m_kc μ1) (h2kp : m_kp μ2 = m_kp μ1) (h2ct : m_ct μ2 = m_ct μ1) (h2vs : m_vs μ2 = m_vs μ1) : mStp μ y i μ2 := by
  obtain ⟨q1, q2, q3, q4, q5, q6⟩ := hq
  have ht : m_ac μ y i < 100 := yp_plan_lt hp
  have hkd : m_kd μ2 = m_kd μ := hS.2.2.1.trans q1.1.2.2.1
  have hX2 : mX μ1 y μ2 := ⟨hS, fun y' hy => ⟨funext fun k => by rw [h2ac, if_neg (fun e => hy e.1)], funext fun k => by rw [h2tn, if_neg (fun e => hy e.1)], by rw [h2kc], by rw [h2ct]⟩, fun j _ => by rw [h2vs], fun j _ => by rw [h2kp]⟩
  have hacy : m_ac μ2 y = va_up (m_ac μ y) i (m_ac μ y i + 1) := by
    funext k
    rw [h2ac, q4]
    unfold va_up
    by_cases e : k = i
    · rw [if_pos ⟨rfl, e⟩, if_pos e]
    · rw [if_neg (fun q => e q.2), if_neg e]
  refine ⟨q1.tr hX2, ?_, ?_⟩
  · have hD2 : m_D μ2 y = (va_up (m_ac μ y) i (m_ac μ y i + 1), (m_D μ1 y).2.1, (m_D μ1 y).2.2) := by
      unfold m_D
      rw [hacy, h2kc, h2kp, h2ct, h2vs, hS.2.2.1]
    rw [hD2, q3, yp_act_of hp]
    show (_, _, _) = (_, yp_kp i p (m_D μ y).2.1, yp_q (m_T μ) i p (m_D μ y).2.2)
    rw [yp_q_seq hi.2.2.2.2.2.2.2.2]
    unfold yp_kp
    rw [hkp]
    rfl
  · have hT := hS.T
    obtain ⟨a1, a2, a3, a4, a5, a6, a7, a8, a9, a10⟩ := hS
    obtain ⟨b1, b2, b3, b4, b5, b6, b7, b8, b9⟩ := q2
    have hkd1 : m_kd μ1 = m_kd μ := q1.1.2.2.1
    have hn1 : m_n μ1 = m_n μ := q1.1.1
    unfold mI
    rw [hT, a1, a2, a3, a4, a5, a6, a8, a9, a10, h2kc, h2ct]
    refine ⟨b1, b2, fun k hk => ?_, b4, fun k => ?_, b6, b7, b8, b9⟩
    · obtain ⟨c1, c2, c3, c4, c5⟩ := b3 k hk
      rw [h2ac, if_neg (fun q => by omega)]
      exact ⟨c1, c2, c3, c4, c5⟩
    · obtain ⟨c1, c2, c3, c4, c5, c6, c7⟩ := b5 k
      by_cases e : k = i
      · have w1 : m_ac μ2 y k = m_ac μ y i + 1 := by rw [h2ac, if_pos ⟨rfl, e⟩]
        have w2 : m_tn μ2 y k = if m_kd μ i = 2 ∨ m_kd μ i = 3 then (m_ac μ y i + 1) % 2 else 0 := by rw [h2tn, if_pos ⟨rfl, e⟩]
        rw [w1, w2, e, hkd1]
        rw [e] at c1 c2 c3 c4 c5 c6 c7
        rw [hkd1] at c1 c3 c5 c6 c7
        rw [if_neg h6] at c6
        exact ⟨c1, c2, c3, by omega, fun q => absurd q h6, c6.trans (if_neg h6).symm, rfl⟩
      · have w1 : m_ac μ2 y k = m_ac μ1 y k := by rw [h2ac, if_neg (fun q => e q.2)]
        have w2 : m_tn μ2 y k = m_tn μ1 y k := by rw [h2tn, if_neg (fun q => e q.2)]
        rw [w1, w2]
        exact ⟨c1, c2, c3, c4, c5, c6, c7⟩
theorem mStp_mk6 {μ μ1 μ2 : ms} {y i c : Nat} {v : Int32} (hi : mI μ y) (hn : i < m_n μ) (hk : m_kd μ i = 6) (h60 : m_ac μ y i < 60) (hp : yp_pl (m_T μ) (m_D μ y) i = some (true, false, none, none, some v)) (e : m_ic μ i 0 = some c) (hp0 : 0 < m_ct μ y c) (hμ1 : μ1 = mo_take μ y c) (hS : mS μ1 μ2) (h2kp : m_kp μ2 = upd (m_kp μ) (600 * y + 60 * i + m_ac μ y i) v) (h2kc : m_kc μ2 = up2 (m_kc μ) y i (m_ac μ y i + 1)) (h2ac : ∀ z k, m_ac μ2 z k = if z = y ∧ k = i then m_ac μ y i + 1 else m_ac μ z k) (h2tn : m_tn μ2 = m_tn μ) (h2ct : m_ct μ2 = m_ct μ1) (h2vs : m_vs μ2 = m_vs μ1) : mStp μ y i μ2 := by
  subst hμ1
  have hit := mI_take hi hp0
  have hc := mc_lt hi hp0
  have hb := hi.2.2.2.2.2.1 c hc
  have hn10 := hi.1
  have hc16 := hi.2.1
  have xt := mX_take (μ := μ) (y := y) (c := c) (by omega) (by omega)
  have hkd : m_kd μ2 = m_kd μ := hS.2.2.1
  have hkc0 : m_kc μ y i = m_ac μ y i := by rw [(hi.2.2.2.2.1 i).2.2.2.2.2.1, if_pos hk]
  have hX2 : mX (mo_take μ y c) y μ2 := ⟨hS, fun y' hy => ⟨funext fun k => by rw [h2ac, if_neg (fun q => hy q.1)]; rfl, by rw [h2tn]; rfl, by rw [h2kc]; exact mup_row hy, by rw [h2ct]⟩, fun j _ => by rw [h2vs], fun j hj => by rw [h2kp]; exact pk_un (by omega)⟩
  have hacy : m_ac μ2 y = va_up (m_ac μ y) i (m_ac μ y i + 1) := by
    funext k
    rw [h2ac]
    unfold va_up
    by_cases q : k = i
    · rw [if_pos ⟨rfl, q⟩, if_pos q]
    · rw [if_neg (fun z => q z.2), if_neg q]
  have hkcy : ∀ k, m_kc μ2 y k = if k = i then m_ac μ y i + 1 else m_kc μ y k := fun k => by rw [h2kc]; exact mup_at
  refine ⟨xt.tr hX2, ?_, ?_⟩
  · have e2 : (fun k => if m_kd μ k = 6 then (List.range (m_kc μ2 y k)).map (fun j => m_kp μ2 (600 * y + 60 * k + j)) else []) = va_up (m_D μ y).2.1 i ((m_D μ y).2.1 i ++ [v]) := by
      funext k
      unfold va_up
      by_cases q : k = i
      · rw [if_pos q, q, if_pos hk, hkcy, if_pos rfl, List.range_succ, List.map_append]
        show _ = (if m_kd μ i = 6 then (List.range (m_kc μ y i)).map (fun j => m_kp μ (600 * y + 60 * i + j)) else []) ++ [v]
        rw [if_pos hk, hkc0]
        congr 1
        · apply List.map_congr_left
          intro j hj
          have hj := List.mem_range.mp hj
          rw [h2kp, pk_un (by omega)]
        · show [m_kp μ2 (600 * y + 60 * i + m_ac μ y i)] = [v]
          rw [h2kp, pk_us]
      · rw [if_neg q]
        show _ = if m_kd μ k = 6 then (List.range (m_kc μ y k)).map (fun j => m_kp μ (600 * y + 60 * k + j)) else []
        by_cases hk6 : m_kd μ k = 6
        · rw [if_pos hk6, if_pos hk6, hkcy, if_neg q]
          apply List.map_congr_left
          intro j hj
          have hj := List.mem_range.mp hj
          obtain ⟨c1, c2, c3, c4, c5, c6, c7⟩ := hi.2.2.2.2.1 k
          rw [if_pos hk6] at c6
          have c5 := c5 hk6
          rw [h2kp, pk_un (by omega)]
        · rw [if_neg hk6, if_neg hk6]
    have hD2 : m_D μ2 y = (va_up (m_ac μ y) i (m_ac μ y i + 1), va_up (m_D μ y).2.1 i ((m_D μ y).2.1 i ++ [v]), (m_D (mo_take μ y c) y).2.2) := by
      rw [← e2]
      unfold m_D
      rw [hacy, h2ct, h2vs, hkd]
    rw [hD2, mD_take hi hp0, yp_act_of hp]
    show (_, _, _) = (_, yp_kp i (true, false, none, none, some v) (m_D μ y).2.1, yp_q (m_T μ) i (true, false, none, none, some v) (m_D μ y).2.2)
    rw [yp_q_seq hi.2.2.2.2.2.2.2.2]
    show (_, _, _) = (_, _, yq_gv none _ (yq_gv none _ (yq_tk false _ (yq_tk true (m_ic μ i 0) _))))
    rw [yq_gv_n, yq_gv_n, yq_tk_f, e]
    rfl
  · have hT := hS.T
    obtain ⟨a1, a2, a3, a4, a5, a6, a7, a8, a9, a10⟩ := hS
    obtain ⟨b1, b2, b3, b4, b5, b6, b7, b8, b9⟩ := hit
    unfold mI
    rw [hT, a1, a2, a3, a4, a5, a6, a8, a9, a10, h2ct]
    refine ⟨b1, b2, fun k hk' => ?_, b4, fun k => ?_, b6, b7, b8, b9⟩
    · obtain ⟨c1, c2, c3, c4, c5⟩ := b3 k hk'
      have hk' : m_n μ ≤ k := hk'
      rw [h2ac, if_neg (fun q => by omega)]
      exact ⟨c1, c2, c3, c4, c5⟩
    · obtain ⟨c1, c2, c3, c4, c5, c6, c7⟩ := hi.2.2.2.2.1 k
      show m_kd μ k < 9 ∧ m_tc μ k ≤ 20 ∧ (m_kd μ k ≠ 0 → m_tc μ k = 0) ∧ m_ac μ2 y k ≤ 100 ∧ (m_kd μ k = 6 → m_ac μ2 y k ≤ 60) ∧ m_kc μ2 y k = (if m_kd μ k = 6 then m_ac μ2 y k else 0) ∧ m_tn μ2 y k = (if m_kd μ k = 2 ∨ m_kd μ k = 3 then m_ac μ2 y k % 2 else 0)
      by_cases q : k = i
      · have w1 : m_ac μ2 y k = m_ac μ y i + 1 := by rw [h2ac, if_pos ⟨rfl, q⟩]
        have w2 : m_kc μ2 y k = m_ac μ y i + 1 := by rw [hkcy, if_pos q]
        rw [w1, w2, h2tn, q]
        rw [q] at c1 c2 c3 c4 c5 c6 c7
        have n23 : ¬ (m_kd μ i = 2 ∨ m_kd μ i = 3) := by omega
        rw [if_neg n23] at c7
        exact ⟨c1, c2, c3, by omega, fun _ => by omega, (if_pos hk).symm, c7.trans (if_neg n23).symm⟩
      · have w1 : m_ac μ2 y k = m_ac μ y k := by rw [h2ac, if_neg (fun z => q z.2)]
        have w2 : m_kc μ2 y k = m_kc μ y k := by rw [hkcy, if_neg q]
        rw [w1, w2, h2tn]
        exact ⟨c1, c2, c3, c4, c5, c6, c7⟩
theorem m2_fin {μ : ms} {y i c0 : Nat} {v : Int32} (e0 : m_ic μ i 0 = some c0) (z : (Nat → Nat) × (Nat → List Int32)) : ((z.1, z.2, yq_gv (some v) (m_oc (mo_take μ y c0) i (m_ac μ y i % 2)) (yq_tk true (some c0) (m_D μ y).2.2)) : yp_D) = (z.1, z.2, yq_gv (if (m_D μ y).1 i % 2 = 0 then ((true, false, some v, none, none) : yp_P) else (true, false, none, some v, none)).2.2.2.1 (m_oc μ i 1) (yq_gv (if (m_D μ y).1 i % 2 = 0 then ((true, false, some v, none, none) : yp_P) else (true, false, none, some v, none)).2.2.1 (m_oc μ i 0) (yq_tk (if (m_D μ y).1 i % 2 = 0 then ((true, false, some v, none, none) : yp_P) else (true, false, none, some v, none)).2.1 (m_ic μ i 1) (yq_tk (if (m_D μ y).1 i % 2 = 0 then ((true, false, some v, none, none) : yp_P) else (true, false, none, some v, none)).1 (m_ic μ i 0) (m_D μ y).2.2)))) := by
  rcases Nat.mod_two_eq_zero_or_one (m_ac μ y i) with e | e
  · have e' : (m_D μ y).1 i % 2 = 0 := e
    rw [e, if_pos e', yq_gv_n, yq_tk_f, e0]; rfl
  · have e' : ¬ (m_D μ y).1 i % 2 = 0 := fun q => by have : m_ac μ y i % 2 = 0 := q; omega
    rw [e, if_neg e', yq_gv_n, yq_tk_f, e0]; rfl
theorem m3_fin {μ : ms} {y i c0 : Nat} (h100 : ¬ 100 ≤ (m_D μ y).1 i) (hk : m_kd μ i = 3) (e0 : m_ic μ i (m_ac μ y i % 2) = some c0) (hp0 : 0 < m_ct μ y c0) : ∃ p : yp_P, yp_pl (m_T μ) (m_D μ y) i = some p ∧ p.2.2.2.2 = none ∧ ((m_D μ y).1, (m_D μ y).2.1, yq_gv p.2.2.2.1 (m_oc μ i 1) (yq_gv p.2.2.1 (m_oc μ i 0) (yq_tk p.2.1 (m_ic μ i 1) (yq_tk p.1 (m_ic μ i 0) (m_D μ y).2.2)))) = (((m_D μ y).1, (m_D μ y).2.1, yq_gv (some (m_vs μ (128 * y + 8 * c0))) (m_oc (mo_take μ y c0) i 0) (yq_tk true (some c0) (m_D μ y).2.2)) : yp_D) := by
  rcases Nat.mod_two_eq_zero_or_one (m_ac μ y i) with e | e
  · rw [e] at e0
    exact ⟨_, ypl3a (T := m_T μ) h100 hk e (mh_head e0 hp0), rfl, by rw [yq_gv_n, yq_tk_f, e0]; rfl⟩
  · rw [e] at e0
    exact ⟨_, ypl3b (T := m_T μ) h100 hk e (mh_head e0 hp0), rfl, by rw [yq_gv_n, yq_tk_f, e0]; rfl⟩
set_option maxHeartbeats 4000000 in
set_option maxRecDepth 100000 in
theorem c_M_doAct_0 (l : Launch) (D : va_G) (cc : ClassId × ClassId × ClassId) (ad : yl → Nat) (X : va_W) (b0 sz : Nat) (μ : ms) (y i : Nat) (hy : y < 2) (hn : i < m_n μ) (hi : mI μ y) (hk : m_kd μ i = 0) (hcan : yp_canb (m_T μ) (m_D μ y) i = true) : Met l y_M_doAct w_M_doAct ({ frames := 1, cells := 0, slots := 0, locals := 27 }) (yPr D cc b0 [.ref (ad (20, 0, 0)), .int (nI y), .int (nI i)] (mW cc ad X μ) sz) (va_Qv (fun μ' : ms => mStp μ y i μ') (yB D ycl (mW cc ad X μ) sz (fun μ' => mW cc ad X μ')) (va_A (mW cc ad X μ) sz)) 0 0 (va_A (mW cc ad X μ) sz) := by
  have hn10 := hi.1
  have hc16 := hi.2.1
  obtain ⟨a1, a2, a3, a4, a5, a6, a7⟩ := hi.2.2.2.2.1 i
  refine y_ofW (cc := b_M_doAct) (maxL := 7) (ret := none) (by decide) rfl (Nat.le_of_ble_eq_true rfl) ?_
  intro pv ev sv mv bv tv cv ls hI hsz hw hl
  obtain ⟨hx, hb, hr, hml, hts, hown, hlocks, hnm, hK, hAb, hb0, hA⟩ := id hI
  have ht : ∀ w ∈ lg_tbl, w.before _ sv = true := fun w h => hts w (List.mem_cons_of_mem _ h)
  have hl : lv_has ls 7 [(0, .ref (ad (20, 0, 0))), (1, .int (nI y)), (2, .int (nI i))] := hl
  have h100 : ¬ 100 ≤ (m_D μ y).1 i := Nat.not_le.mpr (yp_can_lt hcan)
  have h99 : m_ac μ y i < 100 := yp_can_lt hcan
  rw [yp_can0 (T := m_T μ) h100 hk] at hcan
  obtain ⟨q1, q2⟩ := (Bool.and_eq_true _ _).mp hcan
  have q1 : m_ac μ y i < m_tc μ i := by have := of_decide_eq_true q1; rw [msr_len] at this; exact this
  have hrm := mrm_of hi q2
  have hpl := ypl0 (T := m_T μ) h100 hk (msr_get q1)
  refine lv_bipush (v := (nI 10)) hx hb d_M_doAct_0 (by decide) ?_
  refine lv_iload_n hx hb d_M_doAct_2 rfl (lv_at hl 1 rfl) ?_
  refine lv_imul hx hb d_M_doAct_3 ?_
  rw [pk_mul]
  refine lv_iload_n hx hb d_M_doAct_4 rfl (lv_at hl 2 rfl) ?_
  refine lv_iadd hx hb d_M_doAct_5 ?_
  rw [nI_add]
  refine lv_istore_n (lv' := [(3, .int _), (0, .ref _), (1, .int _), (2, .int _)]) hx hb d_M_doAct_6 rfl hl (by decide) rfl (fun ls hl => ?_)
  refine lv_aload_n hx hb d_M_doAct_7 rfl (lv_at hl 1 rfl) ?_
  refine yr_get (C := R_M) (T := F_M) (N := 16) (ci := k_M) hx hb ht j_M hown hK.1 hw mL_o (by rfl) rfl 1 (by decide) (ht _ mf_M_7) (fun _ h9 => h9) (by rfl) d_M_doAct_8 ?_
  refine lv_iload_n hx hb d_M_doAct_11 rfl (lv_at hl 3 rfl) ?_
  refine yr_iald (v := nI (m_kd μ i)) hx hb hK.1 hw mL_0 (by rfl) 0 rfl (vp_in_nI (N := 10) (by omega) (by omega)) (by rw [nI_clamp (by omega)]; rfl) d_M_doAct_12 ?_
  rw [hk]
  refine lv_tableIn (off := 47) (tgt := 60) hx hb d_M_doAct_13 (by decide +kernel) (by decide +kernel) (by decide +kernel) (by decide) ?_
  refine lv_aload_n hx hb d_M_doAct_60 rfl (lv_at hl 1 rfl) ?_
  refine lv_iload_n hx hb d_M_doAct_61 rfl (lv_at hl 2 rfl) ?_
  refine lv_iload_n hx hb d_M_doAct_62 rfl (lv_at hl 3 rfl) ?_
  refine lv_iconst (v := (nI 0)) hx hb d_M_doAct_63 (by decide) ?_
  refine lv_aload_n hx hb d_M_doAct_64 rfl (lv_at hl 1 rfl) ?_
  refine yr_get (C := R_M) (T := F_M) (N := 16) (ci := k_M) hx hb ht j_M hown hK.1 hw mL_o (by rfl) rfl 5 (by decide) (ht _ mf_M_22) (fun _ h9 => h9) (by rfl) d_M_doAct_65 ?_
  refine lv_bipush (v := (nI 20)) hx hb d_M_doAct_68 (by decide) ?_
  refine lv_iload_n hx hb d_M_doAct_70 rfl (lv_at hl 3 rfl) ?_
  refine lv_imul hx hb d_M_doAct_71 ?_
  rw [pk_mul]
  refine lv_aload_n hx hb d_M_doAct_72 rfl (lv_at hl 1 rfl) ?_
  refine yr_get (C := R_M) (T := F_M) (N := 16) (ci := k_M) hx hb ht j_M hown hK.1 hw mL_o (by rfl) rfl 10 (by decide) (ht _ mf_M_34) (fun _ h9 => h9) (by rfl) d_M_doAct_73 ?_
  refine lv_iload_n hx hb d_M_doAct_76 rfl (lv_at hl 0 rfl) ?_
  refine yr_iald (v := nI (m_ac μ y i)) hx hb hK.1 hw mL_8 (by rfl) 0 rfl (vp_in_nI (N := 20) (by omega) (by omega)) (by rw [nI_clamp (by omega)]; show nI (m_ac μ ((10 * y + i) / 10) ((10 * y + i) % 10)) = _; rw [at_flat (f := m_ac μ) (show i < 10 by omega)]) d_M_doAct_77 ?_
  refine lv_iadd hx hb d_M_doAct_78 ?_
  rw [nI_add]
  refine yr_iald (v := m_td μ (20 * i + m_ac μ y i)) hx hb hK.1 hw mL_4 (by rfl) 0 rfl (vp_in_nI (N := 200) (by omega) (by omega)) (by rw [nI_clamp (by omega)]; rfl) d_M_doAct_79 ?_
  refine yc_v (va_runV (As := [.int _, .int _, .int _, .int _]) (rest := []) ⟨hx, hb, hml, hown, hts⟩ (c_M_give l D cc ad X b0 _ μ y i 0 hy hn hi (by omega) _ hrm) (cwV 4 hts (yg_call mc_M_give ml_M_81 mm_M_give ms_M_give mi_M) rfl rfl rfl (by decide +kernel) ⟨Nat.le_of_ble_eq_true rfl, Nat.le_of_ble_eq_true rfl⟩) (y_preV hI hw (y_recv hK.1 hw mL_o (by rfl) rfl)) rfl rfl hl.1 rfl (lv_room (Nat.le_of_ble_eq_true rfl)) d_M_doAct_80 ⟨Nat.le_of_ble_eq_true rfl, Nat.le_of_ble_eq_true rfl⟩) hw hA (fun u H locs he hw => ?_)
  refine lv_goto (tgt := 353) hx hb d_M_doAct_83 (by decide) ?_
  obtain ⟨μ1, hw, hq⟩ : ∃ z, yH D ycl (va_A (mW cc ad X μ) sz) sv.heap H locs (mW cc ad X z) ∧ mQ μ y i (false, false, some (m_td μ (20 * i + m_ac μ y i)), none, none) z := ⟨_, hw, mQ_mk (mX_give hi hrm) (mI_give hi hrm) (by rw [mD_give hi hrm, yq_gv_n, yq_tk_f, yq_tk_f]) mgive_io⟩
  obtain ⟨q1, q2, q3, q4, q5, q6⟩ := id hq
  have w1 : m_ac μ1 y i = m_ac μ y i := by rw [q4]
  have w2 : m_tn μ1 y i = m_tn μ y i := by rw [q5]
  refine lv_aload_n hx hb d_M_doAct_353 rfl (lv_at hl 1 rfl) ?_
  refine yr_get (C := R_M) (T := F_M) (N := 16) (ci := k_M) hx hb ht j_M hown hK.1 hw mL_o (by rfl) rfl 10 (by decide) (ht _ mf_M_34) (fun _ h9 => h9) (by rfl) d_M_doAct_354 ?_
  refine lv_iload_n hx hb d_M_doAct_357 rfl (lv_at hl 0 rfl) ?_
  refine lv_dup2_11 hx hb d_M_doAct_358 rfl rfl ?_
  refine yr_iald (v := nI (m_ac μ y i)) hx hb hK.1 hw mL_8 (by rfl) 0 rfl (vp_in_nI (N := 20) (by omega) (by omega)) (by rw [nI_clamp (by omega)]; show nI (m_ac μ1 ((10 * y + i) / 10) ((10 * y + i) % 10)) = _; rw [at_flat (f := m_ac μ1) (show i < 10 by omega), w1]) d_M_doAct_359 ?_
  refine lv_iconst (v := (nI 1)) hx hb d_M_doAct_360 (by decide) ?_
  refine lv_iadd hx hb d_M_doAct_361 ?_
  rw [nI_add]
  refine yr_iast hx hb hK.1 hw mL_8 (by rfl) 0 rfl (vp_in_nI (N := 20) (by omega) (by omega)) d_M_doAct_362 (fun H locs hw => ?_)
  rw [nI_clamp (by omega)] at hw
  have hw := mw_ac (up2 (m_ac μ1) y i (m_ac μ y i + 1)) hw (by rw [← upd_flat (show i < 10 by omega)]; rfl)
  have htn0 := mtn0 hq (show ¬ (m_kd μ i = 2 ∨ m_kd μ i = 3) by omega) a7
  exact ye_v hI (mx_ac μ1 (up2 (m_ac μ1) y i (m_ac μ y i + 1))) (mStp_mk hi hn hpl hq (by omega) rfl ⟨rfl, rfl, rfl, rfl, rfl, rfl, rfl, rfl, rfl, rfl⟩ (fun _ _ => rfl) htn0 rfl rfl rfl rfl) hw d_M_doAct_363
set_option maxHeartbeats 4000000 in
set_option maxRecDepth 100000 in
theorem c_M_doAct_1 (l : Launch) (D : va_G) (cc : ClassId × ClassId × ClassId) (ad : yl → Nat) (X : va_W) (b0 sz : Nat) (μ : ms) (y i : Nat) (hy : y < 2) (hn : i < m_n μ) (hi : mI μ y) (hk : m_kd μ i = 1) (hcan : yp_canb (m_T μ) (m_D μ y) i = true) : Met l y_M_doAct w_M_doAct ({ frames := 1, cells := 0, slots := 0, locals := 27 }) (yPr D cc b0 [.ref (ad (20, 0, 0)), .int (nI y), .int (nI i)] (mW cc ad X μ) sz) (va_Qv (fun μ' : ms => mStp μ y i μ') (yB D ycl (mW cc ad X μ) sz (fun μ' => mW cc ad X μ')) (va_A (mW cc ad X μ) sz)) 0 0 (va_A (mW cc ad X μ) sz) := by
  have hn10 := hi.1
  have hc16 := hi.2.1
  obtain ⟨a1, a2, a3, a4, a5, a6, a7⟩ := hi.2.2.2.2.1 i
  refine y_ofW (cc := b_M_doAct) (maxL := 7) (ret := none) (by decide) rfl (Nat.le_of_ble_eq_true rfl) ?_
  intro pv ev sv mv bv tv cv ls hI hsz hw hl
  obtain ⟨hx, hb, hr, hml, hts, hown, hlocks, hnm, hK, hAb, hb0, hA⟩ := id hI
  have ht : ∀ w ∈ lg_tbl, w.before _ sv = true := fun w h => hts w (List.mem_cons_of_mem _ h)
  have hl : lv_has ls 7 [(0, .ref (ad (20, 0, 0))), (1, .int (nI y)), (2, .int (nI i))] := hl
  have h100 : ¬ 100 ≤ (m_D μ y).1 i := Nat.not_le.mpr (yp_can_lt hcan)
  have h99 : m_ac μ y i < 100 := yp_can_lt hcan
  rw [yp_can1 (T := m_T μ) h100 hk] at hcan
  obtain ⟨q1, q2⟩ := (Bool.and_eq_true _ _).mp hcan
  obtain ⟨c0, e0, hp0⟩ := mh_inv q1
  have hi1 := mI_take hi hp0
  have hc0 := mc_lt hi hp0
  have hb0 := hi.2.2.2.2.2.1 c0 hc0
  have xt := mX_take (μ := μ) (y := y) (c := c0) (by omega) (by omega)
  have hrm := mrm_take (c := c0) (mrm_of hi q2)
  have hpl := ypl1 (T := m_T μ) h100 hk (mh_head e0 hp0)
  refine lv_bipush (v := (nI 10)) hx hb d_M_doAct_0 (by decide) ?_
  refine lv_iload_n hx hb d_M_doAct_2 rfl (lv_at hl 1 rfl) ?_
  refine lv_imul hx hb d_M_doAct_3 ?_
  rw [pk_mul]
  refine lv_iload_n hx hb d_M_doAct_4 rfl (lv_at hl 2 rfl) ?_
  refine lv_iadd hx hb d_M_doAct_5 ?_
  rw [nI_add]
  refine lv_istore_n (lv' := [(3, .int _), (0, .ref _), (1, .int _), (2, .int _)]) hx hb d_M_doAct_6 rfl hl (by decide) rfl (fun ls hl => ?_)
  refine lv_aload_n hx hb d_M_doAct_7 rfl (lv_at hl 1 rfl) ?_
  refine yr_get (C := R_M) (T := F_M) (N := 16) (ci := k_M) hx hb ht j_M hown hK.1 hw mL_o (by rfl) rfl 1 (by decide) (ht _ mf_M_7) (fun _ h9 => h9) (by rfl) d_M_doAct_8 ?_
  refine lv_iload_n hx hb d_M_doAct_11 rfl (lv_at hl 3 rfl) ?_
  refine yr_iald (v := nI (m_kd μ i)) hx hb hK.1 hw mL_0 (by rfl) 0 rfl (vp_in_nI (N := 10) (by omega) (by omega)) (by rw [nI_clamp (by omega)]; rfl) d_M_doAct_12 ?_
  rw [hk]
  refine lv_tableIn (off := 73) (tgt := 86) hx hb d_M_doAct_13 (by decide +kernel) (by decide +kernel) (by decide +kernel) (by decide) ?_
  refine lv_aload_n hx hb d_M_doAct_86 rfl (lv_at hl 1 rfl) ?_
  refine lv_iload_n hx hb d_M_doAct_87 rfl (lv_at hl 2 rfl) ?_
  refine lv_iload_n hx hb d_M_doAct_88 rfl (lv_at hl 3 rfl) ?_
  refine lv_iconst (v := (nI 0)) hx hb d_M_doAct_89 (by decide) ?_
  refine lv_aload_n hx hb d_M_doAct_90 rfl (lv_at hl 1 rfl) ?_
  refine lv_iload_n hx hb d_M_doAct_91 rfl (lv_at hl 2 rfl) ?_
  refine lv_iload_n hx hb d_M_doAct_92 rfl (lv_at hl 3 rfl) ?_
  refine lv_iconst (v := (nI 0)) hx hb d_M_doAct_93 (by decide) ?_
  refine yc_i (va_runV (As := [.int _, .int _, .int _]) (rest := [.int _, .int _, .int _, .ref _]) ⟨hx, hb, hml, hown, hts⟩ (c_M_take l D cc ad X b0 _ μ y i 0 hy hn hi (by omega) c0 e0 hp0) (cwV 3 hts (yg_call mc_M_take ml_M_85 mm_M_take ms_M_take mi_M) rfl rfl rfl (by decide +kernel) ⟨Nat.le_of_ble_eq_true rfl, Nat.le_of_ble_eq_true rfl⟩) (y_preV hI hw (y_recv hK.1 hw mL_o (by rfl) rfl)) rfl rfl hl.1 rfl (lv_room (Nat.le_of_ble_eq_true rfl)) d_M_doAct_94 ⟨Nat.le_of_ble_eq_true rfl, Nat.le_of_ble_eq_true rfl⟩) hw hA (fun r u H locs he hw => ?_)
  subst he
  refine lv_aload_n hx hb d_M_doAct_97 rfl (lv_at hl 1 rfl) ?_
  refine yr_get (C := R_M) (T := F_M) (N := 16) (ci := k_M) hx hb ht j_M hown hK.1 hw mL_o (by rfl) rfl 2 (by decide) (ht _ mf_M_13) (fun _ h9 => h9) (by rfl) d_M_doAct_98 ?_
  refine lv_iload_n hx hb d_M_doAct_101 rfl (lv_at hl 3 rfl) ?_
  refine yr_iald (v := m_a μ i) hx hb hK.1 hw mL_1 (by rfl) 0 rfl (vp_in_nI (N := 10) (by omega) (by omega)) (by rw [nI_clamp (by omega)]; rfl) d_M_doAct_102 ?_
  refine lv_imul hx hb d_M_doAct_103 ?_
  refine lv_aload_n hx hb d_M_doAct_104 rfl (lv_at hl 1 rfl) ?_
  refine yr_get (C := R_M) (T := F_M) (N := 16) (ci := k_M) hx hb ht j_M hown hK.1 hw mL_o (by rfl) rfl 3 (by decide) (ht _ mf_M_16) (fun _ h9 => h9) (by rfl) d_M_doAct_105 ?_
  refine lv_iload_n hx hb d_M_doAct_108 rfl (lv_at hl 3 rfl) ?_
  refine yr_iald (v := m_b μ i) hx hb hK.1 hw mL_2 (by rfl) 0 rfl (vp_in_nI (N := 10) (by omega) (by omega)) (by rw [nI_clamp (by omega)]; rfl) d_M_doAct_109 ?_
  refine lv_iadd hx hb d_M_doAct_110 ?_
  refine yc_v (va_runV (As := [.int _, .int _, .int _, .int _]) (rest := []) ⟨hx, hb, hml, hown, hts⟩ (c_M_give l D cc ad X b0 _ (mo_take μ y c0) y i 0 hy hn hi1 (by omega) _ hrm) (cwV 4 hts (yg_call mc_M_give ml_M_81 mm_M_give ms_M_give mi_M) rfl rfl rfl (by decide +kernel) ⟨Nat.le_of_ble_eq_true rfl, Nat.le_of_ble_eq_true rfl⟩) (y_preV hI hw (y_recv hK.1 hw mL_o (by rfl) rfl)) rfl rfl hl.1 rfl (lv_room (Nat.le_of_ble_eq_true rfl)) d_M_doAct_111 ⟨Nat.le_of_ble_eq_true rfl, Nat.le_of_ble_eq_true rfl⟩) hw hA (fun u H locs he hw => ?_)
  refine lv_goto (tgt := 353) hx hb d_M_doAct_114 (by decide) ?_
  obtain ⟨μ1, hw, hq⟩ : ∃ z, yH D ycl (va_A (mW cc ad X μ) sz) sv.heap H locs (mW cc ad X z) ∧ mQ μ y i (true, false, some ((m_vs μ (128 * y + 8 * c0)) * m_a μ i + m_b μ i), none, none) z := ⟨_, hw, mQ_mk (xt.tr (mX_give hi1 hrm)) (mI_give hi1 hrm) (by rw [mD_give hi1 hrm, mD_take hi hp0, yq_gv_n, yq_tk_f, e0]; rfl) (mio_t mgive_io)⟩
  obtain ⟨q1, q2, q3, q4, q5, q6⟩ := id hq
  have w1 : m_ac μ1 y i = m_ac μ y i := by rw [q4]
  have w2 : m_tn μ1 y i = m_tn μ y i := by rw [q5]
  refine lv_aload_n hx hb d_M_doAct_353 rfl (lv_at hl 1 rfl) ?_
  refine yr_get (C := R_M) (T := F_M) (N := 16) (ci := k_M) hx hb ht j_M hown hK.1 hw mL_o (by rfl) rfl 10 (by decide) (ht _ mf_M_34) (fun _ h9 => h9) (by rfl) d_M_doAct_354 ?_
  refine lv_iload_n hx hb d_M_doAct_357 rfl (lv_at hl 0 rfl) ?_
  refine lv_dup2_11 hx hb d_M_doAct_358 rfl rfl ?_
  refine yr_iald (v := nI (m_ac μ y i)) hx hb hK.1 hw mL_8 (by rfl) 0 rfl (vp_in_nI (N := 20) (by omega) (by omega)) (by rw [nI_clamp (by omega)]; show nI (m_ac μ1 ((10 * y + i) / 10) ((10 * y + i) % 10)) = _; rw [at_flat (f := m_ac μ1) (show i < 10 by omega), w1]) d_M_doAct_359 ?_
  refine lv_iconst (v := (nI 1)) hx hb d_M_doAct_360 (by decide) ?_
  refine lv_iadd hx hb d_M_doAct_361 ?_
  rw [nI_add]
  refine yr_iast hx hb hK.1 hw mL_8 (by rfl) 0 rfl (vp_in_nI (N := 20) (by omega) (by omega)) d_M_doAct_362 (fun H locs hw => ?_)
  rw [nI_clamp (by omega)] at hw
  have hw := mw_ac (up2 (m_ac μ1) y i (m_ac μ y i + 1)) hw (by rw [← upd_flat (show i < 10 by omega)]; rfl)
  have htn0 := mtn0 hq (show ¬ (m_kd μ i = 2 ∨ m_kd μ i = 3) by omega) a7
  exact ye_v hI (mx_ac μ1 (up2 (m_ac μ1) y i (m_ac μ y i + 1))) (mStp_mk hi hn hpl hq (by omega) rfl ⟨rfl, rfl, rfl, rfl, rfl, rfl, rfl, rfl, rfl, rfl⟩ (fun _ _ => rfl) htn0 rfl rfl rfl rfl) hw d_M_doAct_363
set_option maxHeartbeats 4000000 in
set_option maxRecDepth 100000 in
theorem c_M_doAct_2 (l : Launch) (D : va_G) (cc : ClassId × ClassId × ClassId) (ad : yl → Nat) (X : va_W) (b0 sz : Nat) (μ : ms) (y i : Nat) (hy : y < 2) (hn : i < m_n μ) (hi : mI μ y) (hk : m_kd μ i = 2) (hcan : yp_canb (m_T μ) (m_D μ y) i = true) : Met l y_M_doAct w_M_doAct ({ frames := 1, cells := 0, slots := 0, locals := 27 }) (yPr D cc b0 [.ref (ad (20, 0, 0)), .int (nI y), .int (nI i)] (mW cc ad X μ) sz) (va_Qv (fun μ' : ms => mStp μ y i μ') (yB D ycl (mW cc ad X μ) sz (fun μ' => mW cc ad X μ')) (va_A (mW cc ad X μ) sz)) 0 0 (va_A (mW cc ad X μ) sz) := by
  have hn10 := hi.1
  have hc16 := hi.2.1
  obtain ⟨a1, a2, a3, a4, a5, a6, a7⟩ := hi.2.2.2.2.1 i
  refine y_ofW (cc := b_M_doAct) (maxL := 7) (ret := none) (by decide) rfl (Nat.le_of_ble_eq_true rfl) ?_
  intro pv ev sv mv bv tv cv ls hI hsz hw hl
  obtain ⟨hx, hb, hr, hml, hts, hown, hlocks, hnm, hK, hAb, hb0, hA⟩ := id hI
  have ht : ∀ w ∈ lg_tbl, w.before _ sv = true := fun w h => hts w (List.mem_cons_of_mem _ h)
  have hl : lv_has ls 7 [(0, .ref (ad (20, 0, 0))), (1, .int (nI y)), (2, .int (nI i))] := hl
  have h100 : ¬ 100 ≤ (m_D μ y).1 i := Nat.not_le.mpr (yp_can_lt hcan)
  have h99 : m_ac μ y i < 100 := yp_can_lt hcan
  rw [yp_can2 (T := m_T μ) h100 hk] at hcan
  obtain ⟨q1, q2⟩ := (Bool.and_eq_true _ _).mp hcan
  have htn : m_tn μ y i = m_ac μ y i % 2 := by rw [a7, if_pos (Or.inl hk)]
  obtain ⟨c0, e0, hp0⟩ := mh_inv q1
  have hi1 := mI_take hi hp0
  have hc0 := mc_lt hi hp0
  have hb0 := hi.2.2.2.2.2.1 c0 hc0
  have xt := mX_take (μ := μ) (y := y) (c := c0) (by omega) (by omega)
  have hrm : mrm (mo_take μ y c0) y i (m_ac μ y i % 2) := mrm_take (c := c0) (mrm_of hi q2)
  have hpl := ypl2 (T := m_T μ) h100 hk (mh_head e0 hp0)
  refine lv_bipush (v := (nI 10)) hx hb d_M_doAct_0 (by decide) ?_
  refine lv_iload_n hx hb d_M_doAct_2 rfl (lv_at hl 1 rfl) ?_
  refine lv_imul hx hb d_M_doAct_3 ?_
  rw [pk_mul]
  refine lv_iload_n hx hb d_M_doAct_4 rfl (lv_at hl 2 rfl) ?_
  refine lv_iadd hx hb d_M_doAct_5 ?_
  rw [nI_add]
  refine lv_istore_n (lv' := [(3, .int _), (0, .ref _), (1, .int _), (2, .int _)]) hx hb d_M_doAct_6 rfl hl (by decide) rfl (fun ls hl => ?_)
  refine lv_aload_n hx hb d_M_doAct_7 rfl (lv_at hl 1 rfl) ?_
  refine yr_get (C := R_M) (T := F_M) (N := 16) (ci := k_M) hx hb ht j_M hown hK.1 hw mL_o (by rfl) rfl 1 (by decide) (ht _ mf_M_7) (fun _ h9 => h9) (by rfl) d_M_doAct_8 ?_
  refine lv_iload_n hx hb d_M_doAct_11 rfl (lv_at hl 3 rfl) ?_
  refine yr_iald (v := nI (m_kd μ i)) hx hb hK.1 hw mL_0 (by rfl) 0 rfl (vp_in_nI (N := 10) (by omega) (by omega)) (by rw [nI_clamp (by omega)]; rfl) d_M_doAct_12 ?_
  rw [hk]
  refine lv_tableIn (off := 104) (tgt := 117) hx hb d_M_doAct_13 (by decide +kernel) (by decide +kernel) (by decide +kernel) (by decide) ?_
  refine lv_aload_n hx hb d_M_doAct_117 rfl (lv_at hl 1 rfl) ?_
  refine lv_iload_n hx hb d_M_doAct_118 rfl (lv_at hl 2 rfl) ?_
  refine lv_iload_n hx hb d_M_doAct_119 rfl (lv_at hl 3 rfl) ?_
  refine lv_aload_n hx hb d_M_doAct_120 rfl (lv_at hl 1 rfl) ?_
  refine yr_get (C := R_M) (T := F_M) (N := 16) (ci := k_M) hx hb ht j_M hown hK.1 hw mL_o (by rfl) rfl 11 (by decide) (ht _ mf_M_37) (fun _ h9 => h9) (by rfl) d_M_doAct_121 ?_
  refine lv_iload_n hx hb d_M_doAct_124 rfl (lv_at hl 0 rfl) ?_
  refine yr_iald (v := nI (m_ac μ y i % 2)) hx hb hK.1 hw mL_9 (by rfl) 0 rfl (vp_in_nI (N := 20) (by omega) (by omega)) (by rw [nI_clamp (by omega)]; show nI (m_tn μ ((10 * y + i) / 10) ((10 * y + i) % 10)) = _; rw [at_flat (f := m_tn μ) (show i < 10 by omega), htn]) d_M_doAct_125 ?_
  refine lv_aload_n hx hb d_M_doAct_126 rfl (lv_at hl 1 rfl) ?_
  refine lv_iload_n hx hb d_M_doAct_127 rfl (lv_at hl 2 rfl) ?_
  refine lv_iload_n hx hb d_M_doAct_128 rfl (lv_at hl 3 rfl) ?_
  refine lv_iconst (v := (nI 0)) hx hb d_M_doAct_129 (by decide) ?_
  refine yc_i (va_runV (As := [.int _, .int _, .int _]) (rest := [.int _, .int _, .int _, .ref _]) ⟨hx, hb, hml, hown, hts⟩ (c_M_take l D cc ad X b0 _ μ y i 0 hy hn hi (by omega) c0 e0 hp0) (cwV 3 hts (yg_call mc_M_take ml_M_85 mm_M_take ms_M_take mi_M) rfl rfl rfl (by decide +kernel) ⟨Nat.le_of_ble_eq_true rfl, Nat.le_of_ble_eq_true rfl⟩) (y_preV hI hw (y_recv hK.1 hw mL_o (by rfl) rfl)) rfl rfl hl.1 rfl (lv_room (Nat.le_of_ble_eq_true rfl)) d_M_doAct_130 ⟨Nat.le_of_ble_eq_true rfl, Nat.le_of_ble_eq_true rfl⟩) hw hA (fun r u H locs he hw => ?_)
  subst he
  refine yc_v (va_runV (As := [.int _, .int _, .int _, .int _]) (rest := []) ⟨hx, hb, hml, hown, hts⟩ (c_M_give l D cc ad X b0 _ (mo_take μ y c0) y i (m_ac μ y i % 2) hy hn hi1 (Nat.mod_lt _ (by omega)) _ hrm) (cwV 4 hts (yg_call mc_M_give ml_M_81 mm_M_give ms_M_give mi_M) rfl rfl rfl (by decide +kernel) ⟨Nat.le_of_ble_eq_true rfl, Nat.le_of_ble_eq_true rfl⟩) (y_preV hI hw (y_recv hK.1 hw mL_o (by rfl) rfl)) rfl rfl hl.1 rfl (lv_room (Nat.le_of_ble_eq_true rfl)) d_M_doAct_133 ⟨Nat.le_of_ble_eq_true rfl, Nat.le_of_ble_eq_true rfl⟩) hw hA (fun u H locs he hw => ?_)
  obtain ⟨μ1, hw, hq⟩ : ∃ z, yH D ycl (va_A (mW cc ad X μ) sz) sv.heap H locs (mW cc ad X z) ∧ mQ μ y i (if (m_D μ y).1 i % 2 = 0 then (true, false, some (m_vs μ (128 * y + 8 * c0)), none, none) else (true, false, none, some (m_vs μ (128 * y + 8 * c0)), none)) z := ⟨_, hw, mQ_mk (xt.tr (mX_give hi1 hrm)) (mI_give hi1 hrm) (by rw [mD_give hi1 hrm, mD_take hi hp0]; exact m2_fin e0 ((m_D μ y).1, (m_D μ y).2.1)) (mio_t mgive_io)⟩
  obtain ⟨q1, q2, q3, q4, q5, q6⟩ := id hq
  have w1 : m_ac μ1 y i = m_ac μ y i := by rw [q4]
  have w2 : m_tn μ1 y i = m_tn μ y i := by rw [q5]
  refine lv_aload_n hx hb d_M_doAct_136 rfl (lv_at hl 1 rfl) ?_
  refine yr_get (C := R_M) (T := F_M) (N := 16) (ci := k_M) hx hb ht j_M hown hK.1 hw mL_o (by rfl) rfl 11 (by decide) (ht _ mf_M_37) (fun _ h9 => h9) (by rfl) d_M_doAct_137 ?_
  refine lv_iload_n hx hb d_M_doAct_140 rfl (lv_at hl 0 rfl) ?_
  refine lv_iconst (v := (nI 1)) hx hb d_M_doAct_141 (by decide) ?_
  refine lv_aload_n hx hb d_M_doAct_142 rfl (lv_at hl 1 rfl) ?_
  refine yr_get (C := R_M) (T := F_M) (N := 16) (ci := k_M) hx hb ht j_M hown hK.1 hw mL_o (by rfl) rfl 11 (by decide) (ht _ mf_M_37) (fun _ h9 => h9) (by rfl) d_M_doAct_143 ?_
  refine lv_iload_n hx hb d_M_doAct_146 rfl (lv_at hl 0 rfl) ?_
  refine yr_iald (v := nI (m_ac μ y i % 2)) hx hb hK.1 hw mL_9 (by rfl) 0 rfl (vp_in_nI (N := 20) (by omega) (by omega)) (by rw [nI_clamp (by omega)]; show nI (m_tn μ1 ((10 * y + i) / 10) ((10 * y + i) % 10)) = _; rw [at_flat (f := m_tn μ1) (show i < 10 by omega), w2, htn]) d_M_doAct_147 ?_
  refine lv_isub hx hb d_M_doAct_148 ?_
  rw [pk_sub (by omega), mflip]
  refine yr_iast hx hb hK.1 hw mL_9 (by rfl) 0 rfl (vp_in_nI (N := 20) (by omega) (by omega)) d_M_doAct_149 (fun H locs hw => ?_)
  rw [nI_clamp (by omega)] at hw
  have hw := mw_tn (up2 (m_tn μ1) y i ((m_ac μ y i + 1) % 2)) hw (by rw [← upd_flat (show i < 10 by omega)]; rfl)
  refine lv_goto (tgt := 353) hx hb d_M_doAct_150 (by decide) ?_
  refine lv_aload_n hx hb d_M_doAct_353 rfl (lv_at hl 1 rfl) ?_
  refine yr_get (C := R_M) (T := F_M) (N := 16) (ci := k_M) hx hb ht j_M hown hK.1 hw mL_o (by rfl) rfl 10 (by decide) (ht _ mf_M_34) (fun _ h9 => h9) (by rfl) d_M_doAct_354 ?_
  refine lv_iload_n hx hb d_M_doAct_357 rfl (lv_at hl 0 rfl) ?_
  refine lv_dup2_11 hx hb d_M_doAct_358 rfl rfl ?_
  refine yr_iald (v := nI (m_ac μ y i)) hx hb hK.1 hw mL_8 (by rfl) 0 rfl (vp_in_nI (N := 20) (by omega) (by omega)) (by rw [nI_clamp (by omega)]; show nI (m_ac μ1 ((10 * y + i) / 10) ((10 * y + i) % 10)) = _; rw [at_flat (f := m_ac μ1) (show i < 10 by omega), w1]) d_M_doAct_359 ?_
  refine lv_iconst (v := (nI 1)) hx hb d_M_doAct_360 (by decide) ?_
  refine lv_iadd hx hb d_M_doAct_361 ?_
  rw [nI_add]
  refine yr_iast hx hb hK.1 hw mL_8 (by rfl) 0 rfl (vp_in_nI (N := 20) (by omega) (by omega)) d_M_doAct_362 (fun H locs hw => ?_)
  rw [nI_clamp (by omega)] at hw
  have hw := mw_ac (up2 (m_ac μ1) y i (m_ac μ y i + 1)) hw (by rw [← upd_flat (show i < 10 by omega)]; rfl)
  exact ye_v hI (mx_ac (mx_tn μ1 (up2 (m_tn μ1) y i ((m_ac μ y i + 1) % 2))) (up2 (m_ac μ1) y i (m_ac μ y i + 1))) (mStp_mk hi hn hpl hq (by omega) (by first | rfl | (rcases Nat.mod_two_eq_zero_or_one ((m_D μ y).1 i) with e | e <;> rw [e] <;> rfl)) ⟨rfl, rfl, rfl, rfl, rfl, rfl, rfl, rfl, rfl, rfl⟩ (fun _ _ => rfl) (mtn2 (Or.inl hk)) rfl rfl rfl rfl) hw d_M_doAct_363
set_option maxHeartbeats 4000000 in
set_option maxRecDepth 100000 in
theorem c_M_doAct_3 (l : Launch) (D : va_G) (cc : ClassId × ClassId × ClassId) (ad : yl → Nat) (X : va_W) (b0 sz : Nat) (μ : ms) (y i : Nat) (hy : y < 2) (hn : i < m_n μ) (hi : mI μ y) (hk : m_kd μ i = 3) (hcan : yp_canb (m_T μ) (m_D μ y) i = true) : Met l y_M_doAct w_M_doAct ({ frames := 1, cells := 0, slots := 0, locals := 27 }) (yPr D cc b0 [.ref (ad (20, 0, 0)), .int (nI y), .int (nI i)] (mW cc ad X μ) sz) (va_Qv (fun μ' : ms => mStp μ y i μ') (yB D ycl (mW cc ad X μ) sz (fun μ' => mW cc ad X μ')) (va_A (mW cc ad X μ) sz)) 0 0 (va_A (mW cc ad X μ) sz) := by
  have hn10 := hi.1
  have hc16 := hi.2.1
  obtain ⟨a1, a2, a3, a4, a5, a6, a7⟩ := hi.2.2.2.2.1 i
  refine y_ofW (cc := b_M_doAct) (maxL := 7) (ret := none) (by decide) rfl (Nat.le_of_ble_eq_true rfl) ?_
  intro pv ev sv mv bv tv cv ls hI hsz hw hl
  obtain ⟨hx, hb, hr, hml, hts, hown, hlocks, hnm, hK, hAb, hb0, hA⟩ := id hI
  have ht : ∀ w ∈ lg_tbl, w.before _ sv = true := fun w h => hts w (List.mem_cons_of_mem _ h)
  have hl : lv_has ls 7 [(0, .ref (ad (20, 0, 0))), (1, .int (nI y)), (2, .int (nI i))] := hl
  have h100 : ¬ 100 ≤ (m_D μ y).1 i := Nat.not_le.mpr (yp_can_lt hcan)
  have h99 : m_ac μ y i < 100 := yp_can_lt hcan
  rw [yp_can3 (T := m_T μ) h100 hk] at hcan
  obtain ⟨q1, q2⟩ := (Bool.and_eq_true _ _).mp hcan
  have htn : m_tn μ y i = m_ac μ y i % 2 := by rw [a7, if_pos (Or.inr hk)]
  obtain ⟨c0, e0, hp0⟩ := mh_inv (j := m_ac μ y i % 2) q1
  have hi1 := mI_take hi hp0
  have hc0 := mc_lt hi hp0
  have hb0 := hi.2.2.2.2.2.1 c0 hc0
  have xt := mX_take (μ := μ) (y := y) (c := c0) (by omega) (by omega)
  have hrm := mrm_take (c := c0) (mrm_of hi q2)
  obtain ⟨pp, hpl, hkp, hseq⟩ := m3_fin h100 hk e0 hp0
  refine lv_bipush (v := (nI 10)) hx hb d_M_doAct_0 (by decide) ?_
  refine lv_iload_n hx hb d_M_doAct_2 rfl (lv_at hl 1 rfl) ?_
  refine lv_imul hx hb d_M_doAct_3 ?_
  rw [pk_mul]
  refine lv_iload_n hx hb d_M_doAct_4 rfl (lv_at hl 2 rfl) ?_
  refine lv_iadd hx hb d_M_doAct_5 ?_
  rw [nI_add]
  refine lv_istore_n (lv' := [(3, .int _), (0, .ref _), (1, .int _), (2, .int _)]) hx hb d_M_doAct_6 rfl hl (by decide) rfl (fun ls hl => ?_)
  refine lv_aload_n hx hb d_M_doAct_7 rfl (lv_at hl 1 rfl) ?_
  refine yr_get (C := R_M) (T := F_M) (N := 16) (ci := k_M) hx hb ht j_M hown hK.1 hw mL_o (by rfl) rfl 1 (by decide) (ht _ mf_M_7) (fun _ h9 => h9) (by rfl) d_M_doAct_8 ?_
  refine lv_iload_n hx hb d_M_doAct_11 rfl (lv_at hl 3 rfl) ?_
  refine yr_iald (v := nI (m_kd μ i)) hx hb hK.1 hw mL_0 (by rfl) 0 rfl (vp_in_nI (N := 10) (by omega) (by omega)) (by rw [nI_clamp (by omega)]; rfl) d_M_doAct_12 ?_
  rw [hk]
  refine lv_tableIn (off := 140) (tgt := 153) hx hb d_M_doAct_13 (by decide +kernel) (by decide +kernel) (by decide +kernel) (by decide) ?_
  refine lv_aload_n hx hb d_M_doAct_153 rfl (lv_at hl 1 rfl) ?_
  refine lv_iload_n hx hb d_M_doAct_154 rfl (lv_at hl 2 rfl) ?_
  refine lv_iload_n hx hb d_M_doAct_155 rfl (lv_at hl 3 rfl) ?_
  refine lv_iconst (v := (nI 0)) hx hb d_M_doAct_156 (by decide) ?_
  refine lv_aload_n hx hb d_M_doAct_157 rfl (lv_at hl 1 rfl) ?_
  refine lv_iload_n hx hb d_M_doAct_158 rfl (lv_at hl 2 rfl) ?_
  refine lv_iload_n hx hb d_M_doAct_159 rfl (lv_at hl 3 rfl) ?_
  refine lv_aload_n hx hb d_M_doAct_160 rfl (lv_at hl 1 rfl) ?_
  refine yr_get (C := R_M) (T := F_M) (N := 16) (ci := k_M) hx hb ht j_M hown hK.1 hw mL_o (by rfl) rfl 11 (by decide) (ht _ mf_M_37) (fun _ h9 => h9) (by rfl) d_M_doAct_161 ?_
  refine lv_iload_n hx hb d_M_doAct_164 rfl (lv_at hl 0 rfl) ?_
  refine yr_iald (v := nI (m_ac μ y i % 2)) hx hb hK.1 hw mL_9 (by rfl) 0 rfl (vp_in_nI (N := 20) (by omega) (by omega)) (by rw [nI_clamp (by omega)]; show nI (m_tn μ ((10 * y + i) / 10) ((10 * y + i) % 10)) = _; rw [at_flat (f := m_tn μ) (show i < 10 by omega), htn]) d_M_doAct_165 ?_
  refine yc_i (va_runV (As := [.int _, .int _, .int _]) (rest := [.int _, .int _, .int _, .ref _]) ⟨hx, hb, hml, hown, hts⟩ (c_M_take l D cc ad X b0 _ μ y i (m_ac μ y i % 2) hy hn hi (Nat.mod_lt _ (by omega)) c0 e0 hp0) (cwV 3 hts (yg_call mc_M_take ml_M_85 mm_M_take ms_M_take mi_M) rfl rfl rfl (by decide +kernel) ⟨Nat.le_of_ble_eq_true rfl, Nat.le_of_ble_eq_true rfl⟩) (y_preV hI hw (y_recv hK.1 hw mL_o (by rfl) rfl)) rfl rfl hl.1 rfl (lv_room (Nat.le_of_ble_eq_true rfl)) d_M_doAct_166 ⟨Nat.le_of_ble_eq_true rfl, Nat.le_of_ble_eq_true rfl⟩) hw hA (fun r u H locs he hw => ?_)
  subst he
  refine yc_v (va_runV (As := [.int _, .int _, .int _, .int _]) (rest := []) ⟨hx, hb, hml, hown, hts⟩ (c_M_give l D cc ad X b0 _ (mo_take μ y c0) y i 0 hy hn hi1 (by omega) _ hrm) (cwV 4 hts (yg_call mc_M_give ml_M_81 mm_M_give ms_M_give mi_M) rfl rfl rfl (by decide +kernel) ⟨Nat.le_of_ble_eq_true rfl, Nat.le_of_ble_eq_true rfl⟩) (y_preV hI hw (y_recv hK.1 hw mL_o (by rfl) rfl)) rfl rfl hl.1 rfl (lv_room (Nat.le_of_ble_eq_true rfl)) d_M_doAct_169 ⟨Nat.le_of_ble_eq_true rfl, Nat.le_of_ble_eq_true rfl⟩) hw hA (fun u H locs he hw => ?_)
  obtain ⟨μ1, hw, hq⟩ : ∃ z, yH D ycl (va_A (mW cc ad X μ) sz) sv.heap H locs (mW cc ad X z) ∧ mQ μ y i pp z := ⟨_, hw, mQ_mk (xt.tr (mX_give hi1 hrm)) (mI_give hi1 hrm) (by rw [mD_give hi1 hrm, mD_take hi hp0]; exact hseq.symm) (mio_t mgive_io)⟩
  obtain ⟨q1, q2, q3, q4, q5, q6⟩ := id hq
  have w1 : m_ac μ1 y i = m_ac μ y i := by rw [q4]
  have w2 : m_tn μ1 y i = m_tn μ y i := by rw [q5]
  refine lv_aload_n hx hb d_M_doAct_172 rfl (lv_at hl 1 rfl) ?_
  refine yr_get (C := R_M) (T := F_M) (N := 16) (ci := k_M) hx hb ht j_M hown hK.1 hw mL_o (by rfl) rfl 11 (by decide) (ht _ mf_M_37) (fun _ h9 => h9) (by rfl) d_M_doAct_173 ?_
  refine lv_iload_n hx hb d_M_doAct_176 rfl (lv_at hl 0 rfl) ?_
  refine lv_iconst (v := (nI 1)) hx hb d_M_doAct_177 (by decide) ?_
  refine lv_aload_n hx hb d_M_doAct_178 rfl (lv_at hl 1 rfl) ?_
  refine yr_get (C := R_M) (T := F_M) (N := 16) (ci := k_M) hx hb ht j_M hown hK.1 hw mL_o (by rfl) rfl 11 (by decide) (ht _ mf_M_37) (fun _ h9 => h9) (by rfl) d_M_doAct_179 ?_
  refine lv_iload_n hx hb d_M_doAct_182 rfl (lv_at hl 0 rfl) ?_
  refine yr_iald (v := nI (m_ac μ y i % 2)) hx hb hK.1 hw mL_9 (by rfl) 0 rfl (vp_in_nI (N := 20) (by omega) (by omega)) (by rw [nI_clamp (by omega)]; show nI (m_tn μ1 ((10 * y + i) / 10) ((10 * y + i) % 10)) = _; rw [at_flat (f := m_tn μ1) (show i < 10 by omega), w2, htn]) d_M_doAct_183 ?_
  refine lv_isub hx hb d_M_doAct_184 ?_
  rw [pk_sub (by omega), mflip]
  refine yr_iast hx hb hK.1 hw mL_9 (by rfl) 0 rfl (vp_in_nI (N := 20) (by omega) (by omega)) d_M_doAct_185 (fun H locs hw => ?_)
  rw [nI_clamp (by omega)] at hw
  have hw := mw_tn (up2 (m_tn μ1) y i ((m_ac μ y i + 1) % 2)) hw (by rw [← upd_flat (show i < 10 by omega)]; rfl)
  refine lv_goto (tgt := 353) hx hb d_M_doAct_186 (by decide) ?_
  refine lv_aload_n hx hb d_M_doAct_353 rfl (lv_at hl 1 rfl) ?_
  refine yr_get (C := R_M) (T := F_M) (N := 16) (ci := k_M) hx hb ht j_M hown hK.1 hw mL_o (by rfl) rfl 10 (by decide) (ht _ mf_M_34) (fun _ h9 => h9) (by rfl) d_M_doAct_354 ?_
  refine lv_iload_n hx hb d_M_doAct_357 rfl (lv_at hl 0 rfl) ?_
  refine lv_dup2_11 hx hb d_M_doAct_358 rfl rfl ?_
  refine yr_iald (v := nI (m_ac μ y i)) hx hb hK.1 hw mL_8 (by rfl) 0 rfl (vp_in_nI (N := 20) (by omega) (by omega)) (by rw [nI_clamp (by omega)]; show nI (m_ac μ1 ((10 * y + i) / 10) ((10 * y + i) % 10)) = _; rw [at_flat (f := m_ac μ1) (show i < 10 by omega), w1]) d_M_doAct_359 ?_
  refine lv_iconst (v := (nI 1)) hx hb d_M_doAct_360 (by decide) ?_
  refine lv_iadd hx hb d_M_doAct_361 ?_
  rw [nI_add]
  refine yr_iast hx hb hK.1 hw mL_8 (by rfl) 0 rfl (vp_in_nI (N := 20) (by omega) (by omega)) d_M_doAct_362 (fun H locs hw => ?_)
  rw [nI_clamp (by omega)] at hw
  have hw := mw_ac (up2 (m_ac μ1) y i (m_ac μ y i + 1)) hw (by rw [← upd_flat (show i < 10 by omega)]; rfl)
  exact ye_v hI (mx_ac (mx_tn μ1 (up2 (m_tn μ1) y i ((m_ac μ y i + 1) % 2))) (up2 (m_ac μ1) y i (m_ac μ y i + 1))) (mStp_mk hi hn hpl hq (by omega) hkp ⟨rfl, rfl, rfl, rfl, rfl, rfl, rfl, rfl, rfl, rfl⟩ (fun _ _ => rfl) (mtn2 (Or.inr hk)) rfl rfl rfl rfl) hw d_M_doAct_363
set_option maxHeartbeats 4000000 in
set_option maxRecDepth 100000 in
theorem c_M_doAct_4 (l : Launch) (D : va_G) (cc : ClassId × ClassId × ClassId) (ad : yl → Nat) (X : va_W) (b0 sz : Nat) (μ : ms) (y i : Nat) (hy : y < 2) (hn : i < m_n μ) (hi : mI μ y) (hk : m_kd μ i = 4) (hcan : yp_canb (m_T μ) (m_D μ y) i = true) : Met l y_M_doAct w_M_doAct ({ frames := 1, cells := 0, slots := 0, locals := 27 }) (yPr D cc b0 [.ref (ad (20, 0, 0)), .int (nI y), .int (nI i)] (mW cc ad X μ) sz) (va_Qv (fun μ' : ms => mStp μ y i μ') (yB D ycl (mW cc ad X μ) sz (fun μ' => mW cc ad X μ')) (va_A (mW cc ad X μ) sz)) 0 0 (va_A (mW cc ad X μ) sz) := by
  have hn10 := hi.1
  have hc16 := hi.2.1
  obtain ⟨a1, a2, a3, a4, a5, a6, a7⟩ := hi.2.2.2.2.1 i
  refine y_ofW (cc := b_M_doAct) (maxL := 7) (ret := none) (by decide) rfl (Nat.le_of_ble_eq_true rfl) ?_
  intro pv ev sv mv bv tv cv ls hI hsz hw hl
  obtain ⟨hx, hb, hr, hml, hts, hown, hlocks, hnm, hK, hAb, hb0, hA⟩ := id hI
  have ht : ∀ w ∈ lg_tbl, w.before _ sv = true := fun w h => hts w (List.mem_cons_of_mem _ h)
  have hl : lv_has ls 7 [(0, .ref (ad (20, 0, 0))), (1, .int (nI y)), (2, .int (nI i))] := hl
  have h100 : ¬ 100 ≤ (m_D μ y).1 i := Nat.not_le.mpr (yp_can_lt hcan)
  have h99 : m_ac μ y i < 100 := yp_can_lt hcan
  rw [yp_can4 (T := m_T μ) h100 hk] at hcan
  obtain ⟨q0, q2⟩ := (Bool.and_eq_true _ _).mp hcan
  obtain ⟨q1, q3⟩ := (Bool.and_eq_true _ _).mp q0
  obtain ⟨c0, e0, hp0⟩ := mh_inv q1
  have hi1 := mI_take hi hp0
  have hc0 := mc_lt hi hp0
  have hb0 := hi.2.2.2.2.2.1 c0 hc0
  have xt := mX_take (μ := μ) (y := y) (c := c0) (by omega) (by omega)
  obtain ⟨c1, e1, hp1⟩ := mh_inv q3
  obtain ⟨hc1, hv1⟩ := mhv_take hi (show 0 ≠ 1 by omega) e0 e1
  have hp1t : 0 < m_ct (mo_take μ y c0) y c1 := by rw [hc1]; exact hp1
  have hi2 := mI_take hi1 hp1t
  have hb1 := hi.2.2.2.2.2.1 c1 (mc_lt hi hp1)
  have hk1 := mc_lt hi hp1
  have hv10 : m_vs (mo_take μ y c0) (128 * y + 8 * c1) = m_vs μ (128 * y + 8 * c1) := hv1 0 (by omega) (by omega) (by omega)
  have xt2 := xt.tr (mX_take (μ := mo_take μ y c0) (y := y) (c := c1) (by omega) (by rw [hc1]; omega))
  have hrm := mrm_take (c := c1) (mrm_take (c := c0) (mrm_of hi q2))
  have hpl := ypl4 (T := m_T μ) h100 hk (mh_head e0 hp0) (mh_head e1 hp1)
  refine lv_bipush (v := (nI 10)) hx hb d_M_doAct_0 (by decide) ?_
  refine lv_iload_n hx hb d_M_doAct_2 rfl (lv_at hl 1 rfl) ?_
  refine lv_imul hx hb d_M_doAct_3 ?_
  rw [pk_mul]
  refine lv_iload_n hx hb d_M_doAct_4 rfl (lv_at hl 2 rfl) ?_
  refine lv_iadd hx hb d_M_doAct_5 ?_
  rw [nI_add]
  refine lv_istore_n (lv' := [(3, .int _), (0, .ref _), (1, .int _), (2, .int _)]) hx hb d_M_doAct_6 rfl hl (by decide) rfl (fun ls hl => ?_)
  refine lv_aload_n hx hb d_M_doAct_7 rfl (lv_at hl 1 rfl) ?_
  refine yr_get (C := R_M) (T := F_M) (N := 16) (ci := k_M) hx hb ht j_M hown hK.1 hw mL_o (by rfl) rfl 1 (by decide) (ht _ mf_M_7) (fun _ h9 => h9) (by rfl) d_M_doAct_8 ?_
  refine lv_iload_n hx hb d_M_doAct_11 rfl (lv_at hl 3 rfl) ?_
  refine yr_iald (v := nI (m_kd μ i)) hx hb hK.1 hw mL_0 (by rfl) 0 rfl (vp_in_nI (N := 10) (by omega) (by omega)) (by rw [nI_clamp (by omega)]; rfl) d_M_doAct_12 ?_
  rw [hk]
  refine lv_tableIn (off := 176) (tgt := 189) hx hb d_M_doAct_13 (by decide +kernel) (by decide +kernel) (by decide +kernel) (by decide) ?_
  refine lv_aload_n hx hb d_M_doAct_189 rfl (lv_at hl 1 rfl) ?_
  refine lv_iload_n hx hb d_M_doAct_190 rfl (lv_at hl 2 rfl) ?_
  refine lv_iload_n hx hb d_M_doAct_191 rfl (lv_at hl 3 rfl) ?_
  refine lv_iconst (v := (nI 0)) hx hb d_M_doAct_192 (by decide) ?_
  refine lv_aload_n hx hb d_M_doAct_193 rfl (lv_at hl 1 rfl) ?_
  refine lv_iload_n hx hb d_M_doAct_194 rfl (lv_at hl 2 rfl) ?_
  refine lv_iload_n hx hb d_M_doAct_195 rfl (lv_at hl 3 rfl) ?_
  refine lv_iconst (v := (nI 0)) hx hb d_M_doAct_196 (by decide) ?_
  refine yc_i (va_runV (As := [.int _, .int _, .int _]) (rest := [.int _, .int _, .int _, .ref _]) ⟨hx, hb, hml, hown, hts⟩ (c_M_take l D cc ad X b0 _ μ y i 0 hy hn hi (by omega) c0 e0 hp0) (cwV 3 hts (yg_call mc_M_take ml_M_85 mm_M_take ms_M_take mi_M) rfl rfl rfl (by decide +kernel) ⟨Nat.le_of_ble_eq_true rfl, Nat.le_of_ble_eq_true rfl⟩) (y_preV hI hw (y_recv hK.1 hw mL_o (by rfl) rfl)) rfl rfl hl.1 rfl (lv_room (Nat.le_of_ble_eq_true rfl)) d_M_doAct_197 ⟨Nat.le_of_ble_eq_true rfl, Nat.le_of_ble_eq_true rfl⟩) hw hA (fun r u H locs he hw => ?_)
  subst he
  refine lv_aload_n hx hb d_M_doAct_200 rfl (lv_at hl 1 rfl) ?_
  refine lv_iload_n hx hb d_M_doAct_201 rfl (lv_at hl 2 rfl) ?_
  refine lv_iload_n hx hb d_M_doAct_202 rfl (lv_at hl 3 rfl) ?_
  refine lv_iconst (v := (nI 1)) hx hb d_M_doAct_203 (by decide) ?_
  refine yc_i (va_runV (As := [.int _, .int _, .int _]) (rest := [.int _, .int _, .int _, .int _, .ref _]) ⟨hx, hb, hml, hown, hts⟩ (c_M_take l D cc ad X b0 _ (mo_take μ y c0) y i 1 hy hn hi1 (by omega) c1 e1 hp1t) (cwV 3 hts (yg_call mc_M_take ml_M_85 mm_M_take ms_M_take mi_M) rfl rfl rfl (by decide +kernel) ⟨Nat.le_of_ble_eq_true rfl, Nat.le_of_ble_eq_true rfl⟩) (y_preV hI hw (y_recv hK.1 hw mL_o (by rfl) rfl)) rfl rfl hl.1 rfl (lv_room (Nat.le_of_ble_eq_true rfl)) d_M_doAct_204 ⟨Nat.le_of_ble_eq_true rfl, Nat.le_of_ble_eq_true rfl⟩) hw hA (fun r u H locs he hw => ?_)
  subst he
  rw [hv10]
  refine lv_iadd hx hb d_M_doAct_207 ?_
  refine yc_v (va_runV (As := [.int _, .int _, .int _, .int _]) (rest := []) ⟨hx, hb, hml, hown, hts⟩ (c_M_give l D cc ad X b0 _ (mo_take (mo_take μ y c0) y c1) y i 0 hy hn hi2 (by omega) _ hrm) (cwV 4 hts (yg_call mc_M_give ml_M_81 mm_M_give ms_M_give mi_M) rfl rfl rfl (by decide +kernel) ⟨Nat.le_of_ble_eq_true rfl, Nat.le_of_ble_eq_true rfl⟩) (y_preV hI hw (y_recv hK.1 hw mL_o (by rfl) rfl)) rfl rfl hl.1 rfl (lv_room (Nat.le_of_ble_eq_true rfl)) d_M_doAct_208 ⟨Nat.le_of_ble_eq_true rfl, Nat.le_of_ble_eq_true rfl⟩) hw hA (fun u H locs he hw => ?_)
  refine lv_goto (tgt := 353) hx hb d_M_doAct_211 (by decide) ?_
  obtain ⟨μ1, hw, hq⟩ : ∃ z, yH D ycl (va_A (mW cc ad X μ) sz) sv.heap H locs (mW cc ad X z) ∧ mQ μ y i (true, true, some ((m_vs μ (128 * y + 8 * c0)) + (m_vs μ (128 * y + 8 * c1))), none, none) z := ⟨_, hw, mQ_mk (xt2.tr (mX_give hi2 hrm)) (mI_give hi2 hrm) (by rw [mD_give hi2 hrm, mD_take hi1 hp1t, mD_take hi hp0, yq_gv_n, e0, e1]; rfl) (mio_t (mio_t mgive_io))⟩
  obtain ⟨q1, q2, q3, q4, q5, q6⟩ := id hq
  have w1 : m_ac μ1 y i = m_ac μ y i := by rw [q4]
  have w2 : m_tn μ1 y i = m_tn μ y i := by rw [q5]
  refine lv_aload_n hx hb d_M_doAct_353 rfl (lv_at hl 1 rfl) ?_
  refine yr_get (C := R_M) (T := F_M) (N := 16) (ci := k_M) hx hb ht j_M hown hK.1 hw mL_o (by rfl) rfl 10 (by decide) (ht _ mf_M_34) (fun _ h9 => h9) (by rfl) d_M_doAct_354 ?_
  refine lv_iload_n hx hb d_M_doAct_357 rfl (lv_at hl 0 rfl) ?_
  refine lv_dup2_11 hx hb d_M_doAct_358 rfl rfl ?_
  refine yr_iald (v := nI (m_ac μ y i)) hx hb hK.1 hw mL_8 (by rfl) 0 rfl (vp_in_nI (N := 20) (by omega) (by omega)) (by rw [nI_clamp (by omega)]; show nI (m_ac μ1 ((10 * y + i) / 10) ((10 * y + i) % 10)) = _; rw [at_flat (f := m_ac μ1) (show i < 10 by omega), w1]) d_M_doAct_359 ?_
  refine lv_iconst (v := (nI 1)) hx hb d_M_doAct_360 (by decide) ?_
  refine lv_iadd hx hb d_M_doAct_361 ?_
  rw [nI_add]
  refine yr_iast hx hb hK.1 hw mL_8 (by rfl) 0 rfl (vp_in_nI (N := 20) (by omega) (by omega)) d_M_doAct_362 (fun H locs hw => ?_)
  rw [nI_clamp (by omega)] at hw
  have hw := mw_ac (up2 (m_ac μ1) y i (m_ac μ y i + 1)) hw (by rw [← upd_flat (show i < 10 by omega)]; rfl)
  have htn0 := mtn0 hq (show ¬ (m_kd μ i = 2 ∨ m_kd μ i = 3) by omega) a7
  exact ye_v hI (mx_ac μ1 (up2 (m_ac μ1) y i (m_ac μ y i + 1))) (mStp_mk hi hn hpl hq (by omega) rfl ⟨rfl, rfl, rfl, rfl, rfl, rfl, rfl, rfl, rfl, rfl⟩ (fun _ _ => rfl) htn0 rfl rfl rfl rfl) hw d_M_doAct_363
set_option maxHeartbeats 4000000 in
set_option maxRecDepth 100000 in
theorem c_M_doAct_5 (l : Launch) (D : va_G) (cc : ClassId × ClassId × ClassId) (ad : yl → Nat) (X : va_W) (b0 sz : Nat) (μ : ms) (y i : Nat) (hy : y < 2) (hn : i < m_n μ) (hi : mI μ y) (hk : m_kd μ i = 5) (hcan : yp_canb (m_T μ) (m_D μ y) i = true) : Met l y_M_doAct w_M_doAct ({ frames := 1, cells := 0, slots := 0, locals := 27 }) (yPr D cc b0 [.ref (ad (20, 0, 0)), .int (nI y), .int (nI i)] (mW cc ad X μ) sz) (va_Qv (fun μ' : ms => mStp μ y i μ') (yB D ycl (mW cc ad X μ) sz (fun μ' => mW cc ad X μ')) (va_A (mW cc ad X μ) sz)) 0 0 (va_A (mW cc ad X μ) sz) := by
  have hn10 := hi.1
  have hc16 := hi.2.1
  obtain ⟨a1, a2, a3, a4, a5, a6, a7⟩ := hi.2.2.2.2.1 i
  refine y_ofW (cc := b_M_doAct) (maxL := 7) (ret := none) (by decide) rfl (Nat.le_of_ble_eq_true rfl) ?_
  intro pv ev sv mv bv tv cv ls hI hsz hw hl
  obtain ⟨hx, hb, hr, hml, hts, hown, hlocks, hnm, hK, hAb, hb0, hA⟩ := id hI
  have ht : ∀ w ∈ lg_tbl, w.before _ sv = true := fun w h => hts w (List.mem_cons_of_mem _ h)
  have hl : lv_has ls 7 [(0, .ref (ad (20, 0, 0))), (1, .int (nI y)), (2, .int (nI i))] := hl
  have h100 : ¬ 100 ≤ (m_D μ y).1 i := Nat.not_le.mpr (yp_can_lt hcan)
  have h99 : m_ac μ y i < 100 := yp_can_lt hcan
  rw [yp_can5 (T := m_T μ) h100 hk] at hcan
  obtain ⟨q1, q2⟩ := (Bool.and_eq_true _ _).mp hcan
  have hr0 := mrm_of hi q2
  by_cases h0 : m_ac μ y i = 0
  · have hpl := ypl5a (T := m_T μ) h100 hk h0
    refine lv_bipush (v := (nI 10)) hx hb d_M_doAct_0 (by decide) ?_
    refine lv_iload_n hx hb d_M_doAct_2 rfl (lv_at hl 1 rfl) ?_
    refine lv_imul hx hb d_M_doAct_3 ?_
    rw [pk_mul]
    refine lv_iload_n hx hb d_M_doAct_4 rfl (lv_at hl 2 rfl) ?_
    refine lv_iadd hx hb d_M_doAct_5 ?_
    rw [nI_add]
    refine lv_istore_n (lv' := [(3, .int _), (0, .ref _), (1, .int _), (2, .int _)]) hx hb d_M_doAct_6 rfl hl (by decide) rfl (fun ls hl => ?_)
    refine lv_aload_n hx hb d_M_doAct_7 rfl (lv_at hl 1 rfl) ?_
    refine yr_get (C := R_M) (T := F_M) (N := 16) (ci := k_M) hx hb ht j_M hown hK.1 hw mL_o (by rfl) rfl 1 (by decide) (ht _ mf_M_7) (fun _ h9 => h9) (by rfl) d_M_doAct_8 ?_
    refine lv_iload_n hx hb d_M_doAct_11 rfl (lv_at hl 3 rfl) ?_
    refine yr_iald (v := nI (m_kd μ i)) hx hb hK.1 hw mL_0 (by rfl) 0 rfl (vp_in_nI (N := 10) (by omega) (by omega)) (by rw [nI_clamp (by omega)]; rfl) d_M_doAct_12 ?_
    rw [hk]
    refine lv_tableIn (off := 201) (tgt := 214) hx hb d_M_doAct_13 (by decide +kernel) (by decide +kernel) (by decide +kernel) (by decide) ?_
    refine lv_aload_n hx hb d_M_doAct_214 rfl (lv_at hl 1 rfl) ?_
    refine lv_iload_n hx hb d_M_doAct_215 rfl (lv_at hl 2 rfl) ?_
    refine lv_iload_n hx hb d_M_doAct_216 rfl (lv_at hl 3 rfl) ?_
    refine lv_iconst (v := (nI 0)) hx hb d_M_doAct_217 (by decide) ?_
    refine lv_aload_n hx hb d_M_doAct_218 rfl (lv_at hl 1 rfl) ?_
    refine yr_get (C := R_M) (T := F_M) (N := 16) (ci := k_M) hx hb ht j_M hown hK.1 hw mL_o (by rfl) rfl 10 (by decide) (ht _ mf_M_34) (fun _ h9 => h9) (by rfl) d_M_doAct_219 ?_
    refine lv_iload_n hx hb d_M_doAct_222 rfl (lv_at hl 0 rfl) ?_
    refine yr_iald (v := nI (m_ac μ y i)) hx hb hK.1 hw mL_8 (by rfl) 0 rfl (vp_in_nI (N := 20) (by omega) (by omega)) (by rw [nI_clamp (by omega)]; show nI (m_ac μ ((10 * y + i) / 10) ((10 * y + i) % 10)) = _; rw [at_flat (f := m_ac μ) (show i < 10 by omega)]) d_M_doAct_223 ?_
    refine lv_if_ne (tgt := 236) hx hb d_M_doAct_224 (by decide) (fun c_224 => by exact absurd (by rw [h0]; rfl) c_224) (fun c_224 => ?_)
    refine lv_aload_n hx hb d_M_doAct_227 rfl (lv_at hl 1 rfl) ?_
    refine yr_get (C := R_M) (T := F_M) (N := 16) (ci := k_M) hx hb ht j_M hown hK.1 hw mL_o (by rfl) rfl 2 (by decide) (ht _ mf_M_13) (fun _ h9 => h9) (by rfl) d_M_doAct_228 ?_
    refine lv_iload_n hx hb d_M_doAct_231 rfl (lv_at hl 3 rfl) ?_
    refine yr_iald (v := m_a μ i) hx hb hK.1 hw mL_1 (by rfl) 0 rfl (vp_in_nI (N := 10) (by omega) (by omega)) (by rw [nI_clamp (by omega)]; rfl) d_M_doAct_232 ?_
    refine lv_goto (tgt := 243) hx hb d_M_doAct_233 (by decide) ?_
    refine yc_v (va_runV (As := [.int _, .int _, .int _, .int _]) (rest := []) ⟨hx, hb, hml, hown, hts⟩ (c_M_give l D cc ad X b0 _ μ y i 0 hy hn hi (by omega) _ hr0) (cwV 4 hts (yg_call mc_M_give ml_M_81 mm_M_give ms_M_give mi_M) rfl rfl rfl (by decide +kernel) ⟨Nat.le_of_ble_eq_true rfl, Nat.le_of_ble_eq_true rfl⟩) (y_preV hI hw (y_recv hK.1 hw mL_o (by rfl) rfl)) rfl rfl hl.1 rfl (lv_room (Nat.le_of_ble_eq_true rfl)) d_M_doAct_243 ⟨Nat.le_of_ble_eq_true rfl, Nat.le_of_ble_eq_true rfl⟩) hw hA (fun u H locs he hw => ?_)
    refine lv_goto (tgt := 353) hx hb d_M_doAct_246 (by decide) ?_
    obtain ⟨μ1, hw, hq⟩ : ∃ z, yH D ycl (va_A (mW cc ad X μ) sz) sv.heap H locs (mW cc ad X z) ∧ mQ μ y i (false, false, some (m_a μ i), none, none) z := ⟨_, hw, mQ_mk (mX_give hi hr0) (mI_give hi hr0) (by rw [mD_give hi hr0, yq_gv_n, yq_tk_f, yq_tk_f]) mgive_io⟩
    obtain ⟨q1, q2, q3, q4, q5, q6⟩ := id hq
    have w1 : m_ac μ1 y i = m_ac μ y i := by rw [q4]
    have w2 : m_tn μ1 y i = m_tn μ y i := by rw [q5]
    refine lv_aload_n hx hb d_M_doAct_353 rfl (lv_at hl 1 rfl) ?_
    refine yr_get (C := R_M) (T := F_M) (N := 16) (ci := k_M) hx hb ht j_M hown hK.1 hw mL_o (by rfl) rfl 10 (by decide) (ht _ mf_M_34) (fun _ h9 => h9) (by rfl) d_M_doAct_354 ?_
    refine lv_iload_n hx hb d_M_doAct_357 rfl (lv_at hl 0 rfl) ?_
    refine lv_dup2_11 hx hb d_M_doAct_358 rfl rfl ?_
    refine yr_iald (v := nI (m_ac μ y i)) hx hb hK.1 hw mL_8 (by rfl) 0 rfl (vp_in_nI (N := 20) (by omega) (by omega)) (by rw [nI_clamp (by omega)]; show nI (m_ac μ1 ((10 * y + i) / 10) ((10 * y + i) % 10)) = _; rw [at_flat (f := m_ac μ1) (show i < 10 by omega), w1]) d_M_doAct_359 ?_
    refine lv_iconst (v := (nI 1)) hx hb d_M_doAct_360 (by decide) ?_
    refine lv_iadd hx hb d_M_doAct_361 ?_
    rw [nI_add]
    refine yr_iast hx hb hK.1 hw mL_8 (by rfl) 0 rfl (vp_in_nI (N := 20) (by omega) (by omega)) d_M_doAct_362 (fun H locs hw => ?_)
    rw [nI_clamp (by omega)] at hw
    have hw := mw_ac (up2 (m_ac μ1) y i (m_ac μ y i + 1)) hw (by rw [← upd_flat (show i < 10 by omega)]; rfl)
    have htn0 := mtn0 hq (show ¬ (m_kd μ i = 2 ∨ m_kd μ i = 3) by omega) a7
    exact ye_v hI (mx_ac μ1 (up2 (m_ac μ1) y i (m_ac μ y i + 1))) (mStp_mk hi hn hpl hq (by omega) rfl ⟨rfl, rfl, rfl, rfl, rfl, rfl, rfl, rfl, rfl, rfl⟩ (fun _ _ => rfl) htn0 rfl rfl rfl rfl) hw d_M_doAct_363
  · have q1 : (yp_hd (m_T μ) (m_D μ y) i 0).isSome = true := by
      rcases (Bool.or_eq_true _ _).mp q1 with h | h
      · exact absurd (of_decide_eq_true h) h0
      · exact h
    obtain ⟨c0, e0, hp0⟩ := mh_inv q1
    have hi1 := mI_take hi hp0
    have hc0 := mc_lt hi hp0
    have hb0 := hi.2.2.2.2.2.1 c0 hc0
    have xt := mX_take (μ := μ) (y := y) (c := c0) (by omega) (by omega)
    have hrm := mrm_take (c := c0) hr0
    have hpl := ypl5b (T := m_T μ) h100 hk h0 (mh_head e0 hp0)
    refine lv_bipush (v := (nI 10)) hx hb d_M_doAct_0 (by decide) ?_
    refine lv_iload_n hx hb d_M_doAct_2 rfl (lv_at hl 1 rfl) ?_
    refine lv_imul hx hb d_M_doAct_3 ?_
    rw [pk_mul]
    refine lv_iload_n hx hb d_M_doAct_4 rfl (lv_at hl 2 rfl) ?_
    refine lv_iadd hx hb d_M_doAct_5 ?_
    rw [nI_add]
    refine lv_istore_n (lv' := [(3, .int _), (0, .ref _), (1, .int _), (2, .int _)]) hx hb d_M_doAct_6 rfl hl (by decide) rfl (fun ls hl => ?_)
    refine lv_aload_n hx hb d_M_doAct_7 rfl (lv_at hl 1 rfl) ?_
    refine yr_get (C := R_M) (T := F_M) (N := 16) (ci := k_M) hx hb ht j_M hown hK.1 hw mL_o (by rfl) rfl 1 (by decide) (ht _ mf_M_7) (fun _ h9 => h9) (by rfl) d_M_doAct_8 ?_
    refine lv_iload_n hx hb d_M_doAct_11 rfl (lv_at hl 3 rfl) ?_
    refine yr_iald (v := nI (m_kd μ i)) hx hb hK.1 hw mL_0 (by rfl) 0 rfl (vp_in_nI (N := 10) (by omega) (by omega)) (by rw [nI_clamp (by omega)]; rfl) d_M_doAct_12 ?_
    rw [hk]
    refine lv_tableIn (off := 201) (tgt := 214) hx hb d_M_doAct_13 (by decide +kernel) (by decide +kernel) (by decide +kernel) (by decide) ?_
    refine lv_aload_n hx hb d_M_doAct_214 rfl (lv_at hl 1 rfl) ?_
    refine lv_iload_n hx hb d_M_doAct_215 rfl (lv_at hl 2 rfl) ?_
    refine lv_iload_n hx hb d_M_doAct_216 rfl (lv_at hl 3 rfl) ?_
    refine lv_iconst (v := (nI 0)) hx hb d_M_doAct_217 (by decide) ?_
    refine lv_aload_n hx hb d_M_doAct_218 rfl (lv_at hl 1 rfl) ?_
    refine yr_get (C := R_M) (T := F_M) (N := 16) (ci := k_M) hx hb ht j_M hown hK.1 hw mL_o (by rfl) rfl 10 (by decide) (ht _ mf_M_34) (fun _ h9 => h9) (by rfl) d_M_doAct_219 ?_
    refine lv_iload_n hx hb d_M_doAct_222 rfl (lv_at hl 0 rfl) ?_
    refine yr_iald (v := nI (m_ac μ y i)) hx hb hK.1 hw mL_8 (by rfl) 0 rfl (vp_in_nI (N := 20) (by omega) (by omega)) (by rw [nI_clamp (by omega)]; show nI (m_ac μ ((10 * y + i) / 10) ((10 * y + i) % 10)) = _; rw [at_flat (f := m_ac μ) (show i < 10 by omega)]) d_M_doAct_223 ?_
    refine lv_if_ne (tgt := 236) hx hb d_M_doAct_224 (by decide) (fun c_224 => ?_) (fun c_224 => by exact absurd ((nI_eq (by omega) (by omega)).mp (c_224.trans nI_0.symm)) h0)
    refine lv_aload_n hx hb d_M_doAct_236 rfl (lv_at hl 1 rfl) ?_
    refine lv_iload_n hx hb d_M_doAct_237 rfl (lv_at hl 2 rfl) ?_
    refine lv_iload_n hx hb d_M_doAct_238 rfl (lv_at hl 3 rfl) ?_
    refine lv_iconst (v := (nI 0)) hx hb d_M_doAct_239 (by decide) ?_
    refine yc_i (va_runV (As := [.int _, .int _, .int _]) (rest := [.int _, .int _, .int _, .ref _]) ⟨hx, hb, hml, hown, hts⟩ (c_M_take l D cc ad X b0 _ μ y i 0 hy hn hi (by omega) c0 e0 hp0) (cwV 3 hts (yg_call mc_M_take ml_M_85 mm_M_take ms_M_take mi_M) rfl rfl rfl (by decide +kernel) ⟨Nat.le_of_ble_eq_true rfl, Nat.le_of_ble_eq_true rfl⟩) (y_preV hI hw (y_recv hK.1 hw mL_o (by rfl) rfl)) rfl rfl hl.1 rfl (lv_room (Nat.le_of_ble_eq_true rfl)) d_M_doAct_240 ⟨Nat.le_of_ble_eq_true rfl, Nat.le_of_ble_eq_true rfl⟩) hw hA (fun r u H locs he hw => ?_)
    subst he
    refine yc_v (va_runV (As := [.int _, .int _, .int _, .int _]) (rest := []) ⟨hx, hb, hml, hown, hts⟩ (c_M_give l D cc ad X b0 _ (mo_take μ y c0) y i 0 hy hn hi1 (by omega) _ hrm) (cwV 4 hts (yg_call mc_M_give ml_M_81 mm_M_give ms_M_give mi_M) rfl rfl rfl (by decide +kernel) ⟨Nat.le_of_ble_eq_true rfl, Nat.le_of_ble_eq_true rfl⟩) (y_preV hI hw (y_recv hK.1 hw mL_o (by rfl) rfl)) rfl rfl hl.1 rfl (lv_room (Nat.le_of_ble_eq_true rfl)) d_M_doAct_243 ⟨Nat.le_of_ble_eq_true rfl, Nat.le_of_ble_eq_true rfl⟩) hw hA (fun u H locs he hw => ?_)
    refine lv_goto (tgt := 353) hx hb d_M_doAct_246 (by decide) ?_
    obtain ⟨μ1, hw, hq⟩ : ∃ z, yH D ycl (va_A (mW cc ad X μ) sz) sv.heap H locs (mW cc ad X z) ∧ mQ μ y i (true, false, some (m_vs μ (128 * y + 8 * c0)), none, none) z := ⟨_, hw, mQ_mk (xt.tr (mX_give hi1 hrm)) (mI_give hi1 hrm) (by rw [mD_give hi1 hrm, mD_take hi hp0, yq_gv_n, yq_tk_f, e0]; rfl) (mio_t mgive_io)⟩
    obtain ⟨q1, q2, q3, q4, q5, q6⟩ := id hq
    have w1 : m_ac μ1 y i = m_ac μ y i := by rw [q4]
    have w2 : m_tn μ1 y i = m_tn μ y i := by rw [q5]
    refine lv_aload_n hx hb d_M_doAct_353 rfl (lv_at hl 1 rfl) ?_
    refine yr_get (C := R_M) (T := F_M) (N := 16) (ci := k_M) hx hb ht j_M hown hK.1 hw mL_o (by rfl) rfl 10 (by decide) (ht _ mf_M_34) (fun _ h9 => h9) (by rfl) d_M_doAct_354 ?_
    refine lv_iload_n hx hb d_M_doAct_357 rfl (lv_at hl 0 rfl) ?_
    refine lv_dup2_11 hx hb d_M_doAct_358 rfl rfl ?_
    refine yr_iald (v := nI (m_ac μ y i)) hx hb hK.1 hw mL_8 (by rfl) 0 rfl (vp_in_nI (N := 20) (by omega) (by omega)) (by rw [nI_clamp (by omega)]; show nI (m_ac μ1 ((10 * y + i) / 10) ((10 * y + i) % 10)) = _; rw [at_flat (f := m_ac μ1) (show i < 10 by omega), w1]) d_M_doAct_359 ?_
    refine lv_iconst (v := (nI 1)) hx hb d_M_doAct_360 (by decide) ?_
    refine lv_iadd hx hb d_M_doAct_361 ?_
    rw [nI_add]
    refine yr_iast hx hb hK.1 hw mL_8 (by rfl) 0 rfl (vp_in_nI (N := 20) (by omega) (by omega)) d_M_doAct_362 (fun H locs hw => ?_)
    rw [nI_clamp (by omega)] at hw
    have hw := mw_ac (up2 (m_ac μ1) y i (m_ac μ y i + 1)) hw (by rw [← upd_flat (show i < 10 by omega)]; rfl)
    have htn0 := mtn0 hq (show ¬ (m_kd μ i = 2 ∨ m_kd μ i = 3) by omega) a7
    exact ye_v hI (mx_ac μ1 (up2 (m_ac μ1) y i (m_ac μ y i + 1))) (mStp_mk hi hn hpl hq (by omega) rfl ⟨rfl, rfl, rfl, rfl, rfl, rfl, rfl, rfl, rfl, rfl⟩ (fun _ _ => rfl) htn0 rfl rfl rfl rfl) hw d_M_doAct_363
set_option maxHeartbeats 4000000 in
set_option maxRecDepth 100000 in
theorem c_M_doAct_7 (l : Launch) (D : va_G) (cc : ClassId × ClassId × ClassId) (ad : yl → Nat) (X : va_W) (b0 sz : Nat) (μ : ms) (y i : Nat) (hy : y < 2) (hn : i < m_n μ) (hi : mI μ y) (hk : m_kd μ i = 7) (hcan : yp_canb (m_T μ) (m_D μ y) i = true) : Met l y_M_doAct w_M_doAct ({ frames := 1, cells := 0, slots := 0, locals := 27 }) (yPr D cc b0 [.ref (ad (20, 0, 0)), .int (nI y), .int (nI i)] (mW cc ad X μ) sz) (va_Qv (fun μ' : ms => mStp μ y i μ') (yB D ycl (mW cc ad X μ) sz (fun μ' => mW cc ad X μ')) (va_A (mW cc ad X μ) sz)) 0 0 (va_A (mW cc ad X μ) sz) := by
  have hn10 := hi.1
  have hc16 := hi.2.1
  obtain ⟨a1, a2, a3, a4, a5, a6, a7⟩ := hi.2.2.2.2.1 i
  refine y_ofW (cc := b_M_doAct) (maxL := 7) (ret := none) (by decide) rfl (Nat.le_of_ble_eq_true rfl) ?_
  intro pv ev sv mv bv tv cv ls hI hsz hw hl
  obtain ⟨hx, hb, hr, hml, hts, hown, hlocks, hnm, hK, hAb, hb0, hA⟩ := id hI
  have ht : ∀ w ∈ lg_tbl, w.before _ sv = true := fun w h => hts w (List.mem_cons_of_mem _ h)
  have hl : lv_has ls 7 [(0, .ref (ad (20, 0, 0))), (1, .int (nI y)), (2, .int (nI i))] := hl
  have h100 : ¬ 100 ≤ (m_D μ y).1 i := Nat.not_le.mpr (yp_can_lt hcan)
  have h99 : m_ac μ y i < 100 := yp_can_lt hcan
  rw [yp_can7 (T := m_T μ) h100 hk] at hcan
  obtain ⟨q0, q2⟩ := (Bool.and_eq_true _ _).mp hcan
  obtain ⟨q1, q3⟩ := (Bool.and_eq_true _ _).mp q0
  obtain ⟨c0, e0, hp0⟩ := mh_inv q1
  have hi1 := mI_take hi hp0
  have hc0 := mc_lt hi hp0
  have hb0 := hi.2.2.2.2.2.1 c0 hc0
  have xt := mX_take (μ := μ) (y := y) (c := c0) (by omega) (by omega)
  obtain ⟨c1, e1, hp1⟩ := mh_inv q3
  obtain ⟨hc1, hv1⟩ := mhv_take hi (show 0 ≠ 1 by omega) e0 e1
  have hp1t : 0 < m_ct (mo_take μ y c0) y c1 := by rw [hc1]; exact hp1
  have hi2 := mI_take hi1 hp1t
  have hb1 := hi.2.2.2.2.2.1 c1 (mc_lt hi hp1)
  have hk1 := mc_lt hi hp1
  have hv10 : m_vs (mo_take μ y c0) (128 * y + 8 * c1) = m_vs μ (128 * y + 8 * c1) := hv1 0 (by omega) (by omega) (by omega)
  have xt2 := xt.tr (mX_take (μ := mo_take μ y c0) (y := y) (c := c1) (by omega) (by rw [hc1]; omega))
  have hpl := ypl7 (T := m_T μ) h100 hk (mh_head e0 hp0) (mh_head e1 hp1)
  by_cases h0 : (m_vs μ (128 * y + 8 * c0)) = 0
  · rw [if_pos h0] at hpl
    refine lv_bipush (v := (nI 10)) hx hb d_M_doAct_0 (by decide) ?_
    refine lv_iload_n hx hb d_M_doAct_2 rfl (lv_at hl 1 rfl) ?_
    refine lv_imul hx hb d_M_doAct_3 ?_
    rw [pk_mul]
    refine lv_iload_n hx hb d_M_doAct_4 rfl (lv_at hl 2 rfl) ?_
    refine lv_iadd hx hb d_M_doAct_5 ?_
    rw [nI_add]
    refine lv_istore_n (lv' := [(3, .int _), (0, .ref _), (1, .int _), (2, .int _)]) hx hb d_M_doAct_6 rfl hl (by decide) rfl (fun ls hl => ?_)
    refine lv_aload_n hx hb d_M_doAct_7 rfl (lv_at hl 1 rfl) ?_
    refine yr_get (C := R_M) (T := F_M) (N := 16) (ci := k_M) hx hb ht j_M hown hK.1 hw mL_o (by rfl) rfl 1 (by decide) (ht _ mf_M_7) (fun _ h9 => h9) (by rfl) d_M_doAct_8 ?_
    refine lv_iload_n hx hb d_M_doAct_11 rfl (lv_at hl 3 rfl) ?_
    refine yr_iald (v := nI (m_kd μ i)) hx hb hK.1 hw mL_0 (by rfl) 0 rfl (vp_in_nI (N := 10) (by omega) (by omega)) (by rw [nI_clamp (by omega)]; rfl) d_M_doAct_12 ?_
    rw [hk]
    refine lv_tableIn (off := 278) (tgt := 291) hx hb d_M_doAct_13 (by decide +kernel) (by decide +kernel) (by decide +kernel) (by decide) ?_
    refine lv_aload_n hx hb d_M_doAct_291 rfl (lv_at hl 1 rfl) ?_
    refine lv_iload_n hx hb d_M_doAct_292 rfl (lv_at hl 2 rfl) ?_
    refine lv_iload_n hx hb d_M_doAct_293 rfl (lv_at hl 3 rfl) ?_
    refine lv_iconst (v := (nI 0)) hx hb d_M_doAct_294 (by decide) ?_
    refine yc_i (va_runV (As := [.int _, .int _, .int _]) (rest := []) ⟨hx, hb, hml, hown, hts⟩ (c_M_take l D cc ad X b0 _ μ y i 0 hy hn hi (by omega) c0 e0 hp0) (cwV 3 hts (yg_call mc_M_take ml_M_85 mm_M_take ms_M_take mi_M) rfl rfl rfl (by decide +kernel) ⟨Nat.le_of_ble_eq_true rfl, Nat.le_of_ble_eq_true rfl⟩) (y_preV hI hw (y_recv hK.1 hw mL_o (by rfl) rfl)) rfl rfl hl.1 rfl (lv_room (Nat.le_of_ble_eq_true rfl)) d_M_doAct_295 ⟨Nat.le_of_ble_eq_true rfl, Nat.le_of_ble_eq_true rfl⟩) hw hA (fun r u H locs he hw => ?_)
    subst he
    refine lv_istore (lv' := [(4, .int _), (3, .int _), (0, .ref _), (1, .int _), (2, .int _)]) hx hb d_M_doAct_298 hl (by decide) rfl (fun ls hl => ?_)
    refine lv_aload_n hx hb d_M_doAct_300 rfl (lv_at hl 2 rfl) ?_
    refine lv_iload_n hx hb d_M_doAct_301 rfl (lv_at hl 3 rfl) ?_
    refine lv_iload_n hx hb d_M_doAct_302 rfl (lv_at hl 4 rfl) ?_
    refine lv_iconst (v := (nI 1)) hx hb d_M_doAct_303 (by decide) ?_
    refine yc_i (va_runV (As := [.int _, .int _, .int _]) (rest := []) ⟨hx, hb, hml, hown, hts⟩ (c_M_take l D cc ad X b0 _ (mo_take μ y c0) y i 1 hy hn hi1 (by omega) c1 e1 hp1t) (cwV 3 hts (yg_call mc_M_take ml_M_85 mm_M_take ms_M_take mi_M) rfl rfl rfl (by decide +kernel) ⟨Nat.le_of_ble_eq_true rfl, Nat.le_of_ble_eq_true rfl⟩) (y_preV hI hw (y_recv hK.1 hw mL_o (by rfl) rfl)) rfl rfl hl.1 rfl (lv_room (Nat.le_of_ble_eq_true rfl)) d_M_doAct_304 ⟨Nat.le_of_ble_eq_true rfl, Nat.le_of_ble_eq_true rfl⟩) hw hA (fun r u H locs he hw => ?_)
    subst he
    rw [hv10]
    refine lv_istore (lv' := [(5, .int _), (4, .int _), (3, .int _), (0, .ref _), (1, .int _), (2, .int _)]) hx hb d_M_doAct_307 hl (by decide) rfl (fun ls hl => ?_)
    refine lv_iload hx hb d_M_doAct_309 (lv_at hl 1 rfl) ?_
    refine lv_if_eq (tgt := 353) hx hb d_M_doAct_311 (by decide) (fun c_311 => ?_) (fun c_311 => by exact absurd h0 c_311)
    obtain ⟨μ1, hw, hq⟩ : ∃ z, yH D ycl (va_A (mW cc ad X μ) sz) sv.heap H locs (mW cc ad X z) ∧ mQ μ y i (true, true, none, none, none) z := ⟨_, hw, mQ_mk xt2 hi2 (by rw [mD_take hi1 hp1t, mD_take hi hp0, yq_gv_n, yq_gv_n, e0, e1]) ⟨mS.rf, rfl, rfl, rfl, rfl⟩⟩
    obtain ⟨q1, q2, q3, q4, q5, q6⟩ := id hq
    have w1 : m_ac μ1 y i = m_ac μ y i := by rw [q4]
    have w2 : m_tn μ1 y i = m_tn μ y i := by rw [q5]
    refine lv_aload_n hx hb d_M_doAct_353 rfl (lv_at hl 3 rfl) ?_
    refine yr_get (C := R_M) (T := F_M) (N := 16) (ci := k_M) hx hb ht j_M hown hK.1 hw mL_o (by rfl) rfl 10 (by decide) (ht _ mf_M_34) (fun _ h9 => h9) (by rfl) d_M_doAct_354 ?_
    refine lv_iload_n hx hb d_M_doAct_357 rfl (lv_at hl 2 rfl) ?_
    refine lv_dup2_11 hx hb d_M_doAct_358 rfl rfl ?_
    refine yr_iald (v := nI (m_ac μ y i)) hx hb hK.1 hw mL_8 (by rfl) 0 rfl (vp_in_nI (N := 20) (by omega) (by omega)) (by rw [nI_clamp (by omega)]; show nI (m_ac μ1 ((10 * y + i) / 10) ((10 * y + i) % 10)) = _; rw [at_flat (f := m_ac μ1) (show i < 10 by omega), w1]) d_M_doAct_359 ?_
    refine lv_iconst (v := (nI 1)) hx hb d_M_doAct_360 (by decide) ?_
    refine lv_iadd hx hb d_M_doAct_361 ?_
    rw [nI_add]
    refine yr_iast hx hb hK.1 hw mL_8 (by rfl) 0 rfl (vp_in_nI (N := 20) (by omega) (by omega)) d_M_doAct_362 (fun H locs hw => ?_)
    rw [nI_clamp (by omega)] at hw
    have hw := mw_ac (up2 (m_ac μ1) y i (m_ac μ y i + 1)) hw (by rw [← upd_flat (show i < 10 by omega)]; rfl)
    have htn0 := mtn0 hq (show ¬ (m_kd μ i = 2 ∨ m_kd μ i = 3) by omega) a7
    exact ye_v hI (mx_ac μ1 (up2 (m_ac μ1) y i (m_ac μ y i + 1))) (mStp_mk hi hn hpl hq (by omega) rfl ⟨rfl, rfl, rfl, rfl, rfl, rfl, rfl, rfl, rfl, rfl⟩ (fun _ _ => rfl) htn0 rfl rfl rfl rfl) hw d_M_doAct_363
  · rw [if_neg h0] at hpl
    have q2 : yp_roomb (m_T μ) (m_D μ y) i 0 = true := by
      rcases (Bool.or_eq_true _ _).mp q2 with h | h
      · have h := of_decide_eq_true h
        rw [mh_head e0 hp0] at h
        exact absurd (Option.some.inj h) h0
      · exact h
    have hrm := mrm_take (c := c1) (mrm_take (c := c0) (mrm_of hi q2))
    refine lv_bipush (v := (nI 10)) hx hb d_M_doAct_0 (by decide) ?_
    refine lv_iload_n hx hb d_M_doAct_2 rfl (lv_at hl 1 rfl) ?_
    refine lv_imul hx hb d_M_doAct_3 ?_
    rw [pk_mul]
    refine lv_iload_n hx hb d_M_doAct_4 rfl (lv_at hl 2 rfl) ?_
    refine lv_iadd hx hb d_M_doAct_5 ?_
    rw [nI_add]
    refine lv_istore_n (lv' := [(3, .int _), (0, .ref _), (1, .int _), (2, .int _)]) hx hb d_M_doAct_6 rfl hl (by decide) rfl (fun ls hl => ?_)
    refine lv_aload_n hx hb d_M_doAct_7 rfl (lv_at hl 1 rfl) ?_
    refine yr_get (C := R_M) (T := F_M) (N := 16) (ci := k_M) hx hb ht j_M hown hK.1 hw mL_o (by rfl) rfl 1 (by decide) (ht _ mf_M_7) (fun _ h9 => h9) (by rfl) d_M_doAct_8 ?_
    refine lv_iload_n hx hb d_M_doAct_11 rfl (lv_at hl 3 rfl) ?_
    refine yr_iald (v := nI (m_kd μ i)) hx hb hK.1 hw mL_0 (by rfl) 0 rfl (vp_in_nI (N := 10) (by omega) (by omega)) (by rw [nI_clamp (by omega)]; rfl) d_M_doAct_12 ?_
    rw [hk]
    refine lv_tableIn (off := 278) (tgt := 291) hx hb d_M_doAct_13 (by decide +kernel) (by decide +kernel) (by decide +kernel) (by decide) ?_
    refine lv_aload_n hx hb d_M_doAct_291 rfl (lv_at hl 1 rfl) ?_
    refine lv_iload_n hx hb d_M_doAct_292 rfl (lv_at hl 2 rfl) ?_
    refine lv_iload_n hx hb d_M_doAct_293 rfl (lv_at hl 3 rfl) ?_
    refine lv_iconst (v := (nI 0)) hx hb d_M_doAct_294 (by decide) ?_
    refine yc_i (va_runV (As := [.int _, .int _, .int _]) (rest := []) ⟨hx, hb, hml, hown, hts⟩ (c_M_take l D cc ad X b0 _ μ y i 0 hy hn hi (by omega) c0 e0 hp0) (cwV 3 hts (yg_call mc_M_take ml_M_85 mm_M_take ms_M_take mi_M) rfl rfl rfl (by decide +kernel) ⟨Nat.le_of_ble_eq_true rfl, Nat.le_of_ble_eq_true rfl⟩) (y_preV hI hw (y_recv hK.1 hw mL_o (by rfl) rfl)) rfl rfl hl.1 rfl (lv_room (Nat.le_of_ble_eq_true rfl)) d_M_doAct_295 ⟨Nat.le_of_ble_eq_true rfl, Nat.le_of_ble_eq_true rfl⟩) hw hA (fun r u H locs he hw => ?_)
    subst he
    refine lv_istore (lv' := [(4, .int _), (3, .int _), (0, .ref _), (1, .int _), (2, .int _)]) hx hb d_M_doAct_298 hl (by decide) rfl (fun ls hl => ?_)
    refine lv_aload_n hx hb d_M_doAct_300 rfl (lv_at hl 2 rfl) ?_
    refine lv_iload_n hx hb d_M_doAct_301 rfl (lv_at hl 3 rfl) ?_
    refine lv_iload_n hx hb d_M_doAct_302 rfl (lv_at hl 4 rfl) ?_
    refine lv_iconst (v := (nI 1)) hx hb d_M_doAct_303 (by decide) ?_
    refine yc_i (va_runV (As := [.int _, .int _, .int _]) (rest := []) ⟨hx, hb, hml, hown, hts⟩ (c_M_take l D cc ad X b0 _ (mo_take μ y c0) y i 1 hy hn hi1 (by omega) c1 e1 hp1t) (cwV 3 hts (yg_call mc_M_take ml_M_85 mm_M_take ms_M_take mi_M) rfl rfl rfl (by decide +kernel) ⟨Nat.le_of_ble_eq_true rfl, Nat.le_of_ble_eq_true rfl⟩) (y_preV hI hw (y_recv hK.1 hw mL_o (by rfl) rfl)) rfl rfl hl.1 rfl (lv_room (Nat.le_of_ble_eq_true rfl)) d_M_doAct_304 ⟨Nat.le_of_ble_eq_true rfl, Nat.le_of_ble_eq_true rfl⟩) hw hA (fun r u H locs he hw => ?_)
    subst he
    rw [hv10]
    refine lv_istore (lv' := [(5, .int _), (4, .int _), (3, .int _), (0, .ref _), (1, .int _), (2, .int _)]) hx hb d_M_doAct_307 hl (by decide) rfl (fun ls hl => ?_)
    refine lv_iload hx hb d_M_doAct_309 (lv_at hl 1 rfl) ?_
    refine lv_if_eq (tgt := 353) hx hb d_M_doAct_311 (by decide) (fun c_311 => by exact absurd c_311 h0) (fun c_311 => ?_)
    refine lv_aload_n hx hb d_M_doAct_314 rfl (lv_at hl 3 rfl) ?_
    refine lv_iload_n hx hb d_M_doAct_315 rfl (lv_at hl 4 rfl) ?_
    refine lv_iload_n hx hb d_M_doAct_316 rfl (lv_at hl 5 rfl) ?_
    refine lv_iconst (v := (nI 0)) hx hb d_M_doAct_317 (by decide) ?_
    refine lv_iload hx hb d_M_doAct_318 (lv_at hl 0 rfl) ?_
    refine yc_v (va_runV (As := [.int _, .int _, .int _, .int _]) (rest := []) ⟨hx, hb, hml, hown, hts⟩ (c_M_give l D cc ad X b0 _ (mo_take (mo_take μ y c0) y c1) y i 0 hy hn hi2 (by omega) _ hrm) (cwV 4 hts (yg_call mc_M_give ml_M_81 mm_M_give ms_M_give mi_M) rfl rfl rfl (by decide +kernel) ⟨Nat.le_of_ble_eq_true rfl, Nat.le_of_ble_eq_true rfl⟩) (y_preV hI hw (y_recv hK.1 hw mL_o (by rfl) rfl)) rfl rfl hl.1 rfl (lv_room (Nat.le_of_ble_eq_true rfl)) d_M_doAct_320 ⟨Nat.le_of_ble_eq_true rfl, Nat.le_of_ble_eq_true rfl⟩) hw hA (fun u H locs he hw => ?_)
    refine lv_goto (tgt := 353) hx hb d_M_doAct_323 (by decide) ?_
    obtain ⟨μ1, hw, hq⟩ : ∃ z, yH D ycl (va_A (mW cc ad X μ) sz) sv.heap H locs (mW cc ad X z) ∧ mQ μ y i (true, true, some (m_vs μ (128 * y + 8 * c1)), none, none) z := ⟨_, hw, mQ_mk (xt2.tr (mX_give hi2 hrm)) (mI_give hi2 hrm) (by rw [mD_give hi2 hrm, mD_take hi1 hp1t, mD_take hi hp0, yq_gv_n, e0, e1]; rfl) (mio_t (mio_t mgive_io))⟩
    obtain ⟨q1, q2, q3, q4, q5, q6⟩ := id hq
    have w1 : m_ac μ1 y i = m_ac μ y i := by rw [q4]
    have w2 : m_tn μ1 y i = m_tn μ y i := by rw [q5]
    refine lv_aload_n hx hb d_M_doAct_353 rfl (lv_at hl 3 rfl) ?_
    refine yr_get (C := R_M) (T := F_M) (N := 16) (ci := k_M) hx hb ht j_M hown hK.1 hw mL_o (by rfl) rfl 10 (by decide) (ht _ mf_M_34) (fun _ h9 => h9) (by rfl) d_M_doAct_354 ?_
    refine lv_iload_n hx hb d_M_doAct_357 rfl (lv_at hl 2 rfl) ?_
    refine lv_dup2_11 hx hb d_M_doAct_358 rfl rfl ?_
    refine yr_iald (v := nI (m_ac μ y i)) hx hb hK.1 hw mL_8 (by rfl) 0 rfl (vp_in_nI (N := 20) (by omega) (by omega)) (by rw [nI_clamp (by omega)]; show nI (m_ac μ1 ((10 * y + i) / 10) ((10 * y + i) % 10)) = _; rw [at_flat (f := m_ac μ1) (show i < 10 by omega), w1]) d_M_doAct_359 ?_
    refine lv_iconst (v := (nI 1)) hx hb d_M_doAct_360 (by decide) ?_
    refine lv_iadd hx hb d_M_doAct_361 ?_
    rw [nI_add]
    refine yr_iast hx hb hK.1 hw mL_8 (by rfl) 0 rfl (vp_in_nI (N := 20) (by omega) (by omega)) d_M_doAct_362 (fun H locs hw => ?_)
    rw [nI_clamp (by omega)] at hw
    have hw := mw_ac (up2 (m_ac μ1) y i (m_ac μ y i + 1)) hw (by rw [← upd_flat (show i < 10 by omega)]; rfl)
    have htn0 := mtn0 hq (show ¬ (m_kd μ i = 2 ∨ m_kd μ i = 3) by omega) a7
    exact ye_v hI (mx_ac μ1 (up2 (m_ac μ1) y i (m_ac μ y i + 1))) (mStp_mk hi hn hpl hq (by omega) rfl ⟨rfl, rfl, rfl, rfl, rfl, rfl, rfl, rfl, rfl, rfl⟩ (fun _ _ => rfl) htn0 rfl rfl rfl rfl) hw d_M_doAct_363
set_option maxHeartbeats 4000000 in
set_option maxRecDepth 100000 in
theorem c_M_doAct_8 (l : Launch) (D : va_G) (cc : ClassId × ClassId × ClassId) (ad : yl → Nat) (X : va_W) (b0 sz : Nat) (μ : ms) (y i : Nat) (hy : y < 2) (hn : i < m_n μ) (hi : mI μ y) (hk : m_kd μ i = 8) (hcan : yp_canb (m_T μ) (m_D μ y) i = true) : Met l y_M_doAct w_M_doAct ({ frames := 1, cells := 0, slots := 0, locals := 27 }) (yPr D cc b0 [.ref (ad (20, 0, 0)), .int (nI y), .int (nI i)] (mW cc ad X μ) sz) (va_Qv (fun μ' : ms => mStp μ y i μ') (yB D ycl (mW cc ad X μ) sz (fun μ' => mW cc ad X μ')) (va_A (mW cc ad X μ) sz)) 0 0 (va_A (mW cc ad X μ) sz) := by
  have hn10 := hi.1
  have hc16 := hi.2.1
  obtain ⟨a1, a2, a3, a4, a5, a6, a7⟩ := hi.2.2.2.2.1 i
  refine y_ofW (cc := b_M_doAct) (maxL := 7) (ret := none) (by decide) rfl (Nat.le_of_ble_eq_true rfl) ?_
  intro pv ev sv mv bv tv cv ls hI hsz hw hl
  obtain ⟨hx, hb, hr, hml, hts, hown, hlocks, hnm, hK, hAb, hb0, hA⟩ := id hI
  have ht : ∀ w ∈ lg_tbl, w.before _ sv = true := fun w h => hts w (List.mem_cons_of_mem _ h)
  have hl : lv_has ls 7 [(0, .ref (ad (20, 0, 0))), (1, .int (nI y)), (2, .int (nI i))] := hl
  have h100 : ¬ 100 ≤ (m_D μ y).1 i := Nat.not_le.mpr (yp_can_lt hcan)
  have h99 : m_ac μ y i < 100 := yp_can_lt hcan
  rw [yp_can8 (T := m_T μ) h100 hk] at hcan
  obtain ⟨q0, q3⟩ := (Bool.and_eq_true _ _).mp hcan
  obtain ⟨q1, q2⟩ := (Bool.and_eq_true _ _).mp q0
  obtain ⟨c0, e0, hp0⟩ := mh_inv q1
  have hi1 := mI_take hi hp0
  have hc0 := mc_lt hi hp0
  have hb0 := hi.2.2.2.2.2.1 c0 hc0
  have xt := mX_take (μ := μ) (y := y) (c := c0) (by omega) (by omega)
  have hrm := mrm_take (c := c0) (mrm_of hi q2)
  have hrm1 := mrm_take (c := c0) (mrm_of hi q3)
  have hi2 := mI_give (v := (m_vs μ (128 * y + 8 * c0))) hi1 hrm
  have hrm2 := mrm_give (v := (m_vs μ (128 * y + 8 * c0))) hi1 (show 0 ≠ 1 by omega) hrm1
  have hpl := ypl8 (T := m_T μ) h100 hk (mh_head e0 hp0)
  have hS2 := (mgive_io (μ := mo_take μ y c0) (y := y) (i := i) (j := 0) (v := (m_vs μ (128 * y + 8 * c0)))).1
  have hn2 : i < m_n (mo_give (mo_take μ y c0) y i 0 (m_vs μ (128 * y + 8 * c0))) := by rw [hS2.1]; exact hn
  have hoc : m_oc (mo_give (mo_take μ y c0) y i 0 (m_vs μ (128 * y + 8 * c0))) = m_oc μ := hS2.2.2.2.2.2.2.2.2.2
  refine lv_bipush (v := (nI 10)) hx hb d_M_doAct_0 (by decide) ?_
  refine lv_iload_n hx hb d_M_doAct_2 rfl (lv_at hl 1 rfl) ?_
  refine lv_imul hx hb d_M_doAct_3 ?_
  rw [pk_mul]
  refine lv_iload_n hx hb d_M_doAct_4 rfl (lv_at hl 2 rfl) ?_
  refine lv_iadd hx hb d_M_doAct_5 ?_
  rw [nI_add]
  refine lv_istore_n (lv' := [(3, .int _), (0, .ref _), (1, .int _), (2, .int _)]) hx hb d_M_doAct_6 rfl hl (by decide) rfl (fun ls hl => ?_)
  refine lv_aload_n hx hb d_M_doAct_7 rfl (lv_at hl 1 rfl) ?_
  refine yr_get (C := R_M) (T := F_M) (N := 16) (ci := k_M) hx hb ht j_M hown hK.1 hw mL_o (by rfl) rfl 1 (by decide) (ht _ mf_M_7) (fun _ h9 => h9) (by rfl) d_M_doAct_8 ?_
  refine lv_iload_n hx hb d_M_doAct_11 rfl (lv_at hl 3 rfl) ?_
  refine yr_iald (v := nI (m_kd μ i)) hx hb hK.1 hw mL_0 (by rfl) 0 rfl (vp_in_nI (N := 10) (by omega) (by omega)) (by rw [nI_clamp (by omega)]; rfl) d_M_doAct_12 ?_
  rw [hk]
  refine lv_tableOut (tgt := 326) hx hb d_M_doAct_13 (Or.inr (by decide)) (by decide) ?_
  refine lv_aload_n hx hb d_M_doAct_326 rfl (lv_at hl 1 rfl) ?_
  refine lv_iload_n hx hb d_M_doAct_327 rfl (lv_at hl 2 rfl) ?_
  refine lv_iload_n hx hb d_M_doAct_328 rfl (lv_at hl 3 rfl) ?_
  refine lv_iconst (v := (nI 0)) hx hb d_M_doAct_329 (by decide) ?_
  refine yc_i (va_runV (As := [.int _, .int _, .int _]) (rest := []) ⟨hx, hb, hml, hown, hts⟩ (c_M_take l D cc ad X b0 _ μ y i 0 hy hn hi (by omega) c0 e0 hp0) (cwV 3 hts (yg_call mc_M_take ml_M_85 mm_M_take ms_M_take mi_M) rfl rfl rfl (by decide +kernel) ⟨Nat.le_of_ble_eq_true rfl, Nat.le_of_ble_eq_true rfl⟩) (y_preV hI hw (y_recv hK.1 hw mL_o (by rfl) rfl)) rfl rfl hl.1 rfl (lv_room (Nat.le_of_ble_eq_true rfl)) d_M_doAct_330 ⟨Nat.le_of_ble_eq_true rfl, Nat.le_of_ble_eq_true rfl⟩) hw hA (fun r u H locs he hw => ?_)
  subst he
  refine lv_istore (lv' := [(6, .int _), (3, .int _), (0, .ref _), (1, .int _), (2, .int _)]) hx hb d_M_doAct_333 hl (by decide) rfl (fun ls hl => ?_)
  refine lv_aload_n hx hb d_M_doAct_335 rfl (lv_at hl 2 rfl) ?_
  refine lv_iload_n hx hb d_M_doAct_336 rfl (lv_at hl 3 rfl) ?_
  refine lv_iload_n hx hb d_M_doAct_337 rfl (lv_at hl 4 rfl) ?_
  refine lv_iconst (v := (nI 0)) hx hb d_M_doAct_338 (by decide) ?_
  refine lv_iload hx hb d_M_doAct_339 (lv_at hl 0 rfl) ?_
  refine yc_v (va_runV (As := [.int _, .int _, .int _, .int _]) (rest := []) ⟨hx, hb, hml, hown, hts⟩ (c_M_give l D cc ad X b0 _ (mo_take μ y c0) y i 0 hy hn hi1 (by omega) _ hrm) (cwV 4 hts (yg_call mc_M_give ml_M_81 mm_M_give ms_M_give mi_M) rfl rfl rfl (by decide +kernel) ⟨Nat.le_of_ble_eq_true rfl, Nat.le_of_ble_eq_true rfl⟩) (y_preV hI hw (y_recv hK.1 hw mL_o (by rfl) rfl)) rfl rfl hl.1 rfl (lv_room (Nat.le_of_ble_eq_true rfl)) d_M_doAct_341 ⟨Nat.le_of_ble_eq_true rfl, Nat.le_of_ble_eq_true rfl⟩) hw hA (fun u H locs he hw => ?_)
  refine lv_aload_n hx hb d_M_doAct_344 rfl (lv_at hl 2 rfl) ?_
  refine lv_iload_n hx hb d_M_doAct_345 rfl (lv_at hl 3 rfl) ?_
  refine lv_iload_n hx hb d_M_doAct_346 rfl (lv_at hl 4 rfl) ?_
  refine lv_iconst (v := (nI 1)) hx hb d_M_doAct_347 (by decide) ?_
  refine lv_iload hx hb d_M_doAct_348 (lv_at hl 0 rfl) ?_
  refine yc_v (va_runV (As := [.int _, .int _, .int _, .int _]) (rest := []) ⟨hx, hb, hml, hown, hts⟩ (c_M_give l D cc ad X b0 _ (mo_give (mo_take μ y c0) y i 0 (m_vs μ (128 * y + 8 * c0))) y i 1 hy hn2 hi2 (by omega) _ hrm2) (cwV 4 hts (yg_call mc_M_give ml_M_81 mm_M_give ms_M_give mi_M) rfl rfl rfl (by decide +kernel) ⟨Nat.le_of_ble_eq_true rfl, Nat.le_of_ble_eq_true rfl⟩) (y_preV hI hw (y_recv hK.1 hw mL_o (by rfl) rfl)) rfl rfl hl.1 rfl (lv_room (Nat.le_of_ble_eq_true rfl)) d_M_doAct_350 ⟨Nat.le_of_ble_eq_true rfl, Nat.le_of_ble_eq_true rfl⟩) hw hA (fun u H locs he hw => ?_)
  obtain ⟨μ1, hw, hq⟩ : ∃ z, yH D ycl (va_A (mW cc ad X μ) sz) sv.heap H locs (mW cc ad X z) ∧ mQ μ y i (true, false, some (m_vs μ (128 * y + 8 * c0)), some (m_vs μ (128 * y + 8 * c0)), none) z := ⟨_, hw, mQ_mk (xt.tr ((mX_give hi1 hrm).tr (mX_give hi2 hrm2))) (mI_give hi2 hrm2) (by rw [mD_give hi2 hrm2, mD_give hi1 hrm, mD_take hi hp0, hoc, yq_tk_f, e0]; rfl) (mio_t (mio_g mgive_io mgive_io))⟩
  obtain ⟨q1, q2, q3, q4, q5, q6⟩ := id hq
  have w1 : m_ac μ1 y i = m_ac μ y i := by rw [q4]
  have w2 : m_tn μ1 y i = m_tn μ y i := by rw [q5]
  refine lv_aload_n hx hb d_M_doAct_353 rfl (lv_at hl 2 rfl) ?_
  refine yr_get (C := R_M) (T := F_M) (N := 16) (ci := k_M) hx hb ht j_M hown hK.1 hw mL_o (by rfl) rfl 10 (by decide) (ht _ mf_M_34) (fun _ h9 => h9) (by rfl) d_M_doAct_354 ?_
  refine lv_iload_n hx hb d_M_doAct_357 rfl (lv_at hl 1 rfl) ?_
  refine lv_dup2_11 hx hb d_M_doAct_358 rfl rfl ?_
  refine yr_iald (v := nI (m_ac μ y i)) hx hb hK.1 hw mL_8 (by rfl) 0 rfl (vp_in_nI (N := 20) (by omega) (by omega)) (by rw [nI_clamp (by omega)]; show nI (m_ac μ1 ((10 * y + i) / 10) ((10 * y + i) % 10)) = _; rw [at_flat (f := m_ac μ1) (show i < 10 by omega), w1]) d_M_doAct_359 ?_
  refine lv_iconst (v := (nI 1)) hx hb d_M_doAct_360 (by decide) ?_
  refine lv_iadd hx hb d_M_doAct_361 ?_
  rw [nI_add]
  refine yr_iast hx hb hK.1 hw mL_8 (by rfl) 0 rfl (vp_in_nI (N := 20) (by omega) (by omega)) d_M_doAct_362 (fun H locs hw => ?_)
  rw [nI_clamp (by omega)] at hw
  have hw := mw_ac (up2 (m_ac μ1) y i (m_ac μ y i + 1)) hw (by rw [← upd_flat (show i < 10 by omega)]; rfl)
  have htn0 := mtn0 hq (show ¬ (m_kd μ i = 2 ∨ m_kd μ i = 3) by omega) a7
  exact ye_v hI (mx_ac μ1 (up2 (m_ac μ1) y i (m_ac μ y i + 1))) (mStp_mk hi hn hpl hq (by omega) rfl ⟨rfl, rfl, rfl, rfl, rfl, rfl, rfl, rfl, rfl, rfl⟩ (fun _ _ => rfl) htn0 rfl rfl rfl rfl) hw d_M_doAct_363
