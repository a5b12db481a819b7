/-! THE REFERENCE: what its small changes do to the yard as numbers and lists -/
def mS (μ μ' : ms) : Prop := m_n μ' = m_n μ ∧ m_nc μ' = m_nc μ ∧ m_kd μ' = m_kd μ ∧ m_a μ' = m_a μ ∧ m_b μ' = m_b μ ∧ m_tc μ' = m_tc μ ∧ m_td μ' = m_td μ ∧ m_rm μ' = m_rm μ ∧ m_ic μ' = m_ic μ ∧ m_oc μ' = m_oc μ
/-- nothing has changed but in row y -/
def mX (μ : ms) (y : Nat) (μ' : ms) : Prop := mS μ μ' ∧ (∀ y', y' ≠ y → m_ac μ' y' = m_ac μ y' ∧ m_tn μ' y' = m_tn μ y' ∧ m_kc μ' y' = m_kc μ y' ∧ m_ct μ' y' = m_ct μ y') ∧ (∀ j, ¬ (128 * y ≤ j ∧ j < 128 * y + 128) → m_vs μ' j = m_vs μ j) ∧ (∀ j, ¬ (600 * y ≤ j ∧ j < 600 * y + 600) → m_kp μ' j = m_kp μ j)
theorem mS.rf {μ : ms} : mS μ μ := ⟨rfl, rfl, rfl, rfl, rfl, rfl, rfl, rfl, rfl, rfl⟩
theorem mS.tr {μ μ' μ'' : ms} (h : mS μ μ') (h' : mS μ' μ'') : mS μ μ'' := by
  obtain ⟨a1, a2, a3, a4, a5, a6, a7, a8, a9, a10⟩ := h
  obtain ⟨b1, b2, b3, b4, b5, b6, b7, b8, b9, b10⟩ := h'
  exact ⟨b1.trans a1, b2.trans a2, b3.trans a3, b4.trans a4, b5.trans a5, b6.trans a6, b7.trans a7, b8.trans a8, b9.trans a9, b10.trans a10⟩
theorem mX.rf {μ : ms} {y : Nat} : mX μ y μ := ⟨mS.rf, fun _ _ => ⟨rfl, rfl, rfl, rfl⟩, fun _ _ => rfl, fun _ _ => rfl⟩
theorem mX.tr {μ μ' μ'' : ms} {y : Nat} (h : mX μ y μ') (h' : mX μ' y μ'') : mX μ y μ'' := by
  refine ⟨h.1.tr h'.1, fun y' hy => ?_, fun j hj => (h'.2.2.1 j hj).trans (h.2.2.1 j hj), fun j hj => (h'.2.2.2 j hj).trans (h.2.2.2 j hj)⟩
  obtain ⟨a1, a2, a3, a4⟩ := h.2.1 y' hy
  obtain ⟨b1, b2, b3, b4⟩ := h'.2.1 y' hy
  exact ⟨b1.trans a1, b2.trans a2, b3.trans a3, b4.trans a4⟩
theorem mS.T {μ μ' : ms} (h : mS μ μ') : m_T μ' = m_T μ := by
  obtain ⟨a1, a2, a3, a4, a5, a6, a7, a8, a9, a10⟩ := h
  unfold m_T
  rw [a1, a2, a3, a4, a5, a6, a7, a8, a9, a10]
/-- the other row stays -/
theorem mX.D {μ μ' : ms} {y z : Nat} (h : mX μ y μ') (hz : z ≠ y) (hi : mI μ z) : m_D μ' z = m_D μ z := by
  obtain ⟨h1, h2, h3, h4⟩ := h
  obtain ⟨c1, c2, c3, c4⟩ := h2 z hz
  have hkd := h1.2.2.1
  unfold m_D
  rw [c1, c3, c4, hkd]
  have e1 : (fun i => if m_kd μ i = 6 then (List.range (m_kc μ z i)).map (fun j => m_kp μ' (600 * z + 60 * i + j)) else []) = fun i => if m_kd μ i = 6 then (List.range (m_kc μ z i)).map (fun j => m_kp μ (600 * z + 60 * i + j)) else [] := by
    funext i
    by_cases hk : m_kd μ i = 6
    · rw [if_pos hk, if_pos hk]
      apply List.map_congr_left
      intro j hj
      have hj := List.mem_range.mp hj
      obtain ⟨a1, a2, a3, a4, a5, a6, a7⟩ := hi.2.2.2.2.1 i
      rw [if_pos hk] at a6
      have a5 := a5 hk
      have hin : i < 10 := by
        rcases Nat.lt_or_ge i (m_n μ) with q | q
        · have := hi.1; omega
        · have := (hi.2.2.1 i q).1; omega
      exact h4 _ (by omega)
    · rw [if_neg hk, if_neg hk]
  have e2 : (fun c => (List.range (m_ct μ z c)).map (fun k => m_vs μ' (128 * z + 8 * c + k))) = fun c => (List.range (m_ct μ z c)).map (fun k => m_vs μ (128 * z + 8 * c + k)) := by
    funext c
    apply List.map_congr_left
    intro k hk
    have hk := List.mem_range.mp hk
    have hc : c < m_nc μ := by
      rcases Nat.lt_or_ge c (m_nc μ) with q | q
      · exact q
      · have := hi.2.2.2.1 c q; omega
    have := hi.2.2.2.2.2.1 c hc
    have := hi.2.1
    exact h3 _ (by omega)
  rw [e1, e2]
theorem mup_row {f : Nat → Nat → Nat} {y i v y' : Nat} (h : y' ≠ y) : up2 f y i v y' = f y' := funext fun i' => up2_n _ _ (fun q => h q.1)
theorem mup_at {f : Nat → Nat → Nat} {y i v j : Nat} : up2 f y i v y j = if j = i then v else f y j := by
  by_cases h : j = i
  · rw [h, up2_s, if_pos rfl]
  · rw [up2_n _ _ (fun q => h q.2), if_neg h]
theorem mX_take {μ : ms} {y c : Nat} (hc : c < 16) (h8 : m_ct μ y c ≤ 8) : mX μ y (mo_take μ y c) := by
  refine ⟨mS.rf, fun y' hy => ⟨rfl, rfl, rfl, mup_row hy⟩, fun j hj => ?_, fun _ _ => rfl⟩
  show mo_sh (m_vs μ) _ _ j = _
  exact if_neg (fun q => by omega)
theorem mX_put {μ : ms} {y c : Nat} {v : Int32} (hc : c < 16) (h8 : m_ct μ y c < 8) : mX μ y (mo_put μ y c v) := by
  refine ⟨mS.rf, fun y' hy => ⟨rfl, rfl, rfl, mup_row hy⟩, fun j hj => ?_, fun _ _ => rfl⟩
  show upd (m_vs μ) _ _ j = _
  exact pk_un (by omega)
theorem mc_lt {μ : ms} {y c : Nat} (hi : mI μ y) (hp : 0 < m_ct μ y c) : c < m_nc μ := by
  rcases Nat.lt_or_ge c (m_nc μ) with q | q
  · exact q
  · have := hi.2.2.2.1 c q; omega
theorem mD_take {μ : ms} {y c : Nat} (hi : mI μ y) (hp : 0 < m_ct μ y c) : m_D (mo_take μ y c) y = ((m_D μ y).1, (m_D μ y).2.1, yq_tk true (some c) (m_D μ y).2.2) := by
  have hc := mc_lt hi hp
  have hc16 := hi.2.1
  have hb := hi.2.2.2.2.2.1 c hc
  have e : (m_D (mo_take μ y c) y).2.2 = yq_tk true (some c) (m_D μ y).2.2 := by
    funext c'
    have hct : m_ct (mo_take μ y c) y c' = if c' = c then m_ct μ y c - 1 else m_ct μ y c' := mup_at
    apply List.ext_getElem?
    intro k
    unfold yq_tk
    by_cases h : c' = c
    · rw [if_pos ⟨rfl, by rw [h]⟩, List.getElem?_tail]
      rw [if_pos h] at hct
      by_cases hk : k < m_ct μ y c - 1
      · rw [mq_get (by rw [hct]; exact hk), h, mq_get (by omega)]
        show some (mo_sh (m_vs μ) (128 * y + 8 * c) (m_ct μ y c - 1) (128 * y + 8 * c + k)) = _
        unfold mo_sh
        rw [if_pos ⟨by omega, by omega⟩]
        rfl
      · rw [List.getElem?_eq_none (by rw [mq_len, hct]; omega), List.getElem?_eq_none (by rw [mq_len, h]; omega)]
    · rw [if_neg (fun q => h (Option.some.inj q.2).symm)]
      rw [if_neg h] at hct
      by_cases hk : k < m_ct μ y c'
      · rw [mq_get (by rw [hct]; exact hk), mq_get hk]
        show some (mo_sh (m_vs μ) (128 * y + 8 * c) (m_ct μ y c - 1) (128 * y + 8 * c' + k)) = _
        have hc' := mc_lt (c := c') hi (by omega)
        have hb' := hi.2.2.2.2.2.1 c' hc'
        unfold mo_sh
        rw [if_neg (fun q => by omega)]
      · rw [List.getElem?_eq_none (by rw [mq_len, hct]; omega), List.getElem?_eq_none (by rw [mq_len]; omega)]
  show ((m_D μ y).1, (m_D μ y).2.1, (m_D (mo_take μ y c) y).2.2) = _
  rw [e]
theorem mD_put {μ : ms} {y c : Nat} {v : Int32} (hi : mI μ y) (hc : c < m_nc μ) (h8 : m_ct μ y c < 8) : m_D (mo_put μ y c v) y = ((m_D μ y).1, (m_D μ y).2.1, yq_gv (some v) (some c) (m_D μ y).2.2) := by
  have hc16 := hi.2.1
  have e : (m_D (mo_put μ y c v) y).2.2 = yq_gv (some v) (some c) (m_D μ y).2.2 := by
    funext c'
    have hct : m_ct (mo_put μ y c v) y c' = if c' = c then m_ct μ y c + 1 else m_ct μ y c' := mup_at
    have hvs : ∀ j, m_vs (mo_put μ y c v) j = upd (m_vs μ) (128 * y + 8 * c + m_ct μ y c) v j := fun j => rfl
    apply List.ext_getElem?
    intro k
    unfold yq_gv
    by_cases h : c' = c
    · rw [if_pos (by rw [h])]
      rw [if_pos h] at hct
      by_cases hk : k < m_ct μ y c
      · rw [mq_get (by rw [hct]; omega), hvs, h, List.getElem?_append_left (by rw [mq_len]; exact hk), mq_get hk, pk_un (by omega)]
      · by_cases hk2 : k = m_ct μ y c
        · rw [mq_get (by rw [hct]; omega), hvs, h, List.getElem?_append_right (by rw [mq_len]; omega), mq_len, hk2, Nat.sub_self, pk_us]
          rfl
        · rw [List.getElem?_eq_none (by rw [mq_len, hct]; omega), List.getElem?_eq_none (by rw [List.length_append, mq_len, h]; simp; omega)]
    · rw [if_neg (fun q => h (Option.some.inj q).symm)]
      rw [if_neg h] at hct
      by_cases hk : k < m_ct μ y c'
      · have hc' := mc_lt (c := c') hi (by omega)
        have hb' := hi.2.2.2.2.2.1 c' hc'
        rw [mq_get (by rw [hct]; exact hk), hvs, mq_get hk, pk_un (by omega)]
      · rw [List.getElem?_eq_none (by rw [mq_len, hct]; omega), List.getElem?_eq_none (by rw [mq_len]; omega)]
  show ((m_D μ y).1, (m_D μ y).2.1, (m_D (mo_put μ y c v) y).2.2) = _
  rw [e]
theorem mI_ct {μ μ' : ms} {y : Nat} (hi : mI μ y) (hS : mS μ μ') (hac : m_ac μ' y = m_ac μ y) (htn : m_tn μ' y = m_tn μ y) (hkc : m_kc μ' y = m_kc μ y) (h1 : ∀ c, m_nc μ ≤ c → m_ct μ' y c = 0) (h2 : ∀ c, c < m_nc μ → m_ct μ' y c ≤ m_rm μ c) : mI μ' y := by
  have hT := hS.T
  obtain ⟨a1, a2, a3, a4, a5, a6, a7, a8, a9, a10⟩ := hS
  obtain ⟨b1, b2, b3, b4, b5, b6, b7, b8, b9⟩ := hi
  unfold mI
  rw [hT, a1, a2, a3, a4, a5, a6, a8, a9, a10, hac, htn, hkc]
  exact ⟨b1, b2, b3, h1, b5, fun c hc => ⟨(b6 c hc).1, (b6 c hc).2.1, h2 c hc⟩, b7, b8, b9⟩
theorem mI_take {μ : ms} {y c : Nat} (hi : mI μ y) (hp : 0 < m_ct μ y c) : mI (mo_take μ y c) y := by
  have hct : ∀ c', m_ct (mo_take μ y c) y c' = if c' = c then m_ct μ y c - 1 else m_ct μ y c' := fun c' => mup_at
  have hc := mc_lt hi hp
  refine mI_ct hi mS.rf rfl rfl rfl (fun c' hc' => ?_) (fun c' hc' => ?_)
  · rw [hct, if_neg (by omega)]; exact hi.2.2.2.1 c' hc'
  · rw [hct]
    by_cases h : c' = c
    · rw [if_pos h, h]; have := hi.2.2.2.2.2.1 c hc; omega
    · rw [if_neg h]; exact (hi.2.2.2.2.2.1 c' hc').2.2
theorem mI_put {μ : ms} {y c : Nat} {v : Int32} (hi : mI μ y) (hc : c < m_nc μ) (hp : m_ct μ y c < m_rm μ c) : mI (mo_put μ y c v) y := by
  have hct : ∀ c', m_ct (mo_put μ y c v) y c' = if c' = c then m_ct μ y c + 1 else m_ct μ y c' := fun c' => mup_at
  refine mI_ct hi mS.rf rfl rfl rfl (fun c' hc' => ?_) (fun c' hc' => ?_)
  · rw [hct, if_neg (by omega)]; exact hi.2.2.2.1 c' hc'
  · rw [hct]
    by_cases h : c' = c
    · rw [if_pos h, h]; omega
    · rw [if_neg h]; exact (hi.2.2.2.2.2.1 c' hc').2.2
/-- room at an out -/
def mrm (μ : ms) (y i j : Nat) : Prop := ∀ c, m_oc μ i j = some c → m_ct μ y c < m_rm μ c
theorem mrm_of {μ : ms} {y i j : Nat} (hi : mI μ y) (h : yp_roomb (m_T μ) (m_D μ y) i j = true) : mrm μ y i j := fun c e => by
  rw [mr_some e (hi.2.2.2.2.2.2.2.1 i j c e).2.2] at h
  exact of_decide_eq_true h
theorem mrm_take {μ : ms} {y i j c : Nat} (hr : mrm μ y i j) : mrm (mo_take μ y c) y i j := by
  intro c' e
  have h := hr c' e
  have hct : m_ct (mo_take μ y c) y c' = if c' = c then m_ct μ y c - 1 else m_ct μ y c' := mup_at
  show m_ct (mo_take μ y c) y c' < m_rm μ c'
  rw [hct]
  by_cases h2 : c' = c
  · rw [if_pos h2]; rw [h2] at h ⊢; omega
  · rw [if_neg h2]; exact h
theorem mgive_io {μ : ms} {y i j : Nat} {v : Int32} : mS μ (mo_give μ y i j v) ∧ m_ac (mo_give μ y i j v) = m_ac μ ∧ m_tn (mo_give μ y i j v) = m_tn μ ∧ m_kc (mo_give μ y i j v) = m_kc μ ∧ m_kp (mo_give μ y i j v) = m_kp μ := by
  cases e : m_oc μ i j with
  | none => rw [mo_give_n e]; exact ⟨mS.rf, rfl, rfl, rfl, rfl⟩
  | some c => rw [mo_give_s e]; exact ⟨mS.rf, rfl, rfl, rfl, rfl⟩
theorem mX_give {μ : ms} {y i j : Nat} {v : Int32} (hi : mI μ y) (hr : mrm μ y i j) : mX μ y (mo_give μ y i j v) := by
  cases e : m_oc μ i j with
  | none => rw [mo_give_n e]; exact mX.rf
  | some c =>
    rw [mo_give_s e]
    have h1 := hr c e
    have h2 := (hi.2.2.2.2.2.2.2.1 i j c e).2.2
    have h3 := hi.2.2.2.2.2.1 c h2
    have h4 := hi.2.1
    exact mX_put (by omega) (by omega)
theorem mD_give {μ : ms} {y i j : Nat} {v : Int32} (hi : mI μ y) (hr : mrm μ y i j) : m_D (mo_give μ y i j v) y = ((m_D μ y).1, (m_D μ y).2.1, yq_gv (some v) (m_oc μ i j) (m_D μ y).2.2) := by
  cases e : m_oc μ i j with
  | none =>
    rw [mo_give_n e]
    have h : yq_gv (some v) none (m_D μ y).2.2 = (m_D μ y).2.2 := funext fun c => if_neg (fun q => by cases q)
    rw [h]
  | some c =>
    rw [mo_give_s e]
    have h1 := hr c e
    have h2 := (hi.2.2.2.2.2.2.2.1 i j c e).2.2
    have h3 := hi.2.2.2.2.2.1 c h2
    exact mD_put hi h2 (by omega)
theorem mI_give {μ : ms} {y i j : Nat} {v : Int32} (hi : mI μ y) (hr : mrm μ y i j) : mI (mo_give μ y i j v) y := by
  cases e : m_oc μ i j with
  | none => rw [mo_give_n e]; exact hi
  | some c => rw [mo_give_s e]; exact mI_put hi (hi.2.2.2.2.2.2.2.1 i j c e).2.2 (hr c e)
theorem mrm_give {μ : ms} {y i j j' : Nat} {v : Int32} (hi : mI μ y) (hj : j ≠ j') (hr : mrm μ y i j') : mrm (mo_give μ y i j v) y i j' := by
  intro c' e
  obtain ⟨hS, -⟩ := mgive_io (μ := μ) (y := y) (i := i) (j := j) (v := v)
  rw [hS.2.2.2.2.2.2.2.2.2] at e
  rw [hS.2.2.2.2.2.2.2.1]
  have h := hr c' e
  cases e2 : m_oc μ i j with
  | none => rw [mo_give_n e2]; exact h
  | some c =>
    rw [mo_give_s e2]
    have hct : m_ct (mo_put μ y c v) y c' = if c' = c then m_ct μ y c + 1 else m_ct μ y c' := mup_at
    have hne : c' ≠ c := fun q => by
      subst q
      exact hj (hi.2.2.2.2.2.2.2.2.2 i i j j' c' e2 e).2
    rw [hct, if_neg hne]
    exact h
theorem mhv_take {μ : ms} {y i j j' c c' : Nat} (hi : mI μ y) (hj : j ≠ j') (e : m_ic μ i j = some c) (e' : m_ic μ i j' = some c') : m_ct (mo_take μ y c) y c' = m_ct μ y c' ∧ ∀ k, k < 8 → c < 16 → m_ct μ y c ≤ 8 → m_vs (mo_take μ y c) (128 * y + 8 * c' + k) = m_vs μ (128 * y + 8 * c' + k) := by
  have hne : c' ≠ c := fun q => by
    subst q
    exact hj (hi.2.2.2.2.2.2.2.2.1 i i j j' c' e e').2
  refine ⟨?_, fun k hk h1 h2 => ?_⟩
  · have hct : m_ct (mo_take μ y c) y c' = if c' = c then m_ct μ y c - 1 else m_ct μ y c' := mup_at
    rw [hct, if_neg hne]
  · show mo_sh (m_vs μ) _ _ _ = _
    exact if_neg (fun q => by omega)
