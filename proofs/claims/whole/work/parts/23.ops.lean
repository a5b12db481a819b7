/-! WHAT THE SMALL CHANGES DO TO THE YARD AS NUMBERS AND LISTS -/
/-- nothing has changed outside yard y, nor how many there are -/
def yX (σ : ys) (y : Nat) (σ' : ys) : Prop := s_fl σ' = s_fl σ ∧ σ'.2.1 = σ.2.1 ∧ ∀ y', y' ≠ y → s_ac σ' y' = s_ac σ y' ∧ s_ic σ' y' = s_ic σ y' ∧ s_oc σ' y' = s_oc σ y' ∧ s_rw σ' y' = s_rw σ y' ∧ s_ch σ' y' = s_ch σ y' ∧ s_rg σ' y' = s_rg σ y'
theorem yX.rf {σ : ys} {y : Nat} : yX σ y σ := ⟨rfl, rfl, fun _ _ => ⟨rfl, rfl, rfl, rfl, rfl, rfl⟩⟩
theorem yX.tr {σ σ' σ'' : ys} {y : Nat} (h : yX σ y σ') (h' : yX σ' y σ'') : yX σ y σ'' := by
  refine ⟨h'.1.trans h.1, h'.2.1.trans h.2.1, fun y' hy => ?_⟩
  obtain ⟨a1, a2, a3, a4, a5, a6⟩ := h.2.2 y' hy
  obtain ⟨b1, b2, b3, b4, b5, b6⟩ := h'.2.2 y' hy
  exact ⟨b1.trans a1, b2.trans a2, b3.trans a3, b4.trans a4, b5.trans a5, b6.trans a6⟩
theorem up2_row {β : Type} (f : Nat → Nat → β) {y i y' : Nat} (v : β) (h : y' ≠ y) : up2 f y i v y' = f y' := by
  funext i'
  exact up2_n _ _ (fun q => h q.1)
theorem yX_ch {σ : ys} {y c : Nat} {v : yc} : yX σ y (sx_ch σ y c v) := ⟨rfl, rfl, fun y' hy => ⟨rfl, rfl, rfl, rfl, up2_row (s_ch σ) v hy, rfl⟩⟩
theorem yX_rg {σ : ys} {y c : Nat} {v : Nat → Int32} : yX σ y (sx_rg σ y c v) := ⟨rfl, rfl, fun y' hy => ⟨rfl, rfl, rfl, rfl, rfl, up2_row (s_rg σ) v hy⟩⟩
theorem yX_ac {σ : ys} {y c : Nat} {v : ya} : yX σ y (sx_ac σ y c v) := ⟨rfl, rfl, fun y' hy => ⟨up2_row (s_ac σ) v hy, rfl, rfl, rfl, rfl, rfl⟩⟩
theorem yX_rw {σ : ys} {y c : Nat} {v : Nat → Int32} : yX σ y (sx_rw σ y c v) := ⟨rfl, rfl, fun y' hy => ⟨rfl, rfl, rfl, up2_row (s_rw σ) v hy, rfl, rfl⟩⟩
theorem yX_rd {σ : ys} {y i : Nat} {v : Nat → Int32} : yX σ y (sx_rd σ y i v) := ⟨rfl, rfl, fun y' hy => ⟨rfl, rfl, rfl, rfl, rfl, rfl⟩⟩
theorem yX_put {σ : ys} {y c : Nat} {v : Int32} : yX σ y (yo_put σ y c v) := yX_rg.tr yX_ch
theorem yX_take {σ : ys} {y c : Nat} : yX σ y (yo_take σ y c) := yX_ch
theorem yX_give {σ : ys} {y i j : Nat} {v : Int32} : yX σ y (yo_give σ y i j v) := by
  unfold yo_give
  cases s_oc σ y i j with
  | none => exact yX.rf
  | some c => exact yX_put
theorem yX.sT {σ σ' : ys} {y y' : Nat} (h : yX σ y σ') (hy : y' ≠ y) : s_T σ' y' = s_T σ y' := by
  obtain ⟨a1, a2, a3, a4, a5, a6⟩ := h.2.2 y' hy
  unfold s_T s_n
  rw [a1, a2, a3, a4, a5, h.2.1]
theorem yX.sD {σ σ' : ys} {y y' : Nat} (h : yX σ y σ') (hy : y' ≠ y) : s_D σ' y' = s_D σ y' := by
  obtain ⟨a1, a2, a3, a4, a5, a6⟩ := h.2.2 y' hy
  unfold s_D
  rw [a1, a4, a5, a6]
theorem yX.sn {σ σ' : ys} {y : Nat} (h : yX σ y σ') (y' : Nat) : s_n σ' y' = s_n σ y' := by unfold s_n; rw [h.2.1]
theorem yX.snc {σ σ' : ys} {y : Nat} (h : yX σ y σ') (y' : Nat) : s_nc σ' y' = s_nc σ y' := by unfold s_nc; rw [h.2.1]
theorem yX.I {σ σ' : ys} {y y' : Nat} (h : yX σ y σ') (hy : y' ≠ y) (hi : yI σ y') : yI σ' y' := by
  obtain ⟨a1, a2, a3, a4, a5, a6⟩ := h.2.2 y' hy
  unfold yI at hi ⊢
  rw [h.sT hy, h.sn, h.snc, a1, a2, a3, a5]
  exact hi
theorem yX.L {σ σ' : ys} {y : Nat} (h : yX σ y σ') {LL : List yl} (hL : ∀ q, yL σ q → q ∈ LL) : ∀ q, yL σ' q → q ∈ LL := by
  intro q hq
  apply hL q
  obtain ⟨f, y', i'⟩ := q
  match f, hq with
  | 0, hq => exact hq
  | 1, hq => exact hq
  | 2, hq => exact hq
  | 3, hq => exact hq
  | 4, hq => exact hq
  | 5, hq => exact ⟨hq.1, by rw [← h.sn]; exact hq.2⟩
  | 6, hq => exact ⟨hq.1, by rw [← h.sn]; exact hq.2⟩
  | 7, hq => exact ⟨hq.1, by rw [← h.sn]; exact hq.2⟩
  | 8, hq => exact ⟨hq.1, by rw [← h.sn]; exact hq.2⟩
  | 9, hq => exact ⟨hq.1, by rw [← h.snc]; exact hq.2⟩
  | 10, hq => exact ⟨hq.1, by rw [← h.snc]; exact hq.2⟩
/-- room at an out -/
def yrm (σ : ys) (y i j : Nat) : Prop := ∀ c, s_oc σ y i j = some c → (s_ch σ y c).2.2 < (s_ch σ y c).1
theorem yrm_of {σ : ys} {y i j : Nat} (h : yp_roomb (s_T σ y) (s_D σ y) i j = true) : yrm σ y i j := fun c e => by
  rw [yr_some e] at h
  exact of_decide_eq_true h
/-- channels after a change of one of them -/
theorem s_ch_at {σ : ys} {y c c' : Nat} {v : yc} : s_ch (sx_ch σ y c v) y c' = if c' = c then v else s_ch σ y c' := by
  show up2 (s_ch σ) y c v y c' = _
  by_cases h : c' = c
  · rw [h, up2_s, if_pos rfl]
  · rw [up2_n _ _ (fun q => h q.2), if_neg h]
theorem s_rg_at {σ : ys} {y c c' : Nat} {v : Nat → Int32} : s_rg (sx_rg σ y c v) y c' = if c' = c then v else s_rg σ y c' := by
  show up2 (s_rg σ) y c v y c' = _
  by_cases h : c' = c
  · rw [h, up2_s, if_pos rfl]
  · rw [up2_n _ _ (fun q => h q.2), if_neg h]
theorem s_ac_at {σ : ys} {y c c' : Nat} {v : ya} : s_ac (sx_ac σ y c v) y c' = if c' = c then v else s_ac σ y c' := by
  show up2 (s_ac σ) y c v y c' = _
  by_cases h : c' = c
  · rw [h, up2_s, if_pos rfl]
  · rw [up2_n _ _ (fun q => h q.2), if_neg h]
theorem s_rw_at {σ : ys} {y c c' : Nat} {v : Nat → Int32} : s_rw (sx_rw σ y c v) y c' = if c' = c then v else s_rw σ y c' := by
  show up2 (s_rw σ) y c v y c' = _
  by_cases h : c' = c
  · rw [h, up2_s, if_pos rfl]
  · rw [up2_n _ _ (fun q => h q.2), if_neg h]
theorem ch_take {σ : ys} {y c c' : Nat} : s_ch (yo_take σ y c) y c' = if c' = c then ((s_ch σ y c).1, ((s_ch σ y c).2.1 + 1) % 8, (s_ch σ y c).2.2 - 1) else s_ch σ y c' := s_ch_at
theorem ch_put {σ : ys} {y c c' : Nat} {v : Int32} : s_ch (yo_put σ y c v) y c' = if c' = c then ((s_ch σ y c).1, (s_ch σ y c).2.1, (s_ch σ y c).2.2 + 1) else s_ch σ y c' := s_ch_at
theorem rg_put {σ : ys} {y c c' : Nat} {v : Int32} : s_rg (yo_put σ y c v) y c' = if c' = c then upd (s_rg σ y c) (((s_ch σ y c).2.1 + (s_ch σ y c).2.2) % 8) v else s_rg σ y c' := s_rg_at
theorem T_ch {σ σ' : ys} {y : Nat} (h1 : σ'.2.1 = σ.2.1) (h2 : s_ac σ' y = s_ac σ y) (h3 : s_ic σ' y = s_ic σ y) (h4 : s_oc σ' y = s_oc σ y) (h5 : s_rw σ' y = s_rw σ y) (h6 : ∀ c, (s_ch σ' y c).1 = (s_ch σ y c).1) : s_T σ' y = s_T σ y := by
  unfold s_T s_n
  rw [h1, h2, h3, h4, h5, show (fun c => (s_ch σ' y c).1) = fun c => (s_ch σ y c).1 from funext h6]
theorem T_take {σ : ys} {y c : Nat} : s_T (yo_take σ y c) y = s_T σ y := by
  refine T_ch rfl rfl rfl rfl rfl (fun c' => ?_)
  rw [ch_take]
  by_cases h : c' = c
  · rw [if_pos h, h]
  · rw [if_neg h]
theorem T_put {σ : ys} {y c : Nat} {v : Int32} : s_T (yo_put σ y c v) y = s_T σ y := by
  refine T_ch rfl rfl rfl rfl rfl (fun c' => ?_)
  rw [ch_put]
  by_cases h : c' = c
  · rw [if_pos h, h]
  · rw [if_neg h]
theorem T_give {σ : ys} {y i j : Nat} {v : Int32} : s_T (yo_give σ y i j v) y = s_T σ y := by
  unfold yo_give
  cases s_oc σ y i j with
  | none => rfl
  | some c => exact T_put
theorem D_take {σ : ys} {y c : Nat} (hp : 0 < (s_ch σ y c).2.2) : s_D (yo_take σ y c) y = ((s_D σ y).1, (s_D σ y).2.1, yq_tk true (some c) (s_D σ y).2.2) := by
  show (_, _, _) = (_, _, _)
  refine congrArg (fun z => ((s_D σ y).1, (s_D σ y).2.1, z)) ?_
  funext c'
  show yrq (s_rg σ y c') (s_ch (yo_take σ y c) y c').2.1 (s_ch (yo_take σ y c) y c').2.2 = yq_tk true (some c) (fun c => yrq (s_rg σ y c) (s_ch σ y c).2.1 (s_ch σ y c).2.2) c'
  unfold yq_tk
  rw [ch_take]
  by_cases h : c' = c
  · subst h
    rw [if_pos rfl, if_pos ⟨rfl, rfl⟩, yrq_pop hp]
  · rw [if_neg h, if_neg (fun q => h (Option.some.inj q.2).symm)]
theorem D_put {σ : ys} {y c : Nat} {v : Int32} (hp : (s_ch σ y c).2.2 < 8) : s_D (yo_put σ y c v) y = ((s_D σ y).1, (s_D σ y).2.1, yq_gv (some v) (some c) (s_D σ y).2.2) := by
  show (_, _, _) = (_, _, _)
  refine congrArg (fun z => ((s_D σ y).1, (s_D σ y).2.1, z)) ?_
  funext c'
  show yrq (s_rg (yo_put σ y c v) y c') (s_ch (yo_put σ y c v) y c').2.1 (s_ch (yo_put σ y c v) y c').2.2 = yq_gv (some v) (some c) (fun c => yrq (s_rg σ y c) (s_ch σ y c).2.1 (s_ch σ y c).2.2) c'
  unfold yq_gv
  rw [ch_put, rg_put]
  by_cases h : c' = c
  · subst h
    rw [if_pos rfl, if_pos rfl, if_pos rfl]
    exact yrq_push hp
  · rw [if_neg h, if_neg h, if_neg (fun q => h (Option.some.inj q).symm)]
theorem D_give {σ : ys} {y i j : Nat} {v : Int32} (hi : yI σ y) (hr : yrm σ y i j) : s_D (yo_give σ y i j v) y = ((s_D σ y).1, (s_D σ y).2.1, yq_gv (some v) (s_oc σ y i j) (s_D σ y).2.2) := by
  cases e : s_oc σ y i j with
  | none =>
    rw [yo_give_n e]
    refine congrArg (fun z => ((s_D σ y).1, (s_D σ y).2.1, z)) ?_
    funext c'
    unfold yq_gv
    rw [if_neg (fun q => by cases q)]
    rfl
  | some c =>
    rw [yo_give_s e]
    have h1 := hr c e
    have h2 := hi.2.2.2.1 c
    exact D_put (by omega)
theorem I_take {σ : ys} {y c : Nat} (hi : yI σ y) (hp : 0 < (s_ch σ y c).2.2) : yI (yo_take σ y c) y := by
  obtain ⟨h1, h2, h3, h4, h5, h6, h7⟩ := hi
  refine ⟨⟨h1.1, h1.2.1, fun c' hc' => ?_⟩, h2, h3, fun c' => ?_, h5, h6, by rw [T_take]; exact h7⟩
  · rw [ch_take]
    by_cases h : c' = c
    · rw [h] at hc'
      rw [h1.2.2 c hc'] at hp
      cases hp
    · rw [if_neg h]; exact h1.2.2 c' hc'
  rw [ch_take]
  by_cases h : c' = c
  · rw [if_pos h]
    have := h4 c
    refine ⟨this.1, this.2.1, Nat.mod_lt _ (by omega), ?_⟩
    show (s_ch σ y c).2.2 - 1 ≤ (s_ch σ y c).1
    omega
  · rw [if_neg h]; exact h4 c'
theorem I_put {σ : ys} {y c : Nat} {v : Int32} (hi : yI σ y) (hc : c < s_nc σ y) (hp : (s_ch σ y c).2.2 < (s_ch σ y c).1) : yI (yo_put σ y c v) y := by
  obtain ⟨h1, h2, h3, h4, h5, h6, h7⟩ := hi
  refine ⟨⟨h1.1, h1.2.1, fun c' hc' => ?_⟩, h2, h3, fun c' => ?_, h5, h6, by rw [T_put]; exact h7⟩
  · have hc' : s_nc σ y ≤ c' := hc'
    rw [ch_put, if_neg (by omega)]
    exact h1.2.2 c' hc'
  rw [ch_put]
  by_cases h : c' = c
  · rw [if_pos h]
    have := h4 c
    refine ⟨this.1, this.2.1, this.2.2.1, ?_⟩
    show (s_ch σ y c).2.2 + 1 ≤ (s_ch σ y c).1
    omega
  · rw [if_neg h]; exact h4 c'
theorem I_give {σ : ys} {y i j : Nat} {v : Int32} (hi : yI σ y) (hr : yrm σ y i j) : yI (yo_give σ y i j v) y := by
  cases e : s_oc σ y i j with
  | none => rw [yo_give_n e]; exact hi
  | some c => rw [yo_give_s e]; exact I_put hi (hi.2.2.2.2.2.1 i j c e).2.2 (hr c e)
theorem yrm_take {σ : ys} {y i j c : Nat} (hr : yrm σ y i j) : yrm (yo_take σ y c) y i j := by
  intro c' e
  have h := hr c' e
  rw [ch_take]
  by_cases h2 : c' = c
  · rw [if_pos h2]
    subst h2
    show (s_ch σ y c').2.2 - 1 < (s_ch σ y c').1
    omega
  · rw [if_neg h2]; exact h
theorem oc_give {σ : ys} {y i j : Nat} {v : Int32} : s_oc (yo_give σ y i j v) = s_oc σ := by
  unfold yo_give
  cases s_oc σ y i j with
  | none => rfl
  | some c => rfl
theorem ac_give {σ : ys} {y i j : Nat} {v : Int32} : s_ac (yo_give σ y i j v) = s_ac σ := by
  unfold yo_give
  cases s_oc σ y i j with
  | none => rfl
  | some c => rfl
theorem yrm_give {σ : ys} {y i j j' : Nat} {v : Int32} (hi : yI σ y) (hj : j ≠ j') (hr : yrm σ y i j') : yrm (yo_give σ y i j v) y i j' := by
  intro c' e
  rw [oc_give] at e
  have h := hr c' e
  cases e2 : s_oc σ y i j with
  | none => rw [yo_give_n e2]; exact h
  | some c =>
    rw [yo_give_s e2, ch_put]
    have hne : c' ≠ c := fun q => by
      subst q
      exact hj (hi.2.2.2.2.2.2.2 i i j j' c' e2 e).2
    rw [if_neg hne]
    exact h
theorem hv_take {σ : ys} {y i j j' c c' : Nat} (hi : yI σ y) (hj : j ≠ j') (e : s_ic σ y i j = some c) (e' : s_ic σ y i j' = some c') (hp : 0 < (s_ch σ y c').2.2) : s_ch (yo_take σ y c) y c' = s_ch σ y c' := by
  rw [ch_take]
  have hne : c' ≠ c := fun q => by
    subst q
    exact hj (hi.2.2.2.2.2.2.1 i i j j' c' e e').2
  rw [if_neg hne]
/-- one more act is counted -/
def yo_tick (σ : ys) (y i : Nat) : ys := sx_ac σ y i ((s_ac σ y i).1, (s_ac σ y i).2.1, (s_ac σ y i).2.2.1, (s_ac σ y i).2.2.2.1, (s_ac σ y i).2.2.2.2 + 1)
theorem ac_tick {σ : ys} {y i j : Nat} : s_ac (yo_tick σ y i) y j = if j = i then ((s_ac σ y i).1, (s_ac σ y i).2.1, (s_ac σ y i).2.2.1, (s_ac σ y i).2.2.2.1, (s_ac σ y i).2.2.2.2 + 1) else s_ac σ y j := s_ac_at
theorem ac_tick1 {σ : ys} {y i j : Nat} : (s_ac (yo_tick σ y i) y j).1 = (s_ac σ y j).1 := by
  rw [ac_tick]
  by_cases h : j = i
  · rw [if_pos h, h]
  · rw [if_neg h]
theorem T_tick {σ : ys} {y i : Nat} : s_T (yo_tick σ y i) y = s_T σ y := by
  have h : ∀ (β : Type) (f : Nat → ya → β), (∀ j r t, f j r = f j (r.1, r.2.1, r.2.2.1, r.2.2.2.1, t)) → (fun j => f j (s_ac (yo_tick σ y i) y j)) = fun j => f j (s_ac σ y j) := fun β f hf => by
    funext j
    rw [ac_tick]
    by_cases h : j = i
    · rw [if_pos h, h]; exact (hf i (s_ac σ y i) _).symm
    · rw [if_neg h]
  unfold s_T
  have e1 := h _ (fun _ r => r.1) (fun _ _ _ => rfl)
  have e2 := h _ (fun _ r => r.2.1) (fun _ _ _ => rfl)
  have e3 := h _ (fun _ r => r.2.2.1) (fun _ _ _ => rfl)
  have e4 := h _ (fun j r => yrw (s_rw σ y j) r.2.2.2.1) (fun _ _ _ => rfl)
  show (_, (fun j => (s_ac (yo_tick σ y i) y j).1), (fun j => (s_ac (yo_tick σ y i) y j).2.1), (fun j => (s_ac (yo_tick σ y i) y j).2.2.1), _, _, _, (fun j => yrw (s_rw σ y j) (s_ac (yo_tick σ y i) y j).2.2.2.1)) = _
  rw [e1, e2, e3, e4]
  rfl
theorem D_tick {σ : ys} {y i : Nat} (hk : (s_ac σ y i).1 ≠ 6) : s_D (yo_tick σ y i) y = (va_up (s_D σ y).1 i ((s_D σ y).1 i + 1), (s_D σ y).2.1, (s_D σ y).2.2) := by
  have e1 : (fun j => (s_ac (yo_tick σ y i) y j).2.2.2.2) = va_up (s_D σ y).1 i ((s_D σ y).1 i + 1) := by
    funext j
    rw [ac_tick]
    unfold va_up
    by_cases h : j = i
    · rw [if_pos h, if_pos h]; rfl
    · rw [if_neg h, if_neg h]; rfl
  have e2 : (fun j => if (s_ac (yo_tick σ y i) y j).1 = 6 then yrw (s_rw σ y j) (s_ac (yo_tick σ y i) y j).2.2.2.2 else []) = (s_D σ y).2.1 := by
    funext j
    rw [ac_tick]
    by_cases h : j = i
    · rw [if_pos h, if_neg hk, h]
      show [] = if (s_ac σ y i).1 = 6 then _ else _
      rw [if_neg hk]
    · rw [if_neg h]; rfl
  show (_, _, _) = (_, _, _)
  rw [← e1, ← e2]
  rfl
theorem D_tick6 {σ : ys} {y i : Nat} (hk : (s_ac σ y i).1 = 6) : s_D (yo_tick σ y i) y = (va_up (s_D σ y).1 i ((s_D σ y).1 i + 1), va_up (s_D σ y).2.1 i ((s_D σ y).2.1 i ++ [s_rw σ y i (s_ac σ y i).2.2.2.2]), (s_D σ y).2.2) := by
  have e1 : (fun j => (s_ac (yo_tick σ y i) y j).2.2.2.2) = va_up (s_D σ y).1 i ((s_D σ y).1 i + 1) := by
    funext j
    rw [ac_tick]
    unfold va_up
    by_cases h : j = i
    · rw [if_pos h, if_pos h]; rfl
    · rw [if_neg h, if_neg h]; rfl
  have e2 : (fun j => if (s_ac (yo_tick σ y i) y j).1 = 6 then yrw (s_rw σ y j) (s_ac (yo_tick σ y i) y j).2.2.2.2 else []) = va_up (s_D σ y).2.1 i ((s_D σ y).2.1 i ++ [s_rw σ y i (s_ac σ y i).2.2.2.2]) := by
    funext j
    rw [ac_tick]
    unfold va_up
    by_cases h : j = i
    · rw [if_pos h, if_pos hk, if_pos h, h]
      show yrw (s_rw σ y i) ((s_ac σ y i).2.2.2.2 + 1) = (if (s_ac σ y i).1 = 6 then yrw (s_rw σ y i) (s_ac σ y i).2.2.2.2 else []) ++ _
      rw [if_pos hk]
      unfold yrw
      rw [List.range_succ, List.map_append]
      rfl
    · rw [if_neg h, if_neg h]; rfl
  show (_, _, _) = (_, _, _)
  rw [← e1, ← e2]
  rfl
theorem I_tick {σ : ys} {y i : Nat} (hi : yI σ y) (hn : i < s_n σ y) (h1 : (s_ac σ y i).2.2.2.2 < 100) (h2 : (s_ac σ y i).1 = 6 → (s_ac σ y i).2.2.2.2 < 60) : yI (yo_tick σ y i) y := by
  obtain ⟨a1, a2, a3, a4, a5, a6, a7⟩ := hi
  refine ⟨⟨a1.1, fun j hj => ?_, a1.2.2⟩, a2, fun j => ?_, a4, fun j k c e => ?_, fun j k c e => ?_, by rw [T_tick]; exact a7⟩
  · have hj : s_n σ y ≤ j := hj
    rw [ac_tick, if_neg (by omega)]
    exact a1.2.1 j hj
  · rw [ac_tick]
    by_cases h : j = i
    · rw [if_pos h]
      obtain ⟨b1, b2, b3, b4, b5⟩ := a3 i
      exact ⟨b1, b2, b3, h1, fun q => h2 q⟩
    · rw [if_neg h]; exact a3 j
  · rw [ac_tick1]; exact a5 j k c e
  · rw [ac_tick1]; exact a6 j k c e
theorem yX_tick {σ : ys} {y i : Nat} : yX σ y (yo_tick σ y i) := yX_ac
/-- what an act does -/
def yStp (σ : ys) (y i : Nat) (σ' : ys) : Prop := yX σ y σ' ∧ s_T σ' y = s_T σ y ∧ s_D σ' y = yp_act (s_T σ y) (s_D σ y) i ∧ yI σ' y
/-- a sink's row gets one value more, behind those that it kept -/
def yo_keep (σ : ys) (y i : Nat) (v : Int32) : ys := sx_rw σ y i (upd (s_rw σ y i) (s_ac σ y i).2.2.2.2 v)
theorem T_keep {σ : ys} {y i : Nat} {v : Int32} (hi : yI σ y) (hk : (s_ac σ y i).1 = 6) : s_T (yo_keep σ y i v) y = s_T σ y := by
  have e4 : (fun j => yrw (s_rw (yo_keep σ y i v) y j) (s_ac σ y j).2.2.2.1) = fun j => yrw (s_rw σ y j) (s_ac σ y j).2.2.2.1 := by
    funext j
    show yrw (s_rw (sx_rw σ y i _) y j) _ = _
    rw [s_rw_at]
    by_cases h : j = i
    · rw [if_pos h, h, (hi.2.2.1 i).2.2.1 (by omega)]; rfl
    · rw [if_neg h]
  show (_, _, _, _, _, _, _, (fun j => yrw (s_rw (yo_keep σ y i v) y j) (s_ac σ y j).2.2.2.1)) = _
  rw [e4]
  rfl
theorem D_keep {σ : ys} {y i : Nat} {v : Int32} : s_D (yo_keep σ y i v) y = s_D σ y := by
  have e : (fun j => if (s_ac σ y j).1 = 6 then yrw (s_rw (yo_keep σ y i v) y j) (s_ac σ y j).2.2.2.2 else []) = (s_D σ y).2.1 := by
    funext j
    show (if (s_ac σ y j).1 = 6 then yrw (s_rw (sx_rw σ y i _) y j) _ else []) = if (s_ac σ y j).1 = 6 then yrw (s_rw σ y j) _ else []
    rw [s_rw_at]
    by_cases h : j = i
    · rw [if_pos h, h, yrw_congr (r' := s_rw σ y i) (fun k hk => pk_un (by omega))]
    · rw [if_neg h]
  show (_, (fun j => if (s_ac σ y j).1 = 6 then yrw (s_rw (yo_keep σ y i v) y j) (s_ac σ y j).2.2.2.2 else []), _) = _
  rw [e]
  rfl
theorem I_keep {σ : ys} {y i : Nat} {v : Int32} (hi : yI σ y) (hk : (s_ac σ y i).1 = 6) : yI (yo_keep σ y i v) y := by
  obtain ⟨a1, a2, a3, a4, a5, a6, a7⟩ := id hi
  exact ⟨a1, a2, a3, a4, a5, a6, by rw [T_keep hi hk]; exact a7⟩
theorem yStp_mk {σ σ1 : ys} {y i : Nat} {p : yp_P} (hi : yI σ y) (hn : i < s_n σ y) (hp : yp_pl (s_T σ y) (s_D σ y) i = some p) (hX : yX σ y σ1) (hT : s_T σ1 y = s_T σ y) (hD : s_D σ1 y = ((s_D σ y).1, (s_D σ y).2.1, yq_gv p.2.2.2.1 (s_oc σ y i 1) (yq_gv p.2.2.1 (s_oc σ y i 0) (yq_tk p.2.1 (s_ic σ y i 1) (yq_tk p.1 (s_ic σ y i 0) (s_D σ y).2.2))))) (hk : s_ac σ1 y i = s_ac σ y i) (h6 : (s_ac σ y i).1 ≠ 6) (hkp : p.2.2.2.2 = none) (hI : yI σ1 y) : yStp σ y i (yo_tick σ1 y i) := by
  have ht : (s_ac σ y i).2.2.2.2 < 100 := yp_plan_lt hp
  refine ⟨hX.tr yX_tick, T_tick.trans hT, ?_, I_tick hI (by rw [hX.sn]; exact hn) (by rw [hk]; exact ht) (fun q => absurd (by rw [← hk]; exact q) h6)⟩
  rw [D_tick (by rw [hk]; exact h6), hD, yp_act_of hp]
  show (_, _, _) = (_, yp_kp i p (s_D σ y).2.1, yp_q (s_T σ y) i p (s_D σ y).2.2)
  rw [yp_q_seq hi.2.2.2.2.2.2]
  unfold yp_kp
  rw [hkp]
  rfl
theorem yStp_mk6 {σ σ1 : ys} {y i c : Nat} {v : Int32} (hi : yI σ y) (hn : i < s_n σ y) (hk6 : (s_ac σ y i).1 = 6) (h60 : (s_ac σ y i).2.2.2.2 < 60) (hp : yp_pl (s_T σ y) (s_D σ y) i = some (true, false, none, none, some v)) (e : s_ic σ y i 0 = some c) (hp0 : 0 < (s_ch σ y c).2.2) (h1 : σ1 = yo_keep (yo_take σ y c) y i v) : yStp σ y i (yo_tick σ1 y i) := by
  subst h1
  have hit := I_take hi hp0
  have hk : s_ac (yo_keep (yo_take σ y c) y i v) y i = s_ac σ y i := rfl
  refine ⟨(yX_take.tr yX_rw).tr yX_tick, T_tick.trans ((T_keep hit hk6).trans T_take), ?_, I_tick (I_keep hit hk6) hn (by rw [hk]; omega) (fun _ => by rw [hk]; exact h60)⟩
  rw [D_tick6 (σ := yo_keep (yo_take σ y c) y i v) hk6, D_keep, D_take hp0, yp_act_of hp]
  show (_, _, _) = (_, yp_kp i (true, false, none, none, some v) (s_D σ y).2.1, yp_q (s_T σ y) i (true, false, none, none, some v) (s_D σ y).2.2)
  rw [yp_q_seq hi.2.2.2.2.2.2]
  show (_, va_up _ i (_ ++ [s_rw (sx_rw (yo_take σ y c) y i _) y i _]), _) = (_, va_up _ i (_ ++ [v]), yq_gv none _ (yq_gv none _ (yq_tk false _ (yq_tk true (s_ic σ y i 0) _))))
  rw [s_rw_at, if_pos rfl, yq_gv_n, yq_gv_n, yq_tk_f, e]
  show (_, va_up _ i (_ ++ [upd _ (s_ac σ y i).2.2.2.2 v (s_ac σ y i).2.2.2.2]), _) = _
  rw [pk_us]
section YPL
variable {T : yp_T} {d : yp_D} {i : Nat}
theorem ypl0 (h : ¬ 100 ≤ d.1 i) (hk : yp_kd T i = 0) {v : Int32} (hh : (yp_sr T i)[d.1 i]? = some v) : yp_pl T d i = some (false, false, some v, none, none) := by
  unfold yp_pl yp_plan; rw [if_neg h, hk, hh]; rfl
theorem ypl1 (h : ¬ 100 ≤ d.1 i) (hk : yp_kd T i = 1) {v : Int32} (hh : yp_hd T d i 0 = some v) : yp_pl T d i = some (true, false, some (v * yp_a T i + yp_b T i), none, none) := by
  unfold yp_pl yp_plan; rw [if_neg h, hk, hh]; rfl
theorem ypl2 (h : ¬ 100 ≤ d.1 i) (hk : yp_kd T i = 2) {v : Int32} (hh : yp_hd T d i 0 = some v) : yp_pl T d i = some (if d.1 i % 2 = 0 then (true, false, some v, none, none) else (true, false, none, some v, none)) := by
  unfold yp_pl yp_plan; rw [if_neg h, hk, hh]; rfl
theorem ypl3a (h : ¬ 100 ≤ d.1 i) (hk : yp_kd T i = 3) (h2 : d.1 i % 2 = 0) {v : Int32} (hh : yp_hd T d i 0 = some v) : yp_pl T d i = some (true, false, some v, none, none) := by
  unfold yp_pl yp_plan; rw [if_neg h, hk, hh]; simp [h2]
theorem ypl3b (h : ¬ 100 ≤ d.1 i) (hk : yp_kd T i = 3) (h2 : d.1 i % 2 = 1) {v : Int32} (hh : yp_hd T d i 1 = some v) : yp_pl T d i = some (false, true, some v, none, none) := by
  unfold yp_pl yp_plan; rw [if_neg h, hk, hh]; simp [h2]
theorem ypl4 (h : ¬ 100 ≤ d.1 i) (hk : yp_kd T i = 4) {v w : Int32} (hh : yp_hd T d i 0 = some v) (hh1 : yp_hd T d i 1 = some w) : yp_pl T d i = some (true, true, some (v + w), none, none) := by
  unfold yp_pl yp_plan; rw [if_neg h, hk, hh, hh1]; rfl
theorem ypl5a (h : ¬ 100 ≤ d.1 i) (hk : yp_kd T i = 5) (h2 : d.1 i = 0) : yp_pl T d i = some (false, false, some (yp_a T i), none, none) := by
  unfold yp_pl yp_plan; rw [if_neg h, hk]; simp [h2]
theorem ypl5b (h : ¬ 100 ≤ d.1 i) (hk : yp_kd T i = 5) (h2 : ¬ d.1 i = 0) {v : Int32} (hh : yp_hd T d i 0 = some v) : yp_pl T d i = some (true, false, some v, none, none) := by
  unfold yp_pl yp_plan; rw [if_neg h, hk, hh]; simp [h2]
theorem ypl6 (h : ¬ 100 ≤ d.1 i) (hk : yp_kd T i = 6) (h2 : d.1 i < 60) {v : Int32} (hh : yp_hd T d i 0 = some v) : yp_pl T d i = some (true, false, none, none, some v) := by
  unfold yp_pl yp_plan; rw [if_neg h, hk, hh]; simp [show ¬ 60 ≤ d.1 i by omega]
theorem ypl7 (h : ¬ 100 ≤ d.1 i) (hk : yp_kd T i = 7) {v w : Int32} (hh : yp_hd T d i 0 = some v) (hh1 : yp_hd T d i 1 = some w) : yp_pl T d i = some (true, true, if v = 0 then none else some w, none, none) := by
  unfold yp_pl yp_plan; rw [if_neg h, hk, hh, hh1]; rfl
theorem ypl8 (h : ¬ 100 ≤ d.1 i) (hk : yp_kd T i = 8) {v : Int32} (hh : yp_hd T d i 0 = some v) : yp_pl T d i = some (true, false, some v, some v, none) := by
  unfold yp_pl yp_plan; rw [if_neg h, hk, hh]; rfl
end YPL
