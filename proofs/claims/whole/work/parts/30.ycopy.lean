/-! YARD: copyFrom -/
/-- built alike -/
def yE (σ : ys) (y z : Nat) : Prop := s_n σ y = s_n σ z ∧ s_nc σ y = s_nc σ z ∧ (∀ i, (s_ac σ y i).1 = (s_ac σ z i).1 ∧ (s_ac σ y i).2.1 = (s_ac σ z i).2.1 ∧ (s_ac σ y i).2.2.1 = (s_ac σ z i).2.2.1) ∧ s_ic σ y = s_ic σ z ∧ s_oc σ y = s_oc σ z ∧ ∀ c, (s_ch σ y c).1 = (s_ch σ z c).1
def yo_cpA (σ : ys) (y z : Nat) : Nat → ys
  | 0 => σ
  | i + 1 => yo_cpa (yo_cpA σ y z i) y z i
def yo_cpC (σ : ys) (y z : Nat) : Nat → ys
  | 0 => σ
  | i + 1 => yo_cpc (yo_cpC σ y z i) y z i
theorem cpa_X {σ : ys} {y z i : Nat} : yX σ y (yo_cpa σ y z i) := yX_rw.tr yX_ac
theorem cpc_X {σ : ys} {y z i : Nat} : yX σ y (yo_cpc σ y z i) := yX_rg.tr yX_ch
theorem cpA_X {σ : ys} {y z : Nat} : ∀ i, yX σ y (yo_cpA σ y z i)
  | 0 => yX.rf
  | i + 1 => (cpA_X i).tr cpa_X
theorem cpC_X {σ : ys} {y z : Nat} : ∀ i, yX σ y (yo_cpC σ y z i)
  | 0 => yX.rf
  | i + 1 => (cpC_X i).tr cpc_X
theorem cpa_ac {σ : ys} {y z i j : Nat} : s_ac (yo_cpa σ y z i) y j = if j = i then ((s_ac σ y i).1, (s_ac σ y i).2.1, (s_ac σ y i).2.2.1, (s_ac σ z i).2.2.2.1, (s_ac σ z i).2.2.2.2) else s_ac σ y j := s_ac_at
theorem cpa_rw {σ : ys} {y z i j : Nat} : s_rw (yo_cpa σ y z i) y j = if j = i then va_cpy (s_rw σ z i) (s_rw σ y i) 0 0 (yt_rows (s_ac σ y i).1) else s_rw σ y j := s_rw_at
theorem cpc_ch {σ : ys} {y z i j : Nat} : s_ch (yo_cpc σ y z i) y j = if j = i then ((s_ch σ y i).1, (s_ch σ z i).2.1, (s_ch σ z i).2.2) else s_ch σ y j := s_ch_at
theorem cpc_rg {σ : ys} {y z i j : Nat} : s_rg (yo_cpc σ y z i) y j = if j = i then va_cpy (s_rg σ z i) (s_rg σ y i) 0 0 8 else s_rg σ y j := s_rg_at
theorem cpA_ac {σ : ys} {y z : Nat} (h : z ≠ y) : ∀ i j, s_ac (yo_cpA σ y z i) y j = if j < i then ((s_ac σ y j).1, (s_ac σ y j).2.1, (s_ac σ y j).2.2.1, (s_ac σ z j).2.2.2.1, (s_ac σ z j).2.2.2.2) else s_ac σ y j
  | 0, j => by rw [if_neg (Nat.not_lt_zero j)]; rfl
  | i + 1, j => by
    show s_ac (yo_cpa (yo_cpA σ y z i) y z i) y j = _
    rw [cpa_ac, ((cpA_X i).2.2 z h).1]
    by_cases h1 : j = i
    · subst h1
      rw [if_pos rfl, if_pos (Nat.lt_succ_self j), cpA_ac h j j, if_neg (Nat.lt_irrefl j)]
    · rw [if_neg h1, cpA_ac h i j]
      by_cases h2 : j < i
      · rw [if_pos h2, if_pos (by omega)]
      · rw [if_neg h2, if_neg (by omega)]
theorem cpA_rw {σ : ys} {y z : Nat} (h : z ≠ y) : ∀ i j k, s_rw (yo_cpA σ y z i) y j k = if j < i ∧ k < yt_rows (s_ac σ y j).1 then s_rw σ z j k else s_rw σ y j k
  | 0, j, k => by rw [if_neg (fun q => Nat.not_lt_zero j q.1)]; rfl
  | i + 1, j, k => by
    show s_rw (yo_cpa (yo_cpA σ y z i) y z i) y j k = _
    rw [cpa_rw, ((cpA_X i).2.2 z h).2.2.2.1]
    by_cases h1 : j = i
    · subst h1
      rw [if_pos rfl, cpA_ac h j j, if_neg (Nat.lt_irrefl j)]
      unfold va_cpy
      by_cases h2 : k < yt_rows (s_ac σ y j).1
      · rw [if_pos ⟨Nat.zero_le _, by omega⟩, if_pos ⟨Nat.lt_succ_self j, h2⟩, Nat.zero_add, Nat.sub_zero]
      · rw [if_neg (fun q => h2 (by omega)), if_neg (fun q => h2 q.2), cpA_rw h j j k, if_neg (fun q => Nat.lt_irrefl j q.1)]
    · rw [if_neg h1, cpA_rw h i j k]
      by_cases h2 : j < i ∧ k < yt_rows (s_ac σ y j).1
      · rw [if_pos h2, if_pos ⟨by omega, h2.2⟩]
      · rw [if_neg h2, if_neg (fun q => h2 ⟨by omega, q.2⟩)]
theorem cpC_ch {σ : ys} {y z : Nat} (h : z ≠ y) : ∀ i j, s_ch (yo_cpC σ y z i) y j = if j < i then ((s_ch σ y j).1, (s_ch σ z j).2.1, (s_ch σ z j).2.2) else s_ch σ y j
  | 0, j => by rw [if_neg (Nat.not_lt_zero j)]; rfl
  | i + 1, j => by
    show s_ch (yo_cpc (yo_cpC σ y z i) y z i) y j = _
    rw [cpc_ch, ((cpC_X i).2.2 z h).2.2.2.2.1]
    by_cases h1 : j = i
    · subst h1
      rw [if_pos rfl, if_pos (Nat.lt_succ_self j), cpC_ch h j j, if_neg (Nat.lt_irrefl j)]
    · rw [if_neg h1, cpC_ch h i j]
      by_cases h2 : j < i
      · rw [if_pos h2, if_pos (by omega)]
      · rw [if_neg h2, if_neg (by omega)]
theorem cpC_rg {σ : ys} {y z : Nat} (h : z ≠ y) : ∀ i j k, k < 8 → s_rg (yo_cpC σ y z i) y j k = if j < i then s_rg σ z j k else s_rg σ y j k
  | 0, j, k, _ => by rw [if_neg (Nat.not_lt_zero j)]; rfl
  | i + 1, j, k, hk => by
    show s_rg (yo_cpc (yo_cpC σ y z i) y z i) y j k = _
    rw [cpc_rg, ((cpC_X i).2.2 z h).2.2.2.2.2]
    by_cases h1 : j = i
    · subst h1
      rw [if_pos rfl, if_pos (Nat.lt_succ_self j)]
      unfold va_cpy
      rw [if_pos ⟨Nat.zero_le _, by omega⟩, Nat.zero_add, Nat.sub_zero]
    · rw [if_neg h1, cpC_rg h i j k hk]
      by_cases h2 : j < i
      · rw [if_pos h2, if_pos (by omega)]
      · rw [if_neg h2, if_neg (by omega)]
theorem cpA_io {σ : ys} {y z : Nat} : ∀ i, s_ic (yo_cpA σ y z i) = s_ic σ ∧ s_oc (yo_cpA σ y z i) = s_oc σ ∧ s_ch (yo_cpA σ y z i) = s_ch σ ∧ s_rg (yo_cpA σ y z i) = s_rg σ
  | 0 => ⟨rfl, rfl, rfl, rfl⟩
  | i + 1 => cpA_io i
theorem cpC_io {σ : ys} {y z : Nat} : ∀ i, s_ic (yo_cpC σ y z i) = s_ic σ ∧ s_oc (yo_cpC σ y z i) = s_oc σ ∧ s_ac (yo_cpC σ y z i) = s_ac σ ∧ s_rw (yo_cpC σ y z i) = s_rw σ
  | 0 => ⟨rfl, rfl, rfl, rfl⟩
  | i + 1 => cpC_io i
theorem cpA_E {σ : ys} {y z : Nat} (hyz : z ≠ y) (hE : yE σ y z) {i : Nat} : yE (yo_cpA σ y z i) y z := by
  obtain ⟨e1, e2, e3, e4, e5, e6⟩ := hE
  obtain ⟨a1, a2, a3, a4⟩ := cpA_io (σ := σ) (y := y) (z := z) i
  refine ⟨by rw [(cpA_X i).sn, (cpA_X i).sn]; exact e1, by rw [(cpA_X i).snc, (cpA_X i).snc]; exact e2, fun j => ?_, by rw [a1]; exact e4, by rw [a2]; exact e5, by rw [a3]; exact e6⟩
  rw [cpA_ac hyz, ((cpA_X i).2.2 z hyz).1]
  by_cases h : j < i
  · rw [if_pos h]; exact e3 j
  · rw [if_neg h]; exact e3 j
theorem wf_io {σ : ys} {y : Nat} {σ' : ys} {y' : Nat} (h1 : s_ic σ' y' = s_ic σ y) (h2 : s_oc σ' y' = s_oc σ y) (h : yp_wf (s_T σ y)) : yp_wf (s_T σ' y') := by
  refine ⟨fun i j k k' c a b => ?_, fun i j k k' c a b => ?_⟩
  · have a : s_ic σ' y' i k = some c := a
    have b : s_ic σ' y' j k' = some c := b
    rw [h1] at a b
    exact h.1 i j k k' c a b
  · have a : s_oc σ' y' i k = some c := a
    have b : s_oc σ' y' j k' = some c := b
    rw [h2] at a b
    exact h.2 i j k k' c a b
theorem cpA_I {σ : ys} {y z : Nat} (hyz : z ≠ y) (hE : yE σ y z) (hi : yI σ y) (hi2 : yI σ z) (i : Nat) : yI (yo_cpA σ y z i) y := by
  obtain ⟨b1, b2, b3, b4, b5, b6, b7⟩ := id hi
  obtain ⟨e1, e2, e3, e4, e5, e6⟩ := id hE
  obtain ⟨a1, a2, a3, a4⟩ := cpA_io (σ := σ) (y := y) (z := z) i
  have hk : ∀ j, (s_ac (yo_cpA σ y z i) y j).1 = (s_ac σ y j).1 := fun j => by
    rw [cpA_ac hyz]
    by_cases h : j < i
    · rw [if_pos h]
    · rw [if_neg h]
  refine ⟨⟨by rw [(cpA_X i).sn]; exact b1.1, fun j hj => ?_, fun c hc => ?_⟩, by rw [(cpA_X i).snc]; exact b2, fun j => ?_, by rw [a3]; exact b4, fun j k c e => ?_, fun j k c e => ?_, wf_io (by rw [a1]) (by rw [a2]) b7⟩
  · rw [(cpA_X i).sn] at hj
    rw [cpA_ac hyz]
    by_cases h : j < i
    · rw [if_pos h, b1.2.1 j hj, hi2.1.2.1 j (by rw [← e1]; exact hj)]
    · rw [if_neg h]; exact b1.2.1 j hj
  · rw [(cpA_X i).snc] at hc
    rw [a3]; exact b1.2.2 c hc
  · rw [cpA_ac hyz]
    by_cases h : j < i
    · rw [if_pos h]
      obtain ⟨c1, c2, c3, c4, c5⟩ := hi2.2.2.1 j
      have ek := (e3 j).1
      exact ⟨by rw [ek]; exact c1, c2, fun q => c3 (by rw [← ek]; exact q), c4, fun q => c5 (by rw [← ek]; exact q)⟩
    · rw [if_neg h]; exact b3 j
  · rw [a1] at e
    rw [hk, (cpA_X i).sn, (cpA_X i).snc]
    exact b5 j k c e
  · rw [a2] at e
    rw [hk, (cpA_X i).sn, (cpA_X i).snc]
    exact b6 j k c e
theorem cpC_I {σ : ys} {y z : Nat} (hyz : z ≠ y) (hE : yE σ y z) (hi : yI σ y) (hi2 : yI σ z) (i : Nat) : yI (yo_cpC σ y z i) y := by
  obtain ⟨b1, b2, b3, b4, b5, b6, b7⟩ := id hi
  obtain ⟨e1, e2, e3, e4, e5, e6⟩ := id hE
  obtain ⟨a1, a2, a3, a4⟩ := cpC_io (σ := σ) (y := y) (z := z) i
  refine ⟨⟨by rw [(cpC_X i).sn]; exact b1.1, fun j hj => ?_, fun c hc => ?_⟩, by rw [(cpC_X i).snc]; exact b2, by rw [a3]; exact b3, fun c => ?_, by rw [a1, a3, (cpC_X i).sn, (cpC_X i).snc]; exact b5, by rw [a2, a3, (cpC_X i).sn, (cpC_X i).snc]; exact b6, wf_io (by rw [a1]) (by rw [a2]) b7⟩
  · rw [(cpC_X i).sn] at hj
    rw [a3]; exact b1.2.1 j hj
  · rw [(cpC_X i).snc] at hc
    rw [cpC_ch hyz]
    by_cases h : c < i
    · rw [if_pos h, b1.2.2 c hc, hi2.1.2.2 c (by rw [← e2]; exact hc)]
    · rw [if_neg h]; exact b1.2.2 c hc
  · rw [cpC_ch hyz]
    by_cases h : c < i
    · rw [if_pos h]
      obtain ⟨c1, c2, c3, c4⟩ := hi2.2.2.2.1 c
      have ek := e6 c
      exact ⟨by rw [ek]; exact c1, by rw [ek]; exact c2, c3, by rw [ek]; exact c4⟩
    · rw [if_neg h]; exact b4 c
theorem cp_final {σ : ys} {y z : Nat} (hyz : z ≠ y) (hE : yE σ y z) (hi : yI σ y) (hi2 : yI σ z) : yX σ y (yo_cpC (yo_cpA σ y z (s_n σ y)) y z (s_nc σ y)) ∧ s_T (yo_cpC (yo_cpA σ y z (s_n σ y)) y z (s_nc σ y)) y = s_T σ z ∧ s_D (yo_cpC (yo_cpA σ y z (s_n σ y)) y z (s_nc σ y)) y = s_D σ z ∧ yI (yo_cpC (yo_cpA σ y z (s_n σ y)) y z (s_nc σ y)) y := by
  obtain ⟨e1, e2, e3, e4, e5, e6⟩ := id hE
  have hX0 := cpA_X (σ := σ) (y := y) (z := z) (s_n σ y)
  have hX1 := cpC_X (σ := yo_cpA σ y z (s_n σ y)) (y := y) (z := z) (s_nc σ y)
  obtain ⟨a1, a2, a3, a4⟩ := cpA_io (σ := σ) (y := y) (z := z) (s_n σ y)
  obtain ⟨c1, c2, c3, c4⟩ := cpC_io (σ := yo_cpA σ y z (s_n σ y)) (y := y) (z := z) (s_nc σ y)
  generalize hσ : yo_cpC (yo_cpA σ y z (s_n σ y)) y z (s_nc σ y) = σ' at *
  have hac : s_ac σ' y = s_ac σ z := by
    funext j
    rw [c3, cpA_ac hyz]
    by_cases h : j < s_n σ y
    · rw [if_pos h, (e3 j).1, (e3 j).2.1, (e3 j).2.2]
    · rw [if_neg h, hi.1.2.1 j (by omega), hi2.1.2.1 j (by omega)]
  have hch : s_ch σ' y = s_ch σ z := by
    funext j
    rw [← hσ, cpC_ch hyz, a3]
    by_cases h : j < s_nc σ y
    · rw [if_pos h, e6 j]
    · rw [if_neg h, hi.1.2.2 j (by omega), hi2.1.2.2 j (by omega)]
  have hrw : ∀ j k, j < s_n σ y → k < yt_rows (s_ac σ z j).1 → s_rw σ' y j k = s_rw σ z j k := fun j k h1 h2 => by
    rw [c4, cpA_rw hyz, if_pos ⟨h1, by rw [(e3 j).1]; exact h2⟩]
  have hrg : ∀ j k, j < s_nc σ y → k < 8 → s_rg σ' y j k = s_rg σ z j k := fun j k h1 h2 => by
    rw [← hσ, cpC_rg hyz _ _ _ h2, if_pos h1, a4]
  have hT : s_T σ' y = s_T σ z := by
    have e : (fun i => yrw (s_rw σ' y i) (s_ac σ z i).2.2.2.1) = fun i => yrw (s_rw σ z i) (s_ac σ z i).2.2.2.1 := by
      funext i
      obtain ⟨q1, q2, q3, q4, q5⟩ := hi2.2.2.1 i
      by_cases h0 : (s_ac σ z i).1 = 0
      · by_cases h : i < s_n σ y
        · exact yrw_congr (fun j hj => hrw i j h (by rw [h0]; show j < 20; omega))
        · rw [hi2.1.2.1 i (by omega)]; rfl
      · rw [q3 h0]; rfl
    unfold s_T
    rw [hac, hch, c1, a1, c2, a2, e4, e5, e]
    congr 1
    rw [hX1.sn, hX0.sn]
    exact e1
  refine ⟨hX0.tr hX1, hT, ?_, ?_⟩
  · have e : (fun i => if (s_ac σ z i).1 = 6 then yrw (s_rw σ' y i) (s_ac σ z i).2.2.2.2 else []) = (s_D σ z).2.1 := by
      funext i
      show _ = if (s_ac σ z i).1 = 6 then yrw (s_rw σ z i) (s_ac σ z i).2.2.2.2 else []
      by_cases h0 : (s_ac σ z i).1 = 6
      · rw [if_pos h0, if_pos h0]
        by_cases h : i < s_n σ y
        · have := (hi2.2.2.1 i).2.2.2.2 h0
          exact yrw_congr (fun j hj => hrw i j h (by rw [h0]; show j < 60; omega))
        · rw [hi2.1.2.1 i (by omega)] at h0
          cases h0
      · rw [if_neg h0, if_neg h0]
    have e9 : (fun c => yrq (s_rg σ' y c) (s_ch σ z c).2.1 (s_ch σ z c).2.2) = (s_D σ z).2.2 := by
      funext c
      show _ = yrq (s_rg σ z c) (s_ch σ z c).2.1 (s_ch σ z c).2.2
      by_cases h : c < s_nc σ y
      · exact yrq_congr (fun j hj => hrg c j h hj)
      · rw [hi2.1.2.2 c (by omega)]; rfl
    unfold s_D
    rw [hac, hch, e, e9]
    rfl
  · unfold yI
    rw [hac, hch, hT, c1, a1, c2, a2, e4, e5, (hX0.tr hX1).sn, (hX0.tr hX1).snc, e1, e2]
    exact hi2
set_option maxHeartbeats 4000000 in
set_option maxRecDepth 100000 in
/-- copyFrom of a yard -/
theorem c_Y_copyFrom (l : Launch) (D : va_G) (cc : ClassId × ClassId × ClassId) (ad : yl → Nat) (LL : List yl) (X : va_W) (b0 sz : Nat) (σ : ys) (hL : ∀ q, yL σ q → q ∈ LL) (y z : Nat) (hy : y < 2) (hz : z < 2) (hyz : z ≠ y) (hE : yE σ y z) (hi : yI σ y) (hi2 : yI σ z) : Met l y_Y_copyFrom w_Y_copyFrom ({ frames := 2, cells := 0, slots := 0, locals := 69 }) (yPr D cc b0 [.ref (ad (1, y, 0)), .ref (ad (1, z, 0))] (yW cc ad LL X σ) sz) (va_Qv (fun σ' => yX σ y σ' ∧ s_T σ' y = s_T σ z ∧ s_D σ' y = s_D σ z ∧ yI σ' y) (yB D ycl (yW cc ad LL X σ) sz (fun σ' => yW cc ad LL X σ')) (va_A (yW cc ad LL X σ) sz)) 0 0 (va_A (yW cc ad LL X σ) sz) := by
  have g1 : (1, y, 0) ∈ LL := hL _ ⟨hy, rfl⟩
  have f1 : (1, z, 0) ∈ LL := hL _ ⟨hz, rfl⟩
  have hn10 := hi.1.1
  have hc16 := hi.2.1
  have hen := hE.1
  have hec := hE.2.1
  refine y_ofW (cc := b_Y_copyFrom) (maxL := 5) (ret := none) (by decide) rfl (Nat.le_of_ble_eq_true rfl) ?_
  intro pv ev sv mv bv tv cv ls hI hsz hw hl
  obtain ⟨hx, hb, hr, hml, hts, hown, hlocks, hnm, hK, hAb, hb0, hA⟩ := id hI
  have ht : ∀ w ∈ lg_tbl, w.before _ sv = true := fun w h => hts w (List.mem_cons_of_mem _ h)
  have hl : lv_has ls 5 [(0, .ref (ad (1, y, 0))), (1, .ref (ad (1, z, 0)))] := hl
  have loopC : ∀ (f i : Nat) (H : Heap) (locs : List Loc) (ls : Array Slot), i + f = s_nc σ y → yH D ycl (va_A (yW cc ad LL X σ) sz) sv.heap H locs (yW cc ad LL X (yo_cpC (yo_cpA σ y z (s_n σ y)) y z i)) → lv_has ls 5 [(2, .int (nI i)), (0, .ref (ad (1, y, 0))), (1, .ref (ad (1, z, 0)))] → W pv l ev (headSpec w_Y_copyFrom ({ frames := 2, cells := 0, slots := 0, locals := 69 })).room sv mv [.ref (ad (1, y, 0)), .ref (ad (1, z, 0))].toArray bv tv cv H locs 0 0 (MQ bv (va_Qv (fun σ' => yX σ y σ' ∧ s_T σ' y = s_T σ z ∧ s_D σ' y = s_D σ z ∧ yI σ' y) (yB D ycl (yW cc ad LL X σ) sz (fun σ' => yW cc ad LL X σ')) (va_A (yW cc ad LL X σ) sz)) [.ref (ad (1, y, 0)), .ref (ad (1, z, 0))].toArray sv 0 0 (va_A (yW cc ad LL X σ) sz)) (F0 mv 46 ls []) := by
    intro f
    induction f with
    | zero =>
      intro i H locs ls hik hw hl
      have hie : i = s_nc σ y := by omega
      subst hie
      have hX0 := cpA_X (σ := σ) (y := y) (z := z) (s_n σ y)
      have hXi := cpC_X (σ := yo_cpA σ y z (s_n σ y)) (y := y) (z := z) (s_nc σ y)
      refine lv_iload_n hx hb d_Y_copyFrom_46 rfl (lv_at hl 0 rfl) ?_
      refine lv_aload_n hx hb d_Y_copyFrom_47 rfl (lv_at hl 1 rfl) ?_
      refine yr_get (C := R_Y) (T := F_Y) (N := 5) (ci := k_Y) hx hb ht j_Y hown hK.1 hw (by assumption) (by rfl) rfl 4 (by decide) (ht _ mf_Y_31) (fun _ h9 => h9) (by rfl) d_Y_copyFrom_48 ?_
      refine lv_icmp_ge (tgt := 88) hx hb d_Y_copyFrom_51 (by decide) (fun c_51 => ?_) (fun c_51 => by exact absurd (by rw [(hX0.tr hXi).snc y]; exact nI_le (by omega) (by omega)) c_51)
      exact ye_v hI _ (cp_final hyz hE hi hi2) hw d_Y_copyFrom_88
    | succ f ih =>
      intro i H locs ls hik hw hl
      have hX0 := cpA_X (σ := σ) (y := y) (z := z) (s_n σ y)
      have hI0 := cpA_I hyz hE hi hi2 (s_n σ y)
      have hI0z := hX0.I hyz hi2
      have hXi := cpC_X (σ := yo_cpA σ y z (s_n σ y)) (y := y) (z := z) i
      have hIi := cpC_I hyz (cpA_E hyz hE) hI0 hI0z i
      have hIz := hXi.I hyz hI0z
      have hLi := hXi.L (hX0.L hL)
      have hd : i < s_nc (yo_cpC (yo_cpA σ y z (s_n σ y)) y z i) y := by rw [(hX0.tr hXi).snc y]; omega
      have hdz : i < s_nc (yo_cpC (yo_cpA σ y z (s_n σ y)) y z i) z := by rw [(hX0.tr hXi).snc z]; omega
      have hb16 : s_nc (yo_cpC (yo_cpA σ y z (s_n σ y)) y z i) y ≤ 16 := by rw [(hX0.tr hXi).snc y]; exact hc16
      have h9 : (9, y, i) ∈ LL := hLi _ ⟨hy, hd⟩
      refine lv_iload_n hx hb d_Y_copyFrom_46 rfl (lv_at hl 0 rfl) ?_
      refine lv_aload_n hx hb d_Y_copyFrom_47 rfl (lv_at hl 1 rfl) ?_
      refine yr_get (C := R_Y) (T := F_Y) (N := 5) (ci := k_Y) hx hb ht j_Y hown hK.1 hw (by assumption) (by rfl) rfl 4 (by decide) (ht _ mf_Y_31) (fun _ h9 => h9) (by rfl) d_Y_copyFrom_48 ?_
      refine lv_icmp_ge (tgt := 88) hx hb d_Y_copyFrom_51 (by decide) (fun c_51 => by exact absurd ((nI_leI (by omega) (by omega)).mp c_51) (Nat.not_le.mpr hd)) (fun c_51 => ?_)
      refine lv_aload_n hx hb d_Y_copyFrom_54 rfl (lv_at hl 1 rfl) ?_
      refine lv_iload_n hx hb d_Y_copyFrom_55 rfl (lv_at hl 0 rfl) ?_
      refine yc_q (va_runV (As := [.int _]) (rest := []) ⟨hx, hb, hml, hown, hts⟩ (c_Y_findChannel l D cc ad LL X b0 _ (yo_cpC (yo_cpA σ y z (s_n σ y)) y z i) hLi y hy hIi i hd) (cwV 1 hts (yg_call mc_Y_findChannel ml_Y_61 mm_Y_findChannel ms_Y_findChannel mi_Y) rfl rfl rfl (by decide +kernel) ⟨Nat.le_of_ble_eq_true rfl, Nat.le_of_ble_eq_true rfl⟩) (y_preV hI hw (y_recv hK.1 hw g1 (by rfl) rfl)) rfl rfl hl.1 rfl (lv_room (Nat.le_of_ble_eq_true rfl)) d_Y_copyFrom_56 ⟨Nat.le_of_ble_eq_true rfl, Nat.le_of_ble_eq_true rfl⟩) hw hA (fun r u H locs he hw => ?_)
      subst he
      rw [yrf_s]
      refine lv_astore_n (lv' := [(3, .ref _), (2, .int _), (0, .ref _), (1, .ref _)]) hx hb d_Y_copyFrom_59 rfl hl (by decide) rfl (fun ls hl => ?_)
      refine lv_aload_n hx hb d_Y_copyFrom_60 rfl (lv_at hl 3 rfl) ?_
      refine lv_iload_n hx hb d_Y_copyFrom_61 rfl (lv_at hl 1 rfl) ?_
      refine yc_q (va_runV (As := [.int _]) (rest := []) ⟨hx, hb, hml, hown, hts⟩ (c_Y_findChannel l D cc ad LL X b0 _ (yo_cpC (yo_cpA σ y z (s_n σ y)) y z i) hLi z hz hIz i hdz) (cwV 1 hts (yg_call mc_Y_findChannel ml_Y_61 mm_Y_findChannel ms_Y_findChannel mi_Y) rfl rfl rfl (by decide +kernel) ⟨Nat.le_of_ble_eq_true rfl, Nat.le_of_ble_eq_true rfl⟩) (y_preV hI hw (y_recv hK.1 hw f1 (by rfl) rfl)) rfl rfl hl.1 rfl (lv_room (Nat.le_of_ble_eq_true rfl)) d_Y_copyFrom_62 ⟨Nat.le_of_ble_eq_true rfl, Nat.le_of_ble_eq_true rfl⟩) hw hA (fun r u H locs he hw => ?_)
      subst he
      rw [yrf_s]
      refine lv_astore (lv' := [(4, .ref _), (3, .ref _), (2, .int _), (0, .ref _), (1, .ref _)]) hx hb d_Y_copyFrom_65 hl (by decide) rfl (fun ls hl => ?_)
      refine lv_aload_n hx hb d_Y_copyFrom_67 rfl (lv_at hl 1 rfl) ?_
      refine lv_ifnull hx hb d_Y_copyFrom_68 ?_
      refine lv_aload hx hb d_Y_copyFrom_71 (lv_at hl 0 rfl) ?_
      refine lv_ifnull hx hb d_Y_copyFrom_73 ?_
      refine lv_aload_n hx hb d_Y_copyFrom_76 rfl (lv_at hl 1 rfl) ?_
      refine lv_aload hx hb d_Y_copyFrom_77 (lv_at hl 0 rfl) ?_
      refine yc_v (va_runV (As := [.ref _]) (rest := []) ⟨hx, hb, hml, hown, hts⟩ (c_C_copyFrom l D cc ad LL X b0 _ (yo_cpC (yo_cpA σ y z (s_n σ y)) y z i) hLi y z i hy hz hyz hd hdz) (cwV 1 hts (yg_call mc_C_copyFrom ml_Y_94 mm_C_copyFrom ms_C_copyFrom mi_C) rfl rfl rfl (by decide +kernel) ⟨Nat.le_of_ble_eq_true rfl, Nat.le_of_ble_eq_true rfl⟩) (y_preV hI hw (y_recv hK.1 hw h9 (by rfl) rfl)) rfl rfl hl.1 rfl (lv_room (Nat.le_of_ble_eq_true rfl)) d_Y_copyFrom_79 ⟨Nat.le_of_ble_eq_true rfl, Nat.le_of_ble_eq_true rfl⟩) hw hA (fun u H locs he hw => ?_)
      refine lv_iinc (v := nI (i + 1)) (lv' := [(2, .int _), (4, .ref _), (3, .ref _), (0, .ref _), (1, .ref _)]) hx hb d_Y_copyFrom_82 hl (k := 2) rfl (yinc i) (by decide) rfl (fun ls hl => ?_)
      refine lv_goto (tgt := 46) hx hb d_Y_copyFrom_85 (by decide) ?_
      exact ih (i + 1) _ _ _ (by omega) hw (lv_sub hl [0, 3, 4] rfl)
  have loopA : ∀ (f i : Nat) (H : Heap) (locs : List Loc) (ls : Array Slot), i + f = s_n σ y → yH D ycl (va_A (yW cc ad LL X σ) sz) sv.heap H locs (yW cc ad LL X (yo_cpA σ y z i)) → lv_has ls 5 [(2, .int (nI i)), (0, .ref (ad (1, y, 0))), (1, .ref (ad (1, z, 0)))] → W pv l ev (headSpec w_Y_copyFrom ({ frames := 2, cells := 0, slots := 0, locals := 69 })).room sv mv [.ref (ad (1, y, 0)), .ref (ad (1, z, 0))].toArray bv tv cv H locs 0 0 (MQ bv (va_Qv (fun σ' => yX σ y σ' ∧ s_T σ' y = s_T σ z ∧ s_D σ' y = s_D σ z ∧ yI σ' y) (yB D ycl (yW cc ad LL X σ) sz (fun σ' => yW cc ad LL X σ')) (va_A (yW cc ad LL X σ) sz)) [.ref (ad (1, y, 0)), .ref (ad (1, z, 0))].toArray sv 0 0 (va_A (yW cc ad LL X σ) sz)) (F0 mv 2 ls []) := by
    intro f
    induction f with
    | zero =>
      intro i H locs ls hik hw hl
      have hie : i = s_n σ y := by omega
      subst hie
      have hXi := cpA_X (σ := σ) (y := y) (z := z) (s_n σ y)
      refine lv_iload_n hx hb d_Y_copyFrom_2 rfl (lv_at hl 0 rfl) ?_
      refine lv_aload_n hx hb d_Y_copyFrom_3 rfl (lv_at hl 1 rfl) ?_
      refine yr_get (C := R_Y) (T := F_Y) (N := 5) (ci := k_Y) hx hb ht j_Y hown hK.1 hw (by assumption) (by rfl) rfl 3 (by decide) (ht _ mf_Y_27) (fun _ h9 => h9) (by rfl) d_Y_copyFrom_4 ?_
      refine lv_icmp_ge (tgt := 44) hx hb d_Y_copyFrom_7 (by decide) (fun c_7 => ?_) (fun c_7 => by exact absurd (by rw [hXi.sn y]; exact nI_le (by omega) (by omega)) c_7)
      refine lv_iconst (v := (nI 0)) hx hb d_Y_copyFrom_44 (by decide) ?_
      refine lv_istore_n (lv' := [(2, .int _), (0, .ref _), (1, .ref _)]) hx hb d_Y_copyFrom_45 rfl hl (by decide) rfl (fun ls hl => ?_)
      exact loopC (s_nc σ y) 0 _ _ _ (by omega) hw (lv_sub hl [0, 1, 2] rfl)
    | succ f ih =>
      intro i H locs ls hik hw hl
      have hXi := cpA_X (σ := σ) (y := y) (z := z) i
      have hIi := cpA_I hyz hE hi hi2 i
      have hIz := hXi.I hyz hi2
      have hLi := hXi.L hL
      have hd : i < s_n (yo_cpA σ y z i) y := by rw [hXi.sn y]; omega
      have hdz : i < s_n (yo_cpA σ y z i) z := by rw [hXi.sn z]; omega
      have hb10 : s_n (yo_cpA σ y z i) y ≤ 10 := by rw [hXi.sn y]; exact hn10
      have h5 : (5, y, i) ∈ LL := hLi _ ⟨hy, hd⟩
      refine lv_iload_n hx hb d_Y_copyFrom_2 rfl (lv_at hl 0 rfl) ?_
      refine lv_aload_n hx hb d_Y_copyFrom_3 rfl (lv_at hl 1 rfl) ?_
      refine yr_get (C := R_Y) (T := F_Y) (N := 5) (ci := k_Y) hx hb ht j_Y hown hK.1 hw (by assumption) (by rfl) rfl 3 (by decide) (ht _ mf_Y_27) (fun _ h9 => h9) (by rfl) d_Y_copyFrom_4 ?_
      refine lv_icmp_ge (tgt := 44) hx hb d_Y_copyFrom_7 (by decide) (fun c_7 => by exact absurd ((nI_leI (by omega) (by omega)).mp c_7) (Nat.not_le.mpr hd)) (fun c_7 => ?_)
      refine lv_aload_n hx hb d_Y_copyFrom_10 rfl (lv_at hl 1 rfl) ?_
      refine lv_iload_n hx hb d_Y_copyFrom_11 rfl (lv_at hl 0 rfl) ?_
      refine yc_q (va_runV (As := [.int _]) (rest := []) ⟨hx, hb, hml, hown, hts⟩ (c_Y_findActor l D cc ad LL X b0 _ (yo_cpA σ y z i) hLi y hy hIi i hd) (cwV 1 hts (yg_call mc_Y_findActor ml_Y_37 mm_Y_findActor ms_Y_findActor mi_Y) rfl rfl rfl (by decide +kernel) ⟨Nat.le_of_ble_eq_true rfl, Nat.le_of_ble_eq_true rfl⟩) (y_preV hI hw (y_recv hK.1 hw g1 (by rfl) rfl)) rfl rfl hl.1 rfl (lv_room (Nat.le_of_ble_eq_true rfl)) d_Y_copyFrom_12 ⟨Nat.le_of_ble_eq_true rfl, Nat.le_of_ble_eq_true rfl⟩) hw hA (fun r u H locs he hw => ?_)
      subst he
      rw [yrf_s]
      refine lv_astore_n (lv' := [(3, .ref _), (2, .int _), (0, .ref _), (1, .ref _)]) hx hb d_Y_copyFrom_15 rfl hl (by decide) rfl (fun ls hl => ?_)
      refine lv_aload_n hx hb d_Y_copyFrom_16 rfl (lv_at hl 3 rfl) ?_
      refine lv_iload_n hx hb d_Y_copyFrom_17 rfl (lv_at hl 1 rfl) ?_
      refine yc_q (va_runV (As := [.int _]) (rest := []) ⟨hx, hb, hml, hown, hts⟩ (c_Y_findActor l D cc ad LL X b0 _ (yo_cpA σ y z i) hLi z hz hIz i hdz) (cwV 1 hts (yg_call mc_Y_findActor ml_Y_37 mm_Y_findActor ms_Y_findActor mi_Y) rfl rfl rfl (by decide +kernel) ⟨Nat.le_of_ble_eq_true rfl, Nat.le_of_ble_eq_true rfl⟩) (y_preV hI hw (y_recv hK.1 hw f1 (by rfl) rfl)) rfl rfl hl.1 rfl (lv_room (Nat.le_of_ble_eq_true rfl)) d_Y_copyFrom_18 ⟨Nat.le_of_ble_eq_true rfl, Nat.le_of_ble_eq_true rfl⟩) hw hA (fun r u H locs he hw => ?_)
      subst he
      rw [yrf_s]
      refine lv_astore (lv' := [(4, .ref _), (3, .ref _), (2, .int _), (0, .ref _), (1, .ref _)]) hx hb d_Y_copyFrom_21 hl (by decide) rfl (fun ls hl => ?_)
      refine lv_aload_n hx hb d_Y_copyFrom_23 rfl (lv_at hl 1 rfl) ?_
      refine lv_ifnull hx hb d_Y_copyFrom_24 ?_
      refine lv_aload hx hb d_Y_copyFrom_27 (lv_at hl 0 rfl) ?_
      refine lv_ifnull hx hb d_Y_copyFrom_29 ?_
      refine lv_aload_n hx hb d_Y_copyFrom_32 rfl (lv_at hl 1 rfl) ?_
      refine lv_aload hx hb d_Y_copyFrom_33 (lv_at hl 0 rfl) ?_
      refine yc_v (va_runV (As := [.ref _]) (rest := []) ⟨hx, hb, hml, hown, hts⟩ (c_A_copyFrom l D cc ad LL X b0 _ (yo_cpA σ y z i) hLi y z i hy hz hyz hd hdz ((cpA_E hyz hE).2.2.1 i).1.symm) (cwV 1 hts (yg_call mc_A_copyFrom ml_Y_90 mm_A_copyFrom ms_A_copyFrom mi_A) rfl rfl rfl (by decide +kernel) ⟨Nat.le_of_ble_eq_true rfl, Nat.le_of_ble_eq_true rfl⟩) (y_preV hI hw (y_recv hK.1 hw h5 (by rfl) rfl)) rfl rfl hl.1 rfl (lv_room (Nat.le_of_ble_eq_true rfl)) d_Y_copyFrom_35 ⟨Nat.le_of_ble_eq_true rfl, Nat.le_of_ble_eq_true rfl⟩) hw hA (fun u H locs he hw => ?_)
      refine lv_iinc (v := nI (i + 1)) (lv' := [(2, .int _), (4, .ref _), (3, .ref _), (0, .ref _), (1, .ref _)]) hx hb d_Y_copyFrom_38 hl (k := 2) rfl (yinc i) (by decide) rfl (fun ls hl => ?_)
      refine lv_goto (tgt := 2) hx hb d_Y_copyFrom_41 (by decide) ?_
      exact ih (i + 1) _ _ _ (by omega) hw (lv_sub hl [0, 3, 4] rfl)
  refine lv_iconst (v := (nI 0)) hx hb d_Y_copyFrom_0 (by decide) ?_
  refine lv_istore_n (lv' := [(2, .int _), (0, .ref _), (1, .ref _)]) hx hb d_Y_copyFrom_1 rfl hl (by decide) rfl (fun ls hl => ?_)
  exact loopA (s_n σ y) 0 _ _ _ (by omega) hw (lv_sub hl [0, 1, 2] rfl)
