/-! THE CLASS'S STATE: flag; counts by yard; actors (kind, a, b, told, times); ins; outs; rows; channels (room, first, count); rings; the ready row -/
abbrev ya : Type := Nat × Int32 × Int32 × Nat × Nat
abbrev yc : Type := Nat × Nat × Nat
abbrev ys : Type := (Nat → Nat → Int32) × (Nat → Nat × Nat) × (Nat → Nat → ya) × (Nat → Nat → Nat → Option Nat) × (Nat → Nat → Nat → Option Nat) × (Nat → Nat → Nat → Int32) × (Nat → Nat → yc) × (Nat → Nat → Nat → Int32) × (Nat → Nat → Nat → Int32)
def s_fl (σ : ys) : Nat → Nat → Int32 := σ.1
def s_n (σ : ys) (y : Nat) : Nat := (σ.2.1 y).1
def s_nc (σ : ys) (y : Nat) : Nat := (σ.2.1 y).2
def s_ac (σ : ys) : Nat → Nat → ya := σ.2.2.1
def s_ic (σ : ys) : Nat → Nat → Nat → Option Nat := σ.2.2.2.1
def s_oc (σ : ys) : Nat → Nat → Nat → Option Nat := σ.2.2.2.2.1
def s_rw (σ : ys) : Nat → Nat → Nat → Int32 := σ.2.2.2.2.2.1
def s_ch (σ : ys) : Nat → Nat → yc := σ.2.2.2.2.2.2.1
def s_rg (σ : ys) : Nat → Nat → Nat → Int32 := σ.2.2.2.2.2.2.2.1
def s_rd (σ : ys) : Nat → Nat → Nat → Int32 := σ.2.2.2.2.2.2.2.2
def up2 {β : Type} (f : Nat → Nat → β) (y i : Nat) (v : β) : Nat → Nat → β := fun y' i' => if y' = y ∧ i' = i then v else f y' i'
theorem up2_s {β : Type} (f : Nat → Nat → β) (y i : Nat) (v : β) : up2 f y i v y i = v := if_pos ⟨rfl, rfl⟩
theorem up2_n {β : Type} (f : Nat → Nat → β) {y i y' i' : Nat} (v : β) (h : ¬ (y' = y ∧ i' = i)) : up2 f y i v y' i' = f y' i' := if_neg h
def sx_fl (σ : ys) (y i : Nat) (v : Int32) : ys := (up2 σ.1 y i v, σ.2)
def sx_cn (σ : ys) (y : Nat) (v : Nat × Nat) : ys := (σ.1, va_up σ.2.1 y v, σ.2.2)
def sx_ac (σ : ys) (y i : Nat) (v : ya) : ys := (σ.1, σ.2.1, up2 σ.2.2.1 y i v, σ.2.2.2)
def sx_ic (σ : ys) (y i : Nat) (v : Nat → Option Nat) : ys := (σ.1, σ.2.1, σ.2.2.1, up2 σ.2.2.2.1 y i v, σ.2.2.2.2)
def sx_oc (σ : ys) (y i : Nat) (v : Nat → Option Nat) : ys := (σ.1, σ.2.1, σ.2.2.1, σ.2.2.2.1, up2 σ.2.2.2.2.1 y i v, σ.2.2.2.2.2)
def sx_rw (σ : ys) (y i : Nat) (v : Nat → Int32) : ys := (σ.1, σ.2.1, σ.2.2.1, σ.2.2.2.1, σ.2.2.2.2.1, up2 σ.2.2.2.2.2.1 y i v, σ.2.2.2.2.2.2)
def sx_ch (σ : ys) (y i : Nat) (v : yc) : ys := (σ.1, σ.2.1, σ.2.2.1, σ.2.2.2.1, σ.2.2.2.2.1, σ.2.2.2.2.2.1, up2 σ.2.2.2.2.2.2.1 y i v, σ.2.2.2.2.2.2.2)
def sx_rg (σ : ys) (y i : Nat) (v : Nat → Int32) : ys := (σ.1, σ.2.1, σ.2.2.1, σ.2.2.2.1, σ.2.2.2.2.1, σ.2.2.2.2.2.1, σ.2.2.2.2.2.2.1, up2 σ.2.2.2.2.2.2.2.1 y i v, σ.2.2.2.2.2.2.2.2)
def sx_rd (σ : ys) (y i : Nat) (v : Nat → Int32) : ys := (σ.1, σ.2.1, σ.2.2.1, σ.2.2.2.1, σ.2.2.2.2.1, σ.2.2.2.2.2.1, σ.2.2.2.2.2.2.1, σ.2.2.2.2.2.2.2.1, up2 σ.2.2.2.2.2.2.2.2 y i v)
/-- the cells: 0 the object, 1 yards, 2 arrays of actors, 3 of channels, 4 ready rows, 5 actors, 6 ins, 7 outs, 8 rows, 9 channels, 10 rings; cc: the array classes (int, Actor, Channel) -/
def yG (cc : ClassId × ClassId × ClassId) (σ : ys) (ad : yl → Nat) (q : yl) : va_E :=
  match q with
  | (0, y, i) => .inr (k_S, [.ref (ad (1, 0, 0)), .ref (ad (1, 1, 0)), .int (s_fl σ y i)])
  | (1, y, _) => .inr (k_Y, [.ref (ad (2, y, 0)), .ref (ad (3, y, 0)), .ref (ad (4, y, 0)), .int (nI (s_n σ y)), .int (nI (s_nc σ y))])
  | (2, y, _) => .inl (cc.2.1, 10, .inr (.inr (.inr (.inr (fun j => if j < s_n σ y then some (ad (5, y, j)) else none)))))
  | (3, y, _) => .inl (cc.2.2, 16, .inr (.inr (.inr (.inr (fun j => if j < s_nc σ y then some (ad (9, y, j)) else none)))))
  | (4, y, i) => .inl (cc.1, 10, .inl (s_rd σ y i))
  | (5, y, i) => .inr (k_A, [.int (nI (s_ac σ y i).1), .int (s_ac σ y i).2.1, .int (s_ac σ y i).2.2.1, .ref (ad (6, y, i)), .ref (ad (7, y, i)), .ref (ad (8, y, i)), .int (nI (s_ac σ y i).2.2.2.1), .int (nI (s_ac σ y i).2.2.2.2)])
  | (6, y, i) => .inl (cc.2.2, 2, .inr (.inr (.inr (.inr (fun j => (s_ic σ y i j).map (fun c => ad (9, y, c)))))))
  | (7, y, i) => .inl (cc.2.2, 2, .inr (.inr (.inr (.inr (fun j => (s_oc σ y i j).map (fun c => ad (9, y, c)))))))
  | (8, y, i) => .inl (cc.1, yt_rows (s_ac σ y i).1, .inl (s_rw σ y i))
  | (9, y, c) => .inr (k_C, [.int (nI (s_ch σ y c).1), .ref (ad (10, y, c)), .int (nI (s_ch σ y c).2.1), .int (nI (s_ch σ y c).2.2)])
  | (10, y, c) => .inl (cc.1, 8, .inl (s_rg σ y c))
  | _ => .inr (0, [])
theorem yG_of {cc : ClassId × ClassId × ClassId} {σ σ' : ys} {ad : yl → Nat} {q : yl} {e : va_E} (he : yG cc σ' ad q = e) (ho : ∀ x, x ≠ q → yG cc σ ad x = yG cc σ' ad x) : yu (yG cc σ ad) q e = yG cc σ' ad := by
  funext x
  by_cases h : x = q
  · subst h; rw [yu_s, he]
  · rw [yu_n _ _ h, ho x h]

theorem yG_ch {cc : ClassId × ClassId × ClassId} (σ : ys) (ad : yl → Nat) (y i : Nat) (v : yc) : yu (yG cc σ ad) (9, y, i) (.inr (k_C, [.int (nI v.1), .ref (ad (10, y, i)), .int (nI v.2.1), .int (nI v.2.2)])) = yG cc (sx_ch σ y i v) ad := by
  refine yG_of ?_ ?_
  · show Sum.inr (k_C, [Value.int (nI (up2 (s_ch σ) y i v y i).1), Value.ref (ad (10, y, i)), Value.int (nI (up2 (s_ch σ) y i v y i).2.1), Value.int (nI (up2 (s_ch σ) y i v y i).2.2)]) = _
    rw [up2_s]
  · intro x hx
    obtain ⟨f, y', i'⟩ := x
    match f, hx with
    | 0, _ => rfl
    | 1, _ => rfl
    | 2, _ => rfl
    | 3, _ => rfl
    | 4, _ => rfl
    | 5, _ => rfl
    | 6, _ => rfl
    | 7, _ => rfl
    | 8, _ => rfl
    | 9, hx =>
      show _ = Sum.inr (k_C, [Value.int (nI (up2 (s_ch σ) y i v y' i').1), Value.ref (ad (10, y', i')), Value.int (nI (up2 (s_ch σ) y i v y' i').2.1), Value.int (nI (up2 (s_ch σ) y i v y' i').2.2)])
      rw [up2_n _ _ (fun h => hx (by rw [h.1, h.2]))]
      rfl
    | 10, _ => rfl
    | n + 11, _ => rfl
theorem yG_rg {cc : ClassId × ClassId × ClassId} (σ : ys) (ad : yl → Nat) (y i : Nat) (v : Nat → Int32) : yu (yG cc σ ad) (10, y, i) (.inl (cc.1, 8, .inl v)) = yG cc (sx_rg σ y i v) ad := by
  refine yG_of ?_ ?_
  · show Sum.inl (cc.1, 8, Sum.inl (up2 (s_rg σ) y i v y i)) = _
    rw [up2_s]
  · intro x hx
    obtain ⟨f, y', i'⟩ := x
    match f, hx with
    | 0, _ => rfl
    | 1, _ => rfl
    | 2, _ => rfl
    | 3, _ => rfl
    | 4, _ => rfl
    | 5, _ => rfl
    | 6, _ => rfl
    | 7, _ => rfl
    | 8, _ => rfl
    | 9, _ => rfl
    | 10, hx =>
      show _ = Sum.inl (cc.1, 8, Sum.inl (up2 (s_rg σ) y i v y' i'))
      rw [up2_n _ _ (fun h => hx (by rw [h.1, h.2]))]
      rfl
    | n + 11, _ => rfl
theorem yG_ic {cc : ClassId × ClassId × ClassId} (σ : ys) (ad : yl → Nat) (y i : Nat) (v : Nat → Option Nat) : yu (yG cc σ ad) (6, y, i) (.inl (cc.2.2, 2, .inr (.inr (.inr (.inr (fun j => (v j).map (fun c => ad (9, y, c)))))))) = yG cc (sx_ic σ y i v) ad := by
  refine yG_of ?_ ?_
  · show Sum.inl (cc.2.2, 2, Sum.inr (Sum.inr (Sum.inr (Sum.inr (fun j => ((up2 (s_ic σ) y i v y i) j).map (fun c => ad (9, y, c))))))) = _
    rw [up2_s]
  · intro x hx
    obtain ⟨f, y', i'⟩ := x
    match f, hx with
    | 0, _ => rfl
    | 1, _ => rfl
    | 2, _ => rfl
    | 3, _ => rfl
    | 4, _ => rfl
    | 5, _ => rfl
    | 6, hx =>
      show _ = Sum.inl (cc.2.2, 2, Sum.inr (Sum.inr (Sum.inr (Sum.inr (fun j => ((up2 (s_ic σ) y i v y' i') j).map (fun c => ad (9, y', c)))))))
      rw [up2_n _ _ (fun h => hx (by rw [h.1, h.2]))]
      rfl
    | 7, _ => rfl
    | 8, _ => rfl
    | 9, _ => rfl
    | 10, _ => rfl
    | n + 11, _ => rfl
theorem yG_oc {cc : ClassId × ClassId × ClassId} (σ : ys) (ad : yl → Nat) (y i : Nat) (v : Nat → Option Nat) : yu (yG cc σ ad) (7, y, i) (.inl (cc.2.2, 2, .inr (.inr (.inr (.inr (fun j => (v j).map (fun c => ad (9, y, c)))))))) = yG cc (sx_oc σ y i v) ad := by
  refine yG_of ?_ ?_
  · show Sum.inl (cc.2.2, 2, Sum.inr (Sum.inr (Sum.inr (Sum.inr (fun j => ((up2 (s_oc σ) y i v y i) j).map (fun c => ad (9, y, c))))))) = _
    rw [up2_s]
  · intro x hx
    obtain ⟨f, y', i'⟩ := x
    match f, hx with
    | 0, _ => rfl
    | 1, _ => rfl
    | 2, _ => rfl
    | 3, _ => rfl
    | 4, _ => rfl
    | 5, _ => rfl
    | 6, _ => rfl
    | 7, hx =>
      show _ = Sum.inl (cc.2.2, 2, Sum.inr (Sum.inr (Sum.inr (Sum.inr (fun j => ((up2 (s_oc σ) y i v y' i') j).map (fun c => ad (9, y', c)))))))
      rw [up2_n _ _ (fun h => hx (by rw [h.1, h.2]))]
      rfl
    | 8, _ => rfl
    | 9, _ => rfl
    | 10, _ => rfl
    | n + 11, _ => rfl
theorem yG_rw {cc : ClassId × ClassId × ClassId} (σ : ys) (ad : yl → Nat) (y i : Nat) (v : Nat → Int32) : yu (yG cc σ ad) (8, y, i) (.inl (cc.1, yt_rows (s_ac σ y i).1, .inl v)) = yG cc (sx_rw σ y i v) ad := by
  refine yG_of ?_ ?_
  · show Sum.inl (cc.1, yt_rows (s_ac σ y i).1, Sum.inl (up2 (s_rw σ) y i v y i)) = _
    rw [up2_s]
  · intro x hx
    obtain ⟨f, y', i'⟩ := x
    match f, hx with
    | 0, _ => rfl
    | 1, _ => rfl
    | 2, _ => rfl
    | 3, _ => rfl
    | 4, _ => rfl
    | 5, _ => rfl
    | 6, _ => rfl
    | 7, _ => rfl
    | 8, hx =>
      show _ = Sum.inl (cc.1, yt_rows (s_ac σ y' i').1, Sum.inl (up2 (s_rw σ) y i v y' i'))
      rw [up2_n _ _ (fun h => hx (by rw [h.1, h.2]))]
      rfl
    | 9, _ => rfl
    | 10, _ => rfl
    | n + 11, _ => rfl
theorem yG_ac {cc : ClassId × ClassId × ClassId} (σ : ys) (ad : yl → Nat) (y i : Nat) (v : ya) (hk : v.1 = (s_ac σ y i).1) : yu (yG cc σ ad) (5, y, i) (.inr (k_A, [.int (nI v.1), .int v.2.1, .int v.2.2.1, .ref (ad (6, y, i)), .ref (ad (7, y, i)), .ref (ad (8, y, i)), .int (nI v.2.2.2.1), .int (nI v.2.2.2.2)])) = yG cc (sx_ac σ y i v) ad := by
  refine yG_of ?_ ?_
  · show Sum.inr (k_A, [Value.int (nI (up2 (s_ac σ) y i v y i).1), Value.int (up2 (s_ac σ) y i v y i).2.1, Value.int (up2 (s_ac σ) y i v y i).2.2.1, Value.ref (ad (6, y, i)), Value.ref (ad (7, y, i)), Value.ref (ad (8, y, i)), Value.int (nI (up2 (s_ac σ) y i v y i).2.2.2.1), Value.int (nI (up2 (s_ac σ) y i v y i).2.2.2.2)]) = _
    rw [up2_s]
  · intro x hx
    obtain ⟨f, y', i'⟩ := x
    match f, hx with
    | 0, _ => rfl
    | 1, _ => rfl
    | 2, _ => rfl
    | 3, _ => rfl
    | 4, _ => rfl
    | 5, hx =>
      show _ = Sum.inr (k_A, [Value.int (nI (up2 (s_ac σ) y i v y' i').1), Value.int (up2 (s_ac σ) y i v y' i').2.1, Value.int (up2 (s_ac σ) y i v y' i').2.2.1, Value.ref (ad (6, y', i')), Value.ref (ad (7, y', i')), Value.ref (ad (8, y', i')), Value.int (nI (up2 (s_ac σ) y i v y' i').2.2.2.1), Value.int (nI (up2 (s_ac σ) y i v y' i').2.2.2.2)])
      rw [up2_n _ _ (fun h => hx (by rw [h.1, h.2]))]
      rfl
    | 6, _ => rfl
    | 7, _ => rfl
    | 8, _ =>
      show Sum.inl (cc.1, yt_rows (s_ac σ y' i').1, Sum.inl (s_rw σ y' i')) = Sum.inl (cc.1, yt_rows (up2 (s_ac σ) y i v y' i').1, Sum.inl (s_rw σ y' i'))
      by_cases h : y' = y ∧ i' = i
      · rw [h.1, h.2, up2_s, hk]
      · rw [up2_n _ _ h]
    | 9, _ => rfl
    | 10, _ => rfl
    | n + 11, _ => rfl
theorem yG_rd {cc : ClassId × ClassId × ClassId} (σ : ys) (ad : yl → Nat) (y i : Nat) (v : Nat → Int32) : yu (yG cc σ ad) (4, y, i) (.inl (cc.1, 10, .inl v)) = yG cc (sx_rd σ y i v) ad := by
  refine yG_of ?_ ?_
  · show Sum.inl (cc.1, 10, Sum.inl (up2 (s_rd σ) y i v y i)) = _
    rw [up2_s]
  · intro x hx
    obtain ⟨f, y', i'⟩ := x
    match f, hx with
    | 0, _ => rfl
    | 1, _ => rfl
    | 2, _ => rfl
    | 3, _ => rfl
    | 4, hx =>
      show _ = Sum.inl (cc.1, 10, Sum.inl (up2 (s_rd σ) y i v y' i'))
      rw [up2_n _ _ (fun h => hx (by rw [h.1, h.2]))]
      rfl
    | 5, _ => rfl
    | 6, _ => rfl
    | 7, _ => rfl
    | 8, _ => rfl
    | 9, _ => rfl
    | 10, _ => rfl
    | n + 11, _ => rfl
theorem yG_fl {cc : ClassId × ClassId × ClassId} (σ : ys) (ad : yl → Nat) (y i : Nat) (v : Int32) : yu (yG cc σ ad) (0, y, i) (.inr (k_S, [.ref (ad (1, 0, 0)), .ref (ad (1, 1, 0)), .int v])) = yG cc (sx_fl σ y i v) ad := by
  refine yG_of ?_ ?_
  · show Sum.inr (k_S, [Value.ref (ad (1, 0, 0)), Value.ref (ad (1, 1, 0)), Value.int (up2 (s_fl σ) y i v y i)]) = _
    rw [up2_s]
  · intro x hx
    obtain ⟨f, y', i'⟩ := x
    match f, hx with
    | 0, hx =>
      show _ = Sum.inr (k_S, [Value.ref (ad (1, 0, 0)), Value.ref (ad (1, 1, 0)), Value.int (up2 (s_fl σ) y i v y' i')])
      rw [up2_n _ _ (fun h => hx (by rw [h.1, h.2]))]
      rfl
    | 1, _ => rfl
    | 2, _ => rfl
    | 3, _ => rfl
    | 4, _ => rfl
    | 5, _ => rfl
    | 6, _ => rfl
    | 7, _ => rfl
    | 8, _ => rfl
    | 9, _ => rfl
    | 10, _ => rfl
    | n + 11, _ => rfl
/-- two worlds alike on the places that are there -/
theorem wl_alike {ad : yl → Nat} {LL : List yl} {g g' : yl → va_E} {X : va_W} (h : ∀ q, q ∈ LL → g q = g' q) : wl ad LL g ++ X = wl ad LL g' ++ X := by
  rw [wl_congr (ad := ad) (ad' := ad) (g := g) (g' := g') (fun q hq => ⟨rfl, h q hq⟩)]
/-- which places are there -/
def yL (σ : ys) (q : yl) : Prop := match q with
  | (0, y, i) => y = 0 ∧ i = 0
  | (1, y, i) => y < 2 ∧ i = 0
  | (2, y, i) => y < 2 ∧ i = 0
  | (3, y, i) => y < 2 ∧ i = 0
  | (4, y, i) => y < 2 ∧ i = 0
  | (5, y, i) => y < 2 ∧ i < s_n σ y
  | (6, y, i) => y < 2 ∧ i < s_n σ y
  | (7, y, i) => y < 2 ∧ i < s_n σ y
  | (8, y, i) => y < 2 ∧ i < s_n σ y
  | (9, y, i) => y < 2 ∧ i < s_nc σ y
  | (10, y, i) => y < 2 ∧ i < s_nc σ y
  | _ => False
/-- the yard as numbers and lists -/
def s_T (σ : ys) (y : Nat) : yp_T := (s_n σ y, fun i => (s_ac σ y i).1, fun i => (s_ac σ y i).2.1, fun i => (s_ac σ y i).2.2.1, s_ic σ y, s_oc σ y, fun c => (s_ch σ y c).1, fun i => yrw (s_rw σ y i) (s_ac σ y i).2.2.2.1)
def s_D (σ : ys) (y : Nat) : yp_D := (fun i => (s_ac σ y i).2.2.2.2, fun i => if (s_ac σ y i).1 = 6 then yrw (s_rw σ y i) (s_ac σ y i).2.2.2.2 else [], fun c => yrq (s_rg σ y c) (s_ch σ y c).2.1 (s_ch σ y c).2.2)
/-- what always holds of a yard -/
def yI (σ : ys) (y : Nat) : Prop :=
  (s_n σ y ≤ 10 ∧ (∀ i, s_n σ y ≤ i → s_ac σ y i = (0, 0, 0, 0, 0)) ∧ (∀ c, s_nc σ y ≤ c → s_ch σ y c = (1, 0, 0))) ∧ s_nc σ y ≤ 16 ∧
  (∀ i, (s_ac σ y i).1 < 9 ∧ (s_ac σ y i).2.2.2.1 ≤ 20 ∧ ((s_ac σ y i).1 ≠ 0 → (s_ac σ y i).2.2.2.1 = 0) ∧ (s_ac σ y i).2.2.2.2 ≤ 100 ∧ ((s_ac σ y i).1 = 6 → (s_ac σ y i).2.2.2.2 ≤ 60)) ∧
  (∀ c, 1 ≤ (s_ch σ y c).1 ∧ (s_ch σ y c).1 ≤ 8 ∧ (s_ch σ y c).2.1 < 8 ∧ (s_ch σ y c).2.2 ≤ (s_ch σ y c).1) ∧
  (∀ i j c, s_ic σ y i j = some c → i < s_n σ y ∧ j < yt_ins (s_ac σ y i).1 ∧ c < s_nc σ y) ∧
  (∀ i j c, s_oc σ y i j = some c → i < s_n σ y ∧ j < yt_outs (s_ac σ y i).1 ∧ c < s_nc σ y) ∧
  yp_wf (s_T σ y)

