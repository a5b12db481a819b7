/-! THE FACE: actor -/
theorem J_o {σ : ys} (hJ : yJ σ) : ∀ z, yI σ z ∨ 2 ≤ z := fun z => by
  match z with
  | 0 => exact Or.inl hJ.1
  | 1 => exact Or.inl hJ.2.1
  | n + 2 => exact Or.inr (by omega)
theorem nI_m1 {n : Nat} (h : n < 2 ^ 31) : ¬ nI n = -1 := fun e => by
  have h1 := nI_toInt h
  rw [e] at h1
  have h2 : (-1 : Int32).toInt = -1 := by decide
  omega
def a_aok (T : yp_T) (x : Int32) : Option Nat := if x < 0 ∨ nI 9 ≤ x ∨ 10 ≤ yp_n T then none else some x.toNatClampNeg
theorem aok_split (T : yp_T) (x : Int32) : ((x < 0 ∨ nI 9 ≤ x ∨ 10 ≤ yp_n T) ∧ a_aok T x = none) ∨ ∃ k, k < 9 ∧ yp_n T < 10 ∧ x = nI k ∧ a_aok T x = some k := by
  by_cases h : x < 0 ∨ nI 9 ≤ x ∨ 10 ≤ yp_n T
  · exact Or.inl ⟨h, if_pos h⟩
  · right
    rcases ysplit x (n := 9) (by omega) with (q | q) | ⟨k, hk, rfl⟩
    · exact absurd (Or.inl q) h
    · exact absurd (Or.inr (Or.inl q)) h
    · refine ⟨k, hk, Nat.lt_of_not_le (fun q => h (Or.inr (Or.inr q))), rfl, ?_⟩
      unfold a_aok
      rw [if_neg h, nI_clamp (by omega)]
def addT (T : yp_T) (k : Nat) (a b : Int32) : yp_T := (yp_n T + 1, va_up (yp_kd T) (yp_n T) k, va_up (yp_a T) (yp_n T) a, va_up (yp_b T) (yp_n T) b, yp_ic T, yp_oc T, yp_rm T, yp_sr T)
section ADD
variable {σ : ys} {y k : Nat} {a b : Int32}
theorem add_cn (z : Nat) : s_n (yo_add σ y k a b) z = if z = y then s_n σ y + 1 else s_n σ z := by
  show (va_up σ.2.1 y (s_n σ y + 1, s_nc σ y) z).1 = _
  unfold va_up
  by_cases h : z = y
  · rw [if_pos h, if_pos h]
  · rw [if_neg h, if_neg h]; rfl
theorem add_cc (z : Nat) : s_nc (yo_add σ y k a b) z = s_nc σ z := by
  show (va_up σ.2.1 y (s_n σ y + 1, s_nc σ y) z).2 = _
  unfold va_up
  by_cases h : z = y
  · rw [if_pos h, h]
  · rw [if_neg h]; rfl
theorem add_ac (z i : Nat) : s_ac (yo_add σ y k a b) z i = if z = y ∧ i = s_n σ y then (k, a, b, 0, 0) else s_ac σ z i := rfl
theorem add_rw (z i : Nat) : s_rw (yo_add σ y k a b) z i = if z = y ∧ i = s_n σ y then (fun _ => 0) else s_rw σ z i := rfl
theorem add_n1 : s_n (yo_add σ 0 k a b) 1 = s_n σ 1 := by rw [add_cn, if_neg (by omega)]
theorem add_oth {z : Nat} (hz : z ≠ y) : s_ac (yo_add σ y k a b) z = s_ac σ z ∧ s_rw (yo_add σ y k a b) z = s_rw σ z := by
  refine ⟨funext fun i => ?_, funext fun i => ?_⟩
  · rw [add_ac, if_neg (fun h => hz h.1)]
  · rw [add_rw, if_neg (fun h => hz h.1)]
theorem add_To {z : Nat} (hz : z ≠ y) : s_T (yo_add σ y k a b) z = s_T σ z := by
  obtain ⟨h1, h2⟩ := add_oth (σ := σ) (k := k) (a := a) (b := b) hz
  unfold s_T
  rw [h1, h2, add_cn, if_neg hz]
  rfl
theorem add_Do {z : Nat} (hz : z ≠ y) : s_D (yo_add σ y k a b) z = s_D σ z := by
  obtain ⟨h1, h2⟩ := add_oth (σ := σ) (k := k) (a := a) (b := b) hz
  unfold s_D
  rw [h1, h2]
  rfl
theorem add_Iz {z : Nat} (hz : z ≠ y) (hi : yI σ z) : yI (yo_add σ y k a b) z := by
  obtain ⟨h1, h2⟩ := add_oth (σ := σ) (k := k) (a := a) (b := b) hz
  unfold yI at hi ⊢
  rw [add_To hz, add_cn, if_neg hz, add_cc, h1]
  exact hi
theorem add_T (hi : yI σ y) : s_T (yo_add σ y k a b) y = addT (s_T σ y) k a b := by
  have hd := hi.1.2.1 (s_n σ y) (Nat.le_refl _)
  have e1 : (fun i => (s_ac (yo_add σ y k a b) y i).1) = va_up (fun i => (s_ac σ y i).1) (s_n σ y) k := by
    funext i; rw [add_ac]; unfold va_up
    by_cases h : i = s_n σ y
    · rw [if_pos ⟨rfl, h⟩, if_pos h]
    · rw [if_neg (fun q => h q.2), if_neg h]
  have e2 : (fun i => (s_ac (yo_add σ y k a b) y i).2.1) = va_up (fun i => (s_ac σ y i).2.1) (s_n σ y) a := by
    funext i; rw [add_ac]; unfold va_up
    by_cases h : i = s_n σ y
    · rw [if_pos ⟨rfl, h⟩, if_pos h]
    · rw [if_neg (fun q => h q.2), if_neg h]
  have e3 : (fun i => (s_ac (yo_add σ y k a b) y i).2.2.1) = va_up (fun i => (s_ac σ y i).2.2.1) (s_n σ y) b := by
    funext i; rw [add_ac]; unfold va_up
    by_cases h : i = s_n σ y
    · rw [if_pos ⟨rfl, h⟩, if_pos h]
    · rw [if_neg (fun q => h q.2), if_neg h]
  have e4 : (fun i => yrw (s_rw (yo_add σ y k a b) y i) (s_ac (yo_add σ y k a b) y i).2.2.2.1) = fun i => yrw (s_rw σ y i) (s_ac σ y i).2.2.2.1 := by
    funext i; rw [add_ac, add_rw]
    by_cases h : i = s_n σ y
    · rw [if_pos ⟨rfl, h⟩, if_pos ⟨rfl, h⟩, h, hd]; rfl
    · rw [if_neg (fun q => h q.2), if_neg (fun q => h q.2)]
  unfold s_T
  rw [e1, e2, e3, e4, add_cn, if_pos rfl]
  rfl
theorem add_D (hi : yI σ y) : s_D (yo_add σ y k a b) y = s_D σ y := by
  have hd := hi.1.2.1 (s_n σ y) (Nat.le_refl _)
  have e1 : (fun i => (s_ac (yo_add σ y k a b) y i).2.2.2.2) = fun i => (s_ac σ y i).2.2.2.2 := by
    funext i; rw [add_ac]
    by_cases h : i = s_n σ y
    · rw [if_pos ⟨rfl, h⟩, h, hd]
    · rw [if_neg (fun q => h q.2)]
  have e2 : (fun i => if (s_ac (yo_add σ y k a b) y i).1 = 6 then yrw (s_rw (yo_add σ y k a b) y i) (s_ac (yo_add σ y k a b) y i).2.2.2.2 else []) = fun i => if (s_ac σ y i).1 = 6 then yrw (s_rw σ y i) (s_ac σ y i).2.2.2.2 else [] := by
    funext i
    by_cases h : i = s_n σ y
    · have q1 : s_ac (yo_add σ y k a b) y i = (k, a, b, 0, 0) := by rw [add_ac, if_pos ⟨rfl, h⟩]
      rw [q1, h, hd, if_neg (show ¬ (0 : Nat) = 6 by omega)]
      by_cases h6 : k = 6
      · rw [if_pos h6]; rfl
      · rw [if_neg h6]
    · have q1 : s_ac (yo_add σ y k a b) y i = s_ac σ y i := by rw [add_ac, if_neg (fun q => h q.2)]
      have q2 : s_rw (yo_add σ y k a b) y i = s_rw σ y i := by rw [add_rw, if_neg (fun q => h q.2)]
      rw [q1, q2]
  unfold s_D
  rw [e1, e2]
  rfl
theorem add_I (hi : yI σ y) (hk : k < 9) (hn : s_n σ y < 10) : yI (yo_add σ y k a b) y := by
  obtain ⟨b1, b2, b3, b4, b5, b6, b7⟩ := id hi
  refine ⟨⟨by rw [add_cn, if_pos rfl]; omega, fun i h => ?_, fun c hc => b1.2.2 c (by rw [add_cc] at hc; exact hc)⟩, by rw [add_cc]; exact b2, fun i => ?_, b4, fun i j c e => ?_, fun i j c e => ?_, wf_io rfl rfl b7⟩
  · rw [add_cn, if_pos rfl] at h
    rw [add_ac, if_neg (fun q => by omega)]
    exact b1.2.1 i (by omega)
  · rw [add_ac]
    by_cases h : i = s_n σ y
    · rw [if_pos ⟨rfl, h⟩]; exact ⟨hk, by show 0 ≤ 20; omega, fun _ => rfl, by show 0 ≤ 100; omega, fun _ => by show 0 ≤ 60; omega⟩
    · rw [if_neg (fun q => h q.2)]; exact b3 i
  · obtain ⟨c1, c2, c3⟩ := b5 i j c e
    rw [add_cn, if_pos rfl, add_ac, if_neg (fun q => by omega), add_cc]
    exact ⟨by omega, c2, c3⟩
  · obtain ⟨c1, c2, c3⟩ := b6 i j c e
    rw [add_cn, if_pos rfl, add_ac, if_neg (fun q => by omega), add_cc]
    exact ⟨by omega, c2, c3⟩
theorem add_L {LL : List yl} (hLL : ∀ q, q ∈ LL ↔ yL σ q) {y : Nat} (hy : y < 2) (k : Nat) (a b : Int32) : ∀ q, q ∈ ((((LL ++ [(5, y, s_n σ y)]) ++ [(6, y, s_n σ y)]) ++ [(7, y, s_n σ y)]) ++ [(8, y, s_n σ y)]) ↔ yL (yo_add σ y k a b) q := by
  intro q
  have hm : q ∈ ((((LL ++ [(5, y, s_n σ y)]) ++ [(6, y, s_n σ y)]) ++ [(7, y, s_n σ y)]) ++ [(8, y, s_n σ y)]) ↔ yL σ q ∨ q = (5, y, s_n σ y) ∨ q = (6, y, s_n σ y) ∨ q = (7, y, s_n σ y) ∨ q = (8, y, s_n σ y) := by
    rw [← hLL]; simp [or_assoc]
  rw [hm]
  obtain ⟨f, z, i⟩ := q
  have key : (z < 2 ∧ i < s_n (yo_add σ y k a b) z) ↔ (z < 2 ∧ i < s_n σ z) ∨ (z = y ∧ i = s_n σ y) := by
    rw [add_cn]
    by_cases h : z = y
    · subst h
      rw [if_pos rfl]
      constructor
      · rintro ⟨h1, h2⟩
        by_cases h3 : i = s_n σ z
        · exact Or.inr ⟨rfl, h3⟩
        · exact Or.inl ⟨h1, by omega⟩
      · rintro (⟨h1, h2⟩ | ⟨-, h2⟩)
        · exact ⟨h1, by omega⟩
        · exact ⟨hy, by omega⟩
    · rw [if_neg h]
      constructor
      · exact Or.inl
      · rintro (h1 | h1)
        · exact h1
        · exact absurd h1.1 h
  match f with
  | 0 => show (z = 0 ∧ i = 0) ∨ _ ↔ (z = 0 ∧ i = 0); simp
  | 1 => show (z < 2 ∧ i = 0) ∨ _ ↔ (z < 2 ∧ i = 0); simp
  | 2 => show (z < 2 ∧ i = 0) ∨ _ ↔ (z < 2 ∧ i = 0); simp
  | 3 => show (z < 2 ∧ i = 0) ∨ _ ↔ (z < 2 ∧ i = 0); simp
  | 4 => show (z < 2 ∧ i = 0) ∨ _ ↔ (z < 2 ∧ i = 0); simp
  | 5 => show (z < 2 ∧ i < s_n σ z) ∨ _ ↔ (z < 2 ∧ i < s_n (yo_add σ y k a b) z); rw [key]; simp
  | 6 => show (z < 2 ∧ i < s_n σ z) ∨ _ ↔ (z < 2 ∧ i < s_n (yo_add σ y k a b) z); rw [key]; simp
  | 7 => show (z < 2 ∧ i < s_n σ z) ∨ _ ↔ (z < 2 ∧ i < s_n (yo_add σ y k a b) z); rw [key]; simp
  | 8 => show (z < 2 ∧ i < s_n σ z) ∨ _ ↔ (z < 2 ∧ i < s_n (yo_add σ y k a b) z); rw [key]; simp
  | 9 => show (z < 2 ∧ i < s_nc σ z) ∨ _ ↔ (z < 2 ∧ i < s_nc (yo_add σ y k a b) z); rw [add_cc]; simp
  | 10 => show (z < 2 ∧ i < s_nc σ z) ∨ _ ↔ (z < 2 ∧ i < s_nc (yo_add σ y k a b) z); rw [add_cc]; simp
  | n + 11 => show False ∨ _ ↔ False; simp
end ADD
theorem add_Io {σ : ys} {k : Nat} (hJ : yJ σ) (hk : k < 9) (hn : s_n σ 0 < 10) (a b : Int32) : ∀ z, yI (yo_add σ 0 k a b) z ∨ 2 ≤ z := fun z => by
  match z with
  | 0 => exact Or.inl (add_I hJ.1 hk hn)
  | 1 => exact Or.inl (add_Iz (by omega) hJ.2.1)
  | n + 2 => exact Or.inr (by omega)
theorem add_Io1 {σ : ys} {k : Nat} (hJ : yJ σ) (hk : k < 9) (hn : s_n σ 0 < 10) (a b : Int32) : yI (yo_add σ 0 k a b) 1 := add_Iz (by omega) hJ.2.1
theorem L_fl {σ : ys} {LL : List yl} {v : Int32} (hLL : ∀ q, q ∈ LL ↔ yL σ q) : ∀ q, q ∈ LL ↔ yL (sx_fl σ 0 0 v) q := hLL
theorem add_J {σ : ys} {k : Nat} (hJ : yJ σ) (hk : k < 9) (hn : s_n σ 0 < 10) (a b : Int32) : yJ (sx_fl (yo_add (yo_add σ 0 k a b) 1 k a b) 0 0 0) ∧ s_T (sx_fl (yo_add (yo_add σ 0 k a b) 1 k a b) 0 0 0) 0 = addT (s_T σ 0) k a b ∧ s_D (sx_fl (yo_add (yo_add σ 0 k a b) 1 k a b) 0 0 0) 0 = s_D σ 0 ∧ s_nc (sx_fl (yo_add (yo_add σ 0 k a b) 1 k a b) 0 0 0) 0 = s_nc σ 0 := by
  obtain ⟨j1, j2, j3, j4⟩ := id hJ
  have hT : s_T (yo_add (yo_add σ 0 k a b) 1 k a b) 0 = addT (s_T σ 0) k a b := (add_To (by omega)).trans (add_T j1)
  have hD : s_D (yo_add (yo_add σ 0 k a b) 1 k a b) 0 = s_D σ 0 := (add_Do (by omega)).trans (add_D j1)
  have hI1 : yI (yo_add σ 0 k a b) 1 := add_Iz (by omega) j2
  have en : s_n (yo_add σ 0 k a b) 1 = s_n σ 0 := by rw [add_n1]; exact j3.1
  refine ⟨⟨?_, ?_, ?_, Or.inl (by show up2 (s_fl (yo_add (yo_add σ 0 k a b) 1 k a b)) 0 0 0 0 0 = 0; exact up2_s _ _ _ _)⟩, hT, hD, by show s_nc (yo_add (yo_add σ 0 k a b) 1 k a b) 0 = _; rw [add_cc, add_cc]⟩
  · show yI (yo_add (yo_add σ 0 k a b) 1 k a b) 0
    exact add_Iz (by omega) (add_I j1 hk hn)
  · show yI (yo_add (yo_add σ 0 k a b) 1 k a b) 1
    exact add_I hI1 hk (by rw [en]; exact hn)
  · show yE (yo_add (yo_add σ 0 k a b) 1 k a b) 1 0
    obtain ⟨e1, e2, e3, e4, e5, e6⟩ := j3
    refine ⟨?_, by rw [add_cc, add_cc, add_cc, add_cc]; exact e2, fun i => ?_, e4, e5, e6⟩
    · rw [add_cn, if_pos rfl, en, add_cn, if_neg (by omega), add_cn, if_pos rfl]
    · rw [add_ac, add_ac, add_ac, add_ac, en]
      by_cases h : i = s_n σ 0
      · rw [if_pos ⟨rfl, h⟩, if_neg (fun q => by omega), if_pos ⟨rfl, h⟩]; exact ⟨rfl, rfl, rfl⟩
      · rw [if_neg (fun q => h q.2), if_neg (fun q => by omega), if_neg (fun q => by omega), if_neg (fun q => h q.2)]; exact e3 i
set_option maxHeartbeats 4000000 in
set_option maxRecDepth 100000 in
theorem c_S_actor (l : Launch) (D : va_G) (cc : ClassId × ClassId × ClassId) (ad : yl → Nat) (LL : List yl) (X : va_W) (b0 sz : Nat) (σ : ys) (hLL : ∀ q, q ∈ LL ↔ yL σ q) (hJ : yJ σ) (x a b : Int32) : Met l y_S_actor w_S_actor ({ frames := 3, cells := 8, slots := 144, locals := 58 }) (yPr D cc b0 [.ref (ad (0, 0, 0)), .int x, .int a, .int b] (yW cc ad LL X σ) sz) (va_Qi (fun r (u : (yl → Nat) × List yl × ys) => r = (match a_aok (s_T σ 0) x with | none => -1 | some _ => nI (s_n σ 0)) ∧ (∀ q, q ∈ u.2.1 ↔ yL u.2.2 q) ∧ yJ u.2.2 ∧ s_T u.2.2 0 = (match a_aok (s_T σ 0) x with | none => s_T σ 0 | some k => addT (s_T σ 0) k a b) ∧ s_D u.2.2 0 = s_D σ 0 ∧ s_nc u.2.2 0 = s_nc σ 0 ∧ u.1 (0, 0, 0) = ad (0, 0, 0)) (yB D ycl (yW cc ad LL X σ) sz (fun u => yW cc u.1 u.2.1 X u.2.2)) (va_A (yW cc ad LL X σ) sz)) 8 144 (va_A (yW cc ad LL X σ) sz) := by
  have hL : ∀ q, yL σ q → q ∈ LL := fun q h => (hLL q).mpr h
  have hIo := J_o hJ
  have o0 : (0, 0, 0) ∈ LL := hL _ ⟨rfl, rfl⟩
  have n0 : (1, 0, 0) ∈ LL := hL _ ⟨by omega, rfl⟩
  have n1 : (1, 1, 0) ∈ LL := hL _ ⟨by omega, rfl⟩
  have hi := hJ.1
  have hi1 := hJ.2.1
  have hn10 := hi.1.1
  have hc16 := hi.2.1
  have hm10 := hi1.1.1
  have hd16 := hi1.2.1
  rcases aok_split (s_T σ 0) x with ⟨hno, hok⟩ | ⟨k, hk, hn, rfl, hok⟩
  · refine y_ofW (cc := b_S_actor) (maxL := 5) (ret := (some .int)) (by decide) rfl (Nat.le_of_ble_eq_true rfl) ?_
    intro pv ev sv mv bv tv cv ls hI hsz hw hl
    obtain ⟨hx, hb, hr, hml, hts, hown, hlocks, hnm, hK, hAb, hb0, hA⟩ := id hI
    have ht : ∀ w ∈ lg_tbl, w.before _ sv = true := fun w h => hts w (List.mem_cons_of_mem _ h)
    have hl : lv_has ls 5 [(0, .ref (ad (0, 0, 0))), (1, .int x), (2, .int a), (3, .int b)] := hl
    refine lv_aload_n hx hb d_S_actor_0 rfl (lv_at hl 0 rfl) ?_
    refine yr_get (C := R_S) (T := F_S) (N := 3) (ci := k_S) hx hb ht j_S hown hK.1 hw (by assumption) (by rfl) rfl 0 (by decide) (ht _ mf_S_14) (fun _ h9 => h9) (by rfl) d_S_actor_1 ?_
    refine lv_iload_n hx hb d_S_actor_4 rfl (lv_at hl 1 rfl) ?_
    refine lv_iload_n hx hb d_S_actor_5 rfl (lv_at hl 2 rfl) ?_
    refine lv_iload_n hx hb d_S_actor_6 rfl (lv_at hl 3 rfl) ?_
    refine yc_i (va_runV (As := [.int _, .int _, .int _]) (rest := []) ⟨hx, hb, hml, hown, hts⟩ (c_Y_addActor_no l D cc ad LL X b0 _ σ hLL 0 (by omega) hi x a b hno) (cwV 3 hts (yg_call mc_Y_addActor ml_S_25 mm_Y_addActor ms_Y_addActor mi_Y) rfl rfl rfl (by decide +kernel) ⟨Nat.le_of_ble_eq_true rfl, Nat.le_of_ble_eq_true rfl⟩) (y_preV hI hw (y_recv hK.1 hw n0 (by rfl) rfl)) rfl rfl hl.1 rfl (lv_room (Nat.le_of_ble_eq_true rfl)) d_S_actor_7 ⟨Nat.le_of_ble_eq_true rfl, Nat.le_of_ble_eq_true rfl⟩) hw hA (fun r u H locs he hw => ?_)
    subst he
    refine lv_istore (lv' := [(4, .int _), (0, .ref _), (1, .int _), (2, .int _), (3, .int _)]) hx hb d_S_actor_10 hl (by decide) rfl (fun ls hl => ?_)
    refine lv_iload hx hb d_S_actor_12 (lv_at hl 0 rfl) ?_
    refine lv_iconst (v := (-1)) hx hb d_S_actor_14 (by decide) ?_
    refine lv_icmp_eq (tgt := 34) hx hb d_S_actor_15 (by decide) (fun c_15 => ?_) (fun c_15 => by exact absurd rfl c_15)
    refine lv_iload hx hb d_S_actor_34 (lv_at hl 0 rfl) ?_
    refine W.widen (k := 8) (n := 144) (by omega) (by omega) ?_
    exact ye_i hI (ad, LL, σ) ⟨by rw [hok], hLL, hJ, by rw [hok], rfl, rfl, rfl⟩ hw d_S_actor_36
  · refine y_ofW (cc := b_S_actor) (maxL := 5) (ret := (some .int)) (by decide) rfl (Nat.le_of_ble_eq_true rfl) ?_
    intro pv ev sv mv bv tv cv ls hI hsz hw hl
    generalize hargs : ([.ref (ad (0, 0, 0)), .int (nI k), .int a, .int b] : List Value).toArray = args at hI ⊢
    obtain ⟨hx, hb, hr, hml, hts, hown, hlocks, hnm, hK, hAb, hb0, hA⟩ := id hI
    have ht : ∀ w ∈ lg_tbl, w.before _ sv = true := fun w h => hts w (List.mem_cons_of_mem _ h)
    have hl : lv_has ls 5 [(0, .ref (ad (0, 0, 0))), (1, .int (nI k)), (2, .int a), (3, .int b)] := hl
    refine lv_aload_n hx hb d_S_actor_0 rfl (lv_at hl 0 rfl) ?_
    refine yr_get (C := R_S) (T := F_S) (N := 3) (ci := k_S) hx hb ht j_S hown hK.1 hw (by assumption) (by rfl) rfl 0 (by decide) (ht _ mf_S_14) (fun _ h9 => h9) (by rfl) d_S_actor_1 ?_
    refine lv_iload_n hx hb d_S_actor_4 rfl (lv_at hl 1 rfl) ?_
    refine lv_iload_n hx hb d_S_actor_5 rfl (lv_at hl 2 rfl) ?_
    refine lv_iload_n hx hb d_S_actor_6 rfl (lv_at hl 3 rfl) ?_
    refine yc_i (va_runV (As := [.int _, .int _, .int _]) (rest := []) ⟨hx, hb, hml, hown, hts⟩ (c_Y_addActor l D cc ad LL X b0 _ σ hLL 0 (by omega) hi hIo k hk hn a b) (cwV 3 hts (yg_call mc_Y_addActor ml_S_25 mm_Y_addActor ms_Y_addActor mi_Y) rfl rfl rfl (by decide +kernel) ⟨Nat.le_of_ble_eq_true rfl, Nat.le_of_ble_eq_true rfl⟩) (y_preV hI hw (y_recv hK.1 hw n0 (by rfl) rfl)) rfl rfl hl.1 rfl (lv_room (Nat.le_of_ble_eq_true rfl)) d_S_actor_7 ⟨Nat.le_of_ble_eq_true rfl, Nat.le_of_ble_eq_true rfl⟩) hw hA (fun r ad1 H locs he hw => ?_)
    obtain ⟨rfl, hag1⟩ := he
    rw [← hag1 _ o0] at hl
    have hLL1 := add_L hLL (y := 0) (by omega) k a b
    have o1 : (0, 0, 0) ∈ ((((LL ++ [(5, 0, s_n σ 0)]) ++ [(6, 0, s_n σ 0)]) ++ [(7, 0, s_n σ 0)]) ++ [(8, 0, s_n σ 0)]) := (hLL1 _).mpr ⟨rfl, rfl⟩
    have nn1 : (1, 1, 0) ∈ ((((LL ++ [(5, 0, s_n σ 0)]) ++ [(6, 0, s_n σ 0)]) ++ [(7, 0, s_n σ 0)]) ++ [(8, 0, s_n σ 0)]) := (hLL1 _).mpr ⟨by omega, rfl⟩
    have hIo1 := add_Io hJ hk hn a b
    refine lv_istore (lv' := [(4, .int _), (0, .ref _), (1, .int _), (2, .int _), (3, .int _)]) hx hb d_S_actor_10 hl (by decide) rfl (fun ls hl => ?_)
    refine lv_iload hx hb d_S_actor_12 (lv_at hl 0 rfl) ?_
    refine lv_iconst (v := (-1)) hx hb d_S_actor_14 (by decide) ?_
    refine lv_icmp_eq (tgt := 34) hx hb d_S_actor_15 (by decide) (fun c_15 => by exact absurd c_15 (nI_m1 (by omega))) (fun c_15 => ?_)
    refine lv_aload_n hx hb d_S_actor_18 rfl (lv_at hl 1 rfl) ?_
    refine yr_get (C := R_S) (T := F_S) (N := 3) (ci := k_S) hx hb ht j_S hown hK.1 hw o1 (by rfl) rfl 1 (by decide) (ht _ mf_S_18) (fun _ h9 => h9) (by rfl) d_S_actor_19 ?_
    refine lv_iload_n hx hb d_S_actor_22 rfl (lv_at hl 2 rfl) ?_
    refine lv_iload_n hx hb d_S_actor_23 rfl (lv_at hl 3 rfl) ?_
    refine lv_iload_n hx hb d_S_actor_24 rfl (lv_at hl 4 rfl) ?_
    refine yc_i (va_runV (As := [.int _, .int _, .int _]) (rest := []) ⟨hx, hb, hml, hown, hts⟩ (c_Y_addActor l D cc ad1 ((((LL ++ [(5, 0, s_n σ 0)]) ++ [(6, 0, s_n σ 0)]) ++ [(7, 0, s_n σ 0)]) ++ [(8, 0, s_n σ 0)]) X b0 _ (yo_add σ 0 k a b) hLL1 1 (by omega) (add_Io1 hJ hk hn a b) hIo1 k hk (by rw [add_n1]; rw [hJ.2.2.1.1]; exact hn) a b) (cwV 3 hts (yg_call mc_Y_addActor ml_S_25 mm_Y_addActor ms_Y_addActor mi_Y) rfl rfl rfl (by decide +kernel) ⟨Nat.le_of_ble_eq_true rfl, Nat.le_of_ble_eq_true rfl⟩) (y_preV hI hw (y_recv hK.1 hw nn1 (by rfl) rfl)) rfl rfl hl.1 rfl (lv_room (Nat.le_of_ble_eq_true rfl)) d_S_actor_25 ⟨Nat.le_of_ble_eq_true rfl, Nat.le_of_ble_eq_true rfl⟩) hw hA (fun r ad2 H locs he hw => ?_)
    obtain ⟨rfl, hag2⟩ := he
    rw [← hag2 _ o1] at hl
    have hLL2 := add_L hLL1 (y := 1) (by omega) k a b
    have o2 : (0, 0, 0) ∈ ((((((((LL ++ [(5, 0, s_n σ 0)]) ++ [(6, 0, s_n σ 0)]) ++ [(7, 0, s_n σ 0)]) ++ [(8, 0, s_n σ 0)]) ++ [(5, 1, s_n (yo_add σ 0 k a b) 1)]) ++ [(6, 1, s_n (yo_add σ 0 k a b) 1)]) ++ [(7, 1, s_n (yo_add σ 0 k a b) 1)]) ++ [(8, 1, s_n (yo_add σ 0 k a b) 1)]) := (hLL2 _).mpr ⟨rfl, rfl⟩
    refine lv_pop hx hb d_S_actor_28 rfl ?_
    refine lv_aload_n hx hb d_S_actor_29 rfl (lv_at hl 1 rfl) ?_
    refine lv_iconst (v := 0) hx hb d_S_actor_30 (by decide) ?_
    refine yr_put (ty := .boolean) (C := R_S) (T := F_S) (N := 3) (ci := k_S) hx hb ht j_S t_S t_S_ok n_S hown hK.1 hw o2 (by rfl) rfl 2 (by decide) (ht _ mf_S_21) (fun _ h9 => h9) rfl (by decide +kernel) (by decide) (by decide) (Nat.le_of_ble_eq_true rfl) d_S_actor_31 (fun H locs hw => ?_)
    have hw := yw_fl 0 hw rfl
    refine lv_iload hx hb d_S_actor_34 (lv_at hl 0 rfl) ?_
    exact ye_i hI (ad2, ((((((((LL ++ [(5, 0, s_n σ 0)]) ++ [(6, 0, s_n σ 0)]) ++ [(7, 0, s_n σ 0)]) ++ [(8, 0, s_n σ 0)]) ++ [(5, 1, s_n (yo_add σ 0 k a b) 1)]) ++ [(6, 1, s_n (yo_add σ 0 k a b) 1)]) ++ [(7, 1, s_n (yo_add σ 0 k a b) 1)]) ++ [(8, 1, s_n (yo_add σ 0 k a b) 1)]), sx_fl (yo_add (yo_add σ 0 k a b) 1 k a b) 0 0 0) ⟨by rw [hok], L_fl hLL2, (add_J hJ hk hn a b).1, by rw [hok]; exact (add_J hJ hk hn a b).2.1, (add_J hJ hk hn a b).2.2.1, (add_J hJ hk hn a b).2.2.2, (hag2 _ o1).trans (hag1 _ o0)⟩ hw d_S_actor_36
