/-! THE FACE: channel -/
theorem jok_split (T : yp_T) (nc : Nat) (f o t i r : Int32) (hn : yp_n T < 2 ^ 31) : a_jok T nc f o t i r = none ∨ ∃ jf jo jt ji rr, f = nI jf ∧ o = nI jo ∧ t = nI jt ∧ i = nI ji ∧ r = nI rr ∧ jf < yp_n T ∧ jt < yp_n T ∧ nc < 16 ∧ 1 ≤ rr ∧ rr ≤ 8 ∧ jo < yt_outs (yp_kd T jf) ∧ ji < yt_ins (yp_kd T jt) ∧ yp_oc T jf jo = none ∧ yp_ic T jt ji = none ∧ a_jok T nc f o t i r = some (jf, jo, jt, ji, rr) := by
  rcases ysplit f hn with h | ⟨jf, hjf, rfl⟩
  · left; unfold a_jok; rw [yin_no h]
  · rcases ysplit t hn with h | ⟨jt, hjt, rfl⟩
    · left; unfold a_jok; rw [yin_no h]; cases yin (nI jf) (yp_n T) <;> rfl
    · have h1 := yt_outs_le (yp_kd T jf)
      have h2 := yt_ins_le (yp_kd T jt)
      by_cases hc : nc < 16
      · by_cases hr : r < nI 1 ∨ nI 8 < r
        · left; unfold a_jok; rw [yin_some hjf hn, yin_some hjt hn]; show (if nc < 16 then _ else _) = _; rw [if_pos hc, if_pos hr]
        · have hr9 : ∃ rr, 1 ≤ rr ∧ rr ≤ 8 ∧ r = nI rr := by
            rcases ysplit r (n := 9) (by omega) with (q | q) | ⟨rr, q, e⟩
            · exact absurd (Or.inl (by rw [Int32.lt_iff_toInt_lt, nI_toInt (by omega)]; rw [Int32.lt_iff_toInt_lt, Int32.toInt_zero] at q; omega)) hr
            · exact absurd (Or.inr (by rw [Int32.lt_iff_toInt_lt, nI_toInt (by omega)]; rw [Int32.le_iff_toInt_le, nI_toInt (by omega)] at q; omega)) hr
            · refine ⟨rr, ?_, by omega, e⟩
              rcases Nat.eq_zero_or_pos rr with z | z
              · exact absurd (Or.inl (by rw [e, z]; decide)) hr
              · exact z
          obtain ⟨rr, r1, r2, er⟩ := hr9
          rcases ysplit o (n := yt_outs (yp_kd T jf)) (by omega) with h | ⟨jo, hjo, rfl⟩
          · left; unfold a_jok; rw [yin_some hjf hn, yin_some hjt hn]; show (if nc < 16 then _ else _) = _; rw [if_pos hc, if_neg hr, yin_no h]
          · rcases ysplit i (n := yt_ins (yp_kd T jt)) (by omega) with h | ⟨ji, hji, rfl⟩
            · left; unfold a_jok; rw [yin_some hjf hn, yin_some hjt hn]; show (if nc < 16 then _ else _) = _; rw [if_pos hc, if_neg hr, yin_no h]; cases yin (nI jo) (yt_outs (yp_kd T jf)) <;> rfl
            · cases eo : yp_oc T jf jo with
              | some c0 =>
                left; unfold a_jok; rw [yin_some hjf hn, yin_some hjt hn]; show (if nc < 16 then _ else _) = _; rw [if_pos hc, if_neg hr, yin_some hjo (by omega), yin_some hji (by omega)]
                exact if_neg (fun q => by rw [eo] at q; cases q.1)
              | none =>
                cases ei : yp_ic T jt ji with
                | some c0 =>
                  left; unfold a_jok; rw [yin_some hjf hn, yin_some hjt hn]; show (if nc < 16 then _ else _) = _; rw [if_pos hc, if_neg hr, yin_some hjo (by omega), yin_some hji (by omega)]
                  exact if_neg (fun q => by rw [ei] at q; cases q.2)
                | none =>
                  right
                  refine ⟨jf, jo, jt, ji, rr, rfl, rfl, rfl, rfl, er, hjf, hjt, hc, r1, r2, hjo, hji, eo, ei, ?_⟩
                  rw [jok_yes hjf hjt hn hc hr hjo hji eo ei, er, nI_clamp (by omega)]
      · left; unfold a_jok; rw [yin_some hjf hn, yin_some hjt hn]; show (if nc < 16 then _ else _) = _; rw [if_neg hc]
def joinT (T : yp_T) (nc jf jo jt ji r : Nat) : yp_T := (yp_n T, yp_kd T, yp_a T, yp_b T, fun i j => if i = jt ∧ j = ji then some nc else yp_ic T i j, fun i j => if i = jf ∧ j = jo then some nc else yp_oc T i j, va_up (yp_rm T) nc r, yp_sr T)
section JN
variable {σ : ys} {y jf jo jt ji r : Nat}
theorem jn_cn (z : Nat) : s_n (yo_join σ y jf jo jt ji r) z = s_n σ z := by
  show (va_up σ.2.1 y (s_n σ y, s_nc σ y + 1) z).1 = _
  unfold va_up
  by_cases h : z = y
  · rw [if_pos h, h]
  · rw [if_neg h]; rfl
theorem jn_cc (z : Nat) : s_nc (yo_join σ y jf jo jt ji r) z = if z = y then s_nc σ y + 1 else s_nc σ z := by
  show (va_up σ.2.1 y (s_n σ y, s_nc σ y + 1) z).2 = _
  unfold va_up
  by_cases h : z = y
  · rw [if_pos h, if_pos h]
  · rw [if_neg h, if_neg h]; rfl
theorem jn_ch (z i : Nat) : s_ch (yo_join σ y jf jo jt ji r) z i = if z = y ∧ i = s_nc σ y then (r, 0, 0) else s_ch σ z i := rfl
theorem jn_rg (z i : Nat) : s_rg (yo_join σ y jf jo jt ji r) z i = if z = y ∧ i = s_nc σ y then (fun _ => 0) else s_rg σ z i := rfl
theorem jn_oc (z i : Nat) : s_oc (yo_join σ y jf jo jt ji r) z i = if z = y ∧ i = jf then va_up (s_oc σ y jf) jo (some (s_nc σ y)) else s_oc σ z i := rfl
theorem jn_ic (z i : Nat) : s_ic (yo_join σ y jf jo jt ji r) z i = if z = y ∧ i = jt then va_up (s_ic σ y jt) ji (some (s_nc σ y)) else s_ic σ z i := rfl
theorem jn_ac : s_ac (yo_join σ y jf jo jt ji r) = s_ac σ := rfl
theorem jn_rw : s_rw (yo_join σ y jf jo jt ji r) = s_rw σ := rfl
theorem jn_oth {z : Nat} (hz : z ≠ y) : s_ch (yo_join σ y jf jo jt ji r) z = s_ch σ z ∧ s_rg (yo_join σ y jf jo jt ji r) z = s_rg σ z ∧ s_oc (yo_join σ y jf jo jt ji r) z = s_oc σ z ∧ s_ic (yo_join σ y jf jo jt ji r) z = s_ic σ z := by
  refine ⟨funext fun i => ?_, funext fun i => ?_, funext fun i => ?_, funext fun i => ?_⟩
  · rw [jn_ch, if_neg (fun h => hz h.1)]
  · rw [jn_rg, if_neg (fun h => hz h.1)]
  · rw [jn_oc, if_neg (fun h => hz h.1)]
  · rw [jn_ic, if_neg (fun h => hz h.1)]
theorem jn_To {z : Nat} (hz : z ≠ y) : s_T (yo_join σ y jf jo jt ji r) z = s_T σ z := by
  obtain ⟨h1, h2, h3, h4⟩ := jn_oth (σ := σ) (jf := jf) (jo := jo) (jt := jt) (ji := ji) (r := r) hz
  unfold s_T
  rw [h1, h3, h4, jn_cn, jn_ac, jn_rw]
theorem jn_Do {z : Nat} (hz : z ≠ y) : s_D (yo_join σ y jf jo jt ji r) z = s_D σ z := by
  obtain ⟨h1, h2, h3, h4⟩ := jn_oth (σ := σ) (jf := jf) (jo := jo) (jt := jt) (ji := ji) (r := r) hz
  unfold s_D
  rw [h1, h2, jn_ac, jn_rw]
theorem jn_Iz {z : Nat} (hz : z ≠ y) (hi : yI σ z) : yI (yo_join σ y jf jo jt ji r) z := by
  obtain ⟨h1, h2, h3, h4⟩ := jn_oth (σ := σ) (jf := jf) (jo := jo) (jt := jt) (ji := ji) (r := r) hz
  unfold yI at hi ⊢
  rw [jn_To hz, jn_cn, jn_cc, if_neg hz, h1, h3, h4, jn_ac]
  exact hi
theorem jn_icj (i j : Nat) : s_ic (yo_join σ y jf jo jt ji r) y i j = if i = jt ∧ j = ji then some (s_nc σ y) else s_ic σ y i j := by
  rw [jn_ic]
  by_cases h : i = jt
  · rw [if_pos ⟨rfl, h⟩]
    unfold va_up
    by_cases h2 : j = ji
    · rw [if_pos h2, if_pos ⟨h, h2⟩]
    · rw [if_neg h2, if_neg (fun q => h2 q.2), h]
  · rw [if_neg (fun q => h q.2), if_neg (fun q => h q.1)]
theorem jn_ocj (i j : Nat) : s_oc (yo_join σ y jf jo jt ji r) y i j = if i = jf ∧ j = jo then some (s_nc σ y) else s_oc σ y i j := by
  rw [jn_oc]
  by_cases h : i = jf
  · rw [if_pos ⟨rfl, h⟩]
    unfold va_up
    by_cases h2 : j = jo
    · rw [if_pos h2, if_pos ⟨h, h2⟩]
    · rw [if_neg h2, if_neg (fun q => h2 q.2), h]
  · rw [if_neg (fun q => h q.2), if_neg (fun q => h q.1)]
theorem jn_T : s_T (yo_join σ y jf jo jt ji r) y = joinT (s_T σ y) (s_nc σ y) jf jo jt ji r := by
  have e1 : s_ic (yo_join σ y jf jo jt ji r) y = fun i j => if i = jt ∧ j = ji then some (s_nc σ y) else s_ic σ y i j := funext fun i => funext fun j => jn_icj i j
  have e2 : s_oc (yo_join σ y jf jo jt ji r) y = fun i j => if i = jf ∧ j = jo then some (s_nc σ y) else s_oc σ y i j := funext fun i => funext fun j => jn_ocj i j
  have e3 : (fun c => (s_ch (yo_join σ y jf jo jt ji r) y c).1) = va_up (fun c => (s_ch σ y c).1) (s_nc σ y) r := by
    funext c; rw [jn_ch]; unfold va_up
    by_cases h : c = s_nc σ y
    · rw [if_pos ⟨rfl, h⟩, if_pos h]
    · rw [if_neg (fun q => h q.2), if_neg h]
  unfold s_T
  rw [e1, e2, e3, jn_cn, jn_ac, jn_rw]
  rfl
theorem jn_D (hi : yI σ y) : s_D (yo_join σ y jf jo jt ji r) y = s_D σ y := by
  have e : (fun c => yrq (s_rg (yo_join σ y jf jo jt ji r) y c) (s_ch (yo_join σ y jf jo jt ji r) y c).2.1 (s_ch (yo_join σ y jf jo jt ji r) y c).2.2) = fun c => yrq (s_rg σ y c) (s_ch σ y c).2.1 (s_ch σ y c).2.2 := by
    funext c; rw [jn_ch, jn_rg]
    by_cases h : c = s_nc σ y
    · rw [if_pos ⟨rfl, h⟩, if_pos ⟨rfl, h⟩, h, hi.1.2.2 _ (Nat.le_refl _)]; rfl
    · rw [if_neg (fun q => h q.2), if_neg (fun q => h q.2)]
  unfold s_D
  rw [e, jn_ac, jn_rw]
theorem jn_I (hi : yI σ y) (hjf : jf < s_n σ y) (hjt : jt < s_n σ y) (hc : s_nc σ y < 16) (hr : 1 ≤ r ∧ r ≤ 8) (hjo : jo < yt_outs (s_ac σ y jf).1) (hji : ji < yt_ins (s_ac σ y jt).1) (eo : s_oc σ y jf jo = none) (ei : s_ic σ y jt ji = none) : yI (yo_join σ y jf jo jt ji r) y := by
  obtain ⟨b1, b2, b3, b4, b5, b6, b7⟩ := id hi
  have hnc : s_nc (yo_join σ y jf jo jt ji r) y = s_nc σ y + 1 := by rw [jn_cc, if_pos rfl]
  refine ⟨⟨by rw [jn_cn]; exact b1.1, fun i h => b1.2.1 i (by rw [jn_cn] at h; exact h), fun c h => ?_⟩, by rw [hnc]; omega, b3, fun c => ?_, fun i j c e => ?_, fun i j c e => ?_, ?_⟩
  · rw [hnc] at h
    rw [jn_ch, if_neg (fun q => by omega)]
    exact b1.2.2 c (by omega)
  · rw [jn_ch]
    by_cases h : c = s_nc σ y
    · rw [if_pos ⟨rfl, h⟩]; exact ⟨hr.1, hr.2, by show 0 < 8; omega, Nat.zero_le _⟩
    · rw [if_neg (fun q => h q.2)]; exact b4 c
  · rw [jn_icj] at e
    rw [jn_cn, hnc]
    by_cases h : i = jt ∧ j = ji
    · rw [if_pos h] at e
      rw [h.1, h.2, ← Option.some.inj e]
      exact ⟨hjt, hji, by omega⟩
    · rw [if_neg h] at e
      obtain ⟨c1, c2, c3⟩ := b5 i j c e
      exact ⟨c1, c2, by omega⟩
  · rw [jn_ocj] at e
    rw [jn_cn, hnc]
    by_cases h : i = jf ∧ j = jo
    · rw [if_pos h] at e
      rw [h.1, h.2, ← Option.some.inj e]
      exact ⟨hjf, hjo, by omega⟩
    · rw [if_neg h] at e
      obtain ⟨c1, c2, c3⟩ := b6 i j c e
      exact ⟨c1, c2, by omega⟩
  · refine ⟨fun i j k k' c e e' => ?_, fun i j k k' c e e' => ?_⟩
    · have e : s_ic (yo_join σ y jf jo jt ji r) y i k = some c := e
      have e' : s_ic (yo_join σ y jf jo jt ji r) y j k' = some c := e'
      rw [jn_icj] at e e'
      by_cases h : i = jt ∧ k = ji
      · by_cases h' : j = jt ∧ k' = ji
        · exact ⟨h.1.trans h'.1.symm, h.2.trans h'.2.symm⟩
        · rw [if_pos h] at e
          rw [if_neg h', ← Option.some.inj e] at e'
          exact absurd (b5 _ _ _ e').2.2 (Nat.lt_irrefl _)
      · rw [if_neg h] at e
        by_cases h' : j = jt ∧ k' = ji
        · rw [if_pos h'] at e'
          rw [← Option.some.inj e'] at e
          exact absurd (b5 _ _ _ e).2.2 (Nat.lt_irrefl _)
        · rw [if_neg h'] at e'
          exact b7.1 i j k k' c e e'
    · have e : s_oc (yo_join σ y jf jo jt ji r) y i k = some c := e
      have e' : s_oc (yo_join σ y jf jo jt ji r) y j k' = some c := e'
      rw [jn_ocj] at e e'
      by_cases h : i = jf ∧ k = jo
      · by_cases h' : j = jf ∧ k' = jo
        · exact ⟨h.1.trans h'.1.symm, h.2.trans h'.2.symm⟩
        · rw [if_pos h] at e
          rw [if_neg h', ← Option.some.inj e] at e'
          exact absurd (b6 _ _ _ e').2.2 (Nat.lt_irrefl _)
      · rw [if_neg h] at e
        by_cases h' : j = jf ∧ k' = jo
        · rw [if_pos h'] at e'
          rw [← Option.some.inj e'] at e
          exact absurd (b6 _ _ _ e).2.2 (Nat.lt_irrefl _)
        · rw [if_neg h'] at e'
          exact b7.2 i j k k' c e e'
theorem jn_L {LL : List yl} (hLL : ∀ q, q ∈ LL ↔ yL σ q) {y : Nat} (hy : y < 2) (jf jo jt ji r : Nat) : ∀ q, q ∈ ((LL ++ [(9, y, s_nc σ y)]) ++ [(10, y, s_nc σ y)]) ↔ yL (yo_join σ y jf jo jt ji r) q := by
  intro q
  have hm : q ∈ ((LL ++ [(9, y, s_nc σ y)]) ++ [(10, y, s_nc σ y)]) ↔ yL σ q ∨ q = (9, y, s_nc σ y) ∨ q = (10, y, s_nc σ y) := by
    rw [← hLL]; simp [or_assoc]
  rw [hm]
  obtain ⟨f, z, i⟩ := q
  have key : (z < 2 ∧ i < s_nc (yo_join σ y jf jo jt ji r) z) ↔ (z < 2 ∧ i < s_nc σ z) ∨ (z = y ∧ i = s_nc σ y) := by
    rw [jn_cc]
    by_cases h : z = y
    · subst h
      rw [if_pos rfl]
      constructor
      · rintro ⟨h1, h2⟩
        by_cases h3 : i = s_nc σ z
        · exact Or.inr ⟨rfl, h3⟩
        · exact Or.inl ⟨h1, by omega⟩
      · rintro (⟨h1, h2⟩ | ⟨-, h2⟩)
        · exact ⟨h1, by omega⟩
        · exact ⟨hy, by omega⟩
    · rw [if_neg h]
      constructor
      · exact Or.inl
      · rintro (h1 | h1)
        · exact h1
        · exact absurd h1.1 h
  match f with
  | 0 => show (z = 0 ∧ i = 0) ∨ _ ↔ (z = 0 ∧ i = 0); simp
  | 1 => show (z < 2 ∧ i = 0) ∨ _ ↔ (z < 2 ∧ i = 0); simp
  | 2 => show (z < 2 ∧ i = 0) ∨ _ ↔ (z < 2 ∧ i = 0); simp
  | 3 => show (z < 2 ∧ i = 0) ∨ _ ↔ (z < 2 ∧ i = 0); simp
  | 4 => show (z < 2 ∧ i = 0) ∨ _ ↔ (z < 2 ∧ i = 0); simp
  | 5 => show (z < 2 ∧ i < s_n σ z) ∨ _ ↔ (z < 2 ∧ i < s_n (yo_join σ y jf jo jt ji r) z); rw [jn_cn]; simp
  | 6 => show (z < 2 ∧ i < s_n σ z) ∨ _ ↔ (z < 2 ∧ i < s_n (yo_join σ y jf jo jt ji r) z); rw [jn_cn]; simp
  | 7 => show (z < 2 ∧ i < s_n σ z) ∨ _ ↔ (z < 2 ∧ i < s_n (yo_join σ y jf jo jt ji r) z); rw [jn_cn]; simp
  | 8 => show (z < 2 ∧ i < s_n σ z) ∨ _ ↔ (z < 2 ∧ i < s_n (yo_join σ y jf jo jt ji r) z); rw [jn_cn]; simp
  | 9 => show (z < 2 ∧ i < s_nc σ z) ∨ _ ↔ (z < 2 ∧ i < s_nc (yo_join σ y jf jo jt ji r) z); rw [key]; simp
  | 10 => show (z < 2 ∧ i < s_nc σ z) ∨ _ ↔ (z < 2 ∧ i < s_nc (yo_join σ y jf jo jt ji r) z); rw [key]; simp
  | n + 11 => show False ∨ _ ↔ False; simp
end JN
theorem jn_Io {σ : ys} {jf jo jt ji r : Nat} (hJ : yJ σ) (hjf : jf < s_n σ 0) (hjt : jt < s_n σ 0) (hc : s_nc σ 0 < 16) (hr : 1 ≤ r ∧ r ≤ 8) (hjo : jo < yt_outs (s_ac σ 0 jf).1) (hji : ji < yt_ins (s_ac σ 0 jt).1) (eo : s_oc σ 0 jf jo = none) (ei : s_ic σ 0 jt ji = none) : ∀ z, yI (yo_join σ 0 jf jo jt ji r) z ∨ 2 ≤ z := fun z => by
  match z with
  | 0 => exact Or.inl (jn_I hJ.1 hjf hjt hc hr hjo hji eo ei)
  | 1 => exact Or.inl (jn_Iz (by omega) hJ.2.1)
  | n + 2 => exact Or.inr (by omega)
theorem jn_1 {σ : ys} {jf jo jt ji rr : Nat} (hJ : yJ σ) (hjf : jf < s_n σ 0) (hjt : jt < s_n σ 0) (hc : s_nc σ 0 < 16) (hjo : jo < yt_outs (s_ac σ 0 jf).1) (hji : ji < yt_ins (s_ac σ 0 jt).1) (eo : s_oc σ 0 jf jo = none) (ei : s_ic σ 0 jt ji = none) : jf < s_n (yo_join σ 0 jf jo jt ji rr) 1 ∧ jt < s_n (yo_join σ 0 jf jo jt ji rr) 1 ∧ s_nc (yo_join σ 0 jf jo jt ji rr) 1 < 16 ∧ jo < yt_outs (s_ac (yo_join σ 0 jf jo jt ji rr) 1 jf).1 ∧ ji < yt_ins (s_ac (yo_join σ 0 jf jo jt ji rr) 1 jt).1 ∧ s_oc (yo_join σ 0 jf jo jt ji rr) 1 jf jo = none ∧ s_ic (yo_join σ 0 jf jo jt ji rr) 1 jt ji = none := by
  obtain ⟨e1, e2, e3, e4, e5, e6⟩ := hJ.2.2.1
  obtain ⟨h1, h2, h3, h4⟩ := jn_oth (σ := σ) (y := 0) (jf := jf) (jo := jo) (jt := jt) (ji := ji) (r := rr) (z := 1) (by omega)
  rw [jn_cn, jn_cc, if_neg (by omega), jn_ac, h3, h4, e1, e2, (e3 jf).1, (e3 jt).1, e4, e5]
  exact ⟨hjf, hjt, hc, hjo, hji, eo, ei⟩
theorem jn_J {σ : ys} {jf jo jt ji r : Nat} (hJ : yJ σ) (hjf : jf < s_n σ 0) (hjt : jt < s_n σ 0) (hc : s_nc σ 0 < 16) (hr : 1 ≤ r ∧ r ≤ 8) (hjo : jo < yt_outs (s_ac σ 0 jf).1) (hji : ji < yt_ins (s_ac σ 0 jt).1) (eo : s_oc σ 0 jf jo = none) (ei : s_ic σ 0 jt ji = none) : yJ (sx_fl (yo_join (yo_join σ 0 jf jo jt ji r) 1 jf jo jt ji r) 0 0 0) ∧ s_T (sx_fl (yo_join (yo_join σ 0 jf jo jt ji r) 1 jf jo jt ji r) 0 0 0) 0 = joinT (s_T σ 0) (s_nc σ 0) jf jo jt ji r ∧ s_D (sx_fl (yo_join (yo_join σ 0 jf jo jt ji r) 1 jf jo jt ji r) 0 0 0) 0 = s_D σ 0 ∧ s_nc (sx_fl (yo_join (yo_join σ 0 jf jo jt ji r) 1 jf jo jt ji r) 0 0 0) 0 = s_nc σ 0 + 1 := by
  obtain ⟨j1, j2, j3, j4⟩ := id hJ
  obtain ⟨w1, w2, w3, w4, w5, w6, w7⟩ := jn_1 hJ (rr := r) hjf hjt hc hjo hji eo ei
  have hI1 : yI (yo_join σ 0 jf jo jt ji r) 1 := jn_Iz (by omega) j2
  have hI0 : yI (yo_join σ 0 jf jo jt ji r) 0 := jn_I j1 hjf hjt hc hr hjo hji eo ei
  have ec : s_nc (yo_join σ 0 jf jo jt ji r) 1 = s_nc σ 0 := by rw [jn_cc, if_neg (by omega)]; exact j3.2.1
  refine ⟨⟨?_, ?_, ?_, Or.inl (by show up2 (s_fl (yo_join (yo_join σ 0 jf jo jt ji r) 1 jf jo jt ji r)) 0 0 0 0 0 = 0; exact up2_s _ _ _ _)⟩, (jn_To (by omega)).trans jn_T, (jn_Do (by omega)).trans (jn_D j1), by show s_nc (yo_join (yo_join σ 0 jf jo jt ji r) 1 jf jo jt ji r) 0 = _; rw [jn_cc, if_neg (by omega), jn_cc, if_pos rfl]⟩
  · show yI (yo_join (yo_join σ 0 jf jo jt ji r) 1 jf jo jt ji r) 0
    exact jn_Iz (by omega) hI0
  · show yI (yo_join (yo_join σ 0 jf jo jt ji r) 1 jf jo jt ji r) 1
    exact jn_I hI1 w1 w2 w3 hr w4 w5 w6 w7
  · show yE (yo_join (yo_join σ 0 jf jo jt ji r) 1 jf jo jt ji r) 1 0
    obtain ⟨e1, e2, e3, e4, e5, e6⟩ := j3
    obtain ⟨o1, o2, o3, o4⟩ := jn_oth (σ := yo_join σ 0 jf jo jt ji r) (y := 1) (jf := jf) (jo := jo) (jt := jt) (ji := ji) (r := r) (z := 0) (by omega)
    obtain ⟨p1, p2, p3, p4⟩ := jn_oth (σ := σ) (y := 0) (jf := jf) (jo := jo) (jt := jt) (ji := ji) (r := r) (z := 1) (by omega)
    refine ⟨by rw [jn_cn, jn_cn, jn_cn, jn_cn]; exact e1, by rw [jn_cc, if_pos rfl, ec, jn_cc, if_neg (by omega), jn_cc, if_pos rfl], e3, ?_, ?_, fun c => ?_⟩
    · funext i j
      rw [o4, jn_icj, ec, p4, jn_icj, e4]
    · funext i j
      rw [o3, jn_ocj, ec, p3, jn_ocj, e5]
    · have a1 : s_ch (yo_join (yo_join σ 0 jf jo jt ji r) 1 jf jo jt ji r) 1 c = if c = s_nc σ 0 then (r, 0, 0) else s_ch σ 1 c := by
        rw [jn_ch, ec, p1]
        by_cases h : c = s_nc σ 0
        · rw [if_pos ⟨rfl, h⟩, if_pos h]
        · rw [if_neg (fun q => h q.2), if_neg h]
      have a2 : s_ch (yo_join σ 0 jf jo jt ji r) 0 c = if c = s_nc σ 0 then (r, 0, 0) else s_ch σ 0 c := by
        rw [jn_ch]
        by_cases h : c = s_nc σ 0
        · rw [if_pos ⟨rfl, h⟩, if_pos h]
        · rw [if_neg (fun q => h q.2), if_neg h]
      rw [o1, a1, a2]
      by_cases h : c = s_nc σ 0
      · rw [if_pos h, if_pos h]
      · rw [if_neg h, if_neg h]; exact e6 c
set_option maxHeartbeats 4000000 in
set_option maxRecDepth 100000 in
theorem c_S_channel (l : Launch) (D : va_G) (cc : ClassId × ClassId × ClassId) (ad : yl → Nat) (LL : List yl) (X : va_W) (b0 sz : Nat) (σ : ys) (hLL : ∀ q, q ∈ LL ↔ yL σ q) (hJ : yJ σ) (f o t i r : Int32) : Met l y_S_channel w_S_channel ({ frames := 3, cells := 4, slots := 24, locals := 61 }) (yPr D cc b0 [.ref (ad (0, 0, 0)), .int f, .int o, .int t, .int i, .int r] (yW cc ad LL X σ) sz) (va_Qi (fun rr (u : (yl → Nat) × List yl × ys) => rr = (match a_jok (s_T σ 0) (s_nc σ 0) f o t i r with | none => -1 | some _ => nI (s_nc σ 0)) ∧ (∀ q, q ∈ u.2.1 ↔ yL u.2.2 q) ∧ yJ u.2.2 ∧ s_T u.2.2 0 = (match a_jok (s_T σ 0) (s_nc σ 0) f o t i r with | none => s_T σ 0 | some p => joinT (s_T σ 0) (s_nc σ 0) p.1 p.2.1 p.2.2.1 p.2.2.2.1 p.2.2.2.2) ∧ s_D u.2.2 0 = s_D σ 0 ∧ s_nc u.2.2 0 = (match a_jok (s_T σ 0) (s_nc σ 0) f o t i r with | none => s_nc σ 0 | some _ => s_nc σ 0 + 1) ∧ u.1 (0, 0, 0) = ad (0, 0, 0)) (yB D ycl (yW cc ad LL X σ) sz (fun u => yW cc u.1 u.2.1 X u.2.2)) (va_A (yW cc ad LL X σ) sz)) 4 24 (va_A (yW cc ad LL X σ) sz) := by
  have hL : ∀ q, yL σ q → q ∈ LL := fun q h => (hLL q).mpr h
  have hIo := J_o hJ
  have o0 : (0, 0, 0) ∈ LL := hL _ ⟨rfl, rfl⟩
  have n0 : (1, 0, 0) ∈ LL := hL _ ⟨by omega, rfl⟩
  have n1 : (1, 1, 0) ∈ LL := hL _ ⟨by omega, rfl⟩
  have hi := hJ.1
  have hi1 := hJ.2.1
  have hn10 := hi.1.1
  have hc16 := hi.2.1
  have hm10 := hi1.1.1
  have hd16 := hi1.2.1
  rcases jok_split (s_T σ 0) (s_nc σ 0) f o t i r (by show s_n σ 0 < _; omega) with hok | ⟨jf, jo, jt, ji, rr, rfl, rfl, rfl, rfl, rfl, hjf, hjt, hc, hr1, hr2, hjo, hji, eo, ei, hok⟩
  · refine y_ofW (cc := b_S_channel) (maxL := 7) (ret := (some .int)) (by decide) rfl (Nat.le_of_ble_eq_true rfl) ?_
    intro pv ev sv mv bv tv cv ls hI hsz hw hl
    obtain ⟨hx, hb, hr, hml, hts, hown, hlocks, hnm, hK, hAb, hb0, hA⟩ := id hI
    have ht : ∀ w ∈ lg_tbl, w.before _ sv = true := fun w h => hts w (List.mem_cons_of_mem _ h)
    have hl : lv_has ls 7 [(0, .ref (ad (0, 0, 0))), (1, .int f), (2, .int o), (3, .int t), (4, .int i), (5, .int r)] := hl
    refine lv_aload_n hx hb d_S_channel_0 rfl (lv_at hl 0 rfl) ?_
    refine yr_get (C := R_S) (T := F_S) (N := 3) (ci := k_S) hx hb ht j_S hown hK.1 hw (by assumption) (by rfl) rfl 0 (by decide) (ht _ mf_S_14) (fun _ h9 => h9) (by rfl) d_S_channel_1 ?_
    refine lv_iload_n hx hb d_S_channel_4 rfl (lv_at hl 1 rfl) ?_
    refine lv_iload_n hx hb d_S_channel_5 rfl (lv_at hl 2 rfl) ?_
    refine lv_iload_n hx hb d_S_channel_6 rfl (lv_at hl 3 rfl) ?_
    refine lv_iload hx hb d_S_channel_7 (lv_at hl 4 rfl) ?_
    refine lv_iload hx hb d_S_channel_9 (lv_at hl 5 rfl) ?_
    refine yc_i (va_runV (As := [.int _, .int _, .int _, .int _, .int _]) (rest := []) ⟨hx, hb, hml, hown, hts⟩ (c_Y_join_no l D cc ad LL X b0 _ σ hLL 0 (by omega) hi f o t i r hok) (cwV 5 hts (yg_call mc_Y_join ml_S_39 mm_Y_join ms_Y_join mi_Y) rfl rfl rfl (by decide +kernel) ⟨Nat.le_of_ble_eq_true rfl, Nat.le_of_ble_eq_true rfl⟩) (y_preV hI hw (y_recv hK.1 hw n0 (by rfl) rfl)) rfl rfl hl.1 rfl (lv_room (Nat.le_of_ble_eq_true rfl)) d_S_channel_11 ⟨Nat.le_of_ble_eq_true rfl, Nat.le_of_ble_eq_true rfl⟩) hw hA (fun r u H locs he hw => ?_)
    subst he
    refine lv_istore (lv' := [(6, .int _), (0, .ref _), (1, .int _), (2, .int _), (3, .int _), (4, .int _), (5, .int _)]) hx hb d_S_channel_14 hl (by decide) rfl (fun ls hl => ?_)
    refine lv_iload hx hb d_S_channel_16 (lv_at hl 0 rfl) ?_
    refine lv_iconst (v := (-1)) hx hb d_S_channel_18 (by decide) ?_
    refine lv_icmp_eq (tgt := 42) hx hb d_S_channel_19 (by decide) (fun c_19 => ?_) (fun c_19 => by exact absurd rfl c_19)
    refine lv_iload hx hb d_S_channel_42 (lv_at hl 0 rfl) ?_
    refine W.widen (k := 4) (n := 24) (by omega) (by omega) ?_
    exact ye_i hI (ad, LL, σ) ⟨by rw [hok], hLL, hJ, by rw [hok], rfl, by rw [hok], rfl⟩ hw d_S_channel_44
  · refine y_ofW (cc := b_S_channel) (maxL := 7) (ret := (some .int)) (by decide) rfl (Nat.le_of_ble_eq_true rfl) ?_
    intro pv ev sv mv bv tv cv ls hI hsz hw hl
    generalize hargs : ([.ref (ad (0, 0, 0)), .int (nI jf), .int (nI jo), .int (nI jt), .int (nI ji), .int (nI rr)] : List Value).toArray = args at hI ⊢
    obtain ⟨hx, hb, hr, hml, hts, hown, hlocks, hnm, hK, hAb, hb0, hA⟩ := id hI
    have ht : ∀ w ∈ lg_tbl, w.before _ sv = true := fun w h => hts w (List.mem_cons_of_mem _ h)
    have hl : lv_has ls 7 [(0, .ref (ad (0, 0, 0))), (1, .int (nI jf)), (2, .int (nI jo)), (3, .int (nI jt)), (4, .int (nI ji)), (5, .int (nI rr))] := hl
    refine lv_aload_n hx hb d_S_channel_0 rfl (lv_at hl 0 rfl) ?_
    refine yr_get (C := R_S) (T := F_S) (N := 3) (ci := k_S) hx hb ht j_S hown hK.1 hw (by assumption) (by rfl) rfl 0 (by decide) (ht _ mf_S_14) (fun _ h9 => h9) (by rfl) d_S_channel_1 ?_
    refine lv_iload_n hx hb d_S_channel_4 rfl (lv_at hl 1 rfl) ?_
    refine lv_iload_n hx hb d_S_channel_5 rfl (lv_at hl 2 rfl) ?_
    refine lv_iload_n hx hb d_S_channel_6 rfl (lv_at hl 3 rfl) ?_
    refine lv_iload hx hb d_S_channel_7 (lv_at hl 4 rfl) ?_
    refine lv_iload hx hb d_S_channel_9 (lv_at hl 5 rfl) ?_
    refine yc_i (va_runV (As := [.int _, .int _, .int _, .int _, .int _]) (rest := []) ⟨hx, hb, hml, hown, hts⟩ (c_Y_join l D cc ad LL X b0 _ σ hLL 0 (by omega) hi hIo jf jo jt ji rr hjf hjt hc ⟨hr1, hr2⟩ hjo hji eo ei) (cwV 5 hts (yg_call mc_Y_join ml_S_39 mm_Y_join ms_Y_join mi_Y) rfl rfl rfl (by decide +kernel) ⟨Nat.le_of_ble_eq_true rfl, Nat.le_of_ble_eq_true rfl⟩) (y_preV hI hw (y_recv hK.1 hw n0 (by rfl) rfl)) rfl rfl hl.1 rfl (lv_room (Nat.le_of_ble_eq_true rfl)) d_S_channel_11 ⟨Nat.le_of_ble_eq_true rfl, Nat.le_of_ble_eq_true rfl⟩) hw hA (fun r ad1 H locs he hw => ?_)
    obtain ⟨rfl, hag1⟩ := he
    rw [← hag1 _ o0] at hl
    have hLL1 := jn_L hLL (y := 0) (by omega) jf jo jt ji rr
    have o1 : (0, 0, 0) ∈ ((LL ++ [(9, 0, s_nc σ 0)]) ++ [(10, 0, s_nc σ 0)]) := (hLL1 _).mpr ⟨rfl, rfl⟩
    have nn1 : (1, 1, 0) ∈ ((LL ++ [(9, 0, s_nc σ 0)]) ++ [(10, 0, s_nc σ 0)]) := (hLL1 _).mpr ⟨by omega, rfl⟩
    have hIo1 := jn_Io hJ hjf hjt hc ⟨hr1, hr2⟩ hjo hji eo ei
    obtain ⟨w1, w2, w3, w4, w5, w6, w7⟩ := jn_1 hJ (rr := rr) hjf hjt hc hjo hji eo ei
    refine lv_istore (lv' := [(6, .int _), (0, .ref _), (1, .int _), (2, .int _), (3, .int _), (4, .int _), (5, .int _)]) hx hb d_S_channel_14 hl (by decide) rfl (fun ls hl => ?_)
    refine lv_iload hx hb d_S_channel_16 (lv_at hl 0 rfl) ?_
    refine lv_iconst (v := (-1)) hx hb d_S_channel_18 (by decide) ?_
    refine lv_icmp_eq (tgt := 42) hx hb d_S_channel_19 (by decide) (fun c_19 => by exact absurd c_19 (nI_m1 (by omega))) (fun c_19 => ?_)
    refine lv_aload_n hx hb d_S_channel_22 rfl (lv_at hl 1 rfl) ?_
    refine yr_get (C := R_S) (T := F_S) (N := 3) (ci := k_S) hx hb ht j_S hown hK.1 hw o1 (by rfl) rfl 1 (by decide) (ht _ mf_S_18) (fun _ h9 => h9) (by rfl) d_S_channel_23 ?_
    refine lv_iload_n hx hb d_S_channel_26 rfl (lv_at hl 2 rfl) ?_
    refine lv_iload_n hx hb d_S_channel_27 rfl (lv_at hl 3 rfl) ?_
    refine lv_iload_n hx hb d_S_channel_28 rfl (lv_at hl 4 rfl) ?_
    refine lv_iload hx hb d_S_channel_29 (lv_at hl 5 rfl) ?_
    refine lv_iload hx hb d_S_channel_31 (lv_at hl 6 rfl) ?_
    refine yc_i (va_runV (As := [.int _, .int _, .int _, .int _, .int _]) (rest := []) ⟨hx, hb, hml, hown, hts⟩ (c_Y_join l D cc ad1 ((LL ++ [(9, 0, s_nc σ 0)]) ++ [(10, 0, s_nc σ 0)]) X b0 _ (yo_join σ 0 jf jo jt ji rr) hLL1 1 (by omega) (jn_Iz (by omega) hJ.2.1) hIo1 jf jo jt ji rr w1 w2 w3 ⟨hr1, hr2⟩ w4 w5 w6 w7) (cwV 5 hts (yg_call mc_Y_join ml_S_39 mm_Y_join ms_Y_join mi_Y) rfl rfl rfl (by decide +kernel) ⟨Nat.le_of_ble_eq_true rfl, Nat.le_of_ble_eq_true rfl⟩) (y_preV hI hw (y_recv hK.1 hw nn1 (by rfl) rfl)) rfl rfl hl.1 rfl (lv_room (Nat.le_of_ble_eq_true rfl)) d_S_channel_33 ⟨Nat.le_of_ble_eq_true rfl, Nat.le_of_ble_eq_true rfl⟩) hw hA (fun r ad2 H locs he hw => ?_)
    obtain ⟨rfl, hag2⟩ := he
    rw [← hag2 _ o1] at hl
    have hLL2 := jn_L hLL1 (y := 1) (by omega) jf jo jt ji rr
    have o2 : (0, 0, 0) ∈ ((((LL ++ [(9, 0, s_nc σ 0)]) ++ [(10, 0, s_nc σ 0)]) ++ [(9, 1, s_nc (yo_join σ 0 jf jo jt ji rr) 1)]) ++ [(10, 1, s_nc (yo_join σ 0 jf jo jt ji rr) 1)]) := (hLL2 _).mpr ⟨rfl, rfl⟩
    refine lv_pop hx hb d_S_channel_36 rfl ?_
    refine lv_aload_n hx hb d_S_channel_37 rfl (lv_at hl 1 rfl) ?_
    refine lv_iconst (v := 0) hx hb d_S_channel_38 (by decide) ?_
    refine yr_put (ty := .boolean) (C := R_S) (T := F_S) (N := 3) (ci := k_S) hx hb ht j_S t_S t_S_ok n_S hown hK.1 hw o2 (by rfl) rfl 2 (by decide) (ht _ mf_S_21) (fun _ h9 => h9) rfl (by decide +kernel) (by decide) (by decide) (Nat.le_of_ble_eq_true rfl) d_S_channel_39 (fun H locs hw => ?_)
    have hw := yw_fl 0 hw rfl
    refine lv_iload hx hb d_S_channel_42 (lv_at hl 0 rfl) ?_
    exact ye_i hI (ad2, ((((LL ++ [(9, 0, s_nc σ 0)]) ++ [(10, 0, s_nc σ 0)]) ++ [(9, 1, s_nc (yo_join σ 0 jf jo jt ji rr) 1)]) ++ [(10, 1, s_nc (yo_join σ 0 jf jo jt ji rr) 1)]), sx_fl (yo_join (yo_join σ 0 jf jo jt ji rr) 1 jf jo jt ji rr) 0 0 0) ⟨by rw [hok], L_fl hLL2, (jn_J hJ hjf hjt hc ⟨hr1, hr2⟩ hjo hji eo ei).1, by rw [hok]; exact (jn_J hJ hjf hjt hc ⟨hr1, hr2⟩ hjo hji eo ei).2.1, (jn_J hJ hjf hjt hc ⟨hr1, hr2⟩ hjo hji eo ei).2.2.1, by rw [hok]; exact (jn_J hJ hjf hjt hc ⟨hr1, hr2⟩ hjo hji eo ei).2.2.2, (hag2 _ o1).trans (hag1 _ o0)⟩ hw d_S_channel_44
