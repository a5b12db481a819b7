/-! THE REFERENCE: its state, its cells -/
def oI (o : Option Nat) : Int32 := match o with
  | none => -1
  | some c => nI c
abbrev ms : Type := Nat × Nat × (Nat → Nat) × (Nat → Int32) × (Nat → Int32) × (Nat → Nat) × (Nat → Int32) × (Nat → Nat) × (Nat → Nat → Option Nat) × (Nat → Nat → Option Nat) × (Nat → Nat → Nat) × (Nat → Nat → Nat) × (Nat → Nat → Nat) × (Nat → Int32) × (Nat → Nat → Nat) × (Nat → Int32)
def m_n (μ : ms) : Nat := μ.1
def m_nc (μ : ms) : Nat := μ.2.1
def m_kd (μ : ms) : Nat → Nat := μ.2.2.1
def m_a (μ : ms) : Nat → Int32 := μ.2.2.2.1
def m_b (μ : ms) : Nat → Int32 := μ.2.2.2.2.1
def m_tc (μ : ms) : Nat → Nat := μ.2.2.2.2.2.1
def m_td (μ : ms) : Nat → Int32 := μ.2.2.2.2.2.2.1
def m_rm (μ : ms) : Nat → Nat := μ.2.2.2.2.2.2.2.1
def m_ic (μ : ms) : Nat → Nat → Option Nat := μ.2.2.2.2.2.2.2.2.1
def m_oc (μ : ms) : Nat → Nat → Option Nat := μ.2.2.2.2.2.2.2.2.2.1
def m_ac (μ : ms) : Nat → Nat → Nat := μ.2.2.2.2.2.2.2.2.2.2.1
def m_tn (μ : ms) : Nat → Nat → Nat := μ.2.2.2.2.2.2.2.2.2.2.2.1
def m_kc (μ : ms) : Nat → Nat → Nat := μ.2.2.2.2.2.2.2.2.2.2.2.2.1
def m_kp (μ : ms) : Nat → Int32 := μ.2.2.2.2.2.2.2.2.2.2.2.2.2.1
def m_ct (μ : ms) : Nat → Nat → Nat := μ.2.2.2.2.2.2.2.2.2.2.2.2.2.2.1
def m_vs (μ : ms) : Nat → Int32 := μ.2.2.2.2.2.2.2.2.2.2.2.2.2.2.2
def mx_n (μ : ms) (v : Nat) : ms := (v, μ.2.1, μ.2.2.1, μ.2.2.2.1, μ.2.2.2.2.1, μ.2.2.2.2.2.1, μ.2.2.2.2.2.2.1, μ.2.2.2.2.2.2.2.1, μ.2.2.2.2.2.2.2.2.1, μ.2.2.2.2.2.2.2.2.2.1, μ.2.2.2.2.2.2.2.2.2.2.1, μ.2.2.2.2.2.2.2.2.2.2.2.1, μ.2.2.2.2.2.2.2.2.2.2.2.2.1, μ.2.2.2.2.2.2.2.2.2.2.2.2.2.1, μ.2.2.2.2.2.2.2.2.2.2.2.2.2.2.1, μ.2.2.2.2.2.2.2.2.2.2.2.2.2.2.2)
def mx_nc (μ : ms) (v : Nat) : ms := (μ.1, v, μ.2.2.1, μ.2.2.2.1, μ.2.2.2.2.1, μ.2.2.2.2.2.1, μ.2.2.2.2.2.2.1, μ.2.2.2.2.2.2.2.1, μ.2.2.2.2.2.2.2.2.1, μ.2.2.2.2.2.2.2.2.2.1, μ.2.2.2.2.2.2.2.2.2.2.1, μ.2.2.2.2.2.2.2.2.2.2.2.1, μ.2.2.2.2.2.2.2.2.2.2.2.2.1, μ.2.2.2.2.2.2.2.2.2.2.2.2.2.1, μ.2.2.2.2.2.2.2.2.2.2.2.2.2.2.1, μ.2.2.2.2.2.2.2.2.2.2.2.2.2.2.2)
def mx_kd (μ : ms) (v : Nat → Nat) : ms := (μ.1, μ.2.1, v, μ.2.2.2.1, μ.2.2.2.2.1, μ.2.2.2.2.2.1, μ.2.2.2.2.2.2.1, μ.2.2.2.2.2.2.2.1, μ.2.2.2.2.2.2.2.2.1, μ.2.2.2.2.2.2.2.2.2.1, μ.2.2.2.2.2.2.2.2.2.2.1, μ.2.2.2.2.2.2.2.2.2.2.2.1, μ.2.2.2.2.2.2.2.2.2.2.2.2.1, μ.2.2.2.2.2.2.2.2.2.2.2.2.2.1, μ.2.2.2.2.2.2.2.2.2.2.2.2.2.2.1, μ.2.2.2.2.2.2.2.2.2.2.2.2.2.2.2)
def mx_a (μ : ms) (v : Nat → Int32) : ms := (μ.1, μ.2.1, μ.2.2.1, v, μ.2.2.2.2.1, μ.2.2.2.2.2.1, μ.2.2.2.2.2.2.1, μ.2.2.2.2.2.2.2.1, μ.2.2.2.2.2.2.2.2.1, μ.2.2.2.2.2.2.2.2.2.1, μ.2.2.2.2.2.2.2.2.2.2.1, μ.2.2.2.2.2.2.2.2.2.2.2.1, μ.2.2.2.2.2.2.2.2.2.2.2.2.1, μ.2.2.2.2.2.2.2.2.2.2.2.2.2.1, μ.2.2.2.2.2.2.2.2.2.2.2.2.2.2.1, μ.2.2.2.2.2.2.2.2.2.2.2.2.2.2.2)
def mx_b (μ : ms) (v : Nat → Int32) : ms := (μ.1, μ.2.1, μ.2.2.1, μ.2.2.2.1, v, μ.2.2.2.2.2.1, μ.2.2.2.2.2.2.1, μ.2.2.2.2.2.2.2.1, μ.2.2.2.2.2.2.2.2.1, μ.2.2.2.2.2.2.2.2.2.1, μ.2.2.2.2.2.2.2.2.2.2.1, μ.2.2.2.2.2.2.2.2.2.2.2.1, μ.2.2.2.2.2.2.2.2.2.2.2.2.1, μ.2.2.2.2.2.2.2.2.2.2.2.2.2.1, μ.2.2.2.2.2.2.2.2.2.2.2.2.2.2.1, μ.2.2.2.2.2.2.2.2.2.2.2.2.2.2.2)
def mx_tc (μ : ms) (v : Nat → Nat) : ms := (μ.1, μ.2.1, μ.2.2.1, μ.2.2.2.1, μ.2.2.2.2.1, v, μ.2.2.2.2.2.2.1, μ.2.2.2.2.2.2.2.1, μ.2.2.2.2.2.2.2.2.1, μ.2.2.2.2.2.2.2.2.2.1, μ.2.2.2.2.2.2.2.2.2.2.1, μ.2.2.2.2.2.2.2.2.2.2.2.1, μ.2.2.2.2.2.2.2.2.2.2.2.2.1, μ.2.2.2.2.2.2.2.2.2.2.2.2.2.1, μ.2.2.2.2.2.2.2.2.2.2.2.2.2.2.1, μ.2.2.2.2.2.2.2.2.2.2.2.2.2.2.2)
def mx_td (μ : ms) (v : Nat → Int32) : ms := (μ.1, μ.2.1, μ.2.2.1, μ.2.2.2.1, μ.2.2.2.2.1, μ.2.2.2.2.2.1, v, μ.2.2.2.2.2.2.2.1, μ.2.2.2.2.2.2.2.2.1, μ.2.2.2.2.2.2.2.2.2.1, μ.2.2.2.2.2.2.2.2.2.2.1, μ.2.2.2.2.2.2.2.2.2.2.2.1, μ.2.2.2.2.2.2.2.2.2.2.2.2.1, μ.2.2.2.2.2.2.2.2.2.2.2.2.2.1, μ.2.2.2.2.2.2.2.2.2.2.2.2.2.2.1, μ.2.2.2.2.2.2.2.2.2.2.2.2.2.2.2)
def mx_rm (μ : ms) (v : Nat → Nat) : ms := (μ.1, μ.2.1, μ.2.2.1, μ.2.2.2.1, μ.2.2.2.2.1, μ.2.2.2.2.2.1, μ.2.2.2.2.2.2.1, v, μ.2.2.2.2.2.2.2.2.1, μ.2.2.2.2.2.2.2.2.2.1, μ.2.2.2.2.2.2.2.2.2.2.1, μ.2.2.2.2.2.2.2.2.2.2.2.1, μ.2.2.2.2.2.2.2.2.2.2.2.2.1, μ.2.2.2.2.2.2.2.2.2.2.2.2.2.1, μ.2.2.2.2.2.2.2.2.2.2.2.2.2.2.1, μ.2.2.2.2.2.2.2.2.2.2.2.2.2.2.2)
def mx_ic (μ : ms) (v : Nat → Nat → Option Nat) : ms := (μ.1, μ.2.1, μ.2.2.1, μ.2.2.2.1, μ.2.2.2.2.1, μ.2.2.2.2.2.1, μ.2.2.2.2.2.2.1, μ.2.2.2.2.2.2.2.1, v, μ.2.2.2.2.2.2.2.2.2.1, μ.2.2.2.2.2.2.2.2.2.2.1, μ.2.2.2.2.2.2.2.2.2.2.2.1, μ.2.2.2.2.2.2.2.2.2.2.2.2.1, μ.2.2.2.2.2.2.2.2.2.2.2.2.2.1, μ.2.2.2.2.2.2.2.2.2.2.2.2.2.2.1, μ.2.2.2.2.2.2.2.2.2.2.2.2.2.2.2)
def mx_oc (μ : ms) (v : Nat → Nat → Option Nat) : ms := (μ.1, μ.2.1, μ.2.2.1, μ.2.2.2.1, μ.2.2.2.2.1, μ.2.2.2.2.2.1, μ.2.2.2.2.2.2.1, μ.2.2.2.2.2.2.2.1, μ.2.2.2.2.2.2.2.2.1, v, μ.2.2.2.2.2.2.2.2.2.2.1, μ.2.2.2.2.2.2.2.2.2.2.2.1, μ.2.2.2.2.2.2.2.2.2.2.2.2.1, μ.2.2.2.2.2.2.2.2.2.2.2.2.2.1, μ.2.2.2.2.2.2.2.2.2.2.2.2.2.2.1, μ.2.2.2.2.2.2.2.2.2.2.2.2.2.2.2)
def mx_ac (μ : ms) (v : Nat → Nat → Nat) : ms := (μ.1, μ.2.1, μ.2.2.1, μ.2.2.2.1, μ.2.2.2.2.1, μ.2.2.2.2.2.1, μ.2.2.2.2.2.2.1, μ.2.2.2.2.2.2.2.1, μ.2.2.2.2.2.2.2.2.1, μ.2.2.2.2.2.2.2.2.2.1, v, μ.2.2.2.2.2.2.2.2.2.2.2.1, μ.2.2.2.2.2.2.2.2.2.2.2.2.1, μ.2.2.2.2.2.2.2.2.2.2.2.2.2.1, μ.2.2.2.2.2.2.2.2.2.2.2.2.2.2.1, μ.2.2.2.2.2.2.2.2.2.2.2.2.2.2.2)
def mx_tn (μ : ms) (v : Nat → Nat → Nat) : ms := (μ.1, μ.2.1, μ.2.2.1, μ.2.2.2.1, μ.2.2.2.2.1, μ.2.2.2.2.2.1, μ.2.2.2.2.2.2.1, μ.2.2.2.2.2.2.2.1, μ.2.2.2.2.2.2.2.2.1, μ.2.2.2.2.2.2.2.2.2.1, μ.2.2.2.2.2.2.2.2.2.2.1, v, μ.2.2.2.2.2.2.2.2.2.2.2.2.1, μ.2.2.2.2.2.2.2.2.2.2.2.2.2.1, μ.2.2.2.2.2.2.2.2.2.2.2.2.2.2.1, μ.2.2.2.2.2.2.2.2.2.2.2.2.2.2.2)
def mx_kc (μ : ms) (v : Nat → Nat → Nat) : ms := (μ.1, μ.2.1, μ.2.2.1, μ.2.2.2.1, μ.2.2.2.2.1, μ.2.2.2.2.2.1, μ.2.2.2.2.2.2.1, μ.2.2.2.2.2.2.2.1, μ.2.2.2.2.2.2.2.2.1, μ.2.2.2.2.2.2.2.2.2.1, μ.2.2.2.2.2.2.2.2.2.2.1, μ.2.2.2.2.2.2.2.2.2.2.2.1, v, μ.2.2.2.2.2.2.2.2.2.2.2.2.2.1, μ.2.2.2.2.2.2.2.2.2.2.2.2.2.2.1, μ.2.2.2.2.2.2.2.2.2.2.2.2.2.2.2)
def mx_kp (μ : ms) (v : Nat → Int32) : ms := (μ.1, μ.2.1, μ.2.2.1, μ.2.2.2.1, μ.2.2.2.2.1, μ.2.2.2.2.2.1, μ.2.2.2.2.2.2.1, μ.2.2.2.2.2.2.2.1, μ.2.2.2.2.2.2.2.2.1, μ.2.2.2.2.2.2.2.2.2.1, μ.2.2.2.2.2.2.2.2.2.2.1, μ.2.2.2.2.2.2.2.2.2.2.2.1, μ.2.2.2.2.2.2.2.2.2.2.2.2.1, v, μ.2.2.2.2.2.2.2.2.2.2.2.2.2.2.1, μ.2.2.2.2.2.2.2.2.2.2.2.2.2.2.2)
def mx_ct (μ : ms) (v : Nat → Nat → Nat) : ms := (μ.1, μ.2.1, μ.2.2.1, μ.2.2.2.1, μ.2.2.2.2.1, μ.2.2.2.2.2.1, μ.2.2.2.2.2.2.1, μ.2.2.2.2.2.2.2.1, μ.2.2.2.2.2.2.2.2.1, μ.2.2.2.2.2.2.2.2.2.1, μ.2.2.2.2.2.2.2.2.2.2.1, μ.2.2.2.2.2.2.2.2.2.2.2.1, μ.2.2.2.2.2.2.2.2.2.2.2.2.1, μ.2.2.2.2.2.2.2.2.2.2.2.2.2.1, v, μ.2.2.2.2.2.2.2.2.2.2.2.2.2.2.2)
def mx_vs (μ : ms) (v : Nat → Int32) : ms := (μ.1, μ.2.1, μ.2.2.1, μ.2.2.2.1, μ.2.2.2.2.1, μ.2.2.2.2.2.1, μ.2.2.2.2.2.2.1, μ.2.2.2.2.2.2.2.1, μ.2.2.2.2.2.2.2.2.1, μ.2.2.2.2.2.2.2.2.2.1, μ.2.2.2.2.2.2.2.2.2.2.1, μ.2.2.2.2.2.2.2.2.2.2.2.1, μ.2.2.2.2.2.2.2.2.2.2.2.2.1, μ.2.2.2.2.2.2.2.2.2.2.2.2.2.1, μ.2.2.2.2.2.2.2.2.2.2.2.2.2.2.1, v)
def marr (μ : ms) (k : Nat) : Nat → Int32 := match k with
  | 0 => fun j => nI (m_kd μ j)
  | 1 => m_a μ
  | 2 => m_b μ
  | 3 => fun j => nI (m_tc μ j)
  | 4 => m_td μ
  | 5 => fun j => nI (m_rm μ j)
  | 6 => fun j => oI (m_ic μ (j / 2) (j % 2))
  | 7 => fun j => oI (m_oc μ (j / 2) (j % 2))
  | 8 => fun j => nI (m_ac μ (j / 10) (j % 10))
  | 9 => fun j => nI (m_tn μ (j / 10) (j % 10))
  | 10 => fun j => nI (m_kc μ (j / 10) (j % 10))
  | 11 => m_kp μ
  | 12 => fun j => nI (m_ct μ (j / 16) (j % 16))
  | 13 => m_vs μ
  | _ => fun _ => 0
def mlen (k : Nat) : Nat := [10, 10, 10, 10, 200, 16, 20, 20, 20, 20, 20, 1200, 32, 256].getD k 0
def mG (cc : ClassId × ClassId × ClassId) (μ : ms) (ad : yl → Nat) (q : yl) : va_E := match q with
  | (20, _, _) => .inr (k_M, [.int (nI (m_n μ)), .ref (ad (21, 0, 0)), .ref (ad (21, 1, 0)), .ref (ad (21, 2, 0)), .ref (ad (21, 3, 0)), .ref (ad (21, 4, 0)), .int (nI (m_nc μ)), .ref (ad (21, 5, 0)), .ref (ad (21, 6, 0)), .ref (ad (21, 7, 0)), .ref (ad (21, 8, 0)), .ref (ad (21, 9, 0)), .ref (ad (21, 10, 0)), .ref (ad (21, 11, 0)), .ref (ad (21, 12, 0)), .ref (ad (21, 13, 0))])
  | (21, k, _) => .inl (cc.1, mlen k, .inl (marr μ k))
  | _ => .inr (0, [])
def mLL : List yl := [(20, 0, 0), (21, 0, 0), (21, 1, 0), (21, 2, 0), (21, 3, 0), (21, 4, 0), (21, 5, 0), (21, 6, 0), (21, 7, 0), (21, 8, 0), (21, 9, 0), (21, 10, 0), (21, 11, 0), (21, 12, 0), (21, 13, 0)]
theorem mL_o : (20, 0, 0) ∈ mLL := by simp [mLL]
theorem mL_0 : (21, 0, 0) ∈ mLL := by simp [mLL]
theorem mL_1 : (21, 1, 0) ∈ mLL := by simp [mLL]
theorem mL_2 : (21, 2, 0) ∈ mLL := by simp [mLL]
theorem mL_3 : (21, 3, 0) ∈ mLL := by simp [mLL]
theorem mL_4 : (21, 4, 0) ∈ mLL := by simp [mLL]
theorem mL_5 : (21, 5, 0) ∈ mLL := by simp [mLL]
theorem mL_6 : (21, 6, 0) ∈ mLL := by simp [mLL]
theorem mL_7 : (21, 7, 0) ∈ mLL := by simp [mLL]
theorem mL_8 : (21, 8, 0) ∈ mLL := by simp [mLL]
theorem mL_9 : (21, 9, 0) ∈ mLL := by simp [mLL]
theorem mL_10 : (21, 10, 0) ∈ mLL := by simp [mLL]
theorem mL_11 : (21, 11, 0) ∈ mLL := by simp [mLL]
theorem mL_12 : (21, 12, 0) ∈ mLL := by simp [mLL]
theorem mL_13 : (21, 13, 0) ∈ mLL := by simp [mLL]
abbrev mW (cc : ClassId × ClassId × ClassId) (ad : yl → Nat) (X : va_W) (μ : ms) : va_W := wl ad mLL (mG cc μ ad) ++ X
section MW
variable {D : va_G} {cl : List vw_C} {A : Nat → Prop} {H0 H : Heap} {locs : List Loc} {cc : ClassId × ClassId × ClassId} {ad : yl → Nat} {X : va_W} {μ : ms} {e : va_E}
theorem mw_gen {μ' : ms} {q : yl} (hw : yH D cl A H0 H locs (wl ad mLL (yu (mG cc μ ad) q e) ++ X)) (he : mG cc μ' ad q = e) (ho : ∀ x, x ∈ mLL → x ≠ q → mG cc μ ad x = mG cc μ' ad x) : yH D cl A H0 H locs (mW cc ad X μ') := by
  refine y_same hw (fun x hx => ?_)
  by_cases h : x = q
  · subst h; rw [yu_s, he]
  · rw [yu_n _ _ h, ho x hx h]
theorem mw_kd (v : Nat → Nat) (hw : yH D cl A H0 H locs (wl ad mLL (yu (mG cc μ ad) (21, 0, 0) e) ++ X)) (he : e = .inl (cc.1, 10, .inl (fun j => nI (v j)))) : yH D cl A H0 H locs (mW cc ad X (mx_kd μ v)) := by
  refine mw_gen hw (by rw [he]; rfl) (fun x hx hne => ?_)
  simp only [mLL, List.mem_cons, List.not_mem_nil, or_false] at hx
  rcases hx with rfl | rfl | rfl | rfl | rfl | rfl | rfl | rfl | rfl | rfl | rfl | rfl | rfl | rfl | rfl <;> first | rfl | exact absurd rfl hne
theorem mw_a (v : Nat → Int32) (hw : yH D cl A H0 H locs (wl ad mLL (yu (mG cc μ ad) (21, 1, 0) e) ++ X)) (he : e = .inl (cc.1, 10, .inl (v))) : yH D cl A H0 H locs (mW cc ad X (mx_a μ v)) := by
  refine mw_gen hw (by rw [he]; rfl) (fun x hx hne => ?_)
  simp only [mLL, List.mem_cons, List.not_mem_nil, or_false] at hx
  rcases hx with rfl | rfl | rfl | rfl | rfl | rfl | rfl | rfl | rfl | rfl | rfl | rfl | rfl | rfl | rfl <;> first | rfl | exact absurd rfl hne
theorem mw_b (v : Nat → Int32) (hw : yH D cl A H0 H locs (wl ad mLL (yu (mG cc μ ad) (21, 2, 0) e) ++ X)) (he : e = .inl (cc.1, 10, .inl (v))) : yH D cl A H0 H locs (mW cc ad X (mx_b μ v)) := by
  refine mw_gen hw (by rw [he]; rfl) (fun x hx hne => ?_)
  simp only [mLL, List.mem_cons, List.not_mem_nil, or_false] at hx
  rcases hx with rfl | rfl | rfl | rfl | rfl | rfl | rfl | rfl | rfl | rfl | rfl | rfl | rfl | rfl | rfl <;> first | rfl | exact absurd rfl hne
theorem mw_tc (v : Nat → Nat) (hw : yH D cl A H0 H locs (wl ad mLL (yu (mG cc μ ad) (21, 3, 0) e) ++ X)) (he : e = .inl (cc.1, 10, .inl (fun j => nI (v j)))) : yH D cl A H0 H locs (mW cc ad X (mx_tc μ v)) := by
  refine mw_gen hw (by rw [he]; rfl) (fun x hx hne => ?_)
  simp only [mLL, List.mem_cons, List.not_mem_nil, or_false] at hx
  rcases hx with rfl | rfl | rfl | rfl | rfl | rfl | rfl | rfl | rfl | rfl | rfl | rfl | rfl | rfl | rfl <;> first | rfl | exact absurd rfl hne
theorem mw_td (v : Nat → Int32) (hw : yH D cl A H0 H locs (wl ad mLL (yu (mG cc μ ad) (21, 4, 0) e) ++ X)) (he : e = .inl (cc.1, 200, .inl (v))) : yH D cl A H0 H locs (mW cc ad X (mx_td μ v)) := by
  refine mw_gen hw (by rw [he]; rfl) (fun x hx hne => ?_)
  simp only [mLL, List.mem_cons, List.not_mem_nil, or_false] at hx
  rcases hx with rfl | rfl | rfl | rfl | rfl | rfl | rfl | rfl | rfl | rfl | rfl | rfl | rfl | rfl | rfl <;> first | rfl | exact absurd rfl hne
theorem mw_rm (v : Nat → Nat) (hw : yH D cl A H0 H locs (wl ad mLL (yu (mG cc μ ad) (21, 5, 0) e) ++ X)) (he : e = .inl (cc.1, 16, .inl (fun j => nI (v j)))) : yH D cl A H0 H locs (mW cc ad X (mx_rm μ v)) := by
  refine mw_gen hw (by rw [he]; rfl) (fun x hx hne => ?_)
  simp only [mLL, List.mem_cons, List.not_mem_nil, or_false] at hx
  rcases hx with rfl | rfl | rfl | rfl | rfl | rfl | rfl | rfl | rfl | rfl | rfl | rfl | rfl | rfl | rfl <;> first | rfl | exact absurd rfl hne
theorem mw_ic (v : Nat → Nat → Option Nat) (hw : yH D cl A H0 H locs (wl ad mLL (yu (mG cc μ ad) (21, 6, 0) e) ++ X)) (he : e = .inl (cc.1, 20, .inl (fun j => oI (v (j / 2) (j % 2))))) : yH D cl A H0 H locs (mW cc ad X (mx_ic μ v)) := by
  refine mw_gen hw (by rw [he]; rfl) (fun x hx hne => ?_)
  simp only [mLL, List.mem_cons, List.not_mem_nil, or_false] at hx
  rcases hx with rfl | rfl | rfl | rfl | rfl | rfl | rfl | rfl | rfl | rfl | rfl | rfl | rfl | rfl | rfl <;> first | rfl | exact absurd rfl hne
theorem mw_oc (v : Nat → Nat → Option Nat) (hw : yH D cl A H0 H locs (wl ad mLL (yu (mG cc μ ad) (21, 7, 0) e) ++ X)) (he : e = .inl (cc.1, 20, .inl (fun j => oI (v (j / 2) (j % 2))))) : yH D cl A H0 H locs (mW cc ad X (mx_oc μ v)) := by
  refine mw_gen hw (by rw [he]; rfl) (fun x hx hne => ?_)
  simp only [mLL, List.mem_cons, List.not_mem_nil, or_false] at hx
  rcases hx with rfl | rfl | rfl | rfl | rfl | rfl | rfl | rfl | rfl | rfl | rfl | rfl | rfl | rfl | rfl <;> first | rfl | exact absurd rfl hne
theorem mw_ac (v : Nat → Nat → Nat) (hw : yH D cl A H0 H locs (wl ad mLL (yu (mG cc μ ad) (21, 8, 0) e) ++ X)) (he : e = .inl (cc.1, 20, .inl (fun j => nI (v (j / 10) (j % 10))))) : yH D cl A H0 H locs (mW cc ad X (mx_ac μ v)) := by
  refine mw_gen hw (by rw [he]; rfl) (fun x hx hne => ?_)
  simp only [mLL, List.mem_cons, List.not_mem_nil, or_false] at hx
  rcases hx with rfl | rfl | rfl | rfl | rfl | rfl | rfl | rfl | rfl | rfl | rfl | rfl | rfl | rfl | rfl <;> first | rfl | exact absurd rfl hne
theorem mw_tn (v : Nat → Nat → Nat) (hw : yH D cl A H0 H locs (wl ad mLL (yu (mG cc μ ad) (21, 9, 0) e) ++ X)) (he : e = .inl (cc.1, 20, .inl (fun j => nI (v (j / 10) (j % 10))))) : yH D cl A H0 H locs (mW cc ad X (mx_tn μ v)) := by
  refine mw_gen hw (by rw [he]; rfl) (fun x hx hne => ?_)
  simp only [mLL, List.mem_cons, List.not_mem_nil, or_false] at hx
  rcases hx with rfl | rfl | rfl | rfl | rfl | rfl | rfl | rfl | rfl | rfl | rfl | rfl | rfl | rfl | rfl <;> first | rfl | exact absurd rfl hne
theorem mw_kc (v : Nat → Nat → Nat) (hw : yH D cl A H0 H locs (wl ad mLL (yu (mG cc μ ad) (21, 10, 0) e) ++ X)) (he : e = .inl (cc.1, 20, .inl (fun j => nI (v (j / 10) (j % 10))))) : yH D cl A H0 H locs (mW cc ad X (mx_kc μ v)) := by
  refine mw_gen hw (by rw [he]; rfl) (fun x hx hne => ?_)
  simp only [mLL, List.mem_cons, List.not_mem_nil, or_false] at hx
  rcases hx with rfl | rfl | rfl | rfl | rfl | rfl | rfl | rfl | rfl | rfl | rfl | rfl | rfl | rfl | rfl <;> first | rfl | exact absurd rfl hne
theorem mw_kp (v : Nat → Int32) (hw : yH D cl A H0 H locs (wl ad mLL (yu (mG cc μ ad) (21, 11, 0) e) ++ X)) (he : e = .inl (cc.1, 1200, .inl (v))) : yH D cl A H0 H locs (mW cc ad X (mx_kp μ v)) := by
  refine mw_gen hw (by rw [he]; rfl) (fun x hx hne => ?_)
  simp only [mLL, List.mem_cons, List.not_mem_nil, or_false] at hx
  rcases hx with rfl | rfl | rfl | rfl | rfl | rfl | rfl | rfl | rfl | rfl | rfl | rfl | rfl | rfl | rfl <;> first | rfl | exact absurd rfl hne
theorem mw_ct (v : Nat → Nat → Nat) (hw : yH D cl A H0 H locs (wl ad mLL (yu (mG cc μ ad) (21, 12, 0) e) ++ X)) (he : e = .inl (cc.1, 32, .inl (fun j => nI (v (j / 16) (j % 16))))) : yH D cl A H0 H locs (mW cc ad X (mx_ct μ v)) := by
  refine mw_gen hw (by rw [he]; rfl) (fun x hx hne => ?_)
  simp only [mLL, List.mem_cons, List.not_mem_nil, or_false] at hx
  rcases hx with rfl | rfl | rfl | rfl | rfl | rfl | rfl | rfl | rfl | rfl | rfl | rfl | rfl | rfl | rfl <;> first | rfl | exact absurd rfl hne
theorem mw_vs (v : Nat → Int32) (hw : yH D cl A H0 H locs (wl ad mLL (yu (mG cc μ ad) (21, 13, 0) e) ++ X)) (he : e = .inl (cc.1, 256, .inl (v))) : yH D cl A H0 H locs (mW cc ad X (mx_vs μ v)) := by
  refine mw_gen hw (by rw [he]; rfl) (fun x hx hne => ?_)
  simp only [mLL, List.mem_cons, List.not_mem_nil, or_false] at hx
  rcases hx with rfl | rfl | rfl | rfl | rfl | rfl | rfl | rfl | rfl | rfl | rfl | rfl | rfl | rfl | rfl <;> first | rfl | exact absurd rfl hne
theorem mw_n (v : Nat) (hw : yH D cl A H0 H locs (wl ad mLL (yu (mG cc μ ad) (20, 0, 0) e) ++ X)) (he : e = .inr (k_M, [.int (nI v), .ref (ad (21, 0, 0)), .ref (ad (21, 1, 0)), .ref (ad (21, 2, 0)), .ref (ad (21, 3, 0)), .ref (ad (21, 4, 0)), .int (nI (m_nc μ)), .ref (ad (21, 5, 0)), .ref (ad (21, 6, 0)), .ref (ad (21, 7, 0)), .ref (ad (21, 8, 0)), .ref (ad (21, 9, 0)), .ref (ad (21, 10, 0)), .ref (ad (21, 11, 0)), .ref (ad (21, 12, 0)), .ref (ad (21, 13, 0))])) : yH D cl A H0 H locs (mW cc ad X (mx_n μ v)) := by
  refine mw_gen hw (by rw [he]; rfl) (fun x hx hne => ?_)
  simp only [mLL, List.mem_cons, List.not_mem_nil, or_false] at hx
  rcases hx with rfl | rfl | rfl | rfl | rfl | rfl | rfl | rfl | rfl | rfl | rfl | rfl | rfl | rfl | rfl <;> first | rfl | exact absurd rfl hne
theorem mw_nc (v : Nat) (hw : yH D cl A H0 H locs (wl ad mLL (yu (mG cc μ ad) (20, 0, 0) e) ++ X)) (he : e = .inr (k_M, [.int (nI (m_n μ)), .ref (ad (21, 0, 0)), .ref (ad (21, 1, 0)), .ref (ad (21, 2, 0)), .ref (ad (21, 3, 0)), .ref (ad (21, 4, 0)), .int (nI (v)), .ref (ad (21, 5, 0)), .ref (ad (21, 6, 0)), .ref (ad (21, 7, 0)), .ref (ad (21, 8, 0)), .ref (ad (21, 9, 0)), .ref (ad (21, 10, 0)), .ref (ad (21, 11, 0)), .ref (ad (21, 12, 0)), .ref (ad (21, 13, 0))])) : yH D cl A H0 H locs (mW cc ad X (mx_nc μ v)) := by
  refine mw_gen hw (by rw [he]; rfl) (fun x hx hne => ?_)
  simp only [mLL, List.mem_cons, List.not_mem_nil, or_false] at hx
  rcases hx with rfl | rfl | rfl | rfl | rfl | rfl | rfl | rfl | rfl | rfl | rfl | rfl | rfl | rfl | rfl <;> first | rfl | exact absurd rfl hne
end MW
/-- a flat row of rows: one place changes -/
theorem upd_flat {f : Nat → Nat → Nat} {w y i v : Nat} (hi : i < w) : upd (fun j => nI (f (j / w) (j % w))) (w * y + i) (nI v) = fun j => nI (up2 f y i v (j / w) (j % w)) := by
  funext j
  have h1 : (w * y + i) / w = y := by rw [Nat.mul_add_div (by omega), Nat.div_eq_of_lt hi, Nat.add_zero]
  have h2 : (w * y + i) % w = i := by rw [Nat.mul_add_mod, Nat.mod_eq_of_lt hi]
  by_cases h : j = w * y + i
  · subst h
    rw [pk_us, h1, h2, up2_s]
  · rw [pk_un h, up2_n]
    rintro ⟨q1, q2⟩
    apply h
    have := Nat.div_add_mod j w
    rw [q1, q2] at this
    exact this.symm
theorem at_flat {β : Type} {f : Nat → Nat → β} {w y i : Nat} (hi : i < w) : f ((w * y + i) / w) ((w * y + i) % w) = f y i := by
  rw [Nat.mul_add_div (by omega), Nat.div_eq_of_lt hi, Nat.add_zero, Nat.mul_add_mod, Nat.mod_eq_of_lt hi]
theorem upd_flatO {f : Nat → Nat → Option Nat} {y i v : Nat} (hi : i < 2) : upd (fun j => oI (f (j / 2) (j % 2))) (2 * y + i) (nI v) = fun j => oI (up2 f y i (some v) (j / 2) (j % 2)) := by
  funext j
  have h1 : (2 * y + i) / 2 = y := by omega
  have h2 : (2 * y + i) % 2 = i := by omega
  by_cases h : j = 2 * y + i
  · subst h
    rw [pk_us, h1, h2, up2_s]; rfl
  · rw [pk_un h, up2_n]
    rintro ⟨q1, q2⟩
    apply h
    omega
theorem upd_nI {f : Nat → Nat} {i v : Nat} : upd (fun j => nI (f j)) i (nI v) = fun j => nI (va_up f i v j) := by
  funext j
  unfold va_up
  by_cases h : j = i
  · subst h; rw [pk_us, if_pos rfl]
  · rw [pk_un h, if_neg h]
/-- the yard that the reference holds, in its row y -/
def m_T (μ : ms) : yp_T := (m_n μ, m_kd μ, m_a μ, m_b μ, m_ic μ, m_oc μ, fun c => if c < m_nc μ then m_rm μ c else 1, fun i => (List.range (m_tc μ i)).map (fun j => m_td μ (20 * i + j)))
def m_D (μ : ms) (y : Nat) : yp_D := (m_ac μ y, fun i => if m_kd μ i = 6 then (List.range (m_kc μ y i)).map (fun j => m_kp μ (600 * y + 60 * i + j)) else [], fun c => (List.range (m_ct μ y c)).map (fun k => m_vs μ (128 * y + 8 * c + k)))
/-- what always holds of the reference's row y -/
def mI (μ : ms) (y : Nat) : Prop :=
  m_n μ ≤ 10 ∧ m_nc μ ≤ 16 ∧
  (∀ i, m_n μ ≤ i → m_kd μ i = 0 ∧ m_a μ i = 0 ∧ m_b μ i = 0 ∧ m_tc μ i = 0 ∧ m_ac μ y i = 0) ∧ (∀ c, m_nc μ ≤ c → m_ct μ y c = 0) ∧
  (∀ i, m_kd μ i < 9 ∧ m_tc μ i ≤ 20 ∧ (m_kd μ i ≠ 0 → m_tc μ i = 0) ∧ m_ac μ y i ≤ 100 ∧ (m_kd μ i = 6 → m_ac μ y i ≤ 60) ∧ m_kc μ y i = (if m_kd μ i = 6 then m_ac μ y i else 0) ∧ m_tn μ y i = (if m_kd μ i = 2 ∨ m_kd μ i = 3 then m_ac μ y i % 2 else 0)) ∧
  (∀ c, c < m_nc μ → 1 ≤ m_rm μ c ∧ m_rm μ c ≤ 8 ∧ m_ct μ y c ≤ m_rm μ c) ∧
  (∀ i j c, m_ic μ i j = some c → i < m_n μ ∧ j < yt_ins (m_kd μ i) ∧ c < m_nc μ) ∧
  (∀ i j c, m_oc μ i j = some c → i < m_n μ ∧ j < yt_outs (m_kd μ i) ∧ c < m_nc μ) ∧ yp_wf (m_T μ)
