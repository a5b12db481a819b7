/-! ACTING STEP BY STEP, AND WHO CAN ACT, KIND BY KIND -/
def yq_tk (t : Bool) (o : Option Nat) (q : Nat → List Int32) : Nat → List Int32 := fun c => if t = true ∧ o = some c then (q c).tail else q c
def yq_gv (g : Option Int32) (o : Option Nat) (q : Nat → List Int32) : Nat → List Int32 := fun c => if o = some c then q c ++ g.toList else q c
theorem yq_tk_f (o : Option Nat) (q : Nat → List Int32) : yq_tk false o q = q := by
  funext c
  unfold yq_tk
  rw [if_neg (fun h => by cases h.1)]
theorem yq_gv_n (o : Option Nat) (q : Nat → List Int32) : yq_gv none o q = q := by
  funext c
  unfold yq_gv
  by_cases h : o = some c
  · rw [if_pos h]; exact List.append_nil _
  · rw [if_neg h]
theorem yp_q_seq {T : yp_T} (hw : yp_wf T) (i : Nat) (p : yp_P) (q : Nat → List Int32) : yp_q T i p q = yq_gv p.2.2.2.1 (yp_oc T i 1) (yq_gv p.2.2.1 (yp_oc T i 0) (yq_tk p.2.1 (yp_ic T i 1) (yq_tk p.1 (yp_ic T i 0) q))) := by
  funext c
  unfold yp_q yp_take yp_give yq_gv yq_tk
  have hI : yp_ic T i 0 = some c → ¬ yp_ic T i 1 = some c := fun h1 h2 => by
    have := (hw.1 i i 0 1 c h1 h2).2
    omega
  have hO : yp_oc T i 0 = some c → ¬ yp_oc T i 1 = some c := fun h1 h2 => by
    have := (hw.2 i i 0 1 c h1 h2).2
    omega
  obtain ⟨t0, t1, g0, g1, k⟩ := p
  by_cases a0 : yp_ic T i 0 = some c
  · have a1 := hI a0
    by_cases b0 : yp_oc T i 0 = some c
    · have b1 := hO b0
      cases t0 <;> simp [a0, a1, b0, b1]
    · by_cases b1 : yp_oc T i 1 = some c <;> cases t0 <;> simp [a0, a1, b0, b1]
  · by_cases a1 : yp_ic T i 1 = some c
    · by_cases b0 : yp_oc T i 0 = some c
      · have b1 := hO b0
        cases t1 <;> simp [a0, a1, b0, b1]
      · by_cases b1 : yp_oc T i 1 = some c <;> cases t1 <;> simp [a0, a1, b0, b1]
    · by_cases b0 : yp_oc T i 0 = some c
      · have b1 := hO b0
        simp [a0, a1, b0, b1]
      · by_cases b1 : yp_oc T i 1 = some c <;> simp [a0, a1, b0, b1]
section YK
variable {T : yp_T} {d : yp_D} {i : Nat}
theorem yp_can100 (h : 100 ≤ d.1 i) : yp_canb T d i = false := by
  unfold yp_canb yp_pl yp_plan
  rw [if_pos h]
theorem yp_can0 (h : ¬ 100 ≤ d.1 i) (hk : yp_kd T i = 0) : yp_canb T d i = (decide (d.1 i < (yp_sr T i).length) && yp_roomb T d i 0) := by
  unfold yp_canb yp_pl yp_plan
  rw [if_neg h, hk]
  by_cases h1 : d.1 i < (yp_sr T i).length
  · rw [List.getElem?_eq_getElem h1]
    simp [yp_fitb, h1]
  · rw [List.getElem?_eq_none (by omega)]
    simp [h1]
theorem yp_can1 (h : ¬ 100 ≤ d.1 i) (hk : yp_kd T i = 1) : yp_canb T d i = ((yp_hd T d i 0).isSome && yp_roomb T d i 0) := by
  unfold yp_canb yp_pl yp_plan
  rw [if_neg h, hk]
  cases yp_hd T d i 0 <;> simp [yp_fitb]
theorem yp_can2 (h : ¬ 100 ≤ d.1 i) (hk : yp_kd T i = 2) : yp_canb T d i = ((yp_hd T d i 0).isSome && yp_roomb T d i (d.1 i % 2)) := by
  unfold yp_canb yp_pl yp_plan
  rw [if_neg h, hk]
  rcases Nat.mod_two_eq_zero_or_one (d.1 i) with e | e <;> cases yp_hd T d i 0 <;> simp [yp_fitb, e]
theorem yp_can3 (h : ¬ 100 ≤ d.1 i) (hk : yp_kd T i = 3) : yp_canb T d i = ((yp_hd T d i (d.1 i % 2)).isSome && yp_roomb T d i 0) := by
  unfold yp_canb yp_pl yp_plan
  rw [if_neg h, hk]
  rcases Nat.mod_two_eq_zero_or_one (d.1 i) with e | e
  · cases e2 : yp_hd T d i 0 <;> simp [yp_fitb, e, e2]
  · cases e2 : yp_hd T d i 1 <;> simp [yp_fitb, e, e2]
theorem yp_can4 (h : ¬ 100 ≤ d.1 i) (hk : yp_kd T i = 4) : yp_canb T d i = ((yp_hd T d i 0).isSome && (yp_hd T d i 1).isSome && yp_roomb T d i 0) := by
  unfold yp_canb yp_pl yp_plan
  rw [if_neg h, hk]
  cases yp_hd T d i 0 <;> cases yp_hd T d i 1 <;> simp [yp_fitb]
theorem yp_can5 (h : ¬ 100 ≤ d.1 i) (hk : yp_kd T i = 5) : yp_canb T d i = ((decide (d.1 i = 0) || (yp_hd T d i 0).isSome) && yp_roomb T d i 0) := by
  unfold yp_canb yp_pl yp_plan
  rw [if_neg h, hk]
  by_cases e : d.1 i = 0
  · simp [yp_fitb, e]
  · cases yp_hd T d i 0 <;> simp [yp_fitb, e]
theorem yp_can6 (h : ¬ 100 ≤ d.1 i) (hk : yp_kd T i = 6) : yp_canb T d i = ((yp_hd T d i 0).isSome && decide (d.1 i < 60)) := by
  unfold yp_canb yp_pl yp_plan
  rw [if_neg h, hk]
  by_cases e : 60 ≤ d.1 i
  · have e2 : ¬ d.1 i < 60 := by omega
    simp [e, e2]
  · have e2 : d.1 i < 60 := by omega
    cases yp_hd T d i 0 <;> simp [yp_fitb, e, e2]
theorem yp_can7 (h : ¬ 100 ≤ d.1 i) (hk : yp_kd T i = 7) : yp_canb T d i = ((yp_hd T d i 0).isSome && (yp_hd T d i 1).isSome && (decide (yp_hd T d i 0 = some 0) || yp_roomb T d i 0)) := by
  unfold yp_canb yp_pl yp_plan
  rw [if_neg h, hk]
  cases yp_hd T d i 0 with
  | none => simp
  | some v =>
    cases yp_hd T d i 1 with
    | none => simp
    | some w =>
      by_cases e : v = 0 <;> simp [yp_fitb, e]
theorem yp_can8 (h : ¬ 100 ≤ d.1 i) (hk : yp_kd T i = 8) : yp_canb T d i = ((yp_hd T d i 0).isSome && yp_roomb T d i 0 && yp_roomb T d i 1) := by
  unfold yp_canb yp_pl yp_plan
  rw [if_neg h, hk]
  cases yp_hd T d i 0 <;> simp [yp_fitb]
end YK
