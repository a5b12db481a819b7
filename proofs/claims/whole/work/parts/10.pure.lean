/-! THE YARD AS NUMBERS AND LISTS: what it is to act; that the end does not depend on the order -/
/-- what acting leaves alone: how many actors, kinds, a, b, the channel at an in, at an out, the rooms, what sources were told -/
abbrev yp_T : Type := Nat × (Nat → Nat) × (Nat → Int32) × (Nat → Int32) × (Nat → Nat → Option Nat) × (Nat → Nat → Option Nat) × (Nat → Nat) × (Nat → List Int32)
def yp_n (T : yp_T) : Nat := T.1
def yp_kd (T : yp_T) : Nat → Nat := T.2.1
def yp_a (T : yp_T) : Nat → Int32 := T.2.2.1
def yp_b (T : yp_T) : Nat → Int32 := T.2.2.2.1
def yp_ic (T : yp_T) : Nat → Nat → Option Nat := T.2.2.2.2.1
def yp_oc (T : yp_T) : Nat → Nat → Option Nat := T.2.2.2.2.2.1
def yp_rm (T : yp_T) : Nat → Nat := T.2.2.2.2.2.2.1
def yp_sr (T : yp_T) : Nat → List Int32 := T.2.2.2.2.2.2.2
/-- what acting changes: how often each acted, what each kept, what waits in each channel -/
abbrev yp_D : Type := (Nat → Nat) × (Nat → List Int32) × (Nat → List Int32)
/-- one act: from which ins it takes, what it gives to which outs, what it keeps -/
abbrev yp_P : Type := Bool × Bool × Option Int32 × Option Int32 × Option Int32
def yp_plan (kd : Nat) (a b : Int32) (sr : List Int32) (tm : Nat) (h0 h1 : Option Int32) : Option yp_P :=
  if 100 ≤ tm then none else
  match kd with
  | 0 => (sr[tm]?).map fun v => (false, false, some v, none, none)
  | 1 => h0.map fun v => (true, false, some (v * a + b), none, none)
  | 2 => h0.map fun v => if tm % 2 = 0 then (true, false, some v, none, none) else (true, false, none, some v, none)
  | 3 => if tm % 2 = 0 then h0.map fun v => (true, false, some v, none, none) else h1.map fun v => (false, true, some v, none, none)
  | 4 => h0.bind fun v => h1.map fun w => (true, true, some (v + w), none, none)
  | 5 => if tm = 0 then some (false, false, some a, none, none) else h0.map fun v => (true, false, some v, none, none)
  | 6 => if 60 ≤ tm then none else h0.map fun v => (true, false, none, none, some v)
  | 7 => h0.bind fun v => h1.map fun w => (true, true, if v = 0 then none else some w, none, none)
  | 8 => h0.map fun v => (true, false, some v, some v, none)
  | _ => none
def yp_hd (T : yp_T) (d : yp_D) (i k : Nat) : Option Int32 := (yp_ic T i k).bind fun c => (d.2.2 c).head?
def yp_pl (T : yp_T) (d : yp_D) (i : Nat) : Option yp_P := yp_plan (yp_kd T i) (yp_a T i) (yp_b T i) (yp_sr T i) (d.1 i) (yp_hd T d i 0) (yp_hd T d i 1)
def yp_roomb (T : yp_T) (d : yp_D) (i k : Nat) : Bool := match yp_oc T i k with
  | none => true
  | some c => decide ((d.2.2 c).length < yp_rm T c)
def yp_fitb (T : yp_T) (d : yp_D) (i : Nat) (p : yp_P) : Bool := (p.2.2.1.isNone || yp_roomb T d i 0) && (p.2.2.2.1.isNone || yp_roomb T d i 1)
def yp_canb (T : yp_T) (d : yp_D) (i : Nat) : Bool := match yp_pl T d i with
  | none => false
  | some p => yp_fitb T d i p
def yp_take (T : yp_T) (i : Nat) (p : yp_P) (c : Nat) : Bool := (p.1 && decide (yp_ic T i 0 = some c)) || (p.2.1 && decide (yp_ic T i 1 = some c))
def yp_give (T : yp_T) (i : Nat) (p : yp_P) (c : Nat) : List Int32 := (if yp_oc T i 0 = some c then p.2.2.1.toList else []) ++ (if yp_oc T i 1 = some c then p.2.2.2.1.toList else [])
def yp_q (T : yp_T) (i : Nat) (p : yp_P) (q : Nat → List Int32) : Nat → List Int32 := fun c => (if yp_take T i p c = true then (q c).tail else q c) ++ yp_give T i p c
def yp_kp (i : Nat) (p : yp_P) (k : Nat → List Int32) : Nat → List Int32 := match p.2.2.2.2 with
  | none => k
  | some v => va_up k i (k i ++ [v])
def yp_do (T : yp_T) (d : yp_D) (i : Nat) (p : yp_P) : yp_D := (va_up d.1 i (d.1 i + 1), yp_kp i p d.2.1, yp_q T i p d.2.2)
def yp_act (T : yp_T) (d : yp_D) (i : Nat) : yp_D := match yp_pl T d i with
  | none => d
  | some p => yp_do T d i p
/-- no in and no out has two channels, no channel two ins or two outs -/
def yp_wf (T : yp_T) : Prop := (∀ i j k k' c, yp_ic T i k = some c → yp_ic T j k' = some c → i = j ∧ k = k') ∧ (∀ i j k k' c, yp_oc T i k = some c → yp_oc T j k' = some c → i = j ∧ k = k')
theorem yp_can_of {T : yp_T} {d : yp_D} {i : Nat} (h : yp_canb T d i = true) : ∃ p, yp_pl T d i = some p ∧ yp_fitb T d i p = true := by
  unfold yp_canb at h
  cases e : yp_pl T d i with
  | none => rw [e] at h; cases h
  | some p => rw [e] at h; exact ⟨p, rfl, h⟩
theorem yp_can_mk {T : yp_T} {d : yp_D} {i : Nat} {p : yp_P} (h : yp_pl T d i = some p) (hf : yp_fitb T d i p = true) : yp_canb T d i = true := by
  unfold yp_canb; rw [h]; exact hf
theorem yp_act_of {T : yp_T} {d : yp_D} {i : Nat} {p : yp_P} (h : yp_pl T d i = some p) : yp_act T d i = yp_do T d i p := by
  unfold yp_act; rw [h]
/-- a plan stays when empty ins get values -/
theorem yp_mono {kd tm : Nat} {a b : Int32} {sr : List Int32} {h0 h1 h0' h1' : Option Int32} {p : yp_P} (e0 : ∀ v, h0 = some v → h0' = some v) (e1 : ∀ v, h1 = some v → h1' = some v) (h : yp_plan kd a b sr tm h0 h1 = some p) : yp_plan kd a b sr tm h0' h1' = some p := by
  unfold yp_plan at h ⊢
  by_cases h9 : 100 ≤ tm
  · rw [if_pos h9] at h; cases h
  · rw [if_neg h9] at h ⊢
    have m0 : ∀ (f : Int32 → yp_P), h0.map f = some p → h0'.map f = some p := fun f q => by
      cases h0 with
      | none => cases q
      | some v => rw [e0 v rfl]; exact q
    have m1 : ∀ (f : Int32 → yp_P), h1.map f = some p → h1'.map f = some p := fun f q => by
      cases h1 with
      | none => cases q
      | some v => rw [e1 v rfl]; exact q
    have mb : ∀ (f : Int32 → Int32 → yp_P), (h0.bind fun v => h1.map (f v)) = some p → (h0'.bind fun v => h1'.map (f v)) = some p := fun f q => by
      cases h0 with
      | none => cases q
      | some v =>
        rw [e0 v rfl]
        exact (by
          cases h1 with
          | none => cases q
          | some w => rw [e1 w rfl]; exact q)
    match kd, h with
    | 0, h => exact h
    | 1, h => exact m0 _ h
    | 2, h => exact m0 _ h
    | 3, h =>
      by_cases h8 : tm % 2 = 0
      · simp only [if_pos h8] at h ⊢; exact m0 _ h
      · simp only [if_neg h8] at h ⊢; exact m1 _ h
    | 4, h => exact mb _ h
    | 5, h =>
      by_cases h8 : tm = 0
      · simp only [if_pos h8] at h ⊢; exact h
      · simp only [if_neg h8] at h ⊢; exact m0 _ h
    | 6, h =>
      by_cases h8 : 60 ≤ tm
      · simp only [if_pos h8] at h; cases h
      · simp only [if_neg h8] at h ⊢; exact m0 _ h
    | 7, h => exact mb _ h
    | 8, h => exact m0 _ h
    | k + 9, h => cases h
/-- who takes from an in has a value there -/
theorem yp_heads {kd tm : Nat} {a b : Int32} {sr : List Int32} {h0 h1 : Option Int32} {p : yp_P} (h : yp_plan kd a b sr tm h0 h1 = some p) : (p.1 = true → h0 ≠ none) ∧ (p.2.1 = true → h1 ≠ none) := by
  unfold yp_plan at h
  by_cases h9 : 100 ≤ tm
  · rw [if_pos h9] at h; cases h
  · rw [if_neg h9] at h
    match kd, h with
    | 0, h =>
      cases e : sr[tm]? with
      | none => rw [e] at h; cases h
      | some v => rw [e] at h; cases h; exact ⟨fun q => (by cases q), fun q => (by cases q)⟩
    | 1, h =>
      cases h0 with
      | none => cases h
      | some v => cases h; exact ⟨fun _ q => (by cases q), fun q => (by cases q)⟩
    | 2, h =>
      cases h0 with
      | none => cases h
      | some v =>
        by_cases h8 : tm % 2 = 0
        · simp only [Option.map_some, if_pos h8] at h; cases h; exact ⟨fun _ q => (by cases q), fun q => (by cases q)⟩
        · simp only [Option.map_some, if_neg h8] at h; cases h; exact ⟨fun _ q => (by cases q), fun q => (by cases q)⟩
    | 3, h =>
      by_cases h8 : tm % 2 = 0
      · simp only [if_pos h8] at h
        cases h0 with
        | none => cases h
        | some v => cases h; exact ⟨fun _ q => (by cases q), fun q => (by cases q)⟩
      · simp only [if_neg h8] at h
        cases h1 with
        | none => cases h
        | some v => cases h; exact ⟨fun q => (by cases q), fun _ q => (by cases q)⟩
    | 4, h =>
      cases h0 with
      | none => cases h
      | some v =>
        cases h1 with
        | none => cases h
        | some w => exact ⟨fun _ q => (by cases q), fun _ q => (by cases q)⟩
    | 5, h =>
      by_cases h8 : tm = 0
      · simp only [if_pos h8] at h; cases h; exact ⟨fun q => (by cases q), fun q => (by cases q)⟩
      · simp only [if_neg h8] at h
        cases h0 with
        | none => cases h
        | some v => cases h; exact ⟨fun _ q => (by cases q), fun q => (by cases q)⟩
    | 6, h =>
      by_cases h8 : 60 ≤ tm
      · simp only [if_pos h8] at h; cases h
      · simp only [if_neg h8] at h
        cases h0 with
        | none => cases h
        | some v => cases h; exact ⟨fun _ q => (by cases q), fun q => (by cases q)⟩
    | 7, h =>
      cases h0 with
      | none => cases h
      | some v =>
        cases h1 with
        | none => cases h
        | some w => exact ⟨fun _ q => (by cases q), fun _ q => (by cases q)⟩
    | 8, h =>
      cases h0 with
      | none => cases h
      | some v => cases h; exact ⟨fun _ q => (by cases q), fun q => (by cases q)⟩
    | k + 9, h => cases h
theorem yp_plan_lt {kd tm : Nat} {a b : Int32} {sr : List Int32} {h0 h1 : Option Int32} {p : yp_P} (h : yp_plan kd a b sr tm h0 h1 = some p) : tm < 100 := by
  unfold yp_plan at h
  by_cases h9 : 100 ≤ tm
  · rw [if_pos h9] at h; cases h
  · omega
/-- who takes from a channel finds a value there -/
theorem yp_take_ne {T : yp_T} {d : yp_D} {i : Nat} {p : yp_P} (h : yp_pl T d i = some p) {c : Nat} (ht : yp_take T i p c = true) : d.2.2 c ≠ [] := by
  have hh := yp_heads h
  unfold yp_take at ht
  intro hq
  rcases Bool.or_eq_true _ _ ▸ ht with h1 | h1
  · obtain ⟨h2, h3⟩ := Bool.and_eq_true _ _ ▸ h1
    have h4 : yp_ic T i 0 = some c := of_decide_eq_true h3
    apply hh.1 h2
    unfold yp_hd
    rw [h4]
    show (d.2.2 c).head? = none
    rw [hq]; rfl
  · obtain ⟨h2, h3⟩ := Bool.and_eq_true _ _ ▸ h1
    have h4 : yp_ic T i 1 = some c := of_decide_eq_true h3
    apply hh.2 h2
    unfold yp_hd
    rw [h4]
    show (d.2.2 c).head? = none
    rw [hq]; rfl
theorem yp_take_ic {T : yp_T} {i : Nat} {p : yp_P} {c : Nat} (ht : yp_take T i p c = true) : ∃ k, yp_ic T i k = some c := by
  unfold yp_take at ht
  rcases Bool.or_eq_true _ _ ▸ ht with h1 | h1
  · exact ⟨0, of_decide_eq_true (Bool.and_eq_true _ _ ▸ h1).2⟩
  · exact ⟨1, of_decide_eq_true (Bool.and_eq_true _ _ ▸ h1).2⟩
theorem yp_give_oc {T : yp_T} {i : Nat} {p : yp_P} {c : Nat} (hg : yp_give T i p c ≠ []) : ∃ k, yp_oc T i k = some c := by
  unfold yp_give at hg
  by_cases h0 : yp_oc T i 0 = some c
  · exact ⟨0, h0⟩
  · by_cases h1 : yp_oc T i 1 = some c
    · exact ⟨1, h1⟩
    · rw [if_neg h0, if_neg h1] at hg
      exact absurd rfl hg
theorem yp_take_other {T : yp_T} (hw : yp_wf T) {i j k : Nat} (hij : i ≠ j) {p : yp_P} {c : Nat} (hc : yp_ic T j k = some c) : yp_take T i p c = false := by
  cases h : yp_take T i p c with
  | false => rfl
  | true =>
    obtain ⟨k', hk'⟩ := yp_take_ic h
    exact absurd (hw.1 i j k' k c hk' hc).1 hij
theorem yp_give_other {T : yp_T} (hw : yp_wf T) {i j k : Nat} (hij : i ≠ j) {p : yp_P} {c : Nat} (hc : yp_oc T j k = some c) : yp_give T i p c = [] := by
  cases h : yp_give T i p c with
  | nil => rfl
  | cons x l =>
    obtain ⟨k', hk'⟩ := yp_give_oc (T := T) (i := i) (p := p) (c := c) (by rw [h]; exact fun q => by cases q)
    exact absurd (hw.2 i j k' k c hk' hc).1 hij
theorem yp_hd_keep {T : yp_T} (hw : yp_wf T) {d : yp_D} {i j k : Nat} (hij : i ≠ j) {p : yp_P} {v : Int32} (h : yp_hd T d j k = some v) : yp_hd T (yp_do T d i p) j k = some v := by
  unfold yp_hd at h ⊢
  cases e : yp_ic T j k with
  | none => rw [e] at h; cases h
  | some c =>
    rw [e] at h
    have h : (d.2.2 c).head? = some v := h
    show ((yp_do T d i p).2.2 c).head? = some v
    show (yp_q T i p d.2.2 c).head? = some v
    unfold yp_q
    rw [yp_take_other hw hij e]
    cases e2 : d.2.2 c with
    | nil => rw [e2] at h; cases h
    | cons x l => rw [e2] at h; exact h
theorem yp_pl_keep {T : yp_T} (hw : yp_wf T) {d : yp_D} {i j : Nat} (hij : i ≠ j) {p r : yp_P} (h : yp_pl T d j = some r) : yp_pl T (yp_do T d i p) j = some r := by
  unfold yp_pl at h ⊢
  have e : (yp_do T d i p).1 j = d.1 j := va_up_ne _ _ (Ne.symm hij)
  rw [e]
  exact yp_mono (fun v q => yp_hd_keep hw hij q) (fun v q => yp_hd_keep hw hij q) h
theorem yp_room_keep {T : yp_T} (hw : yp_wf T) {d : yp_D} {i j k : Nat} (hij : i ≠ j) {p : yp_P} (h : yp_roomb T d j k = true) : yp_roomb T (yp_do T d i p) j k = true := by
  unfold yp_roomb at h ⊢
  cases e : yp_oc T j k with
  | none => rfl
  | some c =>
    rw [e] at h
    have h : (d.2.2 c).length < yp_rm T c := of_decide_eq_true h
    show decide ((yp_q T i p d.2.2 c).length < yp_rm T c) = true
    apply decide_eq_true
    unfold yp_q
    rw [yp_give_other hw hij e, List.append_nil]
    by_cases ht : yp_take T i p c = true
    · rw [if_pos ht, List.length_tail]; omega
    · rw [if_neg ht]; exact h
theorem yp_fit_keep {T : yp_T} (hw : yp_wf T) {d : yp_D} {i j : Nat} (hij : i ≠ j) {p r : yp_P} (h : yp_fitb T d j r = true) : yp_fitb T (yp_do T d i p) j r = true := by
  unfold yp_fitb at h ⊢
  obtain ⟨h1, h2⟩ := Bool.and_eq_true _ _ ▸ h
  refine (Bool.and_eq_true _ _).symm ▸ ⟨?_, ?_⟩
  · rcases Bool.or_eq_true _ _ ▸ h1 with q | q
    · exact (Bool.or_eq_true _ _).symm ▸ Or.inl q
    · exact (Bool.or_eq_true _ _).symm ▸ Or.inr (yp_room_keep hw hij q)
  · rcases Bool.or_eq_true _ _ ▸ h2 with q | q
    · exact (Bool.or_eq_true _ _).symm ▸ Or.inl q
    · exact (Bool.or_eq_true _ _).symm ▸ Or.inr (yp_room_keep hw hij q)
theorem yp_kp_comm {i j : Nat} (hij : i ≠ j) (p r : yp_P) (k : Nat → List Int32) : yp_kp j r (yp_kp i p k) = yp_kp i p (yp_kp j r k) := by
  unfold yp_kp
  cases p.2.2.2.2 with
  | none => cases r.2.2.2.2 <;> rfl
  | some v =>
    cases r.2.2.2.2 with
    | none => rfl
    | some w =>
      funext x
      show va_up (va_up k i (k i ++ [v])) j (va_up k i (k i ++ [v]) j ++ [w]) x = va_up (va_up k j (k j ++ [w])) i (va_up k j (k j ++ [w]) i ++ [v]) x
      rw [va_up_ne k _ (Ne.symm hij), va_up_ne k _ hij]
      by_cases h1 : x = i
      · subst h1
        rw [va_up_self, va_up_ne _ _ hij, va_up_self]
      · by_cases h2 : x = j
        · subst h2
          rw [va_up_self, va_up_ne _ _ (Ne.symm hij), va_up_self]
        · rw [va_up_ne _ _ h2, va_up_ne _ _ h1, va_up_ne _ _ h1, va_up_ne _ _ h2]
theorem yp_tm_comm {i j : Nat} (hij : i ≠ j) (f : Nat → Nat) : va_up (va_up f i (f i + 1)) j (va_up f i (f i + 1) j + 1) = va_up (va_up f j (f j + 1)) i (va_up f j (f j + 1) i + 1) := by
  funext x
  rw [va_up_ne f _ (Ne.symm hij), va_up_ne f _ hij]
  by_cases h1 : x = i
  · subst h1
    rw [va_up_self, va_up_ne _ _ hij, va_up_self]
  · by_cases h2 : x = j
    · subst h2
      rw [va_up_self, va_up_ne _ _ (Ne.symm hij), va_up_self]
    · rw [va_up_ne _ _ h2, va_up_ne _ _ h1, va_up_ne _ _ h1, va_up_ne _ _ h2]
theorem yp_tail_app {q g : List Int32} (h : q ≠ []) : (q ++ g).tail = q.tail ++ g := by
  cases q with
  | nil => exact absurd rfl h
  | cons x l => rfl
theorem yp_q_comm {T : yp_T} (hw : yp_wf T) {d : yp_D} {i j : Nat} (hij : i ≠ j) {p r : yp_P} (hp : yp_pl T d i = some p) (hr : yp_pl T d j = some r) : yp_q T j r (yp_q T i p d.2.2) = yp_q T i p (yp_q T j r d.2.2) := by
  funext c
  have hi := fun h => yp_take_ne hp (c := c) h
  have hj := fun h => yp_take_ne hr (c := c) h
  have hg : yp_give T i p c = [] ∨ yp_give T j r c = [] := by
    cases e : yp_give T i p c with
    | nil => exact Or.inl rfl
    | cons x l =>
      obtain ⟨k, hk⟩ := yp_give_oc (T := T) (i := i) (p := p) (c := c) (by rw [e]; exact fun q => by cases q)
      exact Or.inr (yp_give_other hw (Ne.symm hij) hk)
  have ht : yp_take T i p c = true → yp_take T j r c = false := fun h => by
    obtain ⟨k, hk⟩ := yp_take_ic h
    exact yp_take_other hw (Ne.symm hij) hk
  unfold yp_q
  generalize hti : yp_take T i p c = ti at *
  generalize htj : yp_take T j r c = tj at *
  generalize yp_give T i p c = gi at *
  generalize yp_give T j r c = gj at *
  generalize d.2.2 c = q at *
  cases ti with
  | true =>
    have := ht rfl
    subst this
    have hq := hi rfl
    simp only [if_true, Bool.false_eq_true, if_false]
    rw [yp_tail_app hq]
    rcases hg with g | g <;> rw [g] <;> simp
  | false =>
    cases tj with
    | true =>
      have hq := hj rfl
      simp only [if_true, Bool.false_eq_true, if_false]
      rw [yp_tail_app hq]
      rcases hg with g | g <;> rw [g] <;> simp
    | false =>
      simp only [Bool.false_eq_true, if_false]
      rcases hg with g | g <;> rw [g] <;> simp
/-- TWO WHO CAN ACT: each still can behind the other, and it comes to the same -/
theorem yp_diam {T : yp_T} (hw : yp_wf T) {d : yp_D} {i j : Nat} (hij : i ≠ j) (hi : yp_canb T d i = true) (hj : yp_canb T d j = true) : yp_canb T (yp_act T d i) j = true ∧ yp_canb T (yp_act T d j) i = true ∧ yp_act T (yp_act T d i) j = yp_act T (yp_act T d j) i := by
  obtain ⟨p, hp, fp⟩ := yp_can_of hi
  obtain ⟨r, hr, fr⟩ := yp_can_of hj
  rw [yp_act_of hp, yp_act_of hr]
  have h1 := yp_pl_keep hw hij (p := p) hr
  have h2 := yp_pl_keep hw (Ne.symm hij) (p := r) hp
  refine ⟨yp_can_mk h1 (yp_fit_keep hw hij fr), yp_can_mk h2 (yp_fit_keep hw (Ne.symm hij) fp), ?_⟩
  rw [yp_act_of h1, yp_act_of h2]
  show (_, _, _) = (_, _, _)
  rw [show yp_q T j r (yp_do T d i p).2.2 = yp_q T i p (yp_do T d j r).2.2 from yp_q_comm hw hij hp hr, show yp_kp j r (yp_do T d i p).2.1 = yp_kp i p (yp_do T d j r).2.1 from yp_kp_comm hij p r d.2.1]
  have e : va_up (yp_do T d i p).1 j ((yp_do T d i p).1 j + 1) = va_up (yp_do T d j r).1 i ((yp_do T d j r).1 i + 1) := yp_tm_comm hij d.1
  rw [e]
def yp_path (T : yp_T) : Nat → yp_D → yp_D → Prop
  | 0, d, e => d = e
  | k + 1, d, e => ∃ i, i < yp_n T ∧ yp_canb T d i = true ∧ yp_path T k (yp_act T d i) e
def yp_norm (T : yp_T) (d : yp_D) : Prop := ∀ i, i < yp_n T → yp_canb T d i = false
theorem yp_strip {T : yp_T} (hw : yp_wf T) {N : yp_D} (hN : yp_norm T N) : ∀ (k : Nat) (d : yp_D) (j : Nat), yp_path T k d N → j < yp_n T → yp_canb T d j = true → ∃ k', k = k' + 1 ∧ yp_path T k' (yp_act T d j) N
  | 0, d, j, h, hj, hc => by
    have h : d = N := h
    subst h
    rw [hN j hj] at hc
    cases hc
  | k + 1, d, j, h, hj, hc => by
    obtain ⟨i, hi, ci, hp⟩ := h
    by_cases hij : i = j
    · subst hij
      exact ⟨k, rfl, hp⟩
    · obtain ⟨h1, h2, h3⟩ := yp_diam hw hij ci hc
      obtain ⟨k', hk, hp'⟩ := yp_strip hw hN k (yp_act T d i) j hp hj h1
      subst hk
      rw [h3] at hp'
      exact ⟨k' + 1, rfl, i, hi, h2, hp'⟩
theorem yp_strips {T : yp_T} (hw : yp_wf T) {N : yp_D} (hN : yp_norm T N) : ∀ (m : Nat) (d e : yp_D) (k : Nat), yp_path T m d e → yp_path T k d N → ∃ k', yp_path T k' e N
  | 0, d, e, k, h, hp => by
    have h : d = e := h
    subst h
    exact ⟨k, hp⟩
  | m + 1, d, e, k, h, hp => by
    obtain ⟨i, hi, ci, h⟩ := h
    obtain ⟨k', -, hp'⟩ := yp_strip hw hN k d i hp hi ci
    exact yp_strips hw hN m _ e k' h hp'
theorem yp_path_app {T : yp_T} : ∀ (m k : Nat) (d e f : yp_D), yp_path T m d e → yp_path T k e f → yp_path T (m + k) d f
  | 0, k, d, e, f, h, hp => by
    have h : d = e := h
    subst h
    rw [Nat.zero_add]
    exact hp
  | m + 1, k, d, e, f, h, hp => by
    obtain ⟨i, hi, ci, h⟩ := h
    rw [Nat.add_right_comm]
    exact ⟨i, hi, ci, yp_path_app m k _ e f h hp⟩
/-- N is how all ends, from d on -/
def yp_fin (T : yp_T) (d N : yp_D) : Prop := yp_norm T N ∧ ∃ k, yp_path T k d N
theorem yp_fin_fwd {T : yp_T} (hw : yp_wf T) {m : Nat} {d e N : yp_D} (h : yp_path T m d e) (hf : yp_fin T d N) : yp_fin T e N := by
  obtain ⟨hN, k, hp⟩ := hf
  exact ⟨hN, yp_strips hw hN m d e k h hp⟩
theorem yp_fin_bwd {T : yp_T} {m : Nat} {d e N : yp_D} (h : yp_path T m d e) (hf : yp_fin T e N) : yp_fin T d N := by
  obtain ⟨hN, k, hp⟩ := hf
  exact ⟨hN, m + k, yp_path_app m k d e N h hp⟩
theorem yp_fin_uniq {T : yp_T} (hw : yp_wf T) {d N M : yp_D} (h1 : yp_fin T d N) (h2 : yp_fin T d M) : N = M := by
  obtain ⟨hM, m, hm⟩ := h2
  obtain ⟨hN, k, hk⟩ := yp_fin_fwd hw hm h1
  cases k with
  | zero =>
    have hk : M = N := hk
    exact hk.symm
  | succ k =>
    obtain ⟨i, hi, ci, -⟩ := hk
    rw [hM i hi] at ci
    cases ci
theorem yp_path_1 {T : yp_T} {d : yp_D} {i : Nat} (hi : i < yp_n T) (hc : yp_canb T d i = true) : yp_path T 1 d (yp_act T d i) := ⟨i, hi, hc, rfl⟩
/-- the sum of how often each acted: grows with each act, and is at most 100 each -/
def yp_sum (f : Nat → Nat) : Nat → Nat
  | 0 => 0
  | n + 1 => yp_sum f n + f n
theorem yp_sum_congr {f g : Nat → Nat} : ∀ n, (∀ i, i < n → f i = g i) → yp_sum f n = yp_sum g n
  | 0, _ => rfl
  | n + 1, h => by
    show yp_sum f n + f n = yp_sum g n + g n
    rw [yp_sum_congr n (fun i hi => h i (Nat.lt_succ_of_lt hi)), h n (Nat.lt_succ_self n)]
theorem yp_sum_up {f : Nat → Nat} {i : Nat} : ∀ n, i < n → yp_sum (va_up f i (f i + 1)) n = yp_sum f n + 1
  | 0, h => absurd h (Nat.not_lt_zero _)
  | n + 1, h => by
    show yp_sum (va_up f i (f i + 1)) n + va_up f i (f i + 1) n = yp_sum f n + f n + 1
    by_cases hi : i = n
    · subst hi
      rw [va_up_self, yp_sum_congr (g := f) i (fun j hj => va_up_ne f (f i + 1) (Nat.ne_of_lt hj))]
      omega
    · rw [yp_sum_up n (by omega), va_up_ne f _ (Ne.symm hi)]
      omega
theorem yp_sum_le {f : Nat → Nat} {m : Nat} : ∀ n, (∀ i, i < n → f i ≤ m) → yp_sum f n ≤ m * n
  | 0, _ => Nat.le_refl _
  | n + 1, h => by
    have h1 := yp_sum_le n (fun i hi => h i (Nat.lt_succ_of_lt hi))
    have h2 := h n (Nat.lt_succ_self n)
    show yp_sum f n + f n ≤ m * (n + 1)
    rw [Nat.mul_succ]
    omega
theorem yp_can_lt {T : yp_T} {d : yp_D} {i : Nat} (h : yp_canb T d i = true) : d.1 i < 100 := by
  obtain ⟨p, hp, -⟩ := yp_can_of h
  exact yp_plan_lt hp
theorem yp_act_tm {T : yp_T} {d : yp_D} {i : Nat} (h : yp_canb T d i = true) : (yp_act T d i).1 = va_up d.1 i (d.1 i + 1) := by
  obtain ⟨p, hp, -⟩ := yp_can_of h
  rw [yp_act_of hp]
  rfl
theorem yp_act_le {T : yp_T} {d : yp_D} {i : Nat} (h : yp_canb T d i = true) (hd : ∀ j, d.1 j ≤ 100) : ∀ j, (yp_act T d i).1 j ≤ 100 := by
  intro j
  rw [yp_act_tm h]
  by_cases hj : j = i
  · subst hj
    rw [va_up_self]
    exact yp_can_lt h
  · rw [va_up_ne _ _ hj]
    exact hd j
theorem yp_path_sum {T : yp_T} : ∀ (k : Nat) (d e : yp_D), yp_path T k d e → yp_sum e.1 (yp_n T) = yp_sum d.1 (yp_n T) + k
  | 0, d, e, h => by
    have h : d = e := h
    subst h
    rfl
  | k + 1, d, e, h => by
    obtain ⟨i, hi, ci, h⟩ := h
    rw [yp_path_sum k _ e h, yp_act_tm ci, yp_sum_up _ hi]
    omega
theorem yp_path_le {T : yp_T} : ∀ (k : Nat) (d e : yp_D), yp_path T k d e → (∀ j, d.1 j ≤ 100) → ∀ j, e.1 j ≤ 100
  | 0, d, e, h, hd => by
    have h : d = e := h
    subst h
    exact hd
  | k + 1, d, e, h, hd => by
    obtain ⟨i, hi, ci, h⟩ := h
    exact yp_path_le k _ e h (yp_act_le ci hd)
/-- no way is longer than 100 acts each -/
theorem yp_path_short {T : yp_T} {k : Nat} {d e : yp_D} (h : yp_path T k d e) (hd : ∀ j, d.1 j ≤ 100) : k ≤ 100 * yp_n T := by
  have h1 := yp_path_sum k d e h
  have h2 := yp_sum_le (f := e.1) (m := 100) (yp_n T) (fun i _ => yp_path_le k d e h hd i)
  omega
