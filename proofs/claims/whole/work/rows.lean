section
/-! THE YARD AS NUMBERS AND LISTS: what it is to act; that the end does not depend on the order -/
/-- what acting leaves alone: how many actors, kinds, a, b, the channel at an in, at an out, the rooms, what sources were told -/
abbrev yp_T : Type := Nat × (Nat → Nat) × (Nat → Int32) × (Nat → Int32) × (Nat → Nat → Option Nat) × (Nat → Nat → Option Nat) × (Nat → Nat) × (Nat → List Int32)
def yp_n (T : yp_T) : Nat := T.1
def yp_kd (T : yp_T) : Nat → Nat := T.2.1
def yp_a (T : yp_T) : Nat → Int32 := T.2.2.1
def yp_b (T : yp_T) : Nat → Int32 := T.2.2.2.1
def yp_ic (T : yp_T) : Nat → Nat → Option Nat := T.2.2.2.2.1
def yp_oc (T : yp_T) : Nat → Nat → Option Nat := T.2.2.2.2.2.1
def yp_rm (T : yp_T) : Nat → Nat := T.2.2.2.2.2.2.1
def yp_sr (T : yp_T) : Nat → List Int32 := T.2.2.2.2.2.2.2
/-- what acting changes: how often each acted, what each kept, what waits in each channel -/
abbrev yp_D : Type := (Nat → Nat) × (Nat → List Int32) × (Nat → List Int32)
/-- one act: from which ins it takes, what it gives to which outs, what it keeps -/
abbrev yp_P : Type := Bool × Bool × Option Int32 × Option Int32 × Option Int32
def yp_plan (kd : Nat) (a b : Int32) (sr : List Int32) (tm : Nat) (h0 h1 : Option Int32) : Option yp_P :=
  if 100 ≤ tm then none else
  match kd with
  | 0 => (sr[tm]?).map fun v => (false, false, some v, none, none)
  | 1 => h0.map fun v => (true, false, some (v * a + b), none, none)
  | 2 => h0.map fun v => if tm % 2 = 0 then (true, false, some v, none, none) else (true, false, none, some v, none)
  | 3 => if tm % 2 = 0 then h0.map fun v => (true, false, some v, none, none) else h1.map fun v => (false, true, some v, none, none)
  | 4 => h0.bind fun v => h1.map fun w => (true, true, some (v + w), none, none)
  | 5 => if tm = 0 then some (false, false, some a, none, none) else h0.map fun v => (true, false, some v, none, none)
  | 6 => if 60 ≤ tm then none else h0.map fun v => (true, false, none, none, some v)
  | 7 => h0.bind fun v => h1.map fun w => (true, true, if v = 0 then none else some w, none, none)
  | 8 => h0.map fun v => (true, false, some v, some v, none)
  | _ => none
def yp_hd (T : yp_T) (d : yp_D) (i k : Nat) : Option Int32 := (yp_ic T i k).bind fun c => (d.2.2 c).head?
def yp_pl (T : yp_T) (d : yp_D) (i : Nat) : Option yp_P := yp_plan (yp_kd T i) (yp_a T i) (yp_b T i) (yp_sr T i) (d.1 i) (yp_hd T d i 0) (yp_hd T d i 1)
def yp_roomb (T : yp_T) (d : yp_D) (i k : Nat) : Bool := match yp_oc T i k with
  | none => true
  | some c => decide ((d.2.2 c).length < yp_rm T c)
def yp_fitb (T : yp_T) (d : yp_D) (i : Nat) (p : yp_P) : Bool := (p.2.2.1.isNone || yp_roomb T d i 0) && (p.2.2.2.1.isNone || yp_roomb T d i 1)
def yp_canb (T : yp_T) (d : yp_D) (i : Nat) : Bool := match yp_pl T d i with
  | none => false
  | some p => yp_fitb T d i p
def yp_take (T : yp_T) (i : Nat) (p : yp_P) (c : Nat) : Bool := (p.1 && decide (yp_ic T i 0 = some c)) || (p.2.1 && decide (yp_ic T i 1 = some c))
def yp_give (T : yp_T) (i : Nat) (p : yp_P) (c : Nat) : List Int32 := (if yp_oc T i 0 = some c then p.2.2.1.toList else []) ++ (if yp_oc T i 1 = some c then p.2.2.2.1.toList else [])
def yp_q (T : yp_T) (i : Nat) (p : yp_P) (q : Nat → List Int32) : Nat → List Int32 := fun c => (if yp_take T i p c = true then (q c).tail else q c) ++ yp_give T i p c
def yp_kp (i : Nat) (p : yp_P) (k : Nat → List Int32) : Nat → List Int32 := match p.2.2.2.2 with
  | none => k
  | some v => va_up k i (k i ++ [v])
def yp_do (T : yp_T) (d : yp_D) (i : Nat) (p : yp_P) : yp_D := (va_up d.1 i (d.1 i + 1), yp_kp i p d.2.1, yp_q T i p d.2.2)
def yp_act (T : yp_T) (d : yp_D) (i : Nat) : yp_D := match yp_pl T d i with
  | none => d
  | some p => yp_do T d i p
/-- no in and no out has two channels, no channel two ins or two outs -/
def yp_wf (T : yp_T) : Prop := (∀ i j k k' c, yp_ic T i k = some c → yp_ic T j k' = some c → i = j ∧ k = k') ∧ (∀ i j k k' c, yp_oc T i k = some c → yp_oc T j k' = some c → i = j ∧ k = k')
theorem yp_can_of {T : yp_T} {d : yp_D} {i : Nat} (h : yp_canb T d i = true) : ∃ p, yp_pl T d i = some p ∧ yp_fitb T d i p = true := by
  unfold yp_canb at h
  cases e : yp_pl T d i with
  | none => rw [e] at h; cases h
  | some p => rw [e] at h; exact ⟨p, rfl, h⟩
theorem yp_can_mk {T : yp_T} {d : yp_D} {i : Nat} {p : yp_P} (h : yp_pl T d i = some p) (hf : yp_fitb T d i p = true) : yp_canb T d i = true := by
  unfold yp_canb; rw [h]; exact hf
theorem yp_act_of {T : yp_T} {d : yp_D} {i : Nat} {p : yp_P} (h : yp_pl T d i = some p) : yp_act T d i = yp_do T d i p := by
  unfold yp_act; rw [h]
/-- a plan stays when empty ins get values -/
theorem yp_mono {kd tm : Nat} {a b : Int32} {sr : List Int32} {h0 h1 h0' h1' : Option Int32} {p : yp_P} (e0 : ∀ v, h0 = some v → h0' = some v) (e1 : ∀ v, h1 = some v → h1' = some v) (h : yp_plan kd a b sr tm h0 h1 = some p) : yp_plan kd a b sr tm h0' h1' = some p := by
  unfold yp_plan at h ⊢
  by_cases h9 : 100 ≤ tm
  · rw [if_pos h9] at h; cases h
  · rw [if_neg h9] at h ⊢
    have m0 : ∀ (f : Int32 → yp_P), h0.map f = some p → h0'.map f = some p := fun f q => by
      cases h0 with
      | none => cases q
      | some v => rw [e0 v rfl]; exact q
    have m1 : ∀ (f : Int32 → yp_P), h1.map f = some p → h1'.map f = some p := fun f q => by
      cases h1 with
      | none => cases q
      | some v => rw [e1 v rfl]; exact q
    have mb : ∀ (f : Int32 → Int32 → yp_P), (h0.bind fun v => h1.map (f v)) = some p → (h0'.bind fun v => h1'.map (f v)) = some p := fun f q => by
      cases h0 with
      | none => cases q
      | some v =>
        rw [e0 v rfl]
        exact (by
          cases h1 with
          | none => cases q
          | some w => rw [e1 w rfl]; exact q)
    match kd, h with
    | 0, h => exact h
    | 1, h => exact m0 _ h
    | 2, h => exact m0 _ h
    | 3, h =>
      by_cases h8 : tm % 2 = 0
      · simp only [if_pos h8] at h ⊢; exact m0 _ h
      · simp only [if_neg h8] at h ⊢; exact m1 _ h
    | 4, h => exact mb _ h
    | 5, h =>
      by_cases h8 : tm = 0
      · simp only [if_pos h8] at h ⊢; exact h
      · simp only [if_neg h8] at h ⊢; exact m0 _ h
    | 6, h =>
      by_cases h8 : 60 ≤ tm
      · simp only [if_pos h8] at h; cases h
      · simp only [if_neg h8] at h ⊢; exact m0 _ h
    | 7, h => exact mb _ h
    | 8, h => exact m0 _ h
    | k + 9, h => cases h
/-- who takes from an in has a value there -/
theorem yp_heads {kd tm : Nat} {a b : Int32} {sr : List Int32} {h0 h1 : Option Int32} {p : yp_P} (h : yp_plan kd a b sr tm h0 h1 = some p) : (p.1 = true → h0 ≠ none) ∧ (p.2.1 = true → h1 ≠ none) := by
  unfold yp_plan at h
  by_cases h9 : 100 ≤ tm
  · rw [if_pos h9] at h; cases h
  · rw [if_neg h9] at h
    match kd, h with
    | 0, h =>
      cases e : sr[tm]? with
      | none => rw [e] at h; cases h
      | some v => rw [e] at h; cases h; exact ⟨fun q => (by cases q), fun q => (by cases q)⟩
    | 1, h =>
      cases h0 with
      | none => cases h
      | some v => cases h; exact ⟨fun _ q => (by cases q), fun q => (by cases q)⟩
    | 2, h =>
      cases h0 with
      | none => cases h
      | some v =>
        by_cases h8 : tm % 2 = 0
        · simp only [Option.map_some, if_pos h8] at h; cases h; exact ⟨fun _ q => (by cases q), fun q => (by cases q)⟩
        · simp only [Option.map_some, if_neg h8] at h; cases h; exact ⟨fun _ q => (by cases q), fun q => (by cases q)⟩
    | 3, h =>
      by_cases h8 : tm % 2 = 0
      · simp only [if_pos h8] at h
        cases h0 with
        | none => cases h
        | some v => cases h; exact ⟨fun _ q => (by cases q), fun q => (by cases q)⟩
      · simp only [if_neg h8] at h
        cases h1 with
        | none => cases h
        | some v => cases h; exact ⟨fun q => (by cases q), fun _ q => (by cases q)⟩
    | 4, h =>
      cases h0 with
      | none => cases h
      | some v =>
        cases h1 with
        | none => cases h
        | some w => exact ⟨fun _ q => (by cases q), fun _ q => (by cases q)⟩
    | 5, h =>
      by_cases h8 : tm = 0
      · simp only [if_pos h8] at h; cases h; exact ⟨fun q => (by cases q), fun q => (by cases q)⟩
      · simp only [if_neg h8] at h
        cases h0 with
        | none => cases h
        | some v => cases h; exact ⟨fun _ q => (by cases q), fun q => (by cases q)⟩
    | 6, h =>
      by_cases h8 : 60 ≤ tm
      · simp only [if_pos h8] at h; cases h
      · simp only [if_neg h8] at h
        cases h0 with
        | none => cases h
        | some v => cases h; exact ⟨fun _ q => (by cases q), fun q => (by cases q)⟩
    | 7, h =>
      cases h0 with
      | none => cases h
      | some v =>
        cases h1 with
        | none => cases h
        | some w => exact ⟨fun _ q => (by cases q), fun _ q => (by cases q)⟩
    | 8, h =>
      cases h0 with
      | none => cases h
      | some v => cases h; exact ⟨fun _ q => (by cases q), fun q => (by cases q)⟩
    | k + 9, h => cases h
theorem yp_plan_lt {kd tm : Nat} {a b : Int32} {sr : List Int32} {h0 h1 : Option Int32} {p : yp_P} (h : yp_plan kd a b sr tm h0 h1 = some p) : tm < 100 := by
  unfold yp_plan at h
  by_cases h9 : 100 ≤ tm
  · rw [if_pos h9] at h; cases h
  · omega
/-- who takes from a channel finds a value there -/
theorem yp_take_ne {T : yp_T} {d : yp_D} {i : Nat} {p : yp_P} (h : yp_pl T d i = some p) {c : Nat} (ht : yp_take T i p c = true) : d.2.2 c ≠ [] := by
  have hh := yp_heads h
  unfold yp_take at ht
  intro hq
  rcases Bool.or_eq_true _ _ ▸ ht with h1 | h1
  · obtain ⟨h2, h3⟩ := Bool.and_eq_true _ _ ▸ h1
    have h4 : yp_ic T i 0 = some c := of_decide_eq_true h3
    apply hh.1 h2
    unfold yp_hd
    rw [h4]
    show (d.2.2 c).head? = none
    rw [hq]; rfl
  · obtain ⟨h2, h3⟩ := Bool.and_eq_true _ _ ▸ h1
    have h4 : yp_ic T i 1 = some c := of_decide_eq_true h3
    apply hh.2 h2
    unfold yp_hd
    rw [h4]
    show (d.2.2 c).head? = none
    rw [hq]; rfl
theorem yp_take_ic {T : yp_T} {i : Nat} {p : yp_P} {c : Nat} (ht : yp_take T i p c = true) : ∃ k, yp_ic T i k = some c := by
  unfold yp_take at ht
  rcases Bool.or_eq_true _ _ ▸ ht with h1 | h1
  · exact ⟨0, of_decide_eq_true (Bool.and_eq_true _ _ ▸ h1).2⟩
  · exact ⟨1, of_decide_eq_true (Bool.and_eq_true _ _ ▸ h1).2⟩
theorem yp_give_oc {T : yp_T} {i : Nat} {p : yp_P} {c : Nat} (hg : yp_give T i p c ≠ []) : ∃ k, yp_oc T i k = some c := by
  unfold yp_give at hg
  by_cases h0 : yp_oc T i 0 = some c
  · exact ⟨0, h0⟩
  · by_cases h1 : yp_oc T i 1 = some c
    · exact ⟨1, h1⟩
    · rw [if_neg h0, if_neg h1] at hg
      exact absurd rfl hg
theorem yp_take_other {T : yp_T} (hw : yp_wf T) {i j k : Nat} (hij : i ≠ j) {p : yp_P} {c : Nat} (hc : yp_ic T j k = some c) : yp_take T i p c = false := by
  cases h : yp_take T i p c with
  | false => rfl
  | true =>
    obtain ⟨k', hk'⟩ := yp_take_ic h
    exact absurd (hw.1 i j k' k c hk' hc).1 hij
theorem yp_give_other {T : yp_T} (hw : yp_wf T) {i j k : Nat} (hij : i ≠ j) {p : yp_P} {c : Nat} (hc : yp_oc T j k = some c) : yp_give T i p c = [] := by
  cases h : yp_give T i p c with
  | nil => rfl
  | cons x l =>
    obtain ⟨k', hk'⟩ := yp_give_oc (T := T) (i := i) (p := p) (c := c) (by rw [h]; exact fun q => by cases q)
    exact absurd (hw.2 i j k' k c hk' hc).1 hij
theorem yp_hd_keep {T : yp_T} (hw : yp_wf T) {d : yp_D} {i j k : Nat} (hij : i ≠ j) {p : yp_P} {v : Int32} (h : yp_hd T d j k = some v) : yp_hd T (yp_do T d i p) j k = some v := by
  unfold yp_hd at h ⊢
  cases e : yp_ic T j k with
  | none => rw [e] at h; cases h
  | some c =>
    rw [e] at h
    have h : (d.2.2 c).head? = some v := h
    show ((yp_do T d i p).2.2 c).head? = some v
    show (yp_q T i p d.2.2 c).head? = some v
    unfold yp_q
    rw [yp_take_other hw hij e]
    cases e2 : d.2.2 c with
    | nil => rw [e2] at h; cases h
    | cons x l => rw [e2] at h; exact h
theorem yp_pl_keep {T : yp_T} (hw : yp_wf T) {d : yp_D} {i j : Nat} (hij : i ≠ j) {p r : yp_P} (h : yp_pl T d j = some r) : yp_pl T (yp_do T d i p) j = some r := by
  unfold yp_pl at h ⊢
  have e : (yp_do T d i p).1 j = d.1 j := va_up_ne _ _ (Ne.symm hij)
  rw [e]
  exact yp_mono (fun v q => yp_hd_keep hw hij q) (fun v q => yp_hd_keep hw hij q) h
theorem yp_room_keep {T : yp_T} (hw : yp_wf T) {d : yp_D} {i j k : Nat} (hij : i ≠ j) {p : yp_P} (h : yp_roomb T d j k = true) : yp_roomb T (yp_do T d i p) j k = true := by
  unfold yp_roomb at h ⊢
  cases e : yp_oc T j k with
  | none => rfl
  | some c =>
    rw [e] at h
    have h : (d.2.2 c).length < yp_rm T c := of_decide_eq_true h
    show decide ((yp_q T i p d.2.2 c).length < yp_rm T c) = true
    apply decide_eq_true
    unfold yp_q
    rw [yp_give_other hw hij e, List.append_nil]
    by_cases ht : yp_take T i p c = true
    · rw [if_pos ht, List.length_tail]; omega
    · rw [if_neg ht]; exact h
theorem yp_fit_keep {T : yp_T} (hw : yp_wf T) {d : yp_D} {i j : Nat} (hij : i ≠ j) {p r : yp_P} (h : yp_fitb T d j r = true) : yp_fitb T (yp_do T d i p) j r = true := by
  unfold yp_fitb at h ⊢
  obtain ⟨h1, h2⟩ := Bool.and_eq_true _ _ ▸ h
  refine (Bool.and_eq_true _ _).symm ▸ ⟨?_, ?_⟩
  · rcases Bool.or_eq_true _ _ ▸ h1 with q | q
    · exact (Bool.or_eq_true _ _).symm ▸ Or.inl q
    · exact (Bool.or_eq_true _ _).symm ▸ Or.inr (yp_room_keep hw hij q)
  · rcases Bool.or_eq_true _ _ ▸ h2 with q | q
    · exact (Bool.or_eq_true _ _).symm ▸ Or.inl q
    · exact (Bool.or_eq_true _ _).symm ▸ Or.inr (yp_room_keep hw hij q)
theorem yp_kp_comm {i j : Nat} (hij : i ≠ j) (p r : yp_P) (k : Nat → List Int32) : yp_kp j r (yp_kp i p k) = yp_kp i p (yp_kp j r k) := by
  unfold yp_kp
  cases p.2.2.2.2 with
  | none => cases r.2.2.2.2 <;> rfl
  | some v =>
    cases r.2.2.2.2 with
    | none => rfl
    | some w =>
      funext x
      show va_up (va_up k i (k i ++ [v])) j (va_up k i (k i ++ [v]) j ++ [w]) x = va_up (va_up k j (k j ++ [w])) i (va_up k j (k j ++ [w]) i ++ [v]) x
      rw [va_up_ne k _ (Ne.symm hij), va_up_ne k _ hij]
      by_cases h1 : x = i
      · subst h1
        rw [va_up_self, va_up_ne _ _ hij, va_up_self]
      · by_cases h2 : x = j
        · subst h2
          rw [va_up_self, va_up_ne _ _ (Ne.symm hij), va_up_self]
        · rw [va_up_ne _ _ h2, va_up_ne _ _ h1, va_up_ne _ _ h1, va_up_ne _ _ h2]
theorem yp_tm_comm {i j : Nat} (hij : i ≠ j) (f : Nat → Nat) : va_up (va_up f i (f i + 1)) j (va_up f i (f i + 1) j + 1) = va_up (va_up f j (f j + 1)) i (va_up f j (f j + 1) i + 1) := by
  funext x
  rw [va_up_ne f _ (Ne.symm hij), va_up_ne f _ hij]
  by_cases h1 : x = i
  · subst h1
    rw [va_up_self, va_up_ne _ _ hij, va_up_self]
  · by_cases h2 : x = j
    · subst h2
      rw [va_up_self, va_up_ne _ _ (Ne.symm hij), va_up_self]
    · rw [va_up_ne _ _ h2, va_up_ne _ _ h1, va_up_ne _ _ h1, va_up_ne _ _ h2]
theorem yp_tail_app {q g : List Int32} (h : q ≠ []) : (q ++ g).tail = q.tail ++ g := by
  cases q with
  | nil => exact absurd rfl h
  | cons x l => rfl
theorem yp_q_comm {T : yp_T} (hw : yp_wf T) {d : yp_D} {i j : Nat} (hij : i ≠ j) {p r : yp_P} (hp : yp_pl T d i = some p) (hr : yp_pl T d j = some r) : yp_q T j r (yp_q T i p d.2.2) = yp_q T i p (yp_q T j r d.2.2) := by
  funext c
  have hi := fun h => yp_take_ne hp (c := c) h
  have hj := fun h => yp_take_ne hr (c := c) h
  have hg : yp_give T i p c = [] ∨ yp_give T j r c = [] := by
    cases e : yp_give T i p c with
    | nil => exact Or.inl rfl
    | cons x l =>
      obtain ⟨k, hk⟩ := yp_give_oc (T := T) (i := i) (p := p) (c := c) (by rw [e]; exact fun q => by cases q)
      exact Or.inr (yp_give_other hw (Ne.symm hij) hk)
  have ht : yp_take T i p c = true → yp_take T j r c = false := fun h => by
    obtain ⟨k, hk⟩ := yp_take_ic h
    exact yp_take_other hw (Ne.symm hij) hk
  unfold yp_q
  generalize hti : yp_take T i p c = ti at *
  generalize htj : yp_take T j r c = tj at *
  generalize yp_give T i p c = gi at *
  generalize yp_give T j r c = gj at *
  generalize d.2.2 c = q at *
  cases ti with
  | true =>
    have := ht rfl
    subst this
    have hq := hi rfl
    simp only [if_true, Bool.false_eq_true, if_false]
    rw [yp_tail_app hq]
    rcases hg with g | g <;> rw [g] <;> simp
  | false =>
    cases tj with
    | true =>
      have hq := hj rfl
      simp only [if_true, Bool.false_eq_true, if_false]
      rw [yp_tail_app hq]
      rcases hg with g | g <;> rw [g] <;> simp
    | false =>
      simp only [Bool.false_eq_true, if_false]
      rcases hg with g | g <;> rw [g] <;> simp
/-- TWO WHO CAN ACT: each still can behind the other, and it comes to the same -/
theorem yp_diam {T : yp_T} (hw : yp_wf T) {d : yp_D} {i j : Nat} (hij : i ≠ j) (hi : yp_canb T d i = true) (hj : yp_canb T d j = true) : yp_canb T (yp_act T d i) j = true ∧ yp_canb T (yp_act T d j) i = true ∧ yp_act T (yp_act T d i) j = yp_act T (yp_act T d j) i := by
  obtain ⟨p, hp, fp⟩ := yp_can_of hi
  obtain ⟨r, hr, fr⟩ := yp_can_of hj
  rw [yp_act_of hp, yp_act_of hr]
  have h1 := yp_pl_keep hw hij (p := p) hr
  have h2 := yp_pl_keep hw (Ne.symm hij) (p := r) hp
  refine ⟨yp_can_mk h1 (yp_fit_keep hw hij fr), yp_can_mk h2 (yp_fit_keep hw (Ne.symm hij) fp), ?_⟩
  rw [yp_act_of h1, yp_act_of h2]
  show (_, _, _) = (_, _, _)
  rw [show yp_q T j r (yp_do T d i p).2.2 = yp_q T i p (yp_do T d j r).2.2 from yp_q_comm hw hij hp hr, show yp_kp j r (yp_do T d i p).2.1 = yp_kp i p (yp_do T d j r).2.1 from yp_kp_comm hij p r d.2.1]
  have e : va_up (yp_do T d i p).1 j ((yp_do T d i p).1 j + 1) = va_up (yp_do T d j r).1 i ((yp_do T d j r).1 i + 1) := yp_tm_comm hij d.1
  rw [e]
def yp_path (T : yp_T) : Nat → yp_D → yp_D → Prop
  | 0, d, e => d = e
  | k + 1, d, e => ∃ i, i < yp_n T ∧ yp_canb T d i = true ∧ yp_path T k (yp_act T d i) e
def yp_norm (T : yp_T) (d : yp_D) : Prop := ∀ i, i < yp_n T → yp_canb T d i = false
theorem yp_strip {T : yp_T} (hw : yp_wf T) {N : yp_D} (hN : yp_norm T N) : ∀ (k : Nat) (d : yp_D) (j : Nat), yp_path T k d N → j < yp_n T → yp_canb T d j = true → ∃ k', k = k' + 1 ∧ yp_path T k' (yp_act T d j) N
  | 0, d, j, h, hj, hc => by
    have h : d = N := h
    subst h
    rw [hN j hj] at hc
    cases hc
  | k + 1, d, j, h, hj, hc => by
    obtain ⟨i, hi, ci, hp⟩ := h
    by_cases hij : i = j
    · subst hij
      exact ⟨k, rfl, hp⟩
    · obtain ⟨h1, h2, h3⟩ := yp_diam hw hij ci hc
      obtain ⟨k', hk, hp'⟩ := yp_strip hw hN k (yp_act T d i) j hp hj h1
      subst hk
      rw [h3] at hp'
      exact ⟨k' + 1, rfl, i, hi, h2, hp'⟩
theorem yp_strips {T : yp_T} (hw : yp_wf T) {N : yp_D} (hN : yp_norm T N) : ∀ (m : Nat) (d e : yp_D) (k : Nat), yp_path T m d e → yp_path T k d N → ∃ k', yp_path T k' e N
  | 0, d, e, k, h, hp => by
    have h : d = e := h
    subst h
    exact ⟨k, hp⟩
  | m + 1, d, e, k, h, hp => by
    obtain ⟨i, hi, ci, h⟩ := h
    obtain ⟨k', -, hp'⟩ := yp_strip hw hN k d i hp hi ci
    exact yp_strips hw hN m _ e k' h hp'
theorem yp_path_app {T : yp_T} : ∀ (m k : Nat) (d e f : yp_D), yp_path T m d e → yp_path T k e f → yp_path T (m + k) d f
  | 0, k, d, e, f, h, hp => by
    have h : d = e := h
    subst h
    rw [Nat.zero_add]
    exact hp
  | m + 1, k, d, e, f, h, hp => by
    obtain ⟨i, hi, ci, h⟩ := h
    rw [Nat.add_right_comm]
    exact ⟨i, hi, ci, yp_path_app m k _ e f h hp⟩
/-- N is how all ends, from d on -/
def yp_fin (T : yp_T) (d N : yp_D) : Prop := yp_norm T N ∧ ∃ k, yp_path T k d N
theorem yp_fin_fwd {T : yp_T} (hw : yp_wf T) {m : Nat} {d e N : yp_D} (h : yp_path T m d e) (hf : yp_fin T d N) : yp_fin T e N := by
  obtain ⟨hN, k, hp⟩ := hf
  exact ⟨hN, yp_strips hw hN m d e k h hp⟩
theorem yp_fin_bwd {T : yp_T} {m : Nat} {d e N : yp_D} (h : yp_path T m d e) (hf : yp_fin T e N) : yp_fin T d N := by
  obtain ⟨hN, k, hp⟩ := hf
  exact ⟨hN, m + k, yp_path_app m k d e N h hp⟩
theorem yp_fin_uniq {T : yp_T} (hw : yp_wf T) {d N M : yp_D} (h1 : yp_fin T d N) (h2 : yp_fin T d M) : N = M := by
  obtain ⟨hM, m, hm⟩ := h2
  obtain ⟨hN, k, hk⟩ := yp_fin_fwd hw hm h1
  cases k with
  | zero =>
    have hk : M = N := hk
    exact hk.symm
  | succ k =>
    obtain ⟨i, hi, ci, -⟩ := hk
    rw [hM i hi] at ci
    cases ci
theorem yp_path_1 {T : yp_T} {d : yp_D} {i : Nat} (hi : i < yp_n T) (hc : yp_canb T d i = true) : yp_path T 1 d (yp_act T d i) := ⟨i, hi, hc, rfl⟩
/-- the sum of how often each acted: grows with each act, and is at most 100 each -/
def yp_sum (f : Nat → Nat) : Nat → Nat
  | 0 => 0
  | n + 1 => yp_sum f n + f n
theorem yp_sum_congr {f g : Nat → Nat} : ∀ n, (∀ i, i < n → f i = g i) → yp_sum f n = yp_sum g n
  | 0, _ => rfl
  | n + 1, h => by
    show yp_sum f n + f n = yp_sum g n + g n
    rw [yp_sum_congr n (fun i hi => h i (Nat.lt_succ_of_lt hi)), h n (Nat.lt_succ_self n)]
theorem yp_sum_up {f : Nat → Nat} {i : Nat} : ∀ n, i < n → yp_sum (va_up f i (f i + 1)) n = yp_sum f n + 1
  | 0, h => absurd h (Nat.not_lt_zero _)
  | n + 1, h => by
    show yp_sum (va_up f i (f i + 1)) n + va_up f i (f i + 1) n = yp_sum f n + f n + 1
    by_cases hi : i = n
    · subst hi
      rw [va_up_self, yp_sum_congr (g := f) i (fun j hj => va_up_ne f (f i + 1) (Nat.ne_of_lt hj))]
      omega
    · rw [yp_sum_up n (by omega), va_up_ne f _ (Ne.symm hi)]
      omega
theorem yp_sum_le {f : Nat → Nat} {m : Nat} : ∀ n, (∀ i, i < n → f i ≤ m) → yp_sum f n ≤ m * n
  | 0, _ => Nat.le_refl _
  | n + 1, h => by
    have h1 := yp_sum_le n (fun i hi => h i (Nat.lt_succ_of_lt hi))
    have h2 := h n (Nat.lt_succ_self n)
    show yp_sum f n + f n ≤ m * (n + 1)
    rw [Nat.mul_succ]
    omega
theorem yp_can_lt {T : yp_T} {d : yp_D} {i : Nat} (h : yp_canb T d i = true) : d.1 i < 100 := by
  obtain ⟨p, hp, -⟩ := yp_can_of h
  exact yp_plan_lt hp
theorem yp_act_tm {T : yp_T} {d : yp_D} {i : Nat} (h : yp_canb T d i = true) : (yp_act T d i).1 = va_up d.1 i (d.1 i + 1) := by
  obtain ⟨p, hp, -⟩ := yp_can_of h
  rw [yp_act_of hp]
  rfl
theorem yp_act_le {T : yp_T} {d : yp_D} {i : Nat} (h : yp_canb T d i = true) (hd : ∀ j, d.1 j ≤ 100) : ∀ j, (yp_act T d i).1 j ≤ 100 := by
  intro j
  rw [yp_act_tm h]
  by_cases hj : j = i
  · subst hj
    rw [va_up_self]
    exact yp_can_lt h
  · rw [va_up_ne _ _ hj]
    exact hd j
theorem yp_path_sum {T : yp_T} : ∀ (k : Nat) (d e : yp_D), yp_path T k d e → yp_sum e.1 (yp_n T) = yp_sum d.1 (yp_n T) + k
  | 0, d, e, h => by
    have h : d = e := h
    subst h
    rfl
  | k + 1, d, e, h => by
    obtain ⟨i, hi, ci, h⟩ := h
    rw [yp_path_sum k _ e h, yp_act_tm ci, yp_sum_up _ hi]
    omega
theorem yp_path_le {T : yp_T} : ∀ (k : Nat) (d e : yp_D), yp_path T k d e → (∀ j, d.1 j ≤ 100) → ∀ j, e.1 j ≤ 100
  | 0, d, e, h, hd => by
    have h : d = e := h
    subst h
    exact hd
  | k + 1, d, e, h, hd => by
    obtain ⟨i, hi, ci, h⟩ := h
    exact yp_path_le k _ e h (yp_act_le ci hd)
/-- no way is longer than 100 acts each -/
theorem yp_path_short {T : yp_T} {k : Nat} {d e : yp_D} (h : yp_path T k d e) (hd : ∀ j, d.1 j ≤ 100) : k ≤ 100 * yp_n T := by
  have h1 := yp_path_sum k d e h
  have h2 := yp_sum_le (f := e.1) (m := 100) (yp_n T) (fun i _ => yp_path_le k d e h hd i)
  omega
end
section
/-! ACTING STEP BY STEP, AND WHO CAN ACT, KIND BY KIND -/
def yq_tk (t : Bool) (o : Option Nat) (q : Nat → List Int32) : Nat → List Int32 := fun c => if t = true ∧ o = some c then (q c).tail else q c
def yq_gv (g : Option Int32) (o : Option Nat) (q : Nat → List Int32) : Nat → List Int32 := fun c => if o = some c then q c ++ g.toList else q c
theorem yq_tk_f (o : Option Nat) (q : Nat → List Int32) : yq_tk false o q = q := by
  funext c
  unfold yq_tk
  rw [if_neg (fun h => by cases h.1)]
theorem yq_gv_n (o : Option Nat) (q : Nat → List Int32) : yq_gv none o q = q := by
  funext c
  unfold yq_gv
  by_cases h : o = some c
  · rw [if_pos h]; exact List.append_nil _
  · rw [if_neg h]
theorem yp_q_seq {T : yp_T} (hw : yp_wf T) (i : Nat) (p : yp_P) (q : Nat → List Int32) : yp_q T i p q = yq_gv p.2.2.2.1 (yp_oc T i 1) (yq_gv p.2.2.1 (yp_oc T i 0) (yq_tk p.2.1 (yp_ic T i 1) (yq_tk p.1 (yp_ic T i 0) q))) := by
  funext c
  unfold yp_q yp_take yp_give yq_gv yq_tk
  have hI : yp_ic T i 0 = some c → ¬ yp_ic T i 1 = some c := fun h1 h2 => by
    have := (hw.1 i i 0 1 c h1 h2).2
    omega
  have hO : yp_oc T i 0 = some c → ¬ yp_oc T i 1 = some c := fun h1 h2 => by
    have := (hw.2 i i 0 1 c h1 h2).2
    omega
  obtain ⟨t0, t1, g0, g1, k⟩ := p
  by_cases a0 : yp_ic T i 0 = some c
  · have a1 := hI a0
    by_cases b0 : yp_oc T i 0 = some c
    · have b1 := hO b0
      cases t0 <;> simp [a0, a1, b0, b1]
    · by_cases b1 : yp_oc T i 1 = some c <;> cases t0 <;> simp [a0, a1, b0, b1]
  · by_cases a1 : yp_ic T i 1 = some c
    · by_cases b0 : yp_oc T i 0 = some c
      · have b1 := hO b0
        cases t1 <;> simp [a0, a1, b0, b1]
      · by_cases b1 : yp_oc T i 1 = some c <;> cases t1 <;> simp [a0, a1, b0, b1]
    · by_cases b0 : yp_oc T i 0 = some c
      · have b1 := hO b0
        simp [a0, a1, b0, b1]
      · by_cases b1 : yp_oc T i 1 = some c <;> simp [a0, a1, b0, b1]
section YK
variable {T : yp_T} {d : yp_D} {i : Nat}
theorem yp_can100 (h : 100 ≤ d.1 i) : yp_canb T d i = false := by
  unfold yp_canb yp_pl yp_plan
  rw [if_pos h]
theorem yp_can0 (h : ¬ 100 ≤ d.1 i) (hk : yp_kd T i = 0) : yp_canb T d i = (decide (d.1 i < (yp_sr T i).length) && yp_roomb T d i 0) := by
  unfold yp_canb yp_pl yp_plan
  rw [if_neg h, hk]
  by_cases h1 : d.1 i < (yp_sr T i).length
  · rw [List.getElem?_eq_getElem h1]
    simp [yp_fitb, h1]
  · rw [List.getElem?_eq_none (by omega)]
    simp [h1]
theorem yp_can1 (h : ¬ 100 ≤ d.1 i) (hk : yp_kd T i = 1) : yp_canb T d i = ((yp_hd T d i 0).isSome && yp_roomb T d i 0) := by
  unfold yp_canb yp_pl yp_plan
  rw [if_neg h, hk]
  cases yp_hd T d i 0 <;> simp [yp_fitb]
theorem yp_can2 (h : ¬ 100 ≤ d.1 i) (hk : yp_kd T i = 2) : yp_canb T d i = ((yp_hd T d i 0).isSome && yp_roomb T d i (d.1 i % 2)) := by
  unfold yp_canb yp_pl yp_plan
  rw [if_neg h, hk]
  rcases Nat.mod_two_eq_zero_or_one (d.1 i) with e | e <;> cases yp_hd T d i 0 <;> simp [yp_fitb, e]
theorem yp_can3 (h : ¬ 100 ≤ d.1 i) (hk : yp_kd T i = 3) : yp_canb T d i = ((yp_hd T d i (d.1 i % 2)).isSome && yp_roomb T d i 0) := by
  unfold yp_canb yp_pl yp_plan
  rw [if_neg h, hk]
  rcases Nat.mod_two_eq_zero_or_one (d.1 i) with e | e
  · cases e2 : yp_hd T d i 0 <;> simp [yp_fitb, e, e2]
  · cases e2 : yp_hd T d i 1 <;> simp [yp_fitb, e, e2]
theorem yp_can4 (h : ¬ 100 ≤ d.1 i) (hk : yp_kd T i = 4) : yp_canb T d i = ((yp_hd T d i 0).isSome && (yp_hd T d i 1).isSome && yp_roomb T d i 0) := by
  unfold yp_canb yp_pl yp_plan
  rw [if_neg h, hk]
  cases yp_hd T d i 0 <;> cases yp_hd T d i 1 <;> simp [yp_fitb]
theorem yp_can5 (h : ¬ 100 ≤ d.1 i) (hk : yp_kd T i = 5) : yp_canb T d i = ((decide (d.1 i = 0) || (yp_hd T d i 0).isSome) && yp_roomb T d i 0) := by
  unfold yp_canb yp_pl yp_plan
  rw [if_neg h, hk]
  by_cases e : d.1 i = 0
  · simp [yp_fitb, e]
  · cases yp_hd T d i 0 <;> simp [yp_fitb, e]
theorem yp_can6 (h : ¬ 100 ≤ d.1 i) (hk : yp_kd T i = 6) : yp_canb T d i = ((yp_hd T d i 0).isSome && decide (d.1 i < 60)) := by
  unfold yp_canb yp_pl yp_plan
  rw [if_neg h, hk]
  by_cases e : 60 ≤ d.1 i
  · have e2 : ¬ d.1 i < 60 := by omega
    simp [e, e2]
  · have e2 : d.1 i < 60 := by omega
    cases yp_hd T d i 0 <;> simp [yp_fitb, e, e2]
theorem yp_can7 (h : ¬ 100 ≤ d.1 i) (hk : yp_kd T i = 7) : yp_canb T d i = ((yp_hd T d i 0).isSome && (yp_hd T d i 1).isSome && (decide (yp_hd T d i 0 = some 0) || yp_roomb T d i 0)) := by
  unfold yp_canb yp_pl yp_plan
  rw [if_neg h, hk]
  cases yp_hd T d i 0 with
  | none => simp
  | some v =>
    cases yp_hd T d i 1 with
    | none => simp
    | some w =>
      by_cases e : v = 0 <;> simp [yp_fitb, e]
theorem yp_can8 (h : ¬ 100 ≤ d.1 i) (hk : yp_kd T i = 8) : yp_canb T d i = ((yp_hd T d i 0).isSome && yp_roomb T d i 0 && yp_roomb T d i 1) := by
  unfold yp_canb yp_pl yp_plan
  rw [if_neg h, hk]
  cases yp_hd T d i 0 <;> simp [yp_fitb]
end YK
end
section
/-! A ROW OF EIGHT AS A QUEUE -/
def yrq (r : Nat → Int32) (f n : Nat) : List Int32 := (List.range n).map (fun k => r ((f + k) % 8))
theorem yrq_len (r : Nat → Int32) (f n : Nat) : (yrq r f n).length = n := by
  unfold yrq; rw [List.length_map, List.length_range]
theorem yrq_get {r : Nat → Int32} {f n k : Nat} (h : k < n) : (yrq r f n)[k]? = some (r ((f + k) % 8)) := by
  unfold yrq
  rw [List.getElem?_map, List.getElem?_range h]
  rfl
theorem yrq_head {r : Nat → Int32} {f n : Nat} (h : 0 < n) : (yrq r f n).head? = some (r (f % 8)) := by
  have := yrq_get (r := r) (f := f) h
  rw [List.head?_eq_getElem?, this, Nat.add_zero]
theorem yrq_nil {r : Nat → Int32} {f : Nat} : yrq r f 0 = [] := rfl
theorem yrq_pop {r : Nat → Int32} {f n : Nat} (h : 0 < n) : yrq r ((f + 1) % 8) (n - 1) = (yrq r f n).tail := by
  apply List.ext_getElem?
  intro k
  rw [List.getElem?_tail]
  by_cases hk : k < n - 1
  · rw [yrq_get hk, yrq_get (by omega)]
    congr 2
    omega
  · rw [List.getElem?_eq_none (by rw [yrq_len]; omega), List.getElem?_eq_none (by rw [yrq_len]; omega)]
theorem yrq_push {r : Nat → Int32} {f n : Nat} {v : Int32} (h : n < 8) : yrq (upd r ((f + n) % 8) v) f (n + 1) = yrq r f n ++ [v] := by
  apply List.ext_getElem?
  intro k
  by_cases hk : k < n
  · rw [yrq_get (by omega), List.getElem?_append_left (by rw [yrq_len]; exact hk), yrq_get hk]
    have : (f + k) % 8 ≠ (f + n) % 8 := by omega
    rw [pk_un this]
  · by_cases hk2 : k = n
    · subst hk2
      rw [yrq_get (by omega), List.getElem?_append_right (by rw [yrq_len]; omega), yrq_len, Nat.sub_self, pk_us]
      rfl
    · rw [List.getElem?_eq_none (by rw [yrq_len]; omega), List.getElem?_eq_none (by rw [List.length_append, yrq_len]; simp; omega)]
theorem yrq_congr {r r' : Nat → Int32} {f n : Nat} (h : ∀ j, j < 8 → r j = r' j) : yrq r f n = yrq r' f n := by
  unfold yrq
  apply List.map_congr_left
  intro k _
  exact h _ (Nat.mod_lt _ (by omega))
/-- what was told, or kept: the first n places of a row -/
def yrw (r : Nat → Int32) (n : Nat) : List Int32 := (List.range n).map r
theorem yrw_len (r : Nat → Int32) (n : Nat) : (yrw r n).length = n := by
  unfold yrw; rw [List.length_map, List.length_range]
theorem yrw_get {r : Nat → Int32} {n k : Nat} (h : k < n) : (yrw r n)[k]? = some (r k) := by
  unfold yrw
  rw [List.getElem?_map, List.getElem?_range h]
  rfl
theorem yrw_push {r : Nat → Int32} {n : Nat} {v : Int32} : yrw (upd r n v) (n + 1) = yrw r n ++ [v] := by
  apply List.ext_getElem?
  intro k
  by_cases hk : k < n
  · rw [yrw_get (by omega), List.getElem?_append_left (by rw [yrw_len]; exact hk), yrw_get hk]
    rw [pk_un (by omega)]
  · by_cases hk2 : k = n
    · subst hk2
      rw [yrw_get (by omega), List.getElem?_append_right (by rw [yrw_len]; omega), yrw_len, Nat.sub_self, pk_us]
      rfl
    · rw [List.getElem?_eq_none (by rw [yrw_len]; omega), List.getElem?_eq_none (by rw [List.length_append, yrw_len]; simp; omega)]
theorem yrw_congr {r r' : Nat → Int32} {n : Nat} (h : ∀ j, j < n → r j = r' j) : yrw r n = yrw r' n := by
  unfold yrw
  apply List.map_congr_left
  intro k hk
  exact h k (List.mem_range.mp hk)
end
section
/-! RUN: one behind the other, drawn by a seed -/
def yp_rdy (T : yp_T) (d : yp_D) (n : Nat) : List Nat := (List.range n).filter (fun i => yp_canb T d i)
theorem yp_rdy_0 (T : yp_T) (d : yp_D) : yp_rdy T d 0 = [] := rfl
theorem yp_rdy_s (T : yp_T) (d : yp_D) (n : Nat) : yp_rdy T d (n + 1) = yp_rdy T d n ++ (if yp_canb T d n = true then [n] else []) := by
  unfold yp_rdy
  rw [List.range_succ, List.filter_append]
  congr 1
  by_cases h : yp_canb T d n = true
  · rw [if_pos h, List.filter_cons_of_pos (by simpa using h)]; rfl
  · rw [if_neg h, List.filter_cons_of_neg (by simpa using h)]; rfl
theorem yp_rdy_in {T : yp_T} {d : yp_D} {n i : Nat} (h : i ∈ yp_rdy T d n) : i < n ∧ yp_canb T d i = true := by
  unfold yp_rdy at h
  obtain ⟨h1, h2⟩ := List.mem_filter.mp h
  exact ⟨List.mem_range.mp h1, by simpa using h2⟩
theorem yp_rdy_le (T : yp_T) (d : yp_D) (n : Nat) : (yp_rdy T d n).length ≤ n := by
  have h := List.length_filter_le (fun i => yp_canb T d i) (List.range n)
  rw [List.length_range] at h
  exact h
theorem yp_rdy_nil {T : yp_T} {d : yp_D} (h : yp_rdy T d (yp_n T) = []) : yp_norm T d := by
  intro i hi
  cases e : yp_canb T d i with
  | false => rfl
  | true =>
    have : i ∈ yp_rdy T d (yp_n T) := by
      unfold yp_rdy
      exact List.mem_filter.mpr ⟨List.mem_range.mpr hi, by simpa using e⟩
    rw [h] at this
    cases this
/-- x's next value, and the place that it draws out of n -/
def yp_nx (x : Int64) : Int64 := x * 6364136223846793005 + 1442695040888963407
def yp_ix (x : Int64) (n : Nat) : Nat := x.toBitVec.toNat / 8589934592 % n
theorem yp_ix_lt (x : Int64) {n : Nat} (h : 0 < n) : yp_ix x n < n := Nat.mod_lt _ h
def yp_dr (T : yp_T) (d : yp_D) (x : Int64) : Nat := (yp_rdy T d (yp_n T)).getD (yp_ix x (yp_rdy T d (yp_n T)).length) 0
def yp_run (T : yp_T) : Nat → Int64 → yp_D → yp_D × Nat
  | 0, _, d => (d, 0)
  | k + 1, x, d => if yp_rdy T d (yp_n T) = [] then (d, 0) else ((yp_run T k (yp_nx x) (yp_act T d (yp_dr T d (yp_nx x)))).1, (yp_run T k (yp_nx x) (yp_act T d (yp_dr T d (yp_nx x)))).2 + 1)
theorem yp_dr_ok {T : yp_T} {d : yp_D} {x : Int64} (h : yp_rdy T d (yp_n T) ≠ []) : yp_dr T d x < yp_n T ∧ yp_canb T d (yp_dr T d x) = true := by
  unfold yp_dr
  have hl : 0 < (yp_rdy T d (yp_n T)).length := List.length_pos_iff.mpr h
  have hx := yp_ix_lt x hl
  apply yp_rdy_in (n := yp_n T)
  rw [List.getD_eq_getElem?_getD, List.getElem?_eq_getElem hx]
  exact List.getElem_mem _
theorem yp_run_path {T : yp_T} : ∀ (k : Nat) (x : Int64) (d : yp_D), ∃ m, yp_path T m d (yp_run T k x d).1
  | 0, _, d => ⟨0, rfl⟩
  | k + 1, x, d => by
    unfold yp_run
    by_cases h : yp_rdy T d (yp_n T) = []
    · rw [if_pos h]; exact ⟨0, rfl⟩
    · rw [if_neg h]
      obtain ⟨m, hm⟩ := yp_run_path k (yp_nx x) (yp_act T d (yp_dr T d (yp_nx x)))
      obtain ⟨h1, h2⟩ := yp_dr_ok (x := yp_nx x) h
      exact ⟨m + 1, _, h1, h2, hm⟩
end
section
/-! WORLDS BY LOGICAL PLACES: every object has a place (family, number, number); ad says at which address it lies, g what is in it; X: the rest, which isn't touched -/
abbrev yl : Type := Nat × Nat × Nat
def yu {β : Type} (g : yl → β) (q : yl) (e : β) : yl → β := fun x => if x = q then e else g x
theorem yu_s {β : Type} (g : yl → β) (q : yl) (e : β) : yu g q e q = e := if_pos rfl
theorem yu_n {β : Type} (g : yl → β) {q x : yl} (e : β) (h : x ≠ q) : yu g q e x = g x := if_neg h
def wl (ad : yl → Nat) (LL : List yl) (g : yl → va_E) : va_W := LL.map (fun q => (ad q, g q))
theorem wl_len (ad : yl → Nat) (LL : List yl) (g : yl → va_E) : (wl ad LL g).length = LL.length := by
  unfold wl; rw [List.length_map]
theorem wl_at {ad : yl → Nat} {LL : List yl} {g : yl → va_E} {X : va_W} {i : Nat} {q : yl} (h : LL[i]? = some q) : (wl ad LL g ++ X)[i]? = some (ad q, g q) := by
  have hl : i < LL.length := (List.getElem?_eq_some_iff.mp h).1
  rw [List.getElem?_append_left (by rw [wl_len]; exact hl)]
  unfold wl
  rw [List.getElem?_map, h]
  rfl
theorem wl_get {ad : yl → Nat} {LL : List yl} {g : yl → va_E} {X : va_W} {q : yl} (h : q ∈ LL) : ∃ k : Nat, (wl ad LL g ++ X)[k]? = some (ad q, g q) := by
  obtain ⟨i, hi⟩ := List.getElem?_of_mem h
  exact ⟨i, wl_at hi⟩
theorem wl_set {A : Nat → Prop} {ad : yl → Nat} {LL : List yl} {g : yl → va_E} {X : va_W} {q : yl} {k : Nat} {e0 e : va_E} (hD : va_D A (wl ad LL g ++ X)) (h : q ∈ LL) (hk : (wl ad LL g ++ X)[k]? = some (ad q, e0)) : (wl ad LL g ++ X).set k (ad q, e) = wl ad LL (yu g q e) ++ X := by
  obtain ⟨i, hi⟩ := List.getElem?_of_mem h
  have hi' : (wl ad LL g ++ X)[i]? = some (ad q, g q) := wl_at hi
  have hik : i = k := hD.1 i k _ _ hi' hk rfl
  subst hik
  have hlt : i < LL.length := (List.getElem?_eq_some_iff.mp hi).1
  apply List.ext_getElem?
  intro j
  by_cases hj : j = i
  · subst hj
    rw [List.getElem?_set_self (by rw [List.length_append, wl_len]; omega), wl_at hi, yu_s]
  · rw [List.getElem?_set_ne (Ne.symm hj)]
    by_cases hjl : j < LL.length
    · have hq' : LL[j]? = some LL[j] := List.getElem?_eq_getElem hjl
      have hne : LL[j] ≠ q := fun e1 => hj (hD.1 j i _ _ (wl_at hq') hk (by rw [e1]))
      rw [wl_at hq', wl_at hq', yu_n _ _ hne]
    · rw [List.getElem?_append_right (by rw [wl_len]; omega), List.getElem?_append_right (by rw [wl_len]; omega), wl_len, wl_len]
theorem wl_congr {ad ad' : yl → Nat} {LL : List yl} {g g' : yl → va_E} (h : ∀ q, q ∈ LL → ad q = ad' q ∧ g q = g' q) : wl ad LL g = wl ad' LL g' := by
  unfold wl
  apply List.map_congr_left
  intro q hq
  rw [(h q hq).1, (h q hq).2]
theorem wl_push {ad : yl → Nat} {LL : List yl} {g : yl → va_E} {q : yl} {a : Nat} {e : va_E} (h : q ∉ LL) : wl (yu ad q a) (LL ++ [q]) (yu g q e) = wl ad LL g ++ [(a, e)] := by
  have h1 : wl (yu ad q a) LL (yu g q e) = wl ad LL g := wl_congr fun x hx => by
    have hne : x ≠ q := fun e => h (e ▸ hx)
    exact ⟨yu_n _ _ hne, yu_n _ _ hne⟩
  rw [← h1]
  unfold wl
  rw [List.map_append, List.map_cons, List.map_nil, yu_s, yu_s]
/-- what is carried along a walk: the world's cells, apart and in A, and that nothing outside A has changed since H0 -/
def yH (D : va_G) (cl : List vw_C) (A : Nat → Prop) (H0 H : Heap) (locs : List Loc) (ws : va_W) : Prop := va_P D cl ws H ∧ va_D A ws ∧ va_S A H0 H locs
theorem yH.pushed {D : va_G} {cl : List vw_C} {A : Nat → Prop} {H0 H : Heap} {locs : List Loc} {ad : yl → Nat} {LL : List yl} {g : yl → va_E} {X : va_W} {q : yl} {a : Nat} {e : va_E} (h : q ∉ LL) (hw : yH D cl A H0 H locs ((wl ad LL g ++ X) ++ [(a, e)])) : yH D cl A H0 H locs (wl (yu ad q a) (LL ++ [q]) (yu g q e) ++ X) := by
  rw [wl_push h]
  exact ⟨hw.1.swap, hw.2.1.swap, hw.2.2⟩
section YR
variable {p : Program} {l : Launch} {e : Env} {R : Room} {s : State} {m : MethodId} {args : Array Value} {below : List Frame} {meth : Method} {c : Code} {H : Heap} {locs : List Loc} {cells slots : Nat} {Q : State → Prop}
variable {cc : ByteArray} {D : va_G} {cl : List vw_C} {tys : List (ClassId × FieldType)} {A : Nat → Prop} {H0 : Heap} {ad : yl → Nat} {LL : List yl} {g : yl → va_E} {X : va_W} {q : yl} {pc : Nat} {ls : Array Slot} {rest : List Value}
theorem yr_get (hexec : p.tables.exec = Jvm.exec) (hb : c.code = cc) {own ref C : String} {T : u_T} {N ci index : Nat} {Ts : List Cond} {fs : List Value} {v : Value} (hts : ∀ w ∈ Ts, w.before args s = true) (hin : ∀ w ∈ u_ws C T N, w ∈ Ts) (hown : s.vm.findClass own = some m.cls) (hK : va_K D cl tys s) (hw : yH D cl A H0 H locs (wl ad LL g ++ X)) (hq : q ∈ LL) (hg : g q = .inr (ci, fs)) (hc : cl[ci]? = some (C, T, N)) (k : Nat) (hk : k < N) (hlink : (Cond.fieldLink own index ref (T k).2.1 (T k).2.2.1).before args s = true) (hsame : ∀ x, s.fieldFound? (T k).1 (T k).2.1 (T k).2.2.1 = some x → s.fieldFound? ref (T k).2.1 (T k).2.2.1 = some x) (hv : fs[k]? = some v) (hdg : decode cc pc = .ok (.getfield index, 3))
    (kk : W p l e R s m args below meth c H locs cells slots Q (F0 m (pc + 3) ls (v :: rest))) : W p l e R s m args below meth c H locs cells slots Q (F0 m pc ls (.ref (ad q) :: rest)) := by
  obtain ⟨k0, hk0⟩ := wl_get (ad := ad) (g := g) (X := X) hq
  rw [hg] at hk0
  exact va_get hexec hb hts hin hown hK hw.1 k0 hk0 hc k hk hlink hsame hv hdg kk
theorem yr_getN (hexec : p.tables.exec = Jvm.exec) (hb : c.code = cc) {own ref C host : String} {T : u_T} {N ci index : Nat} {Ts : List Cond} {fs : List Value} {v : Value} (hts : ∀ w ∈ Ts, w.before args s = true) (hin : ∀ w ∈ u_ws C T N, w ∈ Ts) (hown : s.vm.findClass own = some m.cls) (hK : va_K D cl tys s) (hw : yH D cl A H0 H locs (wl ad LL g ++ X)) (hq : q ∈ LL) (hg : g q = .inr (ci, fs)) (hc : cl[ci]? = some (C, T, N)) (k : Nat) (hk : k < N) (hlink : (Cond.fieldLinkNest own index ref (T k).2.1 (T k).2.2.1 host).before args s = true) (hsame : ∀ x, s.fieldFound? (T k).1 (T k).2.1 (T k).2.2.1 = some x → s.fieldFound? ref (T k).2.1 (T k).2.2.1 = some x) (hv : fs[k]? = some v) (hdg : decode cc pc = .ok (.getfield index, 3))
    (kk : W p l e R s m args below meth c H locs cells slots Q (F0 m (pc + 3) ls (v :: rest))) : W p l e R s m args below meth c H locs cells slots Q (F0 m pc ls (.ref (ad q) :: rest)) := by
  obtain ⟨k0, hk0⟩ := wl_get (ad := ad) (g := g) (X := X) hq
  rw [hg] at hk0
  exact va_getN hexec hb hts hin hown hK hw.1 k0 hk0 hc k hk hlink hsame hv hdg kk
theorem yr_put (hexec : p.tables.exec = Jvm.exec) (hb : c.code = cc) {own ref C : String} {T : u_T} {N ci index : Nat} {Ts : List Cond} {fs : List Value} {ty : FieldType} {v : Value} (hts : ∀ w ∈ Ts, w.before args s = true) (hin : ∀ w ∈ u_ws C T N, w ∈ Ts) (ty0 : Nat → FieldType) (hty : ∀ k, k < N → parseFieldDescriptor (T k).2.2.1 = some (ty0 k)) (hnm : ∀ a, a < N → ∀ b, b < N → a ≠ b → (T a).2.1 ≠ (T b).2.1) (hown : s.vm.findClass own = some m.cls) (hK : va_K D cl tys s) (hw : yH D cl A H0 H locs (wl ad LL g ++ X)) (hq : q ∈ LL) (hg : g q = .inr (ci, fs)) (hc : cl[ci]? = some (C, T, N)) (k : Nat) (hk : k < N) (hlink : (Cond.fieldLink own index ref (T k).2.1 (T k).2.2.1).before args s = true) (hsame : ∀ x, s.fieldFound? (T k).1 (T k).2.1 (T k).2.2.1 = some x → s.fieldFound? ref (T k).2.1 (T k).2.2.1 = some x) (hfin : (T k).2.2.2 = false) (hd : parseFieldDescriptor (T k).2.2.1 = some ty) (hn : narrow ty v = v) (hfit : fits ty v = true) (hl : k < fs.length) (hdg : decode cc pc = .ok (.putfield index, 3))
    (kk : ∀ (H1 : Heap) (locs1 : List Loc), yH D cl A H0 H1 locs1 (wl ad LL (yu g q (.inr (ci, fs.set k v))) ++ X) → W p l e R s m args below meth c H1 locs1 cells slots Q (F0 m (pc + 3) ls rest)) : W p l e R s m args below meth c H locs cells slots Q (F0 m pc ls (v :: .ref (ad q) :: rest)) := by
  obtain ⟨k0, hk0⟩ := wl_get (ad := ad) (g := g) (X := X) hq
  rw [hg] at hk0
  refine va_put hexec hb hts hin ty0 hty hnm hown hK hw.1 hw.2.1 hw.2.2 k0 hk0 hc k hk hlink hsame hfin hd hn hfit hl hdg (fun H1 locs1 hP hD hS => kk H1 locs1 ?_)
  rw [wl_set hw.2.1 hq hk0] at hP hD
  exact ⟨hP, hD, hS⟩
theorem yr_putF (hexec : p.tables.exec = Jvm.exec) (hb : c.code = cc) {own ref C : String} {T : u_T} {N ci index : Nat} {Ts : List Cond} {fs : List Value} {ty : FieldType} {v : Value} (hts : ∀ w ∈ Ts, w.before args s = true) (hin : ∀ w ∈ u_ws C T N, w ∈ Ts) (ty0 : Nat → FieldType) (hty : ∀ k, k < N → parseFieldDescriptor (T k).2.2.1 = some (ty0 k)) (hnm : ∀ a, a < N → ∀ b, b < N → a ≠ b → (T a).2.1 ≠ (T b).2.1) (hown : s.vm.findClass own = some m.cls) (hK : va_K D cl tys s) (hw : yH D cl A H0 H locs (wl ad LL g ++ X)) (hq : q ∈ LL) (hg : g q = .inr (ci, fs)) (hc : cl[ci]? = some (C, T, N)) (k : Nat) (hk : k < N) (hlink : (Cond.fieldLink own index ref (T k).2.1 (T k).2.2.1).before args s = true) (hsame : ∀ x, s.fieldFound? (T k).1 (T k).2.1 (T k).2.2.1 = some x → s.fieldFound? ref (T k).2.1 (T k).2.2.1 = some x) (hfin : (T k).2.2.2 = true) (hin2 : meth.name = "<init>") (hdecl : (T k).1 = own) (hd : parseFieldDescriptor (T k).2.2.1 = some ty) (hn : narrow ty v = v) (hfit : fits ty v = true) (hl : k < fs.length) (hdg : decode cc pc = .ok (.putfield index, 3))
    (kk : ∀ (H1 : Heap) (locs1 : List Loc), yH D cl A H0 H1 locs1 (wl ad LL (yu g q (.inr (ci, fs.set k v))) ++ X) → W p l e R s m args below meth c H1 locs1 cells slots Q (F0 m (pc + 3) ls rest)) : W p l e R s m args below meth c H locs cells slots Q (F0 m pc ls (v :: .ref (ad q) :: rest)) := by
  obtain ⟨k0, hk0⟩ := wl_get (ad := ad) (g := g) (X := X) hq
  rw [hg] at hk0
  refine va_putF hexec hb hts hin ty0 hty hnm hown hK hw.1 hw.2.1 hw.2.2 k0 hk0 hc k hk hlink hsame hfin hin2 hdecl hd hn hfit hl hdg (fun H1 locs1 hP hD hS => kk H1 locs1 ?_)
  rw [wl_set hw.2.1 hq hk0] at hP hD
  exact ⟨hP, hD, hS⟩
theorem yr_iald (hexec : p.tables.exec = Jvm.exec) (hb : c.code = cc) {cA : ClassId} {n : Nat} {f : Nat → Int32} {i : Int32} {v : Int32} (hK : va_K D cl tys s) (hw : yH D cl A H0 H locs (wl ad LL g ++ X)) (hq : q ∈ LL) (hg : g q = .inl (cA, n, .inl f)) (t0 : Nat) (ht : tys[t0]? = some (cA, .int)) (hin : vp_in i n) (hv : f i.toNatClampNeg = v) (hdg : decode cc pc = .ok (.iaload, 1))
    (kk : W p l e R s m args below meth c H locs cells slots Q (F0 m (pc + 1) ls (.int v :: rest))) : W p l e R s m args below meth c H locs cells slots Q (F0 m pc ls (.int i :: .ref (ad q) :: rest)) := by
  obtain ⟨k0, hk0⟩ := wl_get (ad := ad) (g := g) (X := X) hq
  rw [hg] at hk0
  subst hv
  exact va_iald hexec hb hK hw.1 k0 t0 hk0 ht hin hdg kk
theorem yr_iast (hexec : p.tables.exec = Jvm.exec) (hb : c.code = cc) {cA : ClassId} {n : Nat} {f : Nat → Int32} {i x : Int32} (hK : va_K D cl tys s) (hw : yH D cl A H0 H locs (wl ad LL g ++ X)) (hq : q ∈ LL) (hg : g q = .inl (cA, n, .inl f)) (t0 : Nat) (ht : tys[t0]? = some (cA, .int)) (hin : vp_in i n) (hdg : decode cc pc = .ok (.iastore, 1))
    (kk : ∀ (H1 : Heap) (locs1 : List Loc), yH D cl A H0 H1 locs1 (wl ad LL (yu g q (.inl (cA, n, .inl (upd f i.toNatClampNeg x)))) ++ X) → W p l e R s m args below meth c H1 locs1 cells slots Q (F0 m (pc + 1) ls rest)) : W p l e R s m args below meth c H locs cells slots Q (F0 m pc ls (.int x :: .int i :: .ref (ad q) :: rest)) := by
  obtain ⟨k0, hk0⟩ := wl_get (ad := ad) (g := g) (X := X) hq
  rw [hg] at hk0
  refine va_iast hexec hb hK hw.1 hw.2.1 hw.2.2 k0 t0 hk0 ht hin hdg (fun H1 locs1 hP hD hS => kk H1 locs1 ?_)
  rw [wl_set hw.2.1 hq hk0] at hP hD
  exact ⟨hP, hD, hS⟩
theorem yr_aldq (hexec : p.tables.exec = Jvm.exec) (hb : c.code = cc) {cA : ClassId} {C : String} {n : Nat} {f : Nat → Option Nat} {i : Int32} {v : Value} (hK : va_K D cl tys s) (hw : yH D cl A H0 H locs (wl ad LL g ++ X)) (hq : q ∈ LL) (hg : g q = .inl (cA, n, .inr (.inr (.inr (.inr f))))) (t0 : Nat) (ht : tys[t0]? = some (cA, .object C)) (hin : vp_in i n) (hv : va_rf (f i.toNatClampNeg) = v) (hdg : decode cc pc = .ok (.aaload, 1))
    (kk : W p l e R s m args below meth c H locs cells slots Q (F0 m (pc + 1) ls (v :: rest))) : W p l e R s m args below meth c H locs cells slots Q (F0 m pc ls (.int i :: .ref (ad q) :: rest)) := by
  obtain ⟨k0, hk0⟩ := wl_get (ad := ad) (g := g) (X := X) hq
  rw [hg] at hk0
  subst hv
  exact va_aldq hexec hb hK hw.1 k0 t0 hk0 ht hin hdg kk
theorem yr_astq (hexec : p.tables.exec = Jvm.exec) (hb : c.code = cc) {cA : ClassId} {r : vw_C} {n ci : Nat} {vs : List Value} {f : Nat → Option Nat} {i : Int32} {q2 : yl} (hK : va_K D cl tys s) (hw : yH D cl A H0 H locs (wl ad LL g ++ X)) (hq : q ∈ LL) (hg : g q = .inl (cA, n, .inr (.inr (.inr (.inr f))))) (t0 : Nat) (ht : tys[t0]? = some (cA, .object r.1)) (hq2 : q2 ∈ LL) (hg2 : g q2 = .inr (ci, vs)) (hc : cl[ci]? = some r) (hin : vp_in i n) (hdg : decode cc pc = .ok (.aastore, 1))
    (kk : ∀ (H1 : Heap) (locs1 : List Loc), yH D cl A H0 H1 locs1 (wl ad LL (yu g q (.inl (cA, n, .inr (.inr (.inr (.inr (va_up f i.toNatClampNeg (some (ad q2))))))))) ++ X) → W p l e R s m args below meth c H1 locs1 cells slots Q (F0 m (pc + 1) ls rest)) : W p l e R s m args below meth c H locs cells slots Q (F0 m pc ls (.ref (ad q2) :: .int i :: .ref (ad q) :: rest)) := by
  obtain ⟨k0, hk0⟩ := wl_get (ad := ad) (g := g) (X := X) hq
  obtain ⟨k2, hk2⟩ := wl_get (ad := ad) (g := g) (X := X) hq2
  rw [hg] at hk0
  rw [hg2] at hk2
  refine va_astq hexec hb hK hw.1 hw.2.1 hw.2.2 k0 t0 k2 ci hk0 ht hk2 hc hin hdg (fun H1 locs1 hP hD hS => kk H1 locs1 ?_)
  rw [wl_set hw.2.1 hq hk0] at hP hD
  exact ⟨hP, hD, hS⟩
theorem yr_alen (hexec : p.tables.exec = Jvm.exec) (hb : c.code = cc) {cA : ClassId} {x : vp_A} {ty : FieldType} {v : Int32} (hK : va_K D cl tys s) (hw : yH D cl A H0 H locs (wl ad LL g ++ X)) (hq : q ∈ LL) (hg : g q = .inl (cA, x)) (t0 : Nat) (ht : tys[t0]? = some (cA, ty)) (hv : Int32.ofNat x.1 = v) (hdg : decode cc pc = .ok (.arraylength, 1))
    (kk : W p l e R s m args below meth c H locs cells slots Q (F0 m (pc + 1) ls (.int v :: rest))) : W p l e R s m args below meth c H locs cells slots Q (F0 m pc ls (.ref (ad q) :: rest)) := by
  obtain ⟨k0, hk0⟩ := wl_get (ad := ad) (g := g) (X := X) hq
  rw [hg] at hk0
  exact va_alen hexec hb hK hw.1 k0 t0 hk0 ht hv hdg kk
end YR
end
section
/-! CONTRACTS OVER SUCH WORLDS: no frame rule is needed at a call, for the callee gets the whole world -/
/-- a static array that nobody writes -/
def yZ (z : String × String × Nat × (Nat → Value)) (A : Nat → Prop) (U : State) (H : Heap) : Prop := ∃ t : Nat, va_Z z.1 z.2.1 "[I" (.ref t) A U H ∧ va_T .int t z.2.2.1 z.2.2.2 A U H
/-- the tables' side: classes, array classes (also by their names), static arrays; all that lies below b0 isn't ours -/
def yK (D : va_G) (cl : List vw_C) (tys : List (ClassId × FieldType)) (zs : List (String × String × Nat × (Nat → Value))) (b0 : Nat) (U : State) : Prop :=
  va_K D cl tys U ∧ (∀ x ∈ tys, U.vm.findClass ("[" ++ x.2.toString) = some x.1) ∧ ∀ z ∈ zs, yZ z (fun q => b0 ≤ q) U U.heap
theorem yK.now {D : va_G} {cl : List vw_C} {tys : List (ClassId × FieldType)} {zs : List (String × String × Nat × (Nat → Value))} {b0 : Nat} {A : Nat → Prop} {s U : State} {H : Heap} {locs : List Loc} (hK : yK D cl tys zs b0 s) (hS : va_S A s.heap H locs) (hAb : ∀ q, A q → b0 ≤ q) (hU : U.heap = H) (hvm : s.vm.Alike U.vm) : yK D cl tys zs b0 U := by
  have hk : ∀ a : Nat, a < s.heap.size → ¬ (fun q : Nat => b0 ≤ q) a → U.heap[a]? = s.heap[a]? := fun a h1 h2 => by
    rw [hU]
    exact hS.2.1 a h1 (fun h => h2 (hAb a h))
  refine ⟨va_K.moved hvm hK.1, fun x hx => by rw [hvm.findClass]; exact hK.2.1 x hx, fun z hz => ?_⟩
  obtain ⟨t, h1, h2⟩ := hK.2.2 z hz
  exact ⟨t, (h1.kept hk).moved hvm, (h2.kept hk).moved hvm⟩
def yPre (D : va_G) (cl : List vw_C) (tys : List (ClassId × FieldType)) (zs : List (String × String × Nat × (Nat → Value))) (b0 : Nat) (av : List Value) (ws : va_W) (sz : Nat) : Array Value → State → Prop :=
  va_Pc av (fun U => U.heap.size = sz ∧ va_P D cl ws U.heap ∧ yK D cl tys zs b0 U ∧ va_D (fun q => b0 ≤ q) ws ∧ b0 ≤ sz)
abbrev yB {S : Type} (D : va_G) (cl : List vw_C) (ws : va_W) (sz : Nat) (w' : S → va_W) : S → State → Prop := fun u t => va_P D cl (w' u) t.heap ∧ va_D (va_A ws sz) (w' u)
theorem yPre.blind {D : va_G} {cl : List vw_C} {tys : List (ClassId × FieldType)} {zs : List (String × String × Nat × (Nat → Value))} {b0 : Nat} {av : List Value} {ws : va_W} {sz : Nat} : FrameBlind (yPre D cl tys zs b0 av ws sz) := by
  intro a U g mk q
  obtain ⟨q0, q1, q2, q3, q4⟩ := q
  exact ⟨q0, q1, q2, ⟨va_K.moved (u := U) (U := U.calling g mk a) (Vm.Alike.refl U.vm) q3.1, q3.2.1, fun z hz => by
    obtain ⟨t, h1, h2⟩ := q3.2.2 z hz
    exact ⟨t, h1.moved (u := U) (U := U.calling g mk a) (Vm.Alike.refl U.vm), h2.moved (u := U) (U := U.calling g mk a) (Vm.Alike.refl U.vm)⟩⟩, q4⟩
/-- what holds in a body, all in one -/
def yIn (p : Program) (s : State) (m : MethodId) (meth : Method) (c : Code) (cc : ByteArray) (ret : Option FieldType) (maxL : Nat) (Ts : List Cond) (args : Array Value) (own nm : String) (D : va_G) (cl : List vw_C) (tys : List (ClassId × FieldType)) (zs : List (String × String × Nat × (Nat → Value))) (b0 : Nat) (A : Nat → Prop) : Prop :=
  p.tables.exec = Jvm.exec ∧ c.code = cc ∧ meth.sig.returnType = ret ∧ c.maxLocals = maxL ∧ (∀ w ∈ Ts, w.before args s = true) ∧ s.vm.findClass own = some m.cls ∧ meth.locks = false ∧ meth.name = nm ∧ yK D cl tys zs b0 s ∧ (∀ q, A q → b0 ≤ q) ∧ b0 ≤ s.heap.size ∧ (∀ q, s.heap.size ≤ q → A q)
section YC
variable {p : Program} {l : Launch} {e : Env} {R : Room} {s : State} {m : MethodId} {args : Array Value} {below : List Frame} {meth : Method} {c : Code} {H : Heap} {locs : List Loc} {cells slots : Nat} {Q : State → Prop}
variable {cc : ByteArray} {ret : Option FieldType} {maxL : Nat} {Ts : List Cond} {own nm : String} {D : va_G} {cl : List vw_C} {tys : List (ClassId × FieldType)} {zs : List (String × String × Nat × (Nat → Value))} {b0 : Nat} {A : Nat → Prop}
theorem y_ofW {y : MethodName} {ws ws' : List Cond} {rm : Room} {av : List Value} {wv : va_W} {sz mc ms : Nat} {Qc : Array Value → State → Outcome → State → Prop} (hy : plainName y.cls = true) (hw : ws = Cond.code y cc maxL ret :: ws') (hlen : (lg_sl av).length ≤ maxL)
    (body : ∀ (p : Program) (e : Env) (s : State) (m : MethodId) (below : List Frame) (meth : Method) (c : Code) (ls : Array Slot), yIn p s m meth c cc ret maxL ws av.toArray y.cls y.name D cl tys zs b0 (va_A wv sz) → s.heap.size = sz → yH D cl (va_A wv sz) s.heap s.heap [] wv → lv_has ls maxL (lv_args 0 av) →
      W p l e (headSpec ws rm).room s m av.toArray below meth c s.heap [] 0 0 (MQ below Qc av.toArray s mc ms (va_A wv sz)) (F0 m 0 ls [])) : Met l y ws rm (yPre D cl tys zs b0 av wv sz) Qc mc ms (va_A wv sz) := by
  refine Met.ofW (cc := cc) (maxL := maxL) (ret := ret) hy hw ?_
  intro p e s m args below meth c s₁ B hml hv
  obtain ⟨rfl, hsz, hP, hK, hD0, hb0⟩ := hv
  have hts := atoms_spec (ws := ws) B.pre
  have hown : s.vm.findClass y.cls = some m.cls := findClass_of_methodNamed B.named
  have hnm : meth.name = y.name := (name_of_methodNamed B.named B.method).1
  subst hsz
  have hD := hD0.self (sz := s.heap.size)
  have hl := lv_entry av (n := maxL) hlen
  rw [lg_entry_eq]
  refine body p e s m below meth c _ ⟨B.exec, B.bytes, B.returns, hml, hts, hown, B.notSynchronized, hnm, hK, fun q hq => ?_, hb0, fun q h => Or.inr h⟩ rfl ⟨hP, hD, va_S.rf⟩ hl
  rcases hq with ⟨k, e0, hk⟩ | h
  · exact hD0.2 k _ hk
  · exact Nat.le_trans hb0 h
theorem y_preV {C : String} {b : Nat} {As : List Value} {ws : va_W} (hI : yIn p s m meth c cc ret maxL Ts args own nm D cl tys zs b0 A) (hw : yH D cl A s.heap H locs ws) (hr : ∃ cellB : Cell, H[b]? = some cellB ∧ cellB.vm.isStatics = false ∧ s.vm.findClass C = some cellB.cls) : PreV s H C b (yPre D cl tys zs b0 (.ref b :: As) ws H.size) As := by
  obtain ⟨-, -, -, -, -, -, -, -, hK, hAb, hb0, -⟩ := hI
  exact ⟨yPre.blind, hr, fun U hU hW => ⟨rfl, by rw [hU], by rw [hU]; exact hw.1, hK.now hw.2.2 hAb hU hW.alike, hw.2.1.weaken (fun _ _ _ h => hAb _ h), Nat.le_trans hb0 hw.2.2.1⟩⟩
theorem y_preS {As : List Value} {ws : va_W} (hI : yIn p s m meth c cc ret maxL Ts args own nm D cl tys zs b0 A) (hw : yH D cl A s.heap H locs ws) : PreS s H (yPre D cl tys zs b0 As ws H.size) As := by
  obtain ⟨-, -, -, -, -, -, -, -, hK, hAb, hb0, -⟩ := hI
  exact ⟨yPre.blind, fun U hU hW => ⟨rfl, by rw [hU], by rw [hU]; exact hw.1, hK.now hw.2.2 hAb hU hW.alike, hw.2.1.weaken (fun _ _ _ h => hAb _ h), Nat.le_trans hb0 hw.2.2.1⟩⟩
theorem y_recv {ad : yl → Nat} {LL : List yl} {g : yl → va_E} {X : va_W} {q : yl} {ci : Nat} {r : vw_C} {fs : List Value} (hK : va_K D cl tys s) (hw : yH D cl A s.heap H locs (wl ad LL g ++ X)) (hq : q ∈ LL) (hg : g q = .inr (ci, fs)) (hc : cl[ci]? = some r) : ∃ cellB : Cell, H[ad q]? = some cellB ∧ cellB.vm.isStatics = false ∧ s.vm.findClass r.1 = some cellB.cls := by
  obtain ⟨k0, hk0⟩ := wl_get (ad := ad) (g := g) (X := X) hq
  rw [hg] at hk0
  exact va_recv hK hw.1 hc hk0
theorem y_free {ws : va_W} {H0 : Heap} (hA : ∀ q, H0.size ≤ q → A q) (hw : yH D cl A H0 H locs ws) : ∀ q, va_A ws H.size q → A q := by
  intro q hq
  rcases hq with ⟨k, e0, hk⟩ | h
  · exact hw.2.1.2 k _ hk
  · exact hA q (Nat.le_trans hw.2.2.1 h)
variable {pc : Nat} {ls : Array Slot} {st0 rest : List Value} {mc ms : Nat} {a : Array Value} {ws : va_W} {H0 : Heap}
theorem yc_i {S : Type} {post : Int32 → S → Prop} {w' : S → va_W} (hr : va_Run p l e R s m args below meth c H locs cells slots mc ms (F0 m pc ls st0) rest (va_Qi post (yB D cl ws H.size w') (va_A ws H.size) a) (va_A ws H.size)) (hw : yH D cl A H0 H locs ws) (hA : ∀ q, H0.size ≤ q → A q)
    (kk : ∀ (r : Int32) (u : S) (H1 : Heap) (locs1 : List Loc), post r u → yH D cl A H0 H1 locs1 (w' u) → W p l e R s m args below meth c H1 locs1 (cells + mc) (slots + ms) Q (F0 m (pc + 3) ls (.int r :: rest))) : W p l e R s m args below meth c H locs cells slots Q (F0 m pc ls st0) := by
  have hF := y_free hA hw
  refine va_calli hr hw.2.2 (fun q _ h => hF q h) hF (fun r u t H1 locs1 ht hvm hp hB hz hk hS => kk r u H1 locs1 hp ⟨by rw [← ht]; exact hB.1, hB.2.weaken (fun _ _ _ h => hF _ h), hS⟩)
theorem yc_l {S : Type} {post : Int64 → S → Prop} {w' : S → va_W} (hr : va_Run p l e R s m args below meth c H locs cells slots mc ms (F0 m pc ls st0) rest (va_Ql post (yB D cl ws H.size w') (va_A ws H.size) a) (va_A ws H.size)) (hw : yH D cl A H0 H locs ws) (hA : ∀ q, H0.size ≤ q → A q)
    (kk : ∀ (r : Int64) (u : S) (H1 : Heap) (locs1 : List Loc), post r u → yH D cl A H0 H1 locs1 (w' u) → W p l e R s m args below meth c H1 locs1 (cells + mc) (slots + ms) Q (F0 m (pc + 3) ls (.long r :: rest))) : W p l e R s m args below meth c H locs cells slots Q (F0 m pc ls st0) := by
  have hF := y_free hA hw
  refine va_calll hr hw.2.2 (fun q _ h => hF q h) hF (fun r u t H1 locs1 ht hvm hp hB hz hk hS => kk r u H1 locs1 hp ⟨by rw [← ht]; exact hB.1, hB.2.weaken (fun _ _ _ h => hF _ h), hS⟩)
theorem yc_v {S : Type} {post : S → Prop} {w' : S → va_W} (hr : va_Run p l e R s m args below meth c H locs cells slots mc ms (F0 m pc ls st0) rest (va_Qv post (yB D cl ws H.size w') (va_A ws H.size) a) (va_A ws H.size)) (hw : yH D cl A H0 H locs ws) (hA : ∀ q, H0.size ≤ q → A q)
    (kk : ∀ (u : S) (H1 : Heap) (locs1 : List Loc), post u → yH D cl A H0 H1 locs1 (w' u) → W p l e R s m args below meth c H1 locs1 (cells + mc) (slots + ms) Q (F0 m (pc + 3) ls rest)) : W p l e R s m args below meth c H locs cells slots Q (F0 m pc ls st0) := by
  have hF := y_free hA hw
  refine va_callv hr hw.2.2 (fun q _ h => hF q h) hF (fun u t H1 locs1 ht hvm hp hB hz hk hS => kk u H1 locs1 hp ⟨by rw [← ht]; exact hB.1, hB.2.weaken (fun _ _ _ h => hF _ h), hS⟩)
theorem yc_q {S : Type} {post : Option Nat → S → Prop} {w' : S → va_W} (hr : va_Run p l e R s m args below meth c H locs cells slots mc ms (F0 m pc ls st0) rest (va_Qq post (yB D cl ws H.size w') (va_A ws H.size) a) (va_A ws H.size)) (hw : yH D cl A H0 H locs ws) (hA : ∀ q, H0.size ≤ q → A q)
    (kk : ∀ (r : Option Nat) (u : S) (H1 : Heap) (locs1 : List Loc), post r u → yH D cl A H0 H1 locs1 (w' u) → W p l e R s m args below meth c H1 locs1 (cells + mc) (slots + ms) Q (F0 m (pc + 3) ls (va_rf r :: rest))) : W p l e R s m args below meth c H locs cells slots Q (F0 m pc ls st0) := by
  have hF := y_free hA hw
  refine va_callq hr hw.2.2 (fun q _ h => hF q h) hF (fun r u t H1 locs1 ht hvm hp hB hz hk hS => kk r u H1 locs1 hp ⟨by rw [← ht]; exact hB.1, hB.2.weaken (fun _ _ _ h => hF _ h), hS⟩)
/-- the ends -/
theorem ye_i {S : Type} {post : Int32 → S → Prop} {w' : S → va_W} {wv : va_W} {sz : Nat} {v : Int32} (hI : yIn p s m meth c cc (some .int) maxL Ts args own nm D cl tys zs b0 (va_A wv sz)) (u : S) (hp : post v u) (hw : yH D cl (va_A wv sz) s.heap H locs (w' u)) (hdg : decode cc pc = .ok (.ireturn, 1)) : W p l e R s m args below meth c H locs cells slots (MQ below (va_Qi post (yB D cl wv sz w') (va_A wv sz)) args s cells slots (va_A wv sz)) (F0 m pc ls [.int v]) := by
  obtain ⟨hx, hb, hr, -, -, -, hlocks, -⟩ := hI
  exact W.iret hx hb hr (fun t ht hW => ⟨⟨v, u, rfl, hp, by rw [ht]; exact hw.1, hw.2.1⟩, hw.2.2.F ht⟩) hw.2.2.2.2 hdg hlocks
theorem ye_z {S : Type} {post : Int32 → S → Prop} {w' : S → va_W} {wv : va_W} {sz : Nat} {v : Int32} (hI : yIn p s m meth c cc (some .boolean) maxL Ts args own nm D cl tys zs b0 (va_A wv sz)) (hn : narrow .boolean (.int v) = .int v) (u : S) (hp : post v u) (hw : yH D cl (va_A wv sz) s.heap H locs (w' u)) (hdg : decode cc pc = .ok (.ireturn, 1)) : W p l e R s m args below meth c H locs cells slots (MQ below (va_Qi post (yB D cl wv sz w') (va_A wv sz)) args s cells slots (va_A wv sz)) (F0 m pc ls [.int v]) := by
  obtain ⟨hx, hb, hr, -, -, -, hlocks, -⟩ := hI
  exact W.zret hx hb hr hn (fun t ht hW => ⟨⟨v, u, rfl, hp, by rw [ht]; exact hw.1, hw.2.1⟩, hw.2.2.F ht⟩) hw.2.2.2.2 hdg hlocks
theorem ye_l {S : Type} {post : Int64 → S → Prop} {w' : S → va_W} {wv : va_W} {sz : Nat} {v : Int64} (hI : yIn p s m meth c cc (some .long) maxL Ts args own nm D cl tys zs b0 (va_A wv sz)) (u : S) (hp : post v u) (hw : yH D cl (va_A wv sz) s.heap H locs (w' u)) (hdg : decode cc pc = .ok (.lreturn, 1)) : W p l e R s m args below meth c H locs cells slots (MQ below (va_Ql post (yB D cl wv sz w') (va_A wv sz)) args s cells slots (va_A wv sz)) (F0 m pc ls [.long v]) := by
  obtain ⟨hx, hb, hr, -, -, -, hlocks, -⟩ := hI
  exact W.lret hx hb hr (fun t ht hW => ⟨⟨v, u, rfl, hp, by rw [ht]; exact hw.1, hw.2.1⟩, hw.2.2.F ht⟩) hw.2.2.2.2 hdg hlocks
theorem ye_v {S : Type} {post : S → Prop} {w' : S → va_W} {wv : va_W} {sz : Nat} (hI : yIn p s m meth c cc none maxL Ts args own nm D cl tys zs b0 (va_A wv sz)) (u : S) (hp : post u) (hw : yH D cl (va_A wv sz) s.heap H locs (w' u)) (hdg : decode cc pc = .ok (.return_, 1)) : W p l e R s m args below meth c H locs cells slots (MQ below (va_Qv post (yB D cl wv sz w') (va_A wv sz)) args s cells slots (va_A wv sz)) (F0 m pc ls []) := by
  obtain ⟨hx, hb, hr, -, -, -, hlocks, -⟩ := hI
  exact W.vret hx hb hr (fun t ht hW => ⟨⟨u, rfl, hp, by rw [ht]; exact hw.1, hw.2.1⟩, hw.2.2.F ht⟩) hw.2.2.2.2 hdg hlocks
theorem ye_q {S : Type} {post : Option Nat → S → Prop} {w' : S → va_W} {wv : va_W} {sz : Nat} {C : String} (r : Option Nat) {v : Value} (hv : v = va_rf r) (hI : yIn p s m meth c cc (some (.object C)) maxL Ts args own nm D cl tys zs b0 (va_A wv sz)) (u : S) (hp : post r u) (hw : yH D cl (va_A wv sz) s.heap H locs (w' u)) (hdg : decode cc pc = .ok (.areturn, 1)) : W p l e R s m args below meth c H locs cells slots (MQ below (va_Qq post (yB D cl wv sz w') (va_A wv sz)) args s cells slots (va_A wv sz)) (F0 m pc ls [v]) := by
  obtain ⟨hx, hb, hr, -, -, -, hlocks, -⟩ := hI
  subst hv
  exact W.aret hx hb hr (Or.inl ⟨C, rfl⟩) (va_rf_or r) (fun t ht hW => ⟨⟨r, u, rfl, hp, by rw [ht]; exact hw.1, hw.2.1⟩, hw.2.2.F ht⟩) hw.2.2.2.2 hdg hlocks
end YC
end
