/-! RUN: one behind the other, drawn by a seed -/
def yp_rdy (T : yp_T) (d : yp_D) (n : Nat) : List Nat := (List.range n).filter (fun i => yp_canb T d i)
theorem yp_rdy_0 (T : yp_T) (d : yp_D) : yp_rdy T d 0 = [] := rfl
theorem yp_rdy_s (T : yp_T) (d : yp_D) (n : Nat) : yp_rdy T d (n + 1) = yp_rdy T d n ++ (if yp_canb T d n = true then [n] else []) := by
  unfold yp_rdy
  rw [List.range_succ, List.filter_append]
  congr 1
  by_cases h : yp_canb T d n = true
  · rw [if_pos h, List.filter_cons_of_pos (by simpa using h)]; rfl
  · rw [if_neg h, List.filter_cons_of_neg (by simpa using h)]; rfl
theorem yp_rdy_in {T : yp_T} {d : yp_D} {n i : Nat} (h : i ∈ yp_rdy T d n) : i < n ∧ yp_canb T d i = true := by
  unfold yp_rdy at h
  obtain ⟨h1, h2⟩ := List.mem_filter.mp h
  exact ⟨List.mem_range.mp h1, by simpa using h2⟩
theorem yp_rdy_le (T : yp_T) (d : yp_D) (n : Nat) : (yp_rdy T d n).length ≤ n := by
  have h := List.length_filter_le (fun i => yp_canb T d i) (List.range n)
  rw [List.length_range] at h
  exact h
theorem yp_rdy_nil {T : yp_T} {d : yp_D} (h : yp_rdy T d (yp_n T) = []) : yp_norm T d := by
  intro i hi
  cases e : yp_canb T d i with
  | false => rfl
  | true =>
    have : i ∈ yp_rdy T d (yp_n T) := by
      unfold yp_rdy
      exact List.mem_filter.mpr ⟨List.mem_range.mpr hi, by simpa using e⟩
    rw [h] at this
    cases this
/-- x's next value, and the place that it draws out of n -/
def yp_nx (x : Int64) : Int64 := x * 6364136223846793005 + 1442695040888963407
def yp_ix (x : Int64) (n : Nat) : Nat := x.toBitVec.toNat / 8589934592 % n
theorem yp_ix_lt (x : Int64) {n : Nat} (h : 0 < n) : yp_ix x n < n := Nat.mod_lt _ h
def yp_dr (T : yp_T) (d : yp_D) (x : Int64) : Nat := (yp_rdy T d (yp_n T)).getD (yp_ix x (yp_rdy T d (yp_n T)).length) 0
def yp_run (T : yp_T) : Nat → Int64 → yp_D → yp_D × Nat
  | 0, _, d => (d, 0)
  | k + 1, x, d => if yp_rdy T d (yp_n T) = [] then (d, 0) else ((yp_run T k (yp_nx x) (yp_act T d (yp_dr T d (yp_nx x)))).1, (yp_run T k (yp_nx x) (yp_act T d (yp_dr T d (yp_nx x)))).2 + 1)
theorem yp_dr_ok {T : yp_T} {d : yp_D} {x : Int64} (h : yp_rdy T d (yp_n T) ≠ []) : yp_dr T d x < yp_n T ∧ yp_canb T d (yp_dr T d x) = true := by
  unfold yp_dr
  have hl : 0 < (yp_rdy T d (yp_n T)).length := List.length_pos_iff.mpr h
  have hx := yp_ix_lt x hl
  apply yp_rdy_in (n := yp_n T)
  rw [List.getD_eq_getElem?_getD, List.getElem?_eq_getElem hx]
  exact List.getElem_mem _
theorem yp_run_path {T : yp_T} : ∀ (k : Nat) (x : Int64) (d : yp_D), ∃ m, yp_path T m d (yp_run T k x d).1
  | 0, _, d => ⟨0, rfl⟩
  | k + 1, x, d => by
    unfold yp_run
    by_cases h : yp_rdy T d (yp_n T) = []
    · rw [if_pos h]; exact ⟨0, rfl⟩
    · rw [if_neg h]
      obtain ⟨m, hm⟩ := yp_run_path k (yp_nx x) (yp_act T d (yp_dr T d (yp_nx x)))
      obtain ⟨h1, h2⟩ := yp_dr_ok (x := yp_nx x) h
      exact ⟨m + 1, _, h1, h2, hm⟩
