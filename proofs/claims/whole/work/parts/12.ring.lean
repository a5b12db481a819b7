/-! A ROW OF EIGHT AS A QUEUE -/
def yrq (r : Nat → Int32) (f n : Nat) : List Int32 := (List.range n).map (fun k => r ((f + k) % 8))
theorem yrq_len (r : Nat → Int32) (f n : Nat) : (yrq r f n).length = n := by
  unfold yrq; rw [List.length_map, List.length_range]
theorem yrq_get {r : Nat → Int32} {f n k : Nat} (h : k < n) : (yrq r f n)[k]? = some (r ((f + k) % 8)) := by
  unfold yrq
  rw [List.getElem?_map, List.getElem?_range h]
  rfl
theorem yrq_head {r : Nat → Int32} {f n : Nat} (h : 0 < n) : (yrq r f n).head? = some (r (f % 8)) := by
  have := yrq_get (r := r) (f := f) h
  rw [List.head?_eq_getElem?, this, Nat.add_zero]
theorem yrq_nil {r : Nat → Int32} {f : Nat} : yrq r f 0 = [] := rfl
theorem yrq_pop {r : Nat → Int32} {f n : Nat} (h : 0 < n) : yrq r ((f + 1) % 8) (n - 1) = (yrq r f n).tail := by
  apply List.ext_getElem?
  intro k
  rw [List.getElem?_tail]
  by_cases hk : k < n - 1
  · rw [yrq_get hk, yrq_get (by omega)]
    congr 2
    omega
  · rw [List.getElem?_eq_none (by rw [yrq_len]; omega), List.getElem?_eq_none (by rw [yrq_len]; omega)]
theorem yrq_push {r : Nat → Int32} {f n : Nat} {v : Int32} (h : n < 8) : yrq (upd r ((f + n) % 8) v) f (n + 1) = yrq r f n ++ [v] := by
  apply List.ext_getElem?
  intro k
  by_cases hk : k < n
  · rw [yrq_get (by omega), List.getElem?_append_left (by rw [yrq_len]; exact hk), yrq_get hk]
    have : (f + k) % 8 ≠ (f + n) % 8 := by omega
    rw [pk_un this]
  · by_cases hk2 : k = n
    · subst hk2
      rw [yrq_get (by omega), List.getElem?_append_right (by rw [yrq_len]; omega), yrq_len, Nat.sub_self, pk_us]
      rfl
    · rw [List.getElem?_eq_none (by rw [yrq_len]; omega), List.getElem?_eq_none (by rw [List.length_append, yrq_len]; simp; omega)]
theorem yrq_congr {r r' : Nat → Int32} {f n : Nat} (h : ∀ j, j < 8 → r j = r' j) : yrq r f n = yrq r' f n := by
  unfold yrq
  apply List.map_congr_left
  intro k _
  exact h _ (Nat.mod_lt _ (by omega))
/-- what was told, or kept: the first n places of a row -/
def yrw (r : Nat → Int32) (n : Nat) : List Int32 := (List.range n).map r
theorem yrw_len (r : Nat → Int32) (n : Nat) : (yrw r n).length = n := by
  unfold yrw; rw [List.length_map, List.length_range]
theorem yrw_get {r : Nat → Int32} {n k : Nat} (h : k < n) : (yrw r n)[k]? = some (r k) := by
  unfold yrw
  rw [List.getElem?_map, List.getElem?_range h]
  rfl
theorem yrw_push {r : Nat → Int32} {n : Nat} {v : Int32} : yrw (upd r n v) (n + 1) = yrw r n ++ [v] := by
  apply List.ext_getElem?
  intro k
  by_cases hk : k < n
  · rw [yrw_get (by omega), List.getElem?_append_left (by rw [yrw_len]; exact hk), yrw_get hk]
    rw [pk_un (by omega)]
  · by_cases hk2 : k = n
    · subst hk2
      rw [yrw_get (by omega), List.getElem?_append_right (by rw [yrw_len]; omega), yrw_len, Nat.sub_self, pk_us]
      rfl
    · rw [List.getElem?_eq_none (by rw [yrw_len]; omega), List.getElem?_eq_none (by rw [List.length_append, yrw_len]; simp; omega)]
theorem yrw_congr {r r' : Nat → Int32} {n : Nat} (h : ∀ j, j < n → r j = r' j) : yrw r n = yrw r' n := by
  unfold yrw
  apply List.map_congr_left
  intro k hk
  exact h k (List.mem_range.mp hk)
