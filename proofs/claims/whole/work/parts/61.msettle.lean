/-! THE REFERENCE: settle -/
theorem mdec (n : Nat) : nI n + Int32.ofInt (-1) = nI n - nI 1 := by
  rw [nI_one, Int32.sub_eq_add_neg]
  rfl
theorem mX.I {μ μ' : ms} {y z : Nat} (h : mX μ y μ') (hz : z ≠ y) (hi : mI μ z) : mI μ' z := by
  obtain ⟨h1, h2, -, -⟩ := h
  obtain ⟨c1, c2, c3, c4⟩ := h2 z hz
  obtain ⟨a1, a2, a3, a4, a5, a6, a7, a8, a9, a10⟩ := id h1
  have hT := h1.T
  unfold mI at hi ⊢
  rw [hT, a1, a2, a3, a4, a5, a6, a8, a9, a10, c1, c2, c3, c4]
  exact hi
/-- row 0's first k (and what lies beyond the row) stand in row 1 -/
def cpw (w : Nat) (f : Nat → Nat → Nat) (k : Nat) : Nat → Nat → Nat := fun y i => if y = 1 ∧ (i < k ∨ w ≤ i) then f 0 i else f y i
def cpf (w : Nat) (f : Nat → Int32) (k : Nat) : Nat → Int32 := fun j => if w ≤ j ∧ j < w + k then f (j - w) else f j
theorem cpw_0 {w k i : Nat} {f : Nat → Nat → Nat} : cpw w f k 0 i = f 0 i := if_neg (fun h => absurd h.1 (by decide))
theorem cpw_s {w k : Nat} {f : Nat → Nat → Nat} : up2 (cpw w f k) 1 k (f 0 k) = cpw w f (k + 1) := by
  funext y i
  by_cases h : y = 1 ∧ i = k
  · rw [h.1, h.2, up2_s]
    exact (if_pos ⟨rfl, Or.inl (Nat.lt_succ_self _)⟩).symm
  · rw [up2_n _ _ h]
    unfold cpw
    by_cases h2 : y = 1 ∧ (i < k ∨ w ≤ i)
    · rw [if_pos h2, if_pos ⟨h2.1, h2.2.elim (fun q => Or.inl (by omega)) Or.inr⟩]
    · rw [if_neg h2, if_neg (fun q => h2 ⟨q.1, q.2.elim (fun r => Or.inl (by
        rcases Nat.lt_or_ge i k with s | s
        · exact s
        · exact absurd ⟨q.1, by omega⟩ h)) Or.inr⟩)]
theorem cpw_1 {w : Nat} {f : Nat → Nat → Nat} : cpw w f w 1 = f 0 := funext fun i => if_pos ⟨rfl, by omega⟩
theorem cpw_n {w k y : Nat} {f : Nat → Nat → Nat} (h : y ≠ 1) : cpw w f k y = f y := funext fun i => if_neg (fun q => h q.1)
theorem cpw_z {w y i : Nat} {f : Nat → Nat → Nat} (h : i < w) : cpw w f 0 y i = f y i := if_neg (fun q => by omega)
theorem cpf_0 {w : Nat} {f : Nat → Int32} : cpf w f 0 = f := funext fun j => if_neg (fun q => by omega)
theorem cpf_r {w k : Nat} {f : Nat → Int32} (h : k < w) : cpf w f k k = f k := if_neg (fun q => by omega)
theorem cpf_s {w k : Nat} {f : Nat → Int32} : upd (cpf w f k) (w + k) (f k) = cpf w f (k + 1) := by
  funext j
  by_cases h : j = w + k
  · subst h
    rw [pk_us]
    unfold cpf
    rw [if_pos (by omega), Nat.add_sub_cancel_left]
  · rw [pk_un h]
    unfold cpf
    by_cases h2 : w ≤ j ∧ j < w + k
    · rw [if_pos h2, if_pos (by omega)]
    · rw [if_neg h2, if_neg (by omega)]
theorem cpf_in {w j : Nat} {f : Nat → Int32} (h : j < w) : cpf w f w (w + j) = f j := by
  unfold cpf
  rw [if_pos (by omega), Nat.add_sub_cancel_left]
theorem cpf_out {w k j : Nat} {f : Nat → Int32} (h : ¬ (w ≤ j ∧ j < w + k)) : cpf w f k j = f j := if_neg h
def mCp (μ : ms) (a b c d e g : Nat) (μ1 : ms) : Prop := mS μ μ1 ∧ m_ac μ1 = cpw 10 (m_ac μ) a ∧ m_tn μ1 = cpw 10 (m_tn μ) b ∧ m_kc μ1 = cpw 10 (m_kc μ) c ∧ m_kp μ1 = cpf 600 (m_kp μ) d ∧ m_ct μ1 = cpw 16 (m_ct μ) e ∧ m_vs μ1 = cpf 128 (m_vs μ) g
theorem cs_flat {w i v : Nat} {f : Nat → Nat → Nat} (hi : i < w) : upd (fun j => nI (f (j / w) (j % w))) (w + i) (nI v) = fun j => nI (up2 f 1 i v (j / w) (j % w)) := by
  have h := upd_flat (f := f) (y := 1) (v := v) hi
  rw [Nat.mul_one] at h
  exact h
section CS
variable {D : va_G} {cl : List vw_C} {A : Nat → Prop} {H0 H : Heap} {locs : List Loc} {cc : ClassId × ClassId × ClassId} {ad : yl → Nat} {X : va_W} {μ μ1 : ms} {a b c d e g i : Nat}
theorem ca_ac (hP : mCp μ a b c d e g μ1) (h : i < 10) : marr μ1 8 i = nI (m_ac μ 0 i) := by
  show nI (m_ac μ1 (i / 10) (i % 10)) = _
  rw [hP.2.1, Nat.div_eq_of_lt h, Nat.mod_eq_of_lt h, cpw_0]
theorem ca_tn (hP : mCp μ a b c d e g μ1) (h : i < 10) : marr μ1 9 i = nI (m_tn μ 0 i) := by
  show nI (m_tn μ1 (i / 10) (i % 10)) = _
  rw [hP.2.2.1, Nat.div_eq_of_lt h, Nat.mod_eq_of_lt h, cpw_0]
theorem ca_kc (hP : mCp μ a b c d e g μ1) (h : i < 10) : marr μ1 10 i = nI (m_kc μ 0 i) := by
  show nI (m_kc μ1 (i / 10) (i % 10)) = _
  rw [hP.2.2.2.1, Nat.div_eq_of_lt h, Nat.mod_eq_of_lt h, cpw_0]
theorem ca_ct (hP : mCp μ a b c d e g μ1) (h : i < 16) : marr μ1 12 i = nI (m_ct μ 0 i) := by
  show nI (m_ct μ1 (i / 16) (i % 16)) = _
  rw [hP.2.2.2.2.2.1, Nat.div_eq_of_lt h, Nat.mod_eq_of_lt h, cpw_0]
theorem ca_kp (hP : mCp μ a b c i e g μ1) (h : i < 600) : marr μ1 11 i = m_kp μ i := by
  show m_kp μ1 i = _
  rw [hP.2.2.2.2.1, cpf_r h]
theorem ca_vs (hP : mCp μ a b c d e i μ1) (h : i < 128) : marr μ1 13 i = m_vs μ i := by
  show m_vs μ1 i = _
  rw [hP.2.2.2.2.2.2, cpf_r h]
theorem cs_ac (hP : mCp μ i b c d e g μ1) (h : i < 10) (hw : yH D cl A H0 H locs (wl ad mLL (yu (mG cc μ1 ad) (21, 8, 0) (.inl (cc.1, 20, .inl (upd (marr μ1 8) (10 + i) (nI (m_ac μ 0 i)))))) ++ X)) : ∃ μ2, yH D cl A H0 H locs (mW cc ad X μ2) ∧ mCp μ (i + 1) b c d e g μ2 :=
  ⟨mx_ac μ1 (up2 (m_ac μ1) 1 i (m_ac μ 0 i)), mw_ac _ hw (congrArg (fun f => Sum.inl (cc.1, 20, Sum.inl f)) (cs_flat h)), hP.1, by
    show up2 (m_ac μ1) 1 i (m_ac μ 0 i) = _
    rw [hP.2.1, cpw_s], hP.2.2⟩
theorem cs_tn (hP : mCp μ a i c d e g μ1) (h : i < 10) (hw : yH D cl A H0 H locs (wl ad mLL (yu (mG cc μ1 ad) (21, 9, 0) (.inl (cc.1, 20, .inl (upd (marr μ1 9) (10 + i) (nI (m_tn μ 0 i)))))) ++ X)) : ∃ μ2, yH D cl A H0 H locs (mW cc ad X μ2) ∧ mCp μ a (i + 1) c d e g μ2 :=
  ⟨mx_tn μ1 (up2 (m_tn μ1) 1 i (m_tn μ 0 i)), mw_tn _ hw (congrArg (fun f => Sum.inl (cc.1, 20, Sum.inl f)) (cs_flat h)), hP.1, hP.2.1, by
    show up2 (m_tn μ1) 1 i (m_tn μ 0 i) = _
    rw [hP.2.2.1, cpw_s], hP.2.2.2⟩
theorem cs_kc (hP : mCp μ a b i d e g μ1) (h : i < 10) (hw : yH D cl A H0 H locs (wl ad mLL (yu (mG cc μ1 ad) (21, 10, 0) (.inl (cc.1, 20, .inl (upd (marr μ1 10) (10 + i) (nI (m_kc μ 0 i)))))) ++ X)) : ∃ μ2, yH D cl A H0 H locs (mW cc ad X μ2) ∧ mCp μ a b (i + 1) d e g μ2 :=
  ⟨mx_kc μ1 (up2 (m_kc μ1) 1 i (m_kc μ 0 i)), mw_kc _ hw (congrArg (fun f => Sum.inl (cc.1, 20, Sum.inl f)) (cs_flat h)), hP.1, hP.2.1, hP.2.2.1, by
    show up2 (m_kc μ1) 1 i (m_kc μ 0 i) = _
    rw [hP.2.2.2.1, cpw_s], hP.2.2.2.2⟩
theorem cs_ct (hP : mCp μ a b c d i g μ1) (h : i < 16) (hw : yH D cl A H0 H locs (wl ad mLL (yu (mG cc μ1 ad) (21, 12, 0) (.inl (cc.1, 32, .inl (upd (marr μ1 12) (16 + i) (nI (m_ct μ 0 i)))))) ++ X)) : ∃ μ2, yH D cl A H0 H locs (mW cc ad X μ2) ∧ mCp μ a b c d (i + 1) g μ2 :=
  ⟨mx_ct μ1 (up2 (m_ct μ1) 1 i (m_ct μ 0 i)), mw_ct _ hw (congrArg (fun f => Sum.inl (cc.1, 32, Sum.inl f)) (cs_flat h)), hP.1, hP.2.1, hP.2.2.1, hP.2.2.2.1, hP.2.2.2.2.1, by
    show up2 (m_ct μ1) 1 i (m_ct μ 0 i) = _
    rw [hP.2.2.2.2.2.1, cpw_s], hP.2.2.2.2.2.2⟩
theorem cs_kp (hP : mCp μ a b c i e g μ1) (h : i < 600) (hw : yH D cl A H0 H locs (wl ad mLL (yu (mG cc μ1 ad) (21, 11, 0) (.inl (cc.1, 1200, .inl (upd (marr μ1 11) (600 + i) (m_kp μ i))))) ++ X)) : ∃ μ2, yH D cl A H0 H locs (mW cc ad X μ2) ∧ mCp μ a b c (i + 1) e g μ2 :=
  ⟨mx_kp μ1 (upd (m_kp μ1) (600 + i) (m_kp μ i)), mw_kp _ hw rfl, hP.1, hP.2.1, hP.2.2.1, hP.2.2.2.1, by
    show upd (m_kp μ1) (600 + i) (m_kp μ i) = _
    rw [hP.2.2.2.2.1, cpf_s], hP.2.2.2.2.2⟩
theorem cs_vs (hP : mCp μ a b c d e i μ1) (h : i < 128) (hw : yH D cl A H0 H locs (wl ad mLL (yu (mG cc μ1 ad) (21, 13, 0) (.inl (cc.1, 256, .inl (upd (marr μ1 13) (128 + i) (m_vs μ i))))) ++ X)) : ∃ μ2, yH D cl A H0 H locs (mW cc ad X μ2) ∧ mCp μ a b c d e (i + 1) μ2 :=
  ⟨mx_vs μ1 (upd (m_vs μ1) (128 + i) (m_vs μ i)), mw_vs _ hw rfl, hP.1, hP.2.1, hP.2.2.1, hP.2.2.2.1, hP.2.2.2.2.1, hP.2.2.2.2.2.1, by
    show upd (m_vs μ1) (128 + i) (m_vs μ i) = _
    rw [hP.2.2.2.2.2.2, cpf_s]⟩
theorem mCp_start (hw : yH D cl A H0 H locs (mW cc ad X μ)) : ∃ μ1, yH D cl A H0 H locs (mW cc ad X μ1) ∧ mCp μ 0 0 0 0 0 0 μ1 := by
  refine ⟨mx_ct (mx_kc (mx_tn (mx_ac μ (cpw 10 (m_ac μ) 0)) (cpw 10 (m_tn μ) 0)) (cpw 10 (m_kc μ) 0)) (cpw 16 (m_ct μ) 0), y_same hw (fun q hq => ?_), ⟨rfl, rfl, rfl, rfl, rfl, rfl, rfl, rfl, rfl, rfl⟩, rfl, rfl, rfl, cpf_0.symm, rfl, cpf_0.symm⟩
  have z : ∀ (w : Nat) (f : Nat → Nat → Nat), 0 < w → (fun j => nI (f (j / w) (j % w))) = fun j => nI (cpw w f 0 (j / w) (j % w)) := fun w f h => funext fun j => by rw [cpw_z (Nat.mod_lt _ h)]
  simp only [mLL, List.mem_cons, List.not_mem_nil, or_false] at hq
  rcases hq with rfl | rfl | rfl | rfl | rfl | rfl | rfl | rfl | rfl | rfl | rfl | rfl | rfl | rfl | rfl
  · rfl
  · rfl
  · rfl
  · rfl
  · rfl
  · rfl
  · rfl
  · rfl
  · rfl
  · exact congrArg (fun f => Sum.inl (cc.1, 20, Sum.inl f)) (z 10 (m_ac μ) (by omega))
  · exact congrArg (fun f => Sum.inl (cc.1, 20, Sum.inl f)) (z 10 (m_tn μ) (by omega))
  · exact congrArg (fun f => Sum.inl (cc.1, 20, Sum.inl f)) (z 10 (m_kc μ) (by omega))
  · rfl
  · exact congrArg (fun f => Sum.inl (cc.1, 32, Sum.inl f)) (z 16 (m_ct μ) (by omega))
  · rfl
theorem mCp_end (hi : mI μ 0) (hP : mCp μ 10 10 10 600 16 128 μ1) : mX μ 1 μ1 ∧ mI μ1 1 ∧ m_D μ1 1 = m_D μ 0 := by
  obtain ⟨h1, h2, h3, h4, h5, h6, h7⟩ := hP
  have r1 : m_ac μ1 1 = m_ac μ 0 := by rw [h2, cpw_1]
  have r2 : m_tn μ1 1 = m_tn μ 0 := by rw [h3, cpw_1]
  have r3 : m_kc μ1 1 = m_kc μ 0 := by rw [h4, cpw_1]
  have r4 : m_ct μ1 1 = m_ct μ 0 := by rw [h6, cpw_1]
  obtain ⟨a1, a2, a3, a4, a5, a6, a7, a8, a9, a10⟩ := id h1
  refine ⟨⟨h1, fun y hy => ⟨by rw [h2, cpw_n hy], by rw [h3, cpw_n hy], by rw [h4, cpw_n hy], by rw [h6, cpw_n hy]⟩, fun j hj => by rw [h7, cpf_out (by omega)], fun j hj => by rw [h5, cpf_out (by omega)]⟩, ?_, ?_⟩
  · have hT := h1.T
    unfold mI at hi ⊢
    rw [hT, a1, a2, a3, a4, a5, a6, a8, a9, a10, r1, r2, r3, r4]
    exact hi
  · unfold m_D
    rw [r1, r3, r4, a3]
    have e1 : (fun i => if m_kd μ i = 6 then (List.range (m_kc μ 0 i)).map (fun j => m_kp μ1 (600 * 1 + 60 * i + j)) else []) = fun i => if m_kd μ i = 6 then (List.range (m_kc μ 0 i)).map (fun j => m_kp μ (600 * 0 + 60 * i + j)) else [] := by
      funext i
      by_cases hk : m_kd μ i = 6
      · rw [if_pos hk, if_pos hk]
        apply List.map_congr_left
        intro j hj
        have hj := List.mem_range.mp hj
        obtain ⟨b1, b2, b3, b4, b5, b6, b7⟩ := hi.2.2.2.2.1 i
        rw [if_pos hk] at b6
        have b5 := b5 hk
        have hin : i < 10 := by
          rcases Nat.lt_or_ge i (m_n μ) with q | q
          · have := hi.1; omega
          · have := (hi.2.2.1 i q).1; omega
        rw [h5, show 600 * 1 + 60 * i + j = 600 + (60 * i + j) by omega, cpf_in (by omega), show 600 * 0 + 60 * i + j = 60 * i + j by omega]
      · rw [if_neg hk, if_neg hk]
    have e2 : (fun c => (List.range (m_ct μ 0 c)).map (fun k => m_vs μ1 (128 * 1 + 8 * c + k))) = fun c => (List.range (m_ct μ 0 c)).map (fun k => m_vs μ (128 * 0 + 8 * c + k)) := by
      funext c
      apply List.map_congr_left
      intro k hk
      have hk := List.mem_range.mp hk
      have hc : c < m_nc μ := by
        rcases Nat.lt_or_ge c (m_nc μ) with q | q
        · exact q
        · have := hi.2.2.2.1 c q; omega
      have := hi.2.2.2.2.2.1 c hc
      have := hi.2.1
      rw [h7, show 128 * 1 + 8 * c + k = 128 + (8 * c + k) by omega, cpf_in (by omega), show 128 * 0 + 8 * c + k = 8 * c + k by omega]
    rw [e1, e2]
end CS
/-- the second row is how all ends -/
def mEnd (μ μ' : ms) : Prop := mX μ 1 μ' ∧ mI μ' 0 ∧ mI μ' 1 ∧ yp_fin (m_T μ) (m_D μ 0) (m_D μ' 1)
set_option maxHeartbeats 4000000 in
set_option maxRecDepth 100000 in
theorem c_M_settle (l : Launch) (D : va_G) (cc : ClassId × ClassId × ClassId) (ad : yl → Nat) (X : va_W) (b0 sz : Nat) (μ : ms) (hi : mI μ 0) : Met l y_M_settle w_M_settle ({ frames := 2, cells := 0, slots := 0, locals := 53 }) (yPr D cc b0 [.ref (ad (20, 0, 0))] (mW cc ad X μ) sz) (va_Qv (fun μ' : ms => mEnd μ μ') (yB D ycl (mW cc ad X μ) sz (fun μ' => mW cc ad X μ')) (va_A (mW cc ad X μ) sz)) 0 0 (va_A (mW cc ad X μ) sz) := by
  have hn10 := hi.1
  have hc16 := hi.2.1
  refine y_ofW (cc := b_M_settle) (maxL := 2) (ret := none) (by decide) rfl (Nat.le_of_ble_eq_true rfl) ?_
  intro pv ev sv mv bv tv cv ls hI hsz hw hl
  obtain ⟨hx, hb, hr, hml, hts, hown, hlocks, hnm, hK, hAb, hb0, hA⟩ := id hI
  have ht : ∀ w ∈ lg_tbl, w.before _ sv = true := fun w h => hts w (List.mem_cons_of_mem _ h)
  have hl : lv_has ls 2 [(0, .ref (ad (20, 0, 0)))] := hl
  have fin : ∀ (f i m : Nat) (μ1 : ms) (H : Heap) (locs : List Loc) (ls : Array Slot), 11 * (1000 - m) + i < f → i ≤ m_n μ1 → mX μ 1 μ1 → mI μ1 1 → yp_path (m_T μ) m (m_D μ 0) (m_D μ1 1) → (∀ i', i ≤ i' → i' < m_n μ → yp_canb (m_T μ) (m_D μ1 1) i' = false) → yH D ycl (va_A (mW cc ad X μ) sz) sv.heap H locs (mW cc ad X μ1) → lv_has ls 2 [(1, .int (nI i - nI 1)), (0, .ref (ad (20, 0, 0)))] → W pv l ev (headSpec w_M_settle ({ frames := 2, cells := 0, slots := 0, locals := 53 })).room sv mv ([.ref (ad (20, 0, 0))]).toArray bv tv cv H locs 0 0 (MQ bv (va_Qv (fun μ' : ms => mEnd μ μ') (yB D ycl (mW cc ad X μ) sz (fun μ' => mW cc ad X μ')) (va_A (mW cc ad X μ) sz)) ([.ref (ad (20, 0, 0))]).toArray sv 0 0 (va_A (mW cc ad X μ) sz)) (F0 mv 157 ls []) := by
    intro f
    induction f with
    | zero => intro i m μ1 H locs ls h; omega
    | succ f ih =>
      intro i m μ1 H locs ls hf hin hX hI1 hp hno hw hl
      have hT := hX.1.T
      have hnn : m_n μ1 = m_n μ := hX.1.1
      have hm := yp_path_short hp (fun j => (hi.2.2.2.2.1 j).2.2.2.1)
      have hyn : yp_n (m_T μ) = m_n μ := rfl
      cases i with
      | zero =>
        refine lv_iload_n hx hb d_M_settle_157 rfl (lv_at hl 0 rfl) ?_
        refine lv_if_lt (tgt := 192) hx hb d_M_settle_158 (by decide) (fun c_158 => ?_) (fun c_158 => by exact absurd (by decide) c_158)
        exact ye_v hI μ1 ⟨hX, hX.I (by decide) hi, hI1, fun i h => hno i (Nat.zero_le _) h, m, hp⟩ hw d_M_settle_192
      | succ i =>
        rw [mo_sub1] at hl
        have hd : i < m_n μ1 := by omega
        refine lv_iload_n hx hb d_M_settle_157 rfl (lv_at hl 0 rfl) ?_
        refine lv_if_lt (tgt := 192) hx hb d_M_settle_158 (by decide) (fun c_158 => by exact absurd c_158 (nI_pos (by omega))) (fun c_158 => ?_)
        refine lv_aload_n hx hb d_M_settle_161 rfl (lv_at hl 1 rfl) ?_
        refine lv_iconst (v := (nI 1)) hx hb d_M_settle_162 (by decide) ?_
        refine lv_iload_n hx hb d_M_settle_163 rfl (lv_at hl 0 rfl) ?_
        refine yc_i (va_runV (As := [.int _, .int _]) (rest := []) ⟨hx, hb, hml, hown, hts⟩ (c_M_canAct l D cc ad X b0 _ μ1 1 i (by omega) hd hI1) (cwV 2 hts (yg_call mc_M_canAct ml_M_88 mm_M_canAct ms_M_canAct mi_M) rfl rfl rfl (by decide +kernel) ⟨Nat.le_of_ble_eq_true rfl, Nat.le_of_ble_eq_true rfl⟩) (y_preV hI hw (y_recv hK.1 hw mL_o (by rfl) rfl)) rfl rfl hl.1 rfl (lv_room (Nat.le_of_ble_eq_true rfl)) d_M_settle_164 ⟨Nat.le_of_ble_eq_true rfl, Nat.le_of_ble_eq_true rfl⟩) hw hA (fun r u H locs he hw => ?_)
        subst he
        refine lv_if_eq (tgt := 186) hx hb d_M_settle_167 (by decide) (fun c_167 => ?_) (fun c_167 => ?_)
        · have e1 := yb_0 c_167
          refine lv_iinc (v := nI i - nI 1) (lv' := [(1, .int _), (0, .ref _)]) hx hb d_M_settle_186 hl (k := 0) rfl (mdec i) (by decide) rfl (fun ls hl => ?_)
          refine lv_goto (tgt := 157) hx hb d_M_settle_189 (by decide) ?_
          exact ih i m μ1 _ _ _ (by omega) (by omega) hX hI1 hp (fun i' h1 h2 => by
            by_cases h3 : i' = i
            · rw [h3, ← hT]; exact e1
            · exact hno i' (by omega) h2) hw (lv_sub hl [0, 1] rfl)
        · have e1 := yb_1 c_167
          refine lv_aload_n hx hb d_M_settle_170 rfl (lv_at hl 1 rfl) ?_
          refine lv_iconst (v := (nI 1)) hx hb d_M_settle_171 (by decide) ?_
          refine lv_iload_n hx hb d_M_settle_172 rfl (lv_at hl 0 rfl) ?_
          refine yc_v (va_runV (As := [.int _, .int _]) (rest := []) ⟨hx, hb, hml, hown, hts⟩ (c_M_doAct l D cc ad X b0 _ μ1 1 i (by omega) hd hI1 e1) (cwV 2 hts (yg_call mc_M_doAct ml_M_92 mm_M_doAct ms_M_doAct mi_M) rfl rfl rfl (by decide +kernel) ⟨Nat.le_of_ble_eq_true rfl, Nat.le_of_ble_eq_true rfl⟩) (y_preV hI hw (y_recv hK.1 hw mL_o (by rfl) rfl)) rfl rfl hl.1 rfl (lv_room (Nat.le_of_ble_eq_true rfl)) d_M_settle_173 ⟨Nat.le_of_ble_eq_true rfl, Nat.le_of_ble_eq_true rfl⟩) hw hA (fun u H locs he hw => ?_)
          refine lv_aload_n hx hb d_M_settle_176 rfl (lv_at hl 1 rfl) ?_
          refine yr_get (C := R_M) (T := F_M) (N := 16) (ci := k_M) hx hb ht j_M hown hK.1 hw mL_o (by rfl) rfl 0 (by decide) (ht _ mf_M_52) (fun _ h9 => h9) (by rfl) d_M_settle_177 ?_
          refine lv_iconst (v := (nI 1)) hx hb d_M_settle_180 (by decide) ?_
          refine lv_isub hx hb d_M_settle_181 ?_
          refine lv_istore_n (lv' := [(1, .int _), (0, .ref _)]) hx hb d_M_settle_182 rfl hl (by decide) rfl (fun ls hl => ?_)
          refine lv_goto (tgt := 157) hx hb d_M_settle_183 (by decide) ?_
          have hp2 : yp_path (m_T μ) (m + 1) (m_D μ 0) (m_D u 1) := yp_path_app m 1 _ _ _ hp (by rw [he.2.1, hT]; exact yp_path_1 (by omega) (by rw [← hT]; exact e1))
          have hm2 := yp_path_short hp2 (fun j => (hi.2.2.2.2.1 j).2.2.2.1)
          have hnu : m_n u = m_n μ := he.1.1.1.trans hnn
          exact ih (m_n u) (m + 1) u _ _ _ (by omega) (Nat.le_refl _) (hX.tr he.1) he.2.2 hp2 (fun i' h1 h2 => by omega) hw (lv_sub hl [0, 1] rfl)
  have l4 : ∀ (f i : Nat) (μ1 : ms) (H : Heap) (locs : List Loc) (ls : Array Slot), i + f = 128 → mCp μ 10 10 10 600 16 i μ1 → yH D ycl (va_A (mW cc ad X μ) sz) sv.heap H locs (mW cc ad X μ1) → lv_has ls 2 [(1, .int (nI i)), (0, .ref (ad (20, 0, 0)))] → W pv l ev (headSpec w_M_settle ({ frames := 2, cells := 0, slots := 0, locals := 53 })).room sv mv ([.ref (ad (20, 0, 0))]).toArray bv tv cv H locs 0 0 (MQ bv (va_Qv (fun μ' : ms => mEnd μ μ') (yB D ycl (mW cc ad X μ) sz (fun μ' => mW cc ad X μ')) (va_A (mW cc ad X μ) sz)) ([.ref (ad (20, 0, 0))]).toArray sv 0 0 (va_A (mW cc ad X μ) sz)) (F0 mv 121 ls []) := by
    intro f
    induction f with
    | zero =>
      intro i μ1 H locs ls hif hP hw hl
      have hie : i = 128 := by omega
      subst hie
      refine lv_iload_n hx hb d_M_settle_121 rfl (lv_at hl 0 rfl) ?_
      refine lv_sipush (v := (nI 128)) hx hb d_M_settle_122 (by decide) ?_
      refine lv_icmp_ge (tgt := 150) hx hb d_M_settle_125 (by decide) (fun c_125 => ?_) (fun c_125 => by exact absurd (nI_le (by omega) (by omega)) c_125)
      refine lv_aload_n hx hb d_M_settle_150 rfl (lv_at hl 1 rfl) ?_
      refine yr_get (C := R_M) (T := F_M) (N := 16) (ci := k_M) hx hb ht j_M hown hK.1 hw mL_o (by rfl) rfl 0 (by decide) (ht _ mf_M_52) (fun _ h9 => h9) (by rfl) d_M_settle_151 ?_
      refine lv_iconst (v := (nI 1)) hx hb d_M_settle_154 (by decide) ?_
      refine lv_isub hx hb d_M_settle_155 ?_
      refine lv_istore_n (lv' := [(1, .int _), (0, .ref _)]) hx hb d_M_settle_156 rfl hl (by decide) rfl (fun ls hl => ?_)
      obtain ⟨hX, hI1, hD⟩ := mCp_end hi hP
      exact fin _ (m_n μ1) 0 μ1 _ _ _ (Nat.lt_succ_self _) (Nat.le_refl _) hX hI1 (by rw [hD]; rfl) (fun i' h1 h2 => by have := hX.1.1; omega) hw (lv_sub hl [0, 1] rfl)
    | succ f ih =>
      intro i μ1 H locs ls hif hP hw hl
      refine lv_iload_n hx hb d_M_settle_121 rfl (lv_at hl 0 rfl) ?_
      refine lv_sipush (v := (nI 128)) hx hb d_M_settle_122 (by decide) ?_
      refine lv_icmp_ge (tgt := 150) hx hb d_M_settle_125 (by decide) (fun c_125 => by exact absurd c_125 (nI_ge (by omega) (by omega))) (fun c_125 => ?_)
      refine lv_aload_n hx hb d_M_settle_128 rfl (lv_at hl 1 rfl) ?_
      refine yr_get (C := R_M) (T := F_M) (N := 16) (ci := k_M) hx hb ht j_M hown hK.1 hw mL_o (by rfl) rfl 15 (by decide) (ht _ mf_M_49) (fun _ h9 => h9) (by rfl) d_M_settle_129 ?_
      refine lv_sipush (v := (nI 128)) hx hb d_M_settle_132 (by decide) ?_
      refine lv_iload_n hx hb d_M_settle_135 rfl (lv_at hl 0 rfl) ?_
      refine lv_iadd hx hb d_M_settle_136 ?_
      rw [nI_add]
      refine lv_aload_n hx hb d_M_settle_137 rfl (lv_at hl 1 rfl) ?_
      refine yr_get (C := R_M) (T := F_M) (N := 16) (ci := k_M) hx hb ht j_M hown hK.1 hw mL_o (by rfl) rfl 15 (by decide) (ht _ mf_M_49) (fun _ h9 => h9) (by rfl) d_M_settle_138 ?_
      refine lv_iload_n hx hb d_M_settle_141 rfl (lv_at hl 0 rfl) ?_
      refine yr_iald (v := m_vs μ i) hx hb hK.1 hw mL_13 (by rfl) 0 rfl (vp_in_nI (N := 256) (by omega) (by omega)) (by rw [nI_clamp (by omega)]; exact ca_vs hP (by omega)) d_M_settle_142 ?_
      refine yr_iast hx hb hK.1 hw mL_13 (by rfl) 0 rfl (vp_in_nI (N := 256) (by omega) (by omega)) d_M_settle_143 (fun H locs hw => ?_)
      rw [nI_clamp (by omega)] at hw
      obtain ⟨μ2, hw, hP⟩ := cs_vs hP (by omega) hw
      refine lv_iinc (v := nI (i + 1)) (lv' := [(1, .int _), (0, .ref _)]) hx hb d_M_settle_144 hl (k := 0) rfl (yinc i) (by decide) rfl (fun ls hl => ?_)
      refine lv_goto (tgt := 121) hx hb d_M_settle_147 (by decide) ?_
      exact ih (i + 1) μ2 _ _ _ (by omega) hP hw (lv_sub hl [0, 1] rfl)
  have l3 : ∀ (f i : Nat) (μ1 : ms) (H : Heap) (locs : List Loc) (ls : Array Slot), i + f = 16 → mCp μ 10 10 10 600 i 0 μ1 → yH D ycl (va_A (mW cc ad X μ) sz) sv.heap H locs (mW cc ad X μ1) → lv_has ls 2 [(1, .int (nI i)), (0, .ref (ad (20, 0, 0)))] → W pv l ev (headSpec w_M_settle ({ frames := 2, cells := 0, slots := 0, locals := 53 })).room sv mv ([.ref (ad (20, 0, 0))]).toArray bv tv cv H locs 0 0 (MQ bv (va_Qv (fun μ' : ms => mEnd μ μ') (yB D ycl (mW cc ad X μ) sz (fun μ' => mW cc ad X μ')) (va_A (mW cc ad X μ) sz)) ([.ref (ad (20, 0, 0))]).toArray sv 0 0 (va_A (mW cc ad X μ) sz)) (F0 mv 92 ls []) := by
    intro f
    induction f with
    | zero =>
      intro i μ1 H locs ls hif hP hw hl
      have hie : i = 16 := by omega
      subst hie
      refine lv_iload_n hx hb d_M_settle_92 rfl (lv_at hl 0 rfl) ?_
      refine lv_bipush (v := (nI 16)) hx hb d_M_settle_93 (by decide) ?_
      refine lv_icmp_ge (tgt := 119) hx hb d_M_settle_95 (by decide) (fun c_95 => ?_) (fun c_95 => by exact absurd (nI_le (by omega) (by omega)) c_95)
      refine lv_iconst (v := (nI 0)) hx hb d_M_settle_119 (by decide) ?_
      refine lv_istore_n (lv' := [(1, .int _), (0, .ref _)]) hx hb d_M_settle_120 rfl hl (by decide) rfl (fun ls hl => ?_)
      exact l4 128 0 μ1 _ _ _ (by omega) hP hw (lv_sub hl [0, 1] rfl)
    | succ f ih =>
      intro i μ1 H locs ls hif hP hw hl
      refine lv_iload_n hx hb d_M_settle_92 rfl (lv_at hl 0 rfl) ?_
      refine lv_bipush (v := (nI 16)) hx hb d_M_settle_93 (by decide) ?_
      refine lv_icmp_ge (tgt := 119) hx hb d_M_settle_95 (by decide) (fun c_95 => by exact absurd c_95 (nI_ge (by omega) (by omega))) (fun c_95 => ?_)
      refine lv_aload_n hx hb d_M_settle_98 rfl (lv_at hl 1 rfl) ?_
      refine yr_get (C := R_M) (T := F_M) (N := 16) (ci := k_M) hx hb ht j_M hown hK.1 hw mL_o (by rfl) rfl 14 (by decide) (ht _ mf_M_46) (fun _ h9 => h9) (by rfl) d_M_settle_99 ?_
      refine lv_bipush (v := (nI 16)) hx hb d_M_settle_102 (by decide) ?_
      refine lv_iload_n hx hb d_M_settle_104 rfl (lv_at hl 0 rfl) ?_
      refine lv_iadd hx hb d_M_settle_105 ?_
      rw [nI_add]
      refine lv_aload_n hx hb d_M_settle_106 rfl (lv_at hl 1 rfl) ?_
      refine yr_get (C := R_M) (T := F_M) (N := 16) (ci := k_M) hx hb ht j_M hown hK.1 hw mL_o (by rfl) rfl 14 (by decide) (ht _ mf_M_46) (fun _ h9 => h9) (by rfl) d_M_settle_107 ?_
      refine lv_iload_n hx hb d_M_settle_110 rfl (lv_at hl 0 rfl) ?_
      refine yr_iald (v := nI (m_ct μ 0 i)) hx hb hK.1 hw mL_12 (by rfl) 0 rfl (vp_in_nI (N := 32) (by omega) (by omega)) (by rw [nI_clamp (by omega)]; exact ca_ct hP (by omega)) d_M_settle_111 ?_
      refine yr_iast hx hb hK.1 hw mL_12 (by rfl) 0 rfl (vp_in_nI (N := 32) (by omega) (by omega)) d_M_settle_112 (fun H locs hw => ?_)
      rw [nI_clamp (by omega)] at hw
      obtain ⟨μ2, hw, hP⟩ := cs_ct hP (by omega) hw
      refine lv_iinc (v := nI (i + 1)) (lv' := [(1, .int _), (0, .ref _)]) hx hb d_M_settle_113 hl (k := 0) rfl (yinc i) (by decide) rfl (fun ls hl => ?_)
      refine lv_goto (tgt := 92) hx hb d_M_settle_116 (by decide) ?_
      exact ih (i + 1) μ2 _ _ _ (by omega) hP hw (lv_sub hl [0, 1] rfl)
  have l2 : ∀ (f i : Nat) (μ1 : ms) (H : Heap) (locs : List Loc) (ls : Array Slot), i + f = 600 → mCp μ 10 10 10 i 0 0 μ1 → yH D ycl (va_A (mW cc ad X μ) sz) sv.heap H locs (mW cc ad X μ1) → lv_has ls 2 [(1, .int (nI i)), (0, .ref (ad (20, 0, 0)))] → W pv l ev (headSpec w_M_settle ({ frames := 2, cells := 0, slots := 0, locals := 53 })).room sv mv ([.ref (ad (20, 0, 0))]).toArray bv tv cv H locs 0 0 (MQ bv (va_Qv (fun μ' : ms => mEnd μ μ') (yB D ycl (mW cc ad X μ) sz (fun μ' => mW cc ad X μ')) (va_A (mW cc ad X μ) sz)) ([.ref (ad (20, 0, 0))]).toArray sv 0 0 (va_A (mW cc ad X μ) sz)) (F0 mv 61 ls []) := by
    intro f
    induction f with
    | zero =>
      intro i μ1 H locs ls hif hP hw hl
      have hie : i = 600 := by omega
      subst hie
      refine lv_iload_n hx hb d_M_settle_61 rfl (lv_at hl 0 rfl) ?_
      refine lv_sipush (v := (nI 600)) hx hb d_M_settle_62 (by decide) ?_
      refine lv_icmp_ge (tgt := 90) hx hb d_M_settle_65 (by decide) (fun c_65 => ?_) (fun c_65 => by exact absurd (nI_le (by omega) (by omega)) c_65)
      refine lv_iconst (v := (nI 0)) hx hb d_M_settle_90 (by decide) ?_
      refine lv_istore_n (lv' := [(1, .int _), (0, .ref _)]) hx hb d_M_settle_91 rfl hl (by decide) rfl (fun ls hl => ?_)
      exact l3 16 0 μ1 _ _ _ (by omega) hP hw (lv_sub hl [0, 1] rfl)
    | succ f ih =>
      intro i μ1 H locs ls hif hP hw hl
      refine lv_iload_n hx hb d_M_settle_61 rfl (lv_at hl 0 rfl) ?_
      refine lv_sipush (v := (nI 600)) hx hb d_M_settle_62 (by decide) ?_
      refine lv_icmp_ge (tgt := 90) hx hb d_M_settle_65 (by decide) (fun c_65 => by exact absurd c_65 (nI_ge (by omega) (by omega))) (fun c_65 => ?_)
      refine lv_aload_n hx hb d_M_settle_68 rfl (lv_at hl 1 rfl) ?_
      refine yr_get (C := R_M) (T := F_M) (N := 16) (ci := k_M) hx hb ht j_M hown hK.1 hw mL_o (by rfl) rfl 13 (by decide) (ht _ mf_M_43) (fun _ h9 => h9) (by rfl) d_M_settle_69 ?_
      refine lv_sipush (v := (nI 600)) hx hb d_M_settle_72 (by decide) ?_
      refine lv_iload_n hx hb d_M_settle_75 rfl (lv_at hl 0 rfl) ?_
      refine lv_iadd hx hb d_M_settle_76 ?_
      rw [nI_add]
      refine lv_aload_n hx hb d_M_settle_77 rfl (lv_at hl 1 rfl) ?_
      refine yr_get (C := R_M) (T := F_M) (N := 16) (ci := k_M) hx hb ht j_M hown hK.1 hw mL_o (by rfl) rfl 13 (by decide) (ht _ mf_M_43) (fun _ h9 => h9) (by rfl) d_M_settle_78 ?_
      refine lv_iload_n hx hb d_M_settle_81 rfl (lv_at hl 0 rfl) ?_
      refine yr_iald (v := m_kp μ i) hx hb hK.1 hw mL_11 (by rfl) 0 rfl (vp_in_nI (N := 1200) (by omega) (by omega)) (by rw [nI_clamp (by omega)]; exact ca_kp hP (by omega)) d_M_settle_82 ?_
      refine yr_iast hx hb hK.1 hw mL_11 (by rfl) 0 rfl (vp_in_nI (N := 1200) (by omega) (by omega)) d_M_settle_83 (fun H locs hw => ?_)
      rw [nI_clamp (by omega)] at hw
      obtain ⟨μ2, hw, hP⟩ := cs_kp hP (by omega) hw
      refine lv_iinc (v := nI (i + 1)) (lv' := [(1, .int _), (0, .ref _)]) hx hb d_M_settle_84 hl (k := 0) rfl (yinc i) (by decide) rfl (fun ls hl => ?_)
      refine lv_goto (tgt := 61) hx hb d_M_settle_87 (by decide) ?_
      exact ih (i + 1) μ2 _ _ _ (by omega) hP hw (lv_sub hl [0, 1] rfl)
  have l1 : ∀ (f i : Nat) (μ1 : ms) (H : Heap) (locs : List Loc) (ls : Array Slot), i + f = 10 → mCp μ i i i 0 0 0 μ1 → yH D ycl (va_A (mW cc ad X μ) sz) sv.heap H locs (mW cc ad X μ1) → lv_has ls 2 [(1, .int (nI i)), (0, .ref (ad (20, 0, 0)))] → W pv l ev (headSpec w_M_settle ({ frames := 2, cells := 0, slots := 0, locals := 53 })).room sv mv ([.ref (ad (20, 0, 0))]).toArray bv tv cv H locs 0 0 (MQ bv (va_Qv (fun μ' : ms => mEnd μ μ') (yB D ycl (mW cc ad X μ) sz (fun μ' => mW cc ad X μ')) (va_A (mW cc ad X μ) sz)) ([.ref (ad (20, 0, 0))]).toArray sv 0 0 (va_A (mW cc ad X μ) sz)) (F0 mv 2 ls []) := by
    intro f
    induction f with
    | zero =>
      intro i μ1 H locs ls hif hP hw hl
      have hie : i = 10 := by omega
      subst hie
      refine lv_iload_n hx hb d_M_settle_2 rfl (lv_at hl 0 rfl) ?_
      refine lv_bipush (v := (nI 10)) hx hb d_M_settle_3 (by decide) ?_
      refine lv_icmp_ge (tgt := 59) hx hb d_M_settle_5 (by decide) (fun c_5 => ?_) (fun c_5 => by exact absurd (nI_le (by omega) (by omega)) c_5)
      refine lv_iconst (v := (nI 0)) hx hb d_M_settle_59 (by decide) ?_
      refine lv_istore_n (lv' := [(1, .int _), (0, .ref _)]) hx hb d_M_settle_60 rfl hl (by decide) rfl (fun ls hl => ?_)
      exact l2 600 0 μ1 _ _ _ (by omega) hP hw (lv_sub hl [0, 1] rfl)
    | succ f ih =>
      intro i μ1 H locs ls hif hP hw hl
      refine lv_iload_n hx hb d_M_settle_2 rfl (lv_at hl 0 rfl) ?_
      refine lv_bipush (v := (nI 10)) hx hb d_M_settle_3 (by decide) ?_
      refine lv_icmp_ge (tgt := 59) hx hb d_M_settle_5 (by decide) (fun c_5 => by exact absurd c_5 (nI_ge (by omega) (by omega))) (fun c_5 => ?_)
      refine lv_aload_n hx hb d_M_settle_8 rfl (lv_at hl 1 rfl) ?_
      refine yr_get (C := R_M) (T := F_M) (N := 16) (ci := k_M) hx hb ht j_M hown hK.1 hw mL_o (by rfl) rfl 10 (by decide) (ht _ mf_M_34) (fun _ h9 => h9) (by rfl) d_M_settle_9 ?_
      refine lv_bipush (v := (nI 10)) hx hb d_M_settle_12 (by decide) ?_
      refine lv_iload_n hx hb d_M_settle_14 rfl (lv_at hl 0 rfl) ?_
      refine lv_iadd hx hb d_M_settle_15 ?_
      rw [nI_add]
      refine lv_aload_n hx hb d_M_settle_16 rfl (lv_at hl 1 rfl) ?_
      refine yr_get (C := R_M) (T := F_M) (N := 16) (ci := k_M) hx hb ht j_M hown hK.1 hw mL_o (by rfl) rfl 10 (by decide) (ht _ mf_M_34) (fun _ h9 => h9) (by rfl) d_M_settle_17 ?_
      refine lv_iload_n hx hb d_M_settle_20 rfl (lv_at hl 0 rfl) ?_
      refine yr_iald (v := nI (m_ac μ 0 i)) hx hb hK.1 hw mL_8 (by rfl) 0 rfl (vp_in_nI (N := 20) (by omega) (by omega)) (by rw [nI_clamp (by omega)]; exact ca_ac hP (by omega)) d_M_settle_21 ?_
      refine yr_iast hx hb hK.1 hw mL_8 (by rfl) 0 rfl (vp_in_nI (N := 20) (by omega) (by omega)) d_M_settle_22 (fun H locs hw => ?_)
      rw [nI_clamp (by omega)] at hw
      obtain ⟨μ2, hw, hP⟩ := cs_ac hP (by omega) hw
      refine lv_aload_n hx hb d_M_settle_23 rfl (lv_at hl 1 rfl) ?_
      refine yr_get (C := R_M) (T := F_M) (N := 16) (ci := k_M) hx hb ht j_M hown hK.1 hw mL_o (by rfl) rfl 11 (by decide) (ht _ mf_M_37) (fun _ h9 => h9) (by rfl) d_M_settle_24 ?_
      refine lv_bipush (v := (nI 10)) hx hb d_M_settle_27 (by decide) ?_
      refine lv_iload_n hx hb d_M_settle_29 rfl (lv_at hl 0 rfl) ?_
      refine lv_iadd hx hb d_M_settle_30 ?_
      rw [nI_add]
      refine lv_aload_n hx hb d_M_settle_31 rfl (lv_at hl 1 rfl) ?_
      refine yr_get (C := R_M) (T := F_M) (N := 16) (ci := k_M) hx hb ht j_M hown hK.1 hw mL_o (by rfl) rfl 11 (by decide) (ht _ mf_M_37) (fun _ h9 => h9) (by rfl) d_M_settle_32 ?_
      refine lv_iload_n hx hb d_M_settle_35 rfl (lv_at hl 0 rfl) ?_
      refine yr_iald (v := nI (m_tn μ 0 i)) hx hb hK.1 hw mL_9 (by rfl) 0 rfl (vp_in_nI (N := 20) (by omega) (by omega)) (by rw [nI_clamp (by omega)]; exact ca_tn hP (by omega)) d_M_settle_36 ?_
      refine yr_iast hx hb hK.1 hw mL_9 (by rfl) 0 rfl (vp_in_nI (N := 20) (by omega) (by omega)) d_M_settle_37 (fun H locs hw => ?_)
      rw [nI_clamp (by omega)] at hw
      obtain ⟨μ3, hw, hP⟩ := cs_tn hP (by omega) hw
      refine lv_aload_n hx hb d_M_settle_38 rfl (lv_at hl 1 rfl) ?_
      refine yr_get (C := R_M) (T := F_M) (N := 16) (ci := k_M) hx hb ht j_M hown hK.1 hw mL_o (by rfl) rfl 12 (by decide) (ht _ mf_M_40) (fun _ h9 => h9) (by rfl) d_M_settle_39 ?_
      refine lv_bipush (v := (nI 10)) hx hb d_M_settle_42 (by decide) ?_
      refine lv_iload_n hx hb d_M_settle_44 rfl (lv_at hl 0 rfl) ?_
      refine lv_iadd hx hb d_M_settle_45 ?_
      rw [nI_add]
      refine lv_aload_n hx hb d_M_settle_46 rfl (lv_at hl 1 rfl) ?_
      refine yr_get (C := R_M) (T := F_M) (N := 16) (ci := k_M) hx hb ht j_M hown hK.1 hw mL_o (by rfl) rfl 12 (by decide) (ht _ mf_M_40) (fun _ h9 => h9) (by rfl) d_M_settle_47 ?_
      refine lv_iload_n hx hb d_M_settle_50 rfl (lv_at hl 0 rfl) ?_
      refine yr_iald (v := nI (m_kc μ 0 i)) hx hb hK.1 hw mL_10 (by rfl) 0 rfl (vp_in_nI (N := 20) (by omega) (by omega)) (by rw [nI_clamp (by omega)]; exact ca_kc hP (by omega)) d_M_settle_51 ?_
      refine yr_iast hx hb hK.1 hw mL_10 (by rfl) 0 rfl (vp_in_nI (N := 20) (by omega) (by omega)) d_M_settle_52 (fun H locs hw => ?_)
      rw [nI_clamp (by omega)] at hw
      obtain ⟨μ4, hw, hP⟩ := cs_kc hP (by omega) hw
      refine lv_iinc (v := nI (i + 1)) (lv' := [(1, .int _), (0, .ref _)]) hx hb d_M_settle_53 hl (k := 0) rfl (yinc i) (by decide) rfl (fun ls hl => ?_)
      refine lv_goto (tgt := 2) hx hb d_M_settle_56 (by decide) ?_
      exact ih (i + 1) μ4 _ _ _ (by omega) hP hw (lv_sub hl [0, 1] rfl)
  refine lv_iconst (v := (nI 0)) hx hb d_M_settle_0 (by decide) ?_
  refine lv_istore_n (lv' := [(1, .int _), (0, .ref _)]) hx hb d_M_settle_1 rfl hl (by decide) rfl (fun ls hl => ?_)
  obtain ⟨μ1, hw, hP⟩ := mCp_start hw
  exact l1 10 0 μ1 _ _ _ (by omega) hP hw (lv_sub hl [0, 1] rfl)
