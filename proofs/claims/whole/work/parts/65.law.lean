/-! THE LAW: what holds at its loop's head, its cases, its loop -/
theorem y_swap {D : va_G} {cl : List vw_C} {A : Nat → Prop} {H0 H : Heap} {locs : List Loc} {a b : va_W} (hw : yH D cl A H0 H locs (a ++ b)) : yH D cl A H0 H locs (b ++ a) := ⟨va_P.swap (a := []) hw.1, va_D.swap (a := []) hw.2.1, hw.2.2⟩
theorem yL_eq {σ σ' : ys} (h : σ'.2.1 = σ.2.1) (q : yl) : yL σ' q ↔ yL σ q := by
  have e1 : ∀ y, s_n σ' y = s_n σ y := fun y => by unfold s_n; rw [h]
  have e2 : ∀ y, s_nc σ' y = s_nc σ y := fun y => by unfold s_nc; rw [h]
  obtain ⟨f, y, i⟩ := q
  match f with
  | 0 => exact Iff.rfl
  | 1 => exact Iff.rfl
  | 2 => exact Iff.rfl
  | 3 => exact Iff.rfl
  | 4 => exact Iff.rfl
  | 5 => show y < 2 ∧ i < s_n σ' y ↔ y < 2 ∧ i < s_n σ y; rw [e1]
  | 6 => show y < 2 ∧ i < s_n σ' y ↔ y < 2 ∧ i < s_n σ y; rw [e1]
  | 7 => show y < 2 ∧ i < s_n σ' y ↔ y < 2 ∧ i < s_n σ y; rw [e1]
  | 8 => show y < 2 ∧ i < s_n σ' y ↔ y < 2 ∧ i < s_n σ y; rw [e1]
  | 9 => show y < 2 ∧ i < s_nc σ' y ↔ y < 2 ∧ i < s_nc σ y; rw [e2]
  | 10 => show y < 2 ∧ i < s_nc σ' y ↔ y < 2 ∧ i < s_nc σ y; rw [e2]
  | n + 11 => exact Iff.rfl
theorem snc_eq {σ σ' : ys} (h : σ'.2.1 = σ.2.1) : s_nc σ' 0 = s_nc σ 0 := by
  unfold s_nc
  rw [h]
theorem lcmp_z {x y : Int64} (h : x = y) : lg_cmp x y = 0 := by
  subst h
  simp [lg_cmp]
theorem law_inc (j : Nat) : nI (6 * j) + Int32.ofInt 6 = nI (6 * (j + 1)) := by
  rw [show Int32.ofInt 6 = nI 6 by decide, nI_add, show 6 * j + 6 = 6 * (j + 1) by omega]
theorem law_end {i L : Nat} (hi : i ≤ 4000) (hL : L ≤ 4000) (h : L < i + 6) : Int32.ofNat L - nI 6 < nI i := by
  have hp : (0 : Int32) ≤ nI i := Int32.not_lt.mp (nI_pos (by omega))
  show nI L - nI 6 < nI i
  rcases Nat.lt_or_ge L 6 with q | q
  · refine Int32.lt_of_lt_of_le ?_ hp
    rcases (show L = 0 ∨ L = 1 ∨ L = 2 ∨ L = 3 ∨ L = 4 ∨ L = 5 by omega) with rfl | rfl | rfl | rfl | rfl | rfl <;> decide
  · have e : nI L = nI (L - 6) + nI 6 := by rw [nI_add, Nat.sub_add_cancel q]
    rw [e, Int32.add_sub_cancel]
    exact nI_lt (by omega) (by omega)
theorem and15 (x : Int32) : ∃ k, k < 16 ∧ x &&& nI 15 = nI k := by
  have h : x = nI x.toBitVec.toNat := by
    apply Int32.toBitVec_inj.mp
    apply BitVec.eq_of_toNat_eq
    show _ = (BitVec.ofNat 32 x.toBitVec.toNat).toNat
    rw [BitVec.toNat_ofNat, Nat.mod_eq_of_lt x.toBitVec.isLt]
  refine ⟨x.toBitVec.toNat % 2 ^ 4, Nat.mod_lt _ (by decide), ?_⟩
  have h2 := pk_andN (n := x.toBitVec.toNat) x.toBitVec.isLt (m := nI 15) 4 (by decide)
  rw [← h] at h2
  exact h2
theorem rc1 : 5000 ≤ room_1.cells := Nat.le_of_ble_eq_true rfl
theorem rs1 : 80000 ≤ room_1.slots := Nat.le_of_ble_eq_true rfl
abbrev lwA (s : State) : Nat → Prop := fun q => s.heap.size ≤ q
abbrev lwW (cc : ClassId × ClassId × ClassId) (ad : yl → Nat) (LL : List yl) (σ : ys) (ad2 : yl → Nat) (μ : ms) : va_W := wl ad LL (yG cc σ ad) ++ wl ad2 mLL (mG cc μ ad2)
abbrev lwL (b : Nat) (ad ad2 : yl → Nat) (j : Nat) : List (Nat × Value) := [(3, .int (nI (6 * j))), (0, .ref b), (1, .ref (ad (0, 0, 0))), (2, .ref (ad2 (20, 0, 0)))]
theorem lwL_eq {b j : Nat} {ad ad' ad2 : yl → Nat} (h : ad' (0, 0, 0) = ad (0, 0, 0)) : lwL b ad' ad2 j = lwL b ad ad2 j := by
  unfold lwL
  rw [h]
/-- class and reference hold the same yard -/
def lwJ (σ : ys) (LL : List yl) (μ : ms) : Prop := yJ σ ∧ (∀ q, q ∈ LL ↔ yL σ q) ∧ mI μ 0 ∧ m_T μ = s_T σ 0 ∧ m_D μ 0 = s_D σ 0 ∧ m_nc μ = s_nc σ 0
abbrev lwG (p : Program) (l : Launch) (e : Env) (s : State) (m : MethodId) (b : Nat) (below : List Frame) (meth : Method) (c : Code) (H : Heap) (locs : List Loc) (j pc : Nat) (ls : Array Slot) (st : List Value) : Prop := W p l e room_1 s m #[Value.ref b] below meth c H locs (24 + 8 * j) (1945 + 144 * j) (lw_Z below #[Value.ref b] s) (F0 m pc ls st)
def lwKK (p : Program) (l : Launch) (e : Env) (s : State) (m : MethodId) (b : Nat) (below : List Frame) (meth : Method) (c : Code) (D : va_G) (cc : ClassId × ClassId × ClassId) (j : Nat) : Prop := ∀ (ad : yl → Nat) (LL : List yl) (σ : ys) (ad2 : yl → Nat) (μ : ms) (H : Heap) (locs : List Loc) (ls : Array Slot), lwJ σ LL μ → yH D ycl (lwA s) s.heap H locs (lwW cc ad LL σ ad2 μ) → lv_has ls 4 (lwL b ad ad2 j) → lwG p l e s m b below meth c H locs (j + 1) 596 ls []
theorem lwC {p : Program} {s : State} {m : MethodId} {meth : Method} {c : Code} {b L : Nat} {xs : Nat → Int32} {D : va_G} {cc : ClassId × ClassId × ClassId} (C0 : lw_At p s m meth c b L xs) (hK : yK D ycl (yty cc) s.heap.size s) : p.tables.exec = Jvm.exec ∧ c.code = code ∧ meth.sig.returnType = ret ∧ c.maxLocals = 4 ∧ s.vm.findClass "YardActorsLaw" = some m.cls ∧ (∀ w ∈ lg_tbl, w.before #[Value.ref b] s = true) ∧ (∀ w ∈ w_S_init, w.before #[Value.ref b] s = true) ∧ va_X b L xs s s.heap ∧ b < s.heap.size ∧ ¬ lwA s b ∧ meth.locks = false ∧ yIn p s m meth c code ret 4 w_S_init #[Value.ref b] "YardActorsLaw" meth.name D ycl (yty cc) s.heap.size (lwA s) ∧ ∀ q, s.heap.size ≤ q → lwA s q := by
  obtain ⟨hx, hb, hr, hml, hown, hts, hX, hbl, hlocks, hgv⟩ := C0
  have ht : ∀ w ∈ lg_tbl, w.before #[Value.ref b] s = true := fun w h => hts w (lg_lw h)
  have ht2 : ∀ w ∈ w_S_init, w.before #[Value.ref b] s = true := List.forall_mem_cons.mpr ⟨ht _ mc_S_init, ht⟩
  exact ⟨hx, hb, hr, hml, hown, ht, ht2, hX, hbl, Nat.not_le.mpr hbl, hlocks, ⟨hx, hb, hr, hml, ht2, hown, hlocks, rfl, hK, fun _ h => h, Nat.le_refl _, fun _ h => h⟩, fun _ h => h⟩
set_option maxHeartbeats 4000000 in
set_option maxRecDepth 100000 in
theorem l_actor {p : Program} {l : Launch} {e : Env} {s : State} {m : MethodId} {below : List Frame} {meth : Method} {c : Code} {b L : Nat} {xs : Nat → Int32} {D : va_G} {cc : ClassId × ClassId × ClassId} (C0 : lw_At p s m meth c b L xs) (hK : yK D ycl (yty cc) s.heap.size s) (hL : L ≤ 3072) {j : Nat} (hj : 6 * j + 6 ≤ L) (kk : lwKK p l e s m b below meth c D cc j) {ad : yl → Nat} {LL : List yl} {σ : ys} {ad2 : yl → Nat} {μ : ms} {H : Heap} {locs : List Loc} {ls : Array Slot} (hJ : lwJ σ LL μ) (hw : yH D ycl (lwA s) s.heap H locs (lwW cc ad LL σ ad2 μ)) (hl : lv_has ls 4 (lwL b ad ad2 j)) : lwG p l e s m b below meth c H locs j 108 ls [] := by
  obtain ⟨hx, hb, hr, hml, hown, ht, hts, hX, hbl, hbA, hlocks, hI, hA⟩ := lwC C0 hK
  obtain ⟨J, hLL, hi, eT, eD, eN⟩ := hJ
  have hLs : ∀ q, yL σ q → q ∈ LL := fun q h => (hLL q).mpr h
  have n0 : (0, 0, 0) ∈ LL := hLs _ ⟨rfl, rfl⟩
  refine lv_aload_n hx hb d_L_law_108 rfl (lv_at hl 2 rfl) ?_
  refine lv_aload_n hx hb d_L_law_109 rfl (lv_at hl 1 rfl) ?_
  refine lv_iload_n hx hb d_L_law_110 rfl (lv_at hl 0 rfl) ?_
  refine lv_iconst (v := (nI 1)) hx hb d_L_law_111 (by decide) ?_
  refine lv_iadd hx hb d_L_law_112 ?_
  rw [nI_add]
  refine va_sld hx hb hX hbl hbA hw.2.2 (vp_in_nI (N := L) (by omega) (by omega)) d_L_law_113 ?_
  rw [nI_clamp (by omega)]
  refine lv_aload_n hx hb d_L_law_114 rfl (lv_at hl 1 rfl) ?_
  refine lv_iload_n hx hb d_L_law_115 rfl (lv_at hl 0 rfl) ?_
  refine lv_iconst (v := (nI 2)) hx hb d_L_law_116 (by decide) ?_
  refine lv_iadd hx hb d_L_law_117 ?_
  rw [nI_add]
  refine va_sld hx hb hX hbl hbA hw.2.2 (vp_in_nI (N := L) (by omega) (by omega)) d_L_law_118 ?_
  rw [nI_clamp (by omega)]
  refine lv_aload_n hx hb d_L_law_119 rfl (lv_at hl 1 rfl) ?_
  refine lv_iload_n hx hb d_L_law_120 rfl (lv_at hl 0 rfl) ?_
  refine lv_iconst (v := (nI 3)) hx hb d_L_law_121 (by decide) ?_
  refine lv_iadd hx hb d_L_law_122 ?_
  rw [nI_add]
  refine va_sld hx hb hX hbl hbA hw.2.2 (vp_in_nI (N := L) (by omega) (by omega)) d_L_law_123 ?_
  rw [nI_clamp (by omega)]
  refine yc_i (va_runV (As := [.int _, .int _, .int _]) (rest := []) ⟨hx, hb, hml, hown, hts⟩ (c_S_actor l D cc ad LL (wl ad2 mLL (mG cc μ ad2)) s.heap.size _ σ hLL J (xs (6 * j + 1)) (xs (6 * j + 2)) (xs (6 * j + 3))) (cwV 3 hts (yg_call mc_S_actor ml_L_13 mm_S_actor ms_S_actor mi_S) rfl rfl rfl (by decide +kernel) ⟨Nat.le_of_ble_eq_true rfl, Nat.le_of_ble_eq_true rfl⟩) (y_preV hI hw (y_recv hK.1 hw n0 (by rfl) rfl)) rfl rfl hl.1 rfl (lv_room (Nat.le_of_ble_eq_true rfl)) d_L_law_124 ⟨Nat.le_trans (by omega) rc1, Nat.le_trans (by omega) rs1⟩) hw hA (fun r u H locs he hw => ?_)
  obtain ⟨rfl, k1, k2, k3, k4, k5, k6⟩ := he
  refine lv_aload_n hx hb d_L_law_127 rfl (lv_at hl 3 rfl) ?_
  refine lv_aload_n hx hb d_L_law_128 rfl (lv_at hl 1 rfl) ?_
  refine lv_iload_n hx hb d_L_law_129 rfl (lv_at hl 0 rfl) ?_
  refine lv_iconst (v := (nI 1)) hx hb d_L_law_130 (by decide) ?_
  refine lv_iadd hx hb d_L_law_131 ?_
  rw [nI_add]
  refine va_sld hx hb hX hbl hbA hw.2.2 (vp_in_nI (N := L) (by omega) (by omega)) d_L_law_132 ?_
  rw [nI_clamp (by omega)]
  refine lv_aload_n hx hb d_L_law_133 rfl (lv_at hl 1 rfl) ?_
  refine lv_iload_n hx hb d_L_law_134 rfl (lv_at hl 0 rfl) ?_
  refine lv_iconst (v := (nI 2)) hx hb d_L_law_135 (by decide) ?_
  refine lv_iadd hx hb d_L_law_136 ?_
  rw [nI_add]
  refine va_sld hx hb hX hbl hbA hw.2.2 (vp_in_nI (N := L) (by omega) (by omega)) d_L_law_137 ?_
  rw [nI_clamp (by omega)]
  refine lv_aload_n hx hb d_L_law_138 rfl (lv_at hl 1 rfl) ?_
  refine lv_iload_n hx hb d_L_law_139 rfl (lv_at hl 0 rfl) ?_
  refine lv_iconst (v := (nI 3)) hx hb d_L_law_140 (by decide) ?_
  refine lv_iadd hx hb d_L_law_141 ?_
  rw [nI_add]
  refine va_sld hx hb hX hbl hbA hw.2.2 (vp_in_nI (N := L) (by omega) (by omega)) d_L_law_142 ?_
  rw [nI_clamp (by omega)]
  have hw := y_swap hw
  refine yc_i (va_runV (As := [.int _, .int _, .int _]) (rest := [.int _]) ⟨hx, hb, hml, hown, hts⟩ (c_M_actor l D cc ad2 (wl u.1 u.2.1 (yG cc u.2.2 u.1)) s.heap.size _ μ hi (xs (6 * j + 1)) (xs (6 * j + 2)) (xs (6 * j + 3))) (cwV 3 hts (yg_call mc_M_actor ml_L_17 mm_M_actor ms_M_actor mi_M) rfl rfl rfl (by decide +kernel) ⟨Nat.le_of_ble_eq_true rfl, Nat.le_of_ble_eq_true rfl⟩) (y_preV hI hw (y_recv hK.1 hw mL_o (by rfl) rfl)) rfl rfl hl.1 rfl (lv_room (Nat.le_of_ble_eq_true rfl)) d_L_law_143 ⟨Nat.le_trans (by omega) rc1, Nat.le_trans (by omega) rs1⟩) hw hA (fun r v H locs he hw => ?_)
  obtain ⟨rfl, m1, m2, m3, m4⟩ := he
  have hw := y_swap hw
  refine lv_icmp_eq (tgt := 596) hx hb d_L_law_146 (by decide) (fun c_146 => ?_) (fun c_146 => by exact absurd (by rw [eT, show m_n μ = s_n σ 0 from congrArg yp_n eT]; try rfl) c_146)
  refine W.widen (k := 24 + 8 * (j + 1)) (n := 1945 + 144 * (j + 1)) (by omega) (by omega) ?_
  exact kk u.1 u.2.1 u.2.2 ad2 v _ _ _ ⟨k2, k1, m1, by rw [m2, k3, eT]; try rfl, by rw [m3, k4, eD], by rw [m4, k5, eN]⟩ hw (by rw [lwL_eq k6]; exact hl)
set_option maxHeartbeats 4000000 in
set_option maxRecDepth 100000 in
theorem l_value {p : Program} {l : Launch} {e : Env} {s : State} {m : MethodId} {below : List Frame} {meth : Method} {c : Code} {b L : Nat} {xs : Nat → Int32} {D : va_G} {cc : ClassId × ClassId × ClassId} (C0 : lw_At p s m meth c b L xs) (hK : yK D ycl (yty cc) s.heap.size s) (hL : L ≤ 3072) {j : Nat} (hj : 6 * j + 6 ≤ L) (kk : lwKK p l e s m b below meth c D cc j) {ad : yl → Nat} {LL : List yl} {σ : ys} {ad2 : yl → Nat} {μ : ms} {H : Heap} {locs : List Loc} {ls : Array Slot} (hJ : lwJ σ LL μ) (hw : yH D ycl (lwA s) s.heap H locs (lwW cc ad LL σ ad2 μ)) (hl : lv_has ls 4 (lwL b ad ad2 j)) : lwG p l e s m b below meth c H locs j 151 ls [] := by
  obtain ⟨hx, hb, hr, hml, hown, ht, hts, hX, hbl, hbA, hlocks, hI, hA⟩ := lwC C0 hK
  obtain ⟨J, hLL, hi, eT, eD, eN⟩ := hJ
  have hLs : ∀ q, yL σ q → q ∈ LL := fun q h => (hLL q).mpr h
  have n0 : (0, 0, 0) ∈ LL := hLs _ ⟨rfl, rfl⟩
  refine lv_aload_n hx hb d_L_law_151 rfl (lv_at hl 2 rfl) ?_
  refine lv_aload_n hx hb d_L_law_152 rfl (lv_at hl 1 rfl) ?_
  refine lv_iload_n hx hb d_L_law_153 rfl (lv_at hl 0 rfl) ?_
  refine lv_iconst (v := (nI 1)) hx hb d_L_law_154 (by decide) ?_
  refine lv_iadd hx hb d_L_law_155 ?_
  rw [nI_add]
  refine va_sld hx hb hX hbl hbA hw.2.2 (vp_in_nI (N := L) (by omega) (by omega)) d_L_law_156 ?_
  rw [nI_clamp (by omega)]
  refine lv_aload_n hx hb d_L_law_157 rfl (lv_at hl 1 rfl) ?_
  refine lv_iload_n hx hb d_L_law_158 rfl (lv_at hl 0 rfl) ?_
  refine lv_iconst (v := (nI 2)) hx hb d_L_law_159 (by decide) ?_
  refine lv_iadd hx hb d_L_law_160 ?_
  rw [nI_add]
  refine va_sld hx hb hX hbl hbA hw.2.2 (vp_in_nI (N := L) (by omega) (by omega)) d_L_law_161 ?_
  rw [nI_clamp (by omega)]
  refine yc_i (va_runV (As := [.int _, .int _]) (rest := []) ⟨hx, hb, hml, hown, hts⟩ (c_S_value l D cc ad LL (wl ad2 mLL (mG cc μ ad2)) s.heap.size _ σ hLs J (xs (6 * j + 1)) (xs (6 * j + 2))) (cwV 2 hts (yg_call mc_S_value ml_L_18 mm_S_value ms_S_value mi_S) rfl rfl rfl (by decide +kernel) ⟨Nat.le_of_ble_eq_true rfl, Nat.le_of_ble_eq_true rfl⟩) (y_preV hI hw (y_recv hK.1 hw n0 (by rfl) rfl)) rfl rfl hl.1 rfl (lv_room (Nat.le_of_ble_eq_true rfl)) d_L_law_162 ⟨Nat.le_trans (by omega) rc1, Nat.le_trans (by omega) rs1⟩) hw hA (fun r u H locs he hw => ?_)
  obtain ⟨rfl, k1, k2, k3, k4⟩ := he
  refine lv_aload_n hx hb d_L_law_165 rfl (lv_at hl 3 rfl) ?_
  refine lv_aload_n hx hb d_L_law_166 rfl (lv_at hl 1 rfl) ?_
  refine lv_iload_n hx hb d_L_law_167 rfl (lv_at hl 0 rfl) ?_
  refine lv_iconst (v := (nI 1)) hx hb d_L_law_168 (by decide) ?_
  refine lv_iadd hx hb d_L_law_169 ?_
  rw [nI_add]
  refine va_sld hx hb hX hbl hbA hw.2.2 (vp_in_nI (N := L) (by omega) (by omega)) d_L_law_170 ?_
  rw [nI_clamp (by omega)]
  refine lv_aload_n hx hb d_L_law_171 rfl (lv_at hl 1 rfl) ?_
  refine lv_iload_n hx hb d_L_law_172 rfl (lv_at hl 0 rfl) ?_
  refine lv_iconst (v := (nI 2)) hx hb d_L_law_173 (by decide) ?_
  refine lv_iadd hx hb d_L_law_174 ?_
  rw [nI_add]
  refine va_sld hx hb hX hbl hbA hw.2.2 (vp_in_nI (N := L) (by omega) (by omega)) d_L_law_175 ?_
  rw [nI_clamp (by omega)]
  have hw := y_swap hw
  refine yc_i (va_runV (As := [.int _, .int _]) (rest := [.int _]) ⟨hx, hb, hml, hown, hts⟩ (c_M_value l D cc ad2 (wl ad LL (yG cc u ad)) s.heap.size _ μ hi (xs (6 * j + 1)) (xs (6 * j + 2))) (cwV 2 hts (yg_call mc_M_value ml_L_22 mm_M_value ms_M_value mi_M) rfl rfl rfl (by decide +kernel) ⟨Nat.le_of_ble_eq_true rfl, Nat.le_of_ble_eq_true rfl⟩) (y_preV hI hw (y_recv hK.1 hw mL_o (by rfl) rfl)) rfl rfl hl.1 rfl (lv_room (Nat.le_of_ble_eq_true rfl)) d_L_law_176 ⟨Nat.le_trans (by omega) rc1, Nat.le_trans (by omega) rs1⟩) hw hA (fun r v H locs he hw => ?_)
  obtain ⟨rfl, m1, m2, m3, m4⟩ := he
  have hw := y_swap hw
  refine lv_icmp_eq (tgt := 596) hx hb d_L_law_179 (by decide) (fun c_179 => ?_) (fun c_179 => by exact absurd (by rw [eT]) c_179)
  refine W.widen (k := 24 + 8 * (j + 1)) (n := 1945 + 144 * (j + 1)) (by omega) (by omega) ?_
  exact kk ad LL u ad2 v _ _ _ ⟨k1, fun q => (hLL q).trans (yL_eq k2 q).symm, m1, by rw [m2, k3, eT], by rw [m3, k4, eD], by rw [m4, eN, snc_eq k2]⟩ hw hl
set_option maxHeartbeats 4000000 in
set_option maxRecDepth 100000 in
theorem l_channel {p : Program} {l : Launch} {e : Env} {s : State} {m : MethodId} {below : List Frame} {meth : Method} {c : Code} {b L : Nat} {xs : Nat → Int32} {D : va_G} {cc : ClassId × ClassId × ClassId} (C0 : lw_At p s m meth c b L xs) (hK : yK D ycl (yty cc) s.heap.size s) (hL : L ≤ 3072) {j : Nat} (hj : 6 * j + 6 ≤ L) (kk : lwKK p l e s m b below meth c D cc j) {ad : yl → Nat} {LL : List yl} {σ : ys} {ad2 : yl → Nat} {μ : ms} {H : Heap} {locs : List Loc} {ls : Array Slot} (hJ : lwJ σ LL μ) (hw : yH D ycl (lwA s) s.heap H locs (lwW cc ad LL σ ad2 μ)) (hl : lv_has ls 4 (lwL b ad ad2 j)) : lwG p l e s m b below meth c H locs j 184 ls [] := by
  obtain ⟨hx, hb, hr, hml, hown, ht, hts, hX, hbl, hbA, hlocks, hI, hA⟩ := lwC C0 hK
  obtain ⟨J, hLL, hi, eT, eD, eN⟩ := hJ
  have hLs : ∀ q, yL σ q → q ∈ LL := fun q h => (hLL q).mpr h
  have n0 : (0, 0, 0) ∈ LL := hLs _ ⟨rfl, rfl⟩
  refine lv_aload_n hx hb d_L_law_184 rfl (lv_at hl 2 rfl) ?_
  refine lv_aload_n hx hb d_L_law_185 rfl (lv_at hl 1 rfl) ?_
  refine lv_iload_n hx hb d_L_law_186 rfl (lv_at hl 0 rfl) ?_
  refine lv_iconst (v := (nI 1)) hx hb d_L_law_187 (by decide) ?_
  refine lv_iadd hx hb d_L_law_188 ?_
  rw [nI_add]
  refine va_sld hx hb hX hbl hbA hw.2.2 (vp_in_nI (N := L) (by omega) (by omega)) d_L_law_189 ?_
  rw [nI_clamp (by omega)]
  refine lv_aload_n hx hb d_L_law_190 rfl (lv_at hl 1 rfl) ?_
  refine lv_iload_n hx hb d_L_law_191 rfl (lv_at hl 0 rfl) ?_
  refine lv_iconst (v := (nI 2)) hx hb d_L_law_192 (by decide) ?_
  refine lv_iadd hx hb d_L_law_193 ?_
  rw [nI_add]
  refine va_sld hx hb hX hbl hbA hw.2.2 (vp_in_nI (N := L) (by omega) (by omega)) d_L_law_194 ?_
  rw [nI_clamp (by omega)]
  refine lv_aload_n hx hb d_L_law_195 rfl (lv_at hl 1 rfl) ?_
  refine lv_iload_n hx hb d_L_law_196 rfl (lv_at hl 0 rfl) ?_
  refine lv_iconst (v := (nI 3)) hx hb d_L_law_197 (by decide) ?_
  refine lv_iadd hx hb d_L_law_198 ?_
  rw [nI_add]
  refine va_sld hx hb hX hbl hbA hw.2.2 (vp_in_nI (N := L) (by omega) (by omega)) d_L_law_199 ?_
  rw [nI_clamp (by omega)]
  refine lv_aload_n hx hb d_L_law_200 rfl (lv_at hl 1 rfl) ?_
  refine lv_iload_n hx hb d_L_law_201 rfl (lv_at hl 0 rfl) ?_
  refine lv_iconst (v := (nI 4)) hx hb d_L_law_202 (by decide) ?_
  refine lv_iadd hx hb d_L_law_203 ?_
  rw [nI_add]
  refine va_sld hx hb hX hbl hbA hw.2.2 (vp_in_nI (N := L) (by omega) (by omega)) d_L_law_204 ?_
  rw [nI_clamp (by omega)]
  refine lv_aload_n hx hb d_L_law_205 rfl (lv_at hl 1 rfl) ?_
  refine lv_iload_n hx hb d_L_law_206 rfl (lv_at hl 0 rfl) ?_
  refine lv_iconst (v := (nI 5)) hx hb d_L_law_207 (by decide) ?_
  refine lv_iadd hx hb d_L_law_208 ?_
  rw [nI_add]
  refine va_sld hx hb hX hbl hbA hw.2.2 (vp_in_nI (N := L) (by omega) (by omega)) d_L_law_209 ?_
  rw [nI_clamp (by omega)]
  refine yc_i (va_runV (As := [.int _, .int _, .int _, .int _, .int _]) (rest := []) ⟨hx, hb, hml, hown, hts⟩ (c_S_channel l D cc ad LL (wl ad2 mLL (mG cc μ ad2)) s.heap.size _ σ hLL J (xs (6 * j + 1)) (xs (6 * j + 2)) (xs (6 * j + 3)) (xs (6 * j + 4)) (xs (6 * j + 5))) (cwV 5 hts (yg_call mc_S_channel ml_L_23 mm_S_channel ms_S_channel mi_S) rfl rfl rfl (by decide +kernel) ⟨Nat.le_of_ble_eq_true rfl, Nat.le_of_ble_eq_true rfl⟩) (y_preV hI hw (y_recv hK.1 hw n0 (by rfl) rfl)) rfl rfl hl.1 rfl (lv_room (Nat.le_of_ble_eq_true rfl)) d_L_law_210 ⟨Nat.le_trans (by omega) rc1, Nat.le_trans (by omega) rs1⟩) hw hA (fun r u H locs he hw => ?_)
  obtain ⟨rfl, k1, k2, k3, k4, k5, k6⟩ := he
  refine lv_aload_n hx hb d_L_law_213 rfl (lv_at hl 3 rfl) ?_
  refine lv_aload_n hx hb d_L_law_214 rfl (lv_at hl 1 rfl) ?_
  refine lv_iload_n hx hb d_L_law_215 rfl (lv_at hl 0 rfl) ?_
  refine lv_iconst (v := (nI 1)) hx hb d_L_law_216 (by decide) ?_
  refine lv_iadd hx hb d_L_law_217 ?_
  rw [nI_add]
  refine va_sld hx hb hX hbl hbA hw.2.2 (vp_in_nI (N := L) (by omega) (by omega)) d_L_law_218 ?_
  rw [nI_clamp (by omega)]
  refine lv_aload_n hx hb d_L_law_219 rfl (lv_at hl 1 rfl) ?_
  refine lv_iload_n hx hb d_L_law_220 rfl (lv_at hl 0 rfl) ?_
  refine lv_iconst (v := (nI 2)) hx hb d_L_law_221 (by decide) ?_
  refine lv_iadd hx hb d_L_law_222 ?_
  rw [nI_add]
  refine va_sld hx hb hX hbl hbA hw.2.2 (vp_in_nI (N := L) (by omega) (by omega)) d_L_law_223 ?_
  rw [nI_clamp (by omega)]
  refine lv_aload_n hx hb d_L_law_224 rfl (lv_at hl 1 rfl) ?_
  refine lv_iload_n hx hb d_L_law_225 rfl (lv_at hl 0 rfl) ?_
  refine lv_iconst (v := (nI 3)) hx hb d_L_law_226 (by decide) ?_
  refine lv_iadd hx hb d_L_law_227 ?_
  rw [nI_add]
  refine va_sld hx hb hX hbl hbA hw.2.2 (vp_in_nI (N := L) (by omega) (by omega)) d_L_law_228 ?_
  rw [nI_clamp (by omega)]
  refine lv_aload_n hx hb d_L_law_229 rfl (lv_at hl 1 rfl) ?_
  refine lv_iload_n hx hb d_L_law_230 rfl (lv_at hl 0 rfl) ?_
  refine lv_iconst (v := (nI 4)) hx hb d_L_law_231 (by decide) ?_
  refine lv_iadd hx hb d_L_law_232 ?_
  rw [nI_add]
  refine va_sld hx hb hX hbl hbA hw.2.2 (vp_in_nI (N := L) (by omega) (by omega)) d_L_law_233 ?_
  rw [nI_clamp (by omega)]
  refine lv_aload_n hx hb d_L_law_234 rfl (lv_at hl 1 rfl) ?_
  refine lv_iload_n hx hb d_L_law_235 rfl (lv_at hl 0 rfl) ?_
  refine lv_iconst (v := (nI 5)) hx hb d_L_law_236 (by decide) ?_
  refine lv_iadd hx hb d_L_law_237 ?_
  rw [nI_add]
  refine va_sld hx hb hX hbl hbA hw.2.2 (vp_in_nI (N := L) (by omega) (by omega)) d_L_law_238 ?_
  rw [nI_clamp (by omega)]
  have hw := y_swap hw
  refine yc_i (va_runV (As := [.int _, .int _, .int _, .int _, .int _]) (rest := [.int _]) ⟨hx, hb, hml, hown, hts⟩ (c_M_channel l D cc ad2 (wl u.1 u.2.1 (yG cc u.2.2 u.1)) s.heap.size _ μ hi (xs (6 * j + 1)) (xs (6 * j + 2)) (xs (6 * j + 3)) (xs (6 * j + 4)) (xs (6 * j + 5))) (cwV 5 hts (yg_call mc_M_channel ml_L_27 mm_M_channel ms_M_channel mi_M) rfl rfl rfl (by decide +kernel) ⟨Nat.le_of_ble_eq_true rfl, Nat.le_of_ble_eq_true rfl⟩) (y_preV hI hw (y_recv hK.1 hw mL_o (by rfl) rfl)) rfl rfl hl.1 rfl (lv_room (Nat.le_of_ble_eq_true rfl)) d_L_law_239 ⟨Nat.le_trans (by omega) rc1, Nat.le_trans (by omega) rs1⟩) hw hA (fun r v H locs he hw => ?_)
  obtain ⟨rfl, m1, m2, m3, m4⟩ := he
  have hw := y_swap hw
  refine lv_icmp_eq (tgt := 596) hx hb d_L_law_242 (by decide) (fun c_242 => ?_) (fun c_242 => by exact absurd (by rw [eT, eN]; try rfl) c_242)
  refine W.widen (k := 24 + 8 * (j + 1)) (n := 1945 + 144 * (j + 1)) (by omega) (by omega) ?_
  exact kk u.1 u.2.1 u.2.2 ad2 v _ _ _ ⟨k2, k1, m1, by rw [m2, k3, eT, eN]; try rfl, by rw [m3, k4, eD], by rw [m4, k5, eT, eN]; try rfl⟩ hw (by rw [lwL_eq k6]; exact hl)
set_option maxHeartbeats 4000000 in
set_option maxRecDepth 100000 in
theorem l_can {p : Program} {l : Launch} {e : Env} {s : State} {m : MethodId} {below : List Frame} {meth : Method} {c : Code} {b L : Nat} {xs : Nat → Int32} {D : va_G} {cc : ClassId × ClassId × ClassId} (C0 : lw_At p s m meth c b L xs) (hK : yK D ycl (yty cc) s.heap.size s) (hL : L ≤ 3072) {j : Nat} (hj : 6 * j + 6 ≤ L) (kk : lwKK p l e s m b below meth c D cc j) {ad : yl → Nat} {LL : List yl} {σ : ys} {ad2 : yl → Nat} {μ : ms} {H : Heap} {locs : List Loc} {ls : Array Slot} (hJ : lwJ σ LL μ) (hw : yH D ycl (lwA s) s.heap H locs (lwW cc ad LL σ ad2 μ)) (hl : lv_has ls 4 (lwL b ad ad2 j)) : lwG p l e s m b below meth c H locs j 247 ls [] := by
  obtain ⟨hx, hb, hr, hml, hown, ht, hts, hX, hbl, hbA, hlocks, hI, hA⟩ := lwC C0 hK
  obtain ⟨J, hLL, hi, eT, eD, eN⟩ := hJ
  have hLs : ∀ q, yL σ q → q ∈ LL := fun q h => (hLL q).mpr h
  have n0 : (0, 0, 0) ∈ LL := hLs _ ⟨rfl, rfl⟩
  refine lv_aload_n hx hb d_L_law_247 rfl (lv_at hl 2 rfl) ?_
  refine lv_aload_n hx hb d_L_law_248 rfl (lv_at hl 1 rfl) ?_
  refine lv_iload_n hx hb d_L_law_249 rfl (lv_at hl 0 rfl) ?_
  refine lv_iconst (v := (nI 1)) hx hb d_L_law_250 (by decide) ?_
  refine lv_iadd hx hb d_L_law_251 ?_
  rw [nI_add]
  refine va_sld hx hb hX hbl hbA hw.2.2 (vp_in_nI (N := L) (by omega) (by omega)) d_L_law_252 ?_
  rw [nI_clamp (by omega)]
  refine yc_i (va_runV (As := [.int _]) (rest := []) ⟨hx, hb, hml, hown, hts⟩ (c_S_can l D cc ad LL (wl ad2 mLL (mG cc μ ad2)) s.heap.size _ σ hLs J (xs (6 * j + 1))) (cwV 1 hts (yg_call mc_S_can ml_L_28 mm_S_can ms_S_can mi_S) rfl rfl rfl (by decide +kernel) ⟨Nat.le_of_ble_eq_true rfl, Nat.le_of_ble_eq_true rfl⟩) (y_preV hI hw (y_recv hK.1 hw n0 (by rfl) rfl)) rfl rfl hl.1 rfl (lv_room (Nat.le_of_ble_eq_true rfl)) d_L_law_253 ⟨Nat.le_trans (by omega) rc1, Nat.le_trans (by omega) rs1⟩) hw hA (fun r u H locs he hw => ?_)
  subst he
  refine lv_aload_n hx hb d_L_law_256 rfl (lv_at hl 3 rfl) ?_
  refine lv_aload_n hx hb d_L_law_257 rfl (lv_at hl 1 rfl) ?_
  refine lv_iload_n hx hb d_L_law_258 rfl (lv_at hl 0 rfl) ?_
  refine lv_iconst (v := (nI 1)) hx hb d_L_law_259 (by decide) ?_
  refine lv_iadd hx hb d_L_law_260 ?_
  rw [nI_add]
  refine va_sld hx hb hX hbl hbA hw.2.2 (vp_in_nI (N := L) (by omega) (by omega)) d_L_law_261 ?_
  rw [nI_clamp (by omega)]
  have hw := y_swap hw
  refine yc_i (va_runV (As := [.int _]) (rest := [.int _]) ⟨hx, hb, hml, hown, hts⟩ (c_M_can l D cc ad2 (wl ad LL (yG cc σ ad)) s.heap.size _ μ hi (xs (6 * j + 1))) (cwV 1 hts (yg_call mc_M_can ml_L_32 mm_M_can ms_M_can mi_M) rfl rfl rfl (by decide +kernel) ⟨Nat.le_of_ble_eq_true rfl, Nat.le_of_ble_eq_true rfl⟩) (y_preV hI hw (y_recv hK.1 hw mL_o (by rfl) rfl)) rfl rfl hl.1 rfl (lv_room (Nat.le_of_ble_eq_true rfl)) d_L_law_262 ⟨Nat.le_trans (by omega) rc1, Nat.le_trans (by omega) rs1⟩) hw hA (fun r v H locs he hw => ?_)
  subst he
  have hw := y_swap hw
  refine lv_icmp_eq (tgt := 596) hx hb d_L_law_265 (by decide) (fun c_265 => ?_) (fun c_265 => by exact absurd (by rw [eT, eD]) c_265)
  refine W.widen (k := 24 + 8 * (j + 1)) (n := 1945 + 144 * (j + 1)) (by omega) (by omega) ?_
  exact kk ad LL σ ad2 μ _ _ _ ⟨J, hLL, hi, eT, eD, eN⟩ hw hl
set_option maxHeartbeats 4000000 in
set_option maxRecDepth 100000 in
theorem l_act {p : Program} {l : Launch} {e : Env} {s : State} {m : MethodId} {below : List Frame} {meth : Method} {c : Code} {b L : Nat} {xs : Nat → Int32} {D : va_G} {cc : ClassId × ClassId × ClassId} (C0 : lw_At p s m meth c b L xs) (hK : yK D ycl (yty cc) s.heap.size s) (hL : L ≤ 3072) {j : Nat} (hj : 6 * j + 6 ≤ L) (kk : lwKK p l e s m b below meth c D cc j) {ad : yl → Nat} {LL : List yl} {σ : ys} {ad2 : yl → Nat} {μ : ms} {H : Heap} {locs : List Loc} {ls : Array Slot} (hJ : lwJ σ LL μ) (hw : yH D ycl (lwA s) s.heap H locs (lwW cc ad LL σ ad2 μ)) (hl : lv_has ls 4 (lwL b ad ad2 j)) : lwG p l e s m b below meth c H locs j 270 ls [] := by
  obtain ⟨hx, hb, hr, hml, hown, ht, hts, hX, hbl, hbA, hlocks, hI, hA⟩ := lwC C0 hK
  obtain ⟨J, hLL, hi, eT, eD, eN⟩ := hJ
  have hLs : ∀ q, yL σ q → q ∈ LL := fun q h => (hLL q).mpr h
  have n0 : (0, 0, 0) ∈ LL := hLs _ ⟨rfl, rfl⟩
  refine lv_aload_n hx hb d_L_law_270 rfl (lv_at hl 2 rfl) ?_
  refine lv_aload_n hx hb d_L_law_271 rfl (lv_at hl 1 rfl) ?_
  refine lv_iload_n hx hb d_L_law_272 rfl (lv_at hl 0 rfl) ?_
  refine lv_iconst (v := (nI 1)) hx hb d_L_law_273 (by decide) ?_
  refine lv_iadd hx hb d_L_law_274 ?_
  rw [nI_add]
  refine va_sld hx hb hX hbl hbA hw.2.2 (vp_in_nI (N := L) (by omega) (by omega)) d_L_law_275 ?_
  rw [nI_clamp (by omega)]
  refine yc_i (va_runV (As := [.int _]) (rest := []) ⟨hx, hb, hml, hown, hts⟩ (c_S_act l D cc ad LL (wl ad2 mLL (mG cc μ ad2)) s.heap.size _ σ hLs J (xs (6 * j + 1))) (cwV 1 hts (yg_call mc_S_act ml_L_33 mm_S_act ms_S_act mi_S) rfl rfl rfl (by decide +kernel) ⟨Nat.le_of_ble_eq_true rfl, Nat.le_of_ble_eq_true rfl⟩) (y_preV hI hw (y_recv hK.1 hw n0 (by rfl) rfl)) rfl rfl hl.1 rfl (lv_room (Nat.le_of_ble_eq_true rfl)) d_L_law_276 ⟨Nat.le_trans (by omega) rc1, Nat.le_trans (by omega) rs1⟩) hw hA (fun r u H locs he hw => ?_)
  obtain ⟨rfl, k1, k2, k3, k4⟩ := he
  refine lv_aload_n hx hb d_L_law_279 rfl (lv_at hl 3 rfl) ?_
  refine lv_aload_n hx hb d_L_law_280 rfl (lv_at hl 1 rfl) ?_
  refine lv_iload_n hx hb d_L_law_281 rfl (lv_at hl 0 rfl) ?_
  refine lv_iconst (v := (nI 1)) hx hb d_L_law_282 (by decide) ?_
  refine lv_iadd hx hb d_L_law_283 ?_
  rw [nI_add]
  refine va_sld hx hb hX hbl hbA hw.2.2 (vp_in_nI (N := L) (by omega) (by omega)) d_L_law_284 ?_
  rw [nI_clamp (by omega)]
  have hw := y_swap hw
  refine yc_i (va_runV (As := [.int _]) (rest := [.int _]) ⟨hx, hb, hml, hown, hts⟩ (c_M_act l D cc ad2 (wl ad LL (yG cc u ad)) s.heap.size _ μ hi (xs (6 * j + 1))) (cwV 1 hts (yg_call mc_M_act ml_L_36 mm_M_act ms_M_act mi_M) rfl rfl rfl (by decide +kernel) ⟨Nat.le_of_ble_eq_true rfl, Nat.le_of_ble_eq_true rfl⟩) (y_preV hI hw (y_recv hK.1 hw mL_o (by rfl) rfl)) rfl rfl hl.1 rfl (lv_room (Nat.le_of_ble_eq_true rfl)) d_L_law_285 ⟨Nat.le_trans (by omega) rc1, Nat.le_trans (by omega) rs1⟩) hw hA (fun r v H locs he hw => ?_)
  obtain ⟨rfl, m1, m2, m3⟩ := he
  have hw := y_swap hw
  refine lv_icmp_eq (tgt := 596) hx hb d_L_law_288 (by decide) (fun c_288 => ?_) (fun c_288 => by exact absurd (by rw [eT, eD]) c_288)
  refine W.widen (k := 24 + 8 * (j + 1)) (n := 1945 + 144 * (j + 1)) (by omega) (by omega) ?_
  exact kk ad LL u ad2 v _ _ _ ⟨k1, fun q => (hLL q).trans (yL_eq k2 q).symm, m2, by rw [m1.1.T, eT, k3], by rw [m3, eT, eD, k4], by rw [m1.1.2.1, eN, snc_eq k2]⟩ hw hl
set_option maxHeartbeats 4000000 in
set_option maxRecDepth 100000 in
theorem l_run {p : Program} {l : Launch} {e : Env} {s : State} {m : MethodId} {below : List Frame} {meth : Method} {c : Code} {b L : Nat} {xs : Nat → Int32} {D : va_G} {cc : ClassId × ClassId × ClassId} (C0 : lw_At p s m meth c b L xs) (hK : yK D ycl (yty cc) s.heap.size s) (hL : L ≤ 3072) {j : Nat} (hj : 6 * j + 6 ≤ L) (kk : lwKK p l e s m b below meth c D cc j) {ad : yl → Nat} {LL : List yl} {σ : ys} {ad2 : yl → Nat} {μ : ms} {H : Heap} {locs : List Loc} {ls : Array Slot} (hJ : lwJ σ LL μ) (hw : yH D ycl (lwA s) s.heap H locs (lwW cc ad LL σ ad2 μ)) (hl : lv_has ls 4 (lwL b ad ad2 j)) : lwG p l e s m b below meth c H locs j 293 ls [] := by
  obtain ⟨hx, hb, hr, hml, hown, ht, hts, hX, hbl, hbA, hlocks, hI, hA⟩ := lwC C0 hK
  obtain ⟨J, hLL, hi, eT, eD, eN⟩ := hJ
  have hLs : ∀ q, yL σ q → q ∈ LL := fun q h => (hLL q).mpr h
  have n0 : (0, 0, 0) ∈ LL := hLs _ ⟨rfl, rfl⟩
  refine lv_aload_n hx hb d_L_law_293 rfl (lv_at hl 2 rfl) ?_
  refine lv_aload_n hx hb d_L_law_294 rfl (lv_at hl 1 rfl) ?_
  refine lv_iload_n hx hb d_L_law_295 rfl (lv_at hl 0 rfl) ?_
  refine lv_iconst (v := (nI 1)) hx hb d_L_law_296 (by decide) ?_
  refine lv_iadd hx hb d_L_law_297 ?_
  rw [nI_add]
  refine va_sld hx hb hX hbl hbA hw.2.2 (vp_in_nI (N := L) (by omega) (by omega)) d_L_law_298 ?_
  rw [nI_clamp (by omega)]
  refine lv_i2l hx hb d_L_law_299 rfl ?_
  refine lv_bipush (v := 32) hx hb d_L_law_300 (by decide) ?_
  refine lv_lshl hx hb d_L_law_302 rfl ?_
  refine lv_aload_n hx hb d_L_law_303 rfl (lv_at hl 1 rfl) ?_
  refine lv_iload_n hx hb d_L_law_304 rfl (lv_at hl 0 rfl) ?_
  refine lv_iconst (v := (nI 2)) hx hb d_L_law_305 (by decide) ?_
  refine lv_iadd hx hb d_L_law_306 ?_
  rw [nI_add]
  refine va_sld hx hb hX hbl hbA hw.2.2 (vp_in_nI (N := L) (by omega) (by omega)) d_L_law_307 ?_
  rw [nI_clamp (by omega)]
  refine lv_i2l hx hb d_L_law_308 rfl ?_
  refine lv_ldc2 hx hb hown (ht _ mq_L_37) d_L_law_309 ?_
  refine lv_land hx hb d_L_law_312 ?_
  refine lv_lor hx hb d_L_law_313 ?_
  refine lv_aload_n hx hb d_L_law_314 rfl (lv_at hl 1 rfl) ?_
  refine lv_iload_n hx hb d_L_law_315 rfl (lv_at hl 0 rfl) ?_
  refine lv_iconst (v := (nI 3)) hx hb d_L_law_316 (by decide) ?_
  refine lv_iadd hx hb d_L_law_317 ?_
  rw [nI_add]
  refine va_sld hx hb hX hbl hbA hw.2.2 (vp_in_nI (N := L) (by omega) (by omega)) d_L_law_318 ?_
  rw [nI_clamp (by omega)]
  refine yc_i (va_runV (As := [.long _, .int _]) (rest := []) ⟨hx, hb, hml, hown, hts⟩ (c_S_run l D cc ad LL (wl ad2 mLL (mG cc μ ad2)) s.heap.size _ σ hLs J _ (xs (6 * j + 3))) (cwV 2 hts (yg_call mc_S_run ml_L_39 mm_S_run ms_S_run mi_S) rfl rfl rfl (by decide +kernel) ⟨Nat.le_of_ble_eq_true rfl, Nat.le_of_ble_eq_true rfl⟩) (y_preV hI hw (y_recv hK.1 hw n0 (by rfl) rfl)) rfl rfl hl.1 rfl (lv_room (Nat.le_of_ble_eq_true rfl)) d_L_law_319 ⟨Nat.le_trans (by omega) rc1, Nat.le_trans (by omega) rs1⟩) hw hA (fun r u H locs he hw => ?_)
  obtain ⟨rfl, k1, k2, k3, k4⟩ := he
  refine lv_aload_n hx hb d_L_law_322 rfl (lv_at hl 3 rfl) ?_
  refine lv_aload_n hx hb d_L_law_323 rfl (lv_at hl 1 rfl) ?_
  refine lv_iload_n hx hb d_L_law_324 rfl (lv_at hl 0 rfl) ?_
  refine lv_iconst (v := (nI 1)) hx hb d_L_law_325 (by decide) ?_
  refine lv_iadd hx hb d_L_law_326 ?_
  rw [nI_add]
  refine va_sld hx hb hX hbl hbA hw.2.2 (vp_in_nI (N := L) (by omega) (by omega)) d_L_law_327 ?_
  rw [nI_clamp (by omega)]
  refine lv_i2l hx hb d_L_law_328 rfl ?_
  refine lv_bipush (v := 32) hx hb d_L_law_329 (by decide) ?_
  refine lv_lshl hx hb d_L_law_331 rfl ?_
  refine lv_aload_n hx hb d_L_law_332 rfl (lv_at hl 1 rfl) ?_
  refine lv_iload_n hx hb d_L_law_333 rfl (lv_at hl 0 rfl) ?_
  refine lv_iconst (v := (nI 2)) hx hb d_L_law_334 (by decide) ?_
  refine lv_iadd hx hb d_L_law_335 ?_
  rw [nI_add]
  refine va_sld hx hb hX hbl hbA hw.2.2 (vp_in_nI (N := L) (by omega) (by omega)) d_L_law_336 ?_
  rw [nI_clamp (by omega)]
  refine lv_i2l hx hb d_L_law_337 rfl ?_
  refine lv_ldc2 hx hb hown (ht _ mq_L_37) d_L_law_338 ?_
  refine lv_land hx hb d_L_law_341 ?_
  refine lv_lor hx hb d_L_law_342 ?_
  refine lv_aload_n hx hb d_L_law_343 rfl (lv_at hl 1 rfl) ?_
  refine lv_iload_n hx hb d_L_law_344 rfl (lv_at hl 0 rfl) ?_
  refine lv_iconst (v := (nI 3)) hx hb d_L_law_345 (by decide) ?_
  refine lv_iadd hx hb d_L_law_346 ?_
  rw [nI_add]
  refine va_sld hx hb hX hbl hbA hw.2.2 (vp_in_nI (N := L) (by omega) (by omega)) d_L_law_347 ?_
  rw [nI_clamp (by omega)]
  have hw := y_swap hw
  refine yc_i (va_runV (As := [.long _, .int _]) (rest := [.int _]) ⟨hx, hb, hml, hown, hts⟩ (c_M_run l D cc ad2 (wl ad LL (yG cc u ad)) s.heap.size _ μ hi _ (xs (6 * j + 3))) (cwV 2 hts (yg_call mc_M_run ml_L_43 mm_M_run ms_M_run mi_M) rfl rfl rfl (by decide +kernel) ⟨Nat.le_of_ble_eq_true rfl, Nat.le_of_ble_eq_true rfl⟩) (y_preV hI hw (y_recv hK.1 hw mL_o (by rfl) rfl)) rfl rfl hl.1 rfl (lv_room (Nat.le_of_ble_eq_true rfl)) d_L_law_348 ⟨Nat.le_trans (by omega) rc1, Nat.le_trans (by omega) rs1⟩) hw hA (fun r v H locs he hw => ?_)
  obtain ⟨rfl, m1, m2, m3⟩ := he
  have hw := y_swap hw
  refine lv_icmp_eq (tgt := 596) hx hb d_L_law_351 (by decide) (fun c_351 => ?_) (fun c_351 => by exact absurd (by rw [eT, eD]) c_351)
  refine W.widen (k := 24 + 8 * (j + 1)) (n := 1945 + 144 * (j + 1)) (by omega) (by omega) ?_
  exact kk ad LL u ad2 v _ _ _ ⟨k1, fun q => (hLL q).trans (yL_eq k2 q).symm, m2, by rw [m1.1.T, eT, k3], by rw [m3, eT, eD, k4], by rw [m1.1.2.1, eN, snc_eq k2]⟩ hw hl
set_option maxHeartbeats 4000000 in
set_option maxRecDepth 100000 in
theorem l_acted {p : Program} {l : Launch} {e : Env} {s : State} {m : MethodId} {below : List Frame} {meth : Method} {c : Code} {b L : Nat} {xs : Nat → Int32} {D : va_G} {cc : ClassId × ClassId × ClassId} (C0 : lw_At p s m meth c b L xs) (hK : yK D ycl (yty cc) s.heap.size s) (hL : L ≤ 3072) {j : Nat} (hj : 6 * j + 6 ≤ L) (kk : lwKK p l e s m b below meth c D cc j) {ad : yl → Nat} {LL : List yl} {σ : ys} {ad2 : yl → Nat} {μ : ms} {H : Heap} {locs : List Loc} {ls : Array Slot} (hJ : lwJ σ LL μ) (hw : yH D ycl (lwA s) s.heap H locs (lwW cc ad LL σ ad2 μ)) (hl : lv_has ls 4 (lwL b ad ad2 j)) : lwG p l e s m b below meth c H locs j 356 ls [] := by
  obtain ⟨hx, hb, hr, hml, hown, ht, hts, hX, hbl, hbA, hlocks, hI, hA⟩ := lwC C0 hK
  obtain ⟨J, hLL, hi, eT, eD, eN⟩ := hJ
  have hLs : ∀ q, yL σ q → q ∈ LL := fun q h => (hLL q).mpr h
  have n0 : (0, 0, 0) ∈ LL := hLs _ ⟨rfl, rfl⟩
  refine lv_aload_n hx hb d_L_law_356 rfl (lv_at hl 2 rfl) ?_
  refine lv_aload_n hx hb d_L_law_357 rfl (lv_at hl 1 rfl) ?_
  refine lv_iload_n hx hb d_L_law_358 rfl (lv_at hl 0 rfl) ?_
  refine lv_iconst (v := (nI 1)) hx hb d_L_law_359 (by decide) ?_
  refine lv_iadd hx hb d_L_law_360 ?_
  rw [nI_add]
  refine va_sld hx hb hX hbl hbA hw.2.2 (vp_in_nI (N := L) (by omega) (by omega)) d_L_law_361 ?_
  rw [nI_clamp (by omega)]
  refine yc_i (va_runV (As := [.int _]) (rest := []) ⟨hx, hb, hml, hown, hts⟩ (c_S_acted l D cc ad LL (wl ad2 mLL (mG cc μ ad2)) s.heap.size _ σ hLs J (xs (6 * j + 1))) (cwV 1 hts (yg_call mc_S_acted ml_L_44 mm_S_acted ms_S_acted mi_S) rfl rfl rfl (by decide +kernel) ⟨Nat.le_of_ble_eq_true rfl, Nat.le_of_ble_eq_true rfl⟩) (y_preV hI hw (y_recv hK.1 hw n0 (by rfl) rfl)) rfl rfl hl.1 rfl (lv_room (Nat.le_of_ble_eq_true rfl)) d_L_law_362 ⟨Nat.le_trans (by omega) rc1, Nat.le_trans (by omega) rs1⟩) hw hA (fun r u H locs he hw => ?_)
  subst he
  refine lv_aload_n hx hb d_L_law_365 rfl (lv_at hl 3 rfl) ?_
  refine lv_aload_n hx hb d_L_law_366 rfl (lv_at hl 1 rfl) ?_
  refine lv_iload_n hx hb d_L_law_367 rfl (lv_at hl 0 rfl) ?_
  refine lv_iconst (v := (nI 1)) hx hb d_L_law_368 (by decide) ?_
  refine lv_iadd hx hb d_L_law_369 ?_
  rw [nI_add]
  refine va_sld hx hb hX hbl hbA hw.2.2 (vp_in_nI (N := L) (by omega) (by omega)) d_L_law_370 ?_
  rw [nI_clamp (by omega)]
  have hw := y_swap hw
  refine yc_i (va_runV (As := [.int _]) (rest := [.int _]) ⟨hx, hb, hml, hown, hts⟩ (c_M_acted l D cc ad2 (wl ad LL (yG cc σ ad)) s.heap.size _ μ hi (xs (6 * j + 1))) (cwV 1 hts (yg_call mc_M_acted ml_L_48 mm_M_acted ms_M_acted mi_M) rfl rfl rfl (by decide +kernel) ⟨Nat.le_of_ble_eq_true rfl, Nat.le_of_ble_eq_true rfl⟩) (y_preV hI hw (y_recv hK.1 hw mL_o (by rfl) rfl)) rfl rfl hl.1 rfl (lv_room (Nat.le_of_ble_eq_true rfl)) d_L_law_371 ⟨Nat.le_trans (by omega) rc1, Nat.le_trans (by omega) rs1⟩) hw hA (fun r v H locs he hw => ?_)
  subst he
  have hw := y_swap hw
  refine lv_icmp_eq (tgt := 596) hx hb d_L_law_374 (by decide) (fun c_374 => ?_) (fun c_374 => by exact absurd (by rw [eT, eD]) c_374)
  refine W.widen (k := 24 + 8 * (j + 1)) (n := 1945 + 144 * (j + 1)) (by omega) (by omega) ?_
  exact kk ad LL σ ad2 μ _ _ _ ⟨J, hLL, hi, eT, eD, eN⟩ hw hl
set_option maxHeartbeats 4000000 in
set_option maxRecDepth 100000 in
theorem l_kept {p : Program} {l : Launch} {e : Env} {s : State} {m : MethodId} {below : List Frame} {meth : Method} {c : Code} {b L : Nat} {xs : Nat → Int32} {D : va_G} {cc : ClassId × ClassId × ClassId} (C0 : lw_At p s m meth c b L xs) (hK : yK D ycl (yty cc) s.heap.size s) (hL : L ≤ 3072) {j : Nat} (hj : 6 * j + 6 ≤ L) (kk : lwKK p l e s m b below meth c D cc j) {ad : yl → Nat} {LL : List yl} {σ : ys} {ad2 : yl → Nat} {μ : ms} {H : Heap} {locs : List Loc} {ls : Array Slot} (hJ : lwJ σ LL μ) (hw : yH D ycl (lwA s) s.heap H locs (lwW cc ad LL σ ad2 μ)) (hl : lv_has ls 4 (lwL b ad ad2 j)) : lwG p l e s m b below meth c H locs j 379 ls [] := by
  obtain ⟨hx, hb, hr, hml, hown, ht, hts, hX, hbl, hbA, hlocks, hI, hA⟩ := lwC C0 hK
  obtain ⟨J, hLL, hi, eT, eD, eN⟩ := hJ
  have hLs : ∀ q, yL σ q → q ∈ LL := fun q h => (hLL q).mpr h
  have n0 : (0, 0, 0) ∈ LL := hLs _ ⟨rfl, rfl⟩
  refine lv_aload_n hx hb d_L_law_379 rfl (lv_at hl 2 rfl) ?_
  refine lv_aload_n hx hb d_L_law_380 rfl (lv_at hl 1 rfl) ?_
  refine lv_iload_n hx hb d_L_law_381 rfl (lv_at hl 0 rfl) ?_
  refine lv_iconst (v := (nI 1)) hx hb d_L_law_382 (by decide) ?_
  refine lv_iadd hx hb d_L_law_383 ?_
  rw [nI_add]
  refine va_sld hx hb hX hbl hbA hw.2.2 (vp_in_nI (N := L) (by omega) (by omega)) d_L_law_384 ?_
  rw [nI_clamp (by omega)]
  refine yc_i (va_runV (As := [.int _]) (rest := []) ⟨hx, hb, hml, hown, hts⟩ (c_S_kept l D cc ad LL (wl ad2 mLL (mG cc μ ad2)) s.heap.size _ σ hLs J (xs (6 * j + 1))) (cwV 1 hts (yg_call mc_S_kept ml_L_49 mm_S_kept ms_S_kept mi_S) rfl rfl rfl (by decide +kernel) ⟨Nat.le_of_ble_eq_true rfl, Nat.le_of_ble_eq_true rfl⟩) (y_preV hI hw (y_recv hK.1 hw n0 (by rfl) rfl)) rfl rfl hl.1 rfl (lv_room (Nat.le_of_ble_eq_true rfl)) d_L_law_385 ⟨Nat.le_trans (by omega) rc1, Nat.le_trans (by omega) rs1⟩) hw hA (fun r u H locs he hw => ?_)
  subst he
  refine lv_aload_n hx hb d_L_law_388 rfl (lv_at hl 3 rfl) ?_
  refine lv_aload_n hx hb d_L_law_389 rfl (lv_at hl 1 rfl) ?_
  refine lv_iload_n hx hb d_L_law_390 rfl (lv_at hl 0 rfl) ?_
  refine lv_iconst (v := (nI 1)) hx hb d_L_law_391 (by decide) ?_
  refine lv_iadd hx hb d_L_law_392 ?_
  rw [nI_add]
  refine va_sld hx hb hX hbl hbA hw.2.2 (vp_in_nI (N := L) (by omega) (by omega)) d_L_law_393 ?_
  rw [nI_clamp (by omega)]
  have hw := y_swap hw
  refine yc_i (va_runV (As := [.int _]) (rest := [.int _]) ⟨hx, hb, hml, hown, hts⟩ (c_M_kept l D cc ad2 (wl ad LL (yG cc σ ad)) s.heap.size _ μ hi (xs (6 * j + 1))) (cwV 1 hts (yg_call mc_M_kept ml_L_52 mm_M_kept ms_M_kept mi_M) rfl rfl rfl (by decide +kernel) ⟨Nat.le_of_ble_eq_true rfl, Nat.le_of_ble_eq_true rfl⟩) (y_preV hI hw (y_recv hK.1 hw mL_o (by rfl) rfl)) rfl rfl hl.1 rfl (lv_room (Nat.le_of_ble_eq_true rfl)) d_L_law_394 ⟨Nat.le_trans (by omega) rc1, Nat.le_trans (by omega) rs1⟩) hw hA (fun r v H locs he hw => ?_)
  subst he
  have hw := y_swap hw
  refine lv_icmp_eq (tgt := 596) hx hb d_L_law_397 (by decide) (fun c_397 => ?_) (fun c_397 => by exact absurd (by rw [eT, eD]) c_397)
  refine W.widen (k := 24 + 8 * (j + 1)) (n := 1945 + 144 * (j + 1)) (by omega) (by omega) ?_
  exact kk ad LL σ ad2 μ _ _ _ ⟨J, hLL, hi, eT, eD, eN⟩ hw hl
set_option maxHeartbeats 4000000 in
set_option maxRecDepth 100000 in
theorem l_at {p : Program} {l : Launch} {e : Env} {s : State} {m : MethodId} {below : List Frame} {meth : Method} {c : Code} {b L : Nat} {xs : Nat → Int32} {D : va_G} {cc : ClassId × ClassId × ClassId} (C0 : lw_At p s m meth c b L xs) (hK : yK D ycl (yty cc) s.heap.size s) (hL : L ≤ 3072) {j : Nat} (hj : 6 * j + 6 ≤ L) (kk : lwKK p l e s m b below meth c D cc j) {ad : yl → Nat} {LL : List yl} {σ : ys} {ad2 : yl → Nat} {μ : ms} {H : Heap} {locs : List Loc} {ls : Array Slot} (hJ : lwJ σ LL μ) (hw : yH D ycl (lwA s) s.heap H locs (lwW cc ad LL σ ad2 μ)) (hl : lv_has ls 4 (lwL b ad ad2 j)) : lwG p l e s m b below meth c H locs j 402 ls [] := by
  obtain ⟨hx, hb, hr, hml, hown, ht, hts, hX, hbl, hbA, hlocks, hI, hA⟩ := lwC C0 hK
  obtain ⟨J, hLL, hi, eT, eD, eN⟩ := hJ
  have hLs : ∀ q, yL σ q → q ∈ LL := fun q h => (hLL q).mpr h
  have n0 : (0, 0, 0) ∈ LL := hLs _ ⟨rfl, rfl⟩
  refine lv_aload_n hx hb d_L_law_402 rfl (lv_at hl 2 rfl) ?_
  refine lv_aload_n hx hb d_L_law_403 rfl (lv_at hl 1 rfl) ?_
  refine lv_iload_n hx hb d_L_law_404 rfl (lv_at hl 0 rfl) ?_
  refine lv_iconst (v := (nI 1)) hx hb d_L_law_405 (by decide) ?_
  refine lv_iadd hx hb d_L_law_406 ?_
  rw [nI_add]
  refine va_sld hx hb hX hbl hbA hw.2.2 (vp_in_nI (N := L) (by omega) (by omega)) d_L_law_407 ?_
  rw [nI_clamp (by omega)]
  refine lv_aload_n hx hb d_L_law_408 rfl (lv_at hl 1 rfl) ?_
  refine lv_iload_n hx hb d_L_law_409 rfl (lv_at hl 0 rfl) ?_
  refine lv_iconst (v := (nI 2)) hx hb d_L_law_410 (by decide) ?_
  refine lv_iadd hx hb d_L_law_411 ?_
  rw [nI_add]
  refine va_sld hx hb hX hbl hbA hw.2.2 (vp_in_nI (N := L) (by omega) (by omega)) d_L_law_412 ?_
  rw [nI_clamp (by omega)]
  refine yc_l (va_runV (As := [.int _, .int _]) (rest := []) ⟨hx, hb, hml, hown, hts⟩ (c_S_at l D cc ad LL (wl ad2 mLL (mG cc μ ad2)) s.heap.size _ σ hLs J (xs (6 * j + 1)) (xs (6 * j + 2))) (cwV 2 hts (yg_call mc_S_at ml_L_53 mm_S_at ms_S_at mi_S) rfl rfl rfl (by decide +kernel) ⟨Nat.le_of_ble_eq_true rfl, Nat.le_of_ble_eq_true rfl⟩) (y_preV hI hw (y_recv hK.1 hw n0 (by rfl) rfl)) rfl rfl hl.1 rfl (lv_room (Nat.le_of_ble_eq_true rfl)) d_L_law_413 ⟨Nat.le_trans (by omega) rc1, Nat.le_trans (by omega) rs1⟩) hw hA (fun r u H locs he hw => ?_)
  subst he
  refine lv_aload_n hx hb d_L_law_416 rfl (lv_at hl 3 rfl) ?_
  refine lv_aload_n hx hb d_L_law_417 rfl (lv_at hl 1 rfl) ?_
  refine lv_iload_n hx hb d_L_law_418 rfl (lv_at hl 0 rfl) ?_
  refine lv_iconst (v := (nI 1)) hx hb d_L_law_419 (by decide) ?_
  refine lv_iadd hx hb d_L_law_420 ?_
  rw [nI_add]
  refine va_sld hx hb hX hbl hbA hw.2.2 (vp_in_nI (N := L) (by omega) (by omega)) d_L_law_421 ?_
  rw [nI_clamp (by omega)]
  refine lv_aload_n hx hb d_L_law_422 rfl (lv_at hl 1 rfl) ?_
  refine lv_iload_n hx hb d_L_law_423 rfl (lv_at hl 0 rfl) ?_
  refine lv_iconst (v := (nI 2)) hx hb d_L_law_424 (by decide) ?_
  refine lv_iadd hx hb d_L_law_425 ?_
  rw [nI_add]
  refine va_sld hx hb hX hbl hbA hw.2.2 (vp_in_nI (N := L) (by omega) (by omega)) d_L_law_426 ?_
  rw [nI_clamp (by omega)]
  have hw := y_swap hw
  refine yc_l (va_runV (As := [.int _, .int _]) (rest := [.long _]) ⟨hx, hb, hml, hown, hts⟩ (c_M_at l D cc ad2 (wl ad LL (yG cc σ ad)) s.heap.size _ μ hi (xs (6 * j + 1)) (xs (6 * j + 2))) (cwV 2 hts (yg_call mc_M_at ml_L_57 mm_M_at ms_M_at mi_M) rfl rfl rfl (by decide +kernel) ⟨Nat.le_of_ble_eq_true rfl, Nat.le_of_ble_eq_true rfl⟩) (y_preV hI hw (y_recv hK.1 hw mL_o (by rfl) rfl)) rfl rfl hl.1 rfl (lv_room (Nat.le_of_ble_eq_true rfl)) d_L_law_427 ⟨Nat.le_trans (by omega) rc1, Nat.le_trans (by omega) rs1⟩) hw hA (fun r v H locs he hw => ?_)
  subst he
  have hw := y_swap hw
  refine W.lcmp hx hb d_L_law_430 ?_
  refine lv_if_eq (tgt := 596) hx hb d_L_law_431 (by decide) (fun c_431 => ?_) (fun c_431 => by exact absurd (lcmp_z (by rw [eT, eD])) c_431)
  refine W.widen (k := 24 + 8 * (j + 1)) (n := 1945 + 144 * (j + 1)) (by omega) (by omega) ?_
  exact kk ad LL σ ad2 μ _ _ _ ⟨J, hLL, hi, eT, eD, eN⟩ hw hl
set_option maxHeartbeats 4000000 in
set_option maxRecDepth 100000 in
theorem l_waits {p : Program} {l : Launch} {e : Env} {s : State} {m : MethodId} {below : List Frame} {meth : Method} {c : Code} {b L : Nat} {xs : Nat → Int32} {D : va_G} {cc : ClassId × ClassId × ClassId} (C0 : lw_At p s m meth c b L xs) (hK : yK D ycl (yty cc) s.heap.size s) (hL : L ≤ 3072) {j : Nat} (hj : 6 * j + 6 ≤ L) (kk : lwKK p l e s m b below meth c D cc j) {ad : yl → Nat} {LL : List yl} {σ : ys} {ad2 : yl → Nat} {μ : ms} {H : Heap} {locs : List Loc} {ls : Array Slot} (hJ : lwJ σ LL μ) (hw : yH D ycl (lwA s) s.heap H locs (lwW cc ad LL σ ad2 μ)) (hl : lv_has ls 4 (lwL b ad ad2 j)) : lwG p l e s m b below meth c H locs j 436 ls [] := by
  obtain ⟨hx, hb, hr, hml, hown, ht, hts, hX, hbl, hbA, hlocks, hI, hA⟩ := lwC C0 hK
  obtain ⟨J, hLL, hi, eT, eD, eN⟩ := hJ
  have hLs : ∀ q, yL σ q → q ∈ LL := fun q h => (hLL q).mpr h
  have n0 : (0, 0, 0) ∈ LL := hLs _ ⟨rfl, rfl⟩
  refine lv_aload_n hx hb d_L_law_436 rfl (lv_at hl 2 rfl) ?_
  refine lv_aload_n hx hb d_L_law_437 rfl (lv_at hl 1 rfl) ?_
  refine lv_iload_n hx hb d_L_law_438 rfl (lv_at hl 0 rfl) ?_
  refine lv_iconst (v := (nI 1)) hx hb d_L_law_439 (by decide) ?_
  refine lv_iadd hx hb d_L_law_440 ?_
  rw [nI_add]
  refine va_sld hx hb hX hbl hbA hw.2.2 (vp_in_nI (N := L) (by omega) (by omega)) d_L_law_441 ?_
  rw [nI_clamp (by omega)]
  refine yc_i (va_runV (As := [.int _]) (rest := []) ⟨hx, hb, hml, hown, hts⟩ (c_S_waits l D cc ad LL (wl ad2 mLL (mG cc μ ad2)) s.heap.size _ σ hLs J (xs (6 * j + 1))) (cwV 1 hts (yg_call mc_S_waits ml_L_58 mm_S_waits ms_S_waits mi_S) rfl rfl rfl (by decide +kernel) ⟨Nat.le_of_ble_eq_true rfl, Nat.le_of_ble_eq_true rfl⟩) (y_preV hI hw (y_recv hK.1 hw n0 (by rfl) rfl)) rfl rfl hl.1 rfl (lv_room (Nat.le_of_ble_eq_true rfl)) d_L_law_442 ⟨Nat.le_trans (by omega) rc1, Nat.le_trans (by omega) rs1⟩) hw hA (fun r u H locs he hw => ?_)
  subst he
  refine lv_aload_n hx hb d_L_law_445 rfl (lv_at hl 3 rfl) ?_
  refine lv_aload_n hx hb d_L_law_446 rfl (lv_at hl 1 rfl) ?_
  refine lv_iload_n hx hb d_L_law_447 rfl (lv_at hl 0 rfl) ?_
  refine lv_iconst (v := (nI 1)) hx hb d_L_law_448 (by decide) ?_
  refine lv_iadd hx hb d_L_law_449 ?_
  rw [nI_add]
  refine va_sld hx hb hX hbl hbA hw.2.2 (vp_in_nI (N := L) (by omega) (by omega)) d_L_law_450 ?_
  rw [nI_clamp (by omega)]
  have hw := y_swap hw
  refine yc_i (va_runV (As := [.int _]) (rest := [.int _]) ⟨hx, hb, hml, hown, hts⟩ (c_M_waits l D cc ad2 (wl ad LL (yG cc σ ad)) s.heap.size _ μ hi (xs (6 * j + 1))) (cwV 1 hts (yg_call mc_M_waits ml_L_61 mm_M_waits ms_M_waits mi_M) rfl rfl rfl (by decide +kernel) ⟨Nat.le_of_ble_eq_true rfl, Nat.le_of_ble_eq_true rfl⟩) (y_preV hI hw (y_recv hK.1 hw mL_o (by rfl) rfl)) rfl rfl hl.1 rfl (lv_room (Nat.le_of_ble_eq_true rfl)) d_L_law_451 ⟨Nat.le_trans (by omega) rc1, Nat.le_trans (by omega) rs1⟩) hw hA (fun r v H locs he hw => ?_)
  subst he
  have hw := y_swap hw
  refine lv_icmp_eq (tgt := 596) hx hb d_L_law_454 (by decide) (fun c_454 => ?_) (fun c_454 => by exact absurd (by rw [eN, eD]) c_454)
  refine W.widen (k := 24 + 8 * (j + 1)) (n := 1945 + 144 * (j + 1)) (by omega) (by omega) ?_
  exact kk ad LL σ ad2 μ _ _ _ ⟨J, hLL, hi, eT, eD, eN⟩ hw hl
set_option maxHeartbeats 4000000 in
set_option maxRecDepth 100000 in
theorem l_waiting {p : Program} {l : Launch} {e : Env} {s : State} {m : MethodId} {below : List Frame} {meth : Method} {c : Code} {b L : Nat} {xs : Nat → Int32} {D : va_G} {cc : ClassId × ClassId × ClassId} (C0 : lw_At p s m meth c b L xs) (hK : yK D ycl (yty cc) s.heap.size s) (hL : L ≤ 3072) {j : Nat} (hj : 6 * j + 6 ≤ L) (kk : lwKK p l e s m b below meth c D cc j) {ad : yl → Nat} {LL : List yl} {σ : ys} {ad2 : yl → Nat} {μ : ms} {H : Heap} {locs : List Loc} {ls : Array Slot} (hJ : lwJ σ LL μ) (hw : yH D ycl (lwA s) s.heap H locs (lwW cc ad LL σ ad2 μ)) (hl : lv_has ls 4 (lwL b ad ad2 j)) : lwG p l e s m b below meth c H locs j 459 ls [] := by
  obtain ⟨hx, hb, hr, hml, hown, ht, hts, hX, hbl, hbA, hlocks, hI, hA⟩ := lwC C0 hK
  obtain ⟨J, hLL, hi, eT, eD, eN⟩ := hJ
  have hLs : ∀ q, yL σ q → q ∈ LL := fun q h => (hLL q).mpr h
  have n0 : (0, 0, 0) ∈ LL := hLs _ ⟨rfl, rfl⟩
  refine lv_aload_n hx hb d_L_law_459 rfl (lv_at hl 2 rfl) ?_
  refine lv_aload_n hx hb d_L_law_460 rfl (lv_at hl 1 rfl) ?_
  refine lv_iload_n hx hb d_L_law_461 rfl (lv_at hl 0 rfl) ?_
  refine lv_iconst (v := (nI 1)) hx hb d_L_law_462 (by decide) ?_
  refine lv_iadd hx hb d_L_law_463 ?_
  rw [nI_add]
  refine va_sld hx hb hX hbl hbA hw.2.2 (vp_in_nI (N := L) (by omega) (by omega)) d_L_law_464 ?_
  rw [nI_clamp (by omega)]
  refine lv_aload_n hx hb d_L_law_465 rfl (lv_at hl 1 rfl) ?_
  refine lv_iload_n hx hb d_L_law_466 rfl (lv_at hl 0 rfl) ?_
  refine lv_iconst (v := (nI 2)) hx hb d_L_law_467 (by decide) ?_
  refine lv_iadd hx hb d_L_law_468 ?_
  rw [nI_add]
  refine va_sld hx hb hX hbl hbA hw.2.2 (vp_in_nI (N := L) (by omega) (by omega)) d_L_law_469 ?_
  rw [nI_clamp (by omega)]
  refine yc_l (va_runV (As := [.int _, .int _]) (rest := []) ⟨hx, hb, hml, hown, hts⟩ (c_S_waiting l D cc ad LL (wl ad2 mLL (mG cc μ ad2)) s.heap.size _ σ hLs J (xs (6 * j + 1)) (xs (6 * j + 2))) (cwV 2 hts (yg_call mc_S_waiting ml_L_62 mm_S_waiting ms_S_waiting mi_S) rfl rfl rfl (by decide +kernel) ⟨Nat.le_of_ble_eq_true rfl, Nat.le_of_ble_eq_true rfl⟩) (y_preV hI hw (y_recv hK.1 hw n0 (by rfl) rfl)) rfl rfl hl.1 rfl (lv_room (Nat.le_of_ble_eq_true rfl)) d_L_law_470 ⟨Nat.le_trans (by omega) rc1, Nat.le_trans (by omega) rs1⟩) hw hA (fun r u H locs he hw => ?_)
  subst he
  refine lv_aload_n hx hb d_L_law_473 rfl (lv_at hl 3 rfl) ?_
  refine lv_aload_n hx hb d_L_law_474 rfl (lv_at hl 1 rfl) ?_
  refine lv_iload_n hx hb d_L_law_475 rfl (lv_at hl 0 rfl) ?_
  refine lv_iconst (v := (nI 1)) hx hb d_L_law_476 (by decide) ?_
  refine lv_iadd hx hb d_L_law_477 ?_
  rw [nI_add]
  refine va_sld hx hb hX hbl hbA hw.2.2 (vp_in_nI (N := L) (by omega) (by omega)) d_L_law_478 ?_
  rw [nI_clamp (by omega)]
  refine lv_aload_n hx hb d_L_law_479 rfl (lv_at hl 1 rfl) ?_
  refine lv_iload_n hx hb d_L_law_480 rfl (lv_at hl 0 rfl) ?_
  refine lv_iconst (v := (nI 2)) hx hb d_L_law_481 (by decide) ?_
  refine lv_iadd hx hb d_L_law_482 ?_
  rw [nI_add]
  refine va_sld hx hb hX hbl hbA hw.2.2 (vp_in_nI (N := L) (by omega) (by omega)) d_L_law_483 ?_
  rw [nI_clamp (by omega)]
  have hw := y_swap hw
  refine yc_l (va_runV (As := [.int _, .int _]) (rest := [.long _]) ⟨hx, hb, hml, hown, hts⟩ (c_M_waiting l D cc ad2 (wl ad LL (yG cc σ ad)) s.heap.size _ μ hi (xs (6 * j + 1)) (xs (6 * j + 2))) (cwV 2 hts (yg_call mc_M_waiting ml_L_65 mm_M_waiting ms_M_waiting mi_M) rfl rfl rfl (by decide +kernel) ⟨Nat.le_of_ble_eq_true rfl, Nat.le_of_ble_eq_true rfl⟩) (y_preV hI hw (y_recv hK.1 hw mL_o (by rfl) rfl)) rfl rfl hl.1 rfl (lv_room (Nat.le_of_ble_eq_true rfl)) d_L_law_484 ⟨Nat.le_trans (by omega) rc1, Nat.le_trans (by omega) rs1⟩) hw hA (fun r v H locs he hw => ?_)
  subst he
  have hw := y_swap hw
  refine W.lcmp hx hb d_L_law_487 ?_
  refine lv_if_eq (tgt := 596) hx hb d_L_law_488 (by decide) (fun c_488 => ?_) (fun c_488 => by exact absurd (lcmp_z (by rw [eN, eD])) c_488)
  refine W.widen (k := 24 + 8 * (j + 1)) (n := 1945 + 144 * (j + 1)) (by omega) (by omega) ?_
  exact kk ad LL σ ad2 μ _ _ _ ⟨J, hLL, hi, eT, eD, eN⟩ hw hl
set_option maxHeartbeats 4000000 in
set_option maxRecDepth 100000 in
theorem l_keptAtLast {p : Program} {l : Launch} {e : Env} {s : State} {m : MethodId} {below : List Frame} {meth : Method} {c : Code} {b L : Nat} {xs : Nat → Int32} {D : va_G} {cc : ClassId × ClassId × ClassId} (C0 : lw_At p s m meth c b L xs) (hK : yK D ycl (yty cc) s.heap.size s) (hL : L ≤ 3072) {j : Nat} (hj : 6 * j + 6 ≤ L) (kk : lwKK p l e s m b below meth c D cc j) {ad : yl → Nat} {LL : List yl} {σ : ys} {ad2 : yl → Nat} {μ : ms} {H : Heap} {locs : List Loc} {ls : Array Slot} (hJ : lwJ σ LL μ) (hw : yH D ycl (lwA s) s.heap H locs (lwW cc ad LL σ ad2 μ)) (hl : lv_has ls 4 (lwL b ad ad2 j)) : lwG p l e s m b below meth c H locs j 493 ls [] := by
  obtain ⟨hx, hb, hr, hml, hown, ht, hts, hX, hbl, hbA, hlocks, hI, hA⟩ := lwC C0 hK
  obtain ⟨J, hLL, hi, eT, eD, eN⟩ := hJ
  have hLs : ∀ q, yL σ q → q ∈ LL := fun q h => (hLL q).mpr h
  have n0 : (0, 0, 0) ∈ LL := hLs _ ⟨rfl, rfl⟩
  have hwf : yp_wf (s_T σ 0) := eT ▸ hi.2.2.2.2.2.2.2.2
  refine lv_aload_n hx hb d_L_law_493 rfl (lv_at hl 2 rfl) ?_
  refine lv_aload_n hx hb d_L_law_494 rfl (lv_at hl 1 rfl) ?_
  refine lv_iload_n hx hb d_L_law_495 rfl (lv_at hl 0 rfl) ?_
  refine lv_iconst (v := (nI 1)) hx hb d_L_law_496 (by decide) ?_
  refine lv_iadd hx hb d_L_law_497 ?_
  rw [nI_add]
  refine va_sld hx hb hX hbl hbA hw.2.2 (vp_in_nI (N := L) (by omega) (by omega)) d_L_law_498 ?_
  rw [nI_clamp (by omega)]
  refine yc_i (va_runV (As := [.int _]) (rest := []) ⟨hx, hb, hml, hown, hts⟩ (c_S_keptAtLast l D cc ad LL (wl ad2 mLL (mG cc μ ad2)) s.heap.size _ σ hLs J (xs (6 * j + 1))) (cwV 1 hts (yg_call mc_S_keptAtLast ml_L_66 mm_S_keptAtLast ms_S_keptAtLast mi_S) rfl rfl rfl (by decide +kernel) ⟨Nat.le_of_ble_eq_true rfl, Nat.le_of_ble_eq_true rfl⟩) (y_preV hI hw (y_recv hK.1 hw n0 (by rfl) rfl)) rfl rfl hl.1 rfl (lv_room (Nat.le_of_ble_eq_true rfl)) d_L_law_499 ⟨Nat.le_trans (by omega) rc1, Nat.le_trans (by omega) rs1⟩) hw hA (fun r u H locs he hw => ?_)
  obtain ⟨N, kf, rfl, k1, k2, k3, k4⟩ := he
  refine lv_aload_n hx hb d_L_law_502 rfl (lv_at hl 3 rfl) ?_
  refine lv_aload_n hx hb d_L_law_503 rfl (lv_at hl 1 rfl) ?_
  refine lv_iload_n hx hb d_L_law_504 rfl (lv_at hl 0 rfl) ?_
  refine lv_iconst (v := (nI 1)) hx hb d_L_law_505 (by decide) ?_
  refine lv_iadd hx hb d_L_law_506 ?_
  rw [nI_add]
  refine va_sld hx hb hX hbl hbA hw.2.2 (vp_in_nI (N := L) (by omega) (by omega)) d_L_law_507 ?_
  rw [nI_clamp (by omega)]
  have hw := y_swap hw
  refine yc_i (va_runV (As := [.int _]) (rest := [.int _]) ⟨hx, hb, hml, hown, hts⟩ (c_M_keptAtLast l D cc ad2 (wl ad LL (yG cc u ad)) s.heap.size _ μ hi (xs (6 * j + 1))) (cwV 1 hts (yg_call mc_M_keptAtLast ml_L_69 mm_M_keptAtLast ms_M_keptAtLast mi_M) rfl rfl rfl (by decide +kernel) ⟨Nat.le_of_ble_eq_true rfl, Nat.le_of_ble_eq_true rfl⟩) (y_preV hI hw (y_recv hK.1 hw mL_o (by rfl) rfl)) rfl rfl hl.1 rfl (lv_room (Nat.le_of_ble_eq_true rfl)) d_L_law_508 ⟨Nat.le_trans (by omega) rc1, Nat.le_trans (by omega) rs1⟩) hw hA (fun r v H locs he hw => ?_)
  obtain ⟨N2, mf, rfl, m1, m2⟩ := he
  have hw := y_swap hw
  rw [eT, eD] at mf
  have eNN := yp_fin_uniq hwf kf mf
  subst eNN
  refine lv_icmp_eq (tgt := 596) hx hb d_L_law_511 (by decide) (fun c_511 => ?_) (fun c_511 => by exact absurd (by rw [eT]) c_511)
  refine W.widen (k := 24 + 8 * (j + 1)) (n := 1945 + 144 * (j + 1)) (by omega) (by omega) ?_
  exact kk ad LL u ad2 v _ _ _ ⟨k1, fun q => (hLL q).trans (yL_eq k2 q).symm, m2, by rw [m1.1.T, eT, k3], by rw [m1.D (by decide) hi, eD, k4], by rw [m1.1.2.1, eN, snc_eq k2]⟩ hw hl
set_option maxHeartbeats 4000000 in
set_option maxRecDepth 100000 in
theorem l_atLast {p : Program} {l : Launch} {e : Env} {s : State} {m : MethodId} {below : List Frame} {meth : Method} {c : Code} {b L : Nat} {xs : Nat → Int32} {D : va_G} {cc : ClassId × ClassId × ClassId} (C0 : lw_At p s m meth c b L xs) (hK : yK D ycl (yty cc) s.heap.size s) (hL : L ≤ 3072) {j : Nat} (hj : 6 * j + 6 ≤ L) (kk : lwKK p l e s m b below meth c D cc j) {ad : yl → Nat} {LL : List yl} {σ : ys} {ad2 : yl → Nat} {μ : ms} {H : Heap} {locs : List Loc} {ls : Array Slot} (hJ : lwJ σ LL μ) (hw : yH D ycl (lwA s) s.heap H locs (lwW cc ad LL σ ad2 μ)) (hl : lv_has ls 4 (lwL b ad ad2 j)) : lwG p l e s m b below meth c H locs j 516 ls [] := by
  obtain ⟨hx, hb, hr, hml, hown, ht, hts, hX, hbl, hbA, hlocks, hI, hA⟩ := lwC C0 hK
  obtain ⟨J, hLL, hi, eT, eD, eN⟩ := hJ
  have hLs : ∀ q, yL σ q → q ∈ LL := fun q h => (hLL q).mpr h
  have n0 : (0, 0, 0) ∈ LL := hLs _ ⟨rfl, rfl⟩
  have hwf : yp_wf (s_T σ 0) := eT ▸ hi.2.2.2.2.2.2.2.2
  refine lv_aload_n hx hb d_L_law_516 rfl (lv_at hl 2 rfl) ?_
  refine lv_aload_n hx hb d_L_law_517 rfl (lv_at hl 1 rfl) ?_
  refine lv_iload_n hx hb d_L_law_518 rfl (lv_at hl 0 rfl) ?_
  refine lv_iconst (v := (nI 1)) hx hb d_L_law_519 (by decide) ?_
  refine lv_iadd hx hb d_L_law_520 ?_
  rw [nI_add]
  refine va_sld hx hb hX hbl hbA hw.2.2 (vp_in_nI (N := L) (by omega) (by omega)) d_L_law_521 ?_
  rw [nI_clamp (by omega)]
  refine lv_aload_n hx hb d_L_law_522 rfl (lv_at hl 1 rfl) ?_
  refine lv_iload_n hx hb d_L_law_523 rfl (lv_at hl 0 rfl) ?_
  refine lv_iconst (v := (nI 2)) hx hb d_L_law_524 (by decide) ?_
  refine lv_iadd hx hb d_L_law_525 ?_
  rw [nI_add]
  refine va_sld hx hb hX hbl hbA hw.2.2 (vp_in_nI (N := L) (by omega) (by omega)) d_L_law_526 ?_
  rw [nI_clamp (by omega)]
  refine yc_l (va_runV (As := [.int _, .int _]) (rest := []) ⟨hx, hb, hml, hown, hts⟩ (c_S_atLast l D cc ad LL (wl ad2 mLL (mG cc μ ad2)) s.heap.size _ σ hLs J (xs (6 * j + 1)) (xs (6 * j + 2))) (cwV 2 hts (yg_call mc_S_atLast ml_L_70 mm_S_atLast ms_S_atLast mi_S) rfl rfl rfl (by decide +kernel) ⟨Nat.le_of_ble_eq_true rfl, Nat.le_of_ble_eq_true rfl⟩) (y_preV hI hw (y_recv hK.1 hw n0 (by rfl) rfl)) rfl rfl hl.1 rfl (lv_room (Nat.le_of_ble_eq_true rfl)) d_L_law_527 ⟨Nat.le_trans (by omega) rc1, Nat.le_trans (by omega) rs1⟩) hw hA (fun r u H locs he hw => ?_)
  obtain ⟨N, kf, rfl, k1, k2, k3, k4⟩ := he
  refine lv_aload_n hx hb d_L_law_530 rfl (lv_at hl 3 rfl) ?_
  refine lv_aload_n hx hb d_L_law_531 rfl (lv_at hl 1 rfl) ?_
  refine lv_iload_n hx hb d_L_law_532 rfl (lv_at hl 0 rfl) ?_
  refine lv_iconst (v := (nI 1)) hx hb d_L_law_533 (by decide) ?_
  refine lv_iadd hx hb d_L_law_534 ?_
  rw [nI_add]
  refine va_sld hx hb hX hbl hbA hw.2.2 (vp_in_nI (N := L) (by omega) (by omega)) d_L_law_535 ?_
  rw [nI_clamp (by omega)]
  refine lv_aload_n hx hb d_L_law_536 rfl (lv_at hl 1 rfl) ?_
  refine lv_iload_n hx hb d_L_law_537 rfl (lv_at hl 0 rfl) ?_
  refine lv_iconst (v := (nI 2)) hx hb d_L_law_538 (by decide) ?_
  refine lv_iadd hx hb d_L_law_539 ?_
  rw [nI_add]
  refine va_sld hx hb hX hbl hbA hw.2.2 (vp_in_nI (N := L) (by omega) (by omega)) d_L_law_540 ?_
  rw [nI_clamp (by omega)]
  have hw := y_swap hw
  refine yc_l (va_runV (As := [.int _, .int _]) (rest := [.long _]) ⟨hx, hb, hml, hown, hts⟩ (c_M_atLast l D cc ad2 (wl ad LL (yG cc u ad)) s.heap.size _ μ hi (xs (6 * j + 1)) (xs (6 * j + 2))) (cwV 2 hts (yg_call mc_M_atLast ml_L_73 mm_M_atLast ms_M_atLast mi_M) rfl rfl rfl (by decide +kernel) ⟨Nat.le_of_ble_eq_true rfl, Nat.le_of_ble_eq_true rfl⟩) (y_preV hI hw (y_recv hK.1 hw mL_o (by rfl) rfl)) rfl rfl hl.1 rfl (lv_room (Nat.le_of_ble_eq_true rfl)) d_L_law_541 ⟨Nat.le_trans (by omega) rc1, Nat.le_trans (by omega) rs1⟩) hw hA (fun r v H locs he hw => ?_)
  obtain ⟨N2, mf, rfl, m1, m2⟩ := he
  have hw := y_swap hw
  rw [eT, eD] at mf
  have eNN := yp_fin_uniq hwf kf mf
  subst eNN
  refine W.lcmp hx hb d_L_law_544 ?_
  refine lv_if_eq (tgt := 596) hx hb d_L_law_545 (by decide) (fun c_545 => ?_) (fun c_545 => by exact absurd (lcmp_z (by rw [eT])) c_545)
  refine W.widen (k := 24 + 8 * (j + 1)) (n := 1945 + 144 * (j + 1)) (by omega) (by omega) ?_
  exact kk ad LL u ad2 v _ _ _ ⟨k1, fun q => (hLL q).trans (yL_eq k2 q).symm, m2, by rw [m1.1.T, eT, k3], by rw [m1.D (by decide) hi, eD, k4], by rw [m1.1.2.1, eN, snc_eq k2]⟩ hw hl
set_option maxHeartbeats 4000000 in
set_option maxRecDepth 100000 in
theorem l_actedAtLast {p : Program} {l : Launch} {e : Env} {s : State} {m : MethodId} {below : List Frame} {meth : Method} {c : Code} {b L : Nat} {xs : Nat → Int32} {D : va_G} {cc : ClassId × ClassId × ClassId} (C0 : lw_At p s m meth c b L xs) (hK : yK D ycl (yty cc) s.heap.size s) (hL : L ≤ 3072) {j : Nat} (hj : 6 * j + 6 ≤ L) (kk : lwKK p l e s m b below meth c D cc j) {ad : yl → Nat} {LL : List yl} {σ : ys} {ad2 : yl → Nat} {μ : ms} {H : Heap} {locs : List Loc} {ls : Array Slot} (hJ : lwJ σ LL μ) (hw : yH D ycl (lwA s) s.heap H locs (lwW cc ad LL σ ad2 μ)) (hl : lv_has ls 4 (lwL b ad ad2 j)) : lwG p l e s m b below meth c H locs j 550 ls [] := by
  obtain ⟨hx, hb, hr, hml, hown, ht, hts, hX, hbl, hbA, hlocks, hI, hA⟩ := lwC C0 hK
  obtain ⟨J, hLL, hi, eT, eD, eN⟩ := hJ
  have hLs : ∀ q, yL σ q → q ∈ LL := fun q h => (hLL q).mpr h
  have n0 : (0, 0, 0) ∈ LL := hLs _ ⟨rfl, rfl⟩
  have hwf : yp_wf (s_T σ 0) := eT ▸ hi.2.2.2.2.2.2.2.2
  refine lv_aload_n hx hb d_L_law_550 rfl (lv_at hl 2 rfl) ?_
  refine lv_aload_n hx hb d_L_law_551 rfl (lv_at hl 1 rfl) ?_
  refine lv_iload_n hx hb d_L_law_552 rfl (lv_at hl 0 rfl) ?_
  refine lv_iconst (v := (nI 1)) hx hb d_L_law_553 (by decide) ?_
  refine lv_iadd hx hb d_L_law_554 ?_
  rw [nI_add]
  refine va_sld hx hb hX hbl hbA hw.2.2 (vp_in_nI (N := L) (by omega) (by omega)) d_L_law_555 ?_
  rw [nI_clamp (by omega)]
  refine yc_i (va_runV (As := [.int _]) (rest := []) ⟨hx, hb, hml, hown, hts⟩ (c_S_actedAtLast l D cc ad LL (wl ad2 mLL (mG cc μ ad2)) s.heap.size _ σ hLs J (xs (6 * j + 1))) (cwV 1 hts (yg_call mc_S_actedAtLast ml_L_74 mm_S_actedAtLast ms_S_actedAtLast mi_S) rfl rfl rfl (by decide +kernel) ⟨Nat.le_of_ble_eq_true rfl, Nat.le_of_ble_eq_true rfl⟩) (y_preV hI hw (y_recv hK.1 hw n0 (by rfl) rfl)) rfl rfl hl.1 rfl (lv_room (Nat.le_of_ble_eq_true rfl)) d_L_law_556 ⟨Nat.le_trans (by omega) rc1, Nat.le_trans (by omega) rs1⟩) hw hA (fun r u H locs he hw => ?_)
  obtain ⟨N, kf, rfl, k1, k2, k3, k4⟩ := he
  refine lv_aload_n hx hb d_L_law_559 rfl (lv_at hl 3 rfl) ?_
  refine lv_aload_n hx hb d_L_law_560 rfl (lv_at hl 1 rfl) ?_
  refine lv_iload_n hx hb d_L_law_561 rfl (lv_at hl 0 rfl) ?_
  refine lv_iconst (v := (nI 1)) hx hb d_L_law_562 (by decide) ?_
  refine lv_iadd hx hb d_L_law_563 ?_
  rw [nI_add]
  refine va_sld hx hb hX hbl hbA hw.2.2 (vp_in_nI (N := L) (by omega) (by omega)) d_L_law_564 ?_
  rw [nI_clamp (by omega)]
  have hw := y_swap hw
  refine yc_i (va_runV (As := [.int _]) (rest := [.int _]) ⟨hx, hb, hml, hown, hts⟩ (c_M_actedAtLast l D cc ad2 (wl ad LL (yG cc u ad)) s.heap.size _ μ hi (xs (6 * j + 1))) (cwV 1 hts (yg_call mc_M_actedAtLast ml_L_77 mm_M_actedAtLast ms_M_actedAtLast mi_M) rfl rfl rfl (by decide +kernel) ⟨Nat.le_of_ble_eq_true rfl, Nat.le_of_ble_eq_true rfl⟩) (y_preV hI hw (y_recv hK.1 hw mL_o (by rfl) rfl)) rfl rfl hl.1 rfl (lv_room (Nat.le_of_ble_eq_true rfl)) d_L_law_565 ⟨Nat.le_trans (by omega) rc1, Nat.le_trans (by omega) rs1⟩) hw hA (fun r v H locs he hw => ?_)
  obtain ⟨N2, mf, rfl, m1, m2⟩ := he
  have hw := y_swap hw
  rw [eT, eD] at mf
  have eNN := yp_fin_uniq hwf kf mf
  subst eNN
  refine lv_icmp_eq (tgt := 596) hx hb d_L_law_568 (by decide) (fun c_568 => ?_) (fun c_568 => by exact absurd (by rw [eT]) c_568)
  refine W.widen (k := 24 + 8 * (j + 1)) (n := 1945 + 144 * (j + 1)) (by omega) (by omega) ?_
  exact kk ad LL u ad2 v _ _ _ ⟨k1, fun q => (hLL q).trans (yL_eq k2 q).symm, m2, by rw [m1.1.T, eT, k3], by rw [m1.D (by decide) hi, eD, k4], by rw [m1.1.2.1, eN, snc_eq k2]⟩ hw hl
set_option maxHeartbeats 4000000 in
set_option maxRecDepth 100000 in
theorem l_fullAtLast {p : Program} {l : Launch} {e : Env} {s : State} {m : MethodId} {below : List Frame} {meth : Method} {c : Code} {b L : Nat} {xs : Nat → Int32} {D : va_G} {cc : ClassId × ClassId × ClassId} (C0 : lw_At p s m meth c b L xs) (hK : yK D ycl (yty cc) s.heap.size s) (hL : L ≤ 3072) {j : Nat} (hj : 6 * j + 6 ≤ L) (kk : lwKK p l e s m b below meth c D cc j) {ad : yl → Nat} {LL : List yl} {σ : ys} {ad2 : yl → Nat} {μ : ms} {H : Heap} {locs : List Loc} {ls : Array Slot} (hJ : lwJ σ LL μ) (hw : yH D ycl (lwA s) s.heap H locs (lwW cc ad LL σ ad2 μ)) (hl : lv_has ls 4 (lwL b ad ad2 j)) : lwG p l e s m b below meth c H locs j 573 ls [] := by
  obtain ⟨hx, hb, hr, hml, hown, ht, hts, hX, hbl, hbA, hlocks, hI, hA⟩ := lwC C0 hK
  obtain ⟨J, hLL, hi, eT, eD, eN⟩ := hJ
  have hLs : ∀ q, yL σ q → q ∈ LL := fun q h => (hLL q).mpr h
  have n0 : (0, 0, 0) ∈ LL := hLs _ ⟨rfl, rfl⟩
  have hwf : yp_wf (s_T σ 0) := eT ▸ hi.2.2.2.2.2.2.2.2
  refine lv_aload_n hx hb d_L_law_573 rfl (lv_at hl 2 rfl) ?_
  refine lv_aload_n hx hb d_L_law_574 rfl (lv_at hl 1 rfl) ?_
  refine lv_iload_n hx hb d_L_law_575 rfl (lv_at hl 0 rfl) ?_
  refine lv_iconst (v := (nI 1)) hx hb d_L_law_576 (by decide) ?_
  refine lv_iadd hx hb d_L_law_577 ?_
  rw [nI_add]
  refine va_sld hx hb hX hbl hbA hw.2.2 (vp_in_nI (N := L) (by omega) (by omega)) d_L_law_578 ?_
  rw [nI_clamp (by omega)]
  refine yc_i (va_runV (As := [.int _]) (rest := []) ⟨hx, hb, hml, hown, hts⟩ (c_S_fullAtLast l D cc ad LL (wl ad2 mLL (mG cc μ ad2)) s.heap.size _ σ hLs J (xs (6 * j + 1))) (cwV 1 hts (yg_call mc_S_fullAtLast ml_L_78 mm_S_fullAtLast ms_S_fullAtLast mi_S) rfl rfl rfl (by decide +kernel) ⟨Nat.le_of_ble_eq_true rfl, Nat.le_of_ble_eq_true rfl⟩) (y_preV hI hw (y_recv hK.1 hw n0 (by rfl) rfl)) rfl rfl hl.1 rfl (lv_room (Nat.le_of_ble_eq_true rfl)) d_L_law_579 ⟨Nat.le_trans (by omega) rc1, Nat.le_trans (by omega) rs1⟩) hw hA (fun r u H locs he hw => ?_)
  obtain ⟨N, kf, rfl, k1, k2, k3, k4⟩ := he
  refine lv_aload_n hx hb d_L_law_582 rfl (lv_at hl 3 rfl) ?_
  refine lv_aload_n hx hb d_L_law_583 rfl (lv_at hl 1 rfl) ?_
  refine lv_iload_n hx hb d_L_law_584 rfl (lv_at hl 0 rfl) ?_
  refine lv_iconst (v := (nI 1)) hx hb d_L_law_585 (by decide) ?_
  refine lv_iadd hx hb d_L_law_586 ?_
  rw [nI_add]
  refine va_sld hx hb hX hbl hbA hw.2.2 (vp_in_nI (N := L) (by omega) (by omega)) d_L_law_587 ?_
  rw [nI_clamp (by omega)]
  have hw := y_swap hw
  refine yc_i (va_runV (As := [.int _]) (rest := [.int _]) ⟨hx, hb, hml, hown, hts⟩ (c_M_fullAtLast l D cc ad2 (wl ad LL (yG cc u ad)) s.heap.size _ μ hi (xs (6 * j + 1))) (cwV 1 hts (yg_call mc_M_fullAtLast ml_L_81 mm_M_fullAtLast ms_M_fullAtLast mi_M) rfl rfl rfl (by decide +kernel) ⟨Nat.le_of_ble_eq_true rfl, Nat.le_of_ble_eq_true rfl⟩) (y_preV hI hw (y_recv hK.1 hw mL_o (by rfl) rfl)) rfl rfl hl.1 rfl (lv_room (Nat.le_of_ble_eq_true rfl)) d_L_law_588 ⟨Nat.le_trans (by omega) rc1, Nat.le_trans (by omega) rs1⟩) hw hA (fun r v H locs he hw => ?_)
  obtain ⟨N2, mf, rfl, m1, m2⟩ := he
  have hw := y_swap hw
  rw [eT, eD] at mf
  have eNN := yp_fin_uniq hwf kf mf
  subst eNN
  refine lv_icmp_eq (tgt := 596) hx hb d_L_law_591 (by decide) (fun c_591 => ?_) (fun c_591 => by exact absurd (by rw [eT, eN]) c_591)
  refine W.widen (k := 24 + 8 * (j + 1)) (n := 1945 + 144 * (j + 1)) (by omega) (by omega) ?_
  exact kk ad LL u ad2 v _ _ _ ⟨k1, fun q => (hLL q).trans (yL_eq k2 q).symm, m2, by rw [m1.1.T, eT, k3], by rw [m1.D (by decide) hi, eD, k4], by rw [m1.1.2.1, eN, snc_eq k2]⟩ hw hl
set_option maxHeartbeats 4000000 in
set_option maxRecDepth 100000 in
theorem law_loop {p : Program} {l : Launch} {e : Env} {s : State} {m : MethodId} {below : List Frame} {meth : Method} {c : Code} {b L : Nat} {xs : Nat → Int32} {D : va_G} {cc : ClassId × ClassId × ClassId} (C0 : lw_At p s m meth c b L xs) (hK : yK D ycl (yty cc) s.heap.size s) (hL : L ≤ 3072) : ∀ (n j : Nat) (ad : yl → Nat) (LL : List yl) (σ : ys) (ad2 : yl → Nat) (μ : ms) (H : Heap) (locs : List Loc) (ls : Array Slot), 6 * j ≤ L → L < 6 * j + n → lwJ σ LL μ → yH D ycl (lwA s) s.heap H locs (lwW cc ad LL σ ad2 μ) → lv_has ls 4 (lwL b ad ad2 j) → lwG p l e s m b below meth c H locs j 18 ls [] := by
  intro n
  induction n with
  | zero => intro j ad LL σ ad2 μ H locs ls h1 h2; omega
  | succ n ih =>
    intro j ad LL σ ad2 μ H locs ls h1 h2 hJ hw hl
    obtain ⟨hx, hb, hr, hml, hown, ht, hts, hX, hbl, hbA, hlocks, hI, hA⟩ := lwC C0 hK
    refine lv_iload_n hx hb d_L_law_18 rfl (lv_at hl 0 rfl) ?_
    refine lv_aload_n hx hb d_L_law_19 rfl (lv_at hl 1 rfl) ?_
    refine va_slen hx hb hX hbl hbA hw.2.2 d_L_law_20 ?_
    refine lv_bipush (v := (nI 6)) hx hb d_L_law_21 (by decide) ?_
    refine lv_isub hx hb d_L_law_23 ?_
    refine lv_icmp_gt (tgt := 602) hx hb d_L_law_24 (by decide) (fun c_24 => ?_) (fun c_24 => ?_)
    · refine lv_iconst (v := 1) hx hb d_L_law_602 (by decide) ?_
      refine va_forget (fun q hq => hw.2.2.2.2 q hq) ?_
      refine W.widen (k := 600000) (n := 7302250) (by omega) (by omega) ?_
      exact lw_ret hx hb hr hlocks d_L_law_603
    · have hj : 6 * j + 6 ≤ L := by
        rcases Nat.lt_or_ge L (6 * j + 6) with q | q
        · exact absurd (law_end (by omega) (by omega) q) c_24
        · exact q
      have kk : lwKK p l e s m b below meth c D cc j := by
        intro ad LL σ ad2 μ H locs ls hJ hw hl
        refine lv_iinc (v := nI (6 * (j + 1))) (lv' := lwL b ad ad2 (j + 1)) hx hb d_L_law_596 hl (k := 0) rfl (law_inc j) (by decide) rfl (fun ls hl => ?_)
        refine lv_goto (tgt := 18) hx hb d_L_law_599 (by decide) ?_
        exact ih (j + 1) ad LL σ ad2 μ H locs ls (by omega) (by omega) hJ hw hl
      refine lv_aload_n hx hb d_L_law_27 rfl (lv_at hl 1 rfl) ?_
      refine lv_iload_n hx hb d_L_law_28 rfl (lv_at hl 0 rfl) ?_
      refine va_sld hx hb hX hbl hbA hw.2.2 (vp_in_nI (N := L) (by omega) (by omega)) d_L_law_29 ?_
      rw [nI_clamp (by omega)]
      refine lv_bipush (v := (nI 15)) hx hb d_L_law_30 (by decide) ?_
      refine lv_iand hx hb d_L_law_32 ?_
      obtain ⟨q, hq, eq⟩ := and15 (xs (6 * j))
      rw [eq]
      rcases (show q = 0 ∨ q = 1 ∨ q = 2 ∨ q = 3 ∨ q = 4 ∨ q = 5 ∨ q = 6 ∨ q = 7 ∨ q = 8 ∨ q = 9 ∨ q = 10 ∨ q = 11 ∨ q = 12 ∨ q = 13 ∨ q = 14 ∨ q = 15 by omega) with rfl | rfl | rfl | rfl | rfl | rfl | rfl | rfl | rfl | rfl | rfl | rfl | rfl | rfl | rfl | rfl
      · refine lv_tableIn (off := 75) (tgt := 108) hx hb d_L_law_33 (by decide +kernel) (by decide +kernel) (by decide +kernel) (by decide) ?_
        exact l_actor C0 hK hL hj kk hJ hw hl
      · refine lv_tableIn (off := 118) (tgt := 151) hx hb d_L_law_33 (by decide +kernel) (by decide +kernel) (by decide +kernel) (by decide) ?_
        exact l_value C0 hK hL hj kk hJ hw hl
      · refine lv_tableIn (off := 151) (tgt := 184) hx hb d_L_law_33 (by decide +kernel) (by decide +kernel) (by decide +kernel) (by decide) ?_
        exact l_channel C0 hK hL hj kk hJ hw hl
      · refine lv_tableIn (off := 214) (tgt := 247) hx hb d_L_law_33 (by decide +kernel) (by decide +kernel) (by decide +kernel) (by decide) ?_
        exact l_can C0 hK hL hj kk hJ hw hl
      · refine lv_tableIn (off := 237) (tgt := 270) hx hb d_L_law_33 (by decide +kernel) (by decide +kernel) (by decide +kernel) (by decide) ?_
        exact l_act C0 hK hL hj kk hJ hw hl
      · refine lv_tableIn (off := 260) (tgt := 293) hx hb d_L_law_33 (by decide +kernel) (by decide +kernel) (by decide +kernel) (by decide) ?_
        exact l_run C0 hK hL hj kk hJ hw hl
      · refine lv_tableIn (off := 323) (tgt := 356) hx hb d_L_law_33 (by decide +kernel) (by decide +kernel) (by decide +kernel) (by decide) ?_
        exact l_acted C0 hK hL hj kk hJ hw hl
      · refine lv_tableIn (off := 346) (tgt := 379) hx hb d_L_law_33 (by decide +kernel) (by decide +kernel) (by decide +kernel) (by decide) ?_
        exact l_kept C0 hK hL hj kk hJ hw hl
      · refine lv_tableIn (off := 369) (tgt := 402) hx hb d_L_law_33 (by decide +kernel) (by decide +kernel) (by decide +kernel) (by decide) ?_
        exact l_at C0 hK hL hj kk hJ hw hl
      · refine lv_tableIn (off := 403) (tgt := 436) hx hb d_L_law_33 (by decide +kernel) (by decide +kernel) (by decide +kernel) (by decide) ?_
        exact l_waits C0 hK hL hj kk hJ hw hl
      · refine lv_tableIn (off := 426) (tgt := 459) hx hb d_L_law_33 (by decide +kernel) (by decide +kernel) (by decide +kernel) (by decide) ?_
        exact l_waiting C0 hK hL hj kk hJ hw hl
      · refine lv_tableIn (off := 460) (tgt := 493) hx hb d_L_law_33 (by decide +kernel) (by decide +kernel) (by decide +kernel) (by decide) ?_
        exact l_keptAtLast C0 hK hL hj kk hJ hw hl
      · refine lv_tableIn (off := 483) (tgt := 516) hx hb d_L_law_33 (by decide +kernel) (by decide +kernel) (by decide +kernel) (by decide) ?_
        exact l_atLast C0 hK hL hj kk hJ hw hl
      · refine lv_tableIn (off := 517) (tgt := 550) hx hb d_L_law_33 (by decide +kernel) (by decide +kernel) (by decide +kernel) (by decide) ?_
        exact l_actedAtLast C0 hK hL hj kk hJ hw hl
      · refine lv_tableIn (off := 540) (tgt := 573) hx hb d_L_law_33 (by decide +kernel) (by decide +kernel) (by decide +kernel) (by decide) ?_
        exact l_fullAtLast C0 hK hL hj kk hJ hw hl
      · refine lv_tableOut (tgt := 596) hx hb d_L_law_33 (Or.inr (by decide +kernel)) (by decide) ?_
        refine W.widen (k := 24 + 8 * (j + 1)) (n := 1945 + 144 * (j + 1)) (by omega) (by omega) ?_
        exact kk ad LL σ ad2 μ _ _ _ hJ hw hl
