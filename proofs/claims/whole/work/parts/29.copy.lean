/-! COPIES -/
theorem mw_native : Cond.native arraycopyName ∈ lg_tbl := lg_in (lw_in2 (i := 68) (by decide +kernel)) (by decide +kernel)
theorem mw_static : Cond.static arraycopyName ∈ lg_tbl := lg_in (lw_in2 (i := 67) (by decide +kernel)) (by decide +kernel)
theorem mw_smin : Cond.static Lib.Math.min.name ∈ lg_tbl := lg_in (lw_in2 (i := 64) (by decide +kernel)) (by decide +kernel)
theorem mw_cmin : Cond.code Lib.Math.min.name Lib.Math.min.code 2 (some .int) ∈ lg_tbl := lg_in (lw_in2 (i := 65) rfl) rfl
section YRC
variable {p : Program} {l : Launch} {e : Env} {R : Room} {s : State} {m : MethodId} {args : Array Value} {below : List Frame} {meth : Method} {c : Code} {H : Heap} {locs : List Loc} {cells slots : Nat} {Q : State → Prop}
variable {cc : ByteArray} {D : va_G} {cl : List vw_C} {tys : List (ClassId × FieldType)} {A : Nat → Prop} {H0 : Heap} {ad : yl → Nat} {LL : List yl} {g : yl → va_E} {X : va_W} {q q' : yl} {pc : Nat} {ls : Array Slot} {rest : List Value}
theorem yr_copyi (hexec : p.tables.exec = Jvm.exec) (hb : c.code = cc) (hml : c.maxLocals = ls.size) {own : String} {index : Nat} {cA : ClassId} {n0 n1 : Nat} {f f1 : Nat → Int32} {sp dp n : Int32} (hown : s.vm.findClass own = some m.cls) (hlink : (Cond.methodLink own index arraycopyName).before args s = true) (hnat : (Cond.native arraycopyName).before args s = true) (hstat : (Cond.static arraycopyName).before args s = true) (hini : (Cond.initialized "java/lang/System").before args s = true) (hK : va_K D cl tys s) (hw : yH D cl A H0 H locs (wl ad LL g ++ X)) (hq : q ∈ LL) (hg : g q = .inl (cA, n0, .inl f)) (hq' : q' ∈ LL) (hg' : g q' = .inl (cA, n1, .inl f1)) (t0 : Nat) (ht : tys[t0]? = some (cA, .int)) (h1 : ¬ sp < 0) (h2 : ¬ dp < 0) (h3 : ¬ n < 0) (h4 : sp.toNatClampNeg + n.toNatClampNeg ≤ n0) (h5 : dp.toNatClampNeg + n.toNatClampNeg ≤ n1) (hframes : 1 ≤ R.frames) (hlocals : (rest.map fun v => v.category).sum + (nativeFrameWords "java/lang/System" "arraycopy" 5 + 11) ≤ R.locals) (hdg : decode cc pc = .ok (.invokestatic index, 3))
    (kk : ∀ (H1 : Heap) (locs1 : List Loc), yH D cl A H0 H1 locs1 (wl ad LL (yu g q' (.inl (cA, n1, .inl (va_cpy f f1 sp.toNatClampNeg dp.toNatClampNeg n.toNatClampNeg)))) ++ X) → W p l e R s m args below meth c H1 locs1 cells slots Q (F0 m (pc + 3) ls rest)) : W p l e R s m args below meth c H locs cells slots Q (F0 m pc ls (.int n :: .int dp :: .ref (ad q') :: .int sp :: .ref (ad q) :: rest)) := by
  obtain ⟨k0, hk0⟩ := wl_get (ad := ad) (g := g) (X := X) hq
  obtain ⟨k1, hk1⟩ := wl_get (ad := ad) (g := g) (X := X) hq'
  rw [hg] at hk0
  rw [hg'] at hk1
  refine va_copyi hexec hb hml hown hlink hnat hstat hini hK hw.1 hw.2.1 hw.2.2 k0 k1 t0 t0 hk0 hk1 ht ht rfl h1 h2 h3 h4 h5 (fun _ _ => rfl) hframes hlocals hdg (fun H1 locs1 hP hD hS => kk H1 locs1 ?_)
  rw [wl_set hw.2.1 hq' hk1] at hP hD
  exact ⟨hP, hD, hS⟩
end YRC
def yo_cpc (σ : ys) (y z i : Nat) : ys := sx_ch (sx_rg σ y i (va_cpy (s_rg σ z i) (s_rg σ y i) 0 0 8)) y i ((s_ch σ y i).1, (s_ch σ z i).2.1, (s_ch σ z i).2.2)
def yo_cpa (σ : ys) (y z i : Nat) : ys := sx_ac (sx_rw σ y i (va_cpy (s_rw σ z i) (s_rw σ y i) 0 0 (yt_rows (s_ac σ y i).1))) y i ((s_ac σ y i).1, (s_ac σ y i).2.1, (s_ac σ y i).2.2.1, (s_ac σ z i).2.2.2.1, (s_ac σ z i).2.2.2.2)
theorem yo_ch_o {σ : ys} {y z c c' : Nat} {v : yc} (h : z ≠ y) : s_ch (sx_ch σ y c v) z c' = s_ch σ z c' := up2_n _ _ (fun q => h q.1)
theorem yo_ac_o {σ : ys} {y z c c' : Nat} {v : ya} (h : z ≠ y) : s_ac (sx_ac σ y c v) z c' = s_ac σ z c' := up2_n _ _ (fun q => h q.1)
theorem yo_ac {σ : ys} {y c : Nat} {v : ya} : s_ac (sx_ac σ y c v) y c = v := up2_s _ _ _ _
theorem yo_ac_ac {σ : ys} {y c : Nat} {v w : ya} : sx_ac (sx_ac σ y c v) y c w = sx_ac σ y c w := by
  unfold sx_ac
  rw [up2_up2]
set_option maxHeartbeats 4000000 in
set_option maxRecDepth 100000 in
/-- copyFrom of a channel -/
theorem c_C_copyFrom (l : Launch) (D : va_G) (cc : ClassId × ClassId × ClassId) (ad : yl → Nat) (LL : List yl) (X : va_W) (b0 sz : Nat) (σ : ys) (hL : ∀ q, yL σ q → q ∈ LL) (y z i : Nat) (hy : y < 2) (hz : z < 2) (hyz : z ≠ y) (hn : i < s_nc σ y) (hn2 : i < s_nc σ z) : Met l y_C_copyFrom w_C_copyFrom ({ frames := 1, cells := 0, slots := 0, locals := 48 }) (yPr D cc b0 [.ref (ad (9, y, i)), .ref (ad (9, z, i))] (yW cc ad LL X σ) sz) (yQv D (yW cc ad LL X σ) sz (yW cc ad LL X (yo_cpc σ y z i))) 0 0 (va_A (yW cc ad LL X σ) sz) := by
  have h9 : (9, y, i) ∈ LL := hL _ ⟨hy, hn⟩
  have h10 : (10, y, i) ∈ LL := hL _ ⟨hy, hn⟩
  have k9 : (9, z, i) ∈ LL := hL _ ⟨hz, hn2⟩
  have k10 : (10, z, i) ∈ LL := hL _ ⟨hz, hn2⟩
  refine y_ofW (cc := b_C_copyFrom) (maxL := 2) (ret := none) (by decide) rfl (Nat.le_of_ble_eq_true rfl) ?_
  intro pv ev sv mv bv tv cv ls hI hsz hw hl
  obtain ⟨hx, hb, hr, hml, hts, hown, hlocks, hnm, hK, hAb, hb0, hA⟩ := id hI
  have ht : ∀ w ∈ lg_tbl, w.before _ sv = true := fun w h => hts w (List.mem_cons_of_mem _ h)
  have hl : lv_has ls 2 [(0, .ref (ad (9, y, i))), (1, .ref (ad (9, z, i)))] := hl
  refine lv_aload_n hx hb d_C_copyFrom_0 rfl (lv_at hl 1 rfl) ?_
  refine yr_get (C := R_C) (T := F_C) (N := 4) (ci := k_C) hx hb ht j_C hown hK.1 hw k9 (by rfl) rfl 1 (by decide) (ht _ mf_C_15) (fun _ h9 => h9) (by rfl) d_C_copyFrom_1 ?_
  refine lv_iconst (v := (nI 0)) hx hb d_C_copyFrom_4 (by decide) ?_
  refine lv_aload_n hx hb d_C_copyFrom_5 rfl (lv_at hl 0 rfl) ?_
  refine yr_get (C := R_C) (T := F_C) (N := 4) (ci := k_C) hx hb ht j_C hown hK.1 hw h9 (by rfl) rfl 1 (by decide) (ht _ mf_C_15) (fun _ h9 => h9) (by rfl) d_C_copyFrom_6 ?_
  refine lv_iconst (v := (nI 0)) hx hb d_C_copyFrom_9 (by decide) ?_
  refine lv_bipush (v := (nI 8)) hx hb d_C_copyFrom_10 (by decide) ?_
  refine yr_copyi hx hb (by rw [hml]; exact hl.1.symm) hown (ht _ ml_C_25) (ht _ mw_native) (ht _ mw_static) (ht _ mi_System) hK.1 hw k10 (by rfl) h10 (by rfl) 0 rfl (sp := nI 0) (dp := nI 0) (n := nI 8) (by decide) (by decide) (nI_pos (by omega)) (by rw [nI_clamp (n := 0) (by omega), nI_clamp (by omega)]; omega) (by rw [nI_clamp (n := 0) (by omega), nI_clamp (by omega)]; omega) (Nat.le_of_ble_eq_true rfl) (Nat.le_of_ble_eq_true rfl) d_C_copyFrom_12 (fun H locs hw => ?_)
  rw [nI_clamp (by omega), nI_clamp (by omega)] at hw
  have hw := yw_rg _ hw rfl
  refine lv_aload_n hx hb d_C_copyFrom_15 rfl (lv_at hl 0 rfl) ?_
  refine lv_aload_n hx hb d_C_copyFrom_16 rfl (lv_at hl 1 rfl) ?_
  refine yr_get (C := R_C) (T := F_C) (N := 4) (ci := k_C) hx hb ht j_C hown hK.1 hw k9 (by rfl) rfl 2 (by decide) (ht _ mf_C_19) (fun _ h9 => h9) (by rfl) d_C_copyFrom_17 ?_
  refine yr_put (ty := .int) (C := R_C) (T := F_C) (N := 4) (ci := k_C) hx hb ht j_C t_C t_C_ok n_C hown hK.1 hw h9 (by rfl) rfl 2 (by decide) (ht _ mf_C_19) (fun _ h9 => h9) rfl (by decide +kernel) rfl rfl (Nat.le_of_ble_eq_true rfl) d_C_copyFrom_20 (fun H locs hw => ?_)
  have hw := yw_ch ((s_ch σ y i).1, (s_ch σ z i).2.1, (s_ch σ y i).2.2) hw rfl
  refine lv_aload_n hx hb d_C_copyFrom_23 rfl (lv_at hl 0 rfl) ?_
  refine lv_aload_n hx hb d_C_copyFrom_24 rfl (lv_at hl 1 rfl) ?_
  refine yr_get (C := R_C) (T := F_C) (N := 4) (ci := k_C) hx hb ht j_C hown hK.1 hw k9 (by rfl) rfl 3 (by decide) (ht _ mf_C_22) (fun _ h9 => h9) (by rfl) d_C_copyFrom_25 ?_
  rw [yo_ch_o hyz]
  refine yr_put (ty := .int) (C := R_C) (T := F_C) (N := 4) (ci := k_C) hx hb ht j_C t_C t_C_ok n_C hown hK.1 hw h9 (by rfl) rfl 3 (by decide) (ht _ mf_C_22) (fun _ h9 => h9) rfl (by decide +kernel) rfl rfl (Nat.le_of_ble_eq_true rfl) d_C_copyFrom_28 (fun H locs hw => ?_)
  have hw := yw_ch ((s_ch σ y i).1, (s_ch σ z i).2.1, (s_ch σ z i).2.2) hw (by simp [yo_ch]; rfl)
  rw [yo_ch_ch] at hw
  exact ye_v hI () trivial hw d_C_copyFrom_31
set_option maxHeartbeats 4000000 in
set_option maxRecDepth 100000 in
/-- copyFrom of an actor -/
theorem c_A_copyFrom (l : Launch) (D : va_G) (cc : ClassId × ClassId × ClassId) (ad : yl → Nat) (LL : List yl) (X : va_W) (b0 sz : Nat) (σ : ys) (hL : ∀ q, yL σ q → q ∈ LL) (y z i : Nat) (hy : y < 2) (hz : z < 2) (hyz : z ≠ y) (hn : i < s_n σ y) (hn2 : i < s_n σ z) (hkk : (s_ac σ z i).1 = (s_ac σ y i).1) : Met l y_A_copyFrom w_A_copyFrom ({ frames := 1, cells := 0, slots := 0, locals := 48 }) (yPr D cc b0 [.ref (ad (5, y, i)), .ref (ad (5, z, i))] (yW cc ad LL X σ) sz) (yQv D (yW cc ad LL X σ) sz (yW cc ad LL X (yo_cpa σ y z i))) 0 0 (va_A (yW cc ad LL X σ) sz) := by
  have h5 : (5, y, i) ∈ LL := hL _ ⟨hy, hn⟩
  have h8 : (8, y, i) ∈ LL := hL _ ⟨hy, hn⟩
  have k5 : (5, z, i) ∈ LL := hL _ ⟨hz, hn2⟩
  have k8 : (8, z, i) ∈ LL := hL _ ⟨hz, hn2⟩
  have hr60 := yt_rows_le (s_ac σ y i).1
  refine y_ofW (cc := b_A_copyFrom) (maxL := 2) (ret := none) (by decide) rfl (Nat.le_of_ble_eq_true rfl) ?_
  intro pv ev sv mv bv tv cv ls hI hsz hw hl
  obtain ⟨hx, hb, hr, hml, hts, hown, hlocks, hnm, hK, hAb, hb0, hA⟩ := id hI
  have ht : ∀ w ∈ lg_tbl, w.before _ sv = true := fun w h => hts w (List.mem_cons_of_mem _ h)
  have hl : lv_has ls 2 [(0, .ref (ad (5, y, i))), (1, .ref (ad (5, z, i)))] := hl
  refine lv_aload_n hx hb d_A_copyFrom_0 rfl (lv_at hl 1 rfl) ?_
  refine yr_get (C := R_A) (T := F_A) (N := 8) (ci := k_A) hx hb ht j_A hown hK.1 hw k5 (by rfl) rfl 5 (by decide) (ht _ mf_A_34) (fun _ h9 => h9) (by rfl) d_A_copyFrom_1 ?_
  refine lv_iconst (v := (nI 0)) hx hb d_A_copyFrom_4 (by decide) ?_
  refine lv_aload_n hx hb d_A_copyFrom_5 rfl (lv_at hl 0 rfl) ?_
  refine yr_get (C := R_A) (T := F_A) (N := 8) (ci := k_A) hx hb ht j_A hown hK.1 hw h5 (by rfl) rfl 5 (by decide) (ht _ mf_A_34) (fun _ h9 => h9) (by rfl) d_A_copyFrom_6 ?_
  refine lv_iconst (v := (nI 0)) hx hb d_A_copyFrom_9 (by decide) ?_
  refine lv_aload_n hx hb d_A_copyFrom_10 rfl (lv_at hl 1 rfl) ?_
  refine yr_get (C := R_A) (T := F_A) (N := 8) (ci := k_A) hx hb ht j_A hown hK.1 hw k5 (by rfl) rfl 5 (by decide) (ht _ mf_A_34) (fun _ h9 => h9) (by rfl) d_A_copyFrom_11 ?_
  refine yr_alen (v := nI (yt_rows (s_ac σ y i).1)) hx hb hK.1 hw k8 (by rfl) 0 rfl (by rw [← hkk]; rfl) d_A_copyFrom_14 ?_
  refine lv_aload_n hx hb d_A_copyFrom_15 rfl (lv_at hl 0 rfl) ?_
  refine yr_get (C := R_A) (T := F_A) (N := 8) (ci := k_A) hx hb ht j_A hown hK.1 hw h5 (by rfl) rfl 5 (by decide) (ht _ mf_A_34) (fun _ h9 => h9) (by rfl) d_A_copyFrom_16 ?_
  refine yr_alen (v := nI (yt_rows (s_ac σ y i).1)) hx hb hK.1 hw h8 (by rfl) 0 rfl rfl d_A_copyFrom_19 ?_
  refine va_mmin hx hb (by rw [hml]; exact hl.1.symm) hown (ht _ ml_A_93) (ht _ mw_smin) (ht _ mi_Math) (ht _ mw_cmin) (Nat.le_of_ble_eq_true rfl) (Nat.le_of_ble_eq_true rfl) (Nat.le_of_ble_eq_true rfl) (Nat.le_of_ble_eq_true rfl) d_A_copyFrom_20 ?_
  rw [ite_self]
  refine yr_copyi hx hb (by rw [hml]; exact hl.1.symm) hown (ht _ ml_A_99) (ht _ mw_native) (ht _ mw_static) (ht _ mi_System) hK.1 hw k8 (by show _ = Sum.inl (cc.1, (yt_rows (s_ac σ y i).1), Sum.inl (s_rw σ z i)); rw [← hkk]; rfl) h8 (by rfl) 0 rfl (sp := nI 0) (dp := nI 0) (n := nI (yt_rows (s_ac σ y i).1)) (by decide) (by decide) (nI_pos (by omega)) (by rw [nI_clamp (n := 0) (by omega), nI_clamp (by omega)]; omega) (by rw [nI_clamp (n := 0) (by omega), nI_clamp (by omega)]; omega) (Nat.le_of_ble_eq_true rfl) (Nat.le_of_ble_eq_true rfl) d_A_copyFrom_23 (fun H locs hw => ?_)
  rw [nI_clamp (by omega), nI_clamp (by omega)] at hw
  have hw := yw_rw _ hw rfl
  refine lv_aload_n hx hb d_A_copyFrom_26 rfl (lv_at hl 0 rfl) ?_
  refine lv_aload_n hx hb d_A_copyFrom_27 rfl (lv_at hl 1 rfl) ?_
  refine yr_get (C := R_A) (T := F_A) (N := 8) (ci := k_A) hx hb ht j_A hown hK.1 hw k5 (by rfl) rfl 6 (by decide) (ht _ mf_A_37) (fun _ h9 => h9) (by rfl) d_A_copyFrom_28 ?_
  refine yr_put (ty := .int) (C := R_A) (T := F_A) (N := 8) (ci := k_A) hx hb ht j_A t_A t_A_ok n_A hown hK.1 hw h5 (by rfl) rfl 6 (by decide) (ht _ mf_A_37) (fun _ h9 => h9) rfl (by decide +kernel) rfl rfl (Nat.le_of_ble_eq_true rfl) d_A_copyFrom_31 (fun H locs hw => ?_)
  have hw := yw_ac ((s_ac σ y i).1, (s_ac σ y i).2.1, (s_ac σ y i).2.2.1, (s_ac σ z i).2.2.2.1, (s_ac σ y i).2.2.2.2) hw rfl rfl
  refine lv_aload_n hx hb d_A_copyFrom_34 rfl (lv_at hl 0 rfl) ?_
  refine lv_aload_n hx hb d_A_copyFrom_35 rfl (lv_at hl 1 rfl) ?_
  refine yr_get (C := R_A) (T := F_A) (N := 8) (ci := k_A) hx hb ht j_A hown hK.1 hw k5 (by rfl) rfl 7 (by decide) (ht _ mf_A_40) (fun _ h9 => h9) (by rfl) d_A_copyFrom_36 ?_
  rw [yo_ac_o hyz]
  refine yr_put (ty := .int) (C := R_A) (T := F_A) (N := 8) (ci := k_A) hx hb ht j_A t_A t_A_ok n_A hown hK.1 hw h5 (by rfl) rfl 7 (by decide) (ht _ mf_A_40) (fun _ h9 => h9) rfl (by decide +kernel) rfl rfl (Nat.le_of_ble_eq_true rfl) d_A_copyFrom_39 (fun H locs hw => ?_)
  have hw := yw_ac ((s_ac σ y i).1, (s_ac σ y i).2.1, (s_ac σ y i).2.2.1, (s_ac σ z i).2.2.2.1, (s_ac σ z i).2.2.2.2) hw (by rw [yo_ac]) (by simp [yo_ac]; rfl)
  rw [yo_ac_ac] at hw
  exact ye_v hI () trivial hw d_A_copyFrom_42
