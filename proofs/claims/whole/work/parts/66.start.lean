/-! THE LAW'S START -/
def lw_a0 : yl → Nat := fun _ => 0
def lw_g0 : yl → va_E := fun _ => .inr (0, [])
theorem mo_A : Cond.arrayOver (.object "YardActors$Actor") ∈ lw_tbl := by decide +kernel
theorem mo_C : Cond.arrayOver (.object "YardActors$Channel") ∈ lw_tbl := by decide +kernel
theorem mz_INS : Cond.fieldLinkNest "YardActors$Actor" 43 "YardActors" "INS" "[I" "YardActors" ∈ lw_tbl := by decide +kernel
theorem my_INS : Cond.laysStatic "YardActors" "INS" "[I" ∈ lw_tbl := by decide +kernel
theorem mz_OUTS : Cond.fieldLinkNest "YardActors$Actor" 46 "YardActors" "OUTS" "[I" "YardActors" ∈ lw_tbl := by decide +kernel
theorem my_OUTS : Cond.laysStatic "YardActors" "OUTS" "[I" ∈ lw_tbl := by decide +kernel
theorem mz_ROWS : Cond.fieldLinkNest "YardActors$Actor" 30 "YardActors" "ROWS" "[I" "YardActors" ∈ lw_tbl := by decide +kernel
theorem my_ROWS : Cond.laysStatic "YardActors" "ROWS" "[I" ∈ lw_tbl := by decide +kernel
set_option maxRecDepth 100000 in
theorem law_Z_INS {p : Program} {s : State} {m : MethodId} {meth : Method} {c : Code} {b L : Nat} {xs : Nat → Int32} (C0 : lw_At p s m meth c b L xs) : yZ (43, "INS", yt_ins) (fun q => s.heap.size ≤ q) s s.heap := by
  obtain ⟨hx, hb, hr, hml, hown, hts, hX, hbl, hlocks, hgv⟩ := C0
  have hs := flat_of_before _ hgv
  have hA : ∀ a : Nat, a < s.heap.size → ¬ (fun q => s.heap.size ≤ q) a := fun a h => Nat.not_le.mpr h
  obtain ⟨t, ht, hT⟩ := va_Tof (tm := (.static "YardActors" "INS" "[I")) (ty := .int) (N := 9) (f := fun j => .int (nI (yt_ins j))) (A := fun q => s.heap.size ≤ q) (by decide) (hs (.arrayOf (.static "YardActors" "INS" "[I") .int) (by decide +kernel)) (va_eqt (hs (.eq (.length (.static "YardActors" "INS" "[I")) (.int 9)) (by decide +kernel))) (fun j hj => by
    rcases (show j = 0 ∨ j = 1 ∨ j = 2 ∨ j = 3 ∨ j = 4 ∨ j = 5 ∨ j = 6 ∨ j = 7 ∨ j = 8 by omega) with rfl | rfl | rfl | rfl | rfl | rfl | rfl | rfl | rfl
    · exact va_eqt (hs (.eq (.elem (.static "YardActors" "INS" "[I") (.int (Int32.ofNat 0))) (.int (nI (yt_ins 0)))) (by decide +kernel))
    · exact va_eqt (hs (.eq (.elem (.static "YardActors" "INS" "[I") (.int (Int32.ofNat 1))) (.int (nI (yt_ins 1)))) (by decide +kernel))
    · exact va_eqt (hs (.eq (.elem (.static "YardActors" "INS" "[I") (.int (Int32.ofNat 2))) (.int (nI (yt_ins 2)))) (by decide +kernel))
    · exact va_eqt (hs (.eq (.elem (.static "YardActors" "INS" "[I") (.int (Int32.ofNat 3))) (.int (nI (yt_ins 3)))) (by decide +kernel))
    · exact va_eqt (hs (.eq (.elem (.static "YardActors" "INS" "[I") (.int (Int32.ofNat 4))) (.int (nI (yt_ins 4)))) (by decide +kernel))
    · exact va_eqt (hs (.eq (.elem (.static "YardActors" "INS" "[I") (.int (Int32.ofNat 5))) (.int (nI (yt_ins 5)))) (by decide +kernel))
    · exact va_eqt (hs (.eq (.elem (.static "YardActors" "INS" "[I") (.int (Int32.ofNat 6))) (.int (nI (yt_ins 6)))) (by decide +kernel))
    · exact va_eqt (hs (.eq (.elem (.static "YardActors" "INS" "[I") (.int (Int32.ofNat 7))) (.int (nI (yt_ins 7)))) (by decide +kernel))
    · exact va_eqt (hs (.eq (.elem (.static "YardActors" "INS" "[I") (.int (Int32.ofNat 8))) (.int (nI (yt_ins 8)))) (by decide +kernel))
    ) hA
  exact ⟨va_Nw.of rfl (hts _ mz_INS), t, va_Zof (hts _ my_INS) (hts _ (lg_lw mi_S)) ht hA, hT⟩
set_option maxRecDepth 100000 in
theorem law_Z_OUTS {p : Program} {s : State} {m : MethodId} {meth : Method} {c : Code} {b L : Nat} {xs : Nat → Int32} (C0 : lw_At p s m meth c b L xs) : yZ (46, "OUTS", yt_outs) (fun q => s.heap.size ≤ q) s s.heap := by
  obtain ⟨hx, hb, hr, hml, hown, hts, hX, hbl, hlocks, hgv⟩ := C0
  have hs := flat_of_before _ hgv
  have hA : ∀ a : Nat, a < s.heap.size → ¬ (fun q => s.heap.size ≤ q) a := fun a h => Nat.not_le.mpr h
  obtain ⟨t, ht, hT⟩ := va_Tof (tm := (.static "YardActors" "OUTS" "[I")) (ty := .int) (N := 9) (f := fun j => .int (nI (yt_outs j))) (A := fun q => s.heap.size ≤ q) (by decide) (hs (.arrayOf (.static "YardActors" "OUTS" "[I") .int) (by decide +kernel)) (va_eqt (hs (.eq (.length (.static "YardActors" "OUTS" "[I")) (.int 9)) (by decide +kernel))) (fun j hj => by
    rcases (show j = 0 ∨ j = 1 ∨ j = 2 ∨ j = 3 ∨ j = 4 ∨ j = 5 ∨ j = 6 ∨ j = 7 ∨ j = 8 by omega) with rfl | rfl | rfl | rfl | rfl | rfl | rfl | rfl | rfl
    · exact va_eqt (hs (.eq (.elem (.static "YardActors" "OUTS" "[I") (.int (Int32.ofNat 0))) (.int (nI (yt_outs 0)))) (by decide +kernel))
    · exact va_eqt (hs (.eq (.elem (.static "YardActors" "OUTS" "[I") (.int (Int32.ofNat 1))) (.int (nI (yt_outs 1)))) (by decide +kernel))
    · exact va_eqt (hs (.eq (.elem (.static "YardActors" "OUTS" "[I") (.int (Int32.ofNat 2))) (.int (nI (yt_outs 2)))) (by decide +kernel))
    · exact va_eqt (hs (.eq (.elem (.static "YardActors" "OUTS" "[I") (.int (Int32.ofNat 3))) (.int (nI (yt_outs 3)))) (by decide +kernel))
    · exact va_eqt (hs (.eq (.elem (.static "YardActors" "OUTS" "[I") (.int (Int32.ofNat 4))) (.int (nI (yt_outs 4)))) (by decide +kernel))
    · exact va_eqt (hs (.eq (.elem (.static "YardActors" "OUTS" "[I") (.int (Int32.ofNat 5))) (.int (nI (yt_outs 5)))) (by decide +kernel))
    · exact va_eqt (hs (.eq (.elem (.static "YardActors" "OUTS" "[I") (.int (Int32.ofNat 6))) (.int (nI (yt_outs 6)))) (by decide +kernel))
    · exact va_eqt (hs (.eq (.elem (.static "YardActors" "OUTS" "[I") (.int (Int32.ofNat 7))) (.int (nI (yt_outs 7)))) (by decide +kernel))
    · exact va_eqt (hs (.eq (.elem (.static "YardActors" "OUTS" "[I") (.int (Int32.ofNat 8))) (.int (nI (yt_outs 8)))) (by decide +kernel))
    ) hA
  exact ⟨va_Nw.of rfl (hts _ mz_OUTS), t, va_Zof (hts _ my_OUTS) (hts _ (lg_lw mi_S)) ht hA, hT⟩
set_option maxRecDepth 100000 in
theorem law_Z_ROWS {p : Program} {s : State} {m : MethodId} {meth : Method} {c : Code} {b L : Nat} {xs : Nat → Int32} (C0 : lw_At p s m meth c b L xs) : yZ (30, "ROWS", yt_rows) (fun q => s.heap.size ≤ q) s s.heap := by
  obtain ⟨hx, hb, hr, hml, hown, hts, hX, hbl, hlocks, hgv⟩ := C0
  have hs := flat_of_before _ hgv
  have hA : ∀ a : Nat, a < s.heap.size → ¬ (fun q => s.heap.size ≤ q) a := fun a h => Nat.not_le.mpr h
  obtain ⟨t, ht, hT⟩ := va_Tof (tm := (.static "YardActors" "ROWS" "[I")) (ty := .int) (N := 9) (f := fun j => .int (nI (yt_rows j))) (A := fun q => s.heap.size ≤ q) (by decide) (hs (.arrayOf (.static "YardActors" "ROWS" "[I") .int) (by decide +kernel)) (va_eqt (hs (.eq (.length (.static "YardActors" "ROWS" "[I")) (.int 9)) (by decide +kernel))) (fun j hj => by
    rcases (show j = 0 ∨ j = 1 ∨ j = 2 ∨ j = 3 ∨ j = 4 ∨ j = 5 ∨ j = 6 ∨ j = 7 ∨ j = 8 by omega) with rfl | rfl | rfl | rfl | rfl | rfl | rfl | rfl | rfl
    · exact va_eqt (hs (.eq (.elem (.static "YardActors" "ROWS" "[I") (.int (Int32.ofNat 0))) (.int (nI (yt_rows 0)))) (by decide +kernel))
    · exact va_eqt (hs (.eq (.elem (.static "YardActors" "ROWS" "[I") (.int (Int32.ofNat 1))) (.int (nI (yt_rows 1)))) (by decide +kernel))
    · exact va_eqt (hs (.eq (.elem (.static "YardActors" "ROWS" "[I") (.int (Int32.ofNat 2))) (.int (nI (yt_rows 2)))) (by decide +kernel))
    · exact va_eqt (hs (.eq (.elem (.static "YardActors" "ROWS" "[I") (.int (Int32.ofNat 3))) (.int (nI (yt_rows 3)))) (by decide +kernel))
    · exact va_eqt (hs (.eq (.elem (.static "YardActors" "ROWS" "[I") (.int (Int32.ofNat 4))) (.int (nI (yt_rows 4)))) (by decide +kernel))
    · exact va_eqt (hs (.eq (.elem (.static "YardActors" "ROWS" "[I") (.int (Int32.ofNat 5))) (.int (nI (yt_rows 5)))) (by decide +kernel))
    · exact va_eqt (hs (.eq (.elem (.static "YardActors" "ROWS" "[I") (.int (Int32.ofNat 6))) (.int (nI (yt_rows 6)))) (by decide +kernel))
    · exact va_eqt (hs (.eq (.elem (.static "YardActors" "ROWS" "[I") (.int (Int32.ofNat 7))) (.int (nI (yt_rows 7)))) (by decide +kernel))
    · exact va_eqt (hs (.eq (.elem (.static "YardActors" "ROWS" "[I") (.int (Int32.ofNat 8))) (.int (nI (yt_rows 8)))) (by decide +kernel))
    ) hA
  exact ⟨va_Nw.of rfl (hts _ mz_ROWS), t, va_Zof (hts _ my_ROWS) (hts _ (lg_lw mi_S)) ht hA, hT⟩
set_option maxHeartbeats 4000000 in
set_option maxRecDepth 100000 in
theorem law_K {p : Program} {s : State} {m : MethodId} {meth : Method} {c : Code} {b L : Nat} {xs : Nat → Int32} (C0 : lw_At p s m meth c b L xs) : ∃ (D : va_G) (cc : ClassId × ClassId × ClassId), yK D ycl (yty cc) s.heap.size s := by
  obtain ⟨hx, hb, hr, hml, hown, hts, hX, hbl, hlocks, hgv⟩ := id C0
  have ht : ∀ w ∈ lg_tbl, w.before #[Value.ref b] s = true := fun w h => hts w (lg_lw h)
  obtain ⟨c0, i0, h0⟩ := u_known (C := R_A) (T := F_A) (N := 8) (n := 8) hts i_A (ht _ mn_A)
  obtain ⟨c1, i1, h1⟩ := u_known (C := R_C) (T := F_C) (N := 4) (n := 4) hts i_C (ht _ mn_C)
  obtain ⟨c2, i2, h2⟩ := u_known (C := R_Y) (T := F_Y) (N := 5) (n := 5) hts i_Y (ht _ mn_Y)
  obtain ⟨c3, i3, h3⟩ := u_known (C := R_S) (T := F_S) (N := 3) (n := 3) hts i_S (ht _ mn_S)
  obtain ⟨c4, i4, h4⟩ := u_known (C := R_M) (T := F_M) (N := 16) (n := 16) hts i_M (ht _ mn_M)
  obtain ⟨a1, kA, comp, f1, f2, f3⟩ := Cond.arrayClass_spec (ht _ ma_int)
  obtain ⟨comp2, a2, k2, g1, -, g2, g3, g4⟩ := Cond.arrayOver_spec (hts _ mo_A)
  obtain ⟨comp3, a3, k3, e1, -, e2, e3, e4⟩ := Cond.arrayOver_spec (hts _ mo_C)
  refine ⟨(fun k => match k with | 0 => c0 | 1 => c1 | 2 => c2 | 3 => c3 | _ => c4, fun k => match k with | 0 => i0 | 1 => i1 | 2 => i2 | 3 => i3 | _ => i4), (a1, a2, a3), ⟨fun k q hq => ?_, fun k q hq => ?_⟩, fun x hx => ?_, fun C hC => ?_, fun z hz => ?_⟩
  · match k, hq with
    | 0, hq => cases hq; exact h0
    | 1, hq => cases hq; exact h1
    | 2, hq => cases hq; exact h2
    | 3, hq => cases hq; exact h3
    | 4, hq => cases hq; exact h4
    | k + 5, hq => cases hq
  · match k, hq with
    | 0, hq => cases hq; exact ⟨fun n z => ⟨(fun k h => by cases h), kA, f2, comp, f3⟩, f1⟩
    | 1, hq => cases hq; exact ⟨fun n z => ⟨(fun k h => by cases h), k2, g2, comp2, g3⟩, k2, comp2, g2, g3, g1, g4⟩
    | 2, hq => cases hq; exact ⟨fun n z => ⟨(fun k h => by cases h), k3, e2, comp3, e3⟩, k3, comp3, e2, e3, e1, e4⟩
    | k + 3, hq => cases hq
  · rcases List.mem_cons.mp hx with rfl | hx
    · exact f1
    · rcases List.mem_cons.mp hx with rfl | hx
      · exact g4
      · rcases List.mem_cons.mp hx with rfl | hx
        · exact e4
        · cases hx
  · rcases List.mem_cons.mp hC with rfl | hC
    · exact va_AO.of (hts _ mo_A)
    · rcases List.mem_cons.mp hC with rfl | hC
      · exact va_AO.of (hts _ mo_C)
      · cases hC
  · rcases List.mem_cons.mp hz with rfl | hz
    · exact law_Z_INS C0
    · rcases List.mem_cons.mp hz with rfl | hz
      · exact law_Z_OUTS C0
      · rcases List.mem_cons.mp hz with rfl | hz
        · exact law_Z_ROWS C0
        · cases hz
set_option maxHeartbeats 4000000 in
set_option maxRecDepth 100000 in
/-- THE LAW, from its entry -/
theorem whole_start {p : Program} {e : Env} {s : State} {m : MethodId} {below : List Frame} {meth : Method} {c : Code} (l : Launch) {b L : Nat} {xs : Nat → Int32} (hL : L ≤ 3072) (C0 : lw_At p s m meth c b L xs) : W p l e room_1 s m #[Value.ref b] below meth c s.heap [] 0 0 (lw_Z below #[Value.ref b] s) (entryFrame m ([Value.ref b] : List Value).toArray 4) := by
  obtain ⟨D, cc, hK⟩ := law_K C0
  obtain ⟨hx, hb, hr, hml, hown, ht, hts, hX, hbl, hbA, hlocks, hI, hA⟩ := lwC C0 hK
  have hl := lv_entry ([.ref b]) (n := 4) (Nat.le_of_ble_eq_true rfl)
  rw [lg_entry_eq]
  generalize (lg_sl ([.ref b]) ++ List.replicate (4 - (lg_sl ([.ref b])).length) Slot.unset).toArray = ls at hl ⊢
  have hl : lv_has ls 4 [(0, .ref b)] := hl
  have hw : yH D ycl (lwA s) s.heap s.heap [] (wl lw_a0 [] lw_g0 ++ []) := ⟨fun k q h => (by cases h), ⟨fun i j p q h => (by cases h), fun k q h => (by cases h)⟩, va_S.rf⟩
  refine yr_new (fs := [.null, .null, .int 0]) (C := R_S) (T := F_S) (N := 3) (ci := k_S) hx hb ht j_S t_S t_S_ok hown (ht _ mk_L_7) (ht _ mn_S) (ht _ mi_S) hK.1 hw hA (0, 0, 0) (by simp) rfl (fun j hj => by rcases (show j = 0 ∨ j = 1 ∨ j = 2 by omega) with rfl | rfl | rfl <;> rfl) (Nat.le_of_ble_eq_true rfl) (Nat.le_of_ble_eq_true rfl) d_L_law_0 (fun ad1 H hag1 hw => ?_)
  have hw : yH D ycl (lwA s) s.heap H [] (wl ad1 [(0, 0, 0)] (yu lw_g0 (0, 0, 0) (.inr (k_S, [.null, .null, .int 0]))) ++ []) := hw
  refine lv_dup hx hb d_L_law_3 rfl ?_
  refine yc_v (va_runI (As := []) (rest := [.ref _]) ⟨hx, hb, hml, hown, hts⟩ (c_S_init l D cc ad1 (yu lw_g0 (0, 0, 0) (.inr (k_S, [.null, .null, .int 0]))) [] s.heap.size _ (yu_s _ _ _)) (cwI 0 hts (yg_sub mc_S_init) rfl rfl rfl (ht _ mi_S) (ht _ ml_L_9) (ht _ mm_S_init) rfl (by decide +kernel) ⟨Nat.le_of_ble_eq_true rfl, Nat.le_of_ble_eq_true rfl⟩) (y_preS hI hw) rfl rfl hl.1 rfl (lv_room (Nat.le_of_ble_eq_true rfl)) d_L_law_4 ⟨Nat.le_of_ble_eq_true rfl, Nat.le_of_ble_eq_true rfl⟩) hw hA (fun ad2 H locs hag2 hw => ?_)
  rw [← hag2]
  have hw : yH D ycl (lwA s) s.heap H locs (wl lw_a0 [] lw_g0 ++ (wl ad2 yLL0 (yG cc y0 ad2))) := by
    have hw : yH D ycl (lwA s) s.heap H locs ((wl ad2 yLL0 (yG cc y0 ad2)) ++ []) := hw
    rw [List.append_nil] at hw
    exact hw
  refine lv_astore_n (lv' := [(1, .ref _), (0, .ref _)]) hx hb d_L_law_7 rfl hl (by decide) rfl (fun ls hl => ?_)
  refine yr_new (fs := [.int 0, .null, .null, .null, .null, .null, .int 0, .null, .null, .null, .null, .null, .null, .null, .null, .null]) (C := R_M) (T := F_M) (N := 16) (ci := k_M) hx hb ht j_M t_M t_M_ok hown (ht _ mk_L_10) (ht _ mn_M) (ht _ mi_M) hK.1 hw hA (20, 0, 0) (by simp) rfl (fun j hj => by rcases (show j = 0 ∨ j = 1 ∨ j = 2 ∨ j = 3 ∨ j = 4 ∨ j = 5 ∨ j = 6 ∨ j = 7 ∨ j = 8 ∨ j = 9 ∨ j = 10 ∨ j = 11 ∨ j = 12 ∨ j = 13 ∨ j = 14 ∨ j = 15 by omega) with rfl | rfl | rfl | rfl | rfl | rfl | rfl | rfl | rfl | rfl | rfl | rfl | rfl | rfl | rfl | rfl <;> rfl) (Nat.le_of_ble_eq_true rfl) (Nat.le_of_ble_eq_true rfl) d_L_law_8 (fun ad3 H hag3 hw => ?_)
  have hw : yH D ycl (lwA s) s.heap H locs (wl ad3 [(20, 0, 0)] (yu lw_g0 (20, 0, 0) (.inr (k_M, [.int 0, .null, .null, .null, .null, .null, .int 0, .null, .null, .null, .null, .null, .null, .null, .null, .null]))) ++ (wl ad2 yLL0 (yG cc y0 ad2))) := hw
  refine lv_dup hx hb d_L_law_11 rfl ?_
  refine yc_v (va_runI (As := []) (rest := [.ref _]) ⟨hx, hb, hml, hown, hts⟩ (c_M_init l D cc ad3 (yu lw_g0 (20, 0, 0) (.inr (k_M, [.int 0, .null, .null, .null, .null, .null, .int 0, .null, .null, .null, .null, .null, .null, .null, .null, .null]))) (wl ad2 yLL0 (yG cc y0 ad2)) s.heap.size _ (yu_s _ _ _)) (cwI 0 hts (yg_sub mc_M_init) rfl rfl rfl (ht _ mi_M) (ht _ ml_L_12) (ht _ mm_M_init) rfl (by decide +kernel) ⟨Nat.le_of_ble_eq_true rfl, Nat.le_of_ble_eq_true rfl⟩) (y_preS hI hw) rfl rfl hl.1 rfl (lv_room (Nat.le_of_ble_eq_true rfl)) d_L_law_12 ⟨Nat.le_of_ble_eq_true rfl, Nat.le_of_ble_eq_true rfl⟩) hw hA (fun ad4 H locs hag4 hw => ?_)
  rw [← hag4]
  have hw := y_swap hw
  refine lv_astore_n (lv' := [(2, .ref _), (1, .ref _), (0, .ref _)]) hx hb d_L_law_15 rfl hl (by decide) rfl (fun ls hl => ?_)
  refine lv_iconst (v := (nI (6 * 0))) hx hb d_L_law_16 (by decide) ?_
  refine lv_istore_n (lv' := [(3, .int _), (2, .ref _), (1, .ref _), (0, .ref _)]) hx hb d_L_law_17 rfl hl (by decide) rfl (fun ls hl => ?_)
  refine W.widen (k := 24 + 8 * 0) (n := 1945 + 144 * 0) (by omega) (by omega) ?_
  exact law_loop C0 hK hL (L + 1) 0 ad2 yLL0 y0 ad4 m0 _ _ _ (by omega) (by omega) ⟨z_J, z_L, m0_I 0, m0_T, m0_D, rfl⟩ hw (lv_sub hl [0, 3, 2, 1] rfl)
