/-! ACTOR: isReady -/
theorem yb_0 {b : Bool} (h : yb b = 0) : b = false := by
  cases b with
  | false => rfl
  | true => exact absurd h (by decide)
theorem yb_1 {b : Bool} (h : ¬ yb b = 0) : b = true := by
  cases b with
  | true => rfl
  | false => exact absurd rfl h
theorem ytm {σ : ys} {y i : Nat} : (s_D σ y).1 i = (s_ac σ y i).2.2.2.2 := rfl
theorem ysr_len {σ : ys} {y i : Nat} : (yp_sr (s_T σ y) i).length = (s_ac σ y i).2.2.2.1 := yrw_len _ _
theorem yh_inv {σ : ys} {y i j : Nat} (h : (yp_hd (s_T σ y) (s_D σ y) i j).isSome = true) : ∃ c, s_ic σ y i j = some c ∧ 0 < (s_ch σ y c).2.2 := by
  cases e : s_ic σ y i j with
  | none => rw [yh_none e] at h; cases h
  | some c =>
    refine ⟨c, rfl, ?_⟩
    rcases Nat.eq_zero_or_pos (s_ch σ y c).2.2 with h0 | h0
    · rw [yh_some0 e (by omega)] at h; cases h
    · exact h0
set_option maxHeartbeats 4000000 in
set_option maxRecDepth 100000 in
/-- isReady: whether it can act -/
theorem c_A_isReady (l : Launch) (D : va_G) (cc : ClassId × ClassId × ClassId) (ad : yl → Nat) (LL : List yl) (X : va_W) (b0 sz : Nat) (σ : ys) (hL : ∀ q, yL σ q → q ∈ LL) (y i : Nat) (hy : y < 2) (hn : i < s_n σ y) (hi : yI σ y) : Met l y_A_isReady w_A_isReady ({ frames := 2, cells := 0, slots := 0, locals := 43 }) (yPr D cc b0 [.ref (ad (5, y, i))] (yW cc ad LL X σ) sz) (yQi D (yW cc ad LL X σ) sz (yb (yp_canb (s_T σ y) (s_D σ y) i)) (yW cc ad LL X σ)) 0 0 (va_A (yW cc ad LL X σ) sz) := by
  have h5 : (5, y, i) ∈ LL := hL _ ⟨hy, hn⟩
  have h6 : (6, y, i) ∈ LL := hL _ ⟨hy, hn⟩
  have h7 : (7, y, i) ∈ LL := hL _ ⟨hy, hn⟩
  have h8 : (8, y, i) ∈ LL := hL _ ⟨hy, hn⟩
  obtain ⟨a1, a2, a3, a4, a5⟩ := hi.2.2.1 i
  refine y_ofW (cc := b_A_isReady) (maxL := 1) (ret := (some .boolean)) (by decide) rfl (Nat.le_of_ble_eq_true rfl) ?_
  intro pv ev sv mv bv tv cv ls hI hsz hw hl
  obtain ⟨hx, hb, hr, hml, hts, hown, hlocks, hnm, hK, hAb, hb0, hA⟩ := id hI
  have ht : ∀ w ∈ lg_tbl, w.before _ sv = true := fun w h => hts w (List.mem_cons_of_mem _ h)
  have hl : lv_has ls 1 [(0, .ref (ad (5, y, i)))] := hl
  by_cases h100 : (s_ac σ y i).2.2.2.2 < 100
  · have h101 : ¬ 100 ≤ (s_D σ y).1 i := by show ¬ 100 ≤ (s_ac σ y i).2.2.2.2; omega
    have hks : (s_ac σ y i).1 = 0 ∨ (s_ac σ y i).1 = 1 ∨ (s_ac σ y i).1 = 2 ∨ (s_ac σ y i).1 = 3 ∨ (s_ac σ y i).1 = 4 ∨ (s_ac σ y i).1 = 5 ∨ (s_ac σ y i).1 = 6 ∨ (s_ac σ y i).1 = 7 ∨ (s_ac σ y i).1 = 8 := by omega
    rcases hks with hk | hk | hk | hk | hk | hk | hk | hk | hk
    · refine lv_aload_n hx hb d_A_isReady_0 rfl (lv_at hl 0 rfl) ?_
      refine yr_get (C := R_A) (T := F_A) (N := 8) (ci := k_A) hx hb ht j_A hown hK.1 hw (by assumption) (by rfl) rfl 7 (by decide) (ht _ mf_A_40) (fun _ h9 => h9) (by rfl) d_A_isReady_1 ?_
      refine lv_bipush (v := (nI 100)) hx hb d_A_isReady_4 (by decide) ?_
      refine lv_icmp_lt (tgt := 11) hx hb d_A_isReady_6 (by decide) (fun c_6 => ?_) (fun c_6 => by exact absurd ((nI_ltI (by omega) (by omega)).mpr h100) c_6)
      refine lv_aload_n hx hb d_A_isReady_11 rfl (lv_at hl 0 rfl) ?_
      refine yr_get (C := R_A) (T := F_A) (N := 8) (ci := k_A) hx hb ht j_A hown hK.1 hw (by assumption) (by rfl) rfl 0 (by decide) (ht _ mf_A_9) (fun _ h9 => h9) (by rfl) d_A_isReady_12 ?_
      rw [hk]
      refine lv_tableIn (off := 49) (tgt := 64) hx hb d_A_isReady_15 (by decide +kernel) (by decide +kernel) (by decide +kernel) (by decide) ?_
      refine lv_aload_n hx hb d_A_isReady_64 rfl (lv_at hl 0 rfl) ?_
      refine yr_get (C := R_A) (T := F_A) (N := 8) (ci := k_A) hx hb ht j_A hown hK.1 hw (by assumption) (by rfl) rfl 7 (by decide) (ht _ mf_A_40) (fun _ h9 => h9) (by rfl) d_A_isReady_65 ?_
      refine lv_aload_n hx hb d_A_isReady_68 rfl (lv_at hl 0 rfl) ?_
      refine yr_get (C := R_A) (T := F_A) (N := 8) (ci := k_A) hx hb ht j_A hown hK.1 hw (by assumption) (by rfl) rfl 6 (by decide) (ht _ mf_A_37) (fun _ h9 => h9) (by rfl) d_A_isReady_69 ?_
      refine lv_icmp_ge (tgt := 87) hx hb d_A_isReady_72 (by decide) (fun c_72 => ?_) (fun c_72 => ?_)
      · have e_72 : ¬ (s_ac σ y i).2.2.2.2 < (s_ac σ y i).2.2.2.1 := by
          have := (nI_leI (by omega) (by omega)).mp c_72
          omega
        refine lv_iconst (v := 0) hx hb d_A_isReady_87 (by decide) ?_
        exact ye_z hI (by decide) () (by rw [yp_can0 (T := s_T σ y) h101 hk]; simp [yb, ytm, ysr_len, e_72]) hw d_A_isReady_88
      · have e_72 : (s_ac σ y i).2.2.2.2 < (s_ac σ y i).2.2.2.1 := by
          rcases Nat.lt_or_ge (s_ac σ y i).2.2.2.2 (s_ac σ y i).2.2.2.1 with h | h
          · exact h
          · exact absurd ((nI_leI (by omega) (by omega)).mpr h) c_72
        refine lv_aload_n hx hb d_A_isReady_75 rfl (lv_at hl 0 rfl) ?_
        refine lv_iconst (v := (nI 0)) hx hb d_A_isReady_76 (by decide) ?_
        refine yc_i (va_runV (As := [.int _]) (rest := []) ⟨hx, hb, hml, hown, hts⟩ (c_A_hasRoom l D cc ad LL X b0 _ σ hL y i hy hn hi 0 (by omega)) (cwV 1 hts (yg_call mc_A_hasRoom ml_A_49 mm_A_hasRoom ms_A_hasRoom mi_A) rfl rfl rfl (by decide +kernel) ⟨Nat.le_of_ble_eq_true rfl, Nat.le_of_ble_eq_true rfl⟩) (y_preV hI hw (y_recv hK.1 hw h5 (by rfl) rfl)) rfl rfl hl.1 rfl (lv_room (Nat.le_of_ble_eq_true rfl)) d_A_isReady_77 ⟨Nat.le_of_ble_eq_true rfl, Nat.le_of_ble_eq_true rfl⟩) hw hA (fun r u H locs he hw => ?_)
        subst he
        refine lv_if_eq (tgt := 87) hx hb d_A_isReady_80 (by decide) (fun c_80 => ?_) (fun c_80 => ?_)
        · have e_80 := yb_0 c_80
          refine lv_iconst (v := 0) hx hb d_A_isReady_87 (by decide) ?_
          exact ye_z hI (by decide) () (by rw [yp_can0 (T := s_T σ y) h101 hk]; simp [yb, ytm, ysr_len, e_72, e_80]) hw d_A_isReady_88
        · have e_80 := yb_1 c_80
          refine lv_iconst (v := 1) hx hb d_A_isReady_83 (by decide) ?_
          refine lv_goto (tgt := 88) hx hb d_A_isReady_84 (by decide) ?_
          exact ye_z hI (by decide) () (by rw [yp_can0 (T := s_T σ y) h101 hk]; simp [yb, ytm, ysr_len, e_72, e_80]) hw d_A_isReady_88
    · refine lv_aload_n hx hb d_A_isReady_0 rfl (lv_at hl 0 rfl) ?_
      refine yr_get (C := R_A) (T := F_A) (N := 8) (ci := k_A) hx hb ht j_A hown hK.1 hw (by assumption) (by rfl) rfl 7 (by decide) (ht _ mf_A_40) (fun _ h9 => h9) (by rfl) d_A_isReady_1 ?_
      refine lv_bipush (v := (nI 100)) hx hb d_A_isReady_4 (by decide) ?_
      refine lv_icmp_lt (tgt := 11) hx hb d_A_isReady_6 (by decide) (fun c_6 => ?_) (fun c_6 => by exact absurd ((nI_ltI (by omega) (by omega)).mpr h100) c_6)
      refine lv_aload_n hx hb d_A_isReady_11 rfl (lv_at hl 0 rfl) ?_
      refine yr_get (C := R_A) (T := F_A) (N := 8) (ci := k_A) hx hb ht j_A hown hK.1 hw (by assumption) (by rfl) rfl 0 (by decide) (ht _ mf_A_9) (fun _ h9 => h9) (by rfl) d_A_isReady_12 ?_
      rw [hk]
      refine lv_tableIn (off := 74) (tgt := 89) hx hb d_A_isReady_15 (by decide +kernel) (by decide +kernel) (by decide +kernel) (by decide) ?_
      refine lv_aload_n hx hb d_A_isReady_89 rfl (lv_at hl 0 rfl) ?_
      refine lv_iconst (v := (nI 0)) hx hb d_A_isReady_90 (by decide) ?_
      refine yc_i (va_runV (As := [.int _]) (rest := []) ⟨hx, hb, hml, hown, hts⟩ (c_A_hasValue l D cc ad LL X b0 _ σ hL y i hy hn hi 0 (by omega)) (cwV 1 hts (yg_call mc_A_hasValue ml_A_53 mm_A_hasValue ms_A_hasValue mi_A) rfl rfl rfl (by decide +kernel) ⟨Nat.le_of_ble_eq_true rfl, Nat.le_of_ble_eq_true rfl⟩) (y_preV hI hw (y_recv hK.1 hw h5 (by rfl) rfl)) rfl rfl hl.1 rfl (lv_room (Nat.le_of_ble_eq_true rfl)) d_A_isReady_91 ⟨Nat.le_of_ble_eq_true rfl, Nat.le_of_ble_eq_true rfl⟩) hw hA (fun r u H locs he hw => ?_)
      subst he
      refine lv_if_eq (tgt := 109) hx hb d_A_isReady_94 (by decide) (fun c_94 => ?_) (fun c_94 => ?_)
      · have e_94 := yb_0 c_94
        refine lv_iconst (v := 0) hx hb d_A_isReady_109 (by decide) ?_
        exact ye_z hI (by decide) () (by rw [yp_can1 (T := s_T σ y) h101 hk]; simp [yb, ytm, ysr_len, e_94]) hw d_A_isReady_110
      · have e_94 := yb_1 c_94
        refine lv_aload_n hx hb d_A_isReady_97 rfl (lv_at hl 0 rfl) ?_
        refine lv_iconst (v := (nI 0)) hx hb d_A_isReady_98 (by decide) ?_
        refine yc_i (va_runV (As := [.int _]) (rest := []) ⟨hx, hb, hml, hown, hts⟩ (c_A_hasRoom l D cc ad LL X b0 _ σ hL y i hy hn hi 0 (by omega)) (cwV 1 hts (yg_call mc_A_hasRoom ml_A_49 mm_A_hasRoom ms_A_hasRoom mi_A) rfl rfl rfl (by decide +kernel) ⟨Nat.le_of_ble_eq_true rfl, Nat.le_of_ble_eq_true rfl⟩) (y_preV hI hw (y_recv hK.1 hw h5 (by rfl) rfl)) rfl rfl hl.1 rfl (lv_room (Nat.le_of_ble_eq_true rfl)) d_A_isReady_99 ⟨Nat.le_of_ble_eq_true rfl, Nat.le_of_ble_eq_true rfl⟩) hw hA (fun r u H locs he hw => ?_)
        subst he
        refine lv_if_eq (tgt := 109) hx hb d_A_isReady_102 (by decide) (fun c_102 => ?_) (fun c_102 => ?_)
        · have e_102 := yb_0 c_102
          refine lv_iconst (v := 0) hx hb d_A_isReady_109 (by decide) ?_
          exact ye_z hI (by decide) () (by rw [yp_can1 (T := s_T σ y) h101 hk]; simp [yb, ytm, ysr_len, e_94, e_102]) hw d_A_isReady_110
        · have e_102 := yb_1 c_102
          refine lv_iconst (v := 1) hx hb d_A_isReady_105 (by decide) ?_
          refine lv_goto (tgt := 110) hx hb d_A_isReady_106 (by decide) ?_
          exact ye_z hI (by decide) () (by rw [yp_can1 (T := s_T σ y) h101 hk]; simp [yb, ytm, ysr_len, e_94, e_102]) hw d_A_isReady_110
    · refine lv_aload_n hx hb d_A_isReady_0 rfl (lv_at hl 0 rfl) ?_
      refine yr_get (C := R_A) (T := F_A) (N := 8) (ci := k_A) hx hb ht j_A hown hK.1 hw (by assumption) (by rfl) rfl 7 (by decide) (ht _ mf_A_40) (fun _ h9 => h9) (by rfl) d_A_isReady_1 ?_
      refine lv_bipush (v := (nI 100)) hx hb d_A_isReady_4 (by decide) ?_
      refine lv_icmp_lt (tgt := 11) hx hb d_A_isReady_6 (by decide) (fun c_6 => ?_) (fun c_6 => by exact absurd ((nI_ltI (by omega) (by omega)).mpr h100) c_6)
      refine lv_aload_n hx hb d_A_isReady_11 rfl (lv_at hl 0 rfl) ?_
      refine yr_get (C := R_A) (T := F_A) (N := 8) (ci := k_A) hx hb ht j_A hown hK.1 hw (by assumption) (by rfl) rfl 0 (by decide) (ht _ mf_A_9) (fun _ h9 => h9) (by rfl) d_A_isReady_12 ?_
      rw [hk]
      refine lv_tableIn (off := 96) (tgt := 111) hx hb d_A_isReady_15 (by decide +kernel) (by decide +kernel) (by decide +kernel) (by decide) ?_
      refine lv_aload_n hx hb d_A_isReady_111 rfl (lv_at hl 0 rfl) ?_
      refine lv_iconst (v := (nI 0)) hx hb d_A_isReady_112 (by decide) ?_
      refine yc_i (va_runV (As := [.int _]) (rest := []) ⟨hx, hb, hml, hown, hts⟩ (c_A_hasValue l D cc ad LL X b0 _ σ hL y i hy hn hi 0 (by omega)) (cwV 1 hts (yg_call mc_A_hasValue ml_A_53 mm_A_hasValue ms_A_hasValue mi_A) rfl rfl rfl (by decide +kernel) ⟨Nat.le_of_ble_eq_true rfl, Nat.le_of_ble_eq_true rfl⟩) (y_preV hI hw (y_recv hK.1 hw h5 (by rfl) rfl)) rfl rfl hl.1 rfl (lv_room (Nat.le_of_ble_eq_true rfl)) d_A_isReady_113 ⟨Nat.le_of_ble_eq_true rfl, Nat.le_of_ble_eq_true rfl⟩) hw hA (fun r u H locs he hw => ?_)
      subst he
      refine lv_if_eq (tgt := 134) hx hb d_A_isReady_116 (by decide) (fun c_116 => ?_) (fun c_116 => ?_)
      · have e_116 := yb_0 c_116
        refine lv_iconst (v := 0) hx hb d_A_isReady_134 (by decide) ?_
        exact ye_z hI (by decide) () (by rw [yp_can2 (T := s_T σ y) h101 hk]; simp [yb, ytm, ysr_len, e_116]) hw d_A_isReady_135
      · have e_116 := yb_1 c_116
        refine lv_aload_n hx hb d_A_isReady_119 rfl (lv_at hl 0 rfl) ?_
        refine lv_aload_n hx hb d_A_isReady_120 rfl (lv_at hl 0 rfl) ?_
        refine yc_i (va_runV (As := []) (rest := [.ref _]) ⟨hx, hb, hml, hown, hts⟩ (c_A_turn l D cc ad LL X b0 _ σ hL y i hy hn hi) (cwV 0 hts (yg_call mc_A_turn ml_A_56 mm_A_turn ms_A_turn mi_A) rfl rfl rfl (by decide +kernel) ⟨Nat.le_of_ble_eq_true rfl, Nat.le_of_ble_eq_true rfl⟩) (y_preV hI hw (y_recv hK.1 hw h5 (by rfl) rfl)) rfl rfl hl.1 rfl (lv_room (Nat.le_of_ble_eq_true rfl)) d_A_isReady_121 ⟨Nat.le_of_ble_eq_true rfl, Nat.le_of_ble_eq_true rfl⟩) hw hA (fun r u H locs he hw => ?_)
        subst he
        refine yc_i (va_runV (As := [.int _]) (rest := []) ⟨hx, hb, hml, hown, hts⟩ (c_A_hasRoom l D cc ad LL X b0 _ σ hL y i hy hn hi ((s_ac σ y i).2.2.2.2 % 2) (Nat.mod_lt _ (by omega))) (cwV 1 hts (yg_call mc_A_hasRoom ml_A_49 mm_A_hasRoom ms_A_hasRoom mi_A) rfl rfl rfl (by decide +kernel) ⟨Nat.le_of_ble_eq_true rfl, Nat.le_of_ble_eq_true rfl⟩) (y_preV hI hw (y_recv hK.1 hw h5 (by rfl) rfl)) rfl rfl hl.1 rfl (lv_room (Nat.le_of_ble_eq_true rfl)) d_A_isReady_124 ⟨Nat.le_of_ble_eq_true rfl, Nat.le_of_ble_eq_true rfl⟩) hw hA (fun r u H locs he hw => ?_)
        subst he
        refine lv_if_eq (tgt := 134) hx hb d_A_isReady_127 (by decide) (fun c_127 => ?_) (fun c_127 => ?_)
        · have e_127 := yb_0 c_127
          refine lv_iconst (v := 0) hx hb d_A_isReady_134 (by decide) ?_
          exact ye_z hI (by decide) () (by rw [yp_can2 (T := s_T σ y) h101 hk]; simp [yb, ytm, ysr_len, e_116, e_127]) hw d_A_isReady_135
        · have e_127 := yb_1 c_127
          refine lv_iconst (v := 1) hx hb d_A_isReady_130 (by decide) ?_
          refine lv_goto (tgt := 135) hx hb d_A_isReady_131 (by decide) ?_
          exact ye_z hI (by decide) () (by rw [yp_can2 (T := s_T σ y) h101 hk]; simp [yb, ytm, ysr_len, e_116, e_127]) hw d_A_isReady_135
    · refine lv_aload_n hx hb d_A_isReady_0 rfl (lv_at hl 0 rfl) ?_
      refine yr_get (C := R_A) (T := F_A) (N := 8) (ci := k_A) hx hb ht j_A hown hK.1 hw (by assumption) (by rfl) rfl 7 (by decide) (ht _ mf_A_40) (fun _ h9 => h9) (by rfl) d_A_isReady_1 ?_
      refine lv_bipush (v := (nI 100)) hx hb d_A_isReady_4 (by decide) ?_
      refine lv_icmp_lt (tgt := 11) hx hb d_A_isReady_6 (by decide) (fun c_6 => ?_) (fun c_6 => by exact absurd ((nI_ltI (by omega) (by omega)).mpr h100) c_6)
      refine lv_aload_n hx hb d_A_isReady_11 rfl (lv_at hl 0 rfl) ?_
      refine yr_get (C := R_A) (T := F_A) (N := 8) (ci := k_A) hx hb ht j_A hown hK.1 hw (by assumption) (by rfl) rfl 0 (by decide) (ht _ mf_A_9) (fun _ h9 => h9) (by rfl) d_A_isReady_12 ?_
      rw [hk]
      refine lv_tableIn (off := 121) (tgt := 136) hx hb d_A_isReady_15 (by decide +kernel) (by decide +kernel) (by decide +kernel) (by decide) ?_
      refine lv_aload_n hx hb d_A_isReady_136 rfl (lv_at hl 0 rfl) ?_
      refine lv_aload_n hx hb d_A_isReady_137 rfl (lv_at hl 0 rfl) ?_
      refine yc_i (va_runV (As := []) (rest := [.ref _]) ⟨hx, hb, hml, hown, hts⟩ (c_A_turn l D cc ad LL X b0 _ σ hL y i hy hn hi) (cwV 0 hts (yg_call mc_A_turn ml_A_56 mm_A_turn ms_A_turn mi_A) rfl rfl rfl (by decide +kernel) ⟨Nat.le_of_ble_eq_true rfl, Nat.le_of_ble_eq_true rfl⟩) (y_preV hI hw (y_recv hK.1 hw h5 (by rfl) rfl)) rfl rfl hl.1 rfl (lv_room (Nat.le_of_ble_eq_true rfl)) d_A_isReady_138 ⟨Nat.le_of_ble_eq_true rfl, Nat.le_of_ble_eq_true rfl⟩) hw hA (fun r u H locs he hw => ?_)
      subst he
      refine yc_i (va_runV (As := [.int _]) (rest := []) ⟨hx, hb, hml, hown, hts⟩ (c_A_hasValue l D cc ad LL X b0 _ σ hL y i hy hn hi ((s_ac σ y i).2.2.2.2 % 2) (Nat.mod_lt _ (by omega))) (cwV 1 hts (yg_call mc_A_hasValue ml_A_53 mm_A_hasValue ms_A_hasValue mi_A) rfl rfl rfl (by decide +kernel) ⟨Nat.le_of_ble_eq_true rfl, Nat.le_of_ble_eq_true rfl⟩) (y_preV hI hw (y_recv hK.1 hw h5 (by rfl) rfl)) rfl rfl hl.1 rfl (lv_room (Nat.le_of_ble_eq_true rfl)) d_A_isReady_141 ⟨Nat.le_of_ble_eq_true rfl, Nat.le_of_ble_eq_true rfl⟩) hw hA (fun r u H locs he hw => ?_)
      subst he
      refine lv_if_eq (tgt := 159) hx hb d_A_isReady_144 (by decide) (fun c_144 => ?_) (fun c_144 => ?_)
      · have e_144 := yb_0 c_144
        refine lv_iconst (v := 0) hx hb d_A_isReady_159 (by decide) ?_
        exact ye_z hI (by decide) () (by rw [yp_can3 (T := s_T σ y) h101 hk]; simp [yb, ytm, ysr_len, e_144]) hw d_A_isReady_160
      · have e_144 := yb_1 c_144
        refine lv_aload_n hx hb d_A_isReady_147 rfl (lv_at hl 0 rfl) ?_
        refine lv_iconst (v := (nI 0)) hx hb d_A_isReady_148 (by decide) ?_
        refine yc_i (va_runV (As := [.int _]) (rest := []) ⟨hx, hb, hml, hown, hts⟩ (c_A_hasRoom l D cc ad LL X b0 _ σ hL y i hy hn hi 0 (by omega)) (cwV 1 hts (yg_call mc_A_hasRoom ml_A_49 mm_A_hasRoom ms_A_hasRoom mi_A) rfl rfl rfl (by decide +kernel) ⟨Nat.le_of_ble_eq_true rfl, Nat.le_of_ble_eq_true rfl⟩) (y_preV hI hw (y_recv hK.1 hw h5 (by rfl) rfl)) rfl rfl hl.1 rfl (lv_room (Nat.le_of_ble_eq_true rfl)) d_A_isReady_149 ⟨Nat.le_of_ble_eq_true rfl, Nat.le_of_ble_eq_true rfl⟩) hw hA (fun r u H locs he hw => ?_)
        subst he
        refine lv_if_eq (tgt := 159) hx hb d_A_isReady_152 (by decide) (fun c_152 => ?_) (fun c_152 => ?_)
        · have e_152 := yb_0 c_152
          refine lv_iconst (v := 0) hx hb d_A_isReady_159 (by decide) ?_
          exact ye_z hI (by decide) () (by rw [yp_can3 (T := s_T σ y) h101 hk]; simp [yb, ytm, ysr_len, e_144, e_152]) hw d_A_isReady_160
        · have e_152 := yb_1 c_152
          refine lv_iconst (v := 1) hx hb d_A_isReady_155 (by decide) ?_
          refine lv_goto (tgt := 160) hx hb d_A_isReady_156 (by decide) ?_
          exact ye_z hI (by decide) () (by rw [yp_can3 (T := s_T σ y) h101 hk]; simp [yb, ytm, ysr_len, e_144, e_152]) hw d_A_isReady_160
    · refine lv_aload_n hx hb d_A_isReady_0 rfl (lv_at hl 0 rfl) ?_
      refine yr_get (C := R_A) (T := F_A) (N := 8) (ci := k_A) hx hb ht j_A hown hK.1 hw (by assumption) (by rfl) rfl 7 (by decide) (ht _ mf_A_40) (fun _ h9 => h9) (by rfl) d_A_isReady_1 ?_
      refine lv_bipush (v := (nI 100)) hx hb d_A_isReady_4 (by decide) ?_
      refine lv_icmp_lt (tgt := 11) hx hb d_A_isReady_6 (by decide) (fun c_6 => ?_) (fun c_6 => by exact absurd ((nI_ltI (by omega) (by omega)).mpr h100) c_6)
      refine lv_aload_n hx hb d_A_isReady_11 rfl (lv_at hl 0 rfl) ?_
      refine yr_get (C := R_A) (T := F_A) (N := 8) (ci := k_A) hx hb ht j_A hown hK.1 hw (by assumption) (by rfl) rfl 0 (by decide) (ht _ mf_A_9) (fun _ h9 => h9) (by rfl) d_A_isReady_12 ?_
      rw [hk]
      refine lv_tableIn (off := 146) (tgt := 161) hx hb d_A_isReady_15 (by decide +kernel) (by decide +kernel) (by decide +kernel) (by decide) ?_
      refine lv_aload_n hx hb d_A_isReady_161 rfl (lv_at hl 0 rfl) ?_
      refine lv_iconst (v := (nI 0)) hx hb d_A_isReady_162 (by decide) ?_
      refine yc_i (va_runV (As := [.int _]) (rest := []) ⟨hx, hb, hml, hown, hts⟩ (c_A_hasValue l D cc ad LL X b0 _ σ hL y i hy hn hi 0 (by omega)) (cwV 1 hts (yg_call mc_A_hasValue ml_A_53 mm_A_hasValue ms_A_hasValue mi_A) rfl rfl rfl (by decide +kernel) ⟨Nat.le_of_ble_eq_true rfl, Nat.le_of_ble_eq_true rfl⟩) (y_preV hI hw (y_recv hK.1 hw h5 (by rfl) rfl)) rfl rfl hl.1 rfl (lv_room (Nat.le_of_ble_eq_true rfl)) d_A_isReady_163 ⟨Nat.le_of_ble_eq_true rfl, Nat.le_of_ble_eq_true rfl⟩) hw hA (fun r u H locs he hw => ?_)
      subst he
      refine lv_if_eq (tgt := 189) hx hb d_A_isReady_166 (by decide) (fun c_166 => ?_) (fun c_166 => ?_)
      · have e_166 := yb_0 c_166
        refine lv_iconst (v := 0) hx hb d_A_isReady_189 (by decide) ?_
        exact ye_z hI (by decide) () (by rw [yp_can4 (T := s_T σ y) h101 hk]; simp [yb, ytm, ysr_len, e_166]) hw d_A_isReady_190
      · have e_166 := yb_1 c_166
        refine lv_aload_n hx hb d_A_isReady_169 rfl (lv_at hl 0 rfl) ?_
        refine lv_iconst (v := (nI 1)) hx hb d_A_isReady_170 (by decide) ?_
        refine yc_i (va_runV (As := [.int _]) (rest := []) ⟨hx, hb, hml, hown, hts⟩ (c_A_hasValue l D cc ad LL X b0 _ σ hL y i hy hn hi 1 (by omega)) (cwV 1 hts (yg_call mc_A_hasValue ml_A_53 mm_A_hasValue ms_A_hasValue mi_A) rfl rfl rfl (by decide +kernel) ⟨Nat.le_of_ble_eq_true rfl, Nat.le_of_ble_eq_true rfl⟩) (y_preV hI hw (y_recv hK.1 hw h5 (by rfl) rfl)) rfl rfl hl.1 rfl (lv_room (Nat.le_of_ble_eq_true rfl)) d_A_isReady_171 ⟨Nat.le_of_ble_eq_true rfl, Nat.le_of_ble_eq_true rfl⟩) hw hA (fun r u H locs he hw => ?_)
        subst he
        refine lv_if_eq (tgt := 189) hx hb d_A_isReady_174 (by decide) (fun c_174 => ?_) (fun c_174 => ?_)
        · have e_174 := yb_0 c_174
          refine lv_iconst (v := 0) hx hb d_A_isReady_189 (by decide) ?_
          exact ye_z hI (by decide) () (by rw [yp_can4 (T := s_T σ y) h101 hk]; simp [yb, ytm, ysr_len, e_166, e_174]) hw d_A_isReady_190
        · have e_174 := yb_1 c_174
          refine lv_aload_n hx hb d_A_isReady_177 rfl (lv_at hl 0 rfl) ?_
          refine lv_iconst (v := (nI 0)) hx hb d_A_isReady_178 (by decide) ?_
          refine yc_i (va_runV (As := [.int _]) (rest := []) ⟨hx, hb, hml, hown, hts⟩ (c_A_hasRoom l D cc ad LL X b0 _ σ hL y i hy hn hi 0 (by omega)) (cwV 1 hts (yg_call mc_A_hasRoom ml_A_49 mm_A_hasRoom ms_A_hasRoom mi_A) rfl rfl rfl (by decide +kernel) ⟨Nat.le_of_ble_eq_true rfl, Nat.le_of_ble_eq_true rfl⟩) (y_preV hI hw (y_recv hK.1 hw h5 (by rfl) rfl)) rfl rfl hl.1 rfl (lv_room (Nat.le_of_ble_eq_true rfl)) d_A_isReady_179 ⟨Nat.le_of_ble_eq_true rfl, Nat.le_of_ble_eq_true rfl⟩) hw hA (fun r u H locs he hw => ?_)
          subst he
          refine lv_if_eq (tgt := 189) hx hb d_A_isReady_182 (by decide) (fun c_182 => ?_) (fun c_182 => ?_)
          · have e_182 := yb_0 c_182
            refine lv_iconst (v := 0) hx hb d_A_isReady_189 (by decide) ?_
            exact ye_z hI (by decide) () (by rw [yp_can4 (T := s_T σ y) h101 hk]; simp [yb, ytm, ysr_len, e_166, e_174, e_182]) hw d_A_isReady_190
          · have e_182 := yb_1 c_182
            refine lv_iconst (v := 1) hx hb d_A_isReady_185 (by decide) ?_
            refine lv_goto (tgt := 190) hx hb d_A_isReady_186 (by decide) ?_
            exact ye_z hI (by decide) () (by rw [yp_can4 (T := s_T σ y) h101 hk]; simp [yb, ytm, ysr_len, e_166, e_174, e_182]) hw d_A_isReady_190
    · refine lv_aload_n hx hb d_A_isReady_0 rfl (lv_at hl 0 rfl) ?_
      refine yr_get (C := R_A) (T := F_A) (N := 8) (ci := k_A) hx hb ht j_A hown hK.1 hw (by assumption) (by rfl) rfl 7 (by decide) (ht _ mf_A_40) (fun _ h9 => h9) (by rfl) d_A_isReady_1 ?_
      refine lv_bipush (v := (nI 100)) hx hb d_A_isReady_4 (by decide) ?_
      refine lv_icmp_lt (tgt := 11) hx hb d_A_isReady_6 (by decide) (fun c_6 => ?_) (fun c_6 => by exact absurd ((nI_ltI (by omega) (by omega)).mpr h100) c_6)
      refine lv_aload_n hx hb d_A_isReady_11 rfl (lv_at hl 0 rfl) ?_
      refine yr_get (C := R_A) (T := F_A) (N := 8) (ci := k_A) hx hb ht j_A hown hK.1 hw (by assumption) (by rfl) rfl 0 (by decide) (ht _ mf_A_9) (fun _ h9 => h9) (by rfl) d_A_isReady_12 ?_
      rw [hk]
      refine lv_tableIn (off := 176) (tgt := 191) hx hb d_A_isReady_15 (by decide +kernel) (by decide +kernel) (by decide +kernel) (by decide) ?_
      refine lv_aload_n hx hb d_A_isReady_191 rfl (lv_at hl 0 rfl) ?_
      refine yr_get (C := R_A) (T := F_A) (N := 8) (ci := k_A) hx hb ht j_A hown hK.1 hw (by assumption) (by rfl) rfl 7 (by decide) (ht _ mf_A_40) (fun _ h9 => h9) (by rfl) d_A_isReady_192 ?_
      refine lv_if_eq (tgt := 206) hx hb d_A_isReady_195 (by decide) (fun c_195 => ?_) (fun c_195 => ?_)
      · have e_195 : (s_ac σ y i).2.2.2.2 = 0 := by
          rw [← nI_0] at c_195
          exact (nI_eq (by omega) (by omega)).mp c_195
        refine lv_aload_n hx hb d_A_isReady_206 rfl (lv_at hl 0 rfl) ?_
        refine lv_iconst (v := (nI 0)) hx hb d_A_isReady_207 (by decide) ?_
        refine yc_i (va_runV (As := [.int _]) (rest := []) ⟨hx, hb, hml, hown, hts⟩ (c_A_hasRoom l D cc ad LL X b0 _ σ hL y i hy hn hi 0 (by omega)) (cwV 1 hts (yg_call mc_A_hasRoom ml_A_49 mm_A_hasRoom ms_A_hasRoom mi_A) rfl rfl rfl (by decide +kernel) ⟨Nat.le_of_ble_eq_true rfl, Nat.le_of_ble_eq_true rfl⟩) (y_preV hI hw (y_recv hK.1 hw h5 (by rfl) rfl)) rfl rfl hl.1 rfl (lv_room (Nat.le_of_ble_eq_true rfl)) d_A_isReady_208 ⟨Nat.le_of_ble_eq_true rfl, Nat.le_of_ble_eq_true rfl⟩) hw hA (fun r u H locs he hw => ?_)
        subst he
        refine lv_if_eq (tgt := 218) hx hb d_A_isReady_211 (by decide) (fun c_211 => ?_) (fun c_211 => ?_)
        · have e_211 := yb_0 c_211
          refine lv_iconst (v := 0) hx hb d_A_isReady_218 (by decide) ?_
          exact ye_z hI (by decide) () (by rw [yp_can5 (T := s_T σ y) h101 hk]; simp [yb, ytm, ysr_len, e_195, e_211]) hw d_A_isReady_219
        · have e_211 := yb_1 c_211
          refine lv_iconst (v := 1) hx hb d_A_isReady_214 (by decide) ?_
          refine lv_goto (tgt := 219) hx hb d_A_isReady_215 (by decide) ?_
          exact ye_z hI (by decide) () (by rw [yp_can5 (T := s_T σ y) h101 hk]; simp [yb, ytm, ysr_len, e_195, e_211]) hw d_A_isReady_219
      · have e_195 : ¬ (s_ac σ y i).2.2.2.2 = 0 := fun h => c_195 (by rw [h]; rfl)
        refine lv_aload_n hx hb d_A_isReady_198 rfl (lv_at hl 0 rfl) ?_
        refine lv_iconst (v := (nI 0)) hx hb d_A_isReady_199 (by decide) ?_
        refine yc_i (va_runV (As := [.int _]) (rest := []) ⟨hx, hb, hml, hown, hts⟩ (c_A_hasValue l D cc ad LL X b0 _ σ hL y i hy hn hi 0 (by omega)) (cwV 1 hts (yg_call mc_A_hasValue ml_A_53 mm_A_hasValue ms_A_hasValue mi_A) rfl rfl rfl (by decide +kernel) ⟨Nat.le_of_ble_eq_true rfl, Nat.le_of_ble_eq_true rfl⟩) (y_preV hI hw (y_recv hK.1 hw h5 (by rfl) rfl)) rfl rfl hl.1 rfl (lv_room (Nat.le_of_ble_eq_true rfl)) d_A_isReady_200 ⟨Nat.le_of_ble_eq_true rfl, Nat.le_of_ble_eq_true rfl⟩) hw hA (fun r u H locs he hw => ?_)
        subst he
        refine lv_if_eq (tgt := 218) hx hb d_A_isReady_203 (by decide) (fun c_203 => ?_) (fun c_203 => ?_)
        · have e_203 := yb_0 c_203
          refine lv_iconst (v := 0) hx hb d_A_isReady_218 (by decide) ?_
          exact ye_z hI (by decide) () (by rw [yp_can5 (T := s_T σ y) h101 hk]; simp [yb, ytm, ysr_len, e_195, e_203]) hw d_A_isReady_219
        · have e_203 := yb_1 c_203
          refine lv_aload_n hx hb d_A_isReady_206 rfl (lv_at hl 0 rfl) ?_
          refine lv_iconst (v := (nI 0)) hx hb d_A_isReady_207 (by decide) ?_
          refine yc_i (va_runV (As := [.int _]) (rest := []) ⟨hx, hb, hml, hown, hts⟩ (c_A_hasRoom l D cc ad LL X b0 _ σ hL y i hy hn hi 0 (by omega)) (cwV 1 hts (yg_call mc_A_hasRoom ml_A_49 mm_A_hasRoom ms_A_hasRoom mi_A) rfl rfl rfl (by decide +kernel) ⟨Nat.le_of_ble_eq_true rfl, Nat.le_of_ble_eq_true rfl⟩) (y_preV hI hw (y_recv hK.1 hw h5 (by rfl) rfl)) rfl rfl hl.1 rfl (lv_room (Nat.le_of_ble_eq_true rfl)) d_A_isReady_208 ⟨Nat.le_of_ble_eq_true rfl, Nat.le_of_ble_eq_true rfl⟩) hw hA (fun r u H locs he hw => ?_)
          subst he
          refine lv_if_eq (tgt := 218) hx hb d_A_isReady_211 (by decide) (fun c_211 => ?_) (fun c_211 => ?_)
          · have e_211 := yb_0 c_211
            refine lv_iconst (v := 0) hx hb d_A_isReady_218 (by decide) ?_
            exact ye_z hI (by decide) () (by rw [yp_can5 (T := s_T σ y) h101 hk]; simp [yb, ytm, ysr_len, e_195, e_203, e_211]) hw d_A_isReady_219
          · have e_211 := yb_1 c_211
            refine lv_iconst (v := 1) hx hb d_A_isReady_214 (by decide) ?_
            refine lv_goto (tgt := 219) hx hb d_A_isReady_215 (by decide) ?_
            exact ye_z hI (by decide) () (by rw [yp_can5 (T := s_T σ y) h101 hk]; simp [yb, ytm, ysr_len, e_195, e_203, e_211]) hw d_A_isReady_219
    · refine lv_aload_n hx hb d_A_isReady_0 rfl (lv_at hl 0 rfl) ?_
      refine yr_get (C := R_A) (T := F_A) (N := 8) (ci := k_A) hx hb ht j_A hown hK.1 hw (by assumption) (by rfl) rfl 7 (by decide) (ht _ mf_A_40) (fun _ h9 => h9) (by rfl) d_A_isReady_1 ?_
      refine lv_bipush (v := (nI 100)) hx hb d_A_isReady_4 (by decide) ?_
      refine lv_icmp_lt (tgt := 11) hx hb d_A_isReady_6 (by decide) (fun c_6 => ?_) (fun c_6 => by exact absurd ((nI_ltI (by omega) (by omega)).mpr h100) c_6)
      refine lv_aload_n hx hb d_A_isReady_11 rfl (lv_at hl 0 rfl) ?_
      refine yr_get (C := R_A) (T := F_A) (N := 8) (ci := k_A) hx hb ht j_A hown hK.1 hw (by assumption) (by rfl) rfl 0 (by decide) (ht _ mf_A_9) (fun _ h9 => h9) (by rfl) d_A_isReady_12 ?_
      rw [hk]
      refine lv_tableIn (off := 205) (tgt := 220) hx hb d_A_isReady_15 (by decide +kernel) (by decide +kernel) (by decide +kernel) (by decide) ?_
      refine lv_aload_n hx hb d_A_isReady_220 rfl (lv_at hl 0 rfl) ?_
      refine lv_iconst (v := (nI 0)) hx hb d_A_isReady_221 (by decide) ?_
      refine yc_i (va_runV (As := [.int _]) (rest := []) ⟨hx, hb, hml, hown, hts⟩ (c_A_hasValue l D cc ad LL X b0 _ σ hL y i hy hn hi 0 (by omega)) (cwV 1 hts (yg_call mc_A_hasValue ml_A_53 mm_A_hasValue ms_A_hasValue mi_A) rfl rfl rfl (by decide +kernel) ⟨Nat.le_of_ble_eq_true rfl, Nat.le_of_ble_eq_true rfl⟩) (y_preV hI hw (y_recv hK.1 hw h5 (by rfl) rfl)) rfl rfl hl.1 rfl (lv_room (Nat.le_of_ble_eq_true rfl)) d_A_isReady_222 ⟨Nat.le_of_ble_eq_true rfl, Nat.le_of_ble_eq_true rfl⟩) hw hA (fun r u H locs he hw => ?_)
      subst he
      refine lv_if_eq (tgt := 241) hx hb d_A_isReady_225 (by decide) (fun c_225 => ?_) (fun c_225 => ?_)
      · have e_225 := yb_0 c_225
        refine lv_iconst (v := 0) hx hb d_A_isReady_241 (by decide) ?_
        exact ye_z hI (by decide) () (by rw [yp_can6 (T := s_T σ y) h101 hk]; simp [yb, ytm, ysr_len, e_225]) hw d_A_isReady_242
      · have e_225 := yb_1 c_225
        refine lv_aload_n hx hb d_A_isReady_228 rfl (lv_at hl 0 rfl) ?_
        refine yr_get (C := R_A) (T := F_A) (N := 8) (ci := k_A) hx hb ht j_A hown hK.1 hw (by assumption) (by rfl) rfl 7 (by decide) (ht _ mf_A_40) (fun _ h9 => h9) (by rfl) d_A_isReady_229 ?_
        refine lv_bipush (v := (nI 60)) hx hb d_A_isReady_232 (by decide) ?_
        refine lv_icmp_ge (tgt := 241) hx hb d_A_isReady_234 (by decide) (fun c_234 => ?_) (fun c_234 => ?_)
        · have e_234 : ¬ (s_ac σ y i).2.2.2.2 < 60 := by
            have := (nI_leI (by omega) (by omega)).mp c_234
            omega
          refine lv_iconst (v := 0) hx hb d_A_isReady_241 (by decide) ?_
          exact ye_z hI (by decide) () (by rw [yp_can6 (T := s_T σ y) h101 hk]; simp [yb, ytm, ysr_len, e_225, e_234]) hw d_A_isReady_242
        · have e_234 : (s_ac σ y i).2.2.2.2 < 60 := by
            rcases Nat.lt_or_ge (s_ac σ y i).2.2.2.2 60 with h | h
            · exact h
            · exact absurd ((nI_leI (by omega) (by omega)).mpr h) c_234
          refine lv_iconst (v := 1) hx hb d_A_isReady_237 (by decide) ?_
          refine lv_goto (tgt := 242) hx hb d_A_isReady_238 (by decide) ?_
          exact ye_z hI (by decide) () (by rw [yp_can6 (T := s_T σ y) h101 hk]; simp [yb, ytm, ysr_len, e_225, e_234]) hw d_A_isReady_242
    · refine lv_aload_n hx hb d_A_isReady_0 rfl (lv_at hl 0 rfl) ?_
      refine yr_get (C := R_A) (T := F_A) (N := 8) (ci := k_A) hx hb ht j_A hown hK.1 hw (by assumption) (by rfl) rfl 7 (by decide) (ht _ mf_A_40) (fun _ h9 => h9) (by rfl) d_A_isReady_1 ?_
      refine lv_bipush (v := (nI 100)) hx hb d_A_isReady_4 (by decide) ?_
      refine lv_icmp_lt (tgt := 11) hx hb d_A_isReady_6 (by decide) (fun c_6 => ?_) (fun c_6 => by exact absurd ((nI_ltI (by omega) (by omega)).mpr h100) c_6)
      refine lv_aload_n hx hb d_A_isReady_11 rfl (lv_at hl 0 rfl) ?_
      refine yr_get (C := R_A) (T := F_A) (N := 8) (ci := k_A) hx hb ht j_A hown hK.1 hw (by assumption) (by rfl) rfl 0 (by decide) (ht _ mf_A_9) (fun _ h9 => h9) (by rfl) d_A_isReady_12 ?_
      rw [hk]
      refine lv_tableIn (off := 228) (tgt := 243) hx hb d_A_isReady_15 (by decide +kernel) (by decide +kernel) (by decide +kernel) (by decide) ?_
      refine lv_aload_n hx hb d_A_isReady_243 rfl (lv_at hl 0 rfl) ?_
      refine lv_iconst (v := (nI 0)) hx hb d_A_isReady_244 (by decide) ?_
      refine yc_i (va_runV (As := [.int _]) (rest := []) ⟨hx, hb, hml, hown, hts⟩ (c_A_hasValue l D cc ad LL X b0 _ σ hL y i hy hn hi 0 (by omega)) (cwV 1 hts (yg_call mc_A_hasValue ml_A_53 mm_A_hasValue ms_A_hasValue mi_A) rfl rfl rfl (by decide +kernel) ⟨Nat.le_of_ble_eq_true rfl, Nat.le_of_ble_eq_true rfl⟩) (y_preV hI hw (y_recv hK.1 hw h5 (by rfl) rfl)) rfl rfl hl.1 rfl (lv_room (Nat.le_of_ble_eq_true rfl)) d_A_isReady_245 ⟨Nat.le_of_ble_eq_true rfl, Nat.le_of_ble_eq_true rfl⟩) hw hA (fun r u H locs he hw => ?_)
      subst he
      refine lv_if_eq (tgt := 279) hx hb d_A_isReady_248 (by decide) (fun c_248 => ?_) (fun c_248 => ?_)
      · have e_248 := yb_0 c_248
        refine lv_iconst (v := 0) hx hb d_A_isReady_279 (by decide) ?_
        exact ye_z hI (by decide) () (by rw [yp_can7 (T := s_T σ y) h101 hk]; simp [yb, ytm, ysr_len, e_248]) hw d_A_isReady_280
      · have e_248 := yb_1 c_248
        obtain ⟨c0, ec0, hp0⟩ := yh_inv e_248
        refine lv_aload_n hx hb d_A_isReady_251 rfl (lv_at hl 0 rfl) ?_
        refine lv_iconst (v := (nI 1)) hx hb d_A_isReady_252 (by decide) ?_
        refine yc_i (va_runV (As := [.int _]) (rest := []) ⟨hx, hb, hml, hown, hts⟩ (c_A_hasValue l D cc ad LL X b0 _ σ hL y i hy hn hi 1 (by omega)) (cwV 1 hts (yg_call mc_A_hasValue ml_A_53 mm_A_hasValue ms_A_hasValue mi_A) rfl rfl rfl (by decide +kernel) ⟨Nat.le_of_ble_eq_true rfl, Nat.le_of_ble_eq_true rfl⟩) (y_preV hI hw (y_recv hK.1 hw h5 (by rfl) rfl)) rfl rfl hl.1 rfl (lv_room (Nat.le_of_ble_eq_true rfl)) d_A_isReady_253 ⟨Nat.le_of_ble_eq_true rfl, Nat.le_of_ble_eq_true rfl⟩) hw hA (fun r u H locs he hw => ?_)
        subst he
        refine lv_if_eq (tgt := 279) hx hb d_A_isReady_256 (by decide) (fun c_256 => ?_) (fun c_256 => ?_)
        · have e_256 := yb_0 c_256
          refine lv_iconst (v := 0) hx hb d_A_isReady_279 (by decide) ?_
          exact ye_z hI (by decide) () (by rw [yp_can7 (T := s_T σ y) h101 hk]; simp [yb, ytm, ysr_len, e_248, e_256]) hw d_A_isReady_280
        · have e_256 := yb_1 c_256
          refine lv_aload_n hx hb d_A_isReady_259 rfl (lv_at hl 0 rfl) ?_
          refine lv_iconst (v := (nI 0)) hx hb d_A_isReady_260 (by decide) ?_
          refine yc_i (va_runV (As := [.int _]) (rest := []) ⟨hx, hb, hml, hown, hts⟩ (c_A_isZero l D cc ad LL X b0 _ σ hL y i hy hn hi 0 (by omega) c0 ec0 hp0) (cwV 1 hts (yg_call mc_A_isZero ml_A_60 mm_A_isZero ms_A_isZero mi_A) rfl rfl rfl (by decide +kernel) ⟨Nat.le_of_ble_eq_true rfl, Nat.le_of_ble_eq_true rfl⟩) (y_preV hI hw (y_recv hK.1 hw h5 (by rfl) rfl)) rfl rfl hl.1 rfl (lv_room (Nat.le_of_ble_eq_true rfl)) d_A_isReady_261 ⟨Nat.le_of_ble_eq_true rfl, Nat.le_of_ble_eq_true rfl⟩) hw hA (fun r u H locs he hw => ?_)
          subst he
          refine lv_if_ne (tgt := 275) hx hb d_A_isReady_264 (by decide) (fun c_264 => ?_) (fun c_264 => ?_)
          · have e_264 := yb_1 c_264
            refine lv_iconst (v := 1) hx hb d_A_isReady_275 (by decide) ?_
            refine lv_goto (tgt := 280) hx hb d_A_isReady_276 (by decide) ?_
            exact ye_z hI (by decide) () (by rw [yp_can7 (T := s_T σ y) h101 hk]; simp [yb, ytm, ysr_len, e_248, e_256, e_264]) hw d_A_isReady_280
          · have e_264 := yb_0 c_264
            refine lv_aload_n hx hb d_A_isReady_267 rfl (lv_at hl 0 rfl) ?_
            refine lv_iconst (v := (nI 0)) hx hb d_A_isReady_268 (by decide) ?_
            refine yc_i (va_runV (As := [.int _]) (rest := []) ⟨hx, hb, hml, hown, hts⟩ (c_A_hasRoom l D cc ad LL X b0 _ σ hL y i hy hn hi 0 (by omega)) (cwV 1 hts (yg_call mc_A_hasRoom ml_A_49 mm_A_hasRoom ms_A_hasRoom mi_A) rfl rfl rfl (by decide +kernel) ⟨Nat.le_of_ble_eq_true rfl, Nat.le_of_ble_eq_true rfl⟩) (y_preV hI hw (y_recv hK.1 hw h5 (by rfl) rfl)) rfl rfl hl.1 rfl (lv_room (Nat.le_of_ble_eq_true rfl)) d_A_isReady_269 ⟨Nat.le_of_ble_eq_true rfl, Nat.le_of_ble_eq_true rfl⟩) hw hA (fun r u H locs he hw => ?_)
            subst he
            refine lv_if_eq (tgt := 279) hx hb d_A_isReady_272 (by decide) (fun c_272 => ?_) (fun c_272 => ?_)
            · have e_272 := yb_0 c_272
              refine lv_iconst (v := 0) hx hb d_A_isReady_279 (by decide) ?_
              exact ye_z hI (by decide) () (by rw [yp_can7 (T := s_T σ y) h101 hk]; simp [yb, ytm, ysr_len, e_248, e_256, e_264, e_272]) hw d_A_isReady_280
            · have e_272 := yb_1 c_272
              refine lv_iconst (v := 1) hx hb d_A_isReady_275 (by decide) ?_
              refine lv_goto (tgt := 280) hx hb d_A_isReady_276 (by decide) ?_
              exact ye_z hI (by decide) () (by rw [yp_can7 (T := s_T σ y) h101 hk]; simp [yb, ytm, ysr_len, e_248, e_256, e_264, e_272]) hw d_A_isReady_280
    · refine lv_aload_n hx hb d_A_isReady_0 rfl (lv_at hl 0 rfl) ?_
      refine yr_get (C := R_A) (T := F_A) (N := 8) (ci := k_A) hx hb ht j_A hown hK.1 hw (by assumption) (by rfl) rfl 7 (by decide) (ht _ mf_A_40) (fun _ h9 => h9) (by rfl) d_A_isReady_1 ?_
      refine lv_bipush (v := (nI 100)) hx hb d_A_isReady_4 (by decide) ?_
      refine lv_icmp_lt (tgt := 11) hx hb d_A_isReady_6 (by decide) (fun c_6 => ?_) (fun c_6 => by exact absurd ((nI_ltI (by omega) (by omega)).mpr h100) c_6)
      refine lv_aload_n hx hb d_A_isReady_11 rfl (lv_at hl 0 rfl) ?_
      refine yr_get (C := R_A) (T := F_A) (N := 8) (ci := k_A) hx hb ht j_A hown hK.1 hw (by assumption) (by rfl) rfl 0 (by decide) (ht _ mf_A_9) (fun _ h9 => h9) (by rfl) d_A_isReady_12 ?_
      rw [hk]
      refine lv_tableIn (off := 266) (tgt := 281) hx hb d_A_isReady_15 (by decide +kernel) (by decide +kernel) (by decide +kernel) (by decide) ?_
      refine lv_aload_n hx hb d_A_isReady_281 rfl (lv_at hl 0 rfl) ?_
      refine lv_iconst (v := (nI 0)) hx hb d_A_isReady_282 (by decide) ?_
      refine yc_i (va_runV (As := [.int _]) (rest := []) ⟨hx, hb, hml, hown, hts⟩ (c_A_hasValue l D cc ad LL X b0 _ σ hL y i hy hn hi 0 (by omega)) (cwV 1 hts (yg_call mc_A_hasValue ml_A_53 mm_A_hasValue ms_A_hasValue mi_A) rfl rfl rfl (by decide +kernel) ⟨Nat.le_of_ble_eq_true rfl, Nat.le_of_ble_eq_true rfl⟩) (y_preV hI hw (y_recv hK.1 hw h5 (by rfl) rfl)) rfl rfl hl.1 rfl (lv_room (Nat.le_of_ble_eq_true rfl)) d_A_isReady_283 ⟨Nat.le_of_ble_eq_true rfl, Nat.le_of_ble_eq_true rfl⟩) hw hA (fun r u H locs he hw => ?_)
      subst he
      refine lv_if_eq (tgt := 309) hx hb d_A_isReady_286 (by decide) (fun c_286 => ?_) (fun c_286 => ?_)
      · have e_286 := yb_0 c_286
        refine lv_iconst (v := 0) hx hb d_A_isReady_309 (by decide) ?_
        exact ye_z hI (by decide) () (by rw [yp_can8 (T := s_T σ y) h101 hk]; simp [yb, ytm, ysr_len, e_286]) hw d_A_isReady_310
      · have e_286 := yb_1 c_286
        refine lv_aload_n hx hb d_A_isReady_289 rfl (lv_at hl 0 rfl) ?_
        refine lv_iconst (v := (nI 0)) hx hb d_A_isReady_290 (by decide) ?_
        refine yc_i (va_runV (As := [.int _]) (rest := []) ⟨hx, hb, hml, hown, hts⟩ (c_A_hasRoom l D cc ad LL X b0 _ σ hL y i hy hn hi 0 (by omega)) (cwV 1 hts (yg_call mc_A_hasRoom ml_A_49 mm_A_hasRoom ms_A_hasRoom mi_A) rfl rfl rfl (by decide +kernel) ⟨Nat.le_of_ble_eq_true rfl, Nat.le_of_ble_eq_true rfl⟩) (y_preV hI hw (y_recv hK.1 hw h5 (by rfl) rfl)) rfl rfl hl.1 rfl (lv_room (Nat.le_of_ble_eq_true rfl)) d_A_isReady_291 ⟨Nat.le_of_ble_eq_true rfl, Nat.le_of_ble_eq_true rfl⟩) hw hA (fun r u H locs he hw => ?_)
        subst he
        refine lv_if_eq (tgt := 309) hx hb d_A_isReady_294 (by decide) (fun c_294 => ?_) (fun c_294 => ?_)
        · have e_294 := yb_0 c_294
          refine lv_iconst (v := 0) hx hb d_A_isReady_309 (by decide) ?_
          exact ye_z hI (by decide) () (by rw [yp_can8 (T := s_T σ y) h101 hk]; simp [yb, ytm, ysr_len, e_286, e_294]) hw d_A_isReady_310
        · have e_294 := yb_1 c_294
          refine lv_aload_n hx hb d_A_isReady_297 rfl (lv_at hl 0 rfl) ?_
          refine lv_iconst (v := (nI 1)) hx hb d_A_isReady_298 (by decide) ?_
          refine yc_i (va_runV (As := [.int _]) (rest := []) ⟨hx, hb, hml, hown, hts⟩ (c_A_hasRoom l D cc ad LL X b0 _ σ hL y i hy hn hi 1 (by omega)) (cwV 1 hts (yg_call mc_A_hasRoom ml_A_49 mm_A_hasRoom ms_A_hasRoom mi_A) rfl rfl rfl (by decide +kernel) ⟨Nat.le_of_ble_eq_true rfl, Nat.le_of_ble_eq_true rfl⟩) (y_preV hI hw (y_recv hK.1 hw h5 (by rfl) rfl)) rfl rfl hl.1 rfl (lv_room (Nat.le_of_ble_eq_true rfl)) d_A_isReady_299 ⟨Nat.le_of_ble_eq_true rfl, Nat.le_of_ble_eq_true rfl⟩) hw hA (fun r u H locs he hw => ?_)
          subst he
          refine lv_if_eq (tgt := 309) hx hb d_A_isReady_302 (by decide) (fun c_302 => ?_) (fun c_302 => ?_)
          · have e_302 := yb_0 c_302
            refine lv_iconst (v := 0) hx hb d_A_isReady_309 (by decide) ?_
            exact ye_z hI (by decide) () (by rw [yp_can8 (T := s_T σ y) h101 hk]; simp [yb, ytm, ysr_len, e_286, e_294, e_302]) hw d_A_isReady_310
          · have e_302 := yb_1 c_302
            refine lv_iconst (v := 1) hx hb d_A_isReady_305 (by decide) ?_
            refine lv_goto (tgt := 310) hx hb d_A_isReady_306 (by decide) ?_
            exact ye_z hI (by decide) () (by rw [yp_can8 (T := s_T σ y) h101 hk]; simp [yb, ytm, ysr_len, e_286, e_294, e_302]) hw d_A_isReady_310
  · refine lv_aload_n hx hb d_A_isReady_0 rfl (lv_at hl 0 rfl) ?_
    refine yr_get (C := R_A) (T := F_A) (N := 8) (ci := k_A) hx hb ht j_A hown hK.1 hw (by assumption) (by rfl) rfl 7 (by decide) (ht _ mf_A_40) (fun _ h9 => h9) (by rfl) d_A_isReady_1 ?_
    refine lv_bipush (v := (nI 100)) hx hb d_A_isReady_4 (by decide) ?_
    refine lv_icmp_lt (tgt := 11) hx hb d_A_isReady_6 (by decide) (fun c_6 => by exact absurd ((nI_ltI (by omega) (by omega)).mp c_6) h100) (fun c_6 => ?_)
    refine lv_iconst (v := 0) hx hb d_A_isReady_9 (by decide) ?_
    exact ye_z hI (by decide) () (by rw [yp_can100 (T := s_T σ y) (by show 100 ≤ (s_ac σ y i).2.2.2.2; omega)]; rfl) hw d_A_isReady_10
