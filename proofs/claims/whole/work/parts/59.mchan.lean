/-! THE REFERENCE: channel -/
theorem oI_neg {o : Option Nat} (h : ¬ 0 ≤ oI o) (hb : ∀ c, o = some c → c < 16) : o = none := by
  cases o with
  | none => rfl
  | some c => exact absurd (nI_le (a := 0) (Nat.zero_le c) (by have := hb c rfl; omega)) h
def mo_jn (μ : ms) (jf jo jt ji r : Nat) : ms := mx_nc (mx_rm (mx_ic (mx_oc μ (up2 (m_oc μ) jf jo (some (m_nc μ)))) (up2 (m_ic μ) jt ji (some (m_nc μ)))) (va_up (m_rm μ) (m_nc μ) r)) (m_nc μ + 1)
theorem mo_join {μ : ms} {jf jo jt ji r : Nat} (hi : mI μ 0) (hjf : jf < m_n μ) (hjt : jt < m_n μ) (hc : m_nc μ < 16) (hr : 1 ≤ r ∧ r ≤ 8) (hjo : jo < yt_outs (m_kd μ jf)) (hji : ji < yt_ins (m_kd μ jt)) : mI (mo_jn μ jf jo jt ji r) 0 ∧ m_T (mo_jn μ jf jo jt ji r) = joinT (m_T μ) (m_nc μ) jf jo jt ji r := by
  obtain ⟨b1, b2, b3, b4, b5, b6, b7, b8, b9⟩ := id hi
  have hic : ∀ i j, m_ic (mo_jn μ jf jo jt ji r) i j = if i = jt ∧ j = ji then some (m_nc μ) else m_ic μ i j := fun i j => rfl
  have hoc : ∀ i j, m_oc (mo_jn μ jf jo jt ji r) i j = if i = jf ∧ j = jo then some (m_nc μ) else m_oc μ i j := fun i j => rfl
  have hrm : ∀ c, m_rm (mo_jn μ jf jo jt ji r) c = if c = m_nc μ then r else m_rm μ c := fun c => rfl
  refine ⟨⟨b1, by show m_nc μ + 1 ≤ 16; omega, b3, fun c h => b4 c (by have h : m_nc μ + 1 ≤ c := h; omega), b5, fun c h => ?_, fun i j c e => ?_, fun i j c e => ?_, ?_⟩, ?_⟩
  · have h : c < m_nc μ + 1 := h
    rw [hrm]
    by_cases h2 : c = m_nc μ
    · rw [if_pos h2]
      refine ⟨hr.1, hr.2, ?_⟩
      show m_ct μ 0 c ≤ r
      rw [b4 c (by omega)]; omega
    · rw [if_neg h2]; exact b6 c (by omega)
  · rw [hic] at e
    by_cases h : i = jt ∧ j = ji
    · rw [if_pos h] at e
      rw [h.1, h.2, ← Option.some.inj e]
      exact ⟨hjt, hji, by show m_nc μ < m_nc μ + 1; omega⟩
    · rw [if_neg h] at e
      obtain ⟨c1, c2, c3⟩ := b7 i j c e
      exact ⟨c1, c2, by show c < m_nc μ + 1; omega⟩
  · rw [hoc] at e
    by_cases h : i = jf ∧ j = jo
    · rw [if_pos h] at e
      rw [h.1, h.2, ← Option.some.inj e]
      exact ⟨hjf, hjo, by show m_nc μ < m_nc μ + 1; omega⟩
    · rw [if_neg h] at e
      obtain ⟨c1, c2, c3⟩ := b8 i j c e
      exact ⟨c1, c2, by show c < m_nc μ + 1; omega⟩
  · refine ⟨fun i j k k' c e e' => ?_, fun i j k k' c e e' => ?_⟩
    · have e : m_ic (mo_jn μ jf jo jt ji r) i k = some c := e
      have e' : m_ic (mo_jn μ jf jo jt ji r) j k' = some c := e'
      rw [hic] at e e'
      by_cases h : i = jt ∧ k = ji
      · by_cases h' : j = jt ∧ k' = ji
        · exact ⟨h.1.trans h'.1.symm, h.2.trans h'.2.symm⟩
        · rw [if_pos h] at e
          rw [if_neg h', ← Option.some.inj e] at e'
          exact absurd (b7 _ _ _ e').2.2 (Nat.lt_irrefl _)
      · rw [if_neg h] at e
        by_cases h' : j = jt ∧ k' = ji
        · rw [if_pos h'] at e'
          rw [← Option.some.inj e'] at e
          exact absurd (b7 _ _ _ e).2.2 (Nat.lt_irrefl _)
        · rw [if_neg h'] at e'
          exact b9.1 i j k k' c e e'
    · have e : m_oc (mo_jn μ jf jo jt ji r) i k = some c := e
      have e' : m_oc (mo_jn μ jf jo jt ji r) j k' = some c := e'
      rw [hoc] at e e'
      by_cases h : i = jf ∧ k = jo
      · by_cases h' : j = jf ∧ k' = jo
        · exact ⟨h.1.trans h'.1.symm, h.2.trans h'.2.symm⟩
        · rw [if_pos h] at e
          rw [if_neg h', ← Option.some.inj e] at e'
          exact absurd (b8 _ _ _ e').2.2 (Nat.lt_irrefl _)
      · rw [if_neg h] at e
        by_cases h' : j = jf ∧ k' = jo
        · rw [if_pos h'] at e'
          rw [← Option.some.inj e'] at e
          exact absurd (b8 _ _ _ e).2.2 (Nat.lt_irrefl _)
        · rw [if_neg h'] at e'
          exact b9.2 i j k k' c e e'
  · have e : (fun c => if c < m_nc μ + 1 then va_up (m_rm μ) (m_nc μ) r c else 1) = va_up (fun c => if c < m_nc μ then m_rm μ c else 1) (m_nc μ) r := by
      funext c
      unfold va_up
      by_cases h : c = m_nc μ
      · rw [if_pos (by omega), if_pos h, if_pos h]
      · show (if c < m_nc μ + 1 then (if c = m_nc μ then r else m_rm μ c) else 1) = if c = m_nc μ then r else (if c < m_nc μ then m_rm μ c else 1)
        rw [if_neg h, if_neg h]
        by_cases h2 : c < m_nc μ
        · rw [if_pos (by omega), if_pos h2]
        · rw [if_neg (by omega), if_neg h2]
    show (_, _, _, _, _, _, (fun c => if c < m_nc μ + 1 then va_up (m_rm μ) (m_nc μ) r c else 1), _) = _
    rw [e]
    rfl
set_option maxHeartbeats 4000000 in
set_option maxRecDepth 100000 in
theorem c_M_channel (l : Launch) (D : va_G) (cc : ClassId × ClassId × ClassId) (ad : yl → Nat) (X : va_W) (b0 sz : Nat) (μ : ms) (hi : mI μ 0) (f o t i r : Int32) : Met l y_M_channel w_M_channel ({ frames := 1, cells := 0, slots := 0, locals := 21 }) (yPr D cc b0 [.ref (ad (20, 0, 0)), .int f, .int o, .int t, .int i, .int r] (mW cc ad X μ) sz) (va_Qi (fun rr μ' => rr = (match a_jok (m_T μ) (m_nc μ) f o t i r with | none => -1 | some _ => nI (m_nc μ)) ∧ mI μ' 0 ∧ m_T μ' = (match a_jok (m_T μ) (m_nc μ) f o t i r with | none => m_T μ | some p => joinT (m_T μ) (m_nc μ) p.1 p.2.1 p.2.2.1 p.2.2.2.1 p.2.2.2.2) ∧ m_D μ' 0 = m_D μ 0 ∧ m_nc μ' = (match a_jok (m_T μ) (m_nc μ) f o t i r with | none => m_nc μ | some _ => m_nc μ + 1)) (yB D ycl (mW cc ad X μ) sz (fun μ' => mW cc ad X μ')) (va_A (mW cc ad X μ) sz)) 0 0 (va_A (mW cc ad X μ) sz) := by
  have hn10 := hi.1
  have hc16 := hi.2.1
  rcases jok_split (m_T μ) (m_nc μ) f o t i r (by show m_n μ < _; omega) with hok | ⟨jf, jo, jt, ji, rr, rfl, rfl, rfl, rfl, rfl, hjf, hjt, hc, hr1, hr2, hjo, hji, eo, ei, hok⟩
  · rcases ysplit f (n := m_n μ) (by omega) with hno | ⟨jf, hjf, rfl⟩
    · refine y_ofW (cc := b_M_channel) (maxL := 7) (ret := (some .int)) (by decide) rfl (Nat.le_of_ble_eq_true rfl) ?_
      intro pv ev sv mv bv tv cv ls hI hsz hw hl
      obtain ⟨hx, hb, hr, hml, hts, hown, hlocks, hnm, hK, hAb, hb0, hA⟩ := id hI
      have ht : ∀ w ∈ lg_tbl, w.before _ sv = true := fun w h => hts w (List.mem_cons_of_mem _ h)
      have hl : lv_has ls 7 [(0, .ref (ad (20, 0, 0))), (1, .int f), (2, .int o), (3, .int t), (4, .int i), (5, .int r)] := hl
      refine lv_aload_n hx hb d_M_channel_0 rfl (lv_at hl 0 rfl) ?_
      refine lv_iload_n hx hb d_M_channel_1 rfl (lv_at hl 1 rfl) ?_
      refine yc_i (va_runV (As := [.int _]) (rest := []) ⟨hx, hb, hml, hown, hts⟩ (c_M_isActor_no l D cc ad X b0 _ μ hi f hno) (cwV 1 hts (yg_call mc_M_isActor ml_M_56 mm_M_isActor ms_M_isActor mi_M) rfl rfl rfl (by decide +kernel) ⟨Nat.le_of_ble_eq_true rfl, Nat.le_of_ble_eq_true rfl⟩) (y_preV hI hw (y_recv hK.1 hw mL_o (by rfl) rfl)) rfl rfl hl.1 rfl (lv_room (Nat.le_of_ble_eq_true rfl)) d_M_channel_2 ⟨Nat.le_of_ble_eq_true rfl, Nat.le_of_ble_eq_true rfl⟩) hw hA (fun r u H locs he hw => ?_)
      subst he
      refine lv_if_eq (tgt := 51) hx hb d_M_channel_5 (by decide) (fun c_5 => ?_) (fun c_5 => by exact absurd (by decide) c_5)
      refine lv_iconst (v := (nI 0)) hx hb d_M_channel_51 (by decide) ?_
      refine lv_istore (lv' := [(6, .int _), (0, .ref _), (1, .int _), (2, .int _), (3, .int _), (4, .int _), (5, .int _)]) hx hb d_M_channel_52 hl (by decide) rfl (fun ls hl => ?_)
      refine lv_iload hx hb d_M_channel_54 (lv_at hl 0 rfl) ?_
      refine lv_if_eq (tgt := 113) hx hb d_M_channel_56 (by decide) (fun c_56 => ?_) (fun c_56 => by exact absurd (by decide) c_56)
      refine lv_iconst (v := (-1)) hx hb d_M_channel_113 (by decide) ?_
      exact ye_i hI μ ⟨by rw [hok], hi, by rw [hok], rfl, by rw [hok]⟩ hw d_M_channel_114
    · rcases ysplit t (n := m_n μ) (by omega) with hno | ⟨jt, hjt, rfl⟩
      · refine y_ofW (cc := b_M_channel) (maxL := 7) (ret := (some .int)) (by decide) rfl (Nat.le_of_ble_eq_true rfl) ?_
        intro pv ev sv mv bv tv cv ls hI hsz hw hl
        obtain ⟨hx, hb, hr, hml, hts, hown, hlocks, hnm, hK, hAb, hb0, hA⟩ := id hI
        have ht : ∀ w ∈ lg_tbl, w.before _ sv = true := fun w h => hts w (List.mem_cons_of_mem _ h)
        have hl : lv_has ls 7 [(0, .ref (ad (20, 0, 0))), (1, .int (nI jf)), (2, .int o), (3, .int t), (4, .int i), (5, .int r)] := hl
        refine lv_aload_n hx hb d_M_channel_0 rfl (lv_at hl 0 rfl) ?_
        refine lv_iload_n hx hb d_M_channel_1 rfl (lv_at hl 1 rfl) ?_
        refine yc_i (va_runV (As := [.int _]) (rest := []) ⟨hx, hb, hml, hown, hts⟩ (c_M_isActor l D cc ad X b0 _ μ hi jf hjf) (cwV 1 hts (yg_call mc_M_isActor ml_M_56 mm_M_isActor ms_M_isActor mi_M) rfl rfl rfl (by decide +kernel) ⟨Nat.le_of_ble_eq_true rfl, Nat.le_of_ble_eq_true rfl⟩) (y_preV hI hw (y_recv hK.1 hw mL_o (by rfl) rfl)) rfl rfl hl.1 rfl (lv_room (Nat.le_of_ble_eq_true rfl)) d_M_channel_2 ⟨Nat.le_of_ble_eq_true rfl, Nat.le_of_ble_eq_true rfl⟩) hw hA (fun r u H locs he hw => ?_)
        subst he
        refine lv_if_eq (tgt := 51) hx hb d_M_channel_5 (by decide) (fun c_5 => by exact absurd c_5 (by decide)) (fun c_5 => ?_)
        refine lv_aload_n hx hb d_M_channel_8 rfl (lv_at hl 0 rfl) ?_
        refine lv_iload_n hx hb d_M_channel_9 rfl (lv_at hl 3 rfl) ?_
        refine yc_i (va_runV (As := [.int _]) (rest := []) ⟨hx, hb, hml, hown, hts⟩ (c_M_isActor_no l D cc ad X b0 _ μ hi t hno) (cwV 1 hts (yg_call mc_M_isActor ml_M_56 mm_M_isActor ms_M_isActor mi_M) rfl rfl rfl (by decide +kernel) ⟨Nat.le_of_ble_eq_true rfl, Nat.le_of_ble_eq_true rfl⟩) (y_preV hI hw (y_recv hK.1 hw mL_o (by rfl) rfl)) rfl rfl hl.1 rfl (lv_room (Nat.le_of_ble_eq_true rfl)) d_M_channel_10 ⟨Nat.le_of_ble_eq_true rfl, Nat.le_of_ble_eq_true rfl⟩) hw hA (fun r u H locs he hw => ?_)
        subst he
        refine lv_if_eq (tgt := 51) hx hb d_M_channel_13 (by decide) (fun c_13 => ?_) (fun c_13 => by exact absurd (by decide) c_13)
        refine lv_iconst (v := (nI 0)) hx hb d_M_channel_51 (by decide) ?_
        refine lv_istore (lv' := [(6, .int _), (0, .ref _), (1, .int _), (2, .int _), (3, .int _), (4, .int _), (5, .int _)]) hx hb d_M_channel_52 hl (by decide) rfl (fun ls hl => ?_)
        refine lv_iload hx hb d_M_channel_54 (lv_at hl 0 rfl) ?_
        refine lv_if_eq (tgt := 113) hx hb d_M_channel_56 (by decide) (fun c_56 => ?_) (fun c_56 => by exact absurd (by decide) c_56)
        refine lv_iconst (v := (-1)) hx hb d_M_channel_113 (by decide) ?_
        exact ye_i hI μ ⟨by rw [hok], hi, by rw [hok], rfl, by rw [hok]⟩ hw d_M_channel_114
      · have a1 := (hi.2.2.2.2.1 jf).1
        have g1 := (hi.2.2.2.2.1 jt).1
        have y1 := yt_outs_le (m_kd μ jf)
        have y2 := yt_ins_le (m_kd μ jt)
        refine y_ofW (cc := b_M_channel) (maxL := 7) (ret := (some .int)) (by decide) rfl (Nat.le_of_ble_eq_true rfl) ?_
        intro pv ev sv mv bv tv cv ls hI hsz hw hl
        obtain ⟨hx, hb, hr, hml, hts, hown, hlocks, hnm, hK, hAb, hb0, hA⟩ := id hI
        have ht : ∀ w ∈ lg_tbl, w.before _ sv = true := fun w h => hts w (List.mem_cons_of_mem _ h)
        have hl : lv_has ls 7 [(0, .ref (ad (20, 0, 0))), (1, .int (nI jf)), (2, .int o), (3, .int (nI jt)), (4, .int i), (5, .int r)] := hl
        refine lv_aload_n hx hb d_M_channel_0 rfl (lv_at hl 0 rfl) ?_
        refine lv_iload_n hx hb d_M_channel_1 rfl (lv_at hl 1 rfl) ?_
        refine yc_i (va_runV (As := [.int _]) (rest := []) ⟨hx, hb, hml, hown, hts⟩ (c_M_isActor l D cc ad X b0 _ μ hi jf hjf) (cwV 1 hts (yg_call mc_M_isActor ml_M_56 mm_M_isActor ms_M_isActor mi_M) rfl rfl rfl (by decide +kernel) ⟨Nat.le_of_ble_eq_true rfl, Nat.le_of_ble_eq_true rfl⟩) (y_preV hI hw (y_recv hK.1 hw mL_o (by rfl) rfl)) rfl rfl hl.1 rfl (lv_room (Nat.le_of_ble_eq_true rfl)) d_M_channel_2 ⟨Nat.le_of_ble_eq_true rfl, Nat.le_of_ble_eq_true rfl⟩) hw hA (fun r u H locs he hw => ?_)
        subst he
        refine lv_if_eq (tgt := 51) hx hb d_M_channel_5 (by decide) (fun c_5 => by exact absurd c_5 (by decide)) (fun c_5 => ?_)
        refine lv_aload_n hx hb d_M_channel_8 rfl (lv_at hl 0 rfl) ?_
        refine lv_iload_n hx hb d_M_channel_9 rfl (lv_at hl 3 rfl) ?_
        refine yc_i (va_runV (As := [.int _]) (rest := []) ⟨hx, hb, hml, hown, hts⟩ (c_M_isActor l D cc ad X b0 _ μ hi jt hjt) (cwV 1 hts (yg_call mc_M_isActor ml_M_56 mm_M_isActor ms_M_isActor mi_M) rfl rfl rfl (by decide +kernel) ⟨Nat.le_of_ble_eq_true rfl, Nat.le_of_ble_eq_true rfl⟩) (y_preV hI hw (y_recv hK.1 hw mL_o (by rfl) rfl)) rfl rfl hl.1 rfl (lv_room (Nat.le_of_ble_eq_true rfl)) d_M_channel_10 ⟨Nat.le_of_ble_eq_true rfl, Nat.le_of_ble_eq_true rfl⟩) hw hA (fun r u H locs he hw => ?_)
        subst he
        refine lv_if_eq (tgt := 51) hx hb d_M_channel_13 (by decide) (fun c_13 => by exact absurd c_13 (by decide)) (fun c_13 => ?_)
        refine lv_iload_n hx hb d_M_channel_16 rfl (lv_at hl 2 rfl) ?_
        refine lv_if_lt (tgt := 51) hx hb d_M_channel_17 (by decide) (fun c_17 => ?_) (fun c_17 => ?_)
        · refine lv_iconst (v := (nI 0)) hx hb d_M_channel_51 (by decide) ?_
          refine lv_istore (lv' := [(6, .int _), (0, .ref _), (1, .int _), (2, .int _), (3, .int _), (4, .int _), (5, .int _)]) hx hb d_M_channel_52 hl (by decide) rfl (fun ls hl => ?_)
          refine lv_iload hx hb d_M_channel_54 (lv_at hl 0 rfl) ?_
          refine lv_if_eq (tgt := 113) hx hb d_M_channel_56 (by decide) (fun c_56 => ?_) (fun c_56 => by exact absurd (by decide) c_56)
          refine lv_iconst (v := (-1)) hx hb d_M_channel_113 (by decide) ?_
          exact ye_i hI μ ⟨by rw [hok], hi, by rw [hok], rfl, by rw [hok]⟩ hw d_M_channel_114
        · refine lv_iload hx hb d_M_channel_20 (lv_at hl 4 rfl) ?_
          refine lv_if_lt (tgt := 51) hx hb d_M_channel_22 (by decide) (fun c_22 => ?_) (fun c_22 => ?_)
          · refine lv_iconst (v := (nI 0)) hx hb d_M_channel_51 (by decide) ?_
            refine lv_istore (lv' := [(6, .int _), (0, .ref _), (1, .int _), (2, .int _), (3, .int _), (4, .int _), (5, .int _)]) hx hb d_M_channel_52 hl (by decide) rfl (fun ls hl => ?_)
            refine lv_iload hx hb d_M_channel_54 (lv_at hl 0 rfl) ?_
            refine lv_if_eq (tgt := 113) hx hb d_M_channel_56 (by decide) (fun c_56 => ?_) (fun c_56 => by exact absurd (by decide) c_56)
            refine lv_iconst (v := (-1)) hx hb d_M_channel_113 (by decide) ?_
            exact ye_i hI μ ⟨by rw [hok], hi, by rw [hok], rfl, by rw [hok]⟩ hw d_M_channel_114
          · refine lv_iload hx hb d_M_channel_25 (lv_at hl 5 rfl) ?_
            refine lv_iconst (v := (nI 1)) hx hb d_M_channel_27 (by decide) ?_
            refine lv_icmp_lt (tgt := 51) hx hb d_M_channel_28 (by decide) (fun c_28 => ?_) (fun c_28 => ?_)
            · refine lv_iconst (v := (nI 0)) hx hb d_M_channel_51 (by decide) ?_
              refine lv_istore (lv' := [(6, .int _), (0, .ref _), (1, .int _), (2, .int _), (3, .int _), (4, .int _), (5, .int _)]) hx hb d_M_channel_52 hl (by decide) rfl (fun ls hl => ?_)
              refine lv_iload hx hb d_M_channel_54 (lv_at hl 0 rfl) ?_
              refine lv_if_eq (tgt := 113) hx hb d_M_channel_56 (by decide) (fun c_56 => ?_) (fun c_56 => by exact absurd (by decide) c_56)
              refine lv_iconst (v := (-1)) hx hb d_M_channel_113 (by decide) ?_
              exact ye_i hI μ ⟨by rw [hok], hi, by rw [hok], rfl, by rw [hok]⟩ hw d_M_channel_114
            · refine lv_iload hx hb d_M_channel_31 (lv_at hl 5 rfl) ?_
              refine lv_bipush (v := (nI 8)) hx hb d_M_channel_33 (by decide) ?_
              refine lv_icmp_gt (tgt := 51) hx hb d_M_channel_35 (by decide) (fun c_35 => ?_) (fun c_35 => ?_)
              · refine lv_iconst (v := (nI 0)) hx hb d_M_channel_51 (by decide) ?_
                refine lv_istore (lv' := [(6, .int _), (0, .ref _), (1, .int _), (2, .int _), (3, .int _), (4, .int _), (5, .int _)]) hx hb d_M_channel_52 hl (by decide) rfl (fun ls hl => ?_)
                refine lv_iload hx hb d_M_channel_54 (lv_at hl 0 rfl) ?_
                refine lv_if_eq (tgt := 113) hx hb d_M_channel_56 (by decide) (fun c_56 => ?_) (fun c_56 => by exact absurd (by decide) c_56)
                refine lv_iconst (v := (-1)) hx hb d_M_channel_113 (by decide) ?_
                exact ye_i hI μ ⟨by rw [hok], hi, by rw [hok], rfl, by rw [hok]⟩ hw d_M_channel_114
              · refine lv_aload_n hx hb d_M_channel_38 rfl (lv_at hl 0 rfl) ?_
                refine yr_get (C := R_M) (T := F_M) (N := 16) (ci := k_M) hx hb ht j_M hown hK.1 hw mL_o (by rfl) rfl 6 (by decide) (ht _ mf_M_60) (fun _ h9 => h9) (by rfl) d_M_channel_39 ?_
                refine lv_bipush (v := (nI 16)) hx hb d_M_channel_42 (by decide) ?_
                refine lv_icmp_ge (tgt := 51) hx hb d_M_channel_44 (by decide) (fun c_44 => ?_) (fun c_44 => ?_)
                · refine lv_iconst (v := (nI 0)) hx hb d_M_channel_51 (by decide) ?_
                  refine lv_istore (lv' := [(6, .int _), (0, .ref _), (1, .int _), (2, .int _), (3, .int _), (4, .int _), (5, .int _)]) hx hb d_M_channel_52 hl (by decide) rfl (fun ls hl => ?_)
                  refine lv_iload hx hb d_M_channel_54 (lv_at hl 0 rfl) ?_
                  refine lv_if_eq (tgt := 113) hx hb d_M_channel_56 (by decide) (fun c_56 => ?_) (fun c_56 => by exact absurd (by decide) c_56)
                  refine lv_iconst (v := (-1)) hx hb d_M_channel_113 (by decide) ?_
                  exact ye_i hI μ ⟨by rw [hok], hi, by rw [hok], rfl, by rw [hok]⟩ hw d_M_channel_114
                · refine lv_iconst (v := (nI 1)) hx hb d_M_channel_47 (by decide) ?_
                  refine lv_goto (tgt := 52) hx hb d_M_channel_48 (by decide) ?_
                  refine lv_istore (lv' := [(6, .int _), (0, .ref _), (1, .int _), (2, .int _), (3, .int _), (4, .int _), (5, .int _)]) hx hb d_M_channel_52 hl (by decide) rfl (fun ls hl => ?_)
                  refine lv_iload hx hb d_M_channel_54 (lv_at hl 0 rfl) ?_
                  refine lv_if_eq (tgt := 113) hx hb d_M_channel_56 (by decide) (fun c_56 => by exact absurd c_56 (by decide)) (fun c_56 => ?_)
                  refine lv_iload_n hx hb d_M_channel_59 rfl (lv_at hl 3 rfl) ?_
                  refine lv_aload_n hx hb d_M_channel_60 rfl (lv_at hl 1 rfl) ?_
                  refine yr_get (C := R_M) (T := F_M) (N := 16) (ci := k_M) hx hb ht j_M hown hK.1 hw mL_o (by rfl) rfl 1 (by decide) (ht _ mf_M_7) (fun _ h9 => h9) (by rfl) d_M_channel_61 ?_
                  refine lv_iload_n hx hb d_M_channel_64 rfl (lv_at hl 2 rfl) ?_
                  refine yr_iald (v := nI (m_kd μ jf)) hx hb hK.1 hw mL_0 (by rfl) 0 rfl (vp_in_nI (N := 10) (by omega) (by omega)) (by rw [nI_clamp (by omega)]; rfl) d_M_channel_65 ?_
                  refine yc_i (va_runS (As := [.int _]) (rest := [.int _]) ⟨hx, hb, hml, hown, hts⟩ (c_M_outsOf l D cc ad X b0 _ μ (m_kd μ jf) a1) (va_cwS 1 hts (yg_callS mc_M_outsOf ml_M_63 mt_M_outsOf mi_M) rfl rfl rfl (by decide +kernel) ⟨Nat.le_of_ble_eq_true rfl, Nat.le_of_ble_eq_true rfl⟩) (y_preS hI hw) rfl rfl hl.1 rfl (lv_room (Nat.le_of_ble_eq_true rfl)) d_M_channel_66 ⟨Nat.le_of_ble_eq_true rfl, Nat.le_of_ble_eq_true rfl⟩) hw hA (fun r u H locs he hw => ?_)
                  subst he
                  refine lv_icmp_ge (tgt := 113) hx hb d_M_channel_69 (by decide) (fun c_69 => ?_) (fun c_69 => ?_)
                  · refine lv_iconst (v := (-1)) hx hb d_M_channel_113 (by decide) ?_
                    exact ye_i hI μ ⟨by rw [hok], hi, by rw [hok], rfl, by rw [hok]⟩ hw d_M_channel_114
                  · obtain ⟨jo, hjo, rfl⟩ := (ysplit o (n := yt_outs (m_kd μ jf)) (by omega)).resolve_left (fun q => q.elim c_17 c_69)
                    refine lv_iload hx hb d_M_channel_72 (lv_at hl 5 rfl) ?_
                    refine lv_aload_n hx hb d_M_channel_74 rfl (lv_at hl 1 rfl) ?_
                    refine yr_get (C := R_M) (T := F_M) (N := 16) (ci := k_M) hx hb ht j_M hown hK.1 hw mL_o (by rfl) rfl 1 (by decide) (ht _ mf_M_7) (fun _ h9 => h9) (by rfl) d_M_channel_75 ?_
                    refine lv_iload_n hx hb d_M_channel_78 rfl (lv_at hl 4 rfl) ?_
                    refine yr_iald (v := nI (m_kd μ jt)) hx hb hK.1 hw mL_0 (by rfl) 0 rfl (vp_in_nI (N := 10) (by omega) (by omega)) (by rw [nI_clamp (by omega)]; rfl) d_M_channel_79 ?_
                    refine yc_i (va_runS (As := [.int _]) (rest := [.int _]) ⟨hx, hb, hml, hown, hts⟩ (c_M_insOf l D cc ad X b0 _ μ (m_kd μ jt) g1) (va_cwS 1 hts (yg_callS mc_M_insOf ml_M_67 mt_M_insOf mi_M) rfl rfl rfl (by decide +kernel) ⟨Nat.le_of_ble_eq_true rfl, Nat.le_of_ble_eq_true rfl⟩) (y_preS hI hw) rfl rfl hl.1 rfl (lv_room (Nat.le_of_ble_eq_true rfl)) d_M_channel_80 ⟨Nat.le_of_ble_eq_true rfl, Nat.le_of_ble_eq_true rfl⟩) hw hA (fun r u H locs he hw => ?_)
                    subst he
                    refine lv_icmp_ge (tgt := 113) hx hb d_M_channel_83 (by decide) (fun c_83 => ?_) (fun c_83 => ?_)
                    · refine lv_iconst (v := (-1)) hx hb d_M_channel_113 (by decide) ?_
                      exact ye_i hI μ ⟨by rw [hok], hi, by rw [hok], rfl, by rw [hok]⟩ hw d_M_channel_114
                    · obtain ⟨ji, hji, rfl⟩ := (ysplit i (n := yt_ins (m_kd μ jt)) (by omega)).resolve_left (fun q => q.elim c_22 c_83)
                      refine lv_aload_n hx hb d_M_channel_86 rfl (lv_at hl 1 rfl) ?_
                      refine yr_get (C := R_M) (T := F_M) (N := 16) (ci := k_M) hx hb ht j_M hown hK.1 hw mL_o (by rfl) rfl 9 (by decide) (ht _ mf_M_31) (fun _ h9 => h9) (by rfl) d_M_channel_87 ?_
                      refine lv_iconst (v := (nI 2)) hx hb d_M_channel_90 (by decide) ?_
                      refine lv_iload_n hx hb d_M_channel_91 rfl (lv_at hl 2 rfl) ?_
                      refine lv_imul hx hb d_M_channel_92 ?_
                      rw [pk_mul]
                      refine lv_iload_n hx hb d_M_channel_93 rfl (lv_at hl 3 rfl) ?_
                      refine lv_iadd hx hb d_M_channel_94 ?_
                      rw [nI_add]
                      refine yr_iald (v := oI (m_oc μ jf jo)) hx hb hK.1 hw mL_7 (by rfl) 0 rfl (vp_in_nI (N := 20) (by omega) (by omega)) (by rw [nI_clamp (by omega)]; show oI (m_oc μ ((2 * jf + jo) / 2) ((2 * jf + jo) % 2)) = _; rw [at_flat (f := m_oc μ) (show jo < 2 by omega)]) d_M_channel_95 ?_
                      refine lv_if_ge (tgt := 113) hx hb d_M_channel_96 (by decide) (fun c_96 => ?_) (fun c_96 => ?_)
                      · refine lv_iconst (v := (-1)) hx hb d_M_channel_113 (by decide) ?_
                        exact ye_i hI μ ⟨by rw [hok], hi, by rw [hok], rfl, by rw [hok]⟩ hw d_M_channel_114
                      · have eo := oI_neg c_96 (fun c q => by have := (hi.2.2.2.2.2.2.2.1 jf jo c q).2.2; omega)
                        refine lv_aload_n hx hb d_M_channel_99 rfl (lv_at hl 1 rfl) ?_
                        refine yr_get (C := R_M) (T := F_M) (N := 16) (ci := k_M) hx hb ht j_M hown hK.1 hw mL_o (by rfl) rfl 8 (by decide) (ht _ mf_M_28) (fun _ h9 => h9) (by rfl) d_M_channel_100 ?_
                        refine lv_iconst (v := (nI 2)) hx hb d_M_channel_103 (by decide) ?_
                        refine lv_iload_n hx hb d_M_channel_104 rfl (lv_at hl 4 rfl) ?_
                        refine lv_imul hx hb d_M_channel_105 ?_
                        rw [pk_mul]
                        refine lv_iload hx hb d_M_channel_106 (lv_at hl 5 rfl) ?_
                        refine lv_iadd hx hb d_M_channel_108 ?_
                        rw [nI_add]
                        refine yr_iald (v := oI (m_ic μ jt ji)) hx hb hK.1 hw mL_6 (by rfl) 0 rfl (vp_in_nI (N := 20) (by omega) (by omega)) (by rw [nI_clamp (by omega)]; show oI (m_ic μ ((2 * jt + ji) / 2) ((2 * jt + ji) % 2)) = _; rw [at_flat (f := m_ic μ) (show ji < 2 by omega)]) d_M_channel_109 ?_
                        refine lv_if_lt (tgt := 115) hx hb d_M_channel_110 (by decide) (fun c_110 => ?_) (fun c_110 => ?_)
                        · have ei := oI_neg (Int32.not_le.mpr c_110) (fun c q => by have := (hi.2.2.2.2.2.2.1 jt ji c q).2.2; omega)
                          rw [jok_yes (T := m_T μ) (nc := m_nc μ) hjf hjt (show m_n μ < 2 ^ 31 by omega) (Nat.lt_of_not_le (fun q => c_44 (nI_le q (by omega)))) (fun q => q.elim (fun a => c_28 a) (fun a => c_35 a)) hjo hji eo ei] at hok
                          cases hok
                        · refine lv_iconst (v := (-1)) hx hb d_M_channel_113 (by decide) ?_
                          exact ye_i hI μ ⟨by rw [hok], hi, by rw [hok], rfl, by rw [hok]⟩ hw d_M_channel_114
  · have hjf : jf < m_n μ := hjf
    have hjt : jt < m_n μ := hjt
    have hjo : jo < yt_outs (m_kd μ jf) := hjo
    have hji : ji < yt_ins (m_kd μ jt) := hji
    have eo : m_oc μ jf jo = none := eo
    have ei : m_ic μ jt ji = none := ei
    have a1 := (hi.2.2.2.2.1 jf).1
    have g1 := (hi.2.2.2.2.1 jt).1
    have y1 := yt_outs_le (m_kd μ jf)
    have y2 := yt_ins_le (m_kd μ jt)
    refine y_ofW (cc := b_M_channel) (maxL := 7) (ret := (some .int)) (by decide) rfl (Nat.le_of_ble_eq_true rfl) ?_
    intro pv ev sv mv bv tv cv ls hI hsz hw hl
    generalize hargs : ([.ref (ad (20, 0, 0)), .int (nI jf), .int (nI jo), .int (nI jt), .int (nI ji), .int (nI rr)] : List Value).toArray = args at hI ⊢
    obtain ⟨hx, hb, hr, hml, hts, hown, hlocks, hnm, hK, hAb, hb0, hA⟩ := id hI
    have ht : ∀ w ∈ lg_tbl, w.before _ sv = true := fun w h => hts w (List.mem_cons_of_mem _ h)
    have hl : lv_has ls 7 [(0, .ref (ad (20, 0, 0))), (1, .int (nI jf)), (2, .int (nI jo)), (3, .int (nI jt)), (4, .int (nI ji)), (5, .int (nI rr))] := hl
    refine lv_aload_n hx hb d_M_channel_0 rfl (lv_at hl 0 rfl) ?_
    refine lv_iload_n hx hb d_M_channel_1 rfl (lv_at hl 1 rfl) ?_
    refine yc_i (va_runV (As := [.int _]) (rest := []) ⟨hx, hb, hml, hown, hts⟩ (c_M_isActor l D cc ad X b0 _ μ hi jf hjf) (cwV 1 hts (yg_call mc_M_isActor ml_M_56 mm_M_isActor ms_M_isActor mi_M) rfl rfl rfl (by decide +kernel) ⟨Nat.le_of_ble_eq_true rfl, Nat.le_of_ble_eq_true rfl⟩) (y_preV hI hw (y_recv hK.1 hw mL_o (by rfl) rfl)) rfl rfl hl.1 rfl (lv_room (Nat.le_of_ble_eq_true rfl)) d_M_channel_2 ⟨Nat.le_of_ble_eq_true rfl, Nat.le_of_ble_eq_true rfl⟩) hw hA (fun r u H locs he hw => ?_)
    subst he
    refine lv_if_eq (tgt := 51) hx hb d_M_channel_5 (by decide) (fun c_5 => by exact absurd c_5 (by decide)) (fun c_5 => ?_)
    refine lv_aload_n hx hb d_M_channel_8 rfl (lv_at hl 0 rfl) ?_
    refine lv_iload_n hx hb d_M_channel_9 rfl (lv_at hl 3 rfl) ?_
    refine yc_i (va_runV (As := [.int _]) (rest := []) ⟨hx, hb, hml, hown, hts⟩ (c_M_isActor l D cc ad X b0 _ μ hi jt hjt) (cwV 1 hts (yg_call mc_M_isActor ml_M_56 mm_M_isActor ms_M_isActor mi_M) rfl rfl rfl (by decide +kernel) ⟨Nat.le_of_ble_eq_true rfl, Nat.le_of_ble_eq_true rfl⟩) (y_preV hI hw (y_recv hK.1 hw mL_o (by rfl) rfl)) rfl rfl hl.1 rfl (lv_room (Nat.le_of_ble_eq_true rfl)) d_M_channel_10 ⟨Nat.le_of_ble_eq_true rfl, Nat.le_of_ble_eq_true rfl⟩) hw hA (fun r u H locs he hw => ?_)
    subst he
    refine lv_if_eq (tgt := 51) hx hb d_M_channel_13 (by decide) (fun c_13 => by exact absurd c_13 (by decide)) (fun c_13 => ?_)
    refine lv_iload_n hx hb d_M_channel_16 rfl (lv_at hl 2 rfl) ?_
    refine lv_if_lt (tgt := 51) hx hb d_M_channel_17 (by decide) (fun c_17 => by exact absurd c_17 (nI_pos (by omega))) (fun c_17 => ?_)
    refine lv_iload hx hb d_M_channel_20 (lv_at hl 4 rfl) ?_
    refine lv_if_lt (tgt := 51) hx hb d_M_channel_22 (by decide) (fun c_22 => by exact absurd c_22 (nI_pos (by omega))) (fun c_22 => ?_)
    refine lv_iload hx hb d_M_channel_25 (lv_at hl 5 rfl) ?_
    refine lv_iconst (v := (nI 1)) hx hb d_M_channel_27 (by decide) ?_
    refine lv_icmp_lt (tgt := 51) hx hb d_M_channel_28 (by decide) (fun c_28 => by exact absurd c_28 (nI_nlt (by omega) (by omega))) (fun c_28 => ?_)
    refine lv_iload hx hb d_M_channel_31 (lv_at hl 5 rfl) ?_
    refine lv_bipush (v := (nI 8)) hx hb d_M_channel_33 (by decide) ?_
    refine lv_icmp_gt (tgt := 51) hx hb d_M_channel_35 (by decide) (fun c_35 => by exact absurd c_35 (nI_nlt (by omega) (by omega))) (fun c_35 => ?_)
    refine lv_aload_n hx hb d_M_channel_38 rfl (lv_at hl 0 rfl) ?_
    refine yr_get (C := R_M) (T := F_M) (N := 16) (ci := k_M) hx hb ht j_M hown hK.1 hw mL_o (by rfl) rfl 6 (by decide) (ht _ mf_M_60) (fun _ h9 => h9) (by rfl) d_M_channel_39 ?_
    refine lv_bipush (v := (nI 16)) hx hb d_M_channel_42 (by decide) ?_
    refine lv_icmp_ge (tgt := 51) hx hb d_M_channel_44 (by decide) (fun c_44 => by exact absurd c_44 (nI_ge (by omega) (by omega))) (fun c_44 => ?_)
    refine lv_iconst (v := (nI 1)) hx hb d_M_channel_47 (by decide) ?_
    refine lv_goto (tgt := 52) hx hb d_M_channel_48 (by decide) ?_
    refine lv_istore (lv' := [(6, .int _), (0, .ref _), (1, .int _), (2, .int _), (3, .int _), (4, .int _), (5, .int _)]) hx hb d_M_channel_52 hl (by decide) rfl (fun ls hl => ?_)
    refine lv_iload hx hb d_M_channel_54 (lv_at hl 0 rfl) ?_
    refine lv_if_eq (tgt := 113) hx hb d_M_channel_56 (by decide) (fun c_56 => by exact absurd c_56 (by decide)) (fun c_56 => ?_)
    refine lv_iload_n hx hb d_M_channel_59 rfl (lv_at hl 3 rfl) ?_
    refine lv_aload_n hx hb d_M_channel_60 rfl (lv_at hl 1 rfl) ?_
    refine yr_get (C := R_M) (T := F_M) (N := 16) (ci := k_M) hx hb ht j_M hown hK.1 hw mL_o (by rfl) rfl 1 (by decide) (ht _ mf_M_7) (fun _ h9 => h9) (by rfl) d_M_channel_61 ?_
    refine lv_iload_n hx hb d_M_channel_64 rfl (lv_at hl 2 rfl) ?_
    refine yr_iald (v := nI (m_kd μ jf)) hx hb hK.1 hw mL_0 (by rfl) 0 rfl (vp_in_nI (N := 10) (by omega) (by omega)) (by rw [nI_clamp (by omega)]; rfl) d_M_channel_65 ?_
    refine yc_i (va_runS (As := [.int _]) (rest := [.int _]) ⟨hx, hb, hml, hown, hts⟩ (c_M_outsOf l D cc ad X b0 _ μ (m_kd μ jf) a1) (va_cwS 1 hts (yg_callS mc_M_outsOf ml_M_63 mt_M_outsOf mi_M) rfl rfl rfl (by decide +kernel) ⟨Nat.le_of_ble_eq_true rfl, Nat.le_of_ble_eq_true rfl⟩) (y_preS hI hw) rfl rfl hl.1 rfl (lv_room (Nat.le_of_ble_eq_true rfl)) d_M_channel_66 ⟨Nat.le_of_ble_eq_true rfl, Nat.le_of_ble_eq_true rfl⟩) hw hA (fun r u H locs he hw => ?_)
    subst he
    refine lv_icmp_ge (tgt := 113) hx hb d_M_channel_69 (by decide) (fun c_69 => by exact absurd c_69 (nI_ge hjo (by omega))) (fun c_69 => ?_)
    refine lv_iload hx hb d_M_channel_72 (lv_at hl 5 rfl) ?_
    refine lv_aload_n hx hb d_M_channel_74 rfl (lv_at hl 1 rfl) ?_
    refine yr_get (C := R_M) (T := F_M) (N := 16) (ci := k_M) hx hb ht j_M hown hK.1 hw mL_o (by rfl) rfl 1 (by decide) (ht _ mf_M_7) (fun _ h9 => h9) (by rfl) d_M_channel_75 ?_
    refine lv_iload_n hx hb d_M_channel_78 rfl (lv_at hl 4 rfl) ?_
    refine yr_iald (v := nI (m_kd μ jt)) hx hb hK.1 hw mL_0 (by rfl) 0 rfl (vp_in_nI (N := 10) (by omega) (by omega)) (by rw [nI_clamp (by omega)]; rfl) d_M_channel_79 ?_
    refine yc_i (va_runS (As := [.int _]) (rest := [.int _]) ⟨hx, hb, hml, hown, hts⟩ (c_M_insOf l D cc ad X b0 _ μ (m_kd μ jt) g1) (va_cwS 1 hts (yg_callS mc_M_insOf ml_M_67 mt_M_insOf mi_M) rfl rfl rfl (by decide +kernel) ⟨Nat.le_of_ble_eq_true rfl, Nat.le_of_ble_eq_true rfl⟩) (y_preS hI hw) rfl rfl hl.1 rfl (lv_room (Nat.le_of_ble_eq_true rfl)) d_M_channel_80 ⟨Nat.le_of_ble_eq_true rfl, Nat.le_of_ble_eq_true rfl⟩) hw hA (fun r u H locs he hw => ?_)
    subst he
    refine lv_icmp_ge (tgt := 113) hx hb d_M_channel_83 (by decide) (fun c_83 => by exact absurd c_83 (nI_ge hji (by omega))) (fun c_83 => ?_)
    refine lv_aload_n hx hb d_M_channel_86 rfl (lv_at hl 1 rfl) ?_
    refine yr_get (C := R_M) (T := F_M) (N := 16) (ci := k_M) hx hb ht j_M hown hK.1 hw mL_o (by rfl) rfl 9 (by decide) (ht _ mf_M_31) (fun _ h9 => h9) (by rfl) d_M_channel_87 ?_
    refine lv_iconst (v := (nI 2)) hx hb d_M_channel_90 (by decide) ?_
    refine lv_iload_n hx hb d_M_channel_91 rfl (lv_at hl 2 rfl) ?_
    refine lv_imul hx hb d_M_channel_92 ?_
    rw [pk_mul]
    refine lv_iload_n hx hb d_M_channel_93 rfl (lv_at hl 3 rfl) ?_
    refine lv_iadd hx hb d_M_channel_94 ?_
    rw [nI_add]
    refine yr_iald (v := (-1)) hx hb hK.1 hw mL_7 (by rfl) 0 rfl (vp_in_nI (N := 20) (by omega) (by omega)) (by rw [nI_clamp (by omega)]; show oI (m_oc μ ((2 * jf + jo) / 2) ((2 * jf + jo) % 2)) = _; rw [at_flat (f := m_oc μ) (show jo < 2 by omega), eo]; rfl) d_M_channel_95 ?_
    refine lv_if_ge (tgt := 113) hx hb d_M_channel_96 (by decide) (fun c_96 => by exact absurd c_96 (by decide)) (fun c_96 => ?_)
    refine lv_aload_n hx hb d_M_channel_99 rfl (lv_at hl 1 rfl) ?_
    refine yr_get (C := R_M) (T := F_M) (N := 16) (ci := k_M) hx hb ht j_M hown hK.1 hw mL_o (by rfl) rfl 8 (by decide) (ht _ mf_M_28) (fun _ h9 => h9) (by rfl) d_M_channel_100 ?_
    refine lv_iconst (v := (nI 2)) hx hb d_M_channel_103 (by decide) ?_
    refine lv_iload_n hx hb d_M_channel_104 rfl (lv_at hl 4 rfl) ?_
    refine lv_imul hx hb d_M_channel_105 ?_
    rw [pk_mul]
    refine lv_iload hx hb d_M_channel_106 (lv_at hl 5 rfl) ?_
    refine lv_iadd hx hb d_M_channel_108 ?_
    rw [nI_add]
    refine yr_iald (v := (-1)) hx hb hK.1 hw mL_6 (by rfl) 0 rfl (vp_in_nI (N := 20) (by omega) (by omega)) (by rw [nI_clamp (by omega)]; show oI (m_ic μ ((2 * jt + ji) / 2) ((2 * jt + ji) % 2)) = _; rw [at_flat (f := m_ic μ) (show ji < 2 by omega), ei]; rfl) d_M_channel_109 ?_
    refine lv_if_lt (tgt := 115) hx hb d_M_channel_110 (by decide) (fun c_110 => ?_) (fun c_110 => by exact absurd (by decide) c_110)
    refine lv_aload_n hx hb d_M_channel_115 rfl (lv_at hl 1 rfl) ?_
    refine yr_get (C := R_M) (T := F_M) (N := 16) (ci := k_M) hx hb ht j_M hown hK.1 hw mL_o (by rfl) rfl 9 (by decide) (ht _ mf_M_31) (fun _ h9 => h9) (by rfl) d_M_channel_116 ?_
    refine lv_iconst (v := (nI 2)) hx hb d_M_channel_119 (by decide) ?_
    refine lv_iload_n hx hb d_M_channel_120 rfl (lv_at hl 2 rfl) ?_
    refine lv_imul hx hb d_M_channel_121 ?_
    rw [pk_mul]
    refine lv_iload_n hx hb d_M_channel_122 rfl (lv_at hl 3 rfl) ?_
    refine lv_iadd hx hb d_M_channel_123 ?_
    rw [nI_add]
    refine lv_aload_n hx hb d_M_channel_124 rfl (lv_at hl 1 rfl) ?_
    refine yr_get (C := R_M) (T := F_M) (N := 16) (ci := k_M) hx hb ht j_M hown hK.1 hw mL_o (by rfl) rfl 6 (by decide) (ht _ mf_M_60) (fun _ h9 => h9) (by rfl) d_M_channel_125 ?_
    refine yr_iast hx hb hK.1 hw mL_7 (by rfl) 0 rfl (vp_in_nI (N := 20) (by omega) (by omega)) d_M_channel_128 (fun H locs hw => ?_)
    rw [nI_clamp (by omega)] at hw
    have hw := mw_oc (up2 (m_oc μ) jf jo (some (m_nc μ))) hw (congrArg (fun f => Sum.inl (cc.1, 20, Sum.inl f)) (upd_flatO (show jo < 2 by omega)))
    refine lv_aload_n hx hb d_M_channel_129 rfl (lv_at hl 1 rfl) ?_
    refine yr_get (C := R_M) (T := F_M) (N := 16) (ci := k_M) hx hb ht j_M hown hK.1 hw mL_o (by rfl) rfl 8 (by decide) (ht _ mf_M_28) (fun _ h9 => h9) (by rfl) d_M_channel_130 ?_
    refine lv_iconst (v := (nI 2)) hx hb d_M_channel_133 (by decide) ?_
    refine lv_iload_n hx hb d_M_channel_134 rfl (lv_at hl 4 rfl) ?_
    refine lv_imul hx hb d_M_channel_135 ?_
    rw [pk_mul]
    refine lv_iload hx hb d_M_channel_136 (lv_at hl 5 rfl) ?_
    refine lv_iadd hx hb d_M_channel_138 ?_
    rw [nI_add]
    refine lv_aload_n hx hb d_M_channel_139 rfl (lv_at hl 1 rfl) ?_
    refine yr_get (C := R_M) (T := F_M) (N := 16) (ci := k_M) hx hb ht j_M hown hK.1 hw mL_o (by rfl) rfl 6 (by decide) (ht _ mf_M_60) (fun _ h9 => h9) (by rfl) d_M_channel_140 ?_
    refine yr_iast hx hb hK.1 hw mL_6 (by rfl) 0 rfl (vp_in_nI (N := 20) (by omega) (by omega)) d_M_channel_143 (fun H locs hw => ?_)
    rw [nI_clamp (by omega)] at hw
    have hw := mw_ic (up2 (m_ic μ) jt ji (some (m_nc μ))) hw (congrArg (fun f => Sum.inl (cc.1, 20, Sum.inl f)) (upd_flatO (f := m_ic μ) (show ji < 2 by omega)))
    refine lv_aload_n hx hb d_M_channel_144 rfl (lv_at hl 1 rfl) ?_
    refine yr_get (C := R_M) (T := F_M) (N := 16) (ci := k_M) hx hb ht j_M hown hK.1 hw mL_o (by rfl) rfl 7 (by decide) (ht _ mf_M_25) (fun _ h9 => h9) (by rfl) d_M_channel_145 ?_
    refine lv_aload_n hx hb d_M_channel_148 rfl (lv_at hl 1 rfl) ?_
    refine yr_get (C := R_M) (T := F_M) (N := 16) (ci := k_M) hx hb ht j_M hown hK.1 hw mL_o (by rfl) rfl 6 (by decide) (ht _ mf_M_60) (fun _ h9 => h9) (by rfl) d_M_channel_149 ?_
    refine lv_iload hx hb d_M_channel_152 (lv_at hl 6 rfl) ?_
    refine yr_iast hx hb hK.1 hw mL_5 (by rfl) 0 rfl (vp_in_nI (N := 16) (show m_nc μ < 16 by omega) (by omega)) d_M_channel_154 (fun H locs hw => ?_)
    rw [nI_clamp (show m_nc (mx_ic (mx_oc μ (up2 (m_oc μ) jf jo (some (m_nc μ)))) (up2 (m_ic μ) jt ji (some (m_nc μ)))) < 2 ^ 31 from (show m_nc μ < 2 ^ 31 by omega))] at hw
    have hw := mw_rm (va_up (m_rm μ) (m_nc μ) rr) hw (congrArg (fun f => Sum.inl (cc.1, 16, Sum.inl f)) (upd_nI (f := m_rm μ)))
    refine lv_aload_n hx hb d_M_channel_155 rfl (lv_at hl 1 rfl) ?_
    refine lv_dup hx hb d_M_channel_156 rfl ?_
    refine yr_get (C := R_M) (T := F_M) (N := 16) (ci := k_M) hx hb ht j_M hown hK.1 hw mL_o (by rfl) rfl 6 (by decide) (ht _ mf_M_60) (fun _ h9 => h9) (by rfl) d_M_channel_157 ?_
    refine lv_iconst (v := (nI 1)) hx hb d_M_channel_160 (by decide) ?_
    refine lv_iadd hx hb d_M_channel_161 ?_
    rw [nI_add]
    refine yr_put (ty := .int) (C := R_M) (T := F_M) (N := 16) (ci := k_M) hx hb ht j_M t_M t_M_ok n_M hown hK.1 hw mL_o (by rfl) rfl 6 (by decide) (ht _ mf_M_60) (fun _ h9 => h9) rfl (by decide +kernel) rfl rfl (Nat.le_of_ble_eq_true rfl) d_M_channel_162 (fun H locs hw => ?_)
    have hw := mw_nc (m_nc μ + 1) hw rfl
    refine lv_aload_n hx hb d_M_channel_165 rfl (lv_at hl 1 rfl) ?_
    refine yr_get (C := R_M) (T := F_M) (N := 16) (ci := k_M) hx hb ht j_M hown hK.1 hw mL_o (by rfl) rfl 6 (by decide) (ht _ mf_M_60) (fun _ h9 => h9) (by rfl) d_M_channel_166 ?_
    refine lv_iconst (v := (nI 1)) hx hb d_M_channel_169 (by decide) ?_
    refine lv_isub hx hb d_M_channel_170 ?_
    exact ye_i hI (mo_jn μ jf jo jt ji rr) ⟨by rw [hok]; exact mo_sub1 (n := m_nc μ), (mo_join hi hjf hjt hc ⟨hr1, hr2⟩ hjo hji).1, by rw [hok]; exact (mo_join hi hjf hjt hc ⟨hr1, hr2⟩ hjo hji).2, rfl, by rw [hok]; rfl⟩ hw d_M_channel_171
