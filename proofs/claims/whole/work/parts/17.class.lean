/-! HOW THE CLASS'S CONTRACTS ARE SAID -/
def yb (b : Bool) : Int32 := if b = true then 1 else 0
theorem yb_t : yb true = 1 := rfl
theorem yb_f : yb false = 0 := rfl
theorem yb_n (b : Bool) : narrow .boolean (.int (yb b)) = .int (yb b) := by cases b <;> decide
abbrev yty (cc : ClassId × ClassId × ClassId) : List (ClassId × FieldType) := [(cc.1, .int), (cc.2.1, .object "YardActors$Actor"), (cc.2.2, .object "YardActors$Channel")]
abbrev yW (cc : ClassId × ClassId × ClassId) (ad : yl → Nat) (LL : List yl) (X : va_W) (σ : ys) : va_W := wl ad LL (yG cc σ ad) ++ X
abbrev yPr (D : va_G) (cc : ClassId × ClassId × ClassId) (b0 : Nat) (av : List Value) (ws : va_W) (sz : Nat) : Array Value → State → Prop := yPre D ycl (yty cc) b0 av ws sz
abbrev yQi (D : va_G) (ws : va_W) (sz : Nat) (v : Int32) (ws' : va_W) : Array Value → State → Outcome → State → Prop := va_Qi (fun r (_ : Unit) => r = v) (yB D ycl ws sz (fun _ => ws')) (va_A ws sz)
abbrev yQl (D : va_G) (ws : va_W) (sz : Nat) (v : Int64) (ws' : va_W) : Array Value → State → Outcome → State → Prop := va_Ql (fun r (_ : Unit) => r = v) (yB D ycl ws sz (fun _ => ws')) (va_A ws sz)
abbrev yQq (D : va_G) (ws : va_W) (sz : Nat) (v : Option Nat) (ws' : va_W) : Array Value → State → Outcome → State → Prop := va_Qq (fun r (_ : Unit) => r = v) (yB D ycl ws sz (fun _ => ws')) (va_A ws sz)
abbrev yQv (D : va_G) (ws : va_W) (sz : Nat) (ws' : va_W) : Array Value → State → Outcome → State → Prop := va_Qv (fun (_ : Unit) => True) (yB D ycl ws sz (fun _ => ws')) (va_A ws sz)
theorem yg_callS {y y2 : MethodName} {b b2 : ByteArray} {n n2 idx : Nat} {r r2 : Option FieldType} {own : String} (hc : Cond.code y2 b2 n2 r2 ∈ lg_tbl) (h1 : Cond.methodLink own idx y2 ∈ lg_tbl) (h2 : Cond.static y2 ∈ lg_tbl) (h3 : Cond.initialized y2.cls ∈ lg_tbl) : GoodIn (Cond.code y b n r :: lg_tbl) (va_wsS own idx y2 (Cond.code y2 b2 n2 r2 :: lg_tbl)) := fun w hw => by
  rcases List.mem_append.mp hw with h | h
  · have hm : w ∈ lg_tbl := by
      rcases List.mem_cons.mp h with e | h
      · exact e ▸ h1
      · rcases List.mem_cons.mp h with e | h
        · exact e ▸ h2
        · rcases List.mem_cons.mp h with e | h
          · exact e ▸ h3
          · cases h
    exact ⟨List.mem_cons_of_mem _ hm, good_of_word (lg_good hm)⟩
  · exact yg_sub hc w h
section YWS
variable {D : va_G} {cl : List vw_C} {A : Nat → Prop} {H0 H : Heap} {locs : List Loc} {cc : ClassId × ClassId × ClassId} {ad : yl → Nat} {LL : List yl} {X : va_W} {σ : ys} {y i : Nat} {e : va_E}
theorem yw_ch (v : yc) (hw : yH D cl A H0 H locs (wl ad LL (yu (yG cc σ ad) (9, y, i) e) ++ X)) (he : e = .inr (k_C, [.int (nI v.1), .ref (ad (10, y, i)), .int (nI v.2.1), .int (nI v.2.2)])) : yH D cl A H0 H locs (yW cc ad LL X (sx_ch σ y i v)) := by
  subst he; rw [yG_ch] at hw; exact hw
theorem yw_rg (v : Nat → Int32) (hw : yH D cl A H0 H locs (wl ad LL (yu (yG cc σ ad) (10, y, i) e) ++ X)) (he : e = .inl (cc.1, 8, .inl v)) : yH D cl A H0 H locs (yW cc ad LL X (sx_rg σ y i v)) := by
  subst he; rw [yG_rg] at hw; exact hw
theorem yw_rw (v : Nat → Int32) (hw : yH D cl A H0 H locs (wl ad LL (yu (yG cc σ ad) (8, y, i) e) ++ X)) (he : e = .inl (cc.1, yt_rows (s_ac σ y i).1, .inl v)) : yH D cl A H0 H locs (yW cc ad LL X (sx_rw σ y i v)) := by
  subst he; rw [yG_rw] at hw; exact hw
theorem yw_ac (v : ya) (hw : yH D cl A H0 H locs (wl ad LL (yu (yG cc σ ad) (5, y, i) e) ++ X)) (hk : v.1 = (s_ac σ y i).1) (he : e = .inr (k_A, [.int (nI v.1), .int v.2.1, .int v.2.2.1, .ref (ad (6, y, i)), .ref (ad (7, y, i)), .ref (ad (8, y, i)), .int (nI v.2.2.2.1), .int (nI v.2.2.2.2)])) : yH D cl A H0 H locs (yW cc ad LL X (sx_ac σ y i v)) := by
  subst he; rw [yG_ac _ _ _ _ _ hk] at hw; exact hw
theorem yw_ic (v : Nat → Option Nat) (hw : yH D cl A H0 H locs (wl ad LL (yu (yG cc σ ad) (6, y, i) e) ++ X)) (he : e = .inl (cc.2.2, 2, .inr (.inr (.inr (.inr (fun j => (v j).map (fun c => ad (9, y, c)))))))) : yH D cl A H0 H locs (yW cc ad LL X (sx_ic σ y i v)) := by
  subst he; rw [yG_ic] at hw; exact hw
theorem yw_oc (v : Nat → Option Nat) (hw : yH D cl A H0 H locs (wl ad LL (yu (yG cc σ ad) (7, y, i) e) ++ X)) (he : e = .inl (cc.2.2, 2, .inr (.inr (.inr (.inr (fun j => (v j).map (fun c => ad (9, y, c)))))))) : yH D cl A H0 H locs (yW cc ad LL X (sx_oc σ y i v)) := by
  subst he; rw [yG_oc] at hw; exact hw
theorem yw_rd (v : Nat → Int32) (hw : yH D cl A H0 H locs (wl ad LL (yu (yG cc σ ad) (4, y, i) e) ++ X)) (he : e = .inl (cc.1, 10, .inl v)) : yH D cl A H0 H locs (yW cc ad LL X (sx_rd σ y i v)) := by
  subst he; rw [yG_rd] at hw; exact hw
theorem yw_fl (v : Int32) (hw : yH D cl A H0 H locs (wl ad LL (yu (yG cc σ ad) (0, y, i) e) ++ X)) (he : e = .inr (k_S, [.ref (ad (1, 0, 0)), .ref (ad (1, 1, 0)), .int v])) : yH D cl A H0 H locs (yW cc ad LL X (sx_fl σ y i v)) := by
  subst he; rw [yG_fl] at hw; exact hw
end YWS
theorem yand7 {n : Nat} (h : n < 2 ^ 32) : nI n &&& 7 = nI (n % 8) := pk_andN h 3 (by decide)
theorem yand1 {n : Nat} (h : n < 2 ^ 32) : nI n &&& 1 = nI (n % 2) := pk_andN h 1 (by decide)
