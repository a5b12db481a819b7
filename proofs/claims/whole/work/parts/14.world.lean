/-! WORLDS BY LOGICAL PLACES: every object has a place (family, number, number); ad says at which address it lies, g what is in it; X: the rest, which isn't touched -/
abbrev yl : Type := Nat × Nat × Nat
def yu {β : Type} (g : yl → β) (q : yl) (e : β) : yl → β := fun x => if x = q then e else g x
theorem yu_s {β : Type} (g : yl → β) (q : yl) (e : β) : yu g q e q = e := if_pos rfl
theorem yu_n {β : Type} (g : yl → β) {q x : yl} (e : β) (h : x ≠ q) : yu g q e x = g x := if_neg h
def wl (ad : yl → Nat) (LL : List yl) (g : yl → va_E) : va_W := LL.map (fun q => (ad q, g q))
theorem wl_len (ad : yl → Nat) (LL : List yl) (g : yl → va_E) : (wl ad LL g).length = LL.length := by
  unfold wl; rw [List.length_map]
theorem wl_at {ad : yl → Nat} {LL : List yl} {g : yl → va_E} {X : va_W} {i : Nat} {q : yl} (h : LL[i]? = some q) : (wl ad LL g ++ X)[i]? = some (ad q, g q) := by
  have hl : i < LL.length := (List.getElem?_eq_some_iff.mp h).1
  rw [List.getElem?_append_left (by rw [wl_len]; exact hl)]
  unfold wl
  rw [List.getElem?_map, h]
  rfl
theorem wl_get {ad : yl → Nat} {LL : List yl} {g : yl → va_E} {X : va_W} {q : yl} (h : q ∈ LL) : ∃ k : Nat, (wl ad LL g ++ X)[k]? = some (ad q, g q) := by
  obtain ⟨i, hi⟩ := List.getElem?_of_mem h
  exact ⟨i, wl_at hi⟩
theorem wl_set {A : Nat → Prop} {ad : yl → Nat} {LL : List yl} {g : yl → va_E} {X : va_W} {q : yl} {k : Nat} {e0 e : va_E} (hD : va_D A (wl ad LL g ++ X)) (h : q ∈ LL) (hk : (wl ad LL g ++ X)[k]? = some (ad q, e0)) : (wl ad LL g ++ X).set k (ad q, e) = wl ad LL (yu g q e) ++ X := by
  obtain ⟨i, hi⟩ := List.getElem?_of_mem h
  have hi' : (wl ad LL g ++ X)[i]? = some (ad q, g q) := wl_at hi
  have hik : i = k := hD.1 i k _ _ hi' hk rfl
  subst hik
  have hlt : i < LL.length := (List.getElem?_eq_some_iff.mp hi).1
  apply List.ext_getElem?
  intro j
  by_cases hj : j = i
  · subst hj
    rw [List.getElem?_set_self (by rw [List.length_append, wl_len]; omega), wl_at hi, yu_s]
  · rw [List.getElem?_set_ne (Ne.symm hj)]
    by_cases hjl : j < LL.length
    · have hq' : LL[j]? = some LL[j] := List.getElem?_eq_getElem hjl
      have hne : LL[j] ≠ q := fun e1 => hj (hD.1 j i _ _ (wl_at hq') hk (by rw [e1]))
      rw [wl_at hq', wl_at hq', yu_n _ _ hne]
    · rw [List.getElem?_append_right (by rw [wl_len]; omega), List.getElem?_append_right (by rw [wl_len]; omega), wl_len, wl_len]
theorem wl_congr {ad ad' : yl → Nat} {LL : List yl} {g g' : yl → va_E} (h : ∀ q, q ∈ LL → ad q = ad' q ∧ g q = g' q) : wl ad LL g = wl ad' LL g' := by
  unfold wl
  apply List.map_congr_left
  intro q hq
  rw [(h q hq).1, (h q hq).2]
theorem wl_push {ad : yl → Nat} {LL : List yl} {g : yl → va_E} {q : yl} {a : Nat} {e : va_E} (h : q ∉ LL) : wl (yu ad q a) (LL ++ [q]) (yu g q e) = wl ad LL g ++ [(a, e)] := by
  have h1 : wl (yu ad q a) LL (yu g q e) = wl ad LL g := wl_congr fun x hx => by
    have hne : x ≠ q := fun e => h (e ▸ hx)
    exact ⟨yu_n _ _ hne, yu_n _ _ hne⟩
  rw [← h1]
  unfold wl
  rw [List.map_append, List.map_cons, List.map_nil, yu_s, yu_s]
/-- what is carried along a walk: the world's cells, apart and in A, and that nothing outside A has changed since H0 -/
def yH (D : va_G) (cl : List vw_C) (A : Nat → Prop) (H0 H : Heap) (locs : List Loc) (ws : va_W) : Prop := va_P D cl ws H ∧ va_D A ws ∧ va_S A H0 H locs
theorem yH.pushed {D : va_G} {cl : List vw_C} {A : Nat → Prop} {H0 H : Heap} {locs : List Loc} {ad : yl → Nat} {LL : List yl} {g : yl → va_E} {X : va_W} {q : yl} {a : Nat} {e : va_E} (h : q ∉ LL) (hw : yH D cl A H0 H locs ((wl ad LL g ++ X) ++ [(a, e)])) : yH D cl A H0 H locs (wl (yu ad q a) (LL ++ [q]) (yu g q e) ++ X) := by
  rw [wl_push h]
  exact ⟨hw.1.swap, hw.2.1.swap, hw.2.2⟩
section YR
variable {p : Program} {l : Launch} {e : Env} {R : Room} {s : State} {m : MethodId} {args : Array Value} {below : List Frame} {meth : Method} {c : Code} {H : Heap} {locs : List Loc} {cells slots : Nat} {Q : State → Prop}
variable {cc : ByteArray} {D : va_G} {cl : List vw_C} {tys : List (ClassId × FieldType)} {A : Nat → Prop} {H0 : Heap} {ad : yl → Nat} {LL : List yl} {g : yl → va_E} {X : va_W} {q : yl} {pc : Nat} {ls : Array Slot} {rest : List Value}
theorem yr_get (hexec : p.tables.exec = Jvm.exec) (hb : c.code = cc) {own ref C : String} {T : u_T} {N ci index : Nat} {Ts : List Cond} {fs : List Value} {v : Value} (hts : ∀ w ∈ Ts, w.before args s = true) (hin : ∀ w ∈ u_ws C T N, w ∈ Ts) (hown : s.vm.findClass own = some m.cls) (hK : va_K D cl tys s) (hw : yH D cl A H0 H locs (wl ad LL g ++ X)) (hq : q ∈ LL) (hg : g q = .inr (ci, fs)) (hc : cl[ci]? = some (C, T, N)) (k : Nat) (hk : k < N) (hlink : (Cond.fieldLink own index ref (T k).2.1 (T k).2.2.1).before args s = true) (hsame : ∀ x, s.fieldFound? (T k).1 (T k).2.1 (T k).2.2.1 = some x → s.fieldFound? ref (T k).2.1 (T k).2.2.1 = some x) (hv : fs[k]? = some v) (hdg : decode cc pc = .ok (.getfield index, 3))
    (kk : W p l e R s m args below meth c H locs cells slots Q (F0 m (pc + 3) ls (v :: rest))) : W p l e R s m args below meth c H locs cells slots Q (F0 m pc ls (.ref (ad q) :: rest)) := by
  obtain ⟨k0, hk0⟩ := wl_get (ad := ad) (g := g) (X := X) hq
  rw [hg] at hk0
  exact va_get hexec hb hts hin hown hK hw.1 k0 hk0 hc k hk hlink hsame hv hdg kk
theorem yr_getN (hexec : p.tables.exec = Jvm.exec) (hb : c.code = cc) {own ref C host : String} {T : u_T} {N ci index : Nat} {Ts : List Cond} {fs : List Value} {v : Value} (hts : ∀ w ∈ Ts, w.before args s = true) (hin : ∀ w ∈ u_ws C T N, w ∈ Ts) (hown : s.vm.findClass own = some m.cls) (hK : va_K D cl tys s) (hw : yH D cl A H0 H locs (wl ad LL g ++ X)) (hq : q ∈ LL) (hg : g q = .inr (ci, fs)) (hc : cl[ci]? = some (C, T, N)) (k : Nat) (hk : k < N) (hlink : (Cond.fieldLinkNest own index ref (T k).2.1 (T k).2.2.1 host).before args s = true) (hsame : ∀ x, s.fieldFound? (T k).1 (T k).2.1 (T k).2.2.1 = some x → s.fieldFound? ref (T k).2.1 (T k).2.2.1 = some x) (hv : fs[k]? = some v) (hdg : decode cc pc = .ok (.getfield index, 3))
    (kk : W p l e R s m args below meth c H locs cells slots Q (F0 m (pc + 3) ls (v :: rest))) : W p l e R s m args below meth c H locs cells slots Q (F0 m pc ls (.ref (ad q) :: rest)) := by
  obtain ⟨k0, hk0⟩ := wl_get (ad := ad) (g := g) (X := X) hq
  rw [hg] at hk0
  exact va_getN hexec hb hts hin hown hK hw.1 k0 hk0 hc k hk hlink hsame hv hdg kk
theorem yr_put (hexec : p.tables.exec = Jvm.exec) (hb : c.code = cc) {own ref C : String} {T : u_T} {N ci index : Nat} {Ts : List Cond} {fs : List Value} {ty : FieldType} {v : Value} (hts : ∀ w ∈ Ts, w.before args s = true) (hin : ∀ w ∈ u_ws C T N, w ∈ Ts) (ty0 : Nat → FieldType) (hty : ∀ k, k < N → parseFieldDescriptor (T k).2.2.1 = some (ty0 k)) (hnm : ∀ a, a < N → ∀ b, b < N → a ≠ b → (T a).2.1 ≠ (T b).2.1) (hown : s.vm.findClass own = some m.cls) (hK : va_K D cl tys s) (hw : yH D cl A H0 H locs (wl ad LL g ++ X)) (hq : q ∈ LL) (hg : g q = .inr (ci, fs)) (hc : cl[ci]? = some (C, T, N)) (k : Nat) (hk : k < N) (hlink : (Cond.fieldLink own index ref (T k).2.1 (T k).2.2.1).before args s = true) (hsame : ∀ x, s.fieldFound? (T k).1 (T k).2.1 (T k).2.2.1 = some x → s.fieldFound? ref (T k).2.1 (T k).2.2.1 = some x) (hfin : (T k).2.2.2 = false) (hd : parseFieldDescriptor (T k).2.2.1 = some ty) (hn : narrow ty v = v) (hfit : fits ty v = true) (hl : k < fs.length) (hdg : decode cc pc = .ok (.putfield index, 3))
    (kk : ∀ (H1 : Heap) (locs1 : List Loc), yH D cl A H0 H1 locs1 (wl ad LL (yu g q (.inr (ci, fs.set k v))) ++ X) → W p l e R s m args below meth c H1 locs1 cells slots Q (F0 m (pc + 3) ls rest)) : W p l e R s m args below meth c H locs cells slots Q (F0 m pc ls (v :: .ref (ad q) :: rest)) := by
  obtain ⟨k0, hk0⟩ := wl_get (ad := ad) (g := g) (X := X) hq
  rw [hg] at hk0
  refine va_put hexec hb hts hin ty0 hty hnm hown hK hw.1 hw.2.1 hw.2.2 k0 hk0 hc k hk hlink hsame hfin hd hn hfit hl hdg (fun H1 locs1 hP hD hS => kk H1 locs1 ?_)
  rw [wl_set hw.2.1 hq hk0] at hP hD
  exact ⟨hP, hD, hS⟩
theorem yr_putF (hexec : p.tables.exec = Jvm.exec) (hb : c.code = cc) {own ref C : String} {T : u_T} {N ci index : Nat} {Ts : List Cond} {fs : List Value} {ty : FieldType} {v : Value} (hts : ∀ w ∈ Ts, w.before args s = true) (hin : ∀ w ∈ u_ws C T N, w ∈ Ts) (ty0 : Nat → FieldType) (hty : ∀ k, k < N → parseFieldDescriptor (T k).2.2.1 = some (ty0 k)) (hnm : ∀ a, a < N → ∀ b, b < N → a ≠ b → (T a).2.1 ≠ (T b).2.1) (hown : s.vm.findClass own = some m.cls) (hK : va_K D cl tys s) (hw : yH D cl A H0 H locs (wl ad LL g ++ X)) (hq : q ∈ LL) (hg : g q = .inr (ci, fs)) (hc : cl[ci]? = some (C, T, N)) (k : Nat) (hk : k < N) (hlink : (Cond.fieldLink own index ref (T k).2.1 (T k).2.2.1).before args s = true) (hsame : ∀ x, s.fieldFound? (T k).1 (T k).2.1 (T k).2.2.1 = some x → s.fieldFound? ref (T k).2.1 (T k).2.2.1 = some x) (hfin : (T k).2.2.2 = true) (hin2 : meth.name = "<init>") (hdecl : (T k).1 = own) (hd : parseFieldDescriptor (T k).2.2.1 = some ty) (hn : narrow ty v = v) (hfit : fits ty v = true) (hl : k < fs.length) (hdg : decode cc pc = .ok (.putfield index, 3))
    (kk : ∀ (H1 : Heap) (locs1 : List Loc), yH D cl A H0 H1 locs1 (wl ad LL (yu g q (.inr (ci, fs.set k v))) ++ X) → W p l e R s m args below meth c H1 locs1 cells slots Q (F0 m (pc + 3) ls rest)) : W p l e R s m args below meth c H locs cells slots Q (F0 m pc ls (v :: .ref (ad q) :: rest)) := by
  obtain ⟨k0, hk0⟩ := wl_get (ad := ad) (g := g) (X := X) hq
  rw [hg] at hk0
  refine va_putF hexec hb hts hin ty0 hty hnm hown hK hw.1 hw.2.1 hw.2.2 k0 hk0 hc k hk hlink hsame hfin hin2 hdecl hd hn hfit hl hdg (fun H1 locs1 hP hD hS => kk H1 locs1 ?_)
  rw [wl_set hw.2.1 hq hk0] at hP hD
  exact ⟨hP, hD, hS⟩
theorem yr_iald (hexec : p.tables.exec = Jvm.exec) (hb : c.code = cc) {cA : ClassId} {n : Nat} {f : Nat → Int32} {i : Int32} {v : Int32} (hK : va_K D cl tys s) (hw : yH D cl A H0 H locs (wl ad LL g ++ X)) (hq : q ∈ LL) (hg : g q = .inl (cA, n, .inl f)) (t0 : Nat) (ht : tys[t0]? = some (cA, .int)) (hin : vp_in i n) (hv : f i.toNatClampNeg = v) (hdg : decode cc pc = .ok (.iaload, 1))
    (kk : W p l e R s m args below meth c H locs cells slots Q (F0 m (pc + 1) ls (.int v :: rest))) : W p l e R s m args below meth c H locs cells slots Q (F0 m pc ls (.int i :: .ref (ad q) :: rest)) := by
  obtain ⟨k0, hk0⟩ := wl_get (ad := ad) (g := g) (X := X) hq
  rw [hg] at hk0
  subst hv
  exact va_iald hexec hb hK hw.1 k0 t0 hk0 ht hin hdg kk
theorem yr_iast (hexec : p.tables.exec = Jvm.exec) (hb : c.code = cc) {cA : ClassId} {n : Nat} {f : Nat → Int32} {i x : Int32} (hK : va_K D cl tys s) (hw : yH D cl A H0 H locs (wl ad LL g ++ X)) (hq : q ∈ LL) (hg : g q = .inl (cA, n, .inl f)) (t0 : Nat) (ht : tys[t0]? = some (cA, .int)) (hin : vp_in i n) (hdg : decode cc pc = .ok (.iastore, 1))
    (kk : ∀ (H1 : Heap) (locs1 : List Loc), yH D cl A H0 H1 locs1 (wl ad LL (yu g q (.inl (cA, n, .inl (upd f i.toNatClampNeg x)))) ++ X) → W p l e R s m args below meth c H1 locs1 cells slots Q (F0 m (pc + 1) ls rest)) : W p l e R s m args below meth c H locs cells slots Q (F0 m pc ls (.int x :: .int i :: .ref (ad q) :: rest)) := by
  obtain ⟨k0, hk0⟩ := wl_get (ad := ad) (g := g) (X := X) hq
  rw [hg] at hk0
  refine va_iast hexec hb hK hw.1 hw.2.1 hw.2.2 k0 t0 hk0 ht hin hdg (fun H1 locs1 hP hD hS => kk H1 locs1 ?_)
  rw [wl_set hw.2.1 hq hk0] at hP hD
  exact ⟨hP, hD, hS⟩
theorem yr_aldq (hexec : p.tables.exec = Jvm.exec) (hb : c.code = cc) {cA : ClassId} {C : String} {n : Nat} {f : Nat → Option Nat} {i : Int32} {v : Value} (hK : va_K D cl tys s) (hw : yH D cl A H0 H locs (wl ad LL g ++ X)) (hq : q ∈ LL) (hg : g q = .inl (cA, n, .inr (.inr (.inr (.inr f))))) (t0 : Nat) (ht : tys[t0]? = some (cA, .object C)) (hin : vp_in i n) (hv : va_rf (f i.toNatClampNeg) = v) (hdg : decode cc pc = .ok (.aaload, 1))
    (kk : W p l e R s m args below meth c H locs cells slots Q (F0 m (pc + 1) ls (v :: rest))) : W p l e R s m args below meth c H locs cells slots Q (F0 m pc ls (.int i :: .ref (ad q) :: rest)) := by
  obtain ⟨k0, hk0⟩ := wl_get (ad := ad) (g := g) (X := X) hq
  rw [hg] at hk0
  subst hv
  exact va_aldq hexec hb hK hw.1 k0 t0 hk0 ht hin hdg kk
theorem yr_astq (hexec : p.tables.exec = Jvm.exec) (hb : c.code = cc) {cA : ClassId} {r : vw_C} {n ci : Nat} {vs : List Value} {f : Nat → Option Nat} {i : Int32} {q2 : yl} (hK : va_K D cl tys s) (hw : yH D cl A H0 H locs (wl ad LL g ++ X)) (hq : q ∈ LL) (hg : g q = .inl (cA, n, .inr (.inr (.inr (.inr f))))) (t0 : Nat) (ht : tys[t0]? = some (cA, .object r.1)) (hq2 : q2 ∈ LL) (hg2 : g q2 = .inr (ci, vs)) (hc : cl[ci]? = some r) (hin : vp_in i n) (hdg : decode cc pc = .ok (.aastore, 1))
    (kk : ∀ (H1 : Heap) (locs1 : List Loc), yH D cl A H0 H1 locs1 (wl ad LL (yu g q (.inl (cA, n, .inr (.inr (.inr (.inr (va_up f i.toNatClampNeg (some (ad q2))))))))) ++ X) → W p l e R s m args below meth c H1 locs1 cells slots Q (F0 m (pc + 1) ls rest)) : W p l e R s m args below meth c H locs cells slots Q (F0 m pc ls (.ref (ad q2) :: .int i :: .ref (ad q) :: rest)) := by
  obtain ⟨k0, hk0⟩ := wl_get (ad := ad) (g := g) (X := X) hq
  obtain ⟨k2, hk2⟩ := wl_get (ad := ad) (g := g) (X := X) hq2
  rw [hg] at hk0
  rw [hg2] at hk2
  refine va_astq hexec hb hK hw.1 hw.2.1 hw.2.2 k0 t0 k2 ci hk0 ht hk2 hc hin hdg (fun H1 locs1 hP hD hS => kk H1 locs1 ?_)
  rw [wl_set hw.2.1 hq hk0] at hP hD
  exact ⟨hP, hD, hS⟩
theorem yr_alen (hexec : p.tables.exec = Jvm.exec) (hb : c.code = cc) {cA : ClassId} {x : vp_A} {ty : FieldType} {v : Int32} (hK : va_K D cl tys s) (hw : yH D cl A H0 H locs (wl ad LL g ++ X)) (hq : q ∈ LL) (hg : g q = .inl (cA, x)) (t0 : Nat) (ht : tys[t0]? = some (cA, ty)) (hv : Int32.ofNat x.1 = v) (hdg : decode cc pc = .ok (.arraylength, 1))
    (kk : W p l e R s m args below meth c H locs cells slots Q (F0 m (pc + 1) ls (.int v :: rest))) : W p l e R s m args below meth c H locs cells slots Q (F0 m pc ls (.ref (ad q) :: rest)) := by
  obtain ⟨k0, hk0⟩ := wl_get (ad := ad) (g := g) (X := X) hq
  rw [hg] at hk0
  exact va_alen hexec hb hK hw.1 k0 t0 hk0 ht hv hdg kk
end YR
