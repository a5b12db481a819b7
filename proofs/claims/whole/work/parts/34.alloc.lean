/-! ROWS FOR WHAT IS MADE, AND FOR STATIC ARRAYS -/
section YRN
variable {p : Program} {l : Launch} {e : Env} {R : Room} {s : State} {m : MethodId} {args : Array Value} {below : List Frame} {meth : Method} {c : Code} {H : Heap} {locs : List Loc} {cells slots : Nat} {Q : State → Prop}
variable {cc : ByteArray} {D : va_G} {cl : List vw_C} {tys : List (ClassId × FieldType)} {A : Nat → Prop} {H0 : Heap} {ad : yl → Nat} {LL : List yl} {g : yl → va_E} {X : va_W} {q : yl} {pc : Nat} {ls : Array Slot} {rest : List Value}
theorem y_pushed {a : Nat} {x : va_E} (hq : q ∉ LL) (hw : yH D cl A H0 H locs ((wl ad LL g ++ X) ++ [(a, x)])) : ∃ ad' : yl → Nat, ad' q = a ∧ (∀ z, z ∈ LL → ad' z = ad z) ∧ yH D cl A H0 H locs (wl ad' (LL ++ [q]) (yu g q x) ++ X) := ⟨yu ad q a, yu_s _ _ _, fun z hz => yu_n _ _ (fun h => hq (h ▸ hz)), yH.pushed hq hw⟩
theorem yr_new (hexec : p.tables.exec = Jvm.exec) (hb : c.code = cc) {own C : String} {T : u_T} {N ci index : Nat} {Ts : List Cond} {fs : List Value} (hts : ∀ w ∈ Ts, w.before args s = true) (hin : ∀ w ∈ u_ws C T N, w ∈ Ts) (ty : Nat → FieldType) (hty : ∀ k, k < N → parseFieldDescriptor (T k).2.2.1 = some (ty k)) (hown : s.vm.findClass own = some m.cls) (hcl : (Cond.classLink own index C).before args s = true) (hinst : (Cond.instantiable C N).before args s = true) (hini : (Cond.initialized C).before args s = true) (hK : va_K D cl tys s) (hw : yH D cl A H0 H locs (wl ad LL g ++ X)) (hA : ∀ z, H0.size ≤ z → A z) (q : yl) (hq : q ∉ LL) (hc : cl[ci]? = some (C, T, N)) (hfs : ∀ j, j < N → defaultValue (ty j) = vp_V fs j) (hcells : cells + 1 ≤ R.cells) (hslots : slots + N ≤ R.slots) (hdg : decode cc pc = .ok (.new index, 3))
    (kk : ∀ (ad' : yl → Nat) (H1 : Heap), (∀ z, z ∈ LL → ad' z = ad z) → yH D cl A H0 H1 locs (wl ad' (LL ++ [q]) (yu g q (.inr (ci, fs))) ++ X) → W p l e R s m args below meth c H1 locs (cells + 1) (slots + N) Q (F0 m (pc + 3) ls (.ref (ad' q) :: rest))) : W p l e R s m args below meth c H locs cells slots Q (F0 m pc ls rest) := by
  refine va_new hexec hb hts hin ty hty hown hcl hinst hini hK hw.1 hw.2.1 hw.2.2 hA hc hfs hcells hslots hdg (fun a H1 hP hD hS => ?_)
  obtain ⟨ad', e1, e2, e3⟩ := y_pushed hq ⟨hP, hD, hS⟩
  have := kk ad' H1 e2 e3
  rw [e1] at this
  exact this
theorem yr_newi (hexec : p.tables.exec = Jvm.exec) (hb : c.code = cc) {cA : ClassId} {n : Int32} {N' : Nat} (harr : (Cond.arrayClass .int).before args s = true) (hK : va_K D cl tys s) (hF : ∀ x ∈ tys, s.vm.findClass ("[" ++ x.2.toString) = some x.1) (ht : (cA, FieldType.int) ∈ tys) (hw : yH D cl A H0 H locs (wl ad LL g ++ X)) (hA : ∀ z, H0.size ≤ z → A z) (q : yl) (hq : q ∉ LL) (hn : ¬ n < 0) (hN : n.toNatClampNeg = N') (hb2 : N' ≤ 10000) (hcells : cells + 1 ≤ R.cells) (hslots : slots + N' ≤ R.slots) (hdg : decode cc pc = .ok (.newarray .int, 2))
    (kk : ∀ (ad' : yl → Nat) (H1 : Heap), (∀ z, z ∈ LL → ad' z = ad z) → yH D cl A H0 H1 locs (wl ad' (LL ++ [q]) (yu g q (.inl (cA, N', .inl (fun _ => 0)))) ++ X) → W p l e R s m args below meth c H1 locs (cells + 1) (slots + N') Q (F0 m (pc + 2) ls (.ref (ad' q) :: rest))) : W p l e R s m args below meth c H locs cells slots Q (F0 m pc ls (.int n :: rest)) := by
  refine va_newa (atype := .int) (ty := .int) (a0 := (N', .inl (fun _ => 0))) hexec hb harr rfl hK hw.1 hw.2.1 hw.2.2 hA (fun _ => rfl) hn hN (by show N' * 4 ≤ _; omega) hcells hslots hdg (fun a cB H1 hK2 hP hD hS => ?_)
  have h1 : s.vm.findClass ("[" ++ FieldType.int.toString) = some cB := (hK2.2 tys.length (cB, .int) (by rw [List.getElem?_append_right (Nat.le_refl _), Nat.sub_self]; rfl)).2
  have h2 := hF _ ht
  have hcc : cB = cA := Option.some.inj (h1.symm.trans h2)
  subst hcc
  obtain ⟨ad', e1, e2, e3⟩ := y_pushed hq ⟨hP, hD, hS⟩
  have := kk ad' H1 e2 e3
  rw [e1] at this
  exact this
theorem yr_newq (hexec : p.tables.exec = Jvm.exec) (hb : c.code = cc) {own C : String} {index : Nat} {cA : ClassId} {n : Int32} {N' : Nat} (hown : s.vm.findClass own = some m.cls) (hclink : (Cond.classLink own index C).before args s = true) (hover : va_AO C s) (hK : va_K D cl tys s) (hF : ∀ x ∈ tys, s.vm.findClass ("[" ++ x.2.toString) = some x.1) (ht : (cA, FieldType.object C) ∈ tys) (hw : yH D cl A H0 H locs (wl ad LL g ++ X)) (hA : ∀ z, H0.size ≤ z → A z) (q : yl) (hq : q ∉ LL) (hn : ¬ n < 0) (hN : n.toNatClampNeg = N') (hb2 : N' ≤ 10000) (hcells : cells + 1 ≤ R.cells) (hslots : slots + N' ≤ R.slots) (hdg : decode cc pc = .ok (.anewarray index, 3))
    (kk : ∀ (ad' : yl → Nat) (H1 : Heap), (∀ z, z ∈ LL → ad' z = ad z) → yH D cl A H0 H1 locs (wl ad' (LL ++ [q]) (yu g q (.inl (cA, N', .inr (.inr (.inr (.inr (fun _ => none))))))) ++ X) → W p l e R s m args below meth c H1 locs (cells + 1) (slots + N') Q (F0 m (pc + 3) ls (.ref (ad' q) :: rest))) : W p l e R s m args below meth c H locs cells slots Q (F0 m pc ls (.int n :: rest)) := by
  refine va_newq hexec hb hown hclink hover hK hw.1 hw.2.1 hw.2.2 hA hn hN (by omega) hcells hslots hdg (fun a cB H1 hK2 hP hD hS => ?_)
  obtain ⟨kA, comp, -, -, -, h1⟩ := (hK2.2 tys.length (cB, .object C) (by rw [List.getElem?_append_right (Nat.le_refl _), Nat.sub_self]; rfl)).2
  have h2 := hF _ ht
  have hcc : cB = cA := Option.some.inj (h1.symm.trans h2)
  subst hcc
  obtain ⟨ad', e1, e2, e3⟩ := y_pushed hq ⟨hP, hD, hS⟩
  have := kk ad' H1 e2 e3
  rw [e1] at this
  exact this
end YRN
theorem mw_objm : Cond.instanceMethod Lib.objectInit ∈ lg_tbl := lg_in (lw_in1 (i := 14) (by decide +kernel)) (by decide +kernel)
theorem mw_objc : Cond.code Lib.objectInit ⟨#[0xb1]⟩ 1 none ∈ lg_tbl := lg_in (lw_in1 (i := 15) (by decide +kernel)) (by decide +kernel)
/-- the same world by other words: same addresses, same cells at the places that are there -/
theorem y_same {D : va_G} {cl : List vw_C} {A : Nat → Prop} {H0 H : Heap} {locs : List Loc} {ad : yl → Nat} {LL : List yl} {g g' : yl → va_E} {X : va_W} (hw : yH D cl A H0 H locs (wl ad LL g ++ X)) (h : ∀ q, q ∈ LL → g q = g' q) : yH D cl A H0 H locs (wl ad LL g' ++ X) := by
  rw [wl_congr (ad := ad) (ad' := ad) (g := g) (g' := g') (fun q hq => ⟨rfl, h q hq⟩)] at hw
  exact hw
