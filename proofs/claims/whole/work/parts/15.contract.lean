/-! CONTRACTS OVER SUCH WORLDS: no frame rule is needed at a call, for the callee gets the whole world -/
/-- how many ins, how many outs, how long a row, by kind -/
def yt_ins (k : Nat) : Nat := [0, 1, 1, 2, 2, 1, 1, 2, 1].getD k 0
def yt_outs (k : Nat) : Nat := [1, 1, 2, 1, 1, 1, 0, 1, 2].getD k 0
def yt_rows (k : Nat) : Nat := [20, 0, 0, 0, 0, 0, 60, 0, 0].getD k 0
/-- a static array that nobody writes, and the entry by which Actor reaches it -/
def yZ (z : Nat × String × (Nat → Nat)) (A : Nat → Prop) (U : State) (H : Heap) : Prop := va_Nw (.fieldLinkNest "YardActors$Actor" z.1 "YardActors" z.2.1 "[I" "YardActors") U ∧ ∃ t : Nat, va_Z "YardActors" z.2.1 "[I" (.ref t) A U H ∧ va_T .int t 9 (fun j => .int (nI (z.2.2 j))) A U H
def yzs : List (Nat × String × (Nat → Nat)) := [(43, "INS", yt_ins), (46, "OUTS", yt_outs), (30, "ROWS", yt_rows)]
def yao : List String := ["YardActors$Actor", "YardActors$Channel"]
/-- the tables' side: classes, array classes (also by their names), static arrays; all that lies below b0 isn't ours -/
def yK (D : va_G) (cl : List vw_C) (tys : List (ClassId × FieldType)) (b0 : Nat) (U : State) : Prop :=
  va_K D cl tys U ∧ (∀ x ∈ tys, U.vm.findClass ("[" ++ x.2.toString) = some x.1) ∧ (∀ C ∈ yao, va_AO C U) ∧ ∀ z ∈ yzs, yZ z (fun q => b0 ≤ q) U U.heap
theorem yK.now {D : va_G} {cl : List vw_C} {tys : List (ClassId × FieldType)} {b0 : Nat} {A : Nat → Prop} {s U : State} {H : Heap} {locs : List Loc} (hK : yK D cl tys b0 s) (hS : va_S A s.heap H locs) (hAb : ∀ q, A q → b0 ≤ q) (hU : U.heap = H) (hW : s.WarmedH U.vm) : yK D cl tys b0 U := by
  have hvm := hW.alike
  have hk : ∀ a : Nat, a < s.heap.size → ¬ (fun q : Nat => b0 ≤ q) a → U.heap[a]? = s.heap[a]? := fun a h1 h2 => by
    rw [hU]
    exact hS.2.1 a h1 (fun h => h2 (hAb a h))
  refine ⟨va_K.moved hvm hK.1, fun x hx => by rw [hvm.findClass]; exact hK.2.1 x hx, fun C hC => (hK.2.2.1 C hC).moved hvm, fun z hz => ?_⟩
  obtain ⟨h0, t, h1, h2⟩ := hK.2.2.2 z hz
  exact ⟨va_Nw.warmF hW h0, t, (h1.kept hk).moved hvm, (h2.kept hk).moved hvm⟩
def yPre (D : va_G) (cl : List vw_C) (tys : List (ClassId × FieldType)) (b0 : Nat) (av : List Value) (ws : va_W) (sz : Nat) : Array Value → State → Prop :=
  va_Pc av (fun U => U.heap.size = sz ∧ va_P D cl ws U.heap ∧ yK D cl tys b0 U ∧ va_D (fun q => b0 ≤ q) ws ∧ b0 ≤ sz)
abbrev yB {S : Type} (D : va_G) (cl : List vw_C) (ws : va_W) (sz : Nat) (w' : S → va_W) : S → State → Prop := fun u t => va_P D cl (w' u) t.heap ∧ va_D (va_A ws sz) (w' u)
theorem yPre.blind {D : va_G} {cl : List vw_C} {tys : List (ClassId × FieldType)} {b0 : Nat} {av : List Value} {ws : va_W} {sz : Nat} : FrameBlind (yPre D cl tys b0 av ws sz) := by
  intro a U g mk q
  obtain ⟨q0, q1, q2, q3, q4⟩ := q
  exact ⟨q0, q1, q2, ⟨va_K.moved (u := U) (U := U.calling g mk a) (Vm.Alike.refl U.vm) q3.1, q3.2.1, fun C hC => (q3.2.2.1 C hC).moved (u := U) (U := U.calling g mk a) (Vm.Alike.refl U.vm), fun z hz => by
    obtain ⟨h0, t, h1, h2⟩ := q3.2.2.2 z hz
    exact ⟨va_Nw.same rfl (rfl : U.vm = (U.calling g mk a).vm) h0, t, h1.moved (u := U) (U := U.calling g mk a) (Vm.Alike.refl U.vm), h2.moved (u := U) (U := U.calling g mk a) (Vm.Alike.refl U.vm)⟩⟩, q4⟩
/-- what holds in a body, all in one -/
def yIn (p : Program) (s : State) (m : MethodId) (meth : Method) (c : Code) (cc : ByteArray) (ret : Option FieldType) (maxL : Nat) (Ts : List Cond) (args : Array Value) (own nm : String) (D : va_G) (cl : List vw_C) (tys : List (ClassId × FieldType)) (b0 : Nat) (A : Nat → Prop) : Prop :=
  p.tables.exec = Jvm.exec ∧ c.code = cc ∧ meth.sig.returnType = ret ∧ c.maxLocals = maxL ∧ (∀ w ∈ Ts, w.before args s = true) ∧ s.vm.findClass own = some m.cls ∧ meth.locks = false ∧ meth.name = nm ∧ yK D cl tys b0 s ∧ (∀ q, A q → b0 ≤ q) ∧ b0 ≤ s.heap.size ∧ (∀ q, s.heap.size ≤ q → A q)
section YC
variable {p : Program} {l : Launch} {e : Env} {R : Room} {s : State} {m : MethodId} {args : Array Value} {below : List Frame} {meth : Method} {c : Code} {H : Heap} {locs : List Loc} {cells slots : Nat} {Q : State → Prop}
variable {cc : ByteArray} {ret : Option FieldType} {maxL : Nat} {Ts : List Cond} {own nm : String} {D : va_G} {cl : List vw_C} {tys : List (ClassId × FieldType)} {b0 : Nat} {A : Nat → Prop}
theorem y_ofW {y : MethodName} {ws ws' : List Cond} {rm : Room} {av : List Value} {wv : va_W} {sz mc ms : Nat} {Qc : Array Value → State → Outcome → State → Prop} (hy : plainName y.cls = true) (hw : ws = Cond.code y cc maxL ret :: ws') (hlen : (lg_sl av).length ≤ maxL)
    (body : ∀ (p : Program) (e : Env) (s : State) (m : MethodId) (below : List Frame) (meth : Method) (c : Code) (ls : Array Slot), yIn p s m meth c cc ret maxL ws av.toArray y.cls y.name D cl tys b0 (va_A wv sz) → s.heap.size = sz → yH D cl (va_A wv sz) s.heap s.heap [] wv → lv_has ls maxL (lv_args 0 av) →
      W p l e (headSpec ws rm).room s m av.toArray below meth c s.heap [] 0 0 (MQ below Qc av.toArray s mc ms (va_A wv sz)) (F0 m 0 ls [])) : Met l y ws rm (yPre D cl tys b0 av wv sz) Qc mc ms (va_A wv sz) := by
  refine Met.ofW (cc := cc) (maxL := maxL) (ret := ret) hy hw ?_
  intro p e s m args below meth c s₁ B hml hv
  obtain ⟨rfl, hsz, hP, hK, hD0, hb0⟩ := hv
  have hts := atoms_spec (ws := ws) B.pre
  have hown : s.vm.findClass y.cls = some m.cls := findClass_of_methodNamed B.named
  have hnm : meth.name = y.name := (name_of_methodNamed B.named B.method).1
  subst hsz
  have hD := hD0.self (sz := s.heap.size)
  have hl := lv_entry av (n := maxL) hlen
  rw [lg_entry_eq]
  refine body p e s m below meth c _ ⟨B.exec, B.bytes, B.returns, hml, hts, hown, B.notSynchronized, hnm, hK, fun q hq => ?_, hb0, fun q h => Or.inr h⟩ rfl ⟨hP, hD, va_S.rf⟩ hl
  rcases hq with ⟨k, e0, hk⟩ | h
  · exact hD0.2 k _ hk
  · exact Nat.le_trans hb0 h
theorem y_preV {C : String} {b : Nat} {As : List Value} {ws : va_W} (hI : yIn p s m meth c cc ret maxL Ts args own nm D cl tys b0 A) (hw : yH D cl A s.heap H locs ws) (hr : ∃ cellB : Cell, H[b]? = some cellB ∧ cellB.vm.isStatics = false ∧ s.vm.findClass C = some cellB.cls) : PreV s H C b (yPre D cl tys b0 (.ref b :: As) ws H.size) As := by
  obtain ⟨-, -, -, -, -, -, -, -, hK, hAb, hb0, -⟩ := hI
  exact ⟨yPre.blind, hr, fun U hU hW => ⟨rfl, by rw [hU], by rw [hU]; exact hw.1, hK.now hw.2.2 hAb hU hW, hw.2.1.weaken (fun _ _ _ h => hAb _ h), Nat.le_trans hb0 hw.2.2.1⟩⟩
theorem y_preS {As : List Value} {ws : va_W} (hI : yIn p s m meth c cc ret maxL Ts args own nm D cl tys b0 A) (hw : yH D cl A s.heap H locs ws) : PreS s H (yPre D cl tys b0 As ws H.size) As := by
  obtain ⟨-, -, -, -, -, -, -, -, hK, hAb, hb0, -⟩ := hI
  exact ⟨yPre.blind, fun U hU hW => ⟨rfl, by rw [hU], by rw [hU]; exact hw.1, hK.now hw.2.2 hAb hU hW, hw.2.1.weaken (fun _ _ _ h => hAb _ h), Nat.le_trans hb0 hw.2.2.1⟩⟩
theorem y_recv {ad : yl → Nat} {LL : List yl} {g : yl → va_E} {X : va_W} {q : yl} {ci : Nat} {r : vw_C} {fs : List Value} (hK : va_K D cl tys s) (hw : yH D cl A s.heap H locs (wl ad LL g ++ X)) (hq : q ∈ LL) (hg : g q = .inr (ci, fs)) (hc : cl[ci]? = some r) : ∃ cellB : Cell, H[ad q]? = some cellB ∧ cellB.vm.isStatics = false ∧ s.vm.findClass r.1 = some cellB.cls := by
  obtain ⟨k0, hk0⟩ := wl_get (ad := ad) (g := g) (X := X) hq
  rw [hg] at hk0
  exact va_recv hK hw.1 hc hk0
theorem y_free {ws : va_W} {H0 : Heap} (hA : ∀ q, H0.size ≤ q → A q) (hw : yH D cl A H0 H locs ws) : ∀ q, va_A ws H.size q → A q := by
  intro q hq
  rcases hq with ⟨k, e0, hk⟩ | h
  · exact hw.2.1.2 k _ hk
  · exact hA q (Nat.le_trans hw.2.2.1 h)
variable {pc : Nat} {ls : Array Slot} {st0 rest : List Value} {mc ms : Nat} {a : Array Value} {ws : va_W} {H0 : Heap}
theorem yc_i {S : Type} {post : Int32 → S → Prop} {w' : S → va_W} (hr : va_Run p l e R s m args below meth c H locs cells slots mc ms (F0 m pc ls st0) rest (va_Qi post (yB D cl ws H.size w') (va_A ws H.size) a) (va_A ws H.size)) (hw : yH D cl A H0 H locs ws) (hA : ∀ q, H0.size ≤ q → A q)
    (kk : ∀ (r : Int32) (u : S) (H1 : Heap) (locs1 : List Loc), post r u → yH D cl A H0 H1 locs1 (w' u) → W p l e R s m args below meth c H1 locs1 (cells + mc) (slots + ms) Q (F0 m (pc + 3) ls (.int r :: rest))) : W p l e R s m args below meth c H locs cells slots Q (F0 m pc ls st0) := by
  have hF := y_free hA hw
  refine va_calli hr hw.2.2 (fun q _ h => hF q h) hF (fun r u t H1 locs1 ht hvm hp hB hz hk hS => kk r u H1 locs1 hp ⟨by rw [← ht]; exact hB.1, hB.2.weaken (fun _ _ _ h => hF _ h), hS⟩)
theorem yc_l {S : Type} {post : Int64 → S → Prop} {w' : S → va_W} (hr : va_Run p l e R s m args below meth c H locs cells slots mc ms (F0 m pc ls st0) rest (va_Ql post (yB D cl ws H.size w') (va_A ws H.size) a) (va_A ws H.size)) (hw : yH D cl A H0 H locs ws) (hA : ∀ q, H0.size ≤ q → A q)
    (kk : ∀ (r : Int64) (u : S) (H1 : Heap) (locs1 : List Loc), post r u → yH D cl A H0 H1 locs1 (w' u) → W p l e R s m args below meth c H1 locs1 (cells + mc) (slots + ms) Q (F0 m (pc + 3) ls (.long r :: rest))) : W p l e R s m args below meth c H locs cells slots Q (F0 m pc ls st0) := by
  have hF := y_free hA hw
  refine va_calll hr hw.2.2 (fun q _ h => hF q h) hF (fun r u t H1 locs1 ht hvm hp hB hz hk hS => kk r u H1 locs1 hp ⟨by rw [← ht]; exact hB.1, hB.2.weaken (fun _ _ _ h => hF _ h), hS⟩)
theorem yc_v {S : Type} {post : S → Prop} {w' : S → va_W} (hr : va_Run p l e R s m args below meth c H locs cells slots mc ms (F0 m pc ls st0) rest (va_Qv post (yB D cl ws H.size w') (va_A ws H.size) a) (va_A ws H.size)) (hw : yH D cl A H0 H locs ws) (hA : ∀ q, H0.size ≤ q → A q)
    (kk : ∀ (u : S) (H1 : Heap) (locs1 : List Loc), post u → yH D cl A H0 H1 locs1 (w' u) → W p l e R s m args below meth c H1 locs1 (cells + mc) (slots + ms) Q (F0 m (pc + 3) ls rest)) : W p l e R s m args below meth c H locs cells slots Q (F0 m pc ls st0) := by
  have hF := y_free hA hw
  refine va_callv hr hw.2.2 (fun q _ h => hF q h) hF (fun u t H1 locs1 ht hvm hp hB hz hk hS => kk u H1 locs1 hp ⟨by rw [← ht]; exact hB.1, hB.2.weaken (fun _ _ _ h => hF _ h), hS⟩)
theorem yc_q {S : Type} {post : Option Nat → S → Prop} {w' : S → va_W} (hr : va_Run p l e R s m args below meth c H locs cells slots mc ms (F0 m pc ls st0) rest (va_Qq post (yB D cl ws H.size w') (va_A ws H.size) a) (va_A ws H.size)) (hw : yH D cl A H0 H locs ws) (hA : ∀ q, H0.size ≤ q → A q)
    (kk : ∀ (r : Option Nat) (u : S) (H1 : Heap) (locs1 : List Loc), post r u → yH D cl A H0 H1 locs1 (w' u) → W p l e R s m args below meth c H1 locs1 (cells + mc) (slots + ms) Q (F0 m (pc + 3) ls (va_rf r :: rest))) : W p l e R s m args below meth c H locs cells slots Q (F0 m pc ls st0) := by
  have hF := y_free hA hw
  refine va_callq hr hw.2.2 (fun q _ h => hF q h) hF (fun r u t H1 locs1 ht hvm hp hB hz hk hS => kk r u H1 locs1 hp ⟨by rw [← ht]; exact hB.1, hB.2.weaken (fun _ _ _ h => hF _ h), hS⟩)
/-- the ends -/
theorem ye_i {S : Type} {post : Int32 → S → Prop} {w' : S → va_W} {wv : va_W} {sz : Nat} {v : Int32} (hI : yIn p s m meth c cc (some .int) maxL Ts args own nm D cl tys b0 (va_A wv sz)) (u : S) (hp : post v u) (hw : yH D cl (va_A wv sz) s.heap H locs (w' u)) (hdg : decode cc pc = .ok (.ireturn, 1)) : W p l e R s m args below meth c H locs cells slots (MQ below (va_Qi post (yB D cl wv sz w') (va_A wv sz)) args s cells slots (va_A wv sz)) (F0 m pc ls [.int v]) := by
  obtain ⟨hx, hb, hr, -, -, -, hlocks, -⟩ := hI
  exact W.iret hx hb hr (fun t ht hW => ⟨⟨v, u, rfl, hp, by rw [ht]; exact hw.1, hw.2.1⟩, hw.2.2.F ht⟩) hw.2.2.2.2 hdg hlocks
theorem ye_z {S : Type} {post : Int32 → S → Prop} {w' : S → va_W} {wv : va_W} {sz : Nat} {v : Int32} (hI : yIn p s m meth c cc (some .boolean) maxL Ts args own nm D cl tys b0 (va_A wv sz)) (hn : narrow .boolean (.int v) = .int v) (u : S) (hp : post v u) (hw : yH D cl (va_A wv sz) s.heap H locs (w' u)) (hdg : decode cc pc = .ok (.ireturn, 1)) : W p l e R s m args below meth c H locs cells slots (MQ below (va_Qi post (yB D cl wv sz w') (va_A wv sz)) args s cells slots (va_A wv sz)) (F0 m pc ls [.int v]) := by
  obtain ⟨hx, hb, hr, -, -, -, hlocks, -⟩ := hI
  exact W.zret hx hb hr hn (fun t ht hW => ⟨⟨v, u, rfl, hp, by rw [ht]; exact hw.1, hw.2.1⟩, hw.2.2.F ht⟩) hw.2.2.2.2 hdg hlocks
theorem ye_l {S : Type} {post : Int64 → S → Prop} {w' : S → va_W} {wv : va_W} {sz : Nat} {v : Int64} (hI : yIn p s m meth c cc (some .long) maxL Ts args own nm D cl tys b0 (va_A wv sz)) (u : S) (hp : post v u) (hw : yH D cl (va_A wv sz) s.heap H locs (w' u)) (hdg : decode cc pc = .ok (.lreturn, 1)) : W p l e R s m args below meth c H locs cells slots (MQ below (va_Ql post (yB D cl wv sz w') (va_A wv sz)) args s cells slots (va_A wv sz)) (F0 m pc ls [.long v]) := by
  obtain ⟨hx, hb, hr, -, -, -, hlocks, -⟩ := hI
  exact W.lret hx hb hr (fun t ht hW => ⟨⟨v, u, rfl, hp, by rw [ht]; exact hw.1, hw.2.1⟩, hw.2.2.F ht⟩) hw.2.2.2.2 hdg hlocks
theorem ye_v {S : Type} {post : S → Prop} {w' : S → va_W} {wv : va_W} {sz : Nat} (hI : yIn p s m meth c cc none maxL Ts args own nm D cl tys b0 (va_A wv sz)) (u : S) (hp : post u) (hw : yH D cl (va_A wv sz) s.heap H locs (w' u)) (hdg : decode cc pc = .ok (.return_, 1)) : W p l e R s m args below meth c H locs cells slots (MQ below (va_Qv post (yB D cl wv sz w') (va_A wv sz)) args s cells slots (va_A wv sz)) (F0 m pc ls []) := by
  obtain ⟨hx, hb, hr, -, -, -, hlocks, -⟩ := hI
  exact W.vret hx hb hr (fun t ht hW => ⟨⟨u, rfl, hp, by rw [ht]; exact hw.1, hw.2.1⟩, hw.2.2.F ht⟩) hw.2.2.2.2 hdg hlocks
theorem ye_q {S : Type} {post : Option Nat → S → Prop} {w' : S → va_W} {wv : va_W} {sz : Nat} {C : String} (r : Option Nat) {v : Value} (hv : v = va_rf r) (hI : yIn p s m meth c cc (some (.object C)) maxL Ts args own nm D cl tys b0 (va_A wv sz)) (u : S) (hp : post r u) (hw : yH D cl (va_A wv sz) s.heap H locs (w' u)) (hdg : decode cc pc = .ok (.areturn, 1)) : W p l e R s m args below meth c H locs cells slots (MQ below (va_Qq post (yB D cl wv sz w') (va_A wv sz)) args s cells slots (va_A wv sz)) (F0 m pc ls [v]) := by
  obtain ⟨hx, hb, hr, -, -, -, hlocks, -⟩ := hI
  subst hv
  exact W.aret hx hb hr (Or.inl ⟨C, rfl⟩) (va_rf_or r) (fun t ht hW => ⟨⟨r, u, rfl, hp, by rw [ht]; exact hw.1, hw.2.1⟩, hw.2.2.F ht⟩) hw.2.2.2.2 hdg hlocks
end YC
