/-! the law's helpers: methods with a table of handlers, what a call threw is caught -/
theorem zgo1 {e : Env} {s : State} {f : JFrame} {a : Addr} {x : ExceptionTableEntry} {t : List ExceptionTableEntry} {cl : ClassId} {ce : Cell} (hx : covers x f.pc = true) (h0 : x.catchType ≠ 0) (hl : s.vm.ClassLinks e.platform f.method.cls x.catchType cl) (hce : s.heap[a]? = some ce) (hv : ce.vm = .none) (hk : ∃ k, s.vm.classes[ce.cls]? = some k) (hc : ∃ k, s.vm.classes[cl]? = some k) (Q : Handler → Pre) (E : CtlPost) (d : Bool) (acts : List Action) :
    (s.vm.assignable ce.cls cl = true → (wp (findHandler.go f a (x :: t)) Q E e d acts s ↔ Q (.found x.handlerPc) d acts (s.setVm (s.vm.noted f.method.cls x.catchType (.cls cl))))) ∧ (s.vm.assignable ce.cls cl = false → (wp (findHandler.go f a (x :: t)) Q E e d acts s ↔ wp (findHandler.go f a t) Q E e d acts (s.setVm (s.vm.noted f.method.cls x.catchType (.cls cl))))) := by
  have hx' := hx
  simp only [covers] at hx'
  obtain ⟨ha, ht⟩ := (resolveClass_links e.toSetting hl).op (op := VmOp.resolveClass f.method.cls x.catchType) rfl
  have hal : s.vm.Alike (s.vm.noted f.method.cls x.catchType (.cls cl)) := (Vm.Alike.refl s.vm).noted _ _ _
  obtain ⟨k1, hk1⟩ := hk
  obtain ⟨k2, hk2⟩ := hc
  obtain ⟨k3, hk3, -⟩ := hal.2.2 _ _ hk1
  obtain ⟨k4, hk4, -⟩ := hal.2.2 _ _ hk2
  have hob : ∀ k, ce.vm ≠ .statics k := fun k h => by rw [hv] at h; cases h
  constructor <;> intro has
  · have has' : (s.vm.noted f.method.cls x.catchType (.cls cl)).assignable ce.cls cl = true := by rw [hal.assignable]; exact has
    simp [findHandler.go, hx', h0, ha, ht, hce, hob, hk3, hk4, has', VmOp.dirties, VmOp.acts]
  · have has' : (s.vm.noted f.method.cls x.catchType (.cls cl)).assignable ce.cls cl = false := by rw [hal.assignable]; exact has
    simp [findHandler.go, hx', h0, ha, ht, hce, hob, hk3, hk4, has', VmOp.dirties, VmOp.acts]
theorem zgoS {tb : Tables} {e : Env} {s target : State} {g : JFrame} {c : Code} {below : List Frame} {a : Addr} {pc : Nat} {vm' : Vm} (h : At s g.method c below) (hf : ∀ (Q : Handler → Pre) (E : CtlPost) (d : Bool) (acts : List Action), wp (findHandler g a) Q E e d acts ((s.setTop g).pushFrame (.throwing a)) ↔ Q (.found pc) d acts (((s.setTop g).pushFrame (.throwing a)).setVm vm'))
    (hrest : Steps tb e below ((s.setVm vm').setTop { g with pc := pc, stack := [.ref a] }) target) : Steps tb e below ((s.setTop g).pushFrame (.throwing a)) target := by
  obtain ⟨hgo, hw⟩ := h.throwing a
  refine Steps.head hgo hw ?_
  obtain ⟨g0, hg⟩ := Option.isSome_iff_exists.mp h.top
  obtain ⟨r, hr⟩ := State.topJava?_eq_some.mp hg
  have hfr := frames_entered (g := g) h.top (.throwing a)
  have hr2 : (s.setVm vm').frames = .java g0 :: r := hr
  rw [State.setTop_of_frames _ hr2] at hrest
  have e2 : (((s.setTop g).pushFrame (.throwing a)).setVm vm').setFrames (.java { g with pc := pc, stack := [.ref a] } :: s.frames.tail) = (s.setVm vm').setFrames (.java { g with pc := pc, stack := [.ref a] } :: r) := by
    rw [hr, List.tail_cons, State.pushFrame, State.setTop_of_frames _ hr]
    have e3 : ∀ (u : State) (F G : List Frame), ((u.setFrames F).setVm vm').setFrames G = (u.setVm vm').setFrames G := fun u F G => by
      rw [show (u.setFrames F).setVm vm' = (u.setVm vm').setFrames F from rfl, State.setFrames_setFrames]
    rw [State.setFrames_setFrames, e3]
  rw [stepThread_throwing hfr]
  simp only [stepThrowing, searchFrame, vmDo]
  generalize hgen : Sem.go _ e false [] ((s.setTop g).pushFrame (.throwing a)) = res
  obtain ⟨as, rfl, ha⟩ := Sem.eq_ok_of hgen (a := Handler.found pc) (s' := ((s.setTop g).pushFrame (.throwing a)).setVm vm') (acts' := []) (by simp [hf _ _ _ _])
  show Steps tb e below ((((s.setTop g).pushFrame (.throwing a)).setVm vm').setFrames (.java { g with pc := pc, stack := [.ref a] } :: s.frames.tail)) target
  rw [e2]
  exact hrest
/-- a row that names a class by a word -/
def zRow (own : String) (x : ExceptionTableEntry) (pc : Nat) (nm : String) : Prop := covers x pc = true ∧ x.catchType ≠ 0 ∧ Cond.classLink own x.catchType nm ∈ lw_tbl
section ZH
variable {Δ : zD} {M : zMI} {R : Room} {sh0 : zSh} {QR : Option Value → zW → Prop} {QX : String → zW → Prop} {k n pc : Nat} {ls : List (Nat × Value)} {st : List Value} {w : zW}
/-- behind a catch: the handler goes on with the thrown object (cell 191) alone -/
theorem zhand {p : Program} {l : Launch} {e : Env} {s : State} {m : MethodId} {args : Array Value} {below : List Frame} {meth : Method} {c : Code} {H : Heap} {locs : List Loc} {ρ0 ρ : Nat → Nat} {ls' : Array Slot} {q : Addr} {hpc : Nat} (kk : zJ Δ M R false sh0 QR QX k n hpc [] [.ref 191] w) (h191 : w.1 191 = none) (h0 : sh0 191 = none) (C : zC Δ M p l s m meth c) (G : zG false sh0 ρ0 ρ w) (r : zR Δ ρ w H) (S : va_S (zA Δ) s.heap H locs) (L : lv_has ls' M.2.2.1 (zls ρ ls)) :
    W p l e R s m args below meth c H locs k n (vx_MQ below (zQc Δ false sh0 ρ0 (zQt M QR)) (zXc Δ false sh0 ρ0 QX) args s R.cells R.slots (zA Δ)) (F0 m hpc ls' [.ref q]) := by
  have hne : ∀ i, w.1 i ≠ none → i ≠ 191 := fun i h h2 => h (by rw [h2]; exact h191)
  have hρ : ∀ i, w.1 i ≠ none → (if i = 191 then q else ρ i) = ρ i := fun i h => if_neg (hne i h)
  obtain ⟨r1, r2, r3, r4, r5, r6, r7, r8⟩ := r
  have r' : zR Δ (fun i => if i = 191 then q else ρ i) w H := by
    refine ⟨fun i ci hi => ?_, fun i a hi => ?_, fun i a hi => ?_, fun i j hi hj he => ?_, fun i hi => ?_, r6, fun i => ?_, r8⟩
    · obtain ⟨a, ha, hb⟩ := r1 i ci hi
      refine ⟨a, ha, ?_⟩
      have hi0 : w.1 i ≠ none := by rw [hi]; exact fun h => by cases h
      have hsl : zslot (fun i => if i = 191 then q else ρ i) w ci i = zslot ρ w ci i := by
        funext a
        unfold zslot
        split
        · rfl
        · rfl
        · congr 1
          cases hw : w.2.2.2 i a with
          | none => rfl
          | some j => simp only [Option.map_some]; rw [hρ j (r6 i ci a j hi hw)]
      show t_OB (if i = 191 then q else ρ i) (Δ.1 ci) a.2.2 (zdI Δ ci) H (zslot (fun i => if i = 191 then q else ρ i) w ci i)
      rw [hρ i hi0, hsl]; exact hb
    · show H[(if i = 191 then q else ρ i)]? = _
      rw [hρ i (by rw [hi]; exact fun h => by cases h)]; exact r2 i a hi
    · show H[(if i = 191 then q else ρ i)]? = _
      rw [hρ i (by rw [hi]; exact fun h => by cases h)]; exact r3 i a hi
    · exact r4 i j hi hj (by rw [← hρ i hi, ← hρ j hj]; exact he)
    · show zA Δ (if i = 191 then q else ρ i)
      rw [hρ i hi]; exact r5 i hi
    · show (if 1000 + i = 191 then q else ρ (1000 + i)) = _
      rw [if_neg (by omega)]; exact r7 i
  exact kk p l e s m args below meth c H locs ρ0 (fun i => if i = 191 then q else ρ i) ls' C ⟨fun i hi => ⟨(G.1 i hi).1, by show (if i = 191 then q else ρ i) = _; rw [if_neg (fun h => hi (by rw [h]; exact h0))]; exact (G.1 i hi).2⟩, fun h => by cases h⟩ r' S ⟨L.1, L.2.1, fun q hq => by cases hq⟩
theorem zT_c1 {E : String} {x : ExceptionTableEntry} {suf : List ExceptionTableEntry} (htb : M.2.2.2.2.1 = x :: suf) (hx : zRow M.1 x pc E) (hct : Cond.castable E E ∈ lw_tbl) (h191 : w.1 191 = none) (h0 : sh0 191 = none) (kk : zJ Δ M R false sh0 QR QX k n x.handlerPc [] [.ref 191] w) : zT Δ M R false sh0 QR QX k n E pc ls st w := by
  intro p l e s m args below meth c H locs ρ0 ρ ls' C G r S L q ce hce hv hcl T hT X
  have hK := C.2.2.2.2.2.2.2.2.2.1
  obtain ⟨hx1, hx2, hx3⟩ := hx
  have hpl : e.platform.magicAccessors = ({} : Platform).magicAccessors := by rw [X.admits.platform]
  obtain ⟨c3, c4, hc3, hc4, hasg⟩ := Cond.castable_spec (zw (args := args) hK hct rfl)
  cases Option.some.inj (hc3.symm.trans hcl)
  obtain ⟨c5, hc5, hcl5⟩ := Cond.classLink_spec C.2.2.2.1 (zw (args := args) hK hx3 rfl) e.platform hpl
  cases Option.some.inj (hc4.symm.trans hc5)
  obtain ⟨dk, _, _, kt, hd, _, _, _, _, hkt, _, hopen⟩ := hcl5.here
  have hkc : ∃ k9, s.vm.classes[ce.cls]? = some k9 := by obtain ⟨k9, h9, -⟩ := Vm.findClass_spec hcl; exact ⟨k9, h9⟩
  have hWn := X.warmed.noted hd hopen (State.rightAt_cls hcl5)
  obtain ⟨t, a1, b1⟩ := zhand (q := q) (p := p) (l := l) (e := e) (args := args) (below := below) kk h191 h0 C G r S L (T.setVm (T.vm.noted m.cls x.catchType (.cls c4))) hT (X.noted hWn)
  refine ⟨t, zgoS (g := F0 m pc ls' (st.map (zv ρ))) (pc := x.handlerPc) (vm' := T.vm.noted m.cls x.catchType (.cls c4)) X.here (fun Q E' d acts => ?_) a1, b1⟩
  obtain ⟨k1, hk1⟩ := hkc
  obtain ⟨k3, hk3, -⟩ := X.warmed.alike.2.2 _ _ hk1
  obtain ⟨k4, hk4, -⟩ := X.warmed.alike.2.2 _ _ hkt
  have hvm : ((T.setTop (F0 m pc ls' (st.map (zv ρ)))).pushFrame (.throwing q)).vm = T.vm := throwing_vm T _ q
  have hhp : ((T.setTop (F0 m pc ls' (st.map (zv ρ)))).pushFrame (.throwing q)).heap = T.heap := throwing_heap T _ q
  rw [Jvm.W.findHandler_eq (meth := meth) (code := c) (by rw [hvm]; exact X.method') X.code, C.2.2.2.2.2.2.2.1, htb]
  have := (zgo1 (e := e) (s := (T.setTop (F0 m pc ls' (st.map (zv ρ)))).pushFrame (.throwing q)) (f := F0 m pc ls' (st.map (zv ρ))) (a := q) (x := x) (t := suf) (cl := c4) (ce := ce) hx1 hx2 (by rw [hvm]; exact X.warmed.classLinks hcl5) (by rw [hhp, hT]; exact hce) hv ⟨k3, by rw [hvm]; exact hk3⟩ ⟨k4, by rw [hvm]; exact hk4⟩ Q E' d acts).1 (by rw [hvm, X.warmed.alike.assignable]; exact hasg)
  rw [this, hvm]
theorem zT_c2 {E F : String} {y x : ExceptionTableEntry} {suf : List ExceptionTableEntry} (htb : M.2.2.2.2.1 = y :: x :: suf) (hy : zRow M.1 y pc F) (hno : ∀ s, zK Δ s → va_Nc E F s) (hx : zRow M.1 x pc E) (hct : Cond.castable E E ∈ lw_tbl) (h191 : w.1 191 = none) (h0 : sh0 191 = none) (kk : zJ Δ M R false sh0 QR QX k n x.handlerPc [] [.ref 191] w) : zT Δ M R false sh0 QR QX k n E pc ls st w := by
  intro p l e s m args below meth c H locs ρ0 ρ ls' C G r S L q ce hce hv hcl T hT X
  have hK := C.2.2.2.2.2.2.2.2.2.1
  obtain ⟨hx1, hx2, hx3⟩ := hx
  obtain ⟨hy1, hy2, hy3⟩ := hy
  have hpl : e.platform.magicAccessors = ({} : Platform).magicAccessors := by rw [X.admits.platform]
  obtain ⟨c3, c4, hc3, hc4, hasg⟩ := Cond.castable_spec (zw (args := args) hK hct rfl)
  cases Option.some.inj (hc3.symm.trans hcl)
  obtain ⟨c5, hc5, hcl5⟩ := Cond.classLink_spec C.2.2.2.1 (zw (args := args) hK hx3 rfl) e.platform hpl
  cases Option.some.inj (hc4.symm.trans hc5)
  obtain ⟨c6, c7, hc6, hc7, hnas⟩ := hno s hK
  cases Option.some.inj (hc6.symm.trans hcl)
  obtain ⟨c8, hc8, hcl8⟩ := Cond.classLink_spec C.2.2.2.1 (zw (args := args) hK hy3 rfl) e.platform hpl
  cases Option.some.inj (hc7.symm.trans hc8)
  obtain ⟨dk, _, _, kt, hd, _, _, _, _, hkt, _, hopen⟩ := hcl5.here
  obtain ⟨dk2, _, _, kt2, hd2, _, _, _, _, hkt2, _, hopen2⟩ := hcl8.here
  have hkc : ∃ k9, s.vm.classes[ce.cls]? = some k9 := by obtain ⟨k9, h9, -⟩ := Vm.findClass_spec hcl; exact ⟨k9, h9⟩
  have hW1 := X.warmed.noted hd2 hopen2 (State.rightAt_cls hcl8)
  have hWn := hW1.noted hd hopen (State.rightAt_cls hcl5)
  obtain ⟨t, a1, b1⟩ := zhand (q := q) (p := p) (l := l) (e := e) (args := args) (below := below) kk h191 h0 C G r S L (T.setVm ((T.vm.noted m.cls y.catchType (.cls c7)).noted m.cls x.catchType (.cls c4))) hT (X.noted hWn)
  refine ⟨t, zgoS (g := F0 m pc ls' (st.map (zv ρ))) (pc := x.handlerPc) (vm' := (T.vm.noted m.cls y.catchType (.cls c7)).noted m.cls x.catchType (.cls c4)) X.here (fun Q E' d acts => ?_) a1, b1⟩
  obtain ⟨k1, hk1⟩ := hkc
  obtain ⟨k3, hk3, -⟩ := X.warmed.alike.2.2 _ _ hk1
  obtain ⟨k4, hk4, -⟩ := X.warmed.alike.2.2 _ _ hkt2
  obtain ⟨k5, hk5, -⟩ := hW1.alike.2.2 _ _ hk1
  obtain ⟨k6, hk6, -⟩ := hW1.alike.2.2 _ _ hkt
  have hvm : ((T.setTop (F0 m pc ls' (st.map (zv ρ)))).pushFrame (.throwing q)).vm = T.vm := throwing_vm T _ q
  have hhp : ((T.setTop (F0 m pc ls' (st.map (zv ρ)))).pushFrame (.throwing q)).heap = T.heap := throwing_heap T _ q
  rw [Jvm.W.findHandler_eq (meth := meth) (code := c) (by rw [hvm]; exact X.method') X.code, C.2.2.2.2.2.2.2.1, htb]
  have e1 := (zgo1 (e := e) (s := (T.setTop (F0 m pc ls' (st.map (zv ρ)))).pushFrame (.throwing q)) (f := F0 m pc ls' (st.map (zv ρ))) (a := q) (x := y) (t := x :: suf) (cl := c7) (ce := ce) hy1 hy2 (by rw [hvm]; exact X.warmed.classLinks hcl8) (by rw [hhp, hT]; exact hce) hv ⟨k3, by rw [hvm]; exact hk3⟩ ⟨k4, by rw [hvm]; exact hk4⟩ Q E' d acts).2 (by rw [hvm, X.warmed.alike.assignable]; exact hnas)
  rw [e1, hvm]
  have e2 := (zgo1 (e := e) (s := ((T.setTop (F0 m pc ls' (st.map (zv ρ)))).pushFrame (.throwing q)).setVm (T.vm.noted m.cls y.catchType (.cls c7))) (f := F0 m pc ls' (st.map (zv ρ))) (a := q) (x := x) (t := suf) (cl := c4) (ce := ce) hx1 hx2 (hW1.classLinks hcl5) (by show ((T.setTop (F0 m pc ls' (st.map (zv ρ)))).pushFrame (.throwing q)).heap[q]? = _; rw [hhp, hT]; exact hce) hv ⟨k5, hk5⟩ ⟨k6, hk6⟩ Q E' d acts).1 (by show (T.vm.noted m.cls y.catchType (.cls c7)).assignable ce.cls c4 = true; rw [hW1.alike.assignable]; exact hasg)
  rw [show (F0 m pc ls' (st.map (zv ρ))).method.cls = m.cls from rfl, e2]
  exact Iff.rfl
end ZH
/-- what a program decides of a method with a table -/
def zMfw (y : MethodName) (M : zMI) (hh : List (Nat × Nat × Nat × Nat)) (n : Nat) : Prop := Cond.codeWith y M.2.1 M.2.2.1 M.2.2.2.1 hh ∈ lw_tbl ∧ (parseMethodDescriptor y.desc).map (fun d => d.parameters.length) = some n ∧ plainFor y = true ∧ M.1 = y.cls ∧ M.2.2.2.2.2 = false ∧ M.2.2.2.2.1 = tableOf hh ∧ M.2.2.1 ≤ 19 ∧ (y.cls ≠ "java/lang/invoke/MethodHandle" ∧ y.cls ≠ "java/lang/invoke/VarHandle")
def zHw (Δ : zD) (h mc ms : Nat) (y : MethodName) (M : zMI) (hh : List (Nat × Nat × Nat × Nat)) (as : List Value) (w : zW) (QR : Option Value → zW → Prop) : Prop :=
  ∀ (l : Launch) (ρ0 : Nat → Nat), l.stackTraces = false → vx_Met l y [Cond.codeWith y M.2.1 M.2.2.1 M.2.2.2.1 hh] (zRm h mc ms)
    (va_Pc (as.map (zv ρ0)) (fun U => zK Δ U ∧ zE Δ U U.heap ∧ zsz Δ ≤ U.heap.size ∧ zR Δ ρ0 w U.heap)) (zQc Δ false w.1 ρ0 (zQt M QR)) (zXc Δ false w.1 ρ0 (fun _ _ => False)) mc ms (zA Δ)
theorem zHw.of {Δ : zD} {h mc ms n : Nat} {y : MethodName} {M : zMI} {hh : List (Nat × Nat × Nat × Nat)} {as : List Value} {w : zW} {QR : Option Value → zW → Prop} (hf : zMfw y M hh n) (hlen : (lg_sl as).length ≤ M.2.2.1)
    (body : ∀ QR', (∀ r d, QR r d → QR' r d) → zJ Δ M (zRm h mc ms) false w.1 QR' (fun _ _ => False) 0 0 0 (lv_args 0 as) [] w) : zHw Δ h mc ms y M hh as w QR := by
  intro l ρ0 hl
  obtain ⟨-, -, hy, hM, hini, htb, -⟩ := hf
  have hc0 : Cond.codeWith y M.2.1 M.2.2.1 M.2.2.2.1 hh ∈ [Cond.codeWith y M.2.1 M.2.2.1 M.2.2.2.1 hh] := List.mem_cons_self
  refine MetFree.of_bodySF (code := M.2.1) (maxLocals := M.2.2.1) (ret := M.2.2.2.1) hy (fun args s m h hn => ?_) (fun p e s m args below meth c s₁ B hml hP _ => ?_)
  · obtain ⟨m9, meth, c, h0, h1, h2, h3, h4, h5, h6, h7, -⟩ := Cond.codeWith_spec (atoms_spec (ws := [Cond.codeWith y M.2.1 M.2.2.1 M.2.2.2.1 hh]) h _ hc0)
    cases Option.some.inj (h0.symm.trans hn)
    exact ⟨meth, c, h1, h2, h3, h4, h6, h7⟩
  · have htab : c.exceptionTable.toList = M.2.2.2.2.1 := by
      rw [htb]
      exact vx_table (x := y) B (atoms_spec (ws := [Cond.codeWith y M.2.1 M.2.2.1 M.2.2.2.1 hh]) B.pre _ hc0)
    obtain ⟨rfl, hK, hE, hsz, hR⟩ := hP
    have hl0 := lv_entry (as.map (zv ρ0)) (n := M.2.2.1) (by rw [zsl_len]; exact hlen)
    have hown : s.vm.findClass M.1 = some m.cls := by rw [hM]; exact findClass_of_methodNamed B.named
    rw [zls_args] at hl0
    have hb := body QR (fun _ _ h => h) p l e s m (as.map (zv ρ0)).toArray below meth c s.heap [] ρ0 ρ0 _ ⟨B.exec, B.bytes, hml, hown, B.notSynchronized, hl, B.returns, htab, fun h => (by rw [hini] at h; cases h), hK, hE, hsz⟩ ⟨fun i hi => ⟨hi, rfl⟩, fun h => by cases h⟩ hR va_S.rf hl0
    obtain ⟨t, a1, o, b1, b2, b3⟩ := hb s₁ (by rw [B.state]; rfl) (Stand.of_body B)
    rw [List.map_nil] at a1
    rw [lg_entry_eq]
    exact ⟨t, o, a1, b1, b2, b3⟩
section ZHC
variable {Δ : zD} {M : zMI} {R : Room} {sh0 : zSh} {QR : Option Value → zW → Prop} {QX : String → zW → Prop} {k n pc : Nat} {ls : List (Nat × Value)} {st : List Value} {w : zW}
/-- a static call of a method with a table -/
theorem zJ_callW {y : MethodName} {M' : zMI} {hh : List (Nat × Nat × Nat × Nat)} {h mc ms idx np : Nat} {As : List Value} {QR' : Option Value → zW → Prop} (hd : decode M.2.1 pc = .ok (.invokestatic idx, 3)) (hl : Cond.methodLink M.1 idx y ∈ lw_tbl) (h2 : Cond.static y ∈ lw_tbl) (h4 : Cond.initialized y.cls ∈ lw_tbl) (hf : zMfw y M' hh np) (hM : zHw Δ h mc ms y M' hh As w QR')
    (hn : As.length = np) (hfx : st.all (zokv w) = true ∧ ls.all (fun q => zokv w q.2) = true) (hst : (st.map fun v => v.category).sum ≤ 8) (hR : h + 1 ≤ R.frames ∧ 38 * h + 38 ≤ R.locals) (hc : k + mc ≤ R.cells ∧ n + ms ≤ R.slots)
    (kk : ∀ r w', QR' r w' → zJ Δ M R false sh0 QR QX (k + mc) (n + ms) (pc + 3) ls (zpush r st) w') : zJ Δ M R false sh0 QR QX k n pc ls (As.reverse ++ st) w := by
  intro p l e s m args below meth c H locs ρ0 ρ ls' C G r S L
  have hK := C.2.2.2.2.2.2.2.2.2.1
  have hstk : ((As.reverse ++ st).map (zv ρ)) = (As.map (zv ρ)).reverse ++ st.map (zv ρ) := by rw [List.map_append, List.map_reverse]
  have hp : PreS s H (va_Pc (As.map (zv ρ)) (fun U => zK Δ U ∧ zE Δ U U.heap ∧ zsz Δ ≤ U.heap.size ∧ zR Δ ρ w U.heap)) (As.map (zv ρ)) := ⟨zblind, fun U hU hW => ⟨rfl, zpre C r S hU hW⟩⟩
  have hW : 2 * (F0 m pc ls' ((As.reverse ++ st).map (zv ρ))).monitorRoom + ((st.map (zv ρ)).map fun v => v.category).sum ≤ 8 := by rw [zcats]; exact lv_room hst
  obtain ⟨f1, f2, -, -, -, -, f3, f4⟩ := hf
  have hcw : vx_CSW R s args M.1 idx y M'.2.1 M'.2.2.1 M'.2.2.2.1 hh [Cond.codeWith y M'.2.1 M'.2.2.1 M'.2.2.2.1 hh] (zRm h mc ms) mc ms np := by
    refine ⟨⟨rfl, rfl, hR.1, ?_, fun c9 hc9 a' U hW9 => ?_, List.mem_singleton.mpr rfl⟩, zw hK f1 rfl, zw hK h4 rfl, f4, fun sig hs => ?_, zw hK hl rfl, zw hK h2 rfl⟩
    · show 8 + (M'.2.2.1 + 11) + 38 * h ≤ R.locals
      have := hR.2
      omega
    · rw [List.mem_singleton.mp hc9]
      exact word_at (args := #[]) hW9 (Or.inl rfl) (zw hK f1 rfl)
    · rw [hs] at f2
      exact (Option.some.inj f2).symm
  exact zcall C G r S L (QX' := fun _ _ => False) (fun T hT X => Or.inl (vx_runSW (As := As.map (zv ρ)) (rest := st.map (zv ρ)) (Ts := []) (bytes := M'.2.1) (maxL := M'.2.2.1) (ret := M'.2.2.2.1) (cc := M.2.1) (nL := M.2.2.1) (own := M.1) (hh := hh) ⟨C.1, C.2.1, C.2.2.1, C.2.2.2.1, fun _ h => nomatch h⟩ (zMet (hM l ρ C.2.2.2.2.2.1) (fun E _ _ h => by obtain ⟨_, w', h1, _⟩ := h; exact h1)) hcw hp rfl (by rw [List.length_map]; exact hn) L.1 hstk hW hd hc T hT X)) (Or.inr ⟨rfl, hfx⟩) (fun r w' h => kk r w' h.2) (fun E w' h => h.elim)
end ZHC
