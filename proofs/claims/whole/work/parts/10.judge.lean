/-! the judgement: a world of numbered cells, one law an instruction. A value's reference is the number of a cell of the world (1000 on: a string constant); rho says where the cell lies. -/
abbrev zD : Type := (Nat → ClassId) × (Nat → Nat → Nat) × ClassId × ClassId × Nat × (Nat → Nat) × (Nat → Nat)
abbrev zdI (Δ : zD) : Nat → Nat → Nat := Δ.2.1
abbrev zcI (Δ : zD) : ClassId := Δ.2.2.1
abbrev zcL (Δ : zD) : ClassId := Δ.2.2.2.1
abbrev zsz (Δ : zD) : Nat := Δ.2.2.2.2.1
abbrev zsa (Δ : zD) : Nat → Nat := Δ.2.2.2.2.2.1
abbrev zsv (Δ : zD) (i : Nat) : Nat := zsa Δ (1000 + i)
/-- the script: how many ints, and which -/
abbrev zscn (Δ : zD) : Nat := Δ.2.2.2.2.2.2 0
abbrev zscv (Δ : zD) (j : Nat) : Int32 := Int32.ofNat (Δ.2.2.2.2.2.2 (j + 1))
abbrev zSh : Type := Nat → Option (Nat ⊕ (Bool × Nat))
/-- a world: its cells' shapes (an object of a numbered kind, a row of ints or longs of a length), what ints, longs, references stand in a cell's places -/
abbrev zW : Type := zSh × (Nat → Nat → Int32) × (Nat → Nat → Int64) × (Nat → Nat → Option Nat)
def zv (ρ : Nat → Nat) (v : Value) : Value := match v with
  | .ref i => .ref (ρ i)
  | x => x
def zty (ci : Nat) : Nat → FieldType := match ci with
  | 0 => tyX0
  | 1 => tyX1
  | 2 => tyX2
  | 3 => tyX3
  | 4 => tyX4
  | 5 => tyX5
  | 6 => tyX6
  | 7 => tyX7
  | 8 => tyX8
  | _ => tyX9
def zct (ty : FieldType) : Nat := match ty with
  | .long => 1
  | .object _ => 2
  | .array _ => 2
  | _ => 0
def zslot (ρ : Nat → Nat) (w : zW) (ci i k : Nat) : Value := match zct (zty ci k) with
  | 0 => .int (w.2.1 i k)
  | 1 => .long (w.2.2.1 i k)
  | _ => va_rf ((w.2.2.2 i k).map ρ)
def zA (Δ : zD) : Nat → Prop := fun q => zsz Δ ≤ q
def zR (Δ : zD) (ρ : Nat → Nat) (w : zW) (H : Heap) : Prop :=
  (∀ i ci, w.1 i = some (.inl ci) → ∃ r, vwCl[ci]? = some r ∧ t_OB (ρ i) (Δ.1 ci) r.2.2 (zdI Δ ci) H (zslot ρ w ci i)) ∧
  (∀ i n, w.1 i = some (.inr (false, n)) → H[ρ i]? = some (arrV (zcI Δ) n (fun j => .int (w.2.1 i j)))) ∧
  (∀ i n, w.1 i = some (.inr (true, n)) → H[ρ i]? = some (arrV (zcL Δ) n (fun j => .long (w.2.2.1 i j)))) ∧
  (∀ i j, w.1 i ≠ none → w.1 j ≠ none → ρ i = ρ j → i = j) ∧
  (∀ i, w.1 i ≠ none → zA Δ (ρ i)) ∧
  (∀ i ci k j, w.1 i = some (.inl ci) → w.2.2.2 i k = some j → w.1 j ≠ none) ∧
  (∀ i, ρ (1000 + i) = zsa Δ i) ∧ (∀ i, w.1 (1000 + i) = none)
/-! the words, and that they last -/
def zNst : Cond → Bool
  | .fieldLinkNest .. => true
  | .methodLinkNest .. => true
  | _ => false
def zWm (w : Cond) : Bool := w.onTables && (w.keeps || w.faceAtom || zNst w)
theorem zWm_warm {w : Cond} {s U : State} (hW : s.WarmedH U.vm) (hw : zWm w = true) (h : va_Nw w s) : va_Nw w U := by
  simp only [zWm, Bool.and_eq_true, Bool.or_eq_true] at hw
  obtain ⟨h1, (h2 | h2) | h2⟩ := hw
  · have h3 := Cond.onTables_warm (T := U) (args' := #[]) hW h1 h2 h
    rwa [State.setVm_self] at h3
  · exact va_tabs h1 (rfl : (s.setVm U.vm).vm = U.vm) (Cond.faceAtom_setVm hW.alike w h2 h)
  · cases w <;> first | exact va_Nw.warmF hW h | exact va_Nw.warmM hW h | (simp [zNst] at h2)
def zStr : List (String × Nat × String × Nat) := [("LetterTown$Reader", 82, "person", 0), ("LetterTown$Reader", 91, "knows", 1), ("LetterTown$Reader", 96, "letter", 2), ("LetterTown$Reader", 104, "law", 3), ("LetterTown$Reader", 109, "wax", 4), ("LetterTown$Reader", 114, "first", 5), ("LetterTown$Reader", 132, "name", 6), ("LetterTown$Reader", 147, "opens", 7), ("LetterTown$Reader", 149, "sends", 8), ("LetterTown$Reader", 151, "luck", 9), ("LetterTown$Reader", 153, "best", 10), ("LetterTown$Reader", 160, "weight", 11), ("LetterTown$Reader", 174, "prize", 12), ("LetterTown$Reader", 178, "pays", 13), ("LetterTown$Reader", 182, "once", 14), ("LetterTown$Reader", 186, "again", 15), ("LetterTown$Reader", 188, "back", 16), ("LetterTown", 95, "the tape has not so many bytes", 17), ("LetterTown", 155, "no such count", 18), ("LetterTown", 176, "no such hand", 19), ("LetterTown", 221, "numbers not as told", 20), ("LetterTown", 283, "no such LAW", 21), ("LetterTown", 302, "no such hand of THE CHAIN", 22), ("LetterTown", 312, "no such WAX", 23), ("LetterTown", 317, "PEOPLE that there aren't", 24), ("LetterTown", 340, "pennies not as told", 25), ("LetterTown", 348, "weeks not as told, or no PEOPLE", 26), ("LetterTown", 352, "weeks not as told", 27), ("LetterTown", 363, "no such week", 28), ("LetterTown", 388, "no such PERSON", 29), ("LetterTown", 390, "no PEOPLE", 30), ("LetterTown", 392, "no such what", 31), ("LetterTown", 394, "no such GUESS", 32), ("LetterTown", 401, "SPENT", 33)]
def zSlen : List Nat := [6, 5, 6, 3, 3, 5, 4, 5, 5, 4, 4, 6, 5, 4, 4, 5, 4]
def zSbyt : List (List Int32) := [[112, 101, 114, 115, 111, 110], [107, 110, 111, 119, 115], [108, 101, 116, 116, 101, 114], [108, 97, 119], [119, 97, 120], [102, 105, 114, 115, 116], [110, 97, 109, 101], [111, 112, 101, 110, 115], [115, 101, 110, 100, 115], [108, 117, 99, 107], [98, 101, 115, 116], [119, 101, 105, 103, 104, 116], [112, 114, 105, 122, 101], [112, 97, 121, 115], [111, 110, 99, 101], [97, 103, 97, 105, 110], [98, 97, 99, 107]]
def zK (Δ : zD) (U : State) : Prop :=
  va_K (Δ.1, zdI Δ) vwCl [(zcI Δ, .int), (zcL Δ, .long)] U ∧ (∀ w ∈ lw_tbl, zWm w = true → va_Nw w U) ∧
  ((Cond.arrayClass .int).before #[] U = true ∧ (Cond.arrayClass .long).before #[] U = true ∧ va_Nc "java/lang/IllegalArgumentException" "java/util/NoSuchElementException" U) ∧
  (∀ q ∈ zStr, vk_R q.1 q.2.1 q.2.2.1 (zsa Δ q.2.2.2) U)
theorem zK.warm {Δ : zD} {s U : State} (hW : s.WarmedH U.vm) (h : zK Δ s) : zK Δ U :=
  ⟨va_K.moved hW.alike h.1, fun w h1 h2 => zWm_warm hW h2 (h.2.1 w h1 h2), ⟨word_at hW (Or.inr ⟨_, rfl⟩) h.2.2.1.1, word_at hW (Or.inr ⟨_, rfl⟩) h.2.2.1.2.1, va_Nc.moved hW.alike h.2.2.1.2.2⟩, fun q hq => vk_R.warm hW (h.2.2.2 q hq)⟩
def zSK (Δ : zD) (U : State) (H : Heap) (i : Nat) : Prop :=
  va_O "java/lang/String" (zsa Δ i) (zA Δ) U H ∧ va_OF "java/lang/String" "coder" "B" (.int 0) (zsa Δ i) (zA Δ) U H ∧ va_OF "java/lang/String" "value" "[B" (.ref (zsv Δ i)) (zsa Δ i) (zA Δ) U H ∧ va_T .byte (zsv Δ i) (zSlen.getD i 0) (fun j => .int ((zSbyt.getD i []).getD j 0)) (zA Δ) U H
def zE (Δ : zD) (U : State) (H : Heap) : Prop :=
  vx_Zq Bundle.tN "UNASSIGNED_STACK" Bundle.steD (zA Δ) U H ∧ vx_Zq Bundle.tN "SUPPRESSED_SENTINEL" Bundle.listD (zA Δ) U H ∧
  va_Z "java/lang/String" "COMPACT_STRINGS" "Z" (.int 1) (zA Δ) U H ∧ (∀ i, i < 17 → zSK Δ U H i) ∧ (va_Z "jdk/internal/util/Preconditions" "SIOOBE_FORMATTER" "Ljava/util/function/BiFunction;" .null (zA Δ) U H ∨ va_Z "jdk/internal/util/Preconditions" "SIOOBE_FORMATTER" "Ljava/util/function/BiFunction;" (.ref (zsa Δ 2000)) (zA Δ) U H) ∧ va_T .int (zsa Δ 3000) (zscn Δ) (fun j => .int (zscv Δ j)) (zA Δ) U H
theorem zE.moved {Δ : zD} {u U : State} {H : Heap} (hvm : u.vm.Alike U.vm) (h : zE Δ u H) : zE Δ U H :=
  ⟨vx_Zq.moved hvm h.1, vx_Zq.moved hvm h.2.1, va_Z.moved hvm h.2.2.1, fun i hi => ⟨va_O.moved hvm (h.2.2.2.1 i hi).1, va_OF.moved hvm (h.2.2.2.1 i hi).2.1, va_OF.moved hvm (h.2.2.2.1 i hi).2.2.1, va_T.moved hvm (h.2.2.2.1 i hi).2.2.2⟩, h.2.2.2.2.1.imp (va_Z.moved hvm) (va_Z.moved hvm), va_T.moved hvm h.2.2.2.2.2⟩
theorem zE.kept {Δ : zD} {U : State} {H H1 : Heap} (h : zE Δ U H) (hq : ∀ a : Nat, a < H.size → ¬ zA Δ a → H1[a]? = H[a]?) : zE Δ U H1 :=
  ⟨vx_Zq.kept h.1 hq, vx_Zq.kept h.2.1 hq, va_Z.kept h.2.2.1 hq, fun i hi => ⟨(h.2.2.2.1 i hi).1.kept hq, (h.2.2.2.1 i hi).2.1.kept hq, (h.2.2.2.1 i hi).2.2.1.kept hq, (h.2.2.2.1 i hi).2.2.2.kept hq⟩, h.2.2.2.2.1.imp (fun z => z.kept hq) (fun z => z.kept hq), h.2.2.2.2.2.kept hq⟩
theorem zR.kept {Δ : zD} {ρ : Nat → Nat} {w : zW} {H H1 : Heap} (h : zR Δ ρ w H) (hq : ∀ q : Nat, q < H.size → H1[q]? = H[q]?) : zR Δ ρ w H1 := by
  obtain ⟨h1, h2, h3, h4⟩ := h
  refine ⟨fun i ci hi => ?_, fun i n hi => ?_, fun i n hi => ?_, h4⟩
  · obtain ⟨r, hr, cell, q1, q2⟩ := h1 i ci hi
    exact ⟨r, hr, cell, by rw [hq _ (Array.getElem?_eq_some_iff.mp q1).1]; exact q1, q2⟩
  · have q1 := h2 i n hi
    rw [hq _ (Array.getElem?_eq_some_iff.mp q1).1]; exact q1
  · have q1 := h3 i n hi
    rw [hq _ (Array.getElem?_eq_some_iff.mp q1).1]; exact q1
/-! a method: its kind's name, code, locals, answer, table of handlers, whether it is a constructor -/
abbrev zMI : Type := String × ByteArray × Nat × Option FieldType × List ExceptionTableEntry × Bool
def zC (Δ : zD) (M : zMI) (p : Program) (l : Launch) (s : State) (m : MethodId) (meth : Method) (c : Code) : Prop :=
  p.tables.exec = Jvm.exec ∧ c.code = M.2.1 ∧ c.maxLocals = M.2.2.1 ∧ s.vm.findClass M.1 = some m.cls ∧ meth.locks = false ∧ l.stackTraces = false ∧ meth.sig.returnType = M.2.2.2.1 ∧ c.exceptionTable.toList = M.2.2.2.2.1 ∧ (M.2.2.2.2.2 = true → meth.name = "<init>") ∧ zK Δ s ∧ zE Δ s s.heap ∧ zsz Δ ≤ s.heap.size
/-- the cells of sh0 are still there, and lie where they lay -/
def zG (fx : Bool) (sh0 : zSh) (ρ0 ρ : Nat → Nat) (w : zW) : Prop := (∀ i, sh0 i ≠ none → w.1 i ≠ none ∧ ρ i = ρ0 i) ∧ (fx = true → ρ = ρ0)
def zQc (Δ : zD) (fx : Bool) (sh0 : zSh) (ρ0 : Nat → Nat) (QR : Option Value → zW → Prop) : Array Value → State → Outcome → State → Prop := fun _ st oc t =>
  ∃ (r : Option Value) (ρ' : Nat → Nat) (w' : zW), oc = .returned (r.map (zv ρ')) ∧ QR r w' ∧ zR Δ ρ' w' t.heap ∧ zG fx sh0 ρ0 ρ' w' ∧ va_F (zA Δ) st t
def zXc (Δ : zD) (fx : Bool) (sh0 : zSh) (ρ0 : Nat → Nat) (QX : String → zW → Prop) : String → State → State → Prop := fun E st t =>
  ∃ (ρ' : Nat → Nat) (w' : zW), QX E w' ∧ zR Δ ρ' w' t.heap ∧ zG fx sh0 ρ0 ρ' w' ∧ va_F (zA Δ) st t
def zls (ρ : Nat → Nat) (ls : List (Nat × Value)) : List (Nat × Value) := ls.map fun q => (q.1, zv ρ q.2)
/-- an answer of the method's type -/
def zrt (ty : Option FieldType) (r : Option Value) : Prop := ((ty = some .int ∨ ty = some .boolean) → ∃ x, r = some (.int x)) ∧ (ty = some .long → ∃ x, r = some (.long x))
def zQt (M : zMI) (QR : Option Value → zW → Prop) : Option Value → zW → Prop := fun r w => zrt M.2.2.2.1 r ∧ QR r w
def zJ (Δ : zD) (M : zMI) (R : Room) (fx : Bool) (sh0 : zSh) (QR : Option Value → zW → Prop) (QX : String → zW → Prop) (k n : Nat) (pc : Nat) (ls : List (Nat × Value)) (st : List Value) (w : zW) : Prop :=
  ∀ (p : Program) (l : Launch) (e : Env) (s : State) (m : MethodId) (args : Array Value) (below : List Frame) (meth : Method) (c : Code) (H : Heap) (locs : List Loc) (ρ0 ρ : Nat → Nat) (ls' : Array Slot),
    zC Δ M p l s m meth c → zG fx sh0 ρ0 ρ w → zR Δ ρ w H → va_S (zA Δ) s.heap H locs → lv_has ls' M.2.2.1 (zls ρ ls) →
    W p l e R s m args below meth c H locs k n (vx_MQ below (zQc Δ fx sh0 ρ0 (zQt M QR)) (zXc Δ fx sh0 ρ0 QX) args s R.cells R.slots (zA Δ)) (F0 m pc ls' (st.map (zv ρ)))
def zRm (h mc ms : Nat) : Room := { frames := h, cells := mc, slots := ms, locals := 38 * h }
/-- a method's contract: called with these values in this world it comes back so, or throws so -/
def zM (Δ : zD) (h mc ms : Nat) (fx : Bool) (y : MethodName) (M : zMI) (as : List Value) (w : zW) (QR : Option Value → zW → Prop) (QX : String → zW → Prop) : Prop :=
  ∀ (l : Launch) (ρ0 : Nat → Nat), l.stackTraces = false → vx_Met l y [Cond.code y M.2.1 M.2.2.1 M.2.2.2.1] (zRm h mc ms)
    (va_Pc (as.map (zv ρ0)) (fun U => zK Δ U ∧ zE Δ U U.heap ∧ zsz Δ ≤ U.heap.size ∧ zR Δ ρ0 w U.heap)) (zQc Δ fx w.1 ρ0 (zQt M QR)) (zXc Δ fx w.1 ρ0 QX) mc ms (zA Δ)
/-- what a program decides of a method -/
def zMf (y : MethodName) (M : zMI) (n : Nat) : Prop := Cond.code y M.2.1 M.2.2.1 M.2.2.2.1 ∈ lw_tbl ∧ (parseMethodDescriptor y.desc).map (fun d => d.parameters.length) = some n ∧ plainFor y = true ∧ M.1 = y.cls ∧ (M.2.2.2.2.2 = true → y.name = "<init>") ∧ M.2.2.2.2.1 = [] ∧ M.2.2.1 ≤ 19 ∧ (y.cls ≠ "java/lang/invoke/MethodHandle" ∧ y.cls ≠ "java/lang/invoke/VarHandle")
theorem zv_cat (ρ : Nat → Nat) (v : Value) : (zv ρ v).category = v.category := by cases v <;> rfl
theorem zls_args (ρ : Nat → Nat) : ∀ (as : List Value) (i : Nat), lv_args i (as.map (zv ρ)) = zls ρ (lv_args i as)
  | [], _ => rfl
  | v :: vs, i => by
    simp only [List.map_cons, lv_args, zls, zv_cat]
    congr 1
    exact zls_args ρ vs _
theorem zsl_len (ρ : Nat → Nat) (as : List Value) : (lg_sl (as.map (zv ρ))).length = (lg_sl as).length := by
  induction as with
  | nil => rfl
  | cons v vs ih => simp only [lg_sl, List.map_cons, List.flatMap_cons, List.length_append] at ih ⊢; rw [ih]; cases v <;> rfl
/-- a body gives a contract, also of a class that has natives, where this method has none -/
theorem zofW {l : Launch} {y : MethodName} {ws ws' : List Cond} {rm : Room} {Pc : Array Value → State → Prop} {Qc : Array Value → State → Outcome → State → Prop} {XC : String → State → State → Prop} {mc ms : Nat} {free : Addr → Prop} {cc : ByteArray} {maxL : Nat} {ret : Option FieldType}
    (hy : plainFor y = true) (hw : ws = Cond.code y cc maxL ret :: ws')
    (body : ∀ p e s m args below meth c s₁, BodyLoose p l y (headSpec ws rm) cc maxL ret e s m args below meth c s₁ → c.maxLocals = maxL → (∀ x ∈ c.exceptionTable.toList, False) → Pc args s →
      W p l e (headSpec ws rm).room s m args below meth c s.heap [] 0 0 (vx_MQ below Qc XC args s mc ms free) (entryFrame m args maxL)) : vx_Met l y ws rm Pc Qc XC mc ms free := by
  have hc : Cond.code y cc maxL ret ∈ ws := by rw [hw]; exact List.mem_cons_self
  refine MetFree.of_bodySF (code := cc) (maxLocals := maxL) (ret := ret) hy (fun args s m h hn => ?_) (fun p e s m args below meth c s₁ B hml hP _ => ?_)
  · obtain ⟨meth, c, h1, h2, h3, h4, h5, h6, -⟩ := Cond.code_spec hn (atoms_spec (ws := ws) h _ hc)
    exact ⟨meth, c, h1, h2, h3, h4, h5, h6⟩
  · have ht : ∀ x ∈ c.exceptionTable.toList, False := by
      obtain ⟨meth9, c9, h1, h2, -, -, -, -, h7, -⟩ := Cond.code_spec B.named (atoms_spec (ws := ws) B.pre _ hc)
      cases Option.some.inj (h1.symm.trans B.method)
      cases Option.some.inj (h2.symm.trans (Stand.of_body B).code)
      intro x hx
      rw [Array.isEmpty_iff.mp h7] at hx
      cases hx
    obtain ⟨t, a1, o, b1, b2, b3⟩ := body p e s m args below meth c s₁ B hml ht hP s₁ (by rw [B.state]; rfl) (Stand.of_body B)
    exact ⟨t, o, a1, b1, b2, b3⟩
/-- a contract out of its body -/
theorem zM.of {Δ : zD} {h mc ms n : Nat} {fx : Bool} {y : MethodName} {M : zMI} {as : List Value} {w : zW} {QR : Option Value → zW → Prop} {QX : String → zW → Prop} (hf : zMf y M n) (hlen : (lg_sl as).length ≤ M.2.2.1)
    (body : zJ Δ M (zRm h mc ms) fx w.1 QR QX 0 0 0 (lv_args 0 as) [] w) : zM Δ h mc ms fx y M as w QR QX := by
  intro l ρ0 hl
  obtain ⟨-, -, hy, hM, hini, htb, -⟩ := hf
  refine zofW (cc := M.2.1) (maxL := M.2.2.1) (ret := M.2.2.2.1) (ws' := []) hy rfl ?_
  intro p e s m args below meth c s₁ B hml ht hv
  obtain ⟨rfl, hK, hE, hsz, hR⟩ := hv
  have hl0 := lv_entry (as.map (zv ρ0)) (n := M.2.2.1) (by rw [zsl_len]; exact hlen)
  rw [lg_entry_eq]
  generalize (lg_sl (as.map (zv ρ0)) ++ List.replicate (M.2.2.1 - (lg_sl (as.map (zv ρ0))).length) Slot.unset).toArray = ls at hl0 ⊢
  rw [zls_args] at hl0
  have htab : c.exceptionTable.toList = M.2.2.2.2.1 := by
    rw [htb]
    cases hc : c.exceptionTable.toList with
    | nil => rfl
    | cons x xs => exact (ht x (by rw [hc]; exact List.mem_cons_self)).elim
  have hown : s.vm.findClass M.1 = some m.cls := by rw [hM]; exact findClass_of_methodNamed B.named
  exact body p l e s m _ below meth c s.heap [] ρ0 ρ0 ls ⟨B.exec, B.bytes, hml, hown, B.notSynchronized, hl, B.returns, htab, fun h => by rw [(name_of_methodNamed B.named B.method).1]; exact hini h, hK, hE, hsz⟩ ⟨fun i hi => ⟨hi, rfl⟩, fun _ => rfl⟩ hR va_S.rf hl0
theorem zM.mono {Δ : zD} {h mc ms : Nat} {fx : Bool} {y : MethodName} {M : zMI} {as : List Value} {w : zW} {QR QR' : Option Value → zW → Prop} {QX QX' : String → zW → Prop} (hM : zM Δ h mc ms fx y M as w QR QX) (h1 : ∀ r w', QR r w' → QR' r w') (h2 : ∀ E w', QX E w' → QX' E w') : zM Δ h mc ms fx y M as w QR' QX' := by
  intro l ρ0 hl p e ha hc hk s m args below hf happ hP hK
  obtain ⟨n, o, a1, a2, a3, a4⟩ := hM l ρ0 hl p e ha hc hk s m args below hf happ hP hK
  refine ⟨n, o, a1, a2, a3, ?_⟩
  rcases a4 with ⟨⟨r, ρ', w', b1, b2, b3⟩, b4⟩ | ⟨q, b1, E, ce, L, ⟨ρ', w', c1, c2⟩, b3⟩
  · exact Or.inl ⟨⟨r, ρ', w', b1, ⟨b2.1, h1 r w' b2.2⟩, b3⟩, b4⟩
  · exact Or.inr ⟨q, b1, E, ce, L, ⟨ρ', w', h2 E w' c1, c2⟩, b3⟩
/-- what comes back is of the method's type -/
theorem zM.typed {Δ : zD} {h mc ms : Nat} {fx : Bool} {y : MethodName} {M : zMI} {as : List Value} {w : zW} {QR : Option Value → zW → Prop} {QX : String → zW → Prop} (hM : zM Δ h mc ms fx y M as w QR QX) : zM Δ h mc ms fx y M as w (zQt M QR) QX := by
  intro l ρ0 hl p e ha hc hk s m args below hf happ hP hK
  obtain ⟨n, o, a1, a2, a3, a4⟩ := hM l ρ0 hl p e ha hc hk s m args below hf happ hP hK
  refine ⟨n, o, a1, a2, a3, ?_⟩
  rcases a4 with ⟨⟨r, ρ', w', b1, b2, b3⟩, b4⟩ | h
  · exact Or.inl ⟨⟨r, ρ', w', b1, ⟨b2.1, b2⟩, b3⟩, b4⟩
  · exact Or.inr h
theorem zrt_i {M : zMI} {x : Int32} (h : M.2.2.2.1 = some .int) : zrt M.2.2.2.1 (some (.int x)) := ⟨fun _ => ⟨x, rfl⟩, fun h2 => by rw [h] at h2; cases h2⟩
theorem zrt_z {M : zMI} {x : Int32} (h : M.2.2.2.1 = some .boolean) : zrt M.2.2.2.1 (some (.int x)) := ⟨fun _ => ⟨x, rfl⟩, fun h2 => by rw [h] at h2; cases h2⟩
theorem zrt_l {M : zMI} {x : Int64} (h : M.2.2.2.1 = some .long) : zrt M.2.2.2.1 (some (.long x)) := ⟨fun h2 => (by rw [h] at h2; rcases h2 with h2 | h2 <;> cases h2), fun _ => ⟨x, rfl⟩⟩
theorem zrt_v {M : zMI} (h : M.2.2.2.1 = none) : zrt M.2.2.2.1 none := ⟨fun h2 => (by rw [h] at h2; rcases h2 with h2 | h2 <;> cases h2), fun h2 => by rw [h] at h2; cases h2⟩
theorem zrt_a {M : zMI} {C0 : String} {r : Option Value} (h : M.2.2.2.1 = some (.object C0)) : zrt M.2.2.2.1 r := ⟨fun h2 => (by rw [h] at h2; rcases h2 with h2 | h2 <;> cases h2), fun h2 => by rw [h] at h2; cases h2⟩
/-- comes back with r, the world then w' -/
def zMd (Δ : zD) (h mc ms : Nat) (fx : Bool) (y : MethodName) (M : zMI) (as : List Value) (w : zW) (r : Option Value) (w' : zW) : Prop := zM Δ h mc ms fx y M as w (fun a b => a = r ∧ b = w') (fun _ _ => False)
def zpush (r : Option Value) (st : List Value) : List Value := match r with
  | none => st
  | some v => v :: st
