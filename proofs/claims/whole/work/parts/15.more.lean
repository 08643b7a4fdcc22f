/-! making, copying, throwing -/
def znr (i : Nat) (v : Value) : Bool := match v with
  | .ref j => decide (j ≠ i)
  | _ => true
def znew (w : zW) (i : Nat) (x : Nat ⊕ (Bool × Nat)) : zW := (fun a => if a = i then some x else w.1 a, fun a b => if a = i then 0 else w.2.1 a b, fun a b => if a = i then 0 else w.2.2.1 a b, fun a b => if a = i then none else w.2.2.2 a b)
def zrn (ρ : Nat → Nat) (i q : Nat) : Nat → Nat := fun a => if a = i then q else ρ a
theorem znr_eq {ρ : Nat → Nat} {i q : Nat} {v : Value} (h : znr i v = true) : zv ρ v = zv (zrn ρ i q) v := by
  cases v with
  | ref j =>
    simp only [znr, decide_eq_true_eq] at h
    show Value.ref (ρ j) = Value.ref (zrn ρ i q j)
    simp only [zrn, if_neg h]
  | _ => rfl
theorem zty_ok {ci : Nat} {q : vw_C} (h : vwCl[ci]? = some q) : ∀ k, k < q.2.2 → zty ci k ≠ .float ∧ zty ci k ≠ .double := by
  match ci, h with
  | 0, h => cases h; decide +kernel
  | 1, h => cases h; decide +kernel
  | 2, h => cases h; decide +kernel
  | 3, h => cases h; decide +kernel
  | 4, h => cases h; decide +kernel
  | 5, h => cases h; decide +kernel
  | 6, h => cases h; decide +kernel
  | 7, h => cases h; decide +kernel
  | 8, h => cases h; decide +kernel
  | 9, h => cases h; decide +kernel
  | n + 10, h => simp at h
/-- a cell more, at the heap's end -/
theorem zR.new {Δ : zD} {ρ : Nat → Nat} {w : zW} {H H' : Heap} {i : Nat} {x : Nat ⊕ (Bool × Nat)} (h : zR Δ ρ w H) (hz : zsz Δ ≤ H.size) (hi : w.1 i = none) (hi2 : i < 1000) (hH : ∀ q, q < H.size → H'[q]? = H[q]?)
    (ho : ∀ ci, x = .inl ci → ∃ r, vwCl[ci]? = some r ∧ t_OB H.size (Δ.1 ci) r.2.2 (zdI Δ ci) H' (fun k => defaultValue (zty ci k)))
    (hai : ∀ n, x = .inr (false, n) → H'[H.size]? = some (arrV (zcI Δ) n fun _ => .int 0))
    (hal : ∀ n, x = .inr (true, n) → H'[H.size]? = some (arrV (zcL Δ) n fun _ => .long 0)) : zR Δ (zrn ρ i H.size) (znew w i x) H' := by
  obtain ⟨h1, h2, h3, h4, h5, h6, h7, h8⟩ := h
  have hlt : ∀ j, w.1 j ≠ none → ρ j < H.size := by
    intro j hj
    cases hs : w.1 j with
    | none => exact (hj hs).elim
    | some y =>
      cases y with
      | inl ci =>
        obtain ⟨r, -, cell, q1, -⟩ := h1 j ci hs
        exact (Array.getElem?_eq_some_iff.mp q1).1
      | inr y =>
        obtain ⟨b, n⟩ := y
        cases b with
        | false => exact (Array.getElem?_eq_some_iff.mp (h2 j n hs)).1
        | true => exact (Array.getElem?_eq_some_iff.mp (h3 j n hs)).1
  have hne : ∀ j, w.1 j ≠ none → j ≠ i := fun j hj e => hj (by rw [e]; exact hi)
  have hzi : zrn ρ i H.size i = H.size := by simp [zrn]
  have hzj : ∀ j, j ≠ i → zrn ρ i H.size j = ρ j := fun j hj => by simp [zrn, hj]
  have hsi : (znew w i x).1 i = some x := by simp [znew]
  have hsj : ∀ j, j ≠ i → (znew w i x).1 j = w.1 j := fun j hj => by simp [znew, hj]
  have hold : ∀ j, (znew w i x).1 j ≠ none → j = i ∨ w.1 j ≠ none := fun j hj => by
    by_cases e : j = i
    · exact Or.inl e
    · rw [hsj j e] at hj; exact Or.inr hj
  refine ⟨fun j ci hj => ?_, fun j n hj => ?_, fun j n hj => ?_, fun a b ha hb e => ?_, fun j hj => ?_, fun j ci k b hj hb => ?_, fun j => ?_, fun j => ?_⟩
  · by_cases e : j = i
    · subst e
      rw [hsi] at hj
      obtain ⟨r, r1, r2⟩ := ho ci (Option.some.inj hj)
      refine ⟨r, r1, ?_⟩
      rw [hzi]
      refine r2.to (fun k hk9 => ?_)
      simp only [zslot, znew, if_pos]
      have h9 := zty_ok r1 k hk9
      cases hty : zty ci k <;> first | rfl | exact absurd hty h9.1 | exact absurd hty h9.2
    · rw [hsj j e] at hj
      obtain ⟨r, r1, cell, q1, q2, q3, q4⟩ := h1 j ci hj
      refine ⟨r, r1, cell, by rw [hzj j e, hH _ (Array.getElem?_eq_some_iff.mp q1).1]; exact q1, q2, q3, fun k hk => ?_⟩
      rw [q4 k hk]
      simp only [zslot, znew, if_neg e]
      cases hb : w.2.2.2 j k with
      | none => rfl
      | some b => simp only [Option.map_some, hzj b (hne b (h6 j ci k b hj hb))]
  · by_cases e : j = i
    · subst e
      rw [hsi] at hj
      rw [hzi, hai n (Option.some.inj hj)]
      simp [znew]
    · rw [hsj j e] at hj
      have q1 := h2 j n hj
      rw [hzj j e, hH _ (Array.getElem?_eq_some_iff.mp q1).1, q1]
      simp [znew, e]
  · by_cases e : j = i
    · subst e
      rw [hsi] at hj
      rw [hzi, hal n (Option.some.inj hj)]
      simp [znew]
    · rw [hsj j e] at hj
      have q1 := h3 j n hj
      rw [hzj j e, hH _ (Array.getElem?_eq_some_iff.mp q1).1, q1]
      simp [znew, e]
  · rcases hold a ha with ha | ha <;> rcases hold b hb with hb | hb
    · rw [ha, hb]
    · rw [ha, hzi, hzj b (hne b hb)] at e
      exact absurd e.symm (Nat.ne_of_lt (hlt b hb))
    · rw [hb, hzi, hzj a (hne a ha)] at e
      exact absurd e (Nat.ne_of_lt (hlt a ha))
    · rw [hzj a (hne a ha), hzj b (hne b hb)] at e
      exact h4 a b ha hb e
  · rcases hold j hj with e | e
    · rw [e, hzi]; exact hz
    · rw [hzj j (hne j e)]; exact h5 j e
  · by_cases e : j = i
    · subst e
      simp [znew] at hb
    · rw [hsj j e] at hj
      have hb' : w.2.2.2 j k = some b := by simpa [znew, e] using hb
      have hb2 := h6 j ci k b hj hb'
      rw [hsj b (hne b hb2)]; exact hb2
  · rw [hzj (1000 + j) (by omega)]; exact h7 j
  · rw [hsj (1000 + j) (by omega)]; exact h8 j
theorem zG.new {fx : Bool} {sh0 : zSh} {ρ0 ρ : Nat → Nat} {w : zW} {i q : Nat} {x : Nat ⊕ (Bool × Nat)} (h : zG fx sh0 ρ0 ρ w) (hfx : fx = false) (hi : w.1 i = none) : zG fx sh0 ρ0 (zrn ρ i q) (znew w i x) := by
  refine ⟨fun j hj => ?_, fun e => by rw [hfx] at e; cases e⟩
  obtain ⟨h1, h2⟩ := h.1 j hj
  have e : j ≠ i := fun e => h1 (by rw [e]; exact hi)
  exact ⟨by simp [znew, e, h1], by simp [zrn, e, h2]⟩
section ZN
variable {Δ : zD} {M : zMI} {R : Room} {fx : Bool} {sh0 : zSh} {QR : Option Value → zW → Prop} {QX : String → zW → Prop} {k n pc : Nat} {ls : List (Nat × Value)} {st : List Value} {w : zW}
theorem zJ_new {idx ci : Nat} (i : Nat) {q : vw_C} (hd : decode M.2.1 pc = .ok (.new idx, 3)) (hq : vwCl[ci]? = some q) (hcl : Cond.classLink M.1 idx q.1 ∈ lw_tbl) (hinst : Cond.instantiable q.1 q.2.2 ∈ lw_tbl) (hini : Cond.initialized q.1 ∈ lw_tbl) (hfx : fx = false) (hi : w.1 i = none) (hi2 : i < 1000) (hls : ls.all (fun q => znr i q.2) = true) (hst : st.all (znr i) = true) (hc : k + 1 ≤ R.cells) (hs : n + q.2.2 ≤ R.slots)
    (kk : zJ Δ M R fx sh0 QR QX (k + 1) (n + q.2.2) (pc + 3) ls (.ref i :: st) (znew w i (.inl ci))) : zJ Δ M R fx sh0 QR QX k n pc ls st w := by
  intro p l e s m args below meth c H locs ρ0 ρ ls' C G r S L
  have hK := C.2.2.2.2.2.2.2.2.2.1
  have hKn := hK.1.1 ci _ hq
  refine W.newcK C.1 C.2.1 C.2.2.2.1 (zw hK hcl rfl) (zw hK hinst rfl) (zw hK hini rfl) rfl hd hc hs hKn.2.1 rfl fun H1 kC hkC e1 z1 o1 => ?_
  have hz : zsz Δ ≤ H.size := Nat.le_trans C.2.2.2.2.2.2.2.2.2.2.2 S.1
  have r' := r.new (H' := H1) (x := .inl ci) hz hi hi2 o1 (fun ci' h => by cases h; exact ⟨q, hq, u_born (zty ci) (args := args) (ws := u_ws q.1 q.2.1 q.2.2) (fun c hc' => zw hK (zin hq c hc').1 (zin hq c hc').2) (fun _ h => h) hKn hkC e1 (zok hq).1⟩) (fun m' h => by cases h) (fun m' h => by cases h)
  have K := kk p l e s m args below meth c H1 locs ρ0 (zrn ρ i H.size) ls' C (G.new hfx hi) r' ⟨Nat.le_trans S.1 (by omega), fun a h1 h2 => (o1 a (Nat.lt_of_lt_of_le h1 S.1)).trans (S.2.1 a h1 h2), S.2.2⟩ (by
    have e2 : zls ρ ls = zls (zrn ρ i H.size) ls := List.map_congr_left fun q hq => by rw [znr_eq (q := H.size) (List.all_eq_true.mp hls q hq)]
    rw [← e2]; exact L)
  have e3 : st.map (zv ρ) = st.map (zv (zrn ρ i H.size)) := List.map_congr_left fun v hv => znr_eq (List.all_eq_true.mp hst v hv)
  have e4 : zv (zrn ρ i H.size) (.ref i) = .ref H.size := by simp [zv, zrn]
  rw [List.map_cons, e4, ← e3] at K
  exact K
theorem zJ_newi {x : Int32} {len : Nat} (i : Nat) (hd : decode M.2.1 pc = .ok (.newarray .int, 2)) (hx : ¬ x < 0) (hx2 : x.toNatClampNeg = len) (hb : len * componentBytes (newarray.typeOf .int) ≤ 536870912) (hfx : fx = false) (hi : w.1 i = none) (hi2 : i < 1000) (hls : ls.all (fun q => znr i q.2) = true) (hst : st.all (znr i) = true) (hc : k + 1 ≤ R.cells) (hs : n + len ≤ R.slots)
    (kk : zJ Δ M R fx sh0 QR QX (k + 1) (n + len) (pc + 2) ls (.ref i :: st) (znew w i (.inr (false, len)))) : zJ Δ M R fx sh0 QR QX k n pc ls (.int x :: st) w := by
  intro p l e s m args below meth c H locs ρ0 ρ ls' C G r S L
  have hK := C.2.2.2.2.2.2.2.2.2.1
  have harr : (Cond.arrayClass (newarray.typeOf .int)).before args s = true := word_at (args := #[]) (State.WarmedH.refl s) (Or.inr ⟨_, rfl⟩) hK.2.2.1.1
  have hRA : s.vm.findClass ("[" ++ (newarray.typeOf .int).toString) = some (zcI Δ) := (hK.1.2 0 _ rfl).2
  refine va_newaK (atype := .int) C.1 C.2.1 harr rfl hd rfl hx hx2 hb hc hs rfl fun H1 cA e1 z1 o1 hAr hNm => ?_
  have hcA : cA = zcI Δ := Option.some.inj (hNm.symm.trans hRA)
  subst hcA
  have hz : zsz Δ ≤ H.size := Nat.le_trans C.2.2.2.2.2.2.2.2.2.2.2 S.1
  have r' := r.new (H' := H1) (x := .inr (false, len)) hz hi hi2 o1 (fun ci' h => by cases h) (fun m' h => by cases h; exact e1) (fun m' h => by cases h)
  have K := kk p l e s m args below meth c H1 locs ρ0 (zrn ρ i H.size) ls' C (G.new hfx hi) r' ⟨Nat.le_trans S.1 (by omega), fun a h1 h2 => (o1 a (Nat.lt_of_lt_of_le h1 S.1)).trans (S.2.1 a h1 h2), S.2.2⟩ (by
    have e2 : zls ρ ls = zls (zrn ρ i H.size) ls := List.map_congr_left fun q hq => by rw [znr_eq (q := H.size) (List.all_eq_true.mp hls q hq)]
    rw [← e2]; exact L)
  have e3 : st.map (zv ρ) = st.map (zv (zrn ρ i H.size)) := List.map_congr_left fun v hv => znr_eq (List.all_eq_true.mp hst v hv)
  have e4 : zv (zrn ρ i H.size) (.ref i) = .ref H.size := by simp [zv, zrn]
  rw [List.map_cons, e4, ← e3] at K
  exact K
theorem zJ_newl {x : Int32} {len : Nat} (i : Nat) (hd : decode M.2.1 pc = .ok (.newarray .long, 2)) (hx : ¬ x < 0) (hx2 : x.toNatClampNeg = len) (hb : len * componentBytes (newarray.typeOf .long) ≤ 536870912) (hfx : fx = false) (hi : w.1 i = none) (hi2 : i < 1000) (hls : ls.all (fun q => znr i q.2) = true) (hst : st.all (znr i) = true) (hc : k + 1 ≤ R.cells) (hs : n + len ≤ R.slots)
    (kk : zJ Δ M R fx sh0 QR QX (k + 1) (n + len) (pc + 2) ls (.ref i :: st) (znew w i (.inr (true, len)))) : zJ Δ M R fx sh0 QR QX k n pc ls (.int x :: st) w := by
  intro p l e s m args below meth c H locs ρ0 ρ ls' C G r S L
  have hK := C.2.2.2.2.2.2.2.2.2.1
  have harr : (Cond.arrayClass (newarray.typeOf .long)).before args s = true := word_at (args := #[]) (State.WarmedH.refl s) (Or.inr ⟨_, rfl⟩) hK.2.2.1.2.1
  have hRA : s.vm.findClass ("[" ++ (newarray.typeOf .long).toString) = some (zcL Δ) := (hK.1.2 1 _ rfl).2
  refine va_newaK (atype := .long) C.1 C.2.1 harr rfl hd rfl hx hx2 hb hc hs rfl fun H1 cA e1 z1 o1 hAr hNm => ?_
  have hcA : cA = zcL Δ := Option.some.inj (hNm.symm.trans hRA)
  subst hcA
  have hz : zsz Δ ≤ H.size := Nat.le_trans C.2.2.2.2.2.2.2.2.2.2.2 S.1
  have r' := r.new (H' := H1) (x := .inr (true, len)) hz hi hi2 o1 (fun ci' h => by cases h) (fun m' h => by cases h) (fun m' h => by cases h; exact e1)
  have K := kk p l e s m args below meth c H1 locs ρ0 (zrn ρ i H.size) ls' C (G.new hfx hi) r' ⟨Nat.le_trans S.1 (by omega), fun a h1 h2 => (o1 a (Nat.lt_of_lt_of_le h1 S.1)).trans (S.2.1 a h1 h2), S.2.2⟩ (by
    have e2 : zls ρ ls = zls (zrn ρ i H.size) ls := List.map_congr_left fun q hq => by rw [znr_eq (q := H.size) (List.all_eq_true.mp hls q hq)]
    rw [← e2]; exact L)
  have e3 : st.map (zv ρ) = st.map (zv (zrn ρ i H.size)) := List.map_congr_left fun v hv => znr_eq (List.all_eq_true.mp hst v hv)
  have e4 : zv (zrn ρ i H.size) (.ref i) = .ref H.size := by simp [zv, zrn]
  rw [List.map_cons, e4, ← e3] at K
  exact K
set_option maxRecDepth 100000 in
theorem zobj1 : Cond.instanceMethod objectInit ∈ lw_tbl := List.mem_of_getElem? (i := 171) rfl
set_option maxRecDepth 100000 in
theorem zobj2 : Cond.code objectInit ⟨#[0xb1]⟩ 1 none ∈ lw_tbl := List.mem_of_getElem? (i := 172) rfl
theorem zJ_obj {idx i : Nat} (hd : decode M.2.1 pc = .ok (.invokespecial idx, 3)) (hl : Cond.methodLink M.1 idx objectInit ∈ lw_tbl) (hf : 1 ≤ R.frames) (hlo : (st.map fun v => v.category).sum + 12 ≤ R.locals) (kk : zJ Δ M R fx sh0 QR QX k n (pc + 3) ls st w) : zJ Δ M R fx sh0 QR QX k n pc ls (.ref i :: st) w := by
  intro p l e s m args below meth c H locs ρ0 ρ ls' C G r S L
  have hK := C.2.2.2.2.2.2.2.2.2.1
  exact W.objInit C.1 C.2.1 C.2.2.2.1 (zw hK hl rfl) (zw hK zobj1 rfl) (zw hK zobj2 rfl) rfl (by rw [C.2.2.1]; exact L.1) rfl hd hf (by show 2 * 0 + ((st.map (zv ρ)).map fun v => v.category).sum + 12 ≤ R.locals; rw [zcats]; omega) (kk p l e s m args below meth c H locs ρ0 ρ ls' C G r S L)
/-- System.arraycopy of ints, between two rows -/
def zcp (w : zW) (i0 i1 sp dp n : Nat) : zW := (w.1, fun a b => if a = i1 ∧ dp ≤ b ∧ b < dp + n then w.2.1 i0 (sp + (b - dp)) else w.2.1 a b, w.2.2)
set_option maxRecDepth 100000 in
theorem zcopy1 : Cond.native arraycopyName ∈ lw_tbl := List.mem_of_getElem? (i := 647) rfl
set_option maxRecDepth 100000 in
theorem zcopy2 : Cond.static arraycopyName ∈ lw_tbl := List.mem_of_getElem? (i := 646) rfl
set_option maxRecDepth 100000 in
theorem zcopy3 : Cond.initialized "java/lang/System" ∈ lw_tbl := List.mem_of_getElem? (i := 162) rfl
theorem zJ_copy {i0 i1 n0 n1 idx sp dp nn : Nat} (hd : decode M.2.1 pc = .ok (.invokestatic idx, 3)) (hl : Cond.methodLink M.1 idx arraycopyName ∈ lw_tbl) (hs0 : w.1 i0 = some (.inr (false, n0))) (hs1 : w.1 i1 = some (.inr (false, n1))) (h4 : sp + nn ≤ n0) (h5 : dp + nn ≤ n1) (hb0 : n0 < 2 ^ 30) (hb1 : n1 < 2 ^ 30)
    (hf : 1 ≤ R.frames) (hlo : (st.map fun v => v.category).sum + 18 ≤ R.locals) (kk : zJ Δ M R fx sh0 QR QX k n (pc + 3) ls st (zcp w i0 i1 sp dp nn)) : zJ Δ M R fx sh0 QR QX k n pc ls (.int (nI nn) :: .int (nI dp) :: .ref i1 :: .int (nI sp) :: .ref i0 :: st) w := by
  intro p l e s m args below meth c H locs ρ0 ρ ls' C G r S L
  have hK := C.2.2.2.2.2.2.2.2.2.1
  have hi1 : w.1 i1 ≠ none := by rw [hs1]; exact fun h => by cases h
  have tI : ∀ z : Nat, z < 2 ^ 31 → (nI z).toInt = (z : Int) := fun z h => nI_toInt h
  intro T hT X
  have hc0 := r.2.1 i0 n0 hs0
  have hc1 := r.2.1 i1 n1 hs1
  obtain ⟨-, k0, hk0, cm0, hkk0⟩ := (hK.1.2 0 _ rfl).1 n0 (fun j => .int (w.2.1 i0 j))
  obtain ⟨-, k1, hk1, cm1, hkk1⟩ := (hK.1.2 0 _ rfl).1 n1 (fun j => .int (w.2.1 i1 j))
  have esp : (nI sp).toNatClampNeg = sp := nI_clamp (by omega)
  have edp : (nI dp).toNatClampNeg = dp := nI_clamp (by omega)
  have enn : (nI nn).toNatClampNeg = nn := nI_clamp (by omega)
  obtain ⟨vm', X', step⟩ := X.arraycopy C.1 C.2.2.2.1 (zw hK hl rfl) (zw hK zcopy1 rfl) (zw hK zcopy2 rfl) (zw hK zcopy3 rfl) (src := ρ i0) (dst := ρ i1) (cs := arrV (zcI Δ) n0 (fun j => .int (w.2.1 i0 j))) (cd := arrV (zcI Δ) n1 (fun j => .int (w.2.1 i1 j))) (srcPos := nI sp) (destPos := nI dp) (n := nI nn) (by rw [hT]; exact hc0) (by rw [hT]; exact hc1)
    (fun _ h => by cases h) (fun _ h => by cases h) (fun h => by cases h) (fun h => by cases h) hk0 hk1 hkk0 hkk1 (by simp [refKind]) (nI_pos (by omega)) (nI_pos (by omega)) (nI_pos (by omega))
    (by rw [tI sp (by omega), tI nn (by omega), arrV_size]; omega)
    (by rw [tI dp (by omega), tI nn (by omega), arrV_size]; omega)
    (fun vm₁ _ j hj => by
      rw [enn] at hj
      rw [esp]
      have e : (arrV (zcI Δ) n0 (fun j => Value.int (w.2.1 i0 j))).slots.getD (sp + j) .null = .int (w.2.1 i0 (sp + j)) := by
        rw [Array.getD_eq_getD_getElem?, arrV_read _ _ (by omega)]
        rfl
      refine ⟨?_, ?_⟩
      · rw [e]; rfl
      · rw [e]; exact trivial)
    (g := F0 m pc ls' (.int (nI nn) :: .int (nI dp) :: .ref (ρ i1) :: .int (nI sp) :: .ref (ρ i0) :: st.map (zv ρ))) rfl (by rw [C.2.2.1]; exact L.1) (rest := st.map (zv ρ)) rfl (by rw [C.2.1]; exact hd) hf (by
      show 2 * 0 + ((st.map (zv ρ)).map fun v => v.category).sum + _ ≤ R.locals
      rw [zcats]
      have : nativeFrameWords "java/lang/System" "arraycopy" 5 + 11 = 18 := by decide
      omega)
  have e1 : copied (arrV (zcI Δ) n0 (fun j => .int (w.2.1 i0 j))) (arrV (zcI Δ) n1 (fun j => .int (w.2.1 i1 j))) (nI sp) (nI dp) (nI nn) = arrV (zcI Δ) n1 (fun j => .int (va_cpy (w.2.1 i0) (w.2.1 i1) sp dp nn j)) := by
    have h := va_copied (fun z => Value.int z) (zcI Δ) (zcI Δ) (n0 := n0) (n1 := n1) (sp := sp) (dp := dp) (n := nn) (w.2.1 i0) (w.2.1 i1) h4
    rw [← h, copied, esp, edp, enn]
  rw [e1] at X' step
  have hl1 : ρ i1 < H.size := (Array.getElem?_eq_some_iff.mp hc1).1
  have hheap : ((T.setVm vm').setCell (ρ i1) (arrV (zcI Δ) n1 (fun j => .int (va_cpy (w.2.1 i0) (w.2.1 i1) sp dp nn j)))).heap = H.setIfInBounds (ρ i1) (arrV (zcI Δ) n1 (fun j => .int (va_cpy (w.2.1 i0) (w.2.1 i1) sp dp nn j))) := by rw [← hT]; rfl
  have oq : ∀ q : Nat, q ≠ ρ i1 → (H.setIfInBounds (ρ i1) (arrV (zcI Δ) n1 (fun j => Value.int (va_cpy (w.2.1 i0) (w.2.1 i1) sp dp nn j))))[q]? = H[q]? := fun q hq => by simp [Array.getElem?_setIfInBounds, Ne.symm hq]
  obtain ⟨t, a1, b1⟩ := kk p l e s m args below meth c _ _ ρ0 ρ ls' C (G.w rfl) (r.upd (w' := zcp w i0 i1 sp dp nn) hi1 rfl (fun j hj => ⟨by funext b; simp [zcp, hj], rfl, rfl⟩) oq (fun ci h => by rw [hs1] at h; cases h) (fun m' h => by
      rw [hs1] at h; cases h
      rw [Array.getElem?_setIfInBounds_self_of_lt hl1]
      congr 2
      funext j
      simp [zcp, va_cpy]) (fun m' h => by rw [hs1] at h; cases h) (fun ci a j h1 h2 => r.2.2.2.2.2.1 i1 ci a j h1 h2)) ⟨by simp; exact S.1, fun q g1 g2 => by
      rw [oq q (fun e => g2 (by rw [e]; exact r.2.2.2.2.1 i1 hi1))]
      exact S.2.1 q g1 g2, fun q hq => by
      rcases List.mem_append.mp hq with h | h
      · exact S.2.2 q h
      · obtain ⟨z, -, hz⟩ := List.mem_map.mp h
        rw [← hz]
        exact r.2.2.2.2.1 i1 hi1⟩ L _ hheap X'
  exact ⟨t, step t a1, b1⟩
end ZN

set_option maxRecDepth 100000 in
theorem zthI : ∀ c ∈ Cond.classLink RX8 93 "java/lang/IllegalArgumentException" :: Cond.initialized "java/lang/IllegalArgumentException" :: vx_atS RX8 97 "java/lang/IllegalArgumentException" ["java/lang/RuntimeException", "java/lang/Exception"], c ∈ lw_tbl ∧ zWm c = true := by decide +kernel
theorem zJ_throwI {Δ : zD} {M : zMI} {R : Room} {fx : Bool} {sh0 : zSh} {QR : Option Value → zW → Prop} {QX : String → zW → Prop} {k n pc is j : Nat} {ls : List (Nat × Value)} {st : List Value} {w : zW} {text : String} (d0 : decode M.2.1 pc = .ok (.new 93, 3)) (d3 : decode M.2.1 (pc + 3) = .ok (.dup, 1)) (d4 : decode M.2.1 (pc + 4) = .ok (.ldc is, 2)) (d6 : decode M.2.1 (pc + 6) = .ok (.invokespecial 97, 3)) (d9 : decode M.2.1 (pc + 9) = .ok (.athrow, 1)) (hM : M.1 = RX8) (htb : M.2.2.2.2.1 = []) (hstr : (RX8, is, text, j) ∈ zStr)
    (hRf : 5 < R.frames) (hRl : (st.map fun v => v.category).sum + 82 ≤ R.locals) (hk : k + 1 ≤ R.cells) (hn : n + 6 ≤ R.slots) (hq : QX "java/lang/IllegalArgumentException" w) : zJ Δ M R fx sh0 QR QX k n pc ls st w := by
  intro p l e s m args below meth c H locs ρ0 ρ ls' C G r S L
  have hK := C.2.2.2.2.2.2.2.2.2.1
  have hE := C.2.2.2.2.2.2.2.2.2.2.1
  have hth : ∀ c ∈ Cond.classLink RX8 93 "java/lang/IllegalArgumentException" :: Cond.initialized "java/lang/IllegalArgumentException" :: vx_atS RX8 97 "java/lang/IllegalArgumentException" ["java/lang/RuntimeException", "java/lang/Exception"], c.before args s = true := fun c hc => zw hK (zthI c hc).1 (zthI c hc).2
  refine vx_throwS C.1 C.2.1 C.2.2.2.2.2.1 (own := RX8) (text := text) (names := ["java/lang/RuntimeException", "java/lang/Exception"]) (A := zA Δ) (by rw [← hM]; exact C.2.2.2.1) (by decide) (by decide) (hth _ List.mem_cons_self) (hth _ (List.mem_cons_of_mem _ List.mem_cons_self)) (hK.2.2.2 _ hstr) (fun c hc => hth c (List.mem_cons_of_mem _ (List.mem_cons_of_mem _ hc))) (fun c hc => ?_) hE.1 hE.2.1 S (by rw [C.2.2.1]; exact L.1) d0 d3 d4 d6 d9 (fun x hx => by rw [C.2.2.2.2.2.2.2.1, htb] at hx; cases hx) hRf (by rw [zcats]; exact hRl) hk hn C.2.2.2.2.1 (fun t hA h1 h2 => ⟨ρ, w, hq, r.kept h2, G, Nat.le_trans S.1 h1, fun q g1 g2 => (h2 q (Nat.lt_of_lt_of_le g1 S.1)).trans (S.2.1 q g1 g2)⟩) S.2.2 hk hn
  have h := (zthI c hc).2
  simp only [zWm, Bool.and_eq_true] at h
  simp only [vx_ot, h.1, Bool.true_or]
theorem zJ_throwIW {Δ : zD} {M : zMI} {R : Room} {fx : Bool} {sh0 : zSh} {QR : Option Value → zW → Prop} {QX : String → zW → Prop} {k n pc is j : Nat} {ls : List (Nat × Value)} {st : List Value} {w : zW} {text : String} (d0 : decode M.2.1 pc = .ok (.new 93, 3)) (d3 : decode M.2.1 (pc + 3) = .ok (.dup, 1)) (d4 : decode M.2.1 (pc + 4) = .ok (.ldc_w is, 3)) (d6 : decode M.2.1 (pc + 7) = .ok (.invokespecial 97, 3)) (d9 : decode M.2.1 (pc + 10) = .ok (.athrow, 1)) (hM : M.1 = RX8) (htb : M.2.2.2.2.1 = []) (hstr : (RX8, is, text, j) ∈ zStr)
    (hRf : 5 < R.frames) (hRl : (st.map fun v => v.category).sum + 82 ≤ R.locals) (hk : k + 1 ≤ R.cells) (hn : n + 6 ≤ R.slots) (hq : QX "java/lang/IllegalArgumentException" w) : zJ Δ M R fx sh0 QR QX k n pc ls st w := by
  intro p l e s m args below meth c H locs ρ0 ρ ls' C G r S L
  have hK := C.2.2.2.2.2.2.2.2.2.1
  have hE := C.2.2.2.2.2.2.2.2.2.2.1
  have hth : ∀ c ∈ Cond.classLink RX8 93 "java/lang/IllegalArgumentException" :: Cond.initialized "java/lang/IllegalArgumentException" :: vx_atS RX8 97 "java/lang/IllegalArgumentException" ["java/lang/RuntimeException", "java/lang/Exception"], c.before args s = true := fun c hc => zw hK (zthI c hc).1 (zthI c hc).2
  refine vx_throwSW C.1 C.2.1 C.2.2.2.2.2.1 (own := RX8) (text := text) (names := ["java/lang/RuntimeException", "java/lang/Exception"]) (A := zA Δ) (by rw [← hM]; exact C.2.2.2.1) (by decide) (by decide) (hth _ List.mem_cons_self) (hth _ (List.mem_cons_of_mem _ List.mem_cons_self)) (hK.2.2.2 _ hstr) (fun c hc => hth c (List.mem_cons_of_mem _ (List.mem_cons_of_mem _ hc))) (fun c hc => ?_) hE.1 hE.2.1 S (by rw [C.2.2.1]; exact L.1) d0 d3 d4 d6 d9 (fun x hx => by rw [C.2.2.2.2.2.2.2.1, htb] at hx; cases hx) hRf (by rw [zcats]; exact hRl) hk hn C.2.2.2.2.1 (fun t hA h1 h2 => ⟨ρ, w, hq, r.kept h2, G, Nat.le_trans S.1 h1, fun q g1 g2 => (h2 q (Nat.lt_of_lt_of_le g1 S.1)).trans (S.2.1 q g1 g2)⟩) S.2.2 hk hn
  have h := (zthI c hc).2
  simp only [zWm, Bool.and_eq_true] at h
  simp only [vx_ot, h.1, Bool.true_or]
