/-! calls -/
def zokv (w : zW) (v : Value) : Bool := match v with
  | .ref i => (w.1 i).isSome || decide (1000 ≤ i)
  | _ => true
theorem zok_eq {Δ : zD} {ρ ρ' : Nat → Nat} {w w' : zW} {H H' : Heap} (h : zR Δ ρ w H) (h' : zR Δ ρ' w' H') (hG : ∀ i, w.1 i ≠ none → ρ' i = ρ i) {v : Value} (hv : zokv w v = true) : zv ρ v = zv ρ' v := by
  cases v with
  | ref i =>
    simp only [zokv, Bool.or_eq_true, decide_eq_true_eq] at hv
    show Value.ref (ρ i) = Value.ref (ρ' i)
    rcases hv with hv | hv
    · rw [hG i (by intro e; rw [e] at hv; cases hv)]
    · obtain ⟨j, rfl⟩ : ∃ j, i = 1000 + j := ⟨Nat.sub i 1000, (Nat.add_sub_of_le hv).symm⟩
      rw [h.2.2.2.2.2.2.1 j, h'.2.2.2.2.2.2.1 j]
  | _ => rfl
/-- the frame with an exception of the class E thrown over it -/
def zT (Δ : zD) (M : zMI) (R : Room) (fx : Bool) (sh0 : zSh) (QR : Option Value → zW → Prop) (QX : String → zW → Prop) (k n : Nat) (E : String) (pc : Nat) (ls : List (Nat × Value)) (st : List Value) (w : zW) : Prop :=
  ∀ (p : Program) (l : Launch) (e : Env) (s : State) (m : MethodId) (args : Array Value) (below : List Frame) (meth : Method) (c : Code) (H : Heap) (locs : List Loc) (ρ0 ρ : Nat → Nat) (ls' : Array Slot),
    zC Δ M p l s m meth c → zG fx sh0 ρ0 ρ w → zR Δ ρ w H → va_S (zA Δ) s.heap H locs → lv_has ls' M.2.2.1 (zls ρ ls) → ∀ (q : Addr) (ce : Cell), H[q]? = some ce → ce.vm = .none → s.vm.findClass E = some ce.cls →
    vx_W p l e R s m args below meth c H locs k n (vx_MQ below (zQc Δ fx sh0 ρ0 (zQt M QR)) (zXc Δ fx sh0 ρ0 QX) args s R.cells R.slots (zA Δ)) (F0 m pc ls' (st.map (zv ρ))) q
section ZC
variable {Δ : zD} {M : zMI} {R : Room} {fx : Bool} {sh0 : zSh} {QR : Option Value → zW → Prop} {QX : String → zW → Prop} {k n pc : Nat} {ls : List (Nat × Value)} {st : List Value} {w : zW}
theorem zT_out {E : String} (htb : M.2.2.2.2.1 = []) (hk : k ≤ R.cells) (hn : n ≤ R.slots) (hq : QX E w) : zT Δ M R fx sh0 QR QX k n E pc ls st w := by
  intro p l e s m args below meth c H locs ρ0 ρ ls' C G r S L q ce h1 h2 h3
  exact vx_out (fun x hx => by rw [C.2.2.2.2.2.2.2.1, htb] at hx; cases hx) C.2.2.2.2.1 h1 h2 h3 (fun t ht _ => ⟨ρ, w, hq, by rw [ht]; exact r, G, S.F ht⟩) S.2.2 hk hn
theorem zMet {l : Launch} {y : MethodName} {ws : List Cond} {rm : Room} {Pc : Array Value → State → Prop} {Qc : Array Value → State → Outcome → State → Prop} {XC : String → State → State → Prop} {mc ms : Nat} {free : Addr → Prop} (hM : vx_Met l y ws rm Pc Qc XC mc ms free) (hX : ∀ E st t, XC E st t → False) : Met l y ws rm Pc Qc mc ms free := by
  intro p e ha hc hk s m args below hf happ hP hK
  obtain ⟨n, o, a1, a2, a3, a4⟩ := hM p e ha hc hk s m args below hf happ hP hK
  refine ⟨n, o, a1, a2, a3, ?_⟩
  rcases a4 with h | ⟨q, b1, E, ce, L, hx, _⟩
  · exact h
  · exact (hX E _ _ hx).elim
theorem zcall {fx' : Bool} {QR' : Option Value → zW → Prop} {QX' : String → zW → Prop} {mc ms : Nat} {a : Array Value} {st0 : List Value} {p : Program} {l : Launch} {e : Env} {s : State} {m : MethodId} {args : Array Value} {below : List Frame} {meth : Method} {c : Code} {H : Heap} {locs : List Loc} {ρ0 ρ : Nat → Nat} {ls' : Array Slot}
    (C : zC Δ M p l s m meth c) (G : zG fx sh0 ρ0 ρ w) (r : zR Δ ρ w H) (S : va_S (zA Δ) s.heap H locs) (L : lv_has ls' M.2.2.1 (zls ρ ls))
    (hr : vx_Run p l e R s m args below meth c H locs k n mc ms (F0 m pc ls' st0) (st.map (zv ρ)) (zQc Δ fx' w.1 ρ QR' a) (zXc Δ fx' w.1 ρ QX') (zA Δ))
    (hfx : fx' = true ∨ (fx = false ∧ st.all (zokv w) = true ∧ ls.all (fun q => zokv w q.2) = true))
    (kk : ∀ r w', QR' r w' → zJ Δ M R fx sh0 QR QX (k + mc) (n + ms) (pc + 3) ls (zpush r st) w') (kx : ∀ E w', QX' E w' → zT Δ M R fx sh0 QR QX (k + mc) (n + ms) E pc ls st w') :
    W p l e R s m args below meth c H locs k n (vx_MQ below (zQc Δ fx sh0 ρ0 (zQt M QR)) (zXc Δ fx sh0 ρ0 QX) args s R.cells R.slots (zA Δ)) (F0 m pc ls' st0) := by
  have same : ∀ (ρ' : Nat → Nat) (w' : zW) (H' : Heap), zR Δ ρ' w' H' → zG fx' w.1 ρ ρ' w' → zG fx sh0 ρ0 ρ' w' ∧ st.map (zv ρ) = st.map (zv ρ') ∧ zls ρ ls = zls ρ' ls := by
    intro ρ' w' H' r' G'
    rcases hfx with h | ⟨h1, h2, h3⟩
    · have h4 := G'.2 h
      subst h4
      exact ⟨⟨fun i hi => ⟨(G'.1 i (G.1 i hi).1).1, (G.1 i hi).2⟩, G.2⟩, rfl, rfl⟩
    · refine ⟨⟨fun i hi => ⟨(G'.1 i (G.1 i hi).1).1, (G'.1 i (G.1 i hi).1).2.trans (G.1 i hi).2⟩, fun h => by rw [h1] at h; cases h⟩, ?_, ?_⟩
      · exact List.map_congr_left fun v hv => zok_eq r r' (fun i hi => (G'.1 i hi).2) (List.all_eq_true.mp h2 v hv)
      · exact List.map_congr_left fun q hq => by rw [zok_eq r r' (fun i hi => (G'.1 i hi).2) (List.all_eq_true.mp h3 q hq)]
  intro T hT X
  rcases hr T hT X with ⟨v, st₀, t, T', L9, h0, X', hL, e1, e2, ⟨r9, ρ', w', hv, hq, hR', hG', hF⟩, st9⟩ | ⟨q, st₀, t, T', L9, E, ce, h0, X', hL, e1, e2, ⟨ρ', w', hq, hR', hG', hF⟩, hce, hcv, hcl, st9⟩
  · obtain ⟨-, -, k3⟩ := vx_keep h0 e1 S (fun _ _ h => h) (fun _ h => h) hL hF
    obtain ⟨g1, g2, g3⟩ := same ρ' w' _ hR' hG'
    obtain ⟨t2, a1, b1⟩ := kk r9 w' hq p l e s m args below meth c T'.heap (locs ++ L9) ρ0 ρ' ls' C g1 (by rw [e1]; exact hR') k3 (by rw [← g3]; exact L) T' rfl X'
    refine ⟨t2, st9 t2 ?_, b1⟩
    have hv' : v = r9.map (zv ρ') := Outcome.returned.inj hv
    rw [hv', g2]
    cases r9 <;> exact a1
  · obtain ⟨-, -, k3⟩ := vx_keep h0 e1 S (fun _ _ h => h) (fun _ h => h) hL hF
    obtain ⟨g1, g2, g3⟩ := same ρ' w' _ hR' hG'
    obtain ⟨t2, a1, b1⟩ := kx E w' hq p l e s m args below meth c T'.heap (locs ++ L9) ρ0 ρ' ls' C g1 (by rw [e1]; exact hR') k3 (by rw [← g3]; exact L) q ce (by rw [e1]; exact hce) hcv hcl T' rfl X'
    rw [← g2] at a1
    exact ⟨t2, st9.trans a1, b1⟩
theorem zblind {as : List Value} {ρ : Nat → Nat} : FrameBlind (va_Pc (as.map (zv ρ)) (fun U => zK Δ U ∧ zE Δ U U.heap ∧ zsz Δ ≤ U.heap.size ∧ zR Δ ρ w U.heap)) := fun a U g mk q => ⟨q.1, zK.warm (U := U.calling g mk a) (State.WarmedH.refl U) q.2.1, zE.moved (u := U) (U := U.calling g mk a) (Vm.Alike.refl U.vm) q.2.2.1, q.2.2.2.1, q.2.2.2.2⟩
theorem zpre {p : Program} {l : Launch} {s : State} {m : MethodId} {meth : Method} {c : Code} {H : Heap} {locs : List Loc} {ρ : Nat → Nat} (C : zC Δ M p l s m meth c) (r : zR Δ ρ w H) (S : va_S (zA Δ) s.heap H locs) {U : State} (hU : U.heap = H) (hW : s.WarmedH U.vm) : zK Δ U ∧ zE Δ U U.heap ∧ zsz Δ ≤ U.heap.size ∧ zR Δ ρ w U.heap := by
  obtain ⟨-, -, -, -, -, -, -, -, -, hK, hE, hz⟩ := C
  refine ⟨zK.warm hW hK, ?_, ?_, by rw [hU]; exact r⟩
  · rw [hU]; exact zE.moved hW.alike (hE.kept S.2.1)
  · rw [hU]; exact Nat.le_trans hz S.1
theorem zws {s : State} (hK : zK Δ s) {y : MethodName} {M' : zMI} {np : Nat} (hf : zMf y M' np) : ∀ c ∈ [Cond.code y M'.2.1 M'.2.2.1 M'.2.2.2.1], ∀ (a' : Array Value) (U : State), s.WarmedH U.vm → c.before a' U = true := by
  intro c hc a' U hW
  rw [List.mem_singleton.mp hc]
  exact word_at (args := #[]) hW (Or.inl rfl) (zw hK hf.1 rfl)
theorem zcb {s : State} (hK : zK Δ s) {args : Array Value} {y : MethodName} {M' : zMI} {np h mc ms : Nat} (hf : zMf y M' np) {own : String} {idx : Nat} (hl : Cond.methodLink own idx y ∈ lw_tbl) (hin : Cond.initialized y.cls ∈ lw_tbl) (hR : h + 1 ≤ R.frames ∧ 38 * h + 38 ≤ R.locals) :
    CallB R s args own idx y M'.2.1 M'.2.2.1 M'.2.2.2.1 [Cond.code y M'.2.1 M'.2.2.1 M'.2.2.2.1] (zRm h mc ms) mc ms np := by
  have hf0 := hf
  obtain ⟨h1, h2, -, -, -, -, h3, h4⟩ := hf
  refine ⟨rfl, rfl, hR.1, ?_, zws hK hf0, List.mem_singleton.mpr rfl, zw hK h1 rfl, zw hK hin rfl, h4, fun sig hs => ?_, zw hK hl rfl⟩
  · show 8 + (M'.2.2.1 + 11) + 38 * h ≤ R.locals
    have := hR.2
    omega
  · rw [hs] at h2
    exact (Option.some.inj h2).symm
theorem zcn {s : State} (hK : zK Δ s) {args : Array Value} {y : MethodName} {M' : zMI} {np h mc ms : Nat} (hf : zMf y M' np) {own host : String} {idx : Nat} (hl : Cond.methodLinkNest own idx y host ∈ lw_tbl) (hin : Cond.initialized y.cls ∈ lw_tbl) (hR : h + 1 ≤ R.frames ∧ 38 * h + 38 ≤ R.locals) :
    va_CN R s args own idx y host M'.2.1 M'.2.2.1 M'.2.2.2.1 [Cond.code y M'.2.1 M'.2.2.1 M'.2.2.2.1] (zRm h mc ms) mc ms np := by
  have hf0 := hf
  obtain ⟨h1, h2, -, -, -, -, h3, h4⟩ := hf
  refine ⟨⟨rfl, rfl, hR.1, ?_, zws hK hf0, List.mem_singleton.mpr rfl⟩, zw hK h1 rfl, zw hK hin rfl, h4, fun sig hs => ?_, zw hK hl rfl⟩
  · show 8 + (M'.2.2.1 + 11) + 38 * h ≤ R.locals
    have := hR.2
    omega
  · rw [hs] at h2
    exact (Option.some.inj h2).symm
theorem zrecv {s : State} (hK : zK Δ s) {H : Heap} {ρ : Nat → Nat} (r : zR Δ ρ w H) {i ci : Nat} (hs : w.1 i = some (.inl ci)) {cn : String} (hcy : (vwCl[ci]?).map (fun q => q.1) = some cn) : ∃ cell : Cell, H[ρ i]? = some cell ∧ cell.vm.isStatics = false ∧ s.vm.findClass cn = some cell.cls := by
  obtain ⟨q, hq, cell, q1, q2, q3, -⟩ := r.1 i ci hs
  rw [hq] at hcy
  cases hcy
  exact ⟨cell, q1, by rw [q3]; rfl, by rw [q2]; exact (hK.1.1 ci q hq).2.1⟩
/-- where a method is called by an entry: virtually, statically, a constructor -/
def zSV (own : String) (idx : Nat) (y : MethodName) : Prop := (Cond.methodLink own idx y ∈ lw_tbl ∨ ∃ host, Cond.methodLinkNest own idx y host ∈ lw_tbl) ∧ Cond.instanceMethod y ∈ lw_tbl ∧ Cond.selects y.cls y y ∈ lw_tbl ∧ Cond.initialized y.cls ∈ lw_tbl
def zSS (own : String) (idx : Nat) (y : MethodName) : Prop := (Cond.methodLink own idx y ∈ lw_tbl ∨ ∃ host, Cond.methodLinkNest own idx y host ∈ lw_tbl) ∧ Cond.static y ∈ lw_tbl ∧ Cond.initialized y.cls ∈ lw_tbl
def zSI (own : String) (idx : Nat) (y : MethodName) : Prop := (Cond.methodLink own idx y ∈ lw_tbl ∨ ∃ host, Cond.methodLinkNest own idx y host ∈ lw_tbl) ∧ Cond.instanceMethod y ∈ lw_tbl ∧ y.name = "<init>" ∧ Cond.initialized y.cls ∈ lw_tbl
theorem zcats (ρ : Nat → Nat) (st : List Value) : ((st.map (zv ρ)).map fun v => v.category) = st.map fun v => v.category := by simp [zv_cat]
theorem zJ_callV {y : MethodName} {M' : zMI} {h mc ms idx np i ci : Nat} {fx' : Bool} {As : List Value} {QR' : Option Value → zW → Prop} {QX' : String → zW → Prop} (hd : decode M.2.1 pc = .ok (.invokevirtual idx, 3)) (hs : zSV M.1 idx y) (hf : zMf y M' np) (hM : zM Δ h mc ms fx' y M' (.ref i :: As) w QR' QX') (hpl : Cond.methodLink M.1 idx y ∈ lw_tbl ∨ ∀ E w', ¬ QX' E w')
    (hi : w.1 i = some (.inl ci)) (hcy : (vwCl[ci]?).map (fun q => q.1) = some y.cls) (hn : As.length = np) (hfx : fx' = true ∨ (fx = false ∧ st.all (zokv w) = true ∧ ls.all (fun q => zokv w q.2) = true)) (hst : (st.map fun v => v.category).sum ≤ 8) (hR : h + 1 ≤ R.frames ∧ 38 * h + 38 ≤ R.locals) (hc : k + mc ≤ R.cells ∧ n + ms ≤ R.slots)
    (kk : ∀ r w', QR' r w' → zJ Δ M R fx sh0 QR QX (k + mc) (n + ms) (pc + 3) ls (zpush r st) w') (kx : ∀ E w', QX' E w' → zT Δ M R fx sh0 QR QX (k + mc) (n + ms) E pc ls st w') : zJ Δ M R fx sh0 QR QX k n pc ls (As.reverse ++ .ref i :: st) w := by
  intro p l e s m args below meth c H locs ρ0 ρ ls' C G r S L
  have hK := C.2.2.2.2.2.2.2.2.2.1
  obtain ⟨hl, h2, h3, h4⟩ := hs
  have hstk : ((As.reverse ++ Value.ref i :: st).map (zv ρ)) = (As.map (zv ρ)).reverse ++ Value.ref (ρ i) :: st.map (zv ρ) := by rw [List.map_append, List.map_reverse]; rfl
  have hp : PreV s H y.cls (ρ i) (va_Pc ((Value.ref i :: As).map (zv ρ)) (fun U => zK Δ U ∧ zE Δ U U.heap ∧ zsz Δ ≤ U.heap.size ∧ zR Δ ρ w U.heap)) (As.map (zv ρ)) := ⟨zblind, zrecv hK r hi hcy, fun U hU hW => ⟨rfl, zpre C r S hU hW⟩⟩
  have hW : 2 * (F0 m pc ls' ((As.reverse ++ Value.ref i :: st).map (zv ρ))).monitorRoom + ((st.map (zv ρ)).map fun v => v.category).sum ≤ 8 := by rw [zcats]; exact lv_room hst
  by_cases hp1 : Cond.methodLink M.1 idx y ∈ lw_tbl
  · exact zcall C G r S L (vx_runV (C := y.cls) (As := As.map (zv ρ)) (rest := st.map (zv ρ)) (Ts := []) (bytes := M'.2.1) (maxL := M'.2.2.1) (ret := M'.2.2.2.1) (cc := M.2.1) (nL := M.2.2.1) (own := M.1) ⟨C.1, C.2.1, C.2.2.1, C.2.2.2.1, fun _ h => nomatch h⟩ (hM l ρ C.2.2.2.2.2.1) ⟨zcb hK hf hp1 h4 hR, zw hK h2 rfl, zw hK h3 rfl⟩ hp rfl (by rw [List.length_map]; exact hn) L.1 hstk hW hd hc) hfx (fun r w' h => kk r w' h.2) kx
  · have hno : ∀ E w', ¬ QX' E w' := hpl.resolve_left hp1
    obtain ⟨host, hl⟩ := hl.resolve_left hp1
    refine zcall C G r S L (QX' := QX') (fun T hT X => Or.inl (va_runVN (C := y.cls) (host := host) (As := As.map (zv ρ)) (rest := st.map (zv ρ)) (Ts := []) (bytes := M'.2.1) (maxL := M'.2.2.1) (ret := M'.2.2.2.1) (cc := M.2.1) (nL := M.2.2.1) (own := M.1) ⟨C.1, C.2.1, C.2.2.1, C.2.2.2.1, fun _ h => nomatch h⟩ (zMet (hM l ρ C.2.2.2.2.2.1) (fun E _ _ h => by obtain ⟨_, w', h1, _⟩ := h; exact hno E w' h1)) ⟨zcn hK hf hl h4 hR, zw hK h2 rfl, zw hK h3 rfl⟩ hp rfl (by rw [List.length_map]; exact hn) L.1 hstk hW hd hc T hT X)) hfx (fun r w' h => kk r w' h.2) kx
theorem zJ_callS {y : MethodName} {M' : zMI} {h mc ms idx np : Nat} {fx' : Bool} {As : List Value} {QR' : Option Value → zW → Prop} {QX' : String → zW → Prop} (hd : decode M.2.1 pc = .ok (.invokestatic idx, 3)) (hs : zSS M.1 idx y) (hf : zMf y M' np) (hM : zM Δ h mc ms fx' y M' As w QR' QX') (hpl : Cond.methodLink M.1 idx y ∈ lw_tbl ∨ ∀ E w', ¬ QX' E w')
    (hn : As.length = np) (hfx : fx' = true ∨ (fx = false ∧ st.all (zokv w) = true ∧ ls.all (fun q => zokv w q.2) = true)) (hst : (st.map fun v => v.category).sum ≤ 8) (hR : h + 1 ≤ R.frames ∧ 38 * h + 38 ≤ R.locals) (hc : k + mc ≤ R.cells ∧ n + ms ≤ R.slots)
    (kk : ∀ r w', QR' r w' → zJ Δ M R fx sh0 QR QX (k + mc) (n + ms) (pc + 3) ls (zpush r st) w') (kx : ∀ E w', QX' E w' → zT Δ M R fx sh0 QR QX (k + mc) (n + ms) E pc ls st w') : zJ Δ M R fx sh0 QR QX k n pc ls (As.reverse ++ st) w := by
  intro p l e s m args below meth c H locs ρ0 ρ ls' C G r S L
  have hK := C.2.2.2.2.2.2.2.2.2.1
  obtain ⟨hl, h2, h4⟩ := hs
  have hstk : ((As.reverse ++ st).map (zv ρ)) = (As.map (zv ρ)).reverse ++ st.map (zv ρ) := by rw [List.map_append, List.map_reverse]
  have hp : PreS s H (va_Pc (As.map (zv ρ)) (fun U => zK Δ U ∧ zE Δ U U.heap ∧ zsz Δ ≤ U.heap.size ∧ zR Δ ρ w U.heap)) (As.map (zv ρ)) := ⟨zblind, fun U hU hW => ⟨rfl, zpre C r S hU hW⟩⟩
  have hW : 2 * (F0 m pc ls' ((As.reverse ++ st).map (zv ρ))).monitorRoom + ((st.map (zv ρ)).map fun v => v.category).sum ≤ 8 := by rw [zcats]; exact lv_room hst
  by_cases hp1 : Cond.methodLink M.1 idx y ∈ lw_tbl
  · exact zcall C G r S L (vx_runS (As := As.map (zv ρ)) (rest := st.map (zv ρ)) (Ts := []) (bytes := M'.2.1) (maxL := M'.2.2.1) (ret := M'.2.2.2.1) (cc := M.2.1) (nL := M.2.2.1) (own := M.1) ⟨C.1, C.2.1, C.2.2.1, C.2.2.2.1, fun _ h => nomatch h⟩ (hM l ρ C.2.2.2.2.2.1) ⟨zcb hK hf hp1 h4 hR, zw hK h2 rfl⟩ hp rfl (by rw [List.length_map]; exact hn) L.1 hstk hW hd hc) hfx (fun r w' h => kk r w' h.2) kx
  · have hno : ∀ E w', ¬ QX' E w' := hpl.resolve_left hp1
    obtain ⟨host, hl⟩ := hl.resolve_left hp1
    refine zcall C G r S L (QX' := QX') (fun T hT X => Or.inl (va_runSN (host := host) (As := As.map (zv ρ)) (rest := st.map (zv ρ)) (Ts := []) (bytes := M'.2.1) (maxL := M'.2.2.1) (ret := M'.2.2.2.1) (cc := M.2.1) (nL := M.2.2.1) (own := M.1) ⟨C.1, C.2.1, C.2.2.1, C.2.2.2.1, fun _ h => nomatch h⟩ (zMet (hM l ρ C.2.2.2.2.2.1) (fun E _ _ h => by obtain ⟨_, w', h1, _⟩ := h; exact hno E w' h1)) ⟨zcn hK hf hl h4 hR, zw hK h2 rfl, trivial⟩ hp rfl (by rw [List.length_map]; exact hn) L.1 hstk hW hd hc T hT X)) hfx (fun r w' h => kk r w' h.2) kx
theorem zJ_callI {y : MethodName} {M' : zMI} {h mc ms idx np i : Nat} {fx' : Bool} {As : List Value} {QR' : Option Value → zW → Prop} {QX' : String → zW → Prop} (hd : decode M.2.1 pc = .ok (.invokespecial idx, 3)) (hs : zSI M.1 idx y) (hf : zMf y M' np) (hret : M'.2.2.2.1 = none) (hM : zM Δ h mc ms fx' y M' (.ref i :: As) w QR' QX') (hno : ∀ E w', ¬ QX' E w')
    (hn : As.length = np) (hfx : fx' = true ∨ (fx = false ∧ st.all (zokv w) = true ∧ ls.all (fun q => zokv w q.2) = true)) (hst : (st.map fun v => v.category).sum ≤ 8) (hR : h + 1 ≤ R.frames ∧ 38 * h + 38 ≤ R.locals) (hc : k + mc ≤ R.cells ∧ n + ms ≤ R.slots)
    (kk : ∀ r w', QR' r w' → zJ Δ M R fx sh0 QR QX (k + mc) (n + ms) (pc + 3) ls (zpush r st) w') : zJ Δ M R fx sh0 QR QX k n pc ls (As.reverse ++ .ref i :: st) w := by
  intro p l e s m args below meth c H locs ρ0 ρ ls' C G r S L
  have hK := C.2.2.2.2.2.2.2.2.2.1
  obtain ⟨hl, h2, h3, h4⟩ := hs
  have hstk : ((As.reverse ++ Value.ref i :: st).map (zv ρ)) = (As.map (zv ρ)).reverse ++ Value.ref (ρ i) :: st.map (zv ρ) := by rw [List.map_append, List.map_reverse]; rfl
  have hp : PreS s H (va_Pc ((Value.ref i :: As).map (zv ρ)) (fun U => zK Δ U ∧ zE Δ U U.heap ∧ zsz Δ ≤ U.heap.size ∧ zR Δ ρ w U.heap)) (.ref (ρ i) :: As.map (zv ρ)) := ⟨zblind, fun U hU hW => ⟨rfl, zpre C r S hU hW⟩⟩
  have hW : 2 * (F0 m pc ls' ((As.reverse ++ Value.ref i :: st).map (zv ρ))).monitorRoom + ((st.map (zv ρ)).map fun v => v.category).sum ≤ 8 := by rw [zcats]; exact lv_room hst
  have hMet := zMet (hM l ρ C.2.2.2.2.2.1) (fun E _ _ h => by obtain ⟨_, w', h1, _⟩ := h; exact hno E w' h1)
  rcases hl with hl | ⟨host, hl⟩
  · have hcb := zcb (R := R) (mc := mc) (ms := ms) (args := args) hK hf hl h4 hR
    rw [hret] at hcb hMet
    exact zcall C G r S L (QX' := QX') (fun T hT X => Or.inl (va_runI (As := As.map (zv ρ)) (rest := st.map (zv ρ)) (Ts := []) (bytes := M'.2.1) (maxL := M'.2.2.1) (cc := M.2.1) (nL := M.2.2.1) (own := M.1) ⟨C.1, C.2.1, C.2.2.1, C.2.2.2.1, fun _ h => nomatch h⟩ hMet ⟨hcb, h3, zw hK h2 rfl⟩ hp rfl (by rw [List.length_map]; exact hn) L.1 hstk hW hd hc T hT X)) hfx (fun r w' h => kk r w' h.2) (fun E w' h => (hno E w' h).elim)
  · have hcn := zcn (R := R) (mc := mc) (ms := ms) (args := args) hK hf hl h4 hR
    rw [hret] at hcn hMet
    exact zcall C G r S L (QX' := QX') (fun T hT X => Or.inl (va_runIN (host := host) (As := As.map (zv ρ)) (rest := st.map (zv ρ)) (Ts := []) (bytes := M'.2.1) (maxL := M'.2.2.1) (cc := M.2.1) (nL := M.2.2.1) (own := M.1) ⟨C.1, C.2.1, C.2.2.1, C.2.2.2.1, fun _ h => nomatch h⟩ hMet ⟨hcn, h3, zw hK h2 rfl⟩ hp rfl (by rw [List.length_map]; exact hn) L.1 hstk hW hd hc T hT X)) hfx (fun r w' h => kk r w' h.2) (fun E w' h => (hno E w' h).elim)

theorem zJ_cV0 {y : MethodName} {M' : zMI} {h idx i ci : Nat} {r0 : Option Value} {w0 : zW} (hd : decode M.2.1 pc = .ok (.invokevirtual idx, 3)) (hs : zSV M.1 idx y) (hf : zMf y M' 0) (hM : zMd Δ h 0 0 true y M' (.ref i :: []) w r0 w0) (hi : w.1 i = some (.inl ci)) (hcy : (vwCl[ci]?).map (fun q => q.1) = some y.cls) (hst : (st.map fun v => v.category).sum ≤ 8) (hR : h + 1 ≤ R.frames ∧ 38 * h + 38 ≤ R.locals) (hc : k ≤ R.cells ∧ n ≤ R.slots) (kk : zJ Δ M R fx sh0 QR QX k n (pc + 3) ls (zpush r0 st) w0) : zJ Δ M R fx sh0 QR QX k n pc ls (.ref i :: st) w := zJ_callV (As := []) hd hs hf hM (Or.inr (fun _ _ h => h)) hi hcy rfl (Or.inl rfl) hst hR hc (fun r w' h => by obtain ⟨rfl, rfl⟩ := h; exact kk) (fun E w' h => h.elim)
theorem zJ_cV1 {y : MethodName} {M' : zMI} {h idx i ci : Nat} {a1 : Value} {r0 : Option Value} {w0 : zW} (hd : decode M.2.1 pc = .ok (.invokevirtual idx, 3)) (hs : zSV M.1 idx y) (hf : zMf y M' 1) (hM : zMd Δ h 0 0 true y M' (.ref i :: [a1]) w r0 w0) (hi : w.1 i = some (.inl ci)) (hcy : (vwCl[ci]?).map (fun q => q.1) = some y.cls) (hst : (st.map fun v => v.category).sum ≤ 8) (hR : h + 1 ≤ R.frames ∧ 38 * h + 38 ≤ R.locals) (hc : k ≤ R.cells ∧ n ≤ R.slots) (kk : zJ Δ M R fx sh0 QR QX k n (pc + 3) ls (zpush r0 st) w0) : zJ Δ M R fx sh0 QR QX k n pc ls (a1 :: .ref i :: st) w := zJ_callV (As := [a1]) hd hs hf hM (Or.inr (fun _ _ h => h)) hi hcy rfl (Or.inl rfl) hst hR hc (fun r w' h => by obtain ⟨rfl, rfl⟩ := h; exact kk) (fun E w' h => h.elim)
theorem zJ_cV2 {y : MethodName} {M' : zMI} {h idx i ci : Nat} {a1 a2 : Value} {r0 : Option Value} {w0 : zW} (hd : decode M.2.1 pc = .ok (.invokevirtual idx, 3)) (hs : zSV M.1 idx y) (hf : zMf y M' 2) (hM : zMd Δ h 0 0 true y M' (.ref i :: [a1, a2]) w r0 w0) (hi : w.1 i = some (.inl ci)) (hcy : (vwCl[ci]?).map (fun q => q.1) = some y.cls) (hst : (st.map fun v => v.category).sum ≤ 8) (hR : h + 1 ≤ R.frames ∧ 38 * h + 38 ≤ R.locals) (hc : k ≤ R.cells ∧ n ≤ R.slots) (kk : zJ Δ M R fx sh0 QR QX k n (pc + 3) ls (zpush r0 st) w0) : zJ Δ M R fx sh0 QR QX k n pc ls (a2 :: a1 :: .ref i :: st) w := zJ_callV (As := [a1, a2]) hd hs hf hM (Or.inr (fun _ _ h => h)) hi hcy rfl (Or.inl rfl) hst hR hc (fun r w' h => by obtain ⟨rfl, rfl⟩ := h; exact kk) (fun E w' h => h.elim)
theorem zJ_cV3 {y : MethodName} {M' : zMI} {h idx i ci : Nat} {a1 a2 a3 : Value} {r0 : Option Value} {w0 : zW} (hd : decode M.2.1 pc = .ok (.invokevirtual idx, 3)) (hs : zSV M.1 idx y) (hf : zMf y M' 3) (hM : zMd Δ h 0 0 true y M' (.ref i :: [a1, a2, a3]) w r0 w0) (hi : w.1 i = some (.inl ci)) (hcy : (vwCl[ci]?).map (fun q => q.1) = some y.cls) (hst : (st.map fun v => v.category).sum ≤ 8) (hR : h + 1 ≤ R.frames ∧ 38 * h + 38 ≤ R.locals) (hc : k ≤ R.cells ∧ n ≤ R.slots) (kk : zJ Δ M R fx sh0 QR QX k n (pc + 3) ls (zpush r0 st) w0) : zJ Δ M R fx sh0 QR QX k n pc ls (a3 :: a2 :: a1 :: .ref i :: st) w := zJ_callV (As := [a1, a2, a3]) hd hs hf hM (Or.inr (fun _ _ h => h)) hi hcy rfl (Or.inl rfl) hst hR hc (fun r w' h => by obtain ⟨rfl, rfl⟩ := h; exact kk) (fun E w' h => h.elim)
theorem zJ_cV4 {y : MethodName} {M' : zMI} {h idx i ci : Nat} {a1 a2 a3 a4 : Value} {r0 : Option Value} {w0 : zW} (hd : decode M.2.1 pc = .ok (.invokevirtual idx, 3)) (hs : zSV M.1 idx y) (hf : zMf y M' 4) (hM : zMd Δ h 0 0 true y M' (.ref i :: [a1, a2, a3, a4]) w r0 w0) (hi : w.1 i = some (.inl ci)) (hcy : (vwCl[ci]?).map (fun q => q.1) = some y.cls) (hst : (st.map fun v => v.category).sum ≤ 8) (hR : h + 1 ≤ R.frames ∧ 38 * h + 38 ≤ R.locals) (hc : k ≤ R.cells ∧ n ≤ R.slots) (kk : zJ Δ M R fx sh0 QR QX k n (pc + 3) ls (zpush r0 st) w0) : zJ Δ M R fx sh0 QR QX k n pc ls (a4 :: a3 :: a2 :: a1 :: .ref i :: st) w := zJ_callV (As := [a1, a2, a3, a4]) hd hs hf hM (Or.inr (fun _ _ h => h)) hi hcy rfl (Or.inl rfl) hst hR hc (fun r w' h => by obtain ⟨rfl, rfl⟩ := h; exact kk) (fun E w' h => h.elim)
theorem zJ_cV5 {y : MethodName} {M' : zMI} {h idx i ci : Nat} {a1 a2 a3 a4 a5 : Value} {r0 : Option Value} {w0 : zW} (hd : decode M.2.1 pc = .ok (.invokevirtual idx, 3)) (hs : zSV M.1 idx y) (hf : zMf y M' 5) (hM : zMd Δ h 0 0 true y M' (.ref i :: [a1, a2, a3, a4, a5]) w r0 w0) (hi : w.1 i = some (.inl ci)) (hcy : (vwCl[ci]?).map (fun q => q.1) = some y.cls) (hst : (st.map fun v => v.category).sum ≤ 8) (hR : h + 1 ≤ R.frames ∧ 38 * h + 38 ≤ R.locals) (hc : k ≤ R.cells ∧ n ≤ R.slots) (kk : zJ Δ M R fx sh0 QR QX k n (pc + 3) ls (zpush r0 st) w0) : zJ Δ M R fx sh0 QR QX k n pc ls (a5 :: a4 :: a3 :: a2 :: a1 :: .ref i :: st) w := zJ_callV (As := [a1, a2, a3, a4, a5]) hd hs hf hM (Or.inr (fun _ _ h => h)) hi hcy rfl (Or.inl rfl) hst hR hc (fun r w' h => by obtain ⟨rfl, rfl⟩ := h; exact kk) (fun E w' h => h.elim)
theorem zJ_cS1 {y : MethodName} {M' : zMI} {h idx : Nat} {a1 : Value} {r0 : Option Value} {w0 : zW} (hd : decode M.2.1 pc = .ok (.invokestatic idx, 3)) (hs : zSS M.1 idx y) (hf : zMf y M' 1) (hM : zMd Δ h 0 0 true y M' [a1] w r0 w0) (hst : (st.map fun v => v.category).sum ≤ 8) (hR : h + 1 ≤ R.frames ∧ 38 * h + 38 ≤ R.locals) (hc : k ≤ R.cells ∧ n ≤ R.slots) (kk : zJ Δ M R fx sh0 QR QX k n (pc + 3) ls (zpush r0 st) w0) : zJ Δ M R fx sh0 QR QX k n pc ls (a1 :: st) w := zJ_callS (As := [a1]) hd hs hf hM (Or.inr (fun _ _ h => h)) rfl (Or.inl rfl) hst hR hc (fun r w' h => by obtain ⟨rfl, rfl⟩ := h; exact kk) (fun E w' h => h.elim)
theorem zJ_cS2 {y : MethodName} {M' : zMI} {h idx : Nat} {a1 a2 : Value} {r0 : Option Value} {w0 : zW} (hd : decode M.2.1 pc = .ok (.invokestatic idx, 3)) (hs : zSS M.1 idx y) (hf : zMf y M' 2) (hM : zMd Δ h 0 0 true y M' [a1, a2] w r0 w0) (hst : (st.map fun v => v.category).sum ≤ 8) (hR : h + 1 ≤ R.frames ∧ 38 * h + 38 ≤ R.locals) (hc : k ≤ R.cells ∧ n ≤ R.slots) (kk : zJ Δ M R fx sh0 QR QX k n (pc + 3) ls (zpush r0 st) w0) : zJ Δ M R fx sh0 QR QX k n pc ls (a2 :: a1 :: st) w := zJ_callS (As := [a1, a2]) hd hs hf hM (Or.inr (fun _ _ h => h)) rfl (Or.inl rfl) hst hR hc (fun r w' h => by obtain ⟨rfl, rfl⟩ := h; exact kk) (fun E w' h => h.elim)
theorem zJ_cS3 {y : MethodName} {M' : zMI} {h idx : Nat} {a1 a2 a3 : Value} {r0 : Option Value} {w0 : zW} (hd : decode M.2.1 pc = .ok (.invokestatic idx, 3)) (hs : zSS M.1 idx y) (hf : zMf y M' 3) (hM : zMd Δ h 0 0 true y M' [a1, a2, a3] w r0 w0) (hst : (st.map fun v => v.category).sum ≤ 8) (hR : h + 1 ≤ R.frames ∧ 38 * h + 38 ≤ R.locals) (hc : k ≤ R.cells ∧ n ≤ R.slots) (kk : zJ Δ M R fx sh0 QR QX k n (pc + 3) ls (zpush r0 st) w0) : zJ Δ M R fx sh0 QR QX k n pc ls (a3 :: a2 :: a1 :: st) w := zJ_callS (As := [a1, a2, a3]) hd hs hf hM (Or.inr (fun _ _ h => h)) rfl (Or.inl rfl) hst hR hc (fun r w' h => by obtain ⟨rfl, rfl⟩ := h; exact kk) (fun E w' h => h.elim)
theorem zJ_cS4 {y : MethodName} {M' : zMI} {h idx : Nat} {a1 a2 a3 a4 : Value} {r0 : Option Value} {w0 : zW} (hd : decode M.2.1 pc = .ok (.invokestatic idx, 3)) (hs : zSS M.1 idx y) (hf : zMf y M' 4) (hM : zMd Δ h 0 0 true y M' [a1, a2, a3, a4] w r0 w0) (hst : (st.map fun v => v.category).sum ≤ 8) (hR : h + 1 ≤ R.frames ∧ 38 * h + 38 ≤ R.locals) (hc : k ≤ R.cells ∧ n ≤ R.slots) (kk : zJ Δ M R fx sh0 QR QX k n (pc + 3) ls (zpush r0 st) w0) : zJ Δ M R fx sh0 QR QX k n pc ls (a4 :: a3 :: a2 :: a1 :: st) w := zJ_callS (As := [a1, a2, a3, a4]) hd hs hf hM (Or.inr (fun _ _ h => h)) rfl (Or.inl rfl) hst hR hc (fun r w' h => by obtain ⟨rfl, rfl⟩ := h; exact kk) (fun E w' h => h.elim)
theorem zJ_cS5 {y : MethodName} {M' : zMI} {h idx : Nat} {a1 a2 a3 a4 a5 : Value} {r0 : Option Value} {w0 : zW} (hd : decode M.2.1 pc = .ok (.invokestatic idx, 3)) (hs : zSS M.1 idx y) (hf : zMf y M' 5) (hM : zMd Δ h 0 0 true y M' [a1, a2, a3, a4, a5] w r0 w0) (hst : (st.map fun v => v.category).sum ≤ 8) (hR : h + 1 ≤ R.frames ∧ 38 * h + 38 ≤ R.locals) (hc : k ≤ R.cells ∧ n ≤ R.slots) (kk : zJ Δ M R fx sh0 QR QX k n (pc + 3) ls (zpush r0 st) w0) : zJ Δ M R fx sh0 QR QX k n pc ls (a5 :: a4 :: a3 :: a2 :: a1 :: st) w := zJ_callS (As := [a1, a2, a3, a4, a5]) hd hs hf hM (Or.inr (fun _ _ h => h)) rfl (Or.inl rfl) hst hR hc (fun r w' h => by obtain ⟨rfl, rfl⟩ := h; exact kk) (fun E w' h => h.elim)
end ZC
