set_option maxRecDepth 100000 in
theorem zthN : ∀ c ∈ (zNat0 RX8 157).filter vx_no, c ∈ lw_tbl ∧ zWm c = true := by decide +kernel
set_option maxRecDepth 100000 in
theorem zthN1 : Cond.classLink RX8 153 zNS ∈ lw_tbl := List.mem_of_getElem? (i := 920) rfl
set_option maxRecDepth 100000 in
theorem zthN2 : Cond.initialized zNS ∈ lw_tbl := List.mem_of_getElem? (i := 163) rfl
set_option maxHeartbeats 2000000 in
theorem zJ_throwN {Δ : zD} {M : zMI} {R : Room} {fx : Bool} {sh0 : zSh} {QR : Option Value → zW → Prop} {QX : String → zW → Prop} {k n pc is j : Nat} {ls : List (Nat × Value)} {st : List Value} {w : zW} {text : String} (d0 : decode M.2.1 pc = .ok (.new 153, 3)) (d3 : decode M.2.1 (pc + 3) = .ok (.dup, 1)) (d4 : decode M.2.1 (pc + 4) = .ok (.ldc is, 2)) (d6 : decode M.2.1 (pc + 6) = .ok (.invokespecial 157, 3)) (d9 : decode M.2.1 (pc + 9) = .ok (.athrow, 1)) (hM : M.1 = RX8) (htb : M.2.2.2.2.1 = []) (hstr : (RX8, is, text, j) ∈ zStr)
    (hRf : 5 < R.frames) (hRl : (st.map fun v => v.category).sum + 82 ≤ R.locals) (hk : k + 1 ≤ R.cells) (hn : n + 6 ≤ R.slots) (hq : QX zNS w) : zJ Δ M R fx sh0 QR QX k n pc ls st w := by
  intro p l e s m args below meth c H locs ρ0 ρ ls' C G r S L
  have hK := C.2.2.2.2.2.2.2.2.2.1
  have hE := C.2.2.2.2.2.2.2.2.2.2.1
  have hb := C.2.1
  intro T hT X
  have htr : e.platform.stackTraces = false := (show e.platform.stackTraces = l.stackTraces by rw [X.admits.platform]).trans C.2.2.2.2.2.1
  have Y := vx_rebase X (R' := { frames := R.frames, locals := R.locals, cells := 1, slots := 6 }) (Nat.le_refl _) (Nat.le_refl _) hk hn
  obtain ⟨s', hA⟩ : ∃ z, z = (T.setVm s.vm).setFrames (.invoking m args :: below) := ⟨_, rfl⟩
  rw [← hA] at Y
  have hvm : s'.vm = s.vm := by rw [hA]; rfl
  have hhp : s'.heap = H := by rw [hA]; exact hT
  have hW0 : s.WarmedH s'.vm := by rw [hvm]; exact State.WarmedH.refl s
  have hK' : zK Δ s' := zK.warm hW0 hK
  have hU' : vx_Zq Bundle.tN "UNASSIGNED_STACK" Bundle.steD (zA Δ) s' s'.heap := by rw [hhp]; exact vx_Zq.moved hW0.alike (hE.1.kept S.2.1)
  have hN' : vx_Zq Bundle.tN "SUPPRESSED_SENTINEL" Bundle.listD (zA Δ) s' s'.heap := by rw [hhp]; exact vx_Zq.moved hW0.alike (hE.2.1.kept S.2.1)
  have h : ∀ c ∈ zNat0 RX8 157, c.before args s' = true := vx_own (fun c hc => zw hK' (zthN c hc).1 (zthN c hc).2) (vx_isRefq hU'.1) (vx_isRefq hN'.1) hU'.2.word hN'.2.word
  have hown' : s'.vm.findClass RX8 = some m.cls := by rw [hvm, ← hM]; exact C.2.2.2.1
  have hins : (Cond.instantiable zNS 6).before args s' = true := h _ (by simp [zNat0])
  obtain ⟨vm₁, cX, kX, hfX, hkX, -, -, X₁, st1⟩ := Y.newCold C.1 (own := RX8) (C := zNS) (index := 153) (n := 6) hown' (zw hK' zthN1 rfl) hins (zw hK' zthN2 rfl)
    (g := F0 m pc ls' (st.map (zv ρ))) rfl (by rw [hb]; exact d0) (Nat.le_refl _) (Nat.le_refl _)
  generalize hT1 : (T.setVm vm₁).pushCell { cls := cX, slots := kX.instanceTypes.map defaultValue, vm := .none } = T1 at X₁ st1
  have hcat : (Value.ref T.heap.size).category = 1 := rfl
  have hcellA : T1.heap[T.heap.size]? = some (freshCell cX kX) := by rw [← hT1]; exact State.heap_pushCell_size _ _
  have d3' : decode c.code (pc + 3) = .ok (.dup, 1) := by rw [hb]; exact d3
  have d4' : decode c.code (pc + 4) = .ok (.ldc is, 2) := by rw [hb]; exact d4
  have hstr' : vk_R RX8 is text (zsa Δ j) s' := hK'.2.2.2 _ hstr
  have hRl' : (((st.map (zv ρ)).map fun v => v.category).sum) + 82 ≤ R.locals := by rw [zcats]; exact hRl
  obtain ⟨U, hsteps, hrun, hend, hW, hsame, ce, hce, hO1, hO2⟩ := zctorN X₁ C.1 htr (own := RX8) (ic := 157) hown' h (vx_isRefq hU'.1) (vx_isRefq hN'.1) (fun x hx => nomatch hx) hfX hkX hcellA (by rw [hhp, hT]; exact Nat.le_refl _) (msg := .ref (zsa Δ j)) rfl
    (g := { method := m, pc := pc + 6, locals := ls', stack := .ref (zsa Δ j) :: .ref T.heap.size :: .ref T.heap.size :: st.map (zv ρ), locked := none }) rfl (by rw [C.2.2.1]; exact L.1) rfl rfl (rest := st.map (zv ρ)) rfl
    (by rw [hb]; exact d6) (by rw [hb]; exact d9) (fun x hx => by rw [C.2.2.2.2.2.2.2.1, htb] at hx; cases hx) hRf (by show 2 * 0 + _ + 81 ≤ _; simp only [List.map_cons, List.sum_cons, hcat]; omega) C.2.2.2.2.1
  obtain ⟨f1, f2⟩ := vx_frame hsame
  rw [hhp] at f1 f2
  have hWs : s.WarmedH U.vm := State.WarmedH.trans hW0 hW
  have hcl : s.vm.findClass zNS = some ce.cls := by
    have h9 := hO2
    rw [hvm] at h9
    exact h9
  have hall : s.sameButNew ({ U with vm := s.vm } : State) locs R.cells R.slots := by
    subst hA
    obtain ⟨e1, e2⟩ := hsame
    rw [State.setFrames_setFrames] at e1
    have h2 : (T.setVm s.vm).sameButNew ({ U with vm := s.vm } : State) [] (0 + 1) (0 + 6) := ⟨e1, e2⟩
    have h3 := X.same.trans h2
    rw [List.append_nil] at h3
    exact h3.mono hk hn
  have hq1 : ∀ q : Nat, q < H.size → U.heap[q]? = H[q]? := fun q hq => f2 q hq (fun z hz => nomatch hz)
  refine ⟨U, ?_, .threw T.heap.size, hrun, hend, Or.inr ⟨T.heap.size, rfl, zNS, ce, locs, ⟨ρ, w, hq, r.kept hq1, G, Nat.le_trans S.1 f1, fun q g1 g2 => (hq1 q (Nat.lt_of_lt_of_le g1 S.1)).trans (S.2.1 q g1 g2)⟩, hce, hO1, hcl, hWs, hall, S.2.2⟩⟩
  refine st1 _ ?_
  show Steps p.tables e below (T1.setTop { method := m, pc := pc + 3, locals := ls', stack := .ref T.heap.size :: st.map (zv ρ), locked := none }) _
  jvm_step X₁.here [X₁.here.top, C.1, d3', Value.category]
  exact X₁.ldcString C.1 (own := RX8) (text := text) (index := is) (a := zsa Δ j) hown' hstr'.1 hstr'.2
    (g := { method := m, pc := pc + 4, locals := ls', stack := .ref T.heap.size :: .ref T.heap.size :: st.map (zv ρ), locked := none }) rfl d4' _ hsteps
set_option maxHeartbeats 2000000 in
theorem zJ_throwNW {Δ : zD} {M : zMI} {R : Room} {fx : Bool} {sh0 : zSh} {QR : Option Value → zW → Prop} {QX : String → zW → Prop} {k n pc is j : Nat} {ls : List (Nat × Value)} {st : List Value} {w : zW} {text : String} (d0 : decode M.2.1 pc = .ok (.new 153, 3)) (d3 : decode M.2.1 (pc + 3) = .ok (.dup, 1)) (d4 : decode M.2.1 (pc + 4) = .ok (.ldc_w is, 3)) (d6 : decode M.2.1 (pc + 7) = .ok (.invokespecial 157, 3)) (d9 : decode M.2.1 (pc + 10) = .ok (.athrow, 1)) (hM : M.1 = RX8) (htb : M.2.2.2.2.1 = []) (hstr : (RX8, is, text, j) ∈ zStr)
    (hRf : 5 < R.frames) (hRl : (st.map fun v => v.category).sum + 82 ≤ R.locals) (hk : k + 1 ≤ R.cells) (hn : n + 6 ≤ R.slots) (hq : QX zNS w) : zJ Δ M R fx sh0 QR QX k n pc ls st w := by
  intro p l e s m args below meth c H locs ρ0 ρ ls' C G r S L
  have hK := C.2.2.2.2.2.2.2.2.2.1
  have hE := C.2.2.2.2.2.2.2.2.2.2.1
  have hb := C.2.1
  intro T hT X
  have htr : e.platform.stackTraces = false := (show e.platform.stackTraces = l.stackTraces by rw [X.admits.platform]).trans C.2.2.2.2.2.1
  have Y := vx_rebase X (R' := { frames := R.frames, locals := R.locals, cells := 1, slots := 6 }) (Nat.le_refl _) (Nat.le_refl _) hk hn
  obtain ⟨s', hA⟩ : ∃ z, z = (T.setVm s.vm).setFrames (.invoking m args :: below) := ⟨_, rfl⟩
  rw [← hA] at Y
  have hvm : s'.vm = s.vm := by rw [hA]; rfl
  have hhp : s'.heap = H := by rw [hA]; exact hT
  have hW0 : s.WarmedH s'.vm := by rw [hvm]; exact State.WarmedH.refl s
  have hK' : zK Δ s' := zK.warm hW0 hK
  have hU' : vx_Zq Bundle.tN "UNASSIGNED_STACK" Bundle.steD (zA Δ) s' s'.heap := by rw [hhp]; exact vx_Zq.moved hW0.alike (hE.1.kept S.2.1)
  have hN' : vx_Zq Bundle.tN "SUPPRESSED_SENTINEL" Bundle.listD (zA Δ) s' s'.heap := by rw [hhp]; exact vx_Zq.moved hW0.alike (hE.2.1.kept S.2.1)
  have h : ∀ c ∈ zNat0 RX8 157, c.before args s' = true := vx_own (fun c hc => zw hK' (zthN c hc).1 (zthN c hc).2) (vx_isRefq hU'.1) (vx_isRefq hN'.1) hU'.2.word hN'.2.word
  have hown' : s'.vm.findClass RX8 = some m.cls := by rw [hvm, ← hM]; exact C.2.2.2.1
  have hins : (Cond.instantiable zNS 6).before args s' = true := h _ (by simp [zNat0])
  obtain ⟨vm₁, cX, kX, hfX, hkX, -, -, X₁, st1⟩ := Y.newCold C.1 (own := RX8) (C := zNS) (index := 153) (n := 6) hown' (zw hK' zthN1 rfl) hins (zw hK' zthN2 rfl)
    (g := F0 m pc ls' (st.map (zv ρ))) rfl (by rw [hb]; exact d0) (Nat.le_refl _) (Nat.le_refl _)
  generalize hT1 : (T.setVm vm₁).pushCell { cls := cX, slots := kX.instanceTypes.map defaultValue, vm := .none } = T1 at X₁ st1
  have hcat : (Value.ref T.heap.size).category = 1 := rfl
  have hcellA : T1.heap[T.heap.size]? = some (freshCell cX kX) := by rw [← hT1]; exact State.heap_pushCell_size _ _
  have d3' : decode c.code (pc + 3) = .ok (.dup, 1) := by rw [hb]; exact d3
  have d4' : decode c.code (pc + 4) = .ok (.ldc_w is, 3) := by rw [hb]; exact d4
  have hstr' : vk_R RX8 is text (zsa Δ j) s' := hK'.2.2.2 _ hstr
  have hRl' : (((st.map (zv ρ)).map fun v => v.category).sum) + 82 ≤ R.locals := by rw [zcats]; exact hRl
  obtain ⟨U, hsteps, hrun, hend, hW, hsame, ce, hce, hO1, hO2⟩ := zctorN X₁ C.1 htr (own := RX8) (ic := 157) hown' h (vx_isRefq hU'.1) (vx_isRefq hN'.1) (fun x hx => nomatch hx) hfX hkX hcellA (by rw [hhp, hT]; exact Nat.le_refl _) (msg := .ref (zsa Δ j)) rfl
    (g := { method := m, pc := pc + 7, locals := ls', stack := .ref (zsa Δ j) :: .ref T.heap.size :: .ref T.heap.size :: st.map (zv ρ), locked := none }) rfl (by rw [C.2.2.1]; exact L.1) rfl rfl (rest := st.map (zv ρ)) rfl
    (by rw [hb]; exact d6) (by rw [hb]; exact d9) (fun x hx => by rw [C.2.2.2.2.2.2.2.1, htb] at hx; cases hx) hRf (by show 2 * 0 + _ + 81 ≤ _; simp only [List.map_cons, List.sum_cons, hcat]; omega) C.2.2.2.2.1
  obtain ⟨f1, f2⟩ := vx_frame hsame
  rw [hhp] at f1 f2
  have hWs : s.WarmedH U.vm := State.WarmedH.trans hW0 hW
  have hcl : s.vm.findClass zNS = some ce.cls := by
    have h9 := hO2
    rw [hvm] at h9
    exact h9
  have hall : s.sameButNew ({ U with vm := s.vm } : State) locs R.cells R.slots := by
    subst hA
    obtain ⟨e1, e2⟩ := hsame
    rw [State.setFrames_setFrames] at e1
    have h2 : (T.setVm s.vm).sameButNew ({ U with vm := s.vm } : State) [] (0 + 1) (0 + 6) := ⟨e1, e2⟩
    have h3 := X.same.trans h2
    rw [List.append_nil] at h3
    exact h3.mono hk hn
  have hq1 : ∀ q : Nat, q < H.size → U.heap[q]? = H[q]? := fun q hq => f2 q hq (fun z hz => nomatch hz)
  refine ⟨U, ?_, .threw T.heap.size, hrun, hend, Or.inr ⟨T.heap.size, rfl, zNS, ce, locs, ⟨ρ, w, hq, r.kept hq1, G, Nat.le_trans S.1 f1, fun q g1 g2 => (hq1 q (Nat.lt_of_lt_of_le g1 S.1)).trans (S.2.1 q g1 g2)⟩, hce, hO1, hcl, hWs, hall, S.2.2⟩⟩
  refine st1 _ ?_
  show Steps p.tables e below (T1.setTop { method := m, pc := pc + 3, locals := ls', stack := .ref T.heap.size :: st.map (zv ρ), locked := none }) _
  jvm_step X₁.here [X₁.here.top, C.1, d3', Value.category]
  exact X₁.ldcStringW C.1 (own := RX8) (text := text) (index := is) (a := zsa Δ j) hown' hstr'.1 hstr'.2
    (g := { method := m, pc := pc + 4, locals := ls', stack := .ref T.heap.size :: .ref T.heap.size :: st.map (zv ρ), locked := none }) rfl d4' _ hsteps
