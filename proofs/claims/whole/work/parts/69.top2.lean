/-! LetterTown: calls that may throw, what is needed of their numbers -/
theorem zJ_xV0 {Δ : zD} {M : zMI} {R : Room} {fx : Bool} {sh0 : zSh} {QR : Option Value → zW → Prop} {QX : String → zW → Prop} {k n pc : Nat} {ls : List (Nat × Value)} {st : List Value} {w : zW} {y : MethodName} {M2 : zMI} {h mc ms idx i ci : Nat} {P : Option Value → zW → Prop} {X : String → zW → Prop} (hd : decode M.2.1 pc = .ok (.invokevirtual idx, 3)) (hs : zSV M.1 idx y) (hp : Cond.methodLink M.1 idx y ∈ lw_tbl) (hf : zMf y M2 0) (hM : zM Δ h mc ms true y M2 (.ref i :: []) w P X) (htb : M.2.2.2.2.1 = []) (hi : w.1 i = some (.inl ci)) (hcy : (vwCl[ci]?).map (fun q => q.1) = some y.cls) (hst : (st.map fun v => v.category).sum ≤ 8) (hR : h + 1 ≤ R.frames ∧ 38 * h + 38 ≤ R.locals) (hc : k + mc ≤ R.cells ∧ n + ms ≤ R.slots) (kk : ∀ r w2, P r w2 → zJ Δ M R fx sh0 QR QX (k + mc) (n + ms) (pc + 3) ls (zpush r st) w2) (kx : ∀ E w2, X E w2 → QX E w2) : zJ Δ M R fx sh0 QR QX k n pc ls (.ref i :: st) w := zJ_callV (As := []) hd hs hf hM (Or.inl hp) hi hcy rfl (Or.inl rfl) hst hR hc kk (fun E w2 h => zT_out htb hc.1 hc.2 (kx E w2 h))
theorem zJ_yV0 {Δ : zD} {M : zMI} {R : Room} {fx : Bool} {sh0 : zSh} {QR : Option Value → zW → Prop} {QX : String → zW → Prop} {k n pc : Nat} {ls : List (Nat × Value)} {st : List Value} {w : zW} {y : MethodName} {M2 : zMI} {h mc ms idx i ci : Nat} {P : Option Value → zW → Prop} {X : String → zW → Prop} (hd : decode M.2.1 pc = .ok (.invokevirtual idx, 3)) (hs : zSV M.1 idx y) (hp : Cond.methodLink M.1 idx y ∈ lw_tbl) (hf : zMf y M2 0) (hM : zM Δ h mc ms false y M2 (.ref i :: []) w P X) (htb : M.2.2.2.2.1 = []) (hi : w.1 i = some (.inl ci)) (hcy : (vwCl[ci]?).map (fun q => q.1) = some y.cls) (hok : fx = false ∧ st.all (zokv w) = true ∧ ls.all (fun q => zokv w q.2) = true) (hst : (st.map fun v => v.category).sum ≤ 8) (hR : h + 1 ≤ R.frames ∧ 38 * h + 38 ≤ R.locals) (hc : k + mc ≤ R.cells ∧ n + ms ≤ R.slots) (kk : ∀ r w2, P r w2 → zJ Δ M R fx sh0 QR QX (k + mc) (n + ms) (pc + 3) ls (zpush r st) w2) (kx : ∀ E w2, X E w2 → QX E w2) : zJ Δ M R fx sh0 QR QX k n pc ls (.ref i :: st) w := zJ_callV (As := []) hd hs hf hM (Or.inl hp) hi hcy rfl (Or.inr hok) hst hR hc kk (fun E w2 h => zT_out htb hc.1 hc.2 (kx E w2 h))
theorem zJ_xV1 {Δ : zD} {M : zMI} {R : Room} {fx : Bool} {sh0 : zSh} {QR : Option Value → zW → Prop} {QX : String → zW → Prop} {k n pc : Nat} {ls : List (Nat × Value)} {st : List Value} {w : zW} {y : MethodName} {M2 : zMI} {h mc ms idx i ci : Nat} {a1 : Value} {P : Option Value → zW → Prop} {X : String → zW → Prop} (hd : decode M.2.1 pc = .ok (.invokevirtual idx, 3)) (hs : zSV M.1 idx y) (hp : Cond.methodLink M.1 idx y ∈ lw_tbl) (hf : zMf y M2 1) (hM : zM Δ h mc ms true y M2 (.ref i :: [a1]) w P X) (htb : M.2.2.2.2.1 = []) (hi : w.1 i = some (.inl ci)) (hcy : (vwCl[ci]?).map (fun q => q.1) = some y.cls) (hst : (st.map fun v => v.category).sum ≤ 8) (hR : h + 1 ≤ R.frames ∧ 38 * h + 38 ≤ R.locals) (hc : k + mc ≤ R.cells ∧ n + ms ≤ R.slots) (kk : ∀ r w2, P r w2 → zJ Δ M R fx sh0 QR QX (k + mc) (n + ms) (pc + 3) ls (zpush r st) w2) (kx : ∀ E w2, X E w2 → QX E w2) : zJ Δ M R fx sh0 QR QX k n pc ls (a1 :: .ref i :: st) w := zJ_callV (As := [a1]) hd hs hf hM (Or.inl hp) hi hcy rfl (Or.inl rfl) hst hR hc kk (fun E w2 h => zT_out htb hc.1 hc.2 (kx E w2 h))
theorem zJ_yV1 {Δ : zD} {M : zMI} {R : Room} {fx : Bool} {sh0 : zSh} {QR : Option Value → zW → Prop} {QX : String → zW → Prop} {k n pc : Nat} {ls : List (Nat × Value)} {st : List Value} {w : zW} {y : MethodName} {M2 : zMI} {h mc ms idx i ci : Nat} {a1 : Value} {P : Option Value → zW → Prop} {X : String → zW → Prop} (hd : decode M.2.1 pc = .ok (.invokevirtual idx, 3)) (hs : zSV M.1 idx y) (hp : Cond.methodLink M.1 idx y ∈ lw_tbl) (hf : zMf y M2 1) (hM : zM Δ h mc ms false y M2 (.ref i :: [a1]) w P X) (htb : M.2.2.2.2.1 = []) (hi : w.1 i = some (.inl ci)) (hcy : (vwCl[ci]?).map (fun q => q.1) = some y.cls) (hok : fx = false ∧ st.all (zokv w) = true ∧ ls.all (fun q => zokv w q.2) = true) (hst : (st.map fun v => v.category).sum ≤ 8) (hR : h + 1 ≤ R.frames ∧ 38 * h + 38 ≤ R.locals) (hc : k + mc ≤ R.cells ∧ n + ms ≤ R.slots) (kk : ∀ r w2, P r w2 → zJ Δ M R fx sh0 QR QX (k + mc) (n + ms) (pc + 3) ls (zpush r st) w2) (kx : ∀ E w2, X E w2 → QX E w2) : zJ Δ M R fx sh0 QR QX k n pc ls (a1 :: .ref i :: st) w := zJ_callV (As := [a1]) hd hs hf hM (Or.inl hp) hi hcy rfl (Or.inr hok) hst hR hc kk (fun E w2 h => zT_out htb hc.1 hc.2 (kx E w2 h))
theorem zJ_xV2 {Δ : zD} {M : zMI} {R : Room} {fx : Bool} {sh0 : zSh} {QR : Option Value → zW → Prop} {QX : String → zW → Prop} {k n pc : Nat} {ls : List (Nat × Value)} {st : List Value} {w : zW} {y : MethodName} {M2 : zMI} {h mc ms idx i ci : Nat} {a1 a2 : Value} {P : Option Value → zW → Prop} {X : String → zW → Prop} (hd : decode M.2.1 pc = .ok (.invokevirtual idx, 3)) (hs : zSV M.1 idx y) (hp : Cond.methodLink M.1 idx y ∈ lw_tbl) (hf : zMf y M2 2) (hM : zM Δ h mc ms true y M2 (.ref i :: [a1, a2]) w P X) (htb : M.2.2.2.2.1 = []) (hi : w.1 i = some (.inl ci)) (hcy : (vwCl[ci]?).map (fun q => q.1) = some y.cls) (hst : (st.map fun v => v.category).sum ≤ 8) (hR : h + 1 ≤ R.frames ∧ 38 * h + 38 ≤ R.locals) (hc : k + mc ≤ R.cells ∧ n + ms ≤ R.slots) (kk : ∀ r w2, P r w2 → zJ Δ M R fx sh0 QR QX (k + mc) (n + ms) (pc + 3) ls (zpush r st) w2) (kx : ∀ E w2, X E w2 → QX E w2) : zJ Δ M R fx sh0 QR QX k n pc ls (a2 :: a1 :: .ref i :: st) w := zJ_callV (As := [a1, a2]) hd hs hf hM (Or.inl hp) hi hcy rfl (Or.inl rfl) hst hR hc kk (fun E w2 h => zT_out htb hc.1 hc.2 (kx E w2 h))
theorem zJ_yV2 {Δ : zD} {M : zMI} {R : Room} {fx : Bool} {sh0 : zSh} {QR : Option Value → zW → Prop} {QX : String → zW → Prop} {k n pc : Nat} {ls : List (Nat × Value)} {st : List Value} {w : zW} {y : MethodName} {M2 : zMI} {h mc ms idx i ci : Nat} {a1 a2 : Value} {P : Option Value → zW → Prop} {X : String → zW → Prop} (hd : decode M.2.1 pc = .ok (.invokevirtual idx, 3)) (hs : zSV M.1 idx y) (hp : Cond.methodLink M.1 idx y ∈ lw_tbl) (hf : zMf y M2 2) (hM : zM Δ h mc ms false y M2 (.ref i :: [a1, a2]) w P X) (htb : M.2.2.2.2.1 = []) (hi : w.1 i = some (.inl ci)) (hcy : (vwCl[ci]?).map (fun q => q.1) = some y.cls) (hok : fx = false ∧ st.all (zokv w) = true ∧ ls.all (fun q => zokv w q.2) = true) (hst : (st.map fun v => v.category).sum ≤ 8) (hR : h + 1 ≤ R.frames ∧ 38 * h + 38 ≤ R.locals) (hc : k + mc ≤ R.cells ∧ n + ms ≤ R.slots) (kk : ∀ r w2, P r w2 → zJ Δ M R fx sh0 QR QX (k + mc) (n + ms) (pc + 3) ls (zpush r st) w2) (kx : ∀ E w2, X E w2 → QX E w2) : zJ Δ M R fx sh0 QR QX k n pc ls (a2 :: a1 :: .ref i :: st) w := zJ_callV (As := [a1, a2]) hd hs hf hM (Or.inl hp) hi hcy rfl (Or.inr hok) hst hR hc kk (fun E w2 h => zT_out htb hc.1 hc.2 (kx E w2 h))
theorem zJ_xV3 {Δ : zD} {M : zMI} {R : Room} {fx : Bool} {sh0 : zSh} {QR : Option Value → zW → Prop} {QX : String → zW → Prop} {k n pc : Nat} {ls : List (Nat × Value)} {st : List Value} {w : zW} {y : MethodName} {M2 : zMI} {h mc ms idx i ci : Nat} {a1 a2 a3 : Value} {P : Option Value → zW → Prop} {X : String → zW → Prop} (hd : decode M.2.1 pc = .ok (.invokevirtual idx, 3)) (hs : zSV M.1 idx y) (hp : Cond.methodLink M.1 idx y ∈ lw_tbl) (hf : zMf y M2 3) (hM : zM Δ h mc ms true y M2 (.ref i :: [a1, a2, a3]) w P X) (htb : M.2.2.2.2.1 = []) (hi : w.1 i = some (.inl ci)) (hcy : (vwCl[ci]?).map (fun q => q.1) = some y.cls) (hst : (st.map fun v => v.category).sum ≤ 8) (hR : h + 1 ≤ R.frames ∧ 38 * h + 38 ≤ R.locals) (hc : k + mc ≤ R.cells ∧ n + ms ≤ R.slots) (kk : ∀ r w2, P r w2 → zJ Δ M R fx sh0 QR QX (k + mc) (n + ms) (pc + 3) ls (zpush r st) w2) (kx : ∀ E w2, X E w2 → QX E w2) : zJ Δ M R fx sh0 QR QX k n pc ls (a3 :: a2 :: a1 :: .ref i :: st) w := zJ_callV (As := [a1, a2, a3]) hd hs hf hM (Or.inl hp) hi hcy rfl (Or.inl rfl) hst hR hc kk (fun E w2 h => zT_out htb hc.1 hc.2 (kx E w2 h))
theorem zJ_yV3 {Δ : zD} {M : zMI} {R : Room} {fx : Bool} {sh0 : zSh} {QR : Option Value → zW → Prop} {QX : String → zW → Prop} {k n pc : Nat} {ls : List (Nat × Value)} {st : List Value} {w : zW} {y : MethodName} {M2 : zMI} {h mc ms idx i ci : Nat} {a1 a2 a3 : Value} {P : Option Value → zW → Prop} {X : String → zW → Prop} (hd : decode M.2.1 pc = .ok (.invokevirtual idx, 3)) (hs : zSV M.1 idx y) (hp : Cond.methodLink M.1 idx y ∈ lw_tbl) (hf : zMf y M2 3) (hM : zM Δ h mc ms false y M2 (.ref i :: [a1, a2, a3]) w P X) (htb : M.2.2.2.2.1 = []) (hi : w.1 i = some (.inl ci)) (hcy : (vwCl[ci]?).map (fun q => q.1) = some y.cls) (hok : fx = false ∧ st.all (zokv w) = true ∧ ls.all (fun q => zokv w q.2) = true) (hst : (st.map fun v => v.category).sum ≤ 8) (hR : h + 1 ≤ R.frames ∧ 38 * h + 38 ≤ R.locals) (hc : k + mc ≤ R.cells ∧ n + ms ≤ R.slots) (kk : ∀ r w2, P r w2 → zJ Δ M R fx sh0 QR QX (k + mc) (n + ms) (pc + 3) ls (zpush r st) w2) (kx : ∀ E w2, X E w2 → QX E w2) : zJ Δ M R fx sh0 QR QX k n pc ls (a3 :: a2 :: a1 :: .ref i :: st) w := zJ_callV (As := [a1, a2, a3]) hd hs hf hM (Or.inl hp) hi hcy rfl (Or.inr hok) hst hR hc kk (fun E w2 h => zT_out htb hc.1 hc.2 (kx E w2 h))
theorem zJ_xV4 {Δ : zD} {M : zMI} {R : Room} {fx : Bool} {sh0 : zSh} {QR : Option Value → zW → Prop} {QX : String → zW → Prop} {k n pc : Nat} {ls : List (Nat × Value)} {st : List Value} {w : zW} {y : MethodName} {M2 : zMI} {h mc ms idx i ci : Nat} {a1 a2 a3 a4 : Value} {P : Option Value → zW → Prop} {X : String → zW → Prop} (hd : decode M.2.1 pc = .ok (.invokevirtual idx, 3)) (hs : zSV M.1 idx y) (hp : Cond.methodLink M.1 idx y ∈ lw_tbl) (hf : zMf y M2 4) (hM : zM Δ h mc ms true y M2 (.ref i :: [a1, a2, a3, a4]) w P X) (htb : M.2.2.2.2.1 = []) (hi : w.1 i = some (.inl ci)) (hcy : (vwCl[ci]?).map (fun q => q.1) = some y.cls) (hst : (st.map fun v => v.category).sum ≤ 8) (hR : h + 1 ≤ R.frames ∧ 38 * h + 38 ≤ R.locals) (hc : k + mc ≤ R.cells ∧ n + ms ≤ R.slots) (kk : ∀ r w2, P r w2 → zJ Δ M R fx sh0 QR QX (k + mc) (n + ms) (pc + 3) ls (zpush r st) w2) (kx : ∀ E w2, X E w2 → QX E w2) : zJ Δ M R fx sh0 QR QX k n pc ls (a4 :: a3 :: a2 :: a1 :: .ref i :: st) w := zJ_callV (As := [a1, a2, a3, a4]) hd hs hf hM (Or.inl hp) hi hcy rfl (Or.inl rfl) hst hR hc kk (fun E w2 h => zT_out htb hc.1 hc.2 (kx E w2 h))
theorem zJ_yV4 {Δ : zD} {M : zMI} {R : Room} {fx : Bool} {sh0 : zSh} {QR : Option Value → zW → Prop} {QX : String → zW → Prop} {k n pc : Nat} {ls : List (Nat × Value)} {st : List Value} {w : zW} {y : MethodName} {M2 : zMI} {h mc ms idx i ci : Nat} {a1 a2 a3 a4 : Value} {P : Option Value → zW → Prop} {X : String → zW → Prop} (hd : decode M.2.1 pc = .ok (.invokevirtual idx, 3)) (hs : zSV M.1 idx y) (hp : Cond.methodLink M.1 idx y ∈ lw_tbl) (hf : zMf y M2 4) (hM : zM Δ h mc ms false y M2 (.ref i :: [a1, a2, a3, a4]) w P X) (htb : M.2.2.2.2.1 = []) (hi : w.1 i = some (.inl ci)) (hcy : (vwCl[ci]?).map (fun q => q.1) = some y.cls) (hok : fx = false ∧ st.all (zokv w) = true ∧ ls.all (fun q => zokv w q.2) = true) (hst : (st.map fun v => v.category).sum ≤ 8) (hR : h + 1 ≤ R.frames ∧ 38 * h + 38 ≤ R.locals) (hc : k + mc ≤ R.cells ∧ n + ms ≤ R.slots) (kk : ∀ r w2, P r w2 → zJ Δ M R fx sh0 QR QX (k + mc) (n + ms) (pc + 3) ls (zpush r st) w2) (kx : ∀ E w2, X E w2 → QX E w2) : zJ Δ M R fx sh0 QR QX k n pc ls (a4 :: a3 :: a2 :: a1 :: .ref i :: st) w := zJ_callV (As := [a1, a2, a3, a4]) hd hs hf hM (Or.inl hp) hi hcy rfl (Or.inr hok) hst hR hc kk (fun E w2 h => zT_out htb hc.1 hc.2 (kx E w2 h))
theorem zJ_xV5 {Δ : zD} {M : zMI} {R : Room} {fx : Bool} {sh0 : zSh} {QR : Option Value → zW → Prop} {QX : String → zW → Prop} {k n pc : Nat} {ls : List (Nat × Value)} {st : List Value} {w : zW} {y : MethodName} {M2 : zMI} {h mc ms idx i ci : Nat} {a1 a2 a3 a4 a5 : Value} {P : Option Value → zW → Prop} {X : String → zW → Prop} (hd : decode M.2.1 pc = .ok (.invokevirtual idx, 3)) (hs : zSV M.1 idx y) (hp : Cond.methodLink M.1 idx y ∈ lw_tbl) (hf : zMf y M2 5) (hM : zM Δ h mc ms true y M2 (.ref i :: [a1, a2, a3, a4, a5]) w P X) (htb : M.2.2.2.2.1 = []) (hi : w.1 i = some (.inl ci)) (hcy : (vwCl[ci]?).map (fun q => q.1) = some y.cls) (hst : (st.map fun v => v.category).sum ≤ 8) (hR : h + 1 ≤ R.frames ∧ 38 * h + 38 ≤ R.locals) (hc : k + mc ≤ R.cells ∧ n + ms ≤ R.slots) (kk : ∀ r w2, P r w2 → zJ Δ M R fx sh0 QR QX (k + mc) (n + ms) (pc + 3) ls (zpush r st) w2) (kx : ∀ E w2, X E w2 → QX E w2) : zJ Δ M R fx sh0 QR QX k n pc ls (a5 :: a4 :: a3 :: a2 :: a1 :: .ref i :: st) w := zJ_callV (As := [a1, a2, a3, a4, a5]) hd hs hf hM (Or.inl hp) hi hcy rfl (Or.inl rfl) hst hR hc kk (fun E w2 h => zT_out htb hc.1 hc.2 (kx E w2 h))
theorem zJ_yV5 {Δ : zD} {M : zMI} {R : Room} {fx : Bool} {sh0 : zSh} {QR : Option Value → zW → Prop} {QX : String → zW → Prop} {k n pc : Nat} {ls : List (Nat × Value)} {st : List Value} {w : zW} {y : MethodName} {M2 : zMI} {h mc ms idx i ci : Nat} {a1 a2 a3 a4 a5 : Value} {P : Option Value → zW → Prop} {X : String → zW → Prop} (hd : decode M.2.1 pc = .ok (.invokevirtual idx, 3)) (hs : zSV M.1 idx y) (hp : Cond.methodLink M.1 idx y ∈ lw_tbl) (hf : zMf y M2 5) (hM : zM Δ h mc ms false y M2 (.ref i :: [a1, a2, a3, a4, a5]) w P X) (htb : M.2.2.2.2.1 = []) (hi : w.1 i = some (.inl ci)) (hcy : (vwCl[ci]?).map (fun q => q.1) = some y.cls) (hok : fx = false ∧ st.all (zokv w) = true ∧ ls.all (fun q => zokv w q.2) = true) (hst : (st.map fun v => v.category).sum ≤ 8) (hR : h + 1 ≤ R.frames ∧ 38 * h + 38 ≤ R.locals) (hc : k + mc ≤ R.cells ∧ n + ms ≤ R.slots) (kk : ∀ r w2, P r w2 → zJ Δ M R fx sh0 QR QX (k + mc) (n + ms) (pc + 3) ls (zpush r st) w2) (kx : ∀ E w2, X E w2 → QX E w2) : zJ Δ M R fx sh0 QR QX k n pc ls (a5 :: a4 :: a3 :: a2 :: a1 :: .ref i :: st) w := zJ_callV (As := [a1, a2, a3, a4, a5]) hd hs hf hM (Or.inl hp) hi hcy rfl (Or.inr hok) hst hR hc kk (fun E w2 h => zT_out htb hc.1 hc.2 (kx E w2 h))
def zOk (w c : zW) (Q : Prop) (r : Option Value) : Prop := r = none ∧ c = w ∧ Q
theorem nI_or (x : Int32) : x < 0 ∨ ∃ p, p < 2 ^ 31 ∧ x = nI p := by
  by_cases h : x < 0
  · exact Or.inl h
  · obtain ⟨p, hp, rfl⟩ := nI_of h
    exact Or.inr ⟨p, hp, rfl⟩
set_option maxRecDepth 100000 in
theorem c_needPerson (Δ : zD) (w : zW) (hC : zCs w) (x : Int32) (pp : Nat) (hp : w.2.1 9 0 = nI pp) (hp8 : pp ≤ 8) : zM Δ 6 1 6 true yX8_needPerson mX8_needPerson [.ref 0, .int x] w (fun r c => r = none ∧ c = w ∧ ∃ p, p < pp ∧ x = nI p) (fun E c => E = zNS ∧ c = w ∧ ¬ ∃ p, p < pp ∧ x = nI p) := by
  refine zM.of mfX8_needPerson (Nat.le_of_ble_eq_true rfl) ?_
  refine zJ_iload_n dX8_needPerson_0 rfl ?_
  refine zJ_if_lt (tgt := 15) dX8_needPerson_1 (by decide) (fun h1_ => ?_) (fun h1_ => ?_)
  · have hno : ¬ ∃ p, p < pp ∧ x = nI p := fun ⟨p, h1, h2⟩ => by
      rw [h2] at h1_
      exact absurd ((nI_ltI (a := p) (b := 0) (by omega) (by decide)).mp h1_) (by omega)
    exact zJ_throwNW (text := "no such PERSON") (j := 29) dX8_needPerson_15 dX8_needPerson_18 dX8_needPerson_19 dX8_needPerson_22 dX8_needPerson_25 rfl rfl (by decide +kernel) (Nat.le_of_ble_eq_true rfl) (Nat.le_of_ble_eq_true rfl) (by decide) (by decide) ⟨rfl, rfl, hno⟩
  · refine zJ_iload_n dX8_needPerson_4 rfl ?_
    refine zJ_aload_n dX8_needPerson_5 rfl ?_
    refine zJ_getr dX8_needPerson_6 fX8_32 (by first | rfl | assumption | exact hC.1 _ (by decide)) rfl (by first | rfl | assumption | exact hC.2 _ _ rfl) ?_
    refine zJ_geti dX8_needPerson_9 fX8_117 (by first | rfl | assumption | exact hC.1 _ (by decide)) rfl ?_
    rw [hp]
    refine zJ_icmp_lt (tgt := 26) dX8_needPerson_12 (by decide) (fun h12 => ?_) (fun h12 => ?_)
    · obtain ⟨p, hp1, rfl⟩ := (nI_or x).resolve_left h1_
      have hlt : p < pp := (nI_ltI (by omega) (by omega)).mp h12
      exact zJ_vret dX8_needPerson_26 rfl (by decide) (by decide) ⟨rfl, rfl, p, hlt, rfl⟩
    · have hno : ¬ ∃ p, p < pp ∧ x = nI p := fun ⟨p, h1, h2⟩ => by
        rw [h2] at h12
        exact h12 ((nI_ltI (by omega) (by omega)).mpr h1)
      exact zJ_throwNW (text := "no such PERSON") (j := 29) dX8_needPerson_15 dX8_needPerson_18 dX8_needPerson_19 dX8_needPerson_22 dX8_needPerson_25 rfl rfl (by decide +kernel) (Nat.le_of_ble_eq_true rfl) (Nat.le_of_ble_eq_true rfl) (by decide) (by decide) ⟨rfl, rfl, hno⟩
set_option maxRecDepth 100000 in
theorem c_needPeople (Δ : zD) (w : zW) (hC : zCs w) (pp : Nat) (hp : w.2.1 9 0 = nI pp) (hp8 : pp ≤ 8) : zM Δ 6 1 6 true yX8_needPeople mX8_needPeople [.ref 0] w (fun r c => r = none ∧ c = w ∧ 0 < pp) (fun E c => E = zNS ∧ c = w ∧ ¬ 0 < pp) := by
  refine zM.of mfX8_needPeople (Nat.le_of_ble_eq_true rfl) ?_
  refine zJ_aload_n dX8_needPeople_0 rfl ?_
  refine zJ_getr dX8_needPeople_1 fX8_32 (by first | rfl | assumption | exact hC.1 _ (by decide)) rfl (by first | rfl | assumption | exact hC.2 _ _ rfl) ?_
  refine zJ_geti dX8_needPeople_4 fX8_117 (by first | rfl | assumption | exact hC.1 _ (by decide)) rfl ?_
  rw [hp]
  refine zJ_if_ne (tgt := 21) dX8_needPeople_7 (by decide) (fun h7 => ?_) (fun h7 => ?_)
  · exact zJ_vret dX8_needPeople_21 rfl (by decide) (by decide) ⟨rfl, rfl, Nat.pos_of_ne_zero fun h => h7 (by rw [h]; rfl)⟩
  · have hno : pp = 0 := (nI_eq (b := 0) (by omega) (by decide)).mp h7
    exact zJ_throwNW (text := "no PEOPLE") (j := 30) dX8_needPeople_10 dX8_needPeople_13 dX8_needPeople_14 dX8_needPeople_17 dX8_needPeople_20 rfl rfl (by decide +kernel) (Nat.le_of_ble_eq_true rfl) (Nat.le_of_ble_eq_true rfl) (by decide) (by decide) ⟨rfl, rfl, by omega⟩
set_option maxRecDepth 100000 in
theorem c_needWhat (Δ : zD) (w : zW) (hC : zCs w) (x : Int32) (q : Nat) (hq : q < 16) : zM Δ 6 1 6 true yX8_needWhat mX8_needWhat [.ref 0, .int x, .int (nI q)] w (fun r c => r = none ∧ c = w ∧ ∃ p, p ≤ q ∧ x = nI p) (fun E c => E = zNS ∧ c = w ∧ ¬ ∃ p, p ≤ q ∧ x = nI p) := by
  refine zM.of mfX8_needWhat (Nat.le_of_ble_eq_true rfl) ?_
  refine zJ_iload_n dX8_needWhat_0 rfl ?_
  refine zJ_if_lt (tgt := 9) dX8_needWhat_1 (by decide) (fun h1_ => ?_) (fun h1_ => ?_)
  · have hno : ¬ ∃ p, p ≤ q ∧ x = nI p := fun ⟨p, h1, h2⟩ => by
      rw [h2] at h1_
      exact absurd ((nI_ltI (a := p) (b := 0) (by omega) (by decide)).mp h1_) (by omega)
    exact zJ_throwNW (text := "no such what") (j := 31) dX8_needWhat_9 dX8_needWhat_12 dX8_needWhat_13 dX8_needWhat_16 dX8_needWhat_19 rfl rfl (by decide +kernel) (Nat.le_of_ble_eq_true rfl) (Nat.le_of_ble_eq_true rfl) (by decide) (by decide) ⟨rfl, rfl, hno⟩
  · refine zJ_iload_n dX8_needWhat_4 rfl ?_
    refine zJ_iload_n dX8_needWhat_5 rfl ?_
    refine zJ_icmp_le (tgt := 20) dX8_needWhat_6 (by decide) (fun h6 => ?_) (fun h6 => ?_)
    · obtain ⟨p, hp1, rfl⟩ := (nI_or x).resolve_left h1_
      have hlt : p ≤ q := (nI_leI (by omega) (by omega)).mp h6
      exact zJ_vret dX8_needWhat_20 rfl (by decide) (by decide) ⟨rfl, rfl, p, hlt, rfl⟩
    · have hno : ¬ ∃ p, p ≤ q ∧ x = nI p := fun ⟨p, h1, h2⟩ => by
        rw [h2] at h6
        exact h6 ((nI_leI (by omega) (by omega)).mpr h1)
      exact zJ_throwNW (text := "no such what") (j := 31) dX8_needWhat_9 dX8_needWhat_12 dX8_needWhat_13 dX8_needWhat_16 dX8_needWhat_19 rfl rfl (by decide +kernel) (Nat.le_of_ble_eq_true rfl) (Nat.le_of_ble_eq_true rfl) (by decide) (by decide) ⟨rfl, rfl, hno⟩
set_option maxRecDepth 100000 in
theorem c_needGuess (Δ : zD) (w : zW) (hC : zCs w) (x : Int32) : zM Δ 6 1 6 true yX8_needGuess mX8_needGuess [.ref 0, .int x] w (fun r c => r = none ∧ c = w ∧ ∃ p, p < 4 ∧ x = nI p) (fun E c => E = zNS ∧ c = w ∧ ¬ ∃ p, p < 4 ∧ x = nI p) := by
  refine zM.of mfX8_needGuess (Nat.le_of_ble_eq_true rfl) ?_
  refine zJ_iload_n dX8_needGuess_0 rfl ?_
  refine zJ_if_lt (tgt := 9) dX8_needGuess_1 (by decide) (fun h1_ => ?_) (fun h1_ => ?_)
  · have hno : ¬ ∃ p, p < 4 ∧ x = nI p := fun ⟨p, h1, h2⟩ => by
      rw [h2] at h1_
      exact absurd ((nI_ltI (a := p) (b := 0) (by omega) (by decide)).mp h1_) (by omega)
    exact zJ_throwNW (text := "no such GUESS") (j := 32) dX8_needGuess_9 dX8_needGuess_12 dX8_needGuess_13 dX8_needGuess_16 dX8_needGuess_19 rfl rfl (by decide +kernel) (Nat.le_of_ble_eq_true rfl) (Nat.le_of_ble_eq_true rfl) (by decide) (by decide) ⟨rfl, rfl, hno⟩
  · refine zJ_iload_n dX8_needGuess_4 rfl ?_
    refine zJ_iconst (v := 4) dX8_needGuess_5 (by decide) ?_
    refine zJ_icmp_lt (tgt := 20) dX8_needGuess_6 (by decide) (fun h6 => ?_) (fun h6 => ?_)
    · obtain ⟨p, hp1, rfl⟩ := (nI_or x).resolve_left h1_
      have hlt : p < 4 := (nI_ltI (b := 4) (by omega) (by decide)).mp h6
      exact zJ_vret dX8_needGuess_20 rfl (by decide) (by decide) ⟨rfl, rfl, p, hlt, rfl⟩
    · have hno : ¬ ∃ p, p < 4 ∧ x = nI p := fun ⟨p, h1, h2⟩ => by
        rw [h2] at h6
        exact h6 ((nI_ltI (b := 4) (by omega) (by decide)).mpr h1)
      exact zJ_throwNW (text := "no such GUESS") (j := 32) dX8_needGuess_9 dX8_needGuess_12 dX8_needGuess_13 dX8_needGuess_16 dX8_needGuess_19 rfl rfl (by decide +kernel) (Nat.le_of_ble_eq_true rfl) (Nat.le_of_ble_eq_true rfl) (by decide) (by decide) ⟨rfl, rfl, hno⟩
/-- what every call may rely on: the town told is U -/
def zB (w : zW) (U : zTo) : Prop := zCs w ∧ zTi w 9 U ∧ (zTok U ∧ zcan U ∧ U.1 13 = 0) ∧ zPy w U
def zFb (w c : zW) : Prop := (∀ a, (a < 61 ∨ 79 < a) → c.1 a = w.1 a) ∧ (∀ a j, (a < 14 ∨ (37 < a ∧ a < 61) ∨ 79 < a) → c.2.1 a j = w.2.1 a j ∧ c.2.2.1 a j = w.2.2.1 a j) ∧ (∀ a j, (a < 61 ∨ 79 < a) → (a ≠ 0 ∨ j ≠ 8) → c.2.2.2 a j = w.2.2.2 a j)
theorem zFb.rf (w : zW) : zFb w w := ⟨fun _ _ => rfl, fun _ _ _ => ⟨rfl, rfl⟩, fun _ _ _ _ => rfl⟩
theorem zFb.tr {w c d : zW} (h1 : zFb w c) (h2 : zFb c d) : zFb w d := ⟨fun a h => (h2.1 a h).trans (h1.1 a h), fun a j h => ⟨(h2.2.1 a j h).1.trans (h1.2.1 a j h).1, (h2.2.1 a j h).2.trans (h1.2.1 a j h).2⟩, fun a j x y => (h2.2.2 a j x y).trans (h1.2.2 a j x y)⟩
theorem zFa.b {w c : zW} (h : zFa w c) : zFb w c := ⟨h.1, fun a j ha => h.2.1 a j (by omega), h.2.2⟩
/-- an asked town standing at 14, the Plays as they were -/
def zAs (w c : zW) (U T : zTo) : Prop := zFb w c ∧ c.2.2.2 0 8 = w.2.2.2 0 8 ∧ zB c U ∧ zTi c 14 T
theorem zB.fb {w c : zW} {U : zTo} (h : zB w U) (hf : zFb w c) (hp : zPy c U) : zB c U := by
  obtain ⟨h1, h2, h3, h4⟩ := h
  refine ⟨?_, ?_, h3, hp⟩
  · refine ⟨fun i hi => (hf.1 i (Or.inl hi)).trans (h1.1 i hi), fun i k hs => ?_⟩
    have hi : i < 61 := Nat.lt_of_not_le fun hi => by
      have : zRC i k = none := by
        simp only [zRC]
        rw [List.getElem?_eq_none (l := zRCl) (show zRCl.length ≤ i from Nat.le_trans (by decide) hi)]
        simp
      rw [this] at hs; cases hs
    have h8 : i ≠ 0 ∨ k ≠ 8 := Classical.byContradiction fun hn => by
      have h1 : i = 0 := by omega
      have h2 : k = 8 := by omega
      subst h1; subst h2
      exact absurd hs (by decide)
    exact (hf.2.2 i k (Or.inl hi) h8).trans (h1.2 i k hs)
  · exact h2.eq (h2.1.ff2 (fun a ha => hf.1 _ (by omega)) (fun j _ => hf.2.2 9 j (by omega) (by omega))) (fun a j ha => (hf.2.1 (9 + a) j (by omega)).1)
theorem zAs.of {w c : zW} {U T : zTo} (h : zB w U) (hs : c.1 = w.1) (hr : c.2.2 = w.2.2) (hi : ∀ a j, (a < 14 ∨ 18 < a) → c.2.1 a j = w.2.1 a j) (hT : zTi c 14 T) : zAs w c U T := by
  have hf : zFb w c := ⟨fun a _ => by rw [hs], fun a j ha => ⟨hi a j (by omega), by rw [hr]⟩, fun a j _ _ => by rw [hr]⟩
  refine ⟨hf, by rw [hr], h.fb hf ?_, hT⟩
  exact h.2.2.2.out (fun a _ => by rw [hs]) (fun a j _ => by rw [hr]) (fun a j ha => ⟨hi a j (by omega), by rw [hr]⟩) hs (by rw [hr])
theorem zTn14 {w : zW} (hC : zCs w) : zTn w 14 := ⟨hC.1 _ (by decide), hC.2 _ _ rfl, hC.2 _ _ rfl, hC.2 _ _ rfl, hC.2 _ _ rfl, hC.1 _ (by decide), hC.1 _ (by decide), hC.1 _ (by decide), hC.1 _ (by decide)⟩
/-- asked.copy(told) -/
theorem zAs.copy {w : zW} {U : zTo} (h : zB w U) : zAs w (ztowc w 14 9) U U := by
  refine zAs.of h rfl rfl (fun a j ha => ztow_o (by omega)) ?_
  refine h.2.1.eq (zTn14 h.1) (fun a j ha => ?_)
  rcases (by omega : a = 0 ∨ a = 1 ∨ a = 2 ∨ a = 3 ∨ a = 4) with h | h | h | h | h <;> subst h <;> simp [ztowc, ztow]
theorem zAs.tr {w c d : zW} {U T S : zTo} (h1 : zAs w c U T) (h2 : zAs c d U S) : zAs w d U S := ⟨h1.1.tr h2.1, h2.2.1.trans h1.2.1, h2.2.2.1, h2.2.2.2⟩
theorem zsame.rf (U : zTo) : zsame U U := ⟨rfl, rfl, rfl, rfl, rfl⟩
