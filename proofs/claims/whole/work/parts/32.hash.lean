/-! contracts that only say what holds behind; tables with linear probing; the growth of the HANDS -/
def zMp (Δ : zD) (h : Nat) (y : MethodName) (M : zMI) (as : List Value) (w : zW) (QR : Option Value → zW → Prop) : Prop := zM Δ h 0 0 true y M as w QR (fun _ _ => False)
theorem zMp.of {Δ : zD} {h n : Nat} {y : MethodName} {M : zMI} {as : List Value} {w : zW} {P : Option Value → zW → Prop} (hf : zMf y M n) (hlen : (lg_sl as).length ≤ M.2.2.1)
    (body : ∀ QR : Option Value → zW → Prop, (∀ r w', P r w' → QR r w') → zJ Δ M (zRm h 0 0) true w.1 QR (fun _ _ => False) 0 0 0 (lv_args 0 as) [] w) : zMp Δ h y M as w P := zM.of hf hlen (body _ (fun _ _ h => h))
theorem zMp.mono {Δ : zD} {h : Nat} {y : MethodName} {M : zMI} {as : List Value} {w : zW} {P Q : Option Value → zW → Prop} (hM : zMp Δ h y M as w P) (h1 : ∀ r w', P r w' → Q r w') : zMp Δ h y M as w Q := zM.mono hM h1 (fun _ _ h => h)
theorem zMd.p {Δ : zD} {h : Nat} {y : MethodName} {M : zMI} {as : List Value} {w : zW} {r : Option Value} {w' : zW} {Q : Option Value → zW → Prop} (hM : zMd Δ h 0 0 true y M as w r w') (hq : Q r w') : zMp Δ h y M as w Q := zM.mono hM (fun _ _ h => by obtain ⟨rfl, rfl⟩ := h; exact hq) (fun _ _ h => h)
theorem zJ_eV0 {Δ : zD} {M : zMI} {R : Room} {fx : Bool} {sh0 : zSh} {QR : Option Value → zW → Prop} {QX : String → zW → Prop} {k n pc : Nat} {ls : List (Nat × Value)} {st : List Value} {w : zW} {y : MethodName} {M2 : zMI} {h idx i ci : Nat} {P : Option Value → zW → Prop} (hd : decode M.2.1 pc = .ok (.invokevirtual idx, 3)) (hs : zSV M.1 idx y) (hf : zMf y M2 0) (hM : zMp Δ h y M2 (.ref i :: []) w P) (hi : w.1 i = some (.inl ci)) (hcy : (vwCl[ci]?).map (fun q => q.1) = some y.cls) (hst : (st.map fun v => v.category).sum ≤ 8) (hR : h + 1 ≤ R.frames ∧ 38 * h + 38 ≤ R.locals) (hc : k ≤ R.cells ∧ n ≤ R.slots) (kk : ∀ r w2, P r w2 → zJ Δ M R fx sh0 QR QX k n (pc + 3) ls (zpush r st) w2) : zJ Δ M R fx sh0 QR QX k n pc ls (.ref i :: st) w := zJ_callV (As := []) hd hs hf hM (Or.inr (fun _ _ h => h)) hi hcy rfl (Or.inl rfl) hst hR hc kk (fun E w2 h => h.elim)
theorem zJ_eV1 {Δ : zD} {M : zMI} {R : Room} {fx : Bool} {sh0 : zSh} {QR : Option Value → zW → Prop} {QX : String → zW → Prop} {k n pc : Nat} {ls : List (Nat × Value)} {st : List Value} {w : zW} {y : MethodName} {M2 : zMI} {h idx i ci : Nat} {a1 : Value} {P : Option Value → zW → Prop} (hd : decode M.2.1 pc = .ok (.invokevirtual idx, 3)) (hs : zSV M.1 idx y) (hf : zMf y M2 1) (hM : zMp Δ h y M2 (.ref i :: [a1]) w P) (hi : w.1 i = some (.inl ci)) (hcy : (vwCl[ci]?).map (fun q => q.1) = some y.cls) (hst : (st.map fun v => v.category).sum ≤ 8) (hR : h + 1 ≤ R.frames ∧ 38 * h + 38 ≤ R.locals) (hc : k ≤ R.cells ∧ n ≤ R.slots) (kk : ∀ r w2, P r w2 → zJ Δ M R fx sh0 QR QX k n (pc + 3) ls (zpush r st) w2) : zJ Δ M R fx sh0 QR QX k n pc ls (a1 :: .ref i :: st) w := zJ_callV (As := [a1]) hd hs hf hM (Or.inr (fun _ _ h => h)) hi hcy rfl (Or.inl rfl) hst hR hc kk (fun E w2 h => h.elim)
theorem zJ_eS1 {Δ : zD} {M : zMI} {R : Room} {fx : Bool} {sh0 : zSh} {QR : Option Value → zW → Prop} {QX : String → zW → Prop} {k n pc : Nat} {ls : List (Nat × Value)} {st : List Value} {w : zW} {y : MethodName} {M2 : zMI} {h idx : Nat} {a1 : Value} {P : Option Value → zW → Prop} (hd : decode M.2.1 pc = .ok (.invokestatic idx, 3)) (hs : zSS M.1 idx y) (hf : zMf y M2 1) (hM : zMp Δ h y M2 [a1] w P) (hst : (st.map fun v => v.category).sum ≤ 8) (hR : h + 1 ≤ R.frames ∧ 38 * h + 38 ≤ R.locals) (hc : k ≤ R.cells ∧ n ≤ R.slots) (kk : ∀ r w2, P r w2 → zJ Δ M R fx sh0 QR QX k n (pc + 3) ls (zpush r st) w2) : zJ Δ M R fx sh0 QR QX k n pc ls (a1 :: st) w := zJ_callS (As := [a1]) hd hs hf hM (Or.inr (fun _ _ h => h)) rfl (Or.inl rfl) hst hR hc kk (fun E w2 h => h.elim)
theorem zJ_eV2 {Δ : zD} {M : zMI} {R : Room} {fx : Bool} {sh0 : zSh} {QR : Option Value → zW → Prop} {QX : String → zW → Prop} {k n pc : Nat} {ls : List (Nat × Value)} {st : List Value} {w : zW} {y : MethodName} {M2 : zMI} {h idx i ci : Nat} {a1 a2 : Value} {P : Option Value → zW → Prop} (hd : decode M.2.1 pc = .ok (.invokevirtual idx, 3)) (hs : zSV M.1 idx y) (hf : zMf y M2 2) (hM : zMp Δ h y M2 (.ref i :: [a1, a2]) w P) (hi : w.1 i = some (.inl ci)) (hcy : (vwCl[ci]?).map (fun q => q.1) = some y.cls) (hst : (st.map fun v => v.category).sum ≤ 8) (hR : h + 1 ≤ R.frames ∧ 38 * h + 38 ≤ R.locals) (hc : k ≤ R.cells ∧ n ≤ R.slots) (kk : ∀ r w2, P r w2 → zJ Δ M R fx sh0 QR QX k n (pc + 3) ls (zpush r st) w2) : zJ Δ M R fx sh0 QR QX k n pc ls (a2 :: a1 :: .ref i :: st) w := zJ_callV (As := [a1, a2]) hd hs hf hM (Or.inr (fun _ _ h => h)) hi hcy rfl (Or.inl rfl) hst hR hc kk (fun E w2 h => h.elim)
theorem zJ_eS2 {Δ : zD} {M : zMI} {R : Room} {fx : Bool} {sh0 : zSh} {QR : Option Value → zW → Prop} {QX : String → zW → Prop} {k n pc : Nat} {ls : List (Nat × Value)} {st : List Value} {w : zW} {y : MethodName} {M2 : zMI} {h idx : Nat} {a1 a2 : Value} {P : Option Value → zW → Prop} (hd : decode M.2.1 pc = .ok (.invokestatic idx, 3)) (hs : zSS M.1 idx y) (hf : zMf y M2 2) (hM : zMp Δ h y M2 [a1, a2] w P) (hst : (st.map fun v => v.category).sum ≤ 8) (hR : h + 1 ≤ R.frames ∧ 38 * h + 38 ≤ R.locals) (hc : k ≤ R.cells ∧ n ≤ R.slots) (kk : ∀ r w2, P r w2 → zJ Δ M R fx sh0 QR QX k n (pc + 3) ls (zpush r st) w2) : zJ Δ M R fx sh0 QR QX k n pc ls (a2 :: a1 :: st) w := zJ_callS (As := [a1, a2]) hd hs hf hM (Or.inr (fun _ _ h => h)) rfl (Or.inl rfl) hst hR hc kk (fun E w2 h => h.elim)
theorem zJ_eV3 {Δ : zD} {M : zMI} {R : Room} {fx : Bool} {sh0 : zSh} {QR : Option Value → zW → Prop} {QX : String → zW → Prop} {k n pc : Nat} {ls : List (Nat × Value)} {st : List Value} {w : zW} {y : MethodName} {M2 : zMI} {h idx i ci : Nat} {a1 a2 a3 : Value} {P : Option Value → zW → Prop} (hd : decode M.2.1 pc = .ok (.invokevirtual idx, 3)) (hs : zSV M.1 idx y) (hf : zMf y M2 3) (hM : zMp Δ h y M2 (.ref i :: [a1, a2, a3]) w P) (hi : w.1 i = some (.inl ci)) (hcy : (vwCl[ci]?).map (fun q => q.1) = some y.cls) (hst : (st.map fun v => v.category).sum ≤ 8) (hR : h + 1 ≤ R.frames ∧ 38 * h + 38 ≤ R.locals) (hc : k ≤ R.cells ∧ n ≤ R.slots) (kk : ∀ r w2, P r w2 → zJ Δ M R fx sh0 QR QX k n (pc + 3) ls (zpush r st) w2) : zJ Δ M R fx sh0 QR QX k n pc ls (a3 :: a2 :: a1 :: .ref i :: st) w := zJ_callV (As := [a1, a2, a3]) hd hs hf hM (Or.inr (fun _ _ h => h)) hi hcy rfl (Or.inl rfl) hst hR hc kk (fun E w2 h => h.elim)
theorem zJ_eS3 {Δ : zD} {M : zMI} {R : Room} {fx : Bool} {sh0 : zSh} {QR : Option Value → zW → Prop} {QX : String → zW → Prop} {k n pc : Nat} {ls : List (Nat × Value)} {st : List Value} {w : zW} {y : MethodName} {M2 : zMI} {h idx : Nat} {a1 a2 a3 : Value} {P : Option Value → zW → Prop} (hd : decode M.2.1 pc = .ok (.invokestatic idx, 3)) (hs : zSS M.1 idx y) (hf : zMf y M2 3) (hM : zMp Δ h y M2 [a1, a2, a3] w P) (hst : (st.map fun v => v.category).sum ≤ 8) (hR : h + 1 ≤ R.frames ∧ 38 * h + 38 ≤ R.locals) (hc : k ≤ R.cells ∧ n ≤ R.slots) (kk : ∀ r w2, P r w2 → zJ Δ M R fx sh0 QR QX k n (pc + 3) ls (zpush r st) w2) : zJ Δ M R fx sh0 QR QX k n pc ls (a3 :: a2 :: a1 :: st) w := zJ_callS (As := [a1, a2, a3]) hd hs hf hM (Or.inr (fun _ _ h => h)) rfl (Or.inl rfl) hst hR hc kk (fun E w2 h => h.elim)
theorem zJ_eV4 {Δ : zD} {M : zMI} {R : Room} {fx : Bool} {sh0 : zSh} {QR : Option Value → zW → Prop} {QX : String → zW → Prop} {k n pc : Nat} {ls : List (Nat × Value)} {st : List Value} {w : zW} {y : MethodName} {M2 : zMI} {h idx i ci : Nat} {a1 a2 a3 a4 : Value} {P : Option Value → zW → Prop} (hd : decode M.2.1 pc = .ok (.invokevirtual idx, 3)) (hs : zSV M.1 idx y) (hf : zMf y M2 4) (hM : zMp Δ h y M2 (.ref i :: [a1, a2, a3, a4]) w P) (hi : w.1 i = some (.inl ci)) (hcy : (vwCl[ci]?).map (fun q => q.1) = some y.cls) (hst : (st.map fun v => v.category).sum ≤ 8) (hR : h + 1 ≤ R.frames ∧ 38 * h + 38 ≤ R.locals) (hc : k ≤ R.cells ∧ n ≤ R.slots) (kk : ∀ r w2, P r w2 → zJ Δ M R fx sh0 QR QX k n (pc + 3) ls (zpush r st) w2) : zJ Δ M R fx sh0 QR QX k n pc ls (a4 :: a3 :: a2 :: a1 :: .ref i :: st) w := zJ_callV (As := [a1, a2, a3, a4]) hd hs hf hM (Or.inr (fun _ _ h => h)) hi hcy rfl (Or.inl rfl) hst hR hc kk (fun E w2 h => h.elim)
theorem zJ_eS4 {Δ : zD} {M : zMI} {R : Room} {fx : Bool} {sh0 : zSh} {QR : Option Value → zW → Prop} {QX : String → zW → Prop} {k n pc : Nat} {ls : List (Nat × Value)} {st : List Value} {w : zW} {y : MethodName} {M2 : zMI} {h idx : Nat} {a1 a2 a3 a4 : Value} {P : Option Value → zW → Prop} (hd : decode M.2.1 pc = .ok (.invokestatic idx, 3)) (hs : zSS M.1 idx y) (hf : zMf y M2 4) (hM : zMp Δ h y M2 [a1, a2, a3, a4] w P) (hst : (st.map fun v => v.category).sum ≤ 8) (hR : h + 1 ≤ R.frames ∧ 38 * h + 38 ≤ R.locals) (hc : k ≤ R.cells ∧ n ≤ R.slots) (kk : ∀ r w2, P r w2 → zJ Δ M R fx sh0 QR QX k n (pc + 3) ls (zpush r st) w2) : zJ Δ M R fx sh0 QR QX k n pc ls (a4 :: a3 :: a2 :: a1 :: st) w := zJ_callS (As := [a1, a2, a3, a4]) hd hs hf hM (Or.inr (fun _ _ h => h)) rfl (Or.inl rfl) hst hR hc kk (fun E w2 h => h.elim)
theorem zJ_eV5 {Δ : zD} {M : zMI} {R : Room} {fx : Bool} {sh0 : zSh} {QR : Option Value → zW → Prop} {QX : String → zW → Prop} {k n pc : Nat} {ls : List (Nat × Value)} {st : List Value} {w : zW} {y : MethodName} {M2 : zMI} {h idx i ci : Nat} {a1 a2 a3 a4 a5 : Value} {P : Option Value → zW → Prop} (hd : decode M.2.1 pc = .ok (.invokevirtual idx, 3)) (hs : zSV M.1 idx y) (hf : zMf y M2 5) (hM : zMp Δ h y M2 (.ref i :: [a1, a2, a3, a4, a5]) w P) (hi : w.1 i = some (.inl ci)) (hcy : (vwCl[ci]?).map (fun q => q.1) = some y.cls) (hst : (st.map fun v => v.category).sum ≤ 8) (hR : h + 1 ≤ R.frames ∧ 38 * h + 38 ≤ R.locals) (hc : k ≤ R.cells ∧ n ≤ R.slots) (kk : ∀ r w2, P r w2 → zJ Δ M R fx sh0 QR QX k n (pc + 3) ls (zpush r st) w2) : zJ Δ M R fx sh0 QR QX k n pc ls (a5 :: a4 :: a3 :: a2 :: a1 :: .ref i :: st) w := zJ_callV (As := [a1, a2, a3, a4, a5]) hd hs hf hM (Or.inr (fun _ _ h => h)) hi hcy rfl (Or.inl rfl) hst hR hc kk (fun E w2 h => h.elim)
theorem zJ_eS5 {Δ : zD} {M : zMI} {R : Room} {fx : Bool} {sh0 : zSh} {QR : Option Value → zW → Prop} {QX : String → zW → Prop} {k n pc : Nat} {ls : List (Nat × Value)} {st : List Value} {w : zW} {y : MethodName} {M2 : zMI} {h idx : Nat} {a1 a2 a3 a4 a5 : Value} {P : Option Value → zW → Prop} (hd : decode M.2.1 pc = .ok (.invokestatic idx, 3)) (hs : zSS M.1 idx y) (hf : zMf y M2 5) (hM : zMp Δ h y M2 [a1, a2, a3, a4, a5] w P) (hst : (st.map fun v => v.category).sum ≤ 8) (hR : h + 1 ≤ R.frames ∧ 38 * h + 38 ≤ R.locals) (hc : k ≤ R.cells ∧ n ≤ R.slots) (kk : ∀ r w2, P r w2 → zJ Δ M R fx sh0 QR QX k n (pc + 3) ls (zpush r st) w2) : zJ Δ M R fx sh0 QR QX k n pc ls (a5 :: a4 :: a3 :: a2 :: a1 :: st) w := zJ_callS (As := [a1, a2, a3, a4, a5]) hd hs hf hM (Or.inr (fun _ _ h => h)) rfl (Or.inl rfl) hst hR hc kk (fun E w2 h => h.elim)
/-- a table of m slots: slot to number, each key of K on its path -/
def zHt (m : Nat) (h : zKy → Nat) (K : List zKy) (g : Nat → Option Nat) : Prop :=
  (∀ s x, s < m → g s = some x → x < K.length) ∧
  (∀ (x : Nat) (k : zKy), K[x]? = some k → ∃ d, d < m ∧ g ((h k + d) % m) = some x ∧ ∀ e, e < d → g ((h k + e) % m) ≠ none) ∧
  (∀ s t x, s < m → t < m → g s = some x → g t = some x → s = t) ∧
  (∀ (x y : Nat) (k : zKy), K[x]? = some k → K[y]? = some k → x = y)
theorem zmod_inj {m a i j : Nat} (hij : i < j) (hj : j < m) : (a + i) % m ≠ (a + j) % m := by
  intro h
  have hm : 0 < m := by omega
  have e1 := Nat.div_add_mod (a + i) m
  have e2 := Nat.div_add_mod (a + j) m
  rw [h] at e1
  generalize (a + i) / m = q1 at e1
  generalize (a + j) / m = q2 at e2
  have h3 : m * q2 = m * q1 + (j - i) := by omega
  rcases Nat.lt_or_ge q1 q2 with h4 | h4
  · have : m * (q1 + 1) ≤ m * q2 := Nat.mul_le_mul_left m h4
    rw [Nat.mul_add] at this
    omega
  · have : m * q2 ≤ m * q1 := Nat.mul_le_mul_left m h4
    omega
theorem zHt.find {m : Nat} {h : zKy → Nat} {K : List zKy} {g : Nat → Option Nat} (H : zHt m h K g) (hm : K.length < m) (k : zKy) :
    ∃ d, d < m ∧ (∀ e, e < d → ∃ x, g ((h k + e) % m) = some x ∧ K[x]? ≠ some k) ∧ ((∃ x, g ((h k + d) % m) = some x ∧ K[x]? = some k) ∨ (g ((h k + d) % m) = none ∧ k ∉ K)) := by
  obtain ⟨h1, h2, h3, h4⟩ := H
  have hex : ∃ d, d < m ∧ (g ((h k + d) % m) = none ∨ ∃ x, g ((h k + d) % m) = some x ∧ K[x]? = some k) := by
    refine Classical.byContradiction fun hno => ?_
    have hall : ∀ d, d < m → ∃ x, g ((h k + d) % m) = some x := by
      intro d hd
      cases hg : g ((h k + d) % m) with
      | none => exact absurd ⟨d, hd, Or.inl hg⟩ hno
      | some x => exact ⟨x, rfl⟩
    have hle := fb_holes K.length m (fun d => (g ((h k + d) % m)).getD 0) (fun d hd => by
      obtain ⟨x, hx⟩ := hall d hd
      simp only [hx, Option.getD_some]
      exact h1 _ x (Nat.mod_lt _ (by omega)) hx) (fun i j hij hj he => by
      obtain ⟨x, hx⟩ := hall i (by omega)
      obtain ⟨y, hy⟩ := hall j hj
      simp only [hx, hy, Option.getD_some] at he
      subst he
      exact zmod_inj hij hj (h3 _ _ x (Nat.mod_lt _ (by omega)) (Nat.mod_lt _ (by omega)) hx hy))
    omega
  have hdec : DecidablePred (fun d => g ((h k + d) % m) = none ∨ ∃ x, g ((h k + d) % m) = some x ∧ K[x]? = some k) := fun _ => Classical.propDecidable _
  obtain ⟨d, hd, hp, hlt⟩ := fb_first hex
  refine ⟨d, hd, fun e he => ?_, ?_⟩
  · cases hg : g ((h k + e) % m) with
    | none => exact absurd (Or.inl hg) (hlt e he)
    | some x => exact ⟨x, rfl, fun hx => hlt e he (Or.inr ⟨x, hg, hx⟩)⟩
  · rcases hp with hp | hp
    · refine Or.inr ⟨hp, fun hmem => ?_⟩
      obtain ⟨x, hx⟩ := List.mem_iff_getElem?.mp hmem
      obtain ⟨d2, hd2, hg2, ho2⟩ := h2 x k hx
      rcases Nat.lt_trichotomy d2 d with h5 | h5 | h5
      · exact hlt d2 h5 (Or.inr ⟨x, hg2, hx⟩)
      · subst h5; rw [hp] at hg2; cases hg2
      · exact ho2 d h5 hp
    · exact Or.inl hp
theorem zHt.ins {m : Nat} {h : zKy → Nat} {K : List zKy} {g : Nat → Option Nat} (H : zHt m h K g) {k : zKy} {d : Nat} (hd : d < m) (hb : ∀ e, e < d → ∃ x, g ((h k + e) % m) = some x ∧ K[x]? ≠ some k) (hn : g ((h k + d) % m) = none) (hk : k ∉ K) :
    zHt m h (K ++ [k]) (fun s => if s = (h k + d) % m then some K.length else g s) := by
  obtain ⟨h1, h2, h3, h4⟩ := H
  have hlt : ∀ x k2, K[x]? = some k2 → x < K.length := fun x k2 hx => (List.getElem?_eq_some_iff.mp hx).1
  have hcase : ∀ x k2, (K ++ [k])[x]? = some k2 → (K[x]? = some k2) ∨ (x = K.length ∧ k2 = k) := by
    intro x k2 hx
    by_cases hx2 : x < K.length
    · rw [List.getElem?_append_left hx2] at hx; exact Or.inl hx
    · have h5 : x = K.length := by
        have := (List.getElem?_eq_some_iff.mp hx).1
        simp at this; omega
      subst h5
      rw [List.getElem?_append_right (Nat.le_refl _)] at hx
      simp at hx
      exact Or.inr ⟨rfl, hx.symm⟩
  refine ⟨fun s x hs hx => ?_, fun x k2 hx => ?_, fun s t x hs ht hx hy => ?_, fun x y k2 hx hy => ?_⟩
  · simp only [List.length_append, List.length_cons, List.length_nil]
    simp only at hx
    split at hx
    · cases hx; omega
    · have := h1 s x hs hx; omega
  · rcases hcase x k2 hx with hx | ⟨rfl, rfl⟩
    · obtain ⟨d2, hd2, hg2, ho2⟩ := h2 x k2 hx
      refine ⟨d2, hd2, ?_, fun e he => ?_⟩
      · simp only
        rw [if_neg (fun e => by rw [e, hn] at hg2; cases hg2)]; exact hg2
      · simp only
        split
        · exact fun h => by cases h
        · exact ho2 e he
    · refine ⟨d, hd, by simp, fun e he => ?_⟩
      obtain ⟨x2, hx2, -⟩ := hb e he
      simp only
      split
      · exact fun h => by cases h
      · rw [hx2]; exact fun h => by cases h
  · simp only at hx hy
    split at hx
    · split at hy
      · rename_i e1 e2; rw [e1, e2]
      · cases hx
        have := h1 t _ ht hy; omega
    · split at hy
      · cases hy
        have := h1 s _ hs hx; omega
      · exact h3 s t x hs ht hx hy
  · rcases hcase x k2 hx with hx1 | ⟨hx1, hx2⟩
    · rcases hcase y k2 hy with hy1 | ⟨hy1, hy2⟩
      · exact h4 x y k2 hx1 hy1
      · rw [hy2] at hx1
        exact absurd (List.mem_iff_getElem?.mpr ⟨x, hx1⟩) hk
    · rcases hcase y k2 hy with hy1 | ⟨hy1, -⟩
      · rw [hx2] at hy1
        exact absurd (List.mem_iff_getElem?.mpr ⟨y, hy1⟩) hk
      · rw [hx1, hy1]
theorem zHt.nil (m : Nat) (h : zKy → Nat) : zHt m h [] (fun _ => none) := ⟨fun _ _ _ h => (by cases h), fun x k h => (by simp at h), fun _ _ _ _ _ h => (by cases h), fun x y k h => (by simp at h)⟩
/-! the growth -/
def zins (K : List zKy) (k : zKy) : List zKy := if k ∈ K then K else K ++ [k]
def zgx (T : zTo) (k : zKy) (K : List zKy) : Nat → List zKy
  | 0 => K
  | y + 1 => if zmay T k y then zins (zgx T k K y) (zbk T k y) else zgx T k K y
def zgr (T : zTo) : Nat → List zKy
  | 0 => [zfk T]
  | n + 1 => match (zgr T n)[n]? with
    | none => zgr T n
    | some k => zgx T k (zgr T n) 8
theorem zins_pre (K : List zKy) (k : zKy) : ∃ L, zins K k = K ++ L := by
  unfold zins; split
  · exact ⟨[], by simp⟩
  · exact ⟨[k], rfl⟩
theorem zgx_pre (T : zTo) (k : zKy) (K : List zKy) : ∀ y, ∃ L, zgx T k K y = K ++ L
  | 0 => ⟨[], by simp [zgx]⟩
  | y + 1 => by
    obtain ⟨L, e⟩ := zgx_pre T k K y
    simp only [zgx]; split
    · obtain ⟨L2, e2⟩ := zins_pre (zgx T k K y) (zbk T k y)
      exact ⟨L ++ L2, by rw [e2, e, List.append_assoc]⟩
    · exact ⟨L, e⟩
theorem zgx_add (T : zTo) (k : zKy) (K : List zKy) (y : Nat) : ∀ d, ∃ L, zgx T k K (y + d) = zgx T k K y ++ L
  | 0 => ⟨[], by simp⟩
  | d + 1 => by
    obtain ⟨L, e⟩ := zgx_add T k K y d
    rw [← Nat.add_assoc]; simp only [zgx]; split
    · obtain ⟨L2, e2⟩ := zins_pre (zgx T k K (y + d)) (zbk T k (y + d))
      exact ⟨L ++ L2, by rw [e2, e, List.append_assoc]⟩
    · exact ⟨L, e⟩
theorem zgr_pre (T : zTo) (n : Nat) : ∀ d, ∃ L, zgr T (n + d) = zgr T n ++ L
  | 0 => ⟨[], by simp⟩
  | d + 1 => by
    obtain ⟨L, e⟩ := zgr_pre T n d
    rw [← Nat.add_assoc]
    simp only [zgr]; split
    · exact ⟨L, e⟩
    · obtain ⟨L2, e2⟩ := zgx_pre T (by assumption) (zgr T (n + d)) 8
      exact ⟨L ++ L2, by rw [e2, e, List.append_assoc]⟩
theorem zpre_get {K L M : List zKy} (h : L = K ++ M) {x : Nat} {k : zKy} (hx : K[x]? = some k) : L[x]? = some k := by
  rw [h, List.getElem?_append_left (List.getElem?_eq_some_iff.mp hx).1]; exact hx
theorem zgx_ok {T : zTo} {k : zKy} {K : List zKy} (hk : zkok T k) (hK : ∀ q ∈ K, zkok T q) : ∀ y, y ≤ 8 → ∀ q ∈ zgx T k K y, zkok T q
  | 0, _, q, hq => hK q hq
  | y + 1, hy, q, hq => by
    have ih := zgx_ok hk hK y (by omega)
    simp only [zgx] at hq
    split at hq
    · rename_i hm
      unfold zins at hq
      split at hq
      · exact ih q hq
      · rcases List.mem_append.mp hq with h | h
        · exact ih q h
        · rw [List.mem_singleton.mp h]; exact zkok.bk hk (by omega) hm
    · exact ih q hq
theorem zgr_ok {T : zTo} (hT : zTok T) : ∀ n, ∀ q ∈ zgr T n, zkok T q
  | 0, q, hq => by rw [List.mem_singleton.mp hq]; exact zkok.fk hT
  | n + 1, q, hq => by
    have ih := zgr_ok hT n
    simp only [zgr] at hq
    split at hq
    · exact ih q hq
    · rename_i k hk
      exact zgx_ok (ih k (List.mem_iff_getElem?.mpr ⟨n, hk⟩)) ih 8 (Nat.le_refl _) q hq
/-- all HANDS are in it -/
def zall (T : zTo) (K : List zKy) : Prop := ∃ n, K = zgr T n ∧ K.length ≤ n
theorem zgr_stay (T : zTo) (n : Nat) (h : (zgr T n).length ≤ n) : ∀ d, zgr T (n + d) = zgr T n
  | 0 => rfl
  | d + 1 => by
    have ih := zgr_stay T n h d
    rw [← Nat.add_assoc]
    simp only [zgr]
    rw [ih, List.getElem?_eq_none (by omega)]
theorem zall_one {T : zTo} {K L : List zKy} (hK : zall T K) (hL : zall T L) : K = L := by
  obtain ⟨n, rfl, hn⟩ := hK
  obtain ⟨m, rfl, hm⟩ := hL
  rcases Nat.le_total n m with h | h
  · rw [← Nat.add_sub_cancel' h, zgr_stay T n hn]
  · rw [← Nat.add_sub_cancel' h, zgr_stay T m hm]
/-- there are no more HANDS than that -/
def zfit (T : zTo) (R : Nat) : Prop := ∃ K, zall T K ∧ K.length ≤ R
theorem zgr_len (T : zTo) (n d : Nat) : (zgr T n).length ≤ (zgr T (n + d)).length := by
  obtain ⟨L, e⟩ := zgr_pre T n d
  rw [e, List.length_append]; omega
theorem zfit_no {T : zTo} {R n : Nat} (h : R < (zgr T n).length) : ¬ zfit T R := by
  rintro ⟨K, ⟨m, rfl, hm⟩, hR⟩
  rcases Nat.le_total n m with h2 | h2
  · have := zgr_len T n (m - n)
    rw [Nat.add_sub_cancel' h2] at this
    omega
  · rw [← Nat.add_sub_cancel' h2, zgr_stay T m hm] at h
    omega
/-- the numbers of the HANDS behind number x -/
def zNx (T : zTo) (K : List zKy) (f : Nat → Int32) (x : Nat) (k : zKy) (y : Nat) : Prop := (zmay T k y = true → ∃ c, K[c]? = some (zbk T k y) ∧ f (x * 8 + y) = nI c) ∧ (zmay T k y = false → f (x * 8 + y) = -1)
theorem zNx.app {T : zTo} {K L M : List zKy} {f : Nat → Int32} {x : Nat} {k : zKy} {y : Nat} (h : zNx T K f x k y) (e : L = K ++ M) : zNx T L f x k y :=
  ⟨fun hm => by obtain ⟨c, h1, h2⟩ := h.1 hm; exact ⟨c, zpre_get e h1, h2⟩, h.2⟩
theorem zenc_inj {T : zTo} {k q : zKy} (hT : zTok T) (hk : zkok T k) (hq : zkok T q) (h : zenc T k = zenc T q) : k = q := by
  obtain ⟨a1, a2, a3, a4, a5⟩ := zenc_parts hT hk
  obtain ⟨b1, b2, b3, b4, b5⟩ := zenc_parts hT hq
  rw [h] at a1 a2 a3 a4 a5
  have e1 : k.1 = q.1 := a1.symm.trans b1
  have e2 : k.2.1 = q.2.1 := a2.symm.trans b2
  have e4 : k.2.2.2 = q.2.2.2 := a5.symm.trans b5
  have e3 : k.2.2.1 = q.2.2.1 := by
    have hl : T.1 10 = 0 ∨ T.1 10 = 1 ∨ T.1 10 = 2 := by have := hT.2.2.2.2.2.2.1; omega
    rcases hl with hl | hl | hl
    · have := a3.symm.trans b3
      simpa [hl] using this
    · have := a4.symm.trans b4
      simp only [hl, if_true] at this
      split at this <;> split at this <;> omega
    · rw [hk.2.2.2.2.1 hl, hq.2.2.2.2.1 hl]
  exact Prod.ext e1 (Prod.ext e2 (Prod.ext e3 e4))
