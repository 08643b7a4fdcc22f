/-! the coupling of the class with its model -/
def zo1 (a j : Nat) : Prop := (a = 0 ∧ j = 1) ∨ (a = 100 ∧ j = 14) ∨ a = 1 ∨ a = 113
def zo2 (a j : Nat) : Prop := (a = 0 ∧ j = 2) ∨ (a = 100 ∧ j = 16) ∨ a = 2 ∨ a = 117
def zo3 (a j : Nat) : Prop := (a = 38 ∧ j = 1) ∨ (a = 100 ∧ j = 55) ∨ a = 39 ∨ a = 157
def zo4 (a j : Nat) : Prop := (a = 38 ∧ j = 4) ∨ (a = 100 ∧ j = 56) ∨ a = 40 ∨ a = 41 ∨ a = 158 ∨ a = 159
def zo5 (a j : Nat) : Prop := (a = 42 ∧ j = 2) ∨ a = 43 ∨ a = 44 ∨ a = 162 ∨ a = 163
def zo6 (a j : Nat) : Prop := (a = 47 ∧ j = 2) ∨ (a = 100 ∧ j = 71) ∨ a = 48 ∨ a = 49 ∨ a = 172 ∨ a = 173
def zo7 (a j : Nat) : Prop := (a = 0 ∧ j = 15) ∨ (a = 100 ∧ j = 66) ∨ a = 167
def zo8 (a j : Nat) : Prop := (53 ≤ a ∧ a ≤ 56) ∨ (a = 100 ∧ j = 76) ∨ (178 ≤ a ∧ a ≤ 182)
def zo9 (a j : Nat) : Prop := (57 ≤ a ∧ a ≤ 60) ∨ (a = 100 ∧ j = 77) ∨ (183 ≤ a ∧ a ≤ 187)
def zob (a j : Nat) : Prop := zo1 a j ∨ zo2 a j ∨ zo3 a j ∨ zo4 a j ∨ zo5 a j ∨ zo6 a j ∨ zo7 a j ∨ zo8 a j ∨ zo9 a j
/-- both agree there -/
def zAg (p : Nat → Nat → Prop) (w d : zW) : Prop := ∀ a j, p a j → d.2.1 a j = w.2.1 a j
def zc1 (w : zW) : Prop := ∃ (len : Nat) (tx : Nat → Nat), len ≤ 700 ∧ w.2.1 0 1 = nI len ∧ w.2.1 100 14 = nI len ∧ ∀ i, i < 700 → w.2.1 1 i = nI (tx i) ∧ w.2.1 113 i = nI (tx i) ∧ tx i < 256
def zc2 (w : zW) : Prop := w.2.1 0 2 = w.2.1 100 16 ∧ w.2.1 2 = w.2.1 117
def zc3 (w : zW) (U : zTo) : Prop := ∃ (n : Nat) (f : Nat → Nat), n ≤ 20 ∧ w.2.1 38 1 = nI n ∧ w.2.1 100 55 = nI n ∧ (∀ i, i < n → w.2.1 39 i = nI (f i) ∧ w.2.1 157 i = nI (f i) ∧ f i < U.1 0) ∧ ∀ i, f i < 8
def zc4 (w : zW) (U : zTo) : Prop := ∃ (e : Nat) (fr : Nat → Nat → Nat) (ln : Nat → Nat), e ≤ 20 ∧ w.2.1 38 4 = nI e ∧ w.2.1 100 56 = nI e ∧ (∀ r, r < e → w.2.1 41 r = nI (ln r) ∧ w.2.1 159 r = nI (ln r) ∧ ln r ≤ 20) ∧ (∀ r i, r < e → i < ln r → w.2.1 40 (r * 20 + i) = nI (fr r i) ∧ w.2.1 158 (r * 20 + i) = nI (fr r i) ∧ fr r i < U.1 0) ∧ ∀ r i, fr r i < 8
def zc5 (w : zW) (U : zTo) : Prop := ∃ (tb : Nat) (G : zGt), tb < 16 ∧ w.2.1 42 2 = nI tb ∧ zGok U G ∧ zGi (w.2.1 43) (w.2.1 44) G ∧ zGi (w.2.1 162) (w.2.1 163) G ∧ (∀ g, g < 4 → (tb / 2 ^ g % 2 = 1 ↔ zits (w.2.1 162) g 8 = true)) ∧ (¬ tb = 0 → 0 < U.1 0)
def zc6 (w : zW) : Prop := ∃ (n : Nat) (thr few : Nat → Nat), n ≤ 30 ∧ w.2.1 47 2 = nI n ∧ w.2.1 100 71 = nI n ∧ (∀ k, k < n → w.2.1 48 k = nI (thr k) ∧ w.2.1 172 k = nI (thr k)) ∧ (∀ k, k < n → (w.2.1 49 k = nI (few k) ∧ w.2.1 173 k = nI (few k)) ∧ few k ≤ 8)
def zc7 (w : zW) : Prop := ∃ (code len : Nat), len ≤ 12 ∧ code < 2 ^ 36 ∧ w.2.2.1 0 14 = lN code ∧ w.2.1 0 15 = nI len ∧ w.2.1 100 66 = nI len ∧ ∀ i, i < len → w.2.1 167 i = nI (code / 2 ^ (3 * (len - 1 - i)) % 8)
def zc8 (w : zW) (U : zTo) : Prop := (∃ (wo n : Nat) (S : zRs), zWr w 53 wo n S ∧ w.2.1 100 76 = 1 ∧ zMwk w U wo n S ∧ 0 < U.1 0) ∨ (w.2.1 53 0 = 0 ∧ w.2.1 53 3 = 0 ∧ w.2.1 100 76 = 0)
/-- the model's kept weeks stand so -/
def zMwq (w : zW) (T : zTo) (wo n : Nat) (S : zRs) : Prop := w.2.1 183 0 = S.1 ∧ w.2.1 183 1 = nI wo ∧ wo ≤ 20 ∧ w.2.1 183 2 = nI n ∧ n ≤ 100 ∧ (∀ j, j < n → w.2.1 185 j = zeb (S.2.2 j) ∧ w.2.1 186 j = nI (zeh (S.2.2 j)) ∧ w.2.1 187 j = nI (if zeh (S.2.2 j) = 0 then 0 else zpe T (zeh (S.2.2 j)))) ∧ ∀ p, p < 8 → w.2.1 184 p = nI (S.2.1 p) ∧ S.2.1 p ≤ 200
def zc9 (w : zW) (U : zTo) : Prop := (∃ (wo n : Nat) (S : zRs), zWr w 57 wo n S ∧ w.2.1 100 77 = 1 ∧ zMwq w U wo n S ∧ 0 < U.1 0) ∨ (w.2.1 57 0 = 0 ∧ w.2.1 57 3 = 0 ∧ w.2.1 100 77 = 0)
def zCp (w : zW) (U : zTo) : Prop := zc1 w ∧ zc2 w ∧ zc3 w U ∧ zc4 w U ∧ zc5 w U ∧ zc6 w ∧ zc7 w ∧ zc8 w U ∧ zc9 w U
/-- the law's world between two calls -/
def zKC (w : zW) (U : zTo) : Prop := zB w U ∧ zMu w U ∧ zTsd U ∧ (w.1 190 = some (.inr (true, 1)) ∧ w.1 191 = none) ∧ zCp w U
section ZA
variable {w d : zW} {U : zTo}
theorem zc1.ob (h : zc1 w) (e : zAg zo1 w d) : zc1 d := by
  obtain ⟨len, tx, h1, h2, h3, h4⟩ := h
  exact ⟨len, tx, h1, (e 0 1 (by unfold zo1; omega)).trans h2, (e 100 14 (by unfold zo1; omega)).trans h3, fun i hi => ⟨(e 1 i (by unfold zo1; omega)).trans (h4 i hi).1, (e 113 i (by unfold zo1; omega)).trans (h4 i hi).2.1, (h4 i hi).2.2⟩⟩
theorem zAg.row {p : Nat → Nat → Prop} (e : zAg p w d) (a : Nat) (h : ∀ j, p a j) : d.2.1 a = w.2.1 a := funext fun j => e a j (h j)
theorem zc2.ob (h : zc2 w) (e : zAg zo2 w d) : zc2 d := by
  refine ⟨(e 0 2 (by unfold zo2; omega)).trans (h.1.trans (e 100 16 (by unfold zo2; omega)).symm), ?_⟩
  rw [e.row 2 (fun j => by unfold zo2; omega), e.row 117 (fun j => by unfold zo2; omega)]
  exact h.2
theorem zc3.ob (h : zc3 w U) (e : zAg zo3 w d) : zc3 d U := by
  obtain ⟨n, f, h1, h2, h3, h4, h5⟩ := h
  exact ⟨n, f, h1, (e 38 1 (by unfold zo3; omega)).trans h2, (e 100 55 (by unfold zo3; omega)).trans h3, fun i hi => ⟨(e 39 i (by unfold zo3; omega)).trans (h4 i hi).1, (e 157 i (by unfold zo3; omega)).trans (h4 i hi).2.1, (h4 i hi).2.2⟩, h5⟩
theorem zc4.ob (h : zc4 w U) (e : zAg zo4 w d) : zc4 d U := by
  obtain ⟨n, f, l, h1, h2, h3, h4, h5, h6⟩ := h
  exact ⟨n, f, l, h1, (e 38 4 (by unfold zo4; omega)).trans h2, (e 100 56 (by unfold zo4; omega)).trans h3, fun i hi => ⟨(e 41 i (by unfold zo4; omega)).trans (h4 i hi).1, (e 159 i (by unfold zo4; omega)).trans (h4 i hi).2.1, (h4 i hi).2.2⟩, fun r i hr hi => ⟨(e 40 _ (by unfold zo4; omega)).trans (h5 r i hr hi).1, (e 158 _ (by unfold zo4; omega)).trans (h5 r i hr hi).2.1, (h5 r i hr hi).2.2⟩, h6⟩
theorem zc5.ob (h : zc5 w U) (e : zAg zo5 w d) : zc5 d U := by
  have e3 := e.row 43 (fun j => by unfold zo5; omega)
  have e4 := e.row 44 (fun j => by unfold zo5; omega)
  have e5 := e.row 162 (fun j => by unfold zo5; omega)
  have e6 := e.row 163 (fun j => by unfold zo5; omega)
  have e2 := e 42 2 (by unfold zo5; omega)
  unfold zc5
  rw [e2, e3, e4, e5, e6]
  exact h
theorem zc6.ob (h : zc6 w) (e : zAg zo6 w d) : zc6 d := by
  have e3 := e.row 48 (fun j => by unfold zo6; omega)
  have e4 := e.row 49 (fun j => by unfold zo6; omega)
  have e5 := e.row 172 (fun j => by unfold zo6; omega)
  have e6 := e.row 173 (fun j => by unfold zo6; omega)
  have e2 := e 47 2 (by unfold zo6; omega)
  have e1 := e 100 71 (by unfold zo6; omega)
  unfold zc6
  rw [e1, e2, e3, e4, e5, e6]
  exact h
theorem zc7.ob (h : zc7 w) (e : zAg zo7 w d) (el : d.2.2.1 0 14 = w.2.2.1 0 14) : zc7 d := by
  have e3 := e.row 167 (fun j => by unfold zo7; omega)
  have e2 := e 0 15 (by unfold zo7; omega)
  have e1 := e 100 66 (by unfold zo7; omega)
  unfold zc7
  rw [e1, e2, e3, el]
  exact h
theorem zWr.ob {i wo n : Nat} {S : zRs} (h : zWr w i wo n S) (e : ∀ a j, i ≤ a → a ≤ i + 3 → d.2.1 a j = w.2.1 a j) : zWr d i wo n S := by
  obtain ⟨h0, h1, h2, h3, h4, h5, h6, h7⟩ := h
  exact ⟨(e _ _ (by omega) (by omega)).trans h0, (e _ _ (by omega) (by omega)).trans h1, (e _ _ (by omega) (by omega)).trans h2, h3, (e _ _ (by omega) (by omega)).trans h4, h5, fun j hj => ⟨(e _ _ (by omega) (by omega)).trans (h6 j hj).1, (e _ _ (by omega) (by omega)).trans (h6 j hj).2.1, (h6 j hj).2.2⟩, fun p hp => ⟨(e _ _ (by omega) (by omega)).trans (h7 p hp).1, (h7 p hp).2⟩⟩
theorem zMwk.ob {wo n : Nat} {S : zRs} (h : zMwk w U wo n S) (e : ∀ a j, 178 ≤ a → a ≤ 182 → d.2.1 a j = w.2.1 a j) : zMwk d U wo n S := by
  obtain ⟨h1, h2, h3, h4, h5, h6, h7⟩ := h
  exact ⟨(e _ _ (by omega) (by omega)).trans h1, (e _ _ (by omega) (by omega)).trans h2, h3, (e _ _ (by omega) (by omega)).trans h4, h5, fun j hj => ⟨(e _ _ (by omega) (by omega)).trans (h6 j hj).1, (e _ _ (by omega) (by omega)).trans (h6 j hj).2.1, (e _ _ (by omega) (by omega)).trans (h6 j hj).2.2⟩, fun p hp => ⟨(e _ _ (by omega) (by omega)).trans (h7 p hp).1, (h7 p hp).2⟩⟩
theorem zMwq.ob {wo n : Nat} {S : zRs} (h : zMwq w U wo n S) (e : ∀ a j, 183 ≤ a → a ≤ 187 → d.2.1 a j = w.2.1 a j) : zMwq d U wo n S := by
  obtain ⟨h1, h2, h3, h4, h5, h6, h7⟩ := h
  exact ⟨(e _ _ (by omega) (by omega)).trans h1, (e _ _ (by omega) (by omega)).trans h2, h3, (e _ _ (by omega) (by omega)).trans h4, h5, fun j hj => ⟨(e _ _ (by omega) (by omega)).trans (h6 j hj).1, (e _ _ (by omega) (by omega)).trans (h6 j hj).2.1, (e _ _ (by omega) (by omega)).trans (h6 j hj).2.2⟩, fun p hp => ⟨(e _ _ (by omega) (by omega)).trans (h7 p hp).1, (h7 p hp).2⟩⟩
theorem zc8.ob (h : zc8 w U) (e : zAg zo8 w d) : zc8 d U := by
  rcases h with ⟨wo, n, S, h1, h2, h3, h4⟩ | ⟨h1, h2, h3⟩
  · exact Or.inl ⟨wo, n, S, h1.ob (fun a j x y => e a j (by unfold zo8; omega)), (e 100 76 (by unfold zo8; omega)).trans h2, h3.ob (fun a j x y => e a j (by unfold zo8; omega)), h4⟩
  · exact Or.inr ⟨(e 53 0 (by unfold zo8; omega)).trans h1, (e 53 3 (by unfold zo8; omega)).trans h2, (e 100 76 (by unfold zo8; omega)).trans h3⟩
theorem zc9.ob (h : zc9 w U) (e : zAg zo9 w d) : zc9 d U := by
  rcases h with ⟨wo, n, S, h1, h2, h3, h4⟩ | ⟨h1, h2, h3⟩
  · exact Or.inl ⟨wo, n, S, h1.ob (fun a j x y => e a j (by unfold zo9; omega)), (e 100 77 (by unfold zo9; omega)).trans h2, h3.ob (fun a j x y => e a j (by unfold zo9; omega)), h4⟩
  · exact Or.inr ⟨(e 57 0 (by unfold zo9; omega)).trans h1, (e 57 3 (by unfold zo9; omega)).trans h2, (e 100 77 (by unfold zo9; omega)).trans h3⟩
theorem zAg.s {p q : Nat → Nat → Prop} (e : zAg p w d) (h : ∀ a j, q a j → p a j) : zAg q w d := fun a j x => e a j (h a j x)
theorem zCp.ob (h : zCp w U) (e : zAg zob w d) (el : d.2.2.1 0 14 = w.2.2.1 0 14) : zCp d U := by
  obtain ⟨h1, h2, h3, h4, h5, h6, h7, h8, h9⟩ := h
  exact ⟨h1.ob (e.s fun a j x => Or.inl x), h2.ob (e.s fun a j x => Or.inr (Or.inl x)), h3.ob (e.s fun a j x => Or.inr (Or.inr (Or.inl x))), h4.ob (e.s fun a j x => Or.inr (Or.inr (Or.inr (Or.inl x)))), h5.ob (e.s fun a j x => Or.inr (Or.inr (Or.inr (Or.inr (Or.inl x))))), h6.ob (e.s fun a j x => Or.inr (Or.inr (Or.inr (Or.inr (Or.inr (Or.inl x)))))), h7.ob (e.s fun a j x => Or.inr (Or.inr (Or.inr (Or.inr (Or.inr (Or.inr (Or.inl x))))))) el, h8.ob (e.s fun a j x => Or.inr (Or.inr (Or.inr (Or.inr (Or.inr (Or.inr (Or.inr (Or.inl x)))))))), h9.ob (e.s fun a j x => Or.inr (Or.inr (Or.inr (Or.inr (Or.inr (Or.inr (Or.inr (Or.inr x))))))))⟩
theorem zob_r {a j : Nat} (h : zob a j) : (a < 9 ∨ (37 < a ∧ a < 61 ∧ ¬ a = 45 ∧ ¬ a = 46 ∧ ¬ a = 50 ∧ ¬ a = 51 ∧ ¬ a = 52) ∨ (a = 100 ∧ (j = 14 ∨ j = 16 ∨ j = 55 ∨ j = 56 ∨ j = 66 ∨ j = 71 ∨ j = 76 ∨ j = 77)) ∨ a = 113 ∨ a = 117 ∨ (157 ≤ a ∧ a ≤ 159) ∨ a = 162 ∨ a = 163 ∨ a = 167 ∨ a = 172 ∨ a = 173 ∨ (178 ≤ a ∧ a ≤ 187)) ∧ (a = 47 → j = 2) := by
  simp only [zob, zo1, zo2, zo3, zo4, zo5, zo6, zo7, zo8, zo9] at h
  omega
/-- from 80 on nothing has changed, but the law's own row -/
def zHi (w d : zW) : Prop := (∀ a, 79 < a → d.1 a = w.1 a) ∧ ∀ a j, 79 < a → d.2.1 a j = w.2.1 a j ∧ d.2.2.2 a j = w.2.2.2 a j
theorem zHi.rf (w : zW) : zHi w w := ⟨fun _ _ => rfl, fun _ _ _ => ⟨rfl, rfl⟩⟩
theorem zHi.tr {c : zW} (h1 : zHi w c) (h2 : zHi c d) : zHi w d := ⟨fun a h => (h2.1 a h).trans (h1.1 a h), fun a j h => ⟨(h2.2 a j h).1.trans (h1.2 a j h).1, (h2.2 a j h).2.trans (h1.2 a j h).2⟩⟩
theorem zFc.hi (h : zFc w d) : zHi w d := ⟨fun a x => h.1 a (Or.inr x), fun a j x => ⟨(h.2.1 a j (Or.inr (Or.inr x))).1, h.2.2 a j (Or.inr x) (Or.inl (by omega))⟩⟩
theorem zHi.l {a k : Nat} {x : Int64} : zHi w (zsl w a k x) := ⟨fun _ _ => rfl, fun _ _ _ => ⟨rfl, rfl⟩⟩
theorem zMs.hi (h : zMs w) (hf : zHi w d) : zMs d := ⟨fun i hi => (hf.1 _ (by omega)).trans (h.1 i hi), fun k hk hz => (hf.2 100 k (by decide)).2.trans (h.2 k hk hz)⟩
theorem zMu.hi (h : zMu w U) (hf : zHi w d) : zMu d U := by
  have e : ∀ a j, 79 < a → d.2.1 a j = w.2.1 a j := fun a j x => (hf.2 a j x).1
  obtain ⟨h1, h2, h3, h4, h5, h6, h7, h8, h9, h10, h11, h12, h13⟩ := h
  exact ⟨h1.hi hf, (e _ _ (by decide)).trans h2, (e _ _ (by decide)).trans h3, (e _ _ (by decide)).trans h4, (e _ _ (by decide)).trans h5, (e _ _ (by decide)).trans h6, (e _ _ (by decide)).trans h7, (e _ _ (by decide)).trans h8, (e _ _ (by decide)).trans h9, (e _ _ (by decide)).trans h10, fun p hp => (e _ _ (by decide)).trans (h11 p hp), fun p hp => (e _ _ (by decide)).trans (h12 p hp), fun p q hp hq => (e _ _ (by decide)).trans (h13 p q hp hq)⟩
/-- a call of the class that keeps what is coupled -/
theorem zKC.cl (h : zKC w U) (hf : zFc w d) (hb : zB d U) : zKC d U :=
  ⟨hb, h.2.1.hi hf.hi, h.2.2.1, ⟨(hf.1 190 (by decide)).trans h.2.2.2.1.1, (hf.1 191 (by decide)).trans h.2.2.2.1.2⟩, h.2.2.2.2.ob (fun a j x => (hf.2.1 a j (by have := zob_r x; omega)).1) ((hf.2.1 0 14 (by decide)).2 (by decide))⟩
theorem zScr_in : ∀ k ∈ zScr, k ≤ 0 ∨ (38 ≤ k ∧ k ≤ 54) ∨ (60 ≤ k ∧ k ≤ 61) ∨ (64 ≤ k ∧ k ≤ 65) ∨ (68 ≤ k ∧ k ≤ 70) ∨ (74 ≤ k ∧ k ≤ 75) := by decide
theorem zAg.fm (hf : zFM zScr w d) : zAg zob w d := fun a j x => by
  have hr := (zob_r x).1
  by_cases ha : a = 100
  · subst ha
    rcases (show j = 14 ∨ j = 16 ∨ j = 55 ∨ j = 56 ∨ j = 66 ∨ j = 71 ∨ j = 76 ∨ j = 77 by omega) with rfl | rfl | rfl | rfl | rfl | rfl | rfl | rfl <;> exact hf.at (by decide)
  · exact (hf.2.2.2 a j ha (fun k hk => by have := zScr_in k hk; omega)).1
theorem zFM.low {l : List Nat} (hf : zFM l w d) {a j : Nat} (ha : a < 100) : d.2.1 a j = w.2.1 a j ∧ d.2.2.1 a j = w.2.2.1 a j := hf.2.2.2 a j (by omega) (fun k _ => by omega)
theorem zB.fm {l : List Nat} (h : zB w U) (hf : zFM l w d) : zB d U := h.out hf.1 hf.2.1 (fun a j _ => hf.low (by omega))
theorem zKC.mo (h : zKC w U) (hf : zFM zScr w d) : zKC d U :=
  ⟨h.1.fm hf, h.2.1.fm hf (by decide), h.2.2.1, by rw [hf.1]; exact h.2.2.2.1, h.2.2.2.2.ob (zAg.fm hf) (hf.low (by decide)).2⟩
theorem zKC.l (h : zKC w U) (v : Int64) : zKC (zsl w 190 0 v) U :=
  ⟨h.1.out rfl rfl (fun a j ha => ⟨rfl, by simp only [zsl]; rw [if_neg (by omega)]⟩), h.2.1.hi zHi.l, h.2.2.1, h.2.2.2.1, h.2.2.2.2.ob (fun a j _ => rfl) rfl⟩
end ZA
