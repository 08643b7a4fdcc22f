/-! what changes: town -/
section ZUD
variable {w d c : zW} {U : zTo} {kv b : Int32}
def zv_to (len : Nat) (x : Int32) : Prop := ∃ n, n ≤ len ∧ x = nI n
def zN_to (w : zW) (tx : Nat → Nat) (len : Nat) (x : Int32) (r : Option Value) (d : zW) : Prop := ∃ n, n ≤ len ∧ x = nI n ∧ zTd w d tx n r
theorem zFz.at (h : zFz (zsi w 0 1 0) c) {a j : Nat} (h1 : a < 3 ∨ 8 < a) (h2 : ¬ (a = 0 ∧ j = 1)) : c.2.1 a j = w.2.1 a j := by
  rw [h.2.2 a j h1]
  simp only [zsi]
  rw [if_neg h2]
theorem zTd.s {tx : Nat → Nat} {n : Nat} {r : Option Value} (h : zTd w d tx n r) : d.1 = w.1 ∧ d.2.2 = w.2.2 ∧ ∀ a j, 79 < a → d.2.1 a j = w.2.1 a j := by
  unfold zTd at h
  obtain ⟨c, hz, h⟩ := h
  cases hpa : zpa tx n 701 (zT0, 0) 0 with
  | inl e =>
    rw [hpa] at h
    obtain ⟨-, -, -, rfl⟩ := h
    refine ⟨hz.1, hz.2.1, fun a j ha => ?_⟩
    simp only [zsi]
    rw [if_neg (by omega), if_neg (by omega)]
    exact hz.at (by omega) (by omega)
  | inr S =>
    rw [hpa] at h
    obtain ⟨-, -, -, h⟩ := h
    refine ⟨h.1.trans hz.1, h.2.1.trans hz.2.1, fun a j ha => ?_⟩
    rw [h.2.2.1 a j (by omega) (by omega)]
    refine (ztow_o (by omega)).trans ?_
    simp only [zsi]
    rw [if_neg (by omega)]
    exact hz.at (by omega) (by omega)
theorem zna_to {Δ : zD} {len : Nat} {tx : Nat → Nat} (hC : zKC w U) (hlen : len ≤ 700) (hl : w.2.1 0 1 = nI len) (htx : ∀ i, i < 700 → w.2.1 1 i = nI (tx i) ∧ tx i < 256) (x : Int32) : zM Δ 10 10 60 true yX8_town mX8_town [.ref 0, .int x] w (zNU w False (zN_to w tx len x)) (zNX1 "java/lang/IllegalArgumentException" w U False (¬ zv_to len x)) :=
  (c_town Δ w U hC.1 x len tx hlen hl htx).mono (fun r d h => by
    refine ⟨?_, h⟩
    obtain ⟨n, -, -, h⟩ := h
    have hs := h.s
    exact ⟨⟨fun a _ => by rw [hs.1], fun a j ha => ⟨hs.2.2 a j ha, by rw [hs.2.1]⟩⟩, zLw.q (by rw [hs.2.1])⟩) (fun E d h => by
    obtain ⟨rfl, rfl, h⟩ := h
    exact ⟨zkcl0 hC (fun h => h), rfl, h⟩)
end ZUD
