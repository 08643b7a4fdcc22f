/-! the model's parser: its state, good or at a FAULT -/
abbrev zFpr : List Nat := [15, 16, 19, 20, 21, 22, 23, 24, 25, 26, 27, 28, 29, 30, 31, 32, 33, 34, 35, 36, 37]
def zTqk (tx : Nat → Nat) (n : Nat) (t : zTkn) : Prop := (t.2.1 ≤ t.2.2.1 ∧ t.2.2.1 ≤ n) ∧ (t.1 ≤ 4 ∧ t.2.2.2 ≤ 9999) ∧ (t.1 = 1 → ∀ i, i < t.2.2.1 - t.2.1 → zlet (tx (t.2.1 + i)) = true)
theorem ztk_q {tx : Nat → Nat} {n a : Nat} (ha : a ≤ n) : zTqk tx n (ztk tx n a) := by
  have h1 := ztk_le (tx := tx) ha
  have h2 := ztk_k (tx := tx) (n := n) (a := a)
  refine ⟨h1.2, ⟨h2.1, ?_⟩, ?_⟩
  · by_cases h : (ztk tx n a).1 = 2
    · exact h2.2 h
    · have : (ztk tx n a).2.2.2 = 0 := by
        revert h
        simp only [ztk, ztk0]
        split
        · intro _; rfl
        · split
          · intro _; rfl
          · split
            · intro h; exact absurd rfl h
            · intro _; rfl
      omega
  · intro h i
    revert h
    simp only [ztk, ztk0]
    split
    · intro h; exact absurd h (by simp)
    · split
      · intro _ hi
        exact zrq_all (p := fun i => zlet (tx i)) (n - (zrun (fun i => zblk (tx i)) n a)) (zrun (fun i => zblk (tx i)) n a) ((zrun (fun i => zblk (tx i)) n a) + i) (Nat.le_add_right _ _) (by have h9 : i < zrq (fun i => zlet (tx i)) (n - (zrun (fun i => zblk (tx i)) n a)) (zrun (fun i => zblk (tx i)) n a) - (zrun (fun i => zblk (tx i)) n a) := hi; omega)
      · split
        · intro h; exact absurd h (by simp)
        · intro h; exact absurd h (by simp only []; split <;> decide)
def zNw (w : zW) (S : zTo × Nat) : Prop := w.2.1 100 25 = nI (S.1.1 0) ∧ w.2.1 100 26 = nI (S.1.1 12) ∧ w.2.1 100 27 = nI (S.1.1 5) ∧ w.2.1 100 28 = nI (S.1.1 6) ∧ w.2.1 100 29 = nI (S.1.1 7) ∧ w.2.1 100 30 = nI (S.1.1 8) ∧ w.2.1 100 31 = nI (S.1.1 9) ∧ w.2.1 100 32 = nI (S.1.1 10) ∧ w.2.1 100 33 = nI (S.1.1 11) ∧ w.2.1 100 34 = nI S.2 ∧ (∀ p, p < S.1.1 0 → w.2.1 135 p = nI (S.1.2.1 p)) ∧ (∀ p, p < S.1.1 0 → w.2.1 136 p = nI (S.1.2.2.1 p)) ∧ (∀ p q, p < S.1.1 0 → q < S.1.1 0 → w.2.1 137 (p * 8 + q) = nI (S.1.2.2.2 (p * 8 + q)))
theorem zNw.fm {w c : zW} {S : zTo × Nat} {l : List Nat} (h : zNw w S) (hf : zFM l w c) (hl : ∀ k, 25 ≤ k → k ≤ 37 → k ∉ l) : zNw c S := by
  obtain ⟨h0, h1, h2, h3, h4, h5, h6, h7, h8, h9, h10, h11, h12⟩ := h
  exact ⟨(hf.at (hl _ (by decide) (by decide))).trans h0, (hf.at (hl _ (by decide) (by decide))).trans h1, (hf.at (hl _ (by decide) (by decide))).trans h2, (hf.at (hl _ (by decide) (by decide))).trans h3, (hf.at (hl _ (by decide) (by decide))).trans h4, (hf.at (hl _ (by decide) (by decide))).trans h5, (hf.at (hl _ (by decide) (by decide))).trans h6, (hf.at (hl _ (by decide) (by decide))).trans h7, (hf.at (hl _ (by decide) (by decide))).trans h8, (hf.at (hl _ (by decide) (by decide))).trans h9, fun p hp => (hf.ar (k := 35) (hl _ (by decide) (by decide)) (by decide)).trans (h10 p hp), fun p hp => (hf.ar (k := 36) (hl _ (by decide) (by decide)) (by decide)).trans (h11 p hp), fun p q hp hq => (hf.ar (k := 37) (hl _ (by decide) (by decide)) (by decide)).trans (h12 p q hp hq)⟩
/-- good so far: the town S is read, the TOKEN t stands there -/
def zGd (w0 w : zW) (tx : Nat → Nat) (n : Nat) (S : zTo × Nat) (t : zTkn) : Prop := zFM zFpr w0 w ∧ zRm9 w tx n ∧ zMk w tx t ∧ zTqk tx n t ∧ w.2.1 100 15 = nI 0 ∧ w.2.1 100 16 = -1 ∧ zNw w S
/-- a FAULT -/
def zBd (w0 w : zW) (tx : Nat → Nat) (n : Nat) (e : Nat × Nat) : Prop := zFM zFpr w0 w ∧ zRm9 w tx n ∧ w.2.1 100 15 = nI e.1 ∧ w.2.1 100 16 = nI e.2 ∧ (1 ≤ e.1 ∧ e.1 ≤ 5)
theorem zFp_put {l : List Nat} {w c : zW} (h : zFM l w c) (hl : ∀ k ∈ l, k ∈ zFpr) : zFM zFpr w c := h.mono hl
theorem zGd.step {w0 w c : zW} {tx : Nat → Nat} {n : Nat} {S : zTo × Nat} {t t2 : zTkn} (h : zGd w0 w tx n S t) (hf : zFM [19, 20, 21, 22, 23, 24] w c) (hk : zMk c tx t2) (hq : zTqk tx n t2) : zGd w0 c tx n S t2 := by
  obtain ⟨h1, h2, h3, h4, h5, h6, h7⟩ := h
  exact ⟨h1.tr (hf.mono (by decide)), h2.fm hf (by decide), hk, hq, (hf.at (by decide)).trans h5, (hf.at (by decide)).trans h6, h7.fm hf (fun k h1 h2 h3 => by simp only [List.mem_cons, List.not_mem_nil, or_false] at h3; omega)⟩
theorem zGd.bad {w0 w : zW} {tx : Nat → Nat} {n : Nat} {S : zTo × Nat} {t : zTkn} (h : zGd w0 w tx n S t) {e : Nat × Nat} (he : 1 ≤ e.1 ∧ e.1 ≤ 5) : zBd w0 (zsi (zsi w 100 15 (nI e.1)) 100 16 (nI e.2)) tx n e := by
  obtain ⟨h1, h2, h3, h4, h5, h6, h7⟩ := h
  have hf : zFM [15, 16] w (zsi (zsi w 100 15 (nI e.1)) 100 16 (nI e.2)) := (zFM.i (by decide)).tr (zFM.i (by decide))
  exact ⟨h1.tr (hf.mono (by decide)), h2.fm hf (by decide), by simp [zsi], by simp [zsi], he⟩
theorem zBd.fm {w0 w c : zW} {tx : Nat → Nat} {n : Nat} {e : Nat × Nat} {l : List Nat} (h : zBd w0 w tx n e) (hf : zFM l w c) (hl : ∀ k ∈ l, k ∈ zFpr) (h2 : 15 ∉ l ∧ 16 ∉ l ∧ 18 ∉ l ∧ 13 ∉ l) : zBd w0 c tx n e := by
  obtain ⟨h1, h3, h4, h5, h6⟩ := h
  exact ⟨h1.tr (hf.mono hl), h3.fm hf h2.2.2, (hf.at h2.1).trans h4, (hf.at h2.2.1).trans h5, h6⟩
theorem zGd.p26 {w0 w : zW} {tx : Nat → Nat} {n : Nat} {S : zTo × Nat} {t : zTkn} (h : zGd w0 w tx n S t) (v : Nat) : zGd w0 (zsi w 100 26 (nI v)) tx n (zTs S.1 12 v, S.2) t := by
  obtain ⟨h1, h2, h3, h4, h5, h6, h7⟩ := h
  have hf : zFM [26] w (zsi w 100 26 (nI v)) := zFM.i (by decide)
  obtain ⟨f19, f20, f21, f22, f23, f24⟩ := h3
  obtain ⟨g0, g1, g2, g3, g4, g5, g6, g7, g8, g9, g10, g11, g12⟩ := h7
  exact ⟨h1.tr (hf.mono (by decide)), h2.fm hf (by decide), ⟨(hf.at (by decide)).trans f19, (hf.at (by decide)).trans f20, (hf.at (by decide)).trans f21, (hf.at (by decide)).trans f22, fun h => (hf.at (by decide)).trans (f23 h), f24⟩, h4, (hf.at (by decide)).trans h5, (hf.at (by decide)).trans h6, by simp [zsi, zTs, g0], by simp [zsi, zTs, g1], by simp [zsi, zTs, g2], by simp [zsi, zTs, g3], by simp [zsi, zTs, g4], by simp [zsi, zTs, g5], by simp [zsi, zTs, g6], by simp [zsi, zTs, g7], by simp [zsi, zTs, g8], by simp [zsi, g9], fun p hp => (hf.ar (k := 35) (by decide) (by decide)).trans (g10 p hp), fun p hp => (hf.ar (k := 36) (by decide) (by decide)).trans (g11 p hp), fun p q hp hq => (hf.ar (k := 37) (by decide) (by decide)).trans (g12 p q hp hq)⟩
theorem zGd.p27 {w0 w : zW} {tx : Nat → Nat} {n : Nat} {S : zTo × Nat} {t : zTkn} (h : zGd w0 w tx n S t) (v : Nat) : zGd w0 (zsi w 100 27 (nI v)) tx n (zTs S.1 5 v, S.2) t := by
  obtain ⟨h1, h2, h3, h4, h5, h6, h7⟩ := h
  have hf : zFM [27] w (zsi w 100 27 (nI v)) := zFM.i (by decide)
  obtain ⟨f19, f20, f21, f22, f23, f24⟩ := h3
  obtain ⟨g0, g1, g2, g3, g4, g5, g6, g7, g8, g9, g10, g11, g12⟩ := h7
  exact ⟨h1.tr (hf.mono (by decide)), h2.fm hf (by decide), ⟨(hf.at (by decide)).trans f19, (hf.at (by decide)).trans f20, (hf.at (by decide)).trans f21, (hf.at (by decide)).trans f22, fun h => (hf.at (by decide)).trans (f23 h), f24⟩, h4, (hf.at (by decide)).trans h5, (hf.at (by decide)).trans h6, by simp [zsi, zTs, g0], by simp [zsi, zTs, g1], by simp [zsi, zTs, g2], by simp [zsi, zTs, g3], by simp [zsi, zTs, g4], by simp [zsi, zTs, g5], by simp [zsi, zTs, g6], by simp [zsi, zTs, g7], by simp [zsi, zTs, g8], by simp [zsi, g9], fun p hp => (hf.ar (k := 35) (by decide) (by decide)).trans (g10 p hp), fun p hp => (hf.ar (k := 36) (by decide) (by decide)).trans (g11 p hp), fun p q hp hq => (hf.ar (k := 37) (by decide) (by decide)).trans (g12 p q hp hq)⟩
theorem zGd.p28 {w0 w : zW} {tx : Nat → Nat} {n : Nat} {S : zTo × Nat} {t : zTkn} (h : zGd w0 w tx n S t) (v : Nat) : zGd w0 (zsi w 100 28 (nI v)) tx n (zTs S.1 6 v, S.2) t := by
  obtain ⟨h1, h2, h3, h4, h5, h6, h7⟩ := h
  have hf : zFM [28] w (zsi w 100 28 (nI v)) := zFM.i (by decide)
  obtain ⟨f19, f20, f21, f22, f23, f24⟩ := h3
  obtain ⟨g0, g1, g2, g3, g4, g5, g6, g7, g8, g9, g10, g11, g12⟩ := h7
  exact ⟨h1.tr (hf.mono (by decide)), h2.fm hf (by decide), ⟨(hf.at (by decide)).trans f19, (hf.at (by decide)).trans f20, (hf.at (by decide)).trans f21, (hf.at (by decide)).trans f22, fun h => (hf.at (by decide)).trans (f23 h), f24⟩, h4, (hf.at (by decide)).trans h5, (hf.at (by decide)).trans h6, by simp [zsi, zTs, g0], by simp [zsi, zTs, g1], by simp [zsi, zTs, g2], by simp [zsi, zTs, g3], by simp [zsi, zTs, g4], by simp [zsi, zTs, g5], by simp [zsi, zTs, g6], by simp [zsi, zTs, g7], by simp [zsi, zTs, g8], by simp [zsi, g9], fun p hp => (hf.ar (k := 35) (by decide) (by decide)).trans (g10 p hp), fun p hp => (hf.ar (k := 36) (by decide) (by decide)).trans (g11 p hp), fun p q hp hq => (hf.ar (k := 37) (by decide) (by decide)).trans (g12 p q hp hq)⟩
theorem zGd.p29 {w0 w : zW} {tx : Nat → Nat} {n : Nat} {S : zTo × Nat} {t : zTkn} (h : zGd w0 w tx n S t) (v : Nat) : zGd w0 (zsi w 100 29 (nI v)) tx n (zTs S.1 7 v, S.2) t := by
  obtain ⟨h1, h2, h3, h4, h5, h6, h7⟩ := h
  have hf : zFM [29] w (zsi w 100 29 (nI v)) := zFM.i (by decide)
  obtain ⟨f19, f20, f21, f22, f23, f24⟩ := h3
  obtain ⟨g0, g1, g2, g3, g4, g5, g6, g7, g8, g9, g10, g11, g12⟩ := h7
  exact ⟨h1.tr (hf.mono (by decide)), h2.fm hf (by decide), ⟨(hf.at (by decide)).trans f19, (hf.at (by decide)).trans f20, (hf.at (by decide)).trans f21, (hf.at (by decide)).trans f22, fun h => (hf.at (by decide)).trans (f23 h), f24⟩, h4, (hf.at (by decide)).trans h5, (hf.at (by decide)).trans h6, by simp [zsi, zTs, g0], by simp [zsi, zTs, g1], by simp [zsi, zTs, g2], by simp [zsi, zTs, g3], by simp [zsi, zTs, g4], by simp [zsi, zTs, g5], by simp [zsi, zTs, g6], by simp [zsi, zTs, g7], by simp [zsi, zTs, g8], by simp [zsi, g9], fun p hp => (hf.ar (k := 35) (by decide) (by decide)).trans (g10 p hp), fun p hp => (hf.ar (k := 36) (by decide) (by decide)).trans (g11 p hp), fun p q hp hq => (hf.ar (k := 37) (by decide) (by decide)).trans (g12 p q hp hq)⟩
theorem zGd.p30 {w0 w : zW} {tx : Nat → Nat} {n : Nat} {S : zTo × Nat} {t : zTkn} (h : zGd w0 w tx n S t) (v : Nat) : zGd w0 (zsi w 100 30 (nI v)) tx n (zTs S.1 8 v, S.2) t := by
  obtain ⟨h1, h2, h3, h4, h5, h6, h7⟩ := h
  have hf : zFM [30] w (zsi w 100 30 (nI v)) := zFM.i (by decide)
  obtain ⟨f19, f20, f21, f22, f23, f24⟩ := h3
  obtain ⟨g0, g1, g2, g3, g4, g5, g6, g7, g8, g9, g10, g11, g12⟩ := h7
  exact ⟨h1.tr (hf.mono (by decide)), h2.fm hf (by decide), ⟨(hf.at (by decide)).trans f19, (hf.at (by decide)).trans f20, (hf.at (by decide)).trans f21, (hf.at (by decide)).trans f22, fun h => (hf.at (by decide)).trans (f23 h), f24⟩, h4, (hf.at (by decide)).trans h5, (hf.at (by decide)).trans h6, by simp [zsi, zTs, g0], by simp [zsi, zTs, g1], by simp [zsi, zTs, g2], by simp [zsi, zTs, g3], by simp [zsi, zTs, g4], by simp [zsi, zTs, g5], by simp [zsi, zTs, g6], by simp [zsi, zTs, g7], by simp [zsi, zTs, g8], by simp [zsi, g9], fun p hp => (hf.ar (k := 35) (by decide) (by decide)).trans (g10 p hp), fun p hp => (hf.ar (k := 36) (by decide) (by decide)).trans (g11 p hp), fun p q hp hq => (hf.ar (k := 37) (by decide) (by decide)).trans (g12 p q hp hq)⟩
theorem zGd.p31 {w0 w : zW} {tx : Nat → Nat} {n : Nat} {S : zTo × Nat} {t : zTkn} (h : zGd w0 w tx n S t) (v : Nat) : zGd w0 (zsi w 100 31 (nI v)) tx n (zTs S.1 9 v, S.2) t := by
  obtain ⟨h1, h2, h3, h4, h5, h6, h7⟩ := h
  have hf : zFM [31] w (zsi w 100 31 (nI v)) := zFM.i (by decide)
  obtain ⟨f19, f20, f21, f22, f23, f24⟩ := h3
  obtain ⟨g0, g1, g2, g3, g4, g5, g6, g7, g8, g9, g10, g11, g12⟩ := h7
  exact ⟨h1.tr (hf.mono (by decide)), h2.fm hf (by decide), ⟨(hf.at (by decide)).trans f19, (hf.at (by decide)).trans f20, (hf.at (by decide)).trans f21, (hf.at (by decide)).trans f22, fun h => (hf.at (by decide)).trans (f23 h), f24⟩, h4, (hf.at (by decide)).trans h5, (hf.at (by decide)).trans h6, by simp [zsi, zTs, g0], by simp [zsi, zTs, g1], by simp [zsi, zTs, g2], by simp [zsi, zTs, g3], by simp [zsi, zTs, g4], by simp [zsi, zTs, g5], by simp [zsi, zTs, g6], by simp [zsi, zTs, g7], by simp [zsi, zTs, g8], by simp [zsi, g9], fun p hp => (hf.ar (k := 35) (by decide) (by decide)).trans (g10 p hp), fun p hp => (hf.ar (k := 36) (by decide) (by decide)).trans (g11 p hp), fun p q hp hq => (hf.ar (k := 37) (by decide) (by decide)).trans (g12 p q hp hq)⟩
theorem zGd.p32 {w0 w : zW} {tx : Nat → Nat} {n : Nat} {S : zTo × Nat} {t : zTkn} (h : zGd w0 w tx n S t) (v : Nat) : zGd w0 (zsi w 100 32 (nI v)) tx n (zTs S.1 10 v, S.2) t := by
  obtain ⟨h1, h2, h3, h4, h5, h6, h7⟩ := h
  have hf : zFM [32] w (zsi w 100 32 (nI v)) := zFM.i (by decide)
  obtain ⟨f19, f20, f21, f22, f23, f24⟩ := h3
  obtain ⟨g0, g1, g2, g3, g4, g5, g6, g7, g8, g9, g10, g11, g12⟩ := h7
  exact ⟨h1.tr (hf.mono (by decide)), h2.fm hf (by decide), ⟨(hf.at (by decide)).trans f19, (hf.at (by decide)).trans f20, (hf.at (by decide)).trans f21, (hf.at (by decide)).trans f22, fun h => (hf.at (by decide)).trans (f23 h), f24⟩, h4, (hf.at (by decide)).trans h5, (hf.at (by decide)).trans h6, by simp [zsi, zTs, g0], by simp [zsi, zTs, g1], by simp [zsi, zTs, g2], by simp [zsi, zTs, g3], by simp [zsi, zTs, g4], by simp [zsi, zTs, g5], by simp [zsi, zTs, g6], by simp [zsi, zTs, g7], by simp [zsi, zTs, g8], by simp [zsi, g9], fun p hp => (hf.ar (k := 35) (by decide) (by decide)).trans (g10 p hp), fun p hp => (hf.ar (k := 36) (by decide) (by decide)).trans (g11 p hp), fun p q hp hq => (hf.ar (k := 37) (by decide) (by decide)).trans (g12 p q hp hq)⟩
theorem zGd.p33 {w0 w : zW} {tx : Nat → Nat} {n : Nat} {S : zTo × Nat} {t : zTkn} (h : zGd w0 w tx n S t) (v : Nat) : zGd w0 (zsi w 100 33 (nI v)) tx n (zTs S.1 11 v, S.2) t := by
  obtain ⟨h1, h2, h3, h4, h5, h6, h7⟩ := h
  have hf : zFM [33] w (zsi w 100 33 (nI v)) := zFM.i (by decide)
  obtain ⟨f19, f20, f21, f22, f23, f24⟩ := h3
  obtain ⟨g0, g1, g2, g3, g4, g5, g6, g7, g8, g9, g10, g11, g12⟩ := h7
  exact ⟨h1.tr (hf.mono (by decide)), h2.fm hf (by decide), ⟨(hf.at (by decide)).trans f19, (hf.at (by decide)).trans f20, (hf.at (by decide)).trans f21, (hf.at (by decide)).trans f22, fun h => (hf.at (by decide)).trans (f23 h), f24⟩, h4, (hf.at (by decide)).trans h5, (hf.at (by decide)).trans h6, by simp [zsi, zTs, g0], by simp [zsi, zTs, g1], by simp [zsi, zTs, g2], by simp [zsi, zTs, g3], by simp [zsi, zTs, g4], by simp [zsi, zTs, g5], by simp [zsi, zTs, g6], by simp [zsi, zTs, g7], by simp [zsi, zTs, g8], by simp [zsi, g9], fun p hp => (hf.ar (k := 35) (by decide) (by decide)).trans (g10 p hp), fun p hp => (hf.ar (k := 36) (by decide) (by decide)).trans (g11 p hp), fun p q hp hq => (hf.ar (k := 37) (by decide) (by decide)).trans (g12 p q hp hq)⟩
theorem zGd.p34 {w0 w : zW} {tx : Nat → Nat} {n : Nat} {S : zTo × Nat} {t : zTkn} (h : zGd w0 w tx n S t) (v : Nat) : zGd w0 (zsi w 100 34 (nI v)) tx n (S.1, v) t := by
  obtain ⟨h1, h2, h3, h4, h5, h6, h7⟩ := h
  have hf : zFM [34] w (zsi w 100 34 (nI v)) := zFM.i (by decide)
  obtain ⟨f19, f20, f21, f22, f23, f24⟩ := h3
  obtain ⟨g0, g1, g2, g3, g4, g5, g6, g7, g8, g9, g10, g11, g12⟩ := h7
  exact ⟨h1.tr (hf.mono (by decide)), h2.fm hf (by decide), ⟨(hf.at (by decide)).trans f19, (hf.at (by decide)).trans f20, (hf.at (by decide)).trans f21, (hf.at (by decide)).trans f22, fun h => (hf.at (by decide)).trans (f23 h), f24⟩, h4, (hf.at (by decide)).trans h5, (hf.at (by decide)).trans h6, (hf.at (by decide)).trans g0, (hf.at (by decide)).trans g1, (hf.at (by decide)).trans g2, (hf.at (by decide)).trans g3, (hf.at (by decide)).trans g4, (hf.at (by decide)).trans g5, (hf.at (by decide)).trans g6, (hf.at (by decide)).trans g7, (hf.at (by decide)).trans g8, by simp [zsi], fun p hp => (hf.ar (k := 35) (by decide) (by decide)).trans (g10 p hp), fun p hp => (hf.ar (k := 36) (by decide) (by decide)).trans (g11 p hp), fun p q hp hq => (hf.ar (k := 37) (by decide) (by decide)).trans (g12 p q hp hq)⟩
theorem zrN_e {lo hi : Nat} {t : zTkn} {e : Nat × Nat} (h : zrN lo hi t = .inl e) : 1 ≤ e.1 ∧ e.1 ≤ 5 := by
  simp only [zrN] at h
  split at h
  · cases h; simp
  · split at h
    · cases h; simp
    · cases h
theorem zrK_e {p : Nat} {t : zTkn} {e : Nat × Nat} (h : zrK p t = .inl e) : 1 ≤ e.1 ∧ e.1 ≤ 5 := by
  simp only [zrK] at h
  split at h
  · rename_i h2; cases h; exact zrN_e h2
  · split at h
    · cases h
    · cases h; simp
/-! contracts over the state -/
theorem c_Mo_st (Δ : zD) {w0 w : zW} {tx : Nat → Nat} {n : Nat} {S : zTo × Nat} {t : zTkn} (h : zGd w0 w tx n S t) : zMp Δ 1 yX9_steps mX9_steps [.ref 100] w (fun r c => r = none ∧ zGd w0 c tx n S (ztk tx n t.2.2.1)) :=
  (c_Mo_steps Δ w tx n t.2.2.1 h.2.1 h.2.2.2.1.1.2 h.2.2.1.1).mono (fun r c hp => ⟨hp.1, h.step hp.2.1 hp.2.2 (ztk_q h.2.2.2.1.1.2)⟩)
theorem c_Mo_ig (Δ : zD) {w0 w : zW} {tx : Nat → Nat} {n : Nat} {S : zTo × Nat} {t : zTkn} (h : zGd w0 w tx n S t) : zMd Δ 0 0 0 true yX9_isGood mX9_isGood [.ref 100] w (some (.int 1)) w := c_Mo_isGood Δ w h.2.1.1 0 (by decide) h.2.2.2.2.1
theorem c_Mo_igB (Δ : zD) {w0 w : zW} {tx : Nat → Nat} {n : Nat} {e : Nat × Nat} (h : zBd w0 w tx n e) : zMd Δ 0 0 0 true yX9_isGood mX9_isGood [.ref 100] w (some (.int 0)) w := by
  have := c_Mo_isGood Δ w h.2.1.1 e.1 h.2.2.2.2.2 h.2.2.1
  rw [if_neg (by have := h.2.2.2.2.1; omega)] at this
  exact this
theorem c_Mo_wr (Δ : zD) {w0 w : zW} {tx : Nat → Nat} {n : Nat} {S : zTo × Nat} {t : zTkn} (h : zGd w0 w tx n S t) (y : Nat) (hy : 1 ≤ y ∧ y ≤ 5) : zMp Δ 0 yX9_wrong mX9_wrong [.ref 100, .int (nI y)] w (fun r c => r = none ∧ zBd w0 c tx n (y, t.2.1)) := by
  have h2 := c_Mo_wrong Δ w h.2.1.1 y 0 (by decide) h.2.2.2.2.1
  rw [if_pos rfl, h.2.2.1.2.2.1] at h2
  exact h2.p ⟨rfl, h.bad (e := (y, t.2.1)) hy⟩
theorem c_Mo_nm (Δ : zD) {w0 w : zW} {tx : Nat → Nat} {n : Nat} {S : zTo × Nat} {t : zTkn} (h : zGd w0 w tx n S t) (lo hi : Nat) (hlo : lo ≤ 9999) (hhi : hi ≤ 9999) : zMp Δ 2 yX9_number mX9_number [.ref 100, .int (nI lo), .int (nI hi)] w (fun r c => match zrN lo hi t with | .inl e => zBd w0 c tx n e ∧ ∃ v, r = some (.int v) | .inr v => zGd w0 c tx n S (ztk tx n t.2.2.1) ∧ r = some (.int (nI v))) := by
  refine (c_Mo_number Δ w tx n h.2.1 t h.2.2.1 h.2.2.2.1.1 h.2.2.2.1.2.1 0 (by decide) h.2.2.2.2.1 lo hi hlo hhi).mono (fun r c hp => ?_)
  rcases hp with hp | ⟨-, hp⟩
  · exact absurd rfl hp.1
  · cases hz : zrN lo hi t with
    | inl e =>
      rw [hz] at hp
      obtain ⟨rfl, v, rfl⟩ := hp
      exact ⟨h.bad (zrN_e hz), v, rfl⟩
    | inr v =>
      rw [hz] at hp
      exact ⟨h.step hp.1 hp.2.1 (ztk_q h.2.2.2.1.1.2), hp.2.2⟩
theorem c_Mo_ph (Δ : zD) {w0 w : zW} {tx : Nat → Nat} {n : Nat} {S : zTo × Nat} {t : zTkn} (h : zGd w0 w tx n S t) (h8 : S.1.1 0 ≤ 8) : zMp Δ 1 yX9_personHere mX9_personHere [.ref 100] w (fun r c => match zrK (S.1.1 0) t with | .inl e => zBd w0 c tx n e ∧ r = some (.int 0) | .inr v => c = w ∧ r = some (.int 1) ∧ w.2.1 100 23 = nI v) := by
  refine (c_Mo_personHere Δ w tx n h.2.1 t h.2.2.1 h.2.2.2.1.1 h.2.2.2.1.2.1 0 (by decide) h.2.2.2.2.1 (S.1.1 0) h8 h.2.2.2.2.2.2.1).mono (fun r c hp => ?_)
  rcases hp with hp | ⟨-, hp⟩
  · exact absurd rfl hp.1
  · cases hz : zrK (S.1.1 0) t with
    | inl e =>
      rw [hz] at hp
      obtain ⟨rfl, rfl⟩ := hp
      exact ⟨h.bad (zrK_e hz), rfl⟩
    | inr v =>
      rw [hz] at hp
      exact hp
theorem c_Mo_isg (Δ : zD) {w0 w : zW} {tx : Nat → Nat} {n : Nat} {S : zTo × Nat} {t : zTkn} (h : zGd w0 w tx n S t) (k : Nat) (hk : k < 17) {b : Bool} (hb : zwd tx t (zmw k) = b) : zMd Δ 2 0 0 true yX9_is mX9_is [.ref 100, .int (nI k)] w (some (.int (if b then 1 else 0))) w := by
  have h9 := h.2.1.2.2.1
  have := c_Mo_is Δ w h.2.1.1 tx t h.2.2.1 ⟨h.2.2.2.1.1.1, Nat.le_trans h.2.2.2.1.1.2 h9⟩ h.2.2.2.1.2.2 h.2.2.2.1.2.1.1 k hk
  rw [hb] at this
  exact this
set_option maxRecDepth 100000 in
theorem c_Mo_nmB (Δ : zD) {w0 w : zW} {tx : Nat → Nat} {n : Nat} {e : Nat × Nat} (h : zBd w0 w tx n e) (lo hi : Int32) : zMd Δ 2 0 0 true yX9_number mX9_number [.ref 100, .int lo, .int hi] w (some (.int 0)) w := by
  refine zMd.of mfX9_number (Nat.le_of_ble_eq_true rfl) (fun QR hQ => ?_)
  have hM := h.2.1.1
  refine zJ_aload_n dX9_number_0 rfl ?_
  refine zJ_cV0 dX9_number_1 sX9_224 mfX9_isGood (c_Mo_igB Δ h) (by first | rfl | assumption | exact hM.at (by decide) (by decide)) rfl (Nat.le_of_ble_eq_true rfl) (by decide) (by decide) ?_
  refine zJ_if_ne (tgt := 9) dX9_number_4 (by decide) (fun h9 => False.elim (by revert h9; decide)) (fun _ => ?_)
  refine zJ_iconst (v := 0) dX9_number_7 (by decide) ?_
  exact zJ_iret dX9_number_8 rfl (by decide) (by decide) hQ
set_option maxRecDepth 100000 in
theorem c_Mo_prB (Δ : zD) {w0 w : zW} {tx : Nat → Nat} {n : Nat} {e : Nat × Nat} (h : zBd w0 w tx n e) (kn lo hi wo : Int32) : zMd Δ 3 0 0 true yX9_perhaps mX9_perhaps [.ref 100, .int kn, .int lo, .int hi, .int wo] w (some (.int wo)) w := by
  refine zMd.of mfX9_perhaps (Nat.le_of_ble_eq_true rfl) (fun QR hQ => ?_)
  have hM := h.2.1.1
  refine zJ_aload_n dX9_perhaps_0 rfl ?_
  refine zJ_cV0 dX9_perhaps_1 sX9_224 mfX9_isGood (c_Mo_igB Δ h) (by first | rfl | assumption | exact hM.at (by decide) (by decide)) rfl (Nat.le_of_ble_eq_true rfl) (by decide) (by decide) ?_
  refine zJ_if_eq (tgt := 15) dX9_perhaps_4 (by decide) (fun _ => ?_) (fun h9 => False.elim (by revert h9; decide))
  refine zJ_iload dX9_perhaps_15 rfl ?_
  exact zJ_iret dX9_perhaps_17 rfl (by decide) (by decide) hQ
set_option maxRecDepth 100000 in
theorem c_Mo_phB (Δ : zD) {w0 w : zW} {tx : Nat → Nat} {n : Nat} {e : Nat × Nat} (h : zBd w0 w tx n e) : zMd Δ 1 0 0 true yX9_personHere mX9_personHere [.ref 100] w (some (.int 0)) w := by
  refine zMd.of mfX9_personHere (Nat.le_of_ble_eq_true rfl) (fun QR hQ => ?_)
  have hM := h.2.1.1
  refine zJ_aload_n dX9_personHere_0 rfl ?_
  refine zJ_cV0 dX9_personHere_1 sX9_224 mfX9_isGood (c_Mo_igB Δ h) (by first | rfl | assumption | exact hM.at (by decide) (by decide)) rfl (Nat.le_of_ble_eq_true rfl) (by decide) (by decide) ?_
  refine zJ_if_ne (tgt := 9) dX9_personHere_4 (by decide) (fun h9 => False.elim (by revert h9; decide)) (fun _ => ?_)
  refine zJ_iconst (v := 0) dX9_personHere_7 (by decide) ?_
  exact zJ_zret dX9_personHere_8 rfl rfl (by decide) (by decide) hQ
set_option maxRecDepth 100000 in
theorem c_Mo_ndB (Δ : zD) {w0 w : zW} {tx : Nat → Nat} {n : Nat} {e : Nat × Nat} (h : zBd w0 w tx n e) (b : Int32) : zMd Δ 2 0 0 true yX9_need mX9_need [.ref 100, .int b] w none w := by
  refine zMd.of mfX9_need (Nat.le_of_ble_eq_true rfl) (fun QR hQ => ?_)
  have hM := h.2.1.1
  refine zJ_aload_n dX9_need_0 rfl ?_
  refine zJ_cV0 dX9_need_1 sX9_224 mfX9_isGood (c_Mo_igB Δ h) (by first | rfl | assumption | exact hM.at (by decide) (by decide)) rfl (Nat.le_of_ble_eq_true rfl) (by decide) (by decide) ?_
  refine zJ_if_ne (tgt := 8) dX9_need_4 (by decide) (fun h9 => False.elim (by revert h9; decide)) (fun _ => ?_)
  exact zJ_vret dX9_need_7 rfl (by decide) (by decide) hQ
set_option maxRecDepth 100000 in
theorem c_Mo_pr (Δ : zD) {w0 w : zW} {tx : Nat → Nat} {n : Nat} {S : zTo × Nat} {t : zTkn} (h : zGd w0 w tx n S t) (kn lo hi wo : Nat) (hkn : kn < 17) (hlo : lo ≤ 9999) (hhi : hi ≤ 9999) : zMp Δ 3 yX9_perhaps mX9_perhaps [.ref 100, .int (nI kn), .int (nI lo), .int (nI hi), .int (nI wo)] w (fun r c => match zrP tx n (zmw kn) lo hi wo t with | .inl e => zBd w0 c tx n e ∧ ∃ v, r = some (.int v) | .inr q => zGd w0 c tx n S q.2 ∧ r = some (.int (nI q.1))) := by
  refine zMp.of mfX9_perhaps (Nat.le_of_ble_eq_true rfl) (fun QR hQ => ?_)
  have hM := h.2.1.1
  have IG := c_Mo_ig Δ h
  cases hz : zwd tx t (zmw kn) with
  | false =>
    have hp : zrP tx n (zmw kn) lo hi wo t = .inr (wo, t) := by simp only [zrP, hz]; rfl
    rw [hp] at hQ
    have IS := c_Mo_isg Δ h kn hkn hz
    refine zJ_aload_n dX9_perhaps_0 rfl ?_
    refine zJ_cV0 dX9_perhaps_1 sX9_224 mfX9_isGood IG (by first | rfl | assumption | exact hM.at (by decide) (by decide) | exact M1.at (by decide) (by decide) | exact M2.at (by decide) (by decide) | exact M3.at (by decide) (by decide) | exact M4.at (by decide) (by decide) | exact M5.at (by decide) (by decide) | exact M6.at (by decide) (by decide)) rfl (Nat.le_of_ble_eq_true rfl) (by decide) (by decide) ?_
    refine zJ_if_eq (tgt := 15) dX9_perhaps_4 (by decide) (fun h9 => False.elim (by revert h9; decide)) (fun _ => ?_)
    refine zJ_aload_n dX9_perhaps_7 rfl ?_
    refine zJ_iload_n dX9_perhaps_8 rfl ?_
    refine zJ_cV1 dX9_perhaps_9 sX9_234 mfX9_is IS (by first | rfl | assumption | exact hM.at (by decide) (by decide) | exact M1.at (by decide) (by decide) | exact M2.at (by decide) (by decide) | exact M3.at (by decide) (by decide) | exact M4.at (by decide) (by decide) | exact M5.at (by decide) (by decide) | exact M6.at (by decide) (by decide)) rfl (Nat.le_of_ble_eq_true rfl) (by decide) (by decide) ?_
    refine zJ_if_ne (tgt := 18) dX9_perhaps_12 (by decide) (fun h9 => False.elim (by revert h9; decide)) (fun _ => ?_)
    refine zJ_iload dX9_perhaps_15 rfl ?_
    exact zJ_iret dX9_perhaps_17 rfl (by decide) (by decide) (hQ _ _ ⟨h, rfl⟩)
  | true =>
    have IS := c_Mo_isg Δ h kn hkn hz
    refine zJ_aload_n dX9_perhaps_0 rfl ?_
    refine zJ_cV0 dX9_perhaps_1 sX9_224 mfX9_isGood IG (by first | rfl | assumption | exact hM.at (by decide) (by decide) | exact M1.at (by decide) (by decide) | exact M2.at (by decide) (by decide) | exact M3.at (by decide) (by decide) | exact M4.at (by decide) (by decide) | exact M5.at (by decide) (by decide) | exact M6.at (by decide) (by decide)) rfl (Nat.le_of_ble_eq_true rfl) (by decide) (by decide) ?_
    refine zJ_if_eq (tgt := 15) dX9_perhaps_4 (by decide) (fun h9 => False.elim (by revert h9; decide)) (fun _ => ?_)
    refine zJ_aload_n dX9_perhaps_7 rfl ?_
    refine zJ_iload_n dX9_perhaps_8 rfl ?_
    refine zJ_cV1 dX9_perhaps_9 sX9_234 mfX9_is IS (by first | rfl | assumption | exact hM.at (by decide) (by decide) | exact M1.at (by decide) (by decide) | exact M2.at (by decide) (by decide) | exact M3.at (by decide) (by decide) | exact M4.at (by decide) (by decide) | exact M5.at (by decide) (by decide) | exact M6.at (by decide) (by decide)) rfl (Nat.le_of_ble_eq_true rfl) (by decide) (by decide) ?_
    refine zJ_if_ne (tgt := 18) dX9_perhaps_12 (by decide) (fun _ => ?_) (fun h9 => False.elim (by revert h9; decide))
    refine zJ_aload_n dX9_perhaps_18 rfl ?_
    refine zJ_eV0 dX9_perhaps_19 sX9_228 mfX9_steps (c_Mo_st Δ h) (by first | exact hM.at (by decide) (by decide) | exact M1.at (by decide) (by decide) | exact M2.at (by decide) (by decide) | exact M3.at (by decide) (by decide) | exact M4.at (by decide) (by decide) | exact M5.at (by decide) (by decide) | exact M6.at (by decide) (by decide)) rfl (Nat.le_of_ble_eq_true rfl) (by decide) (by decide) (fun r c hP => ?_)
    obtain ⟨rfl, hc⟩ := hP
    have M1 := hc.2.1.1
    refine zJ_aload_n dX9_perhaps_22 rfl ?_
    refine zJ_iload_n dX9_perhaps_23 rfl ?_
    refine zJ_iload_n dX9_perhaps_24 rfl ?_
    refine zJ_eV2 dX9_perhaps_25 sX9_237 mfX9_number (c_Mo_nm Δ hc lo hi hlo hhi) (by first | exact hM.at (by decide) (by decide) | exact M1.at (by decide) (by decide) | exact M2.at (by decide) (by decide) | exact M3.at (by decide) (by decide) | exact M4.at (by decide) (by decide) | exact M5.at (by decide) (by decide) | exact M6.at (by decide) (by decide)) rfl (Nat.le_of_ble_eq_true rfl) (by decide) (by decide) (fun r d hP => ?_)
    cases hn : zrN lo hi (ztk tx n t.2.2.1) with
    | inl e =>
      rw [hn] at hP
      have hp : zrP tx n (zmw kn) lo hi wo t = .inl e := by simp only [zrP, hz, hn]; rfl
      rw [hp] at hQ
      obtain ⟨hb, v, rfl⟩ := hP
      exact zJ_iret dX9_perhaps_28 rfl (by decide) (by decide) (hQ _ _ ⟨hb, v, rfl⟩)
    | inr v =>
      rw [hn] at hP
      have hp : zrP tx n (zmw kn) lo hi wo t = .inr (v, ztk tx n (ztk tx n t.2.2.1).2.2.1) := by simp only [zrP, hz, hn]; rfl
      rw [hp] at hQ
      obtain ⟨hb, rfl⟩ := hP
      exact zJ_iret dX9_perhaps_28 rfl (by decide) (by decide) (hQ _ _ ⟨hb, rfl⟩)
