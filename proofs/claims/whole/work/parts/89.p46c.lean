/-! what changes: begin, image, restore, on, town -/
section ZUC
variable {w d c : zW} {U : zTo} {kv b : Int32}
theorem zHi.row {a : Nat} {f : Nat → Int32} (h : a ≤ 79) : zHi w (zrow w a f) := ⟨fun _ _ => rfl, fun b j hb => ⟨by simp only [zrow]; rw [if_neg (by omega)], rfl⟩⟩
theorem zc8.get (h : zc8 w U) : ∃ (bg : Prop) (wo n : Nat) (S : zRs), ((bg ∧ zWr w 53 wo n S ∧ w.2.1 100 76 = 1 ∧ zMwk w U wo n S ∧ 0 < U.1 0) ∨ (¬ bg ∧ n = 0 ∧ w.2.1 53 0 = 0 ∧ w.2.1 53 3 = 0 ∧ w.2.1 100 76 = 0)) := by
  rcases h with ⟨wo, n, S, h⟩ | h
  · exact ⟨True, wo, n, S, Or.inl ⟨trivial, h⟩⟩
  · exact ⟨False, 0, 0, (0, fun _ => 0, fun _ => none), Or.inr ⟨fun h => h, rfl, h⟩⟩
/-! begin -/
def zv_be (U : zTo) (o : Int32) : Prop := 0 < U.1 0 ∧ ∃ ov, ov ≤ 20 ∧ o = nI ov
def zN_be (w : zW) (U : zTo) (s o : Int32) (r : Option Value) (d : zW) : Prop := r = none ∧ 0 < U.1 0 ∧ ∃ ov, ov ≤ 20 ∧ o = nI ov ∧ d = (zrow (zsi (zsi (zsi (zsi w 53 0 1) 53 1 s) 53 2 (nI ov)) 53 3 0) (53 + 3) (fun k => if k < 8 then -1 else w.2.1 (53 + 3) k))
theorem zna_be {Δ : zD} (hC : zKC w U) (s o : Int32) : zM Δ 6 10 60 true yX8_begin mX8_begin [.ref 0, .int s, .int o] w (zNU w False (zN_be w U s o)) (zNX1 "java/lang/IllegalArgumentException" w U False (¬ zv_be U o)) :=
  (c_begin Δ w U hC.1 s o).mono (fun r d h => by
    refine ⟨?_, h⟩
    obtain ⟨-, -, ov, -, -, rfl⟩ := h
    exact ⟨((((zHi.i (by decide)).tr (zHi.i (by decide))).tr (zHi.i (by decide))).tr (zHi.i (by decide))).tr (zHi.row (by decide)), zLw.q rfl⟩) (fun E d h => by
    obtain ⟨rfl, rfl, h⟩ := h
    exact ⟨zkcl0 hC (fun h => h), rfl, h⟩)
def zOV (d : zW) (kv : Int32) (c : zW) : Prop := c.2.1 100 0 = kv ∧ (∃ U, zKC c U) ∧ c.2.2.2 0 8 = d.2.2.2 0 8
theorem zfin_be {s o : Int32} (hC : zKC w U) (hres : (kv = 1 ∧ ¬ zv_be U o ∧ zKC d U) ∨ (kv = 0 ∧ zN_be w U s o none d)) (hq : (¬ zv_be U o ∧ c = zsi (zsi d 100 0 0) 100 0 1) ∨ (0 < U.1 0 ∧ ∃ ov, ov ≤ 20 ∧ o = nI ov ∧ c = zrow (zsi (zsi (zsi (zsi (zsi d 100 0 0) 100 76 1) 178 0 s) 178 1 (nI ov)) 178 2 0) 179 (fun p => if p < 8 then 0 else d.2.1 179 p))) : zOV d kv c := by
  rcases hres with ⟨rfl, h2, h3⟩ | ⟨rfl, -, h2, ov, h3, h4, rfl⟩
  · rcases hq with ⟨-, rfl⟩ | ⟨g1, ov, g2, g3, -⟩
    · exact ⟨by simp [zsi], ⟨U, h3.mo (zFM.t0.tr zFM.t0)⟩, rfl⟩
    · exact (h2 ⟨g1, ov, g2, g3⟩).elim
  · rcases hq with ⟨g1, -⟩ | ⟨-, ov2, g2, g3, hc⟩
    · exact (g1 ⟨h2, ov, h3, h4⟩).elim
    · obtain rfl := nI_u h4 g3 (by omega) (by omega)
      obtain ⟨k1, k2, k3, k4, k5, k6, k7, k8, k9⟩ := hC.2.2.2.2
      refine ⟨by rw [hc]; simp [zsi, zrow], ⟨U, ?_⟩, by rw [hc]; rfl⟩
      have ne : ∀ {p : Nat → Nat → Prop}, (∀ a j, p a j → ¬ a = 53 ∧ ¬ a = 56 ∧ ¬ (a = 100 ∧ (j = 0 ∨ j = 76)) ∧ ¬ a = 178 ∧ ¬ a = 179) → zAg p w c := fun h a j x => by
        obtain ⟨x1, x2, x3, x4, x5⟩ := h a j x
        rw [hc]
        simp only [zsi, zrow]
        rw [if_neg x5, if_neg (by omega), if_neg (by omega), if_neg (by omega), if_neg (by omega), if_neg (by omega), if_neg (by omega), if_neg (by omega), if_neg (by omega), if_neg (by omega), if_neg (by omega)]
      refine hC.kp ⟨by rw [hc]; rfl, by rw [hc]; rfl, fun a j x => ⟨ne (p := zoT) (fun a j x => by unfold zoT at x; omega) a j x, by rw [hc]; rfl⟩, ne (p := zoM) (fun a j x => by unfold zoM at x; omega)⟩ ⟨k1.ob (ne (fun a j x => by unfold zo1 at x; omega)), k2.ob (ne (fun a j x => by unfold zo2 at x; omega)), k3.ob (ne (fun a j x => by unfold zo3 at x; omega)), k4.ob (ne (fun a j x => by unfold zo4 at x; omega)), k5.ob (ne (fun a j x => by unfold zo5 at x; omega)), k6.ob (ne (fun a j x => by unfold zo6 at x; omega)), k7.ob (ne (fun a j x => by unfold zo7 at x; omega)) (by rw [hc]; rfl), Or.inl ⟨ov, 0, (s, fun _ => 0, fun _ => none), ⟨?_, ?_, ?_, h3, ?_, by decide, fun j hj => absurd hj (by omega), fun p hp => ⟨?_, Nat.zero_le _⟩⟩, ?_, ⟨?_, ?_, h3, ?_, by decide, fun j hj => absurd hj (by omega), fun p hp => ⟨?_, Nat.zero_le _⟩⟩, h2⟩, k9.ob (ne (fun a j x => by unfold zo9 at x; omega))⟩
      · rw [hc]; simp [zsi, zrow]
      · rw [hc]; simp [zsi, zrow]
      · rw [hc]; simp [zsi, zrow]
      · rw [hc]; simp [zsi, zrow]; rfl
      · rw [hc]; simp [zsi, zrow, hp]; decide
      · rw [hc]; simp [zsi, zrow]
      · rw [hc]; simp [zsi, zrow]
      · rw [hc]; simp [zsi, zrow]
      · rw [hc]; simp [zsi, zrow]; rfl
      · rw [hc]; simp [zsi, zrow, hp]; rfl
/-! image, restore -/
theorem zwcp_o {i f a j : Nat} (h : a < i ∨ i + 3 < a) : (zwcp w i f).2.1 a j = w.2.1 a j := by
  simp only [zwcp]
  rw [if_neg (by omega), if_neg (by omega), if_neg (by omega), if_neg (by omega)]
theorem zWr.cp {i f wo n : Nat} {S : zRs} (h : zWr w f wo n S) : zWr (zwcp w i f) i wo n S := by
  obtain ⟨h0, h1, h2, h3, h4, h5, h6, h7⟩ := h
  refine ⟨?_, ?_, ?_, h3, ?_, h5, fun j hj => ⟨?_, ?_, (h6 j hj).2.2⟩, fun p hp => ⟨?_, (h7 p hp).2⟩⟩
  · simpa [zwcp] using h0
  · simpa [zwcp] using h1
  · simpa [zwcp] using h2
  · simpa [zwcp] using h4
  · simp only [zwcp]
    rw [if_neg (by omega), if_pos trivial, if_pos (by omega)]
    exact (h6 j hj).1
  · simp only [zwcp]
    rw [if_neg (by omega), if_neg (by omega), if_pos trivial, if_pos (by omega)]
    exact (h6 j hj).2.1
  · simp only [zwcp]
    rw [if_neg (by omega), if_neg (by omega), if_neg (by omega), if_pos trivial, if_pos (by omega)]
    exact (h7 p hp).1
theorem zlmI (l : List Nat) (hf : zFM l d c) (hd : ∀ a j, (a < 57 ∨ 60 < a) → d.2.1 a j = w.2.1 a j) (hl : ∀ k ∈ l, k = 0 ∨ k = 77 ∨ (83 ≤ k ∧ k ≤ 87)) {p : Nat → Nat → Prop} (h : ∀ a j, p a j → ¬ (57 ≤ a ∧ a ≤ 60) ∧ ¬ (a = 100 ∧ (j = 0 ∨ j = 77 ∨ (83 ≤ j ∧ j ≤ 87))) ∧ ¬ (183 ≤ a ∧ a ≤ 187) ∧ ¬ a = 177) : zAg p w c := fun a j x => by
  obtain ⟨x1, x2, x3, x4⟩ := h a j x
  refine Eq.trans ?_ (hd a j (by omega))
  by_cases ha : a = 100
  · subst ha
    exact hf.at (fun hj => by have := hl j hj; omega)
  · exact (hf.2.2.2 a j ha (fun k hk => by have := hl k hk; omega)).1
theorem zlr2 (l : List Nat) (hf : zFM l d c) (hd : ∀ a j, (a < 53 ∨ 56 < a) → d.2.1 a j = w.2.1 a j) (hl : ∀ k ∈ l, k = 0 ∨ k = 76 ∨ (78 ≤ k ∧ k ≤ 82)) {p : Nat → Nat → Prop} (h : ∀ a j, p a j → ¬ (53 ≤ a ∧ a ≤ 56) ∧ ¬ (a = 100 ∧ (j = 0 ∨ j = 76 ∨ (78 ≤ j ∧ j ≤ 82))) ∧ ¬ (176 ≤ a ∧ a ≤ 182 ∧ ¬ a = 177)) : zAg p w c := fun a j x => by
  obtain ⟨x1, x2, x3⟩ := h a j x
  refine Eq.trans ?_ (hd a j (by omega))
  by_cases ha : a = 100
  · subst ha
    exact hf.at (fun hj => by have := hl j hj; omega)
  · exact (hf.2.2.2 a j ha (fun k hk => by have := hl k hk; omega)).1
theorem zfin_im {r1 r2 : Option Value} (hC : zKC w U) (hcl : (w.2.1 53 0 = 0 ∧ r1 = some (.int 0) ∧ d = w) ∨ (w.2.1 53 0 = 1 ∧ r1 = some (.int 1) ∧ d = zwcp w 57 53)) (hmo : (d.2.1 100 76 = 0 ∧ r2 = some (.int 0) ∧ c = zsi d 100 0 0) ∨ (d.2.1 100 76 = 1 ∧ r2 = some (.int 1) ∧ zFM [0, 77, 83, 84, 85, 86, 87] d c ∧ c.2.1 100 77 = 1 ∧ (∀ j, j < 3 → c.2.1 183 j = d.2.1 178 j) ∧ (∀ j, j < 8 → c.2.1 184 j = d.2.1 179 j) ∧ (∀ j, j < 100 → c.2.1 185 j = d.2.1 180 j) ∧ (∀ j, j < 100 → c.2.1 186 j = d.2.1 181 j) ∧ (∀ j, j < 100 → c.2.1 187 j = d.2.1 182 j))) : r1 = r2 ∧ zKC c U ∧ c.2.2.2 0 8 = w.2.2.2 0 8 := by
  obtain ⟨k1, k2, k3, k4, k5, k6, k7, k8, k9⟩ := hC.2.2.2.2
  rcases hcl with ⟨h1, rfl, rfl⟩ | ⟨h1, rfl, hd⟩
  · rcases hmo with ⟨-, rfl, rfl⟩ | ⟨g1, -⟩
    · exact ⟨rfl, hC.mo zFM.t0, rfl⟩
    · rcases k8 with ⟨wo, n, S, q1, -⟩ | ⟨-, -, q1⟩
      · rw [q1.1] at h1; exact absurd h1 (by decide)
      · rw [q1] at g1; exact absurd g1 (by decide)
  · have e76 : d.2.1 100 76 = w.2.1 100 76 := by rw [hd]; exact zwcp_o (by decide)
    have hk8 := k8
    rcases k8 with ⟨wo, n, S, q1, q2, q3, q4⟩ | ⟨q1, -, -⟩
    · rcases hmo with ⟨g1, -⟩ | ⟨-, rfl, hf, g2, g3, g4, g5, g6, g7⟩
      · rw [e76, q2] at g1; exact absurd g1 (by decide)
      · have hdo : ∀ a j, (a < 57 ∨ 60 < a) → d.2.1 a j = w.2.1 a j := fun a j x => by rw [hd]; exact zwcp_o (by omega)
        have ne : ∀ {p : Nat → Nat → Prop}, (∀ a j, p a j → ¬ (57 ≤ a ∧ a ≤ 60) ∧ ¬ (a = 100 ∧ (j = 0 ∨ j = 77 ∨ (83 ≤ j ∧ j ≤ 87))) ∧ ¬ (183 ≤ a ∧ a ≤ 187) ∧ ¬ a = 177) → zAg p w c := fun h => zlmI _ hf hdo (by decide) h
        refine ⟨rfl, ?_, by rw [hf.2.1, hd]; rfl⟩
        refine hC.kp ⟨by rw [hf.1, hd]; rfl, by rw [hf.2.1, hd]; rfl, fun a j x => ⟨ne (p := zoT) (fun a j x => by unfold zoT at x; omega) a j x, by rw [(hf.low (by omega)).2, hd]; rfl⟩, ne (p := zoM) (fun a j x => by unfold zoM at x; omega)⟩ ⟨k1.ob (ne (fun a j x => by unfold zo1 at x; omega)), k2.ob (ne (fun a j x => by unfold zo2 at x; omega)), k3.ob (ne (fun a j x => by unfold zo3 at x; omega)), k4.ob (ne (fun a j x => by unfold zo4 at x; omega)), k5.ob (ne (fun a j x => by unfold zo5 at x; omega)), k6.ob (ne (fun a j x => by unfold zo6 at x; omega)), k7.ob (ne (fun a j x => by unfold zo7 at x; omega)) (by rw [(hf.low (by decide)).2, hd]; rfl), hk8.ob (ne (fun a j x => by unfold zo8 at x; omega)), Or.inl ⟨wo, n, S, ?_, g2, ?_, q4⟩⟩
        · refine zWr.ob (w := d) ?_ (fun a j x y => (hf.low (by omega)).1)
          rw [hd]
          exact q1.cp
        · obtain ⟨m1, m2, m3, m4, m5, m6, m7⟩ := q3
          exact ⟨(g3 0 (by decide)).trans ((hdo _ _ (by decide)).trans m1), (g3 1 (by decide)).trans ((hdo _ _ (by decide)).trans m2), m3, (g3 2 (by decide)).trans ((hdo _ _ (by decide)).trans m4), m5, fun j hj => ⟨(g5 j (by omega)).trans ((hdo _ _ (by decide)).trans (m6 j hj).1), (g6 j (by omega)).trans ((hdo _ _ (by decide)).trans (m6 j hj).2.1), (g7 j (by omega)).trans ((hdo _ _ (by decide)).trans (m6 j hj).2.2)⟩, fun p hp => ⟨(g4 p hp).trans ((hdo _ _ (by decide)).trans (m7 p hp).1), (m7 p hp).2⟩⟩
    · rw [q1] at h1; exact absurd h1 (by decide)
theorem zfin_re {r1 r2 : Option Value} (hC : zKC w U) (hcl : (w.2.1 57 0 = 0 ∧ r1 = some (.int 0) ∧ d = w) ∨ (w.2.1 57 0 = 1 ∧ r1 = some (.int 1) ∧ d = zwcp w 53 57)) (hmo : (d.2.1 100 77 = 0 ∧ r2 = some (.int 0) ∧ c = zsi d 100 0 0) ∨ (d.2.1 100 77 = 1 ∧ r2 = some (.int 1) ∧ zFM [0, 76, 78, 79, 80, 81, 82] d c ∧ c.2.1 100 76 = 1 ∧ (∀ j, j < 3 → c.2.1 178 j = d.2.1 183 j) ∧ (∀ j, j < 8 → c.2.1 179 j = d.2.1 184 j) ∧ (∀ j, j < 100 → c.2.1 180 j = d.2.1 185 j) ∧ (∀ j, j < 100 → c.2.1 181 j = d.2.1 186 j) ∧ (∀ j, j < 100 → c.2.1 182 j = d.2.1 187 j))) : r1 = r2 ∧ zKC c U ∧ c.2.2.2 0 8 = w.2.2.2 0 8 := by
  obtain ⟨k1, k2, k3, k4, k5, k6, k7, k8, k9⟩ := hC.2.2.2.2
  rcases hcl with ⟨h1, rfl, rfl⟩ | ⟨h1, rfl, hd⟩
  · rcases hmo with ⟨-, rfl, rfl⟩ | ⟨g1, -⟩
    · exact ⟨rfl, hC.mo zFM.t0, rfl⟩
    · rcases k9 with ⟨wo, n, S, q1, -⟩ | ⟨-, -, q1⟩
      · rw [q1.1] at h1; exact absurd h1 (by decide)
      · rw [q1] at g1; exact absurd g1 (by decide)
  · have e77 : d.2.1 100 77 = w.2.1 100 77 := by rw [hd]; exact zwcp_o (by decide)
    have hk9 := k9
    rcases k9 with ⟨wo, n, S, q1, q2, q3, q4⟩ | ⟨q1, -, -⟩
    · rcases hmo with ⟨g1, -⟩ | ⟨-, rfl, hf, g2, g3, g4, g5, g6, g7⟩
      · rw [e77, q2] at g1; exact absurd g1 (by decide)
      · have hdo : ∀ a j, (a < 53 ∨ 56 < a) → d.2.1 a j = w.2.1 a j := fun a j x => by rw [hd]; exact zwcp_o (by omega)
        have ne : ∀ {p : Nat → Nat → Prop}, (∀ a j, p a j → ¬ (53 ≤ a ∧ a ≤ 56) ∧ ¬ (a = 100 ∧ (j = 0 ∨ j = 76 ∨ (78 ≤ j ∧ j ≤ 82))) ∧ ¬ (176 ≤ a ∧ a ≤ 182 ∧ ¬ a = 177)) → zAg p w c := fun h => zlr2 _ hf hdo (by decide) h
        refine ⟨rfl, ?_, by rw [hf.2.1, hd]; rfl⟩
        refine hC.kp ⟨by rw [hf.1, hd]; rfl, by rw [hf.2.1, hd]; rfl, fun a j x => ⟨ne (p := zoT) (fun a j x => by unfold zoT at x; omega) a j x, by rw [(hf.low (by omega)).2, hd]; rfl⟩, ne (p := zoM) (fun a j x => by unfold zoM at x; omega)⟩ ⟨k1.ob (ne (fun a j x => by unfold zo1 at x; omega)), k2.ob (ne (fun a j x => by unfold zo2 at x; omega)), k3.ob (ne (fun a j x => by unfold zo3 at x; omega)), k4.ob (ne (fun a j x => by unfold zo4 at x; omega)), k5.ob (ne (fun a j x => by unfold zo5 at x; omega)), k6.ob (ne (fun a j x => by unfold zo6 at x; omega)), k7.ob (ne (fun a j x => by unfold zo7 at x; omega)) (by rw [(hf.low (by decide)).2, hd]; rfl), Or.inl ⟨wo, n, S, ?_, g2, ?_, q4⟩, hk9.ob (ne (fun a j x => by unfold zo9 at x; omega))⟩
        · refine zWr.ob (w := d) ?_ (fun a j x y => (hf.low (by omega)).1)
          rw [hd]
          exact q1.cp
        · obtain ⟨m1, m2, m3, m4, m5, m6, m7⟩ := q3
          exact ⟨(g3 0 (by decide)).trans ((hdo _ _ (by decide)).trans m1), (g3 1 (by decide)).trans ((hdo _ _ (by decide)).trans m2), m3, (g3 2 (by decide)).trans ((hdo _ _ (by decide)).trans m4), m5, fun j hj => ⟨(g5 j (by omega)).trans ((hdo _ _ (by decide)).trans (m6 j hj).1), (g6 j (by omega)).trans ((hdo _ _ (by decide)).trans (m6 j hj).2.1), (g7 j (by omega)).trans ((hdo _ _ (by decide)).trans (m6 j hj).2.2)⟩, fun p hp => ⟨(g4 p hp).trans ((hdo _ _ (by decide)).trans (m7 p hp).1), (m7 p hp).2⟩⟩
    · rw [q1] at h1; exact absurd h1 (by decide)
/-! on -/
def zv_oo (x : Int32) : Prop := ∃ m, m ≤ 60 ∧ x = nI m
def zb_oo (U : zTo) (bg : Prop) (n : Nat) (x : Int32) : Prop := (∃ m, m ≤ 60 ∧ x = nI m ∧ bg ∧ n + m ≤ 100) ∧ ¬ zfit U 640
def zX_oo (U : zTo) (bg : Prop) (n : Nat) (x : Int32) : Prop := ¬ zv_oo x ∨ ∃ m, m ≤ 60 ∧ x = nI m ∧ bg ∧ n + m ≤ 100 ∧ ¬ zfit U 20000
def zN_oo (w : zW) (U : zTo) (bg : Prop) (wo n : Nat) (S : zRs) (x : Int32) (r : Option Value) (d : zW) : Prop := ∃ m, m ≤ 60 ∧ x = nI m ∧ ((¬ (bg ∧ n + m ≤ 100) ∧ r = some (.int (-1)) ∧ d = w) ∨ (bg ∧ n + m ≤ 100 ∧ zfit U 20000 ∧ r = some (.int (nI (n + m))) ∧ ∃ e, zFb w e ∧ zB e U ∧ zFw e d 53 ∧ zWr d 53 wo (n + m) (zrx U wo n S m)))
theorem zna_oo {Δ : zD} {bg : Prop} {wo n : Nat} {S : zRs} (hC : zKC w U) (hbg : (bg ∧ zWr w 53 wo n S) ∨ (¬ bg ∧ w.2.1 53 0 = 0)) (x : Int32) (mc ms : Nat) (hm : zRo w (zb_oo U bg n x) mc ms) : zM Δ 8 mc ms false yX8_on mX8_on [.ref 0, .int x] w (zNU w (zb_oo U bg n x) (zN_oo w U bg wo n S x)) (zNX1 "java/lang/IllegalArgumentException" w U (zb_oo U bg n x) (zX_oo U bg n x)) :=
  (c_on Δ w U hC.1 x bg wo n S hbg mc ms hm).mono (fun r d h => by
    obtain ⟨m, h1, h2, h3⟩ := h
    rcases h3 with ⟨h3, h4, h5⟩ | ⟨h3, h4, h5, h6, e, h7, h8, h9, h10, h11⟩
    · refine ⟨?_, m, h1, h2, Or.inl ⟨h3, h4, h5⟩⟩
      rw [h5]
      exact ⟨zHi.rf w, zLw.rf w (fun h => by
        obtain ⟨⟨m2, g1, g2, g3, g4⟩, -⟩ := h
        obtain rfl := nI_u h2 g2 (by omega) (by omega)
        exact h3 ⟨g3, g4⟩)⟩
    · refine ⟨⟨h7.c.hi.tr ⟨fun a _ => by rw [h10.1], fun a j x => ⟨h10.2.2 a j (by omega), by rw [h10.2.1]⟩⟩, ?_⟩, m, h1, h2, Or.inr ⟨h3, h4, h5, h6, e, h7, h8, h10, h11⟩⟩
      intro h
      rw [h10.2.1]
      exact (h9.w.s (b2 := zb_oo U bg n x) (fun h => h.2)) h) (fun E d h => by
    rcases h with ⟨rfl, rfl, h⟩ | ⟨m, h1, h2, h3, h4, h5⟩
    · exact ⟨zkcl0 hC (fun h9 => by obtain ⟨⟨m, g1, g2, -⟩, -⟩ := h9; exact h ⟨m, g1, g2⟩), rfl, Or.inl h⟩
    · exact ⟨zkcls hC h5, h5.1, Or.inr ⟨m, h1, h2, h3, h4, h5.2.1⟩⟩)
theorem zScr_82 : ∀ k ∈ zScr ++ [78, 79, 80, 81, 82], k ≤ 0 ∨ (38 ≤ k ∧ k ≤ 54) ∨ (60 ≤ k ∧ k ≤ 61) ∨ (64 ≤ k ∧ k ≤ 65) ∨ (68 ≤ k ∧ k ≤ 70) ∨ (74 ≤ k ∧ k ≤ 75) ∨ (78 ≤ k ∧ k ≤ 82) := by decide
theorem zfin_oo {bg : Prop} {wo n : Nat} {S : zRs} {x : Int32} (hC : zKC w U) (hn : n ≤ 100) (hb2 : bg → w.2.1 100 76 = 1 ∧ 0 < U.1 0) (hres : (kv = 1 ∧ zX_oo U bg n x ∧ zKC d U) ∨ (kv = 0 ∧ ∃ v c, zN_oo w U bg wo n S x (some (.int v)) c ∧ d = zsl c 190 0 v.toInt64)) (hq : (¬ zv_oo x ∧ zFM zScr d c ∧ c.2.1 100 0 = 1) ∨ (∃ v, v ≤ 60 ∧ x = nI v ∧ ((¬ (bg ∧ n + v ≤ 100) ∧ some (.int b) = some (Value.int (-1)) ∧ c = zsi d 100 0 0) ∨ (bg ∧ n + v ≤ 100 ∧ ¬ zfit U 20000 ∧ zFM zScr d c ∧ c.2.1 100 0 = 1) ∨ (bg ∧ n + v ≤ 100 ∧ zfit U 20000 ∧ zFM (zScr ++ [78, 79, 80, 81, 82]) d c ∧ c.2.1 100 0 = 0 ∧ some (.int b) = some (Value.int (nI (n + v))) ∧ zMwk c U wo (n + v) (zrx U wo n S v))))) : zOK d kv b c := by
  rcases hres with ⟨rfl, h2, h3⟩ | ⟨rfl, v, c0, h2, rfl⟩
  · rcases hq with ⟨-, g2, g1⟩ | ⟨m, g1, g2, g3⟩
    · exact ⟨⟨g1, fun h => absurd h (by decide)⟩, ⟨U, h3.mo g2⟩, by rw [g2.2.1]⟩
    · rcases h2 with h2 | ⟨m2, h4, h5, h6, h7, h8⟩
      · exact (h2 ⟨m, g1, g2⟩).elim
      · obtain rfl := nI_u h5 g2 (by omega) (by omega)
        rcases g3 with ⟨g3, -⟩ | ⟨-, -, -, g4, g5⟩ | ⟨-, -, g4, -⟩
        · exact (g3 ⟨h6, h7⟩).elim
        · exact ⟨⟨g5, fun h => absurd h (by decide)⟩, ⟨U, h3.mo g4⟩, by rw [g4.2.1]⟩
        · exact (h8 g4).elim
  · obtain ⟨m, h3, h4, h5⟩ := h2
    rcases hq with ⟨g1, -⟩ | ⟨m2, g1, g2, g3⟩
    · exact (g1 ⟨m, h3, h4⟩).elim
    · obtain rfl := nI_u h4 g2 (by omega) (by omega)
      rcases h5 with ⟨e1, e2, rfl⟩ | ⟨e1, e2, e3, e4, e, e5, e6, e7, e8⟩
      · rcases g3 with ⟨-, f1, rfl⟩ | ⟨f1, f2, -⟩ | ⟨f1, f2, -⟩
        · simp only [Option.some.injEq, Value.int.injEq] at e2 f1
          exact ⟨⟨by simp [zsi], fun _ => by simp [zsi, zsl, e2, f1]⟩, ⟨U, (hC.l _).mo zFM.t0⟩, rfl⟩
        · exact (e1 ⟨f1, f2⟩).elim
        · exact (e1 ⟨f1, f2⟩).elim
      · rcases g3 with ⟨f1, -⟩ | ⟨-, -, f1, -⟩ | ⟨-, -, -, hf, f2, f3, f4⟩
        · exact (f1 ⟨e1, e2⟩).elim
        · exact (f1 e3).elim
        · simp only [Option.some.injEq, Value.int.injEq] at e4 f3
          have hE : zKC e U := hC.cl e5.c e6
          obtain ⟨k1, k2, k3, k4, k5, k6, k7, k8, k9⟩ := hE.2.2.2.2
          have el : c0.2.2 = e.2.2 := e7.2.1
          have el2 : c0.2.2.2 = e.2.2.2 := congrArg Prod.snd el
          have ne : ∀ {p : Nat → Nat → Prop}, (∀ a j, p a j → ¬ (53 ≤ a ∧ a ≤ 56) ∧ ¬ (a = 100 ∧ ¬ (1 ≤ j ∧ j ≤ 9) ∧ ¬ j = 14 ∧ ¬ j = 16 ∧ ¬ j = 55 ∧ ¬ j = 56 ∧ ¬ j = 66 ∧ ¬ j = 71 ∧ ¬ j = 76 ∧ ¬ j = 77) ∧ ¬ (138 ≤ a ∧ a ≤ 154) ∧ ¬ (160 ≤ a ∧ a ≤ 161) ∧ ¬ (164 ≤ a ∧ a ≤ 165) ∧ ¬ (168 ≤ a ∧ a ≤ 170) ∧ ¬ (174 ≤ a ∧ a ≤ 175) ∧ ¬ (178 ≤ a ∧ a ≤ 182)) → zAg p e c := fun h a j x => by
            obtain ⟨x1, x2, x3, x4, x5, x6, x7, x8⟩ := h a j x
            refine Eq.trans ?_ (e7.2.2 a j (by omega))
            show c.2.1 a j = (zsl c0 190 0 v.toInt64).2.1 a j
            by_cases ha : a = 100
            · subst ha
              exact hf.at (fun hj => by have := zScr_82 j hj; omega)
            · exact (hf.2.2.2 a j ha (fun k hk => by have := zScr_82 k hk; omega)).1
          refine ⟨⟨f2, fun _ => by rw [(hf.2.2.2 190 0 (by decide) (fun k hk => by have := zScr_82 k hk; omega)).2, e4, f3]; simp [zsl]⟩, ⟨U, ?_⟩, by rw [hf.2.1]⟩
          refine hE.kp ⟨hf.1.trans e7.1, hf.2.1.trans el2, fun a j x => ⟨ne (p := zoT) (fun a j x => by unfold zoT at x; omega) a j x, ?_⟩, ne (p := zoM) (fun a j x => by unfold zoM at x; omega)⟩ ⟨k1.ob (ne (fun a j x => by unfold zo1 at x; omega)), k2.ob (ne (fun a j x => by unfold zo2 at x; omega)), k3.ob (ne (fun a j x => by unfold zo3 at x; omega)), k4.ob (ne (fun a j x => by unfold zo4 at x; omega)), k5.ob (ne (fun a j x => by unfold zo5 at x; omega)), k6.ob (ne (fun a j x => by unfold zo6 at x; omega)), k7.ob (ne (fun a j x => by unfold zo7 at x; omega)) ?_, Or.inl ⟨wo, n + m, zrx U wo n S m, ?_, ?_, f4, (hb2 e1).2⟩, k9.ob (ne (fun a j x => by unfold zo9 at x; omega))⟩
          · refine ((hf.low (by omega)).2).trans ?_
            simp only [zsl]
            rw [if_neg (by omega), el]
          · refine ((hf.low (by decide)).2).trans ?_
            simp only [zsl]
            rw [if_neg (by decide), el]
          · exact zWr.ob (w := c0) e8 (fun a j x y => (hf.low (by omega)).1)
          · refine (ne (p := zoPt 100 76) (fun a j x => by unfold zoPt at x; omega) 100 76 ⟨rfl, rfl⟩).trans ?_
            exact ((e5.2.1 100 76 (by decide)).1).trans (hb2 e1).1
end ZUC
