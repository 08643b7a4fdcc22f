/-! what changes: ended, theft, guess, chain -/
section ZUB
variable {w d c : zW} {U : zTo} {kv b : Int32}
/-! ended -/
theorem zfin_en {n e : Nat} (hC : zKC w U) (hn : n ≤ 20) (h1 : w.2.1 38 1 = nI n) (he : e ≤ 20) (h4 : w.2.1 38 4 = nI e) (he2 : e < 20) (hd : d = zsi (zsi (zsi (zcp w 39 40 0 (e * 20) n) 41 e (nI n)) 38 4 (nI (e + 1))) 38 1 0) (hc : c = zsi (zsi (zsi (zrow (zsi d 100 0 0) 158 (fun j => if e * 20 ≤ j ∧ j < e * 20 + 20 then d.2.1 157 (j - e * 20) else d.2.1 158 j)) 159 e (nI n)) 100 56 (nI (e + 1))) 100 55 0) : zKC c U := by
  subst hd
  obtain ⟨k1, k2, k3, k4, k5, k6, k7, k8, k9⟩ := hC.2.2.2.2
  have ne : ∀ {p : Nat → Nat → Prop}, (∀ a j, p a j → ¬ a = 40 ∧ ¬ a = 41 ∧ ¬ (a = 38 ∧ (j = 1 ∨ j = 4)) ∧ ¬ (a = 100 ∧ (j = 0 ∨ j = 55 ∨ j = 56)) ∧ ¬ a = 158 ∧ ¬ a = 159) → zAg p w c := fun h a j x => by
    obtain ⟨x1, x2, x3, x4, x5, x6⟩ := h a j x
    rw [hc]
    simp only [zsi, zrow, zcp]
    rw [if_neg (by omega), if_neg (by omega), if_neg (by omega), if_neg x5, if_neg (by omega), if_neg (by omega), if_neg (by omega), if_neg (by omega), if_neg (by omega)]
  obtain ⟨n2, f, a1, a2, a3, a4, a5⟩ := k3
  have q1 : n = n2 := nI_u h1 a2 (by omega) (by omega)
  subst q1
  obtain ⟨e2, fr, ln, b1, b2, b3, b4, b5, b6⟩ := k4
  have q2 : e = e2 := nI_u h4 b2 (by omega) (by omega)
  subst q2
  refine hC.kp ⟨by rw [hc]; rfl, by rw [hc]; rfl, fun a j x => ⟨ne (p := zoT) (fun a j x => by unfold zoT at x; omega) a j x, by rw [hc]; rfl⟩, ne (p := zoM) (fun a j x => by unfold zoM at x; omega)⟩ ⟨k1.ob (ne (fun a j x => by unfold zo1 at x; omega)), k2.ob (ne (fun a j x => by unfold zo2 at x; omega)), ⟨0, fun _ => 0, by decide, ?_, ?_, fun i hi => absurd hi (by omega), fun _ => Nat.zero_lt_succ 7⟩, ⟨e + 1, fun r i => if r = e then f i else fr r i, fun r => if r = e then n else ln r, by omega, ?_, ?_, fun r hr => ?_, fun r i hr hi => ?_, fun r i => ?_⟩, k5.ob (ne (fun a j x => by unfold zo5 at x; omega)), k6.ob (ne (fun a j x => by unfold zo6 at x; omega)), k7.ob (ne (fun a j x => by unfold zo7 at x; omega)) (by rw [hc]; rfl), k8.ob (ne (fun a j x => by unfold zo8 at x; omega)), k9.ob (ne (fun a j x => by unfold zo9 at x; omega))⟩
  · rw [hc]; simp [zsi, zrow, zcp]; rfl
  · rw [hc]; simp [zsi, zrow, zcp]; rfl
  · rw [hc]; simp [zsi, zrow, zcp]
  · rw [hc]; simp [zsi, zrow, zcp]
  · rw [hc]
    by_cases hj : r = e
    · subst hj; simp [zsi, zrow, zcp]; exact hn
    · have := b4 r (by omega)
      simp [zsi, zrow, zcp, hj, this.1, this.2.1]
      exact this.2.2
  · by_cases hj : r = e
    · subst hj
      simp only [if_true] at hi ⊢
      have := a4 i hi
      have g1 : r * 20 ≤ r * 20 + i ∧ r * 20 + i < r * 20 + n := by omega
      have g2 : r * 20 ≤ r * 20 + i ∧ r * 20 + i < r * 20 + 20 := by omega
      have g3 : r * 20 + i - r * 20 = i := by omega
      rw [hc]
      refine ⟨?_, ?_, this.2.2⟩
      · simp only [zsi, zrow, zcp]
        rw [if_neg (by omega), if_neg (by omega), if_neg (by omega), if_neg (by omega), if_neg (by omega), if_neg (by omega), if_neg (by omega), if_neg (by omega), if_pos ⟨trivial, g1⟩, g3, Nat.zero_add]
        exact this.1
      · simp only [zsi, zrow, zcp]
        rw [if_neg (by omega), if_neg (by omega), if_neg (by omega), if_pos trivial, if_pos g2, g3, if_neg (by omega), if_neg (by omega), if_neg (by omega), if_neg (by omega)]
        exact this.2.1
    · simp only [hj, if_false] at hi ⊢
      have h20 := (b4 r (by omega)).2.2
      have := b5 r i (by omega) hi
      have g2 : ¬ (e * 20 ≤ r * 20 + i ∧ r * 20 + i < e * 20 + 20) := by omega
      rw [hc]
      refine ⟨?_, ?_, this.2.2⟩
      · simp only [zsi, zrow, zcp]
        rw [if_neg (by omega), if_neg (by omega), if_neg (by omega), if_neg (by omega), if_neg (by omega), if_neg (by omega), if_neg (by omega), if_neg (by omega), if_neg (by omega)]
        exact this.1
      · simp only [zsi, zrow, zcp]
        rw [if_neg (by omega), if_neg (by omega), if_neg (by omega), if_pos trivial, if_neg g2, if_neg (by omega), if_neg (by omega), if_neg (by omega), if_neg (by omega)]
        exact this.2.1
  · by_cases hj : r = e
    · simp only [hj, if_true]; exact a5 i
    · simp only [hj, if_false]; exact b6 r i
/-! theft -/
def zv_tf (U : zTo) (x : Int32) : Prop := ∃ t, t < 2 ^ U.1 0 ∧ x = nI t
def zu_tf (n : Nat) (y : Int32) : Prop := n < 30 ∧ ∃ f, f ≤ 8 ∧ y = nI f
def zN_tf (w : zW) (U : zTo) (n : Nat) (x y : Int32) (r : Option Value) (c : zW) : Prop := ∃ t, t < 2 ^ U.1 0 ∧ x = nI t ∧ ((¬ zu_tf n y ∧ r = some (.int (-1)) ∧ c = zsi w 2 2 (w.2.1 2 2 + 1)) ∨ (zu_tf n y ∧ r = some (.int (nI (n + 1))) ∧ c = zsi (zsi (zsi w 48 n x) 49 n y) 47 2 (nI (n + 1))))
theorem zna_tf {Δ : zD} {n : Nat} (hC : zKC w U) (hn : n ≤ 30) (h2 : w.2.1 47 2 = nI n) (x y : Int32) : zM Δ 6 10 60 true yX8_theft mX8_theft [.ref 0, .int x, .int y] w (zNU w False (zN_tf w U n x y)) (zNX1 "java/lang/IllegalArgumentException" w U False (¬ zv_tf U x)) :=
  (c_theft Δ w U hC.1 x y n hn h2).mono (fun r d h => by
    refine ⟨?_, h⟩
    obtain ⟨p, -, -, h⟩ := h
    rcases h with ⟨-, -, rfl⟩ | ⟨-, -, rfl⟩
    · exact ⟨zHi.i (by decide), zLw.q rfl⟩
    · exact ⟨((zHi.i (by decide)).tr (zHi.i (by decide))).tr (zHi.i (by decide)), zLw.q rfl⟩) (fun E d h => by
    obtain ⟨rfl, rfl, h⟩ := h
    exact ⟨zkcl0 hC (fun h => h), rfl, h⟩)
theorem zfin_tf {n : Nat} (hC : zKC w U) (hn : n ≤ 30) (h1 : w.2.1 47 2 = nI n) {x y : Int32} (hres : (kv = 1 ∧ ¬ zv_tf U x ∧ zKC d U) ∨ (kv = 0 ∧ ∃ v c, zN_tf w U n x y (some (.int v)) c ∧ d = zsl c 190 0 v.toInt64)) (hq : (¬ zv_tf U x ∧ c = zsi (zsi d 100 0 0) 100 0 1) ∨ (∃ t, t < 2 ^ U.1 0 ∧ x = nI t ∧ ((¬ zu_tf n y ∧ some (.int b) = some (Value.int (-1)) ∧ c = zsi (zsi d 100 0 0) 117 2 (d.2.1 117 2 + 1)) ∨ (zu_tf n y ∧ some (.int b) = some (Value.int (nI (n + 1))) ∧ c = zsi (zsi (zsi (zsi d 100 0 0) 172 n x) 173 n y) 100 71 (nI (n + 1)))))) : zOK d kv b c := by
  rcases hres with ⟨rfl, h2, h3⟩ | ⟨rfl, v, c0, h2, rfl⟩
  · rcases hq with ⟨-, rfl⟩ | ⟨p, g1, g2, -⟩
    · exact ⟨⟨by simp [zsi], fun h => absurd h (by decide)⟩, ⟨U, h3.mo (zFM.t0.tr zFM.t0)⟩, rfl⟩
    · exact (h2 ⟨p, g1, g2⟩).elim
  · obtain ⟨t, h3, h4, h5⟩ := h2
    rcases hq with ⟨g1, -⟩ | ⟨t2, g1, g2, g4⟩
    · exact (g1 ⟨t, h3, h4⟩).elim
    · obtain ⟨k1, k2, k3, k4, k5, k6, k7, k8, k9⟩ := hC.2.2.2.2
      rcases h5 with ⟨e1, e2, rfl⟩ | ⟨e1, e2, rfl⟩
      · rcases g4 with ⟨-, e3, hc⟩ | ⟨e3, -⟩
        · simp only [Option.some.injEq, Value.int.injEq] at e2 e3
          refine ⟨⟨by rw [hc]; simp [zsi], fun _ => by rw [hc]; simp [zsi, zsl, e2, e3]⟩, ⟨U, ?_⟩, by rw [hc]; rfl⟩
          have ne : ∀ {p : Nat → Nat → Prop}, (∀ a j, p a j → ¬ (a = 2 ∧ j = 2) ∧ ¬ (a = 100 ∧ j = 0) ∧ ¬ (a = 117 ∧ j = 2)) → zAg p w c := fun h a j x => by
            obtain ⟨x1, x2, x3⟩ := h a j x
            rw [hc]
            simp only [zsi, zsl]
            rw [if_neg x3, if_neg x2, if_neg x1]
          refine hC.kp ⟨by rw [hc]; rfl, by rw [hc]; rfl, fun a j x => ⟨ne (p := zoT) (fun a j x => by unfold zoT at x; omega) a j x, by rw [hc]; simp only [zsi, zsl]; rw [if_neg (by omega)]⟩, ne (p := zoM) (fun a j x => by unfold zoM at x; omega)⟩ ⟨k1.ob (ne (fun a j x => by unfold zo1 at x; omega)), ⟨?_, ?_⟩, k3.ob (ne (fun a j x => by unfold zo3 at x; omega)), k4.ob (ne (fun a j x => by unfold zo4 at x; omega)), k5.ob (ne (fun a j x => by unfold zo5 at x; omega)), k6.ob (ne (fun a j x => by unfold zo6 at x; omega)), k7.ob (ne (fun a j x => by unfold zo7 at x; omega)) (by rw [hc]; rfl), k8.ob (ne (fun a j x => by unfold zo8 at x; omega)), k9.ob (ne (fun a j x => by unfold zo9 at x; omega))⟩
          · rw [ne (p := zoPt 0 2) (fun a j x => by unfold zoPt at x; omega) 0 2 ⟨rfl, rfl⟩, ne (p := zoPt 100 16) (fun a j x => by unfold zoPt at x; omega) 100 16 ⟨rfl, rfl⟩]
            exact k2.1
          · funext j
            have h8 := congrFun k2.2 j
            have h9 := congrFun k2.2 2
            rw [hc]
            simp only [zsi, zsl]
            by_cases hj : j = 2
            · subst hj; simp [h9]
            · simp [hj, h8]
        · exact (e1 e3).elim
      · rcases g4 with ⟨e3, -⟩ | ⟨-, e3, hc⟩
        · exact (e3 e1).elim
        · simp only [Option.some.injEq, Value.int.injEq] at e2 e3
          refine ⟨⟨by rw [hc]; simp [zsi], fun _ => by rw [hc]; simp [zsi, zsl, e2, e3]⟩, ⟨U, ?_⟩, by rw [hc]; rfl⟩
          have ne : ∀ {p : Nat → Nat → Prop}, (∀ a j, p a j → ¬ a = 48 ∧ ¬ a = 49 ∧ ¬ (a = 47 ∧ j = 2) ∧ ¬ (a = 100 ∧ (j = 0 ∨ j = 71)) ∧ ¬ a = 172 ∧ ¬ a = 173) → zAg p w c := fun h a j x => by
            obtain ⟨x1, x2, x3, x4, x5, x6⟩ := h a j x
            rw [hc]
            simp only [zsi, zsl]
            rw [if_neg (by omega), if_neg (by omega), if_neg (by omega), if_neg (by omega), if_neg (by omega), if_neg (by omega), if_neg (by omega)]
          refine hC.kp ⟨by rw [hc]; rfl, by rw [hc]; rfl, fun a j x => ⟨ne (p := zoT) (fun a j x => by unfold zoT at x; omega) a j x, by rw [hc]; simp only [zsi, zsl]; rw [if_neg (by omega)]⟩, ne (p := zoM) (fun a j x => by unfold zoM at x; omega)⟩ ⟨k1.ob (ne (fun a j x => by unfold zo1 at x; omega)), k2.ob (ne (fun a j x => by unfold zo2 at x; omega)), k3.ob (ne (fun a j x => by unfold zo3 at x; omega)), k4.ob (ne (fun a j x => by unfold zo4 at x; omega)), k5.ob (ne (fun a j x => by unfold zo5 at x; omega)), ?_, k7.ob (ne (fun a j x => by unfold zo7 at x; omega)) (by rw [hc]; rfl), k8.ob (ne (fun a j x => by unfold zo8 at x; omega)), k9.ob (ne (fun a j x => by unfold zo9 at x; omega))⟩
          obtain ⟨n2, thr, few, a1, a2, a3, a4, a5⟩ := k6
          have e : n = n2 := nI_u h1 a2 (by omega) (by omega)
          subst e
          obtain ⟨e1, fv, e4, e5⟩ := e1
          refine ⟨n + 1, fun i => if i = n then t else thr i, fun i => if i = n then fv else few i, by omega, by rw [hc]; simp [zsi, zsl], by rw [hc]; simp [zsi, zsl], fun i hi => ?_, fun i hi => ?_⟩
          · rw [hc]
            by_cases hj : i = n
            · subst hj; simp [zsi, zsl, h4]
            · have := a4 i (by omega)
              simp [zsi, zsl, hj, this.1, this.2]
          · rw [hc]
            by_cases hj : i = n
            · subst hj; simp [zsi, zsl, e5]; exact e4
            · have := a5 i (by omega)
              simp [zsi, zsl, hj, this.1.1, this.1.2]
              exact this.2
/-! guess -/
def zv_gu (U : zTo) (a b : Int32) : Prop := (∃ g, g < 4 ∧ a = nI g) ∧ ∃ p, p < U.1 0 ∧ b = nI p
def zN_gu (w : zW) (U : zTo) (tb : Nat) (a b s n : Int32) (r : Option Value) (c : zW) : Prop := ∃ g p, g < 4 ∧ a = nI g ∧ p < U.1 0 ∧ b = nI p ∧ ((¬ zgok s n ∧ r = some (.int 0) ∧ c = w) ∨ (zgok s n ∧ r = some (.int 1) ∧ c = zsi (zsi (zsi w 43 (g * 8 + p) s) 44 (g * 8 + p) (if s = 1 then 0 else n)) 42 2 (nI (tb ||| 2 ^ g))))
theorem zna_gu {Δ : zD} {tb : Nat} (hC : zKC w U) (htb : w.2.1 42 2 = nI tb) (a b s n : Int32) : zM Δ 7 10 60 true yX8_guess mX8_guess [.ref 0, .int a, .int b, .int s, .int n] w (zNU w False (zN_gu w U tb a b s n)) (zNX1 zNS w U False (¬ zv_gu U a b)) :=
  (c_guess Δ w U hC.1 a b s n tb htb).mono (fun r d h => by
    refine ⟨?_, h⟩
    obtain ⟨g, p, -, -, -, -, h⟩ := h
    rcases h with ⟨-, -, rfl⟩ | ⟨-, -, rfl⟩
    · exact ⟨zHi.rf _, zLw.q rfl⟩
    · exact ⟨((zHi.i (by decide)).tr (zHi.i (by decide))).tr (zHi.i (by decide)), zLw.q rfl⟩) (fun E d h => by
    obtain ⟨rfl, rfl, h⟩ := h
    exact ⟨zkcl0 hC (fun h => h), rfl, h⟩)
theorem zits_iff {f : Nat → Int32} {g : Nat} : ∀ n, zits f g n = true ↔ ∃ p, p < n ∧ ¬ f (g * 8 + p) = -1
  | 0 => by simp [zits]
  | n + 1 => by
    have ih := zits_iff (f := f) (g := g) n
    simp only [zits, Bool.or_eq_true, decide_eq_true_eq, ih]
    constructor
    · rintro (⟨p, h1, h2⟩ | h)
      · exact ⟨p, by omega, h2⟩
      · exact ⟨n, by omega, h⟩
    · rintro ⟨p, h1, h2⟩
      by_cases hp : p = n
      · exact Or.inr (hp ▸ h2)
      · exact Or.inl ⟨p, by omega, h2⟩
theorem zor_bit : ∀ tb, tb < 16 → ∀ g, g < 4 → (tb ||| 2 ^ g) < 16 ∧ ∀ h, h < 4 → ((tb ||| 2 ^ g) / 2 ^ h % 2 = 1 ↔ (h = g ∨ tb / 2 ^ h % 2 = 1)) := by decide
/-- the answer of a guess: true or false -/
def zOZ (d : zW) (kv b : Int32) (c : zW) : Prop := (c.2.1 100 0 = kv ∧ (kv = 0 → c.2.2.1 190 0 = (if b = 0 then 0 else 1))) ∧ (∃ U, zKC c U) ∧ c.2.2.2 0 8 = d.2.2.2 0 8
theorem zfin_gu {tb : Nat} (hC : zKC w U) (h1 : w.2.1 42 2 = nI tb) (htb : tb < 16) {x y s n : Int32} (hres : (kv = 1 ∧ ¬ zv_gu U x y ∧ zKC d U) ∨ (kv = 0 ∧ ∃ v c, zN_gu w U tb x y s n (some (.int v)) c ∧ d = zsl c 190 0 (if v = 0 then 0 else 1))) (hq : (¬ zv_gu U x y ∧ c = zsi (zsi d 100 0 0) 100 0 1) ∨ (∃ g p, g < 4 ∧ x = nI g ∧ p < U.1 0 ∧ y = nI p ∧ ((¬ zgok s n ∧ some (.int b) = some (Value.int 0) ∧ c = zsi d 100 0 0) ∨ (zgok s n ∧ some (.int b) = some (Value.int 1) ∧ c = zsi (zsi (zsi d 100 0 0) 162 (g * 8 + p) s) 163 (g * 8 + p) (if s = 1 then 0 else n))))) : zOZ d kv b c := by
  have hb1 := hC.tok.1
  rcases hres with ⟨rfl, h2, h3⟩ | ⟨rfl, v, c0, h2, rfl⟩
  · rcases hq with ⟨-, rfl⟩ | ⟨g, p, g1, g2, g3, g4, -⟩
    · exact ⟨⟨by simp [zsi], fun h => absurd h (by decide)⟩, ⟨U, h3.mo (zFM.t0.tr zFM.t0)⟩, rfl⟩
    · exact (h2 ⟨⟨g, g1, g2⟩, p, g3, g4⟩).elim
  · obtain ⟨g, p, h3, h4, h5, h6, h7⟩ := h2
    rcases hq with ⟨g1, -⟩ | ⟨gg, pp, g1, g2, g3, g4, g5⟩
    · exact (g1 ⟨⟨g, h3, h4⟩, p, h5, h6⟩).elim
    · obtain rfl := nI_u h4 g2 (by omega) (by omega)
      obtain rfl := nI_u h6 g4 (by omega) (by omega)
      obtain ⟨k1, k2, k3, k4, k5, k6, k7, k8, k9⟩ := hC.2.2.2.2
      rcases h7 with ⟨e1, e2, rfl⟩ | ⟨e1, e2, rfl⟩
      · rcases g5 with ⟨-, e3, rfl⟩ | ⟨e3, -⟩
        · simp only [Option.some.injEq, Value.int.injEq] at e2 e3
          exact ⟨⟨by simp [zsi], fun _ => by simp [zsi, zsl, e2, e3]⟩, ⟨U, (hC.l _).mo zFM.t0⟩, rfl⟩
        · exact (e1 e3).elim
      · rcases g5 with ⟨e3, -⟩ | ⟨-, e3, hc⟩
        · exact (e3 e1).elim
        · simp only [Option.some.injEq, Value.int.injEq] at e2 e3
          refine ⟨⟨by rw [hc]; simp [zsi], fun _ => by rw [hc]; simp [zsi, zsl, e2, e3]⟩, ⟨U, ?_⟩, by rw [hc]; rfl⟩
          have ne : ∀ {q : Nat → Nat → Prop}, (∀ a j, q a j → ¬ (a = 43 ∧ j = g * 8 + p) ∧ ¬ (a = 44 ∧ j = g * 8 + p) ∧ ¬ (a = 42 ∧ j = 2) ∧ ¬ (a = 100 ∧ j = 0) ∧ ¬ (a = 162 ∧ j = g * 8 + p) ∧ ¬ (a = 163 ∧ j = g * 8 + p)) → zAg q w c := fun h a j x => by
            obtain ⟨x1, x2, x3, x4, x5, x6⟩ := h a j x
            rw [hc]
            simp only [zsi, zsl]
            rw [if_neg x6, if_neg x5, if_neg x4, if_neg x3, if_neg x2, if_neg x1]
          refine hC.kp ⟨by rw [hc]; rfl, by rw [hc]; rfl, fun a j x => ⟨ne (q := zoT) (fun a j x => by unfold zoT at x; omega) a j x, by rw [hc]; simp only [zsi, zsl]; rw [if_neg (by omega)]⟩, ne (q := zoM) (fun a j x => by unfold zoM at x; omega)⟩ ⟨k1.ob (ne (fun a j x => by unfold zo1 at x; omega)), k2.ob (ne (fun a j x => by unfold zo2 at x; omega)), k3.ob (ne (fun a j x => by unfold zo3 at x; omega)), k4.ob (ne (fun a j x => by unfold zo4 at x; omega)), ?_, k6.ob (ne (fun a j x => by unfold zo6 at x; omega)), k7.ob (ne (fun a j x => by unfold zo7 at x; omega)) (by rw [hc]; rfl), k8.ob (ne (fun a j x => by unfold zo8 at x; omega)), k9.ob (ne (fun a j x => by unfold zo9 at x; omega))⟩
          obtain ⟨t2, G, a1, a2, a3, a4, a5, a6, a7⟩ := k5
          have e : tb = t2 := nI_u h1 a2 (by omega) (by omega)
          subst e
          obtain ⟨sv, s1, s2, s3⟩ := e1
          obtain ⟨nv, n1, n2, n3⟩ : ∃ nv, nv ≤ 9999 ∧ (sv = 2 → nv ≤ 1000) ∧ (if s = 1 then 0 else n) = nI nv := by
            by_cases h1 : sv = 1
            · exact ⟨0, by decide, fun h => by omega, by rw [s2, h1]; rfl⟩
            · obtain ⟨nv, m1, m2⟩ := s3 h1
              refine ⟨nv, by split at m1 <;> omega, fun h => by rw [if_pos h] at m1; exact m1, ?_⟩
              rw [if_neg (show ¬ s = 1 from fun h => h1 ((nI_eq (b := 1) (by omega) (by decide)).mp (s2.symm.trans h))), m2]
          obtain ⟨t1, t2⟩ := zor_bit tb htb g h3
          have r43 : ∀ i, c.2.1 43 i = if i = g * 8 + p then s else w.2.1 43 i := fun i => by rw [hc]; simp [zsi, zsl]
          have r44 : ∀ i, c.2.1 44 i = if i = g * 8 + p then nI nv else w.2.1 44 i := fun i => by rw [hc, n3]; simp [zsi, zsl]
          have r62 : ∀ i, c.2.1 162 i = if i = g * 8 + p then s else w.2.1 162 i := fun i => by rw [hc]; simp [zsi, zsl]
          have r63 : ∀ i, c.2.1 163 i = if i = g * 8 + p then nI nv else w.2.1 163 i := fun i => by rw [hc, n3]; simp [zsi, zsl]
          have gi : ∀ {f1 f2 g1 g2 : Nat → Int32}, zGi f1 g1 G → (∀ i, f2 i = if i = g * 8 + p then s else f1 i) → (∀ i, g2 i = if i = g * 8 + p then nI nv else g1 i) → zGi f2 g2 (fun i => if i = g * 8 + p then some (sv, nv) else G i) := fun {f1 f2 g1 g2} q1 q2 q3 i hi => by
            rw [q2, q3]
            by_cases hj : i = g * 8 + p
            · simp only [hj, if_true]
              exact ⟨s2, trivial⟩
            · simp only [hj, if_false]
              exact q1 i hi
          refine ⟨tb ||| 2 ^ g, fun i => if i = g * 8 + p then some (sv, nv) else G i, t1, by rw [hc]; simp [zsi, zsl], ?_, gi a4 r43 r44, gi a5 r62 r63, fun h hh => ?_, fun _ => by omega⟩
          · intro g9 p9 q9 hg9 hp9 hq9
            dsimp only at hq9
            by_cases hj : g9 * 8 + p9 = g * 8 + p
            · rw [if_pos hj] at hq9
              cases hq9
              exact ⟨by omega, s1, n1, n2⟩
            · rw [if_neg hj] at hq9
              exact a3 g9 p9 q9 hg9 hp9 hq9
          · rw [t2 h hh, zits_iff]
            by_cases hj : h = g
            · subst hj
              exact ⟨fun _ => ⟨p, by omega, by rw [r62, if_pos rfl, s2]; exact nI_m1 (by omega)⟩, fun _ => Or.inl rfl⟩
            · have e8 : (h = g ∨ tb / 2 ^ h % 2 = 1) ↔ tb / 2 ^ h % 2 = 1 := ⟨fun h9 => h9.resolve_left hj, Or.inr⟩
              rw [e8, a6 h hh, zits_iff]
              constructor
              · rintro ⟨p9, m1, m2⟩
                exact ⟨p9, m1, by rw [r62, if_neg (by omega)]; exact m2⟩
              · rintro ⟨p9, m1, m2⟩
                rw [r62, if_neg (by omega)] at m2
                exact ⟨p9, m1, m2⟩
/-! chain -/
theorem zfnd_mem {T : zTo} {K : List zKy} : ∀ {n : Nat} {q : zKy}, zfnd T K n = some q → q ∈ K
  | 0, q, h => by cases h
  | n + 1, q, h => by
    simp only [zfnd] at h
    split at h
    · exact zfnd_mem h
    · rename_i k hk
      split at h
      · unfold zfo1 at h
        split at h
        · cases h; exact List.mem_of_getElem? hk
        · rename_i q2 hq2
          split at h
          · cases h; exact List.mem_of_getElem? hk
          · cases h; exact zfnd_mem hq2
      · exact zfnd_mem h
theorem zchn_36 {T : zTo} {K : List zKy} {k : zKy} (hT : zTok T) (hK : zall T K) (h : zfnd T K K.length = some k) : (zchn T K K.length).2 k < 2 ^ 36 := by
  obtain ⟨n, e, -⟩ := hK
  have h1 := zgr_ok hT n k (by rw [← e]; exact zfnd_mem h)
  have h2 := (zchn_ok hT (K := K) K.length k).2 (zfnd_pos h)
  have h3 := hT.2.2.2.1
  have h4 := h1.2.1
  exact Nat.lt_of_lt_of_le h2 (p8_36 (by omega))
def zv_ch (U : zTo) (x : Int32) : Prop := 0 < U.1 0 ∧ ∃ q, q ≤ 2 ∧ x = nI q
def zb_ch (U : zTo) (x : Int32) : Prop := 0 < U.1 0 ∧ ∃ q, q ≤ 2 ∧ x = nI q ∧ ¬ zfit (zTs U 10 q) 640
def zX_ch (U : zTo) (x : Int32) : Prop := 0 < U.1 0 ∧ ∃ q, q ≤ 2 ∧ x = nI q ∧ ¬ zfit (zTs U 10 q) 20000
def zN_ch (w : zW) (U : zTo) (x : Int32) (r : Option Value) (d : zW) : Prop := 0 < U.1 0 ∧ ∃ q, q ≤ 2 ∧ x = nI q ∧ zfit (zTs U 10 q) 20000 ∧ ∃ e K, zall (zTs U 10 q) K ∧ zKC e U ∧ ((zfnd (zTs U 10 q) K K.length = none ∧ d = e ∧ r = some (.int (-1))) ∨ ∃ k, zfnd (zTs U 10 q) K K.length = some k ∧ d = zsi (zsl e 0 14 (lN ((zchn (zTs U 10 q) K K.length).2 k))) 0 15 (nI (U.1 7)) ∧ r = some (.int (lN ((zchn (zTs U 10 q) K K.length).1 k)).toInt32))
theorem zna_ch {Δ : zD} (hC : zKC w U) (x : Int32) (mc ms : Nat) (hm : zRo w (zb_ch U x) mc ms) : zM Δ 8 mc ms false yX8_chain mX8_chain [.ref 0, .int x] w (zNU w (zb_ch U x) (zN_ch w U x)) (zNX2 w U (zb_ch U x) (¬ zv_ch U x) (zX_ch U x)) :=
  (d_chain Δ w U hC.1 x mc ms hm).mono (fun r d h => by
    obtain ⟨h1, q, h2, h3, h4, e, K, h5, h6, h7, h8, h9⟩ := h
    have hl : zLw w e (zb_ch U x) := h8.w.s (fun h => by
      obtain ⟨-, q2, g1, g2, g3⟩ := h
      obtain rfl := nI_u h3 g2 (by omega) (by omega)
      exact g3)
    refine ⟨?_, h1, q, h2, h3, h4, e, K, h5, hC.cl h6.c h7, h9⟩
    rcases h9 with ⟨-, rfl, -⟩ | ⟨k, -, rfl, -⟩
    · exact ⟨h6.c.hi, hl⟩
    · exact ⟨(h6.c.hi.tr zHi.l).tr (zHi.i (by decide)), hl⟩) (fun E d h => by
    rcases h with ⟨rfl, rfl, h⟩ | ⟨h, q, h2, h3, h4⟩
    · exact ⟨zkcl0 hC (fun h9 => by obtain ⟨g0, q, g1, g2, -⟩ := h9; exact h ⟨g0, q, g1, g2⟩), Or.inl ⟨rfl, h⟩⟩
    · exact ⟨zkcls hC h4, Or.inr ⟨h4.1, h, q, h2, h3, h4.2.1⟩⟩)
theorem zScr_67 : ∀ k ∈ zScr ++ [66, 67], k ≤ 0 ∨ (38 ≤ k ∧ k ≤ 54) ∨ (60 ≤ k ∧ k ≤ 61) ∨ (64 ≤ k ∧ k ≤ 70) ∨ (74 ≤ k ∧ k ≤ 75) := by decide
theorem zfin_ch {x : Int32} (hU : zTok U) (hres : (kv = 1 ∧ ¬ zv_ch U x ∧ zKC d U) ∨ (kv = 2 ∧ zX_ch U x ∧ zKC d U) ∨ (kv = 0 ∧ ∃ v c, zN_ch w U x (some (.int v)) c ∧ d = zsl c 190 0 v.toInt64)) (hq : (¬ zv_ch U x ∧ zFM zScr d c ∧ c.2.1 100 0 = 1) ∨ (0 < U.1 0 ∧ ∃ q, q ≤ 2 ∧ x = nI q ∧ ((¬ zfit (zTs U 10 q) 20000 ∧ zFM zScr d c ∧ c.2.1 100 0 = 2) ∨ (zfit (zTs U 10 q) 20000 ∧ c.2.1 100 0 = 0 ∧ ∃ K, zall (zTs U 10 q) K ∧ ((zfnd (zTs U 10 q) K K.length = none ∧ zFM zScr d c ∧ some (.int b) = some (Value.int (-1))) ∨ ∃ k, zfnd (zTs U 10 q) K K.length = some k ∧ zFM (zScr ++ [66, 67]) d c ∧ c.2.1 100 66 = nI (U.1 7) ∧ (∀ i, i < U.1 7 → c.2.1 167 i = nI ((zchn (zTs U 10 q) K K.length).2 k / 2 ^ (3 * (U.1 7 - 1 - i)) % 8)) ∧ some (.int b) = some (Value.int (lN ((zchn (zTs U 10 q) K K.length).1 k)).toInt32)))))) : zOK d kv b c := by
  rcases hres with ⟨rfl, h2, h3⟩ | ⟨rfl, h2, h3⟩ | ⟨rfl, v, c0, h2, rfl⟩
  · rcases hq with ⟨-, g2, g1⟩ | ⟨g1, q, g2, g3, -⟩
    · exact ⟨⟨g1, fun h => absurd h (by decide)⟩, ⟨U, h3.mo g2⟩, by rw [g2.2.1]⟩
    · exact (h2 ⟨g1, q, g2, g3⟩).elim
  · obtain ⟨h0, q, h4, h5, h6⟩ := h2
    rcases hq with ⟨g1, -⟩ | ⟨g1, q2, g2, g3, g4⟩
    · exact (g1 ⟨h0, q, h4, h5⟩).elim
    · obtain rfl := nI_u h5 g3 (by omega) (by omega)
      rcases g4 with ⟨-, g5, g6⟩ | ⟨g5, -⟩
      · exact ⟨⟨g6, fun h => absurd h (by decide)⟩, ⟨U, h3.mo g5⟩, by rw [g5.2.1]⟩
      · exact (h6 g5).elim
  · obtain ⟨h0, q, h4, h5, h6, e, K, h7, h8, h9⟩ := h2
    rcases hq with ⟨g1, -⟩ | ⟨g1, q2, g2, g3, g4⟩
    · exact (g1 ⟨h0, q, h4, h5⟩).elim
    · obtain rfl := nI_u h5 g3 (by omega) (by omega)
      rcases g4 with ⟨g5, -⟩ | ⟨-, g6, K2, g7, g8⟩
      · exact (g5 h6).elim
      · obtain rfl := zall_one h7 g7
        rcases h9 with ⟨e1, rfl, e2⟩ | ⟨k, e1, rfl, e2⟩
        · rcases g8 with ⟨-, f1, f2⟩ | ⟨k, f1, -⟩
          · simp only [Option.some.injEq, Value.int.injEq] at e2 f2
            exact ⟨⟨g6, fun _ => by rw [(f1.lo (Or.inr (by decide)) (by decide)).2, e2, f2]; simp [zsl]⟩, ⟨U, (h8.l _).mo f1⟩, by rw [f1.2.1]⟩
          · rw [e1] at f1; cases f1
        · rcases g8 with ⟨f1, -⟩ | ⟨k2, f1, f2, f3, f4, f5⟩
          · rw [e1] at f1; cases f1
          · rw [e1] at f1
            obtain rfl := Option.some.inj f1
            simp only [Option.some.injEq, Value.int.injEq] at e2 f5
            have h36 := zchn_36 (hU.s (by omega)) h7 e1
            generalize (zchn (zTs U 10 q) K K.length).2 k = cd at h36 f2 f4
            refine ⟨⟨g6, fun _ => by rw [(f2.2.2.2 190 0 (by decide) (fun k hk => by have := zScr_67 k hk; omega)).2, e2, f5]; simp [zsl, zsi]⟩, ⟨U, ?_⟩, by rw [f2.2.1]⟩
            have nd : ∀ a j, ¬ (a = 0 ∧ j = 15) → (zsl (zsi (zsl e 0 14 (lN cd)) 0 15 (nI (U.1 7))) 190 0 v.toInt64).2.1 a j = e.2.1 a j := fun a j x => by
              simp only [zsi, zsl]; rw [if_neg x]
            have nl : ∀ a j, ¬ (a = 0 ∧ j = 14) → ¬ a = 190 → (zsl (zsi (zsl e 0 14 (lN cd)) 0 15 (nI (U.1 7))) 190 0 v.toInt64).2.2.1 a j = e.2.2.1 a j := fun a j x y => by
              simp only [zsi, zsl]; rw [if_neg (by omega), if_neg x]
            have ne : ∀ {p : Nat → Nat → Prop}, (∀ a j, p a j → ¬ (a = 0 ∧ j = 15) ∧ ¬ (a = 100 ∧ ¬ (1 ≤ j ∧ j ≤ 9) ∧ ¬ j = 14 ∧ ¬ j = 16 ∧ ¬ j = 55 ∧ ¬ j = 56 ∧ ¬ j = 71 ∧ ¬ j = 76 ∧ ¬ j = 77) ∧ ¬ (138 ≤ a ∧ a ≤ 154) ∧ ¬ (160 ≤ a ∧ a ≤ 161) ∧ ¬ (164 ≤ a ∧ a ≤ 170) ∧ ¬ (174 ≤ a ∧ a ≤ 175)) → zAg p e c := fun h a j x => by
              obtain ⟨x1, x2, x3, x4, x5, x6⟩ := h a j x
              refine Eq.trans ?_ (nd a j x1)
              by_cases ha : a = 100
              · subst ha
                exact f2.at (fun hj => by have := zScr_67 j hj; omega)
              · exact (f2.2.2.2 a j ha (fun k hk => by have := zScr_67 k hk; omega)).1
            obtain ⟨k1, k2, k3, k4, k5, k6, k7, k8, k9⟩ := h8.2.2.2.2
            refine h8.kp ⟨f2.1, f2.2.1, fun a j x => ⟨ne (p := zoT) (fun a j x => by unfold zoT at x; omega) a j x, ?_⟩, ne (p := zoM) (fun a j x => by unfold zoM at x; omega)⟩ ⟨k1.ob (ne (fun a j x => by unfold zo1 at x; omega)), k2.ob (ne (fun a j x => by unfold zo2 at x; omega)), k3.ob (ne (fun a j x => by unfold zo3 at x; omega)), k4.ob (ne (fun a j x => by unfold zo4 at x; omega)), k5.ob (ne (fun a j x => by unfold zo5 at x; omega)), k6.ob (ne (fun a j x => by unfold zo6 at x; omega)), ?_, k8.ob (ne (fun a j x => by unfold zo8 at x; omega)), k9.ob (ne (fun a j x => by unfold zo9 at x; omega))⟩
            · exact ((f2.low (by omega)).2).trans (nl a j (by omega) (by omega))
            · refine ⟨cd, U.1 7, hU.2.2.2.1.2, h36, ?_, ?_, f3, f4⟩
              · rw [(f2.low (by decide)).2]; simp [zsi, zsl]
              · rw [(f2.low (by decide)).1]; simp [zsi, zsl]
end ZUB
