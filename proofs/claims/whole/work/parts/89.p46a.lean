/-! what changes: feed, fault, judge, hand, ended, theft -/
section ZU
variable {w d c : zW} {U : zTo}
theorem zHi.i {a k : Nat} {x : Int32} (h : a ≤ 79) : zHi w (zsi w a k x) := ⟨fun _ _ => rfl, fun b j hb => ⟨by simp only [zsi]; rw [if_neg (by omega)], rfl⟩⟩
theorem zMu.at (h : zMu w U) (hs : c.1 = w.1) (hr : c.2.2.2 = w.2.2.2) (hm : ∀ a j, ((a = 100 ∧ 1 ≤ j ∧ j ≤ 9) ∨ (110 ≤ a ∧ a ≤ 112)) → c.2.1 a j = w.2.1 a j) : zMu c U := by
  obtain ⟨h1, h2, h3, h4, h5, h6, h7, h8, h9, h10, h11, h12, h13⟩ := h
  exact ⟨h1.fr hs hr, (hm _ _ (by omega)).trans h2, (hm _ _ (by omega)).trans h3, (hm _ _ (by omega)).trans h4, (hm _ _ (by omega)).trans h5, (hm _ _ (by omega)).trans h6, (hm _ _ (by omega)).trans h7, (hm _ _ (by omega)).trans h8, (hm _ _ (by omega)).trans h9, (hm _ _ (by omega)).trans h10, fun p hp => (hm _ _ (by omega)).trans (h11 p hp), fun p hp => (hm _ _ (by omega)).trans (h12 p hp), fun p q hp hq => (hm _ _ (by omega)).trans (h13 p q hp hq)⟩
/-- where cells that hold the towns and the Plays stay -/
def zKp (w c : zW) : Prop := c.1 = w.1 ∧ c.2.2.2 = w.2.2.2 ∧ (∀ a j, ((9 ≤ a ∧ a ≤ 13) ∨ (19 ≤ a ∧ a ≤ 37) ∨ (61 ≤ a ∧ a ≤ 79)) → c.2.1 a j = w.2.1 a j ∧ c.2.2.1 a j = w.2.2.1 a j) ∧ ∀ a j, ((a = 100 ∧ 1 ≤ j ∧ j ≤ 9) ∨ (110 ≤ a ∧ a ≤ 112)) → c.2.1 a j = w.2.1 a j
theorem zKC.kp (h : zKC w U) (hk : zKp w c) (hp : zCp c U) : zKC c U :=
  ⟨h.1.out hk.1 hk.2.1 hk.2.2.1, h.2.1.at hk.1 hk.2.1 hk.2.2.2, h.2.2.1, by rw [hk.1]; exact h.2.2.2.1, hp⟩
def zoT (a _j : Nat) : Prop := (9 ≤ a ∧ a ≤ 13) ∨ (19 ≤ a ∧ a ≤ 37) ∨ (61 ≤ a ∧ a ≤ 79)
def zoM (a j : Nat) : Prop := (a = 100 ∧ 1 ≤ j ∧ j ≤ 9) ∨ (110 ≤ a ∧ a ≤ 112)
def zoPt (a0 j0 a j : Nat) : Prop := a = a0 ∧ j = j0
/-- a call behind which both stand alike -/
def zOK (d : zW) (kv b : Int32) (c : zW) : Prop := (c.2.1 100 0 = kv ∧ (kv = 0 → c.2.2.1 190 0 = b.toInt64)) ∧ (∃ U, zKC c U) ∧ c.2.2.2 0 8 = d.2.2.2 0 8
def zNU (w : zW) (big : Prop) (N : Option Value → zW → Prop) : Option Value → zW → Prop := fun r c => (zHi w c ∧ zLw w c big) ∧ N r c
variable {M : zMI} {big X1 X2 : Prop} {N : Option Value → zW → Prop} {r : Option Value} {E0 : String} {kv b : Int32}
theorem zuR (hC : zKC w U) (hM : M.2.2.2.1 = some .int) : ∀ r c, zQt M (zNU w big N) r c → ∃ v, r = some (.int v) ∧ c.1 190 = some (.inr (true, 1)) := fun r c h => by
  obtain ⟨v, hv⟩ := h.1.1 (Or.inl hM)
  exact ⟨v, hv, (h.2.1.1.1 190 (by decide)).trans hC.2.2.2.1.1⟩
theorem zuRz (hC : zKC w U) (hM : M.2.2.2.1 = some .boolean) : ∀ r c, zQt M (zNU w big N) r c → ∃ v, r = some (.int v) ∧ c.1 190 = some (.inr (true, 1)) := fun r c h => by
  obtain ⟨v, hv⟩ := h.1.1 (Or.inr hM)
  exact ⟨v, hv, (h.2.1.1.1 190 (by decide)).trans hC.2.2.2.1.1⟩
theorem zu1i (hq : (∃ v c, zQt M (zNU w big N) (some (.int v)) c ∧ r = some (.int 0) ∧ d = zsl c 190 0 v.toInt64) ∨ (∃ E, zNX1 E0 w U big X1 E d ∧ (E = E0 ∧ r = some (.int 1)))) : ∃ kv, r = some (.int kv) ∧ zHi w d ∧ zLw w d big ∧ ((kv = 1 ∧ X1 ∧ zKC d U) ∨ (kv = 0 ∧ ∃ v c, N (some (.int v)) c ∧ d = zsl c 190 0 v.toInt64)) := by
  rcases hq with ⟨v, c, ⟨-, ⟨h1, h2⟩, h4⟩, rfl, rfl⟩ | ⟨E, ⟨⟨h1, h2, h3⟩, -, h4⟩, -, rfl⟩
  · exact ⟨0, rfl, h1.tr zHi.l, h2, Or.inr ⟨rfl, v, c, h4, rfl⟩⟩
  · exact ⟨1, rfl, h2, h3, Or.inl ⟨rfl, h4, h1⟩⟩
theorem zu1z (hq : (∃ v c, zQt M (zNU w big N) (some (.int v)) c ∧ r = some (.int 0) ∧ d = zsl c 190 0 (if v = 0 then 0 else 1)) ∨ (∃ E, zNX1 E0 w U big X1 E d ∧ (E = E0 ∧ r = some (.int 1)))) : ∃ kv, r = some (.int kv) ∧ zHi w d ∧ zLw w d big ∧ ((kv = 1 ∧ X1 ∧ zKC d U) ∨ (kv = 0 ∧ ∃ v c, N (some (.int v)) c ∧ d = zsl c 190 0 (if v = 0 then 0 else 1))) := by
  rcases hq with ⟨v, c, ⟨-, ⟨h1, h2⟩, h4⟩, rfl, rfl⟩ | ⟨E, ⟨⟨h1, h2, h3⟩, -, h4⟩, -, rfl⟩
  · exact ⟨0, rfl, h1.tr zHi.l, h2, Or.inr ⟨rfl, v, c, h4, rfl⟩⟩
  · exact ⟨1, rfl, h2, h3, Or.inl ⟨rfl, h4, h1⟩⟩
theorem zu1v (hq : (zQt M (zNU w big N) none d ∧ r = some (.int 0)) ∨ (∃ E, zNX1 E0 w U big X1 E d ∧ (E = E0 ∧ r = some (.int 1)))) : ∃ kv, r = some (.int kv) ∧ zHi w d ∧ zLw w d big ∧ ((kv = 1 ∧ X1 ∧ zKC d U) ∨ (kv = 0 ∧ N none d)) := by
  rcases hq with ⟨⟨-, ⟨h1, h2⟩, h4⟩, rfl⟩ | ⟨E, ⟨⟨h1, h2, h3⟩, -, h4⟩, -, rfl⟩
  · exact ⟨0, rfl, h1, h2, Or.inr ⟨rfl, h4⟩⟩
  · exact ⟨1, rfl, h2, h3, Or.inl ⟨rfl, h4, h1⟩⟩
theorem zu2i (hq : (∃ v c, zQt M (zNU w big N) (some (.int v)) c ∧ r = some (.int 0) ∧ d = zsl c 190 0 v.toInt64) ∨ (∃ E, zNX2 w U big X1 X2 E d ∧ ((E = zNS ∧ r = some (.int 1)) ∨ (E = "java/lang/IllegalArgumentException" ∧ r = some (.int 2))))) : ∃ kv, r = some (.int kv) ∧ zHi w d ∧ zLw w d big ∧ ((kv = 1 ∧ X1 ∧ zKC d U) ∨ (kv = 2 ∧ X2 ∧ zKC d U) ∨ (kv = 0 ∧ ∃ v c, N (some (.int v)) c ∧ d = zsl c 190 0 v.toInt64)) := by
  rcases hq with ⟨v, c, ⟨-, ⟨h1, h2⟩, h4⟩, rfl, rfl⟩ | ⟨E, ⟨⟨h1, h2, h3⟩, h4⟩, h5⟩
  · exact ⟨0, rfl, h1.tr zHi.l, h2, Or.inr (Or.inr ⟨rfl, v, c, h4, rfl⟩)⟩
  · rcases h5 with ⟨e1, rfl⟩ | ⟨e1, rfl⟩
    · rcases h4 with ⟨e2, h6⟩ | ⟨e2, h6⟩
      · exact ⟨1, rfl, h2, h3, Or.inl ⟨rfl, h6, h1⟩⟩
      · exact (zNS_ne (e1.symm.trans e2)).elim
    · rcases h4 with ⟨e2, h6⟩ | ⟨e2, h6⟩
      · exact (zNS_ne (e2.symm.trans e1)).elim
      · exact ⟨2, rfl, h2, h3, Or.inr (Or.inl ⟨rfl, h6, h1⟩)⟩
/-! feed -/
def ztp (tx : Nat → Nat) (n : Nat) (x : Int32) (i : Nat) : Nat := if n ≤ i ∧ i < n + 4 then zbn x (i - n) else tx i
def ztp5 (tx : Nat → Nat) (n : Nat) (x1 x2 x3 x4 x5 : Int32) : Nat → Nat := ztp (ztp (ztp (ztp (ztp tx n x1) (n + 4) x2) (n + 8) x3) (n + 12) x4) (n + 16) x5
theorem zpb_row {o f q n : Nat} {x : Int32} {tx : Nat → Nat} (hor : ¬ q = o) (h : ∀ i, i < 700 → w.2.1 q i = nI (tx i) ∧ tx i < 256) : ∀ i, i < 700 → (zpb w o f q n x 4).2.1 q i = nI (ztp tx n x i) ∧ ztp tx n x i < 256 := fun i hi => by
  simp only [zpb, zsi, zrow, ztp]
  rw [if_neg (by omega)]
  by_cases h1 : n ≤ i ∧ i < n + 4
  · simp only [h1, if_true, and_self]
    exact ⟨trivial, zbn_lt _ _⟩
  · simp only [h1, if_false, if_true]
    exact h i hi
theorem zp5_row {o f q n : Nat} {x1 x2 x3 x4 x5 : Int32} {tx : Nat → Nat} (hor : ¬ q = o) (h : ∀ i, i < 700 → w.2.1 q i = nI (tx i) ∧ tx i < 256) : ∀ i, i < 700 → (zp5 w o f q n x1 x2 x3 x4 x5).2.1 q i = nI (ztp5 tx n x1 x2 x3 x4 x5 i) ∧ ztp5 tx n x1 x2 x3 x4 x5 i < 256 := zpb_row hor (zpb_row hor (zpb_row hor (zpb_row hor (zpb_row hor h))))
theorem zpb_ne {o f q n j a k : Nat} {x : Int32} (h1 : ¬ a = q) (h2 : ¬ (a = o ∧ k = f)) : (zpb w o f q n x j).2.1 a k = w.2.1 a k := by
  simp only [zpb, zsi, zrow]
  rw [if_neg h2, if_neg h1]
theorem zp5_ne {o f q n a k : Nat} {x1 x2 x3 x4 x5 : Int32} (h1 : ¬ a = q) (h2 : ¬ (a = o ∧ k = f)) : (zp5 w o f q n x1 x2 x3 x4 x5).2.1 a k = w.2.1 a k := by
  simp only [zp5]
  rw [zpb_ne h1 h2, zpb_ne h1 h2, zpb_ne h1 h2, zpb_ne h1 h2, zpb_ne h1 h2]
theorem zp5_len {o f q n : Nat} {x1 x2 x3 x4 x5 : Int32} : (zp5 w o f q n x1 x2 x3 x4 x5).2.1 o f = nI (n + 20) := by
  simp only [zp5]
  rw [zpb_len]
theorem zpb_12 {o f q n j : Nat} {x : Int32} : (zpb w o f q n x j).1 = w.1 ∧ (zpb w o f q n x j).2.2 = w.2.2 := ⟨rfl, rfl⟩
theorem zsi_12 {a k : Nat} {x : Int32} : (zsi w a k x).1 = w.1 ∧ (zsi w a k x).2.2 = w.2.2 := ⟨rfl, rfl⟩
theorem zp5_12 {o f q n : Nat} {x1 x2 x3 x4 x5 : Int32} : (zp5 w o f q n x1 x2 x3 x4 x5).1 = w.1 ∧ (zp5 w o f q n x1 x2 x3 x4 x5).2.2 = w.2.2 := by
  unfold zp5
  exact ⟨by rw [zpb_12.1, zpb_12.1, zpb_12.1, zpb_12.1, zpb_12.1], by rw [zpb_12.2, zpb_12.2, zpb_12.2, zpb_12.2, zpb_12.2]⟩
theorem zfe_ok {n : Nat} {x1 x2 x3 x4 x5 : Int32} (hC : zKC w U) (hn : n ≤ 680) (h1 : w.2.1 0 1 = nI n) (hc : c = zp5 (zsi (zp5 w 0 1 1 n x1 x2 x3 x4 x5) 100 0 0) 100 14 113 n x1 x2 x3 x4 x5) : zKC c U := by
  have ne : ∀ {p : Nat → Nat → Prop}, (∀ a j, p a j → ¬ a = 1 ∧ ¬ a = 113 ∧ ¬ (a = 0 ∧ j = 1) ∧ ¬ (a = 100 ∧ (j = 0 ∨ j = 14))) → zAg p w c := fun h a j x => by
    obtain ⟨g1, g2, g3, g4⟩ := h a j x
    rw [hc, zp5_ne g2 (by omega)]
    simp only [zsi]
    rw [if_neg (by omega), zp5_ne g1 g3]
  have hs1 : c.1 = w.1 := by rw [hc, zp5_12.1, zsi_12.1, zp5_12.1]
  have hs2 : c.2.2 = w.2.2 := by rw [hc, zp5_12.2, zsi_12.2, zp5_12.2]
  have hk : zKp w c := ⟨hs1, congrArg Prod.snd hs2, fun a j x => ⟨ne (p := zoT) (fun a j x => by unfold zoT at x; omega) a j x, by rw [hs2]⟩, ne (p := zoM) (fun a j x => by unfold zoM at x; omega)⟩
  refine hC.kp hk ?_
  obtain ⟨g1, g2, g3, g4, g5, g6, g7, g8, g9⟩ := hC.2.2.2.2
  refine ⟨?_, g2.ob (ne (fun a j x => by unfold zo2 at x; omega)), g3.ob (ne (fun a j x => by unfold zo3 at x; omega)), g4.ob (ne (fun a j x => by unfold zo4 at x; omega)), g5.ob (ne (fun a j x => by unfold zo5 at x; omega)), g6.ob (ne (fun a j x => by unfold zo6 at x; omega)), g7.ob (ne (fun a j x => by unfold zo7 at x; omega)) (by rw [hs2]), g8.ob (ne (fun a j x => by unfold zo8 at x; omega)), g9.ob (ne (fun a j x => by unfold zo9 at x; omega))⟩
  obtain ⟨len, tx, a1, a2, a3, a4⟩ := g1
  have e : n = len := nI_u h1 a2 (by omega) (by omega)
  subst e
  refine ⟨n + 20, ztp5 tx n x1 x2 x3 x4 x5, by omega, ?_, by rw [hc]; exact zp5_len, fun i hi => ?_⟩
  · rw [hc, zp5_ne (by decide) (by decide)]
    simp only [zsi]
    rw [if_neg (by decide)]
    exact zp5_len
  · have e1 := zp5_row (w := w) (o := 0) (f := 1) (q := 1) (n := n) (x1 := x1) (x2 := x2) (x3 := x3) (x4 := x4) (x5 := x5) (tx := tx) (by decide) (fun i hi => ⟨(a4 i hi).1, (a4 i hi).2.2⟩) i hi
    have e2 := zp5_row (w := zsi (zp5 w 0 1 1 n x1 x2 x3 x4 x5) 100 0 0) (o := 100) (f := 14) (q := 113) (n := n) (x1 := x1) (x2 := x2) (x3 := x3) (x4 := x4) (x5 := x5) (tx := tx) (by decide) (fun i hi => ⟨by simp only [zsi]; rw [if_neg (by omega), zp5_ne (by decide) (by omega)]; exact (a4 i hi).2.1, (a4 i hi).2.2⟩) i hi
    rw [hc]
    refine ⟨?_, e2.1, e2.2⟩
    rw [zp5_ne (by decide) (by omega)]
    simp only [zsi]
    rw [if_neg (by omega)]
    exact e1.1
/-! hand -/
def zN_ha (w : zW) (U : zTo) (n : Nat) (x : Int32) (r : Option Value) (c : zW) : Prop := ∃ p, p < U.1 0 ∧ x = nI p ∧ ((n = 20 ∧ r = some (.int (-1)) ∧ c = zsi w 2 1 (w.2.1 2 1 + 1)) ∨ (n < 20 ∧ r = some (.int (nI (n + 1))) ∧ c = zsi (zsi w 39 n (nI p)) 38 1 (nI (n + 1))))
theorem zna_ha {Δ : zD} {n : Nat} (hC : zKC w U) (hn : n ≤ 20) (h1 : w.2.1 38 1 = nI n) (x : Int32) : zM Δ 7 10 60 true yX8_hand mX8_hand [.ref 0, .int x] w (zNU w False (zN_ha w U n x)) (zNX1 zNS w U False (¬ zv_ge U x)) :=
  (c_hand Δ w U hC.1 x n hn h1).mono (fun r d h => by
    refine ⟨?_, h⟩
    obtain ⟨p, -, -, h⟩ := h
    rcases h with ⟨-, -, rfl⟩ | ⟨-, -, rfl⟩
    · exact ⟨zHi.i (by decide), zLw.q rfl⟩
    · exact ⟨(zHi.i (by decide)).tr (zHi.i (by decide)), zLw.q rfl⟩) (fun E d h => by
    obtain ⟨rfl, rfl, h⟩ := h
    exact ⟨zkcl0 hC (fun h => h), rfl, h⟩)
theorem zfin_ha {n : Nat} (hC : zKC w U) (hn : n ≤ 20) (h1 : w.2.1 38 1 = nI n) {x : Int32} (hres : (kv = 1 ∧ ¬ zv_ge U x ∧ zKC d U) ∨ (kv = 0 ∧ ∃ v c, zN_ha w U n x (some (.int v)) c ∧ d = zsl c 190 0 v.toInt64)) (hq : (¬ (∃ p, p < U.1 0 ∧ x = nI p) ∧ c.2.1 100 0 = 1 ∧ zFM zScr d c) ∨ (∃ p, p < U.1 0 ∧ x = nI p ∧ c.2.1 100 0 = 0 ∧ ((n = 20 ∧ some (.int b) = some (Value.int (-1)) ∧ c = zsi (zsi d 100 0 0) 117 1 (d.2.1 117 1 + 1)) ∨ (n < 20 ∧ some (.int b) = some (Value.int (nI (n + 1))) ∧ c = zsi (zsi (zsi d 100 0 0) 157 n (nI p)) 100 55 (nI (n + 1)))))) : zOK d kv b c := by
  have hb1 := hC.tok.1
  rcases hres with ⟨rfl, h2, h3⟩ | ⟨rfl, v, c0, h2, rfl⟩
  · rcases hq with ⟨-, g1, g2⟩ | ⟨p, g1, g2, -⟩
    · exact ⟨⟨g1, fun h => absurd h (by decide)⟩, ⟨U, h3.mo g2⟩, by rw [g2.2.1]⟩
    · exact (h2 ⟨p, g1, g2⟩).elim
  · obtain ⟨p, h3, h4, h5⟩ := h2
    rcases hq with ⟨g1, -⟩ | ⟨p2, g1, g2, g3, g4⟩
    · exact (g1 ⟨p, h3, h4⟩).elim
    · obtain rfl := nI_u h4 g2 (by omega) (by omega)
      obtain ⟨k1, k2, k3, k4, k5, k6, k7, k8, k9⟩ := hC.2.2.2.2
      rcases h5 with ⟨e1, e2, rfl⟩ | ⟨e1, e2, rfl⟩
      · rcases g4 with ⟨-, e3, hc⟩ | ⟨e3, -⟩
        · simp only [Option.some.injEq, Value.int.injEq] at e2 e3
          refine ⟨⟨g3, fun _ => by rw [hc]; simp [zsi, zsl, e2, e3]⟩, ⟨U, ?_⟩, by rw [hc]; rfl⟩
          have ne : ∀ {p : Nat → Nat → Prop}, (∀ a j, p a j → ¬ (a = 2 ∧ j = 1) ∧ ¬ (a = 100 ∧ j = 0) ∧ ¬ (a = 117 ∧ j = 1)) → zAg p w c := fun h a j x => by
            obtain ⟨x1, x2, x3⟩ := h a j x
            rw [hc]
            simp only [zsi, zsl]
            rw [if_neg x3, if_neg x2, if_neg x1]
          refine hC.kp ⟨by rw [hc]; rfl, by rw [hc]; rfl, fun a j x => ⟨ne (p := zoT) (fun a j x => by unfold zoT at x; omega) a j x, by rw [hc]; simp only [zsi, zsl, zrow, zcp]; rw [if_neg (by omega)]⟩, ne (p := zoM) (fun a j x => by unfold zoM at x; omega)⟩ ⟨k1.ob (ne (fun a j x => by unfold zo1 at x; omega)), ⟨?_, ?_⟩, k3.ob (ne (fun a j x => by unfold zo3 at x; omega)), k4.ob (ne (fun a j x => by unfold zo4 at x; omega)), k5.ob (ne (fun a j x => by unfold zo5 at x; omega)), k6.ob (ne (fun a j x => by unfold zo6 at x; omega)), k7.ob (ne (fun a j x => by unfold zo7 at x; omega)) (by rw [hc]; rfl), k8.ob (ne (fun a j x => by unfold zo8 at x; omega)), k9.ob (ne (fun a j x => by unfold zo9 at x; omega))⟩
          · rw [ne (p := zoPt 0 2) (fun a j x => by unfold zoPt at x; omega) 0 2 ⟨rfl, rfl⟩, ne (p := zoPt 100 16) (fun a j x => by unfold zoPt at x; omega) 100 16 ⟨rfl, rfl⟩]
            exact k2.1
          · funext j
            have h8 := congrFun k2.2 j
            have h9 := congrFun k2.2 1
            rw [hc]
            simp only [zsi, zsl]
            by_cases hj : j = 1
            · subst hj; simp [h9]
            · simp [hj, h8]
        · omega
      · rcases g4 with ⟨e3, -⟩ | ⟨-, e3, hc⟩
        · omega
        · simp only [Option.some.injEq, Value.int.injEq] at e2 e3
          refine ⟨⟨g3, fun _ => by rw [hc]; simp [zsi, zsl, e2, e3]⟩, ⟨U, ?_⟩, by rw [hc]; rfl⟩
          have ne : ∀ {p : Nat → Nat → Prop}, (∀ a j, p a j → ¬ (a = 39 ∧ j = n) ∧ ¬ (a = 38 ∧ j = 1) ∧ ¬ (a = 100 ∧ (j = 0 ∨ j = 55)) ∧ ¬ (a = 157 ∧ j = n)) → zAg p w c := fun h a j x => by
            obtain ⟨x1, x2, x3, x4⟩ := h a j x
            rw [hc]
            simp only [zsi, zsl]
            rw [if_neg (by omega), if_neg x4, if_neg (by omega), if_neg x2, if_neg x1]
          refine hC.kp ⟨by rw [hc]; rfl, by rw [hc]; rfl, fun a j x => ⟨ne (p := zoT) (fun a j x => by unfold zoT at x; omega) a j x, by rw [hc]; simp only [zsi, zsl, zrow, zcp]; rw [if_neg (by omega)]⟩, ne (p := zoM) (fun a j x => by unfold zoM at x; omega)⟩ ⟨k1.ob (ne (fun a j x => by unfold zo1 at x; omega)), k2.ob (ne (fun a j x => by unfold zo2 at x; omega)), ?_, k4.ob (ne (fun a j x => by unfold zo4 at x; omega)), k5.ob (ne (fun a j x => by unfold zo5 at x; omega)), k6.ob (ne (fun a j x => by unfold zo6 at x; omega)), k7.ob (ne (fun a j x => by unfold zo7 at x; omega)) (by rw [hc]; rfl), k8.ob (ne (fun a j x => by unfold zo8 at x; omega)), k9.ob (ne (fun a j x => by unfold zo9 at x; omega))⟩
          obtain ⟨n2, f, a1, a2, a3, a4, a5⟩ := k3
          have e : n = n2 := nI_u h1 a2 (by omega) (by omega)
          subst e
          refine ⟨n + 1, fun i => if i = n then p else f i, by omega, by rw [hc]; simp [zsi, zsl], by rw [hc]; simp [zsi, zsl], fun i hi => ?_, fun i => ?_⟩
          · rw [hc]
            by_cases hj : i = n
            · subst hj; simp [zsi, zsl]; exact h3
            · have := a4 i (by omega)
              simp [zsi, zsl, hj, this.1, this.2.1]
              exact this.2.2
          · by_cases hj : i = n
            · simp only [hj, if_true]; omega
            · simp only [hj, if_false]; exact a5 i
end ZU
