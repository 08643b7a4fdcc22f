/-! LetterTown: credit -/
/-- the frame of the law: what a call may leave behind beside what it tells -/
def zFc (w d : zW) : Prop := (∀ a, (a < 61 ∨ 79 < a) → d.1 a = w.1 a) ∧ (∀ a j, (a < 14 ∨ (37 < a ∧ a < 61) ∨ 79 < a) → d.2.1 a j = w.2.1 a j ∧ (¬ (a = 45 ∨ a = 46 ∨ a = 51 ∨ a = 52) → d.2.2.1 a j = w.2.2.1 a j)) ∧ (∀ a j, (a < 61 ∨ 79 < a) → (a ≠ 0 ∨ j ≠ 8) → d.2.2.2 a j = w.2.2.2 a j)
theorem zFc.rf (w : zW) : zFc w w := ⟨fun _ _ => rfl, fun _ _ _ => ⟨rfl, fun _ => rfl⟩, fun _ _ _ _ => rfl⟩
theorem zFc.tr {w c d : zW} (h1 : zFc w c) (h2 : zFc c d) : zFc w d := ⟨fun a h => (h2.1 a h).trans (h1.1 a h), fun a j h => ⟨(h2.2.1 a j h).1.trans (h1.2.1 a j h).1, fun h9 => ((h2.2.1 a j h).2 h9).trans ((h1.2.1 a j h).2 h9)⟩, fun a j x y => (h2.2.2 a j x y).trans (h1.2.2 a j x y)⟩
theorem zFb.c {w d : zW} (h : zFb w d) : zFc w d := ⟨h.1, fun a j ha => ⟨(h.2.1 a j ha).1, fun _ => (h.2.1 a j ha).2⟩, h.2.2⟩
theorem zFc.rol {w : zW} {a : Nat} {f : Nat → Int64} (h : a = 45 ∨ a = 46 ∨ a = 51 ∨ a = 52) : zFc w (zrol w a f) := ⟨fun _ _ => rfl, fun a2 j _ => ⟨rfl, fun h9 => by
  have : ¬ a2 = a := fun h8 => h9 (h8 ▸ h)
  simp only [zrol, this, if_false]⟩, fun _ _ _ _ => rfl⟩
theorem zFs.c {w d : zW} (h : zFs w d) : zFc w d := by
  obtain ⟨f, h⟩ := h
  exact (zFc.rol (by decide)).tr h.c
theorem zB.rol2 {e : zW} {U : zTo} (h : zB e U) {a : Nat} (ha : a = 45 ∨ a = 46 ∨ a = 51 ∨ a = 52) (f : Nat → Int64) : zB (zrol e a f) U := h.out rfl rfl (fun b j hb => ⟨rfl, by simp only [zrol]; rw [if_neg (by omega)]⟩)
/-- GUESSES -/
abbrev zGt : Type := Nat → Option (Nat × Nat)
def zTg (U : zTo) (G : zGt) (g : Nat) : zTo := (U.1, fun p => if p < 8 then (match G (g * 8 + p) with | none => U.2.1 p | some q => q.1) else U.2.1 p, fun p => if p < 8 then (match G (g * 8 + p) with | none => U.2.2.1 p | some q => q.2) else U.2.2.1 p, U.2.2.2)
def zGok (U : zTo) (G : zGt) : Prop := ∀ g p q, g < 4 → p < 8 → G (g * 8 + p) = some q → p < U.1 0 ∧ q.1 ≤ 3 ∧ q.2 ≤ 9999 ∧ (q.1 = 2 → q.2 ≤ 1000)
def zGi (f g : Nat → Int32) (G : zGt) : Prop := ∀ i, i < 32 → match G i with
  | none => f i = -1
  | some q => f i = nI q.1 ∧ g i = nI q.2
theorem zTg_lk (U : zTo) (G : zGt) (g : Nat) : zLk (zTg U G g) U := ⟨rfl, rfl, rfl, rfl, rfl, rfl⟩
theorem zTg_ok {U : zTo} {G : zGt} {g : Nat} (h : zTok U) (hG : zGok U G) (hg : g < 4) : zTok (zTg U G g) := by
  obtain ⟨h0, h5, h6, h7, h8, h9, h10, h11, h12, h13, hpp, hw⟩ := h
  refine ⟨h0, h5, h6, h7, h8, h9, h10, h11, h12, h13, fun p => ?_, hw⟩
  obtain ⟨a1, a2, a3, a4⟩ := hpp p
  simp only [zTg]
  by_cases hp : p < 8
  · simp only [hp, if_true]
    cases hq : G (g * 8 + p) with
    | none => exact ⟨a1, a2, a3, a4⟩
    | some q =>
      have := hG g p q hg hp hq
      exact ⟨this.2.1, this.2.2.1, this.2.2.2, fun h => by have : U.1 0 ≤ p := h; omega⟩
  · simp only [hp, if_false]
    exact ⟨a1, a2, a3, a4⟩
theorem zTg_can {U : zTo} {G : zGt} {g : Nat} (h : zcan U) : zcan (zTg U G g) := ⟨h.1, fun p hp => by
  have : ¬ p < 8 := by omega
  simp only [zTg, this, if_false]; exact h.2.1 p hp, h.2.2⟩
theorem zAs.pi {w c : zW} {U : zTo} {G : zGt} {g : Nat} (h : zAs w c U U) (hG : zGok U G) (hi : zGi (c.2.1 43) (c.2.1 44) G) (hg : g < 4) : zAs w (zpi c 14 g 8) U (zTg U G g) := by
  refine h.tr (zAs.of h.2.2.1 rfl rfl (fun a j ha => ?_) ?_)
  · have h1 : ¬ a = 14 + 1 := by omega
    have h2 : ¬ a = 14 + 2 := by omega
    simp [zpi, zrow, h1, h2]
  · obtain ⟨h0, h1, h2, h3, h4, h5⟩ := h.2.2.2
    refine ⟨h0, fun j a b => ?_, fun p a => ?_, fun p a => ?_, fun p a => ?_, fun p a => ?_⟩
    · simp [zpi, zrow]; exact h1 j a b
    · have hq9 := hi (g * 8 + p) (by omega)
      simp only [zpi, zrow, zTg]
      cases hq : G (g * 8 + p) with
      | none =>
        rw [hq] at hq9
        have hq9 : c.2.1 43 (g * 8 + p) = -1 := hq9
        simp [a, hq9]
        exact h2 p a
      | some q =>
        rw [hq] at hq9
        have hb := hG g p q hg a hq
        have hn : ¬ nI q.1 < 0 := fun h => absurd ((nI_ltI (b := 0) (by omega) (by decide)).mp h) (by omega)
        simp [a, hq9.1, hn]
    · have hq9 := hi (g * 8 + p) (by omega)
      simp only [zpi, zrow, zTg]
      cases hq : G (g * 8 + p) with
      | none =>
        rw [hq] at hq9
        have hq9 : c.2.1 43 (g * 8 + p) = -1 := hq9
        simp [a, hq9]
        exact h3 p a
      | some q =>
        rw [hq] at hq9
        have hb := hG g p q hg a hq
        have hn : ¬ nI q.1 < 0 := fun h => absurd ((nI_ltI (b := 0) (by omega) (by decide)).mp h) (by omega)
        simp [a, hq9.1, hq9.2, hn]
    · simp [zpi, zrow]; exact h4 p a
    · simp [zpi, zrow]; exact h5 p a
/-- ODDS of the ended ROWS, by a GUESS -/
def zog (U : zTo) (G : zGt) (fr : Nat → Nat → Nat) (ln : Nat → Nat) (g r : Nat) : Nat := zodds (zTg U G g) (fr r) (ln r)
set_option maxRecDepth 100000 in
theorem c_credit (Δ : zD) (w : zW) (U : zTo) (hB : zB w U) (x : Int32) (tb e : Nat) (G : zGt) (fr : Nat → Nat → Nat) (ln : Nat → Nat) (hpos : ¬ tb = 0 → 0 < U.1 0) (htb : w.2.1 42 2 = nI tb) (ht : tb < 16) (hGk : zGok U G) (hGi : zGi (w.2.1 43) (w.2.1 44) G) (he : e ≤ 20) (h4 : w.2.1 38 4 = nI e) (hln : ∀ r, r < e → w.2.1 41 r = nI (ln r) ∧ ln r ≤ 20) (hfr : ∀ r i, r < e → i < ln r → w.2.1 40 (r * 20 + i) = nI (fr r i)) (hf8 : ∀ r i, fr r i < 8) (mc ms : Nat) (hm : zRo w (∃ g, g < 4 ∧ x = nI g ∧ tb / 2 ^ g % 2 = 1 ∧ ¬ zfit U 640) mc ms) : zM Δ 8 mc ms false yX8_credit mX8_credit [.ref 0, .int x] w (fun r d => zFc w d ∧ zB d U ∧ zLw w d (∃ g, g < 4 ∧ x = nI g ∧ tb / 2 ^ g % 2 = 1 ∧ ¬ zfit U 640) ∧ ∃ g, g < 4 ∧ x = nI g ∧ ((¬ tb / 2 ^ g % 2 = 1 ∧ r = some (.int (-1))) ∨ (tb / 2 ^ g % 2 = 1 ∧ zfit U 20000 ∧ ∃ o, (∀ g r, g < 4 → tb / 2 ^ g % 2 = 1 → r < e → o (g * 20 + r) = lN (zog U G fr ln g r)) ∧ r = some (.int (zcv tb o e g).toInt32)))) (fun E d => (E = zNS ∧ d = w ∧ ¬ ∃ g, g < 4 ∧ x = nI g) ∨ (∃ g, g < 4 ∧ x = nI g ∧ tb / 2 ^ g % 2 = 1 ∧ zSp w U U E d)) := by
  refine zM.of2 mfX8_credit (Nat.le_of_ble_eq_true rfl) (fun QR QX hQ hX0 => ?_)
  have hm0 := hm
  obtain ⟨⟨hm1, hm2⟩, hm3⟩ := hm
  have hC := hB.1
  have hU := hB.2.2.1.1
  have hcU := hB.2.2.1.2.1
  have h13 := hB.2.2.1.2.2
  have hp0 := hB.2.1.2.1 0 (by decide) (by decide)
  have hp8 := hU.1
  have hk0 := hC.1 0 (by decide)
  refine zJ_aload_n dX8_credit_0 rfl ?_
  refine zJ_iload_n dX8_credit_1 rfl ?_
  refine zJ_xV1 dX8_credit_2 sX8_261 pX8_261 mfX8_needGuess (c_needGuess Δ w hC x) rfl hk0 rfl (Nat.le_of_ble_eq_true rfl) ⟨Nat.le_of_ble_eq_true rfl, Nat.le_of_ble_eq_true rfl⟩ ⟨by show _ ≤ mc; omega, by show _ ≤ ms; omega⟩ (fun r c9 hP => ?_) (fun E c9 hX => hX0 _ _ (Or.inl ⟨hX.1, hX.2.1, hX.2.2⟩))
  obtain ⟨rfl, hw9, hP⟩ := hP
  obtain rfl := hw9.symm
  obtain ⟨g, hg, rfl⟩ := hP
  obtain ⟨BG, hBG⟩ : ∃ BG : Prop, BG = (∃ g_, g_ < 4 ∧ nI g = nI g_ ∧ tb / 2 ^ g_ % 2 = 1 ∧ ¬ zfit U 640) := ⟨_, rfl⟩
  rw [← hBG] at hm0 hm3 hQ
  by_cases htg : tb / 2 ^ g % 2 = 1
  · have hU9 := hpos (fun h => by rw [h] at htg; simp at htg)
    have hbig0 : ¬ zfit U 640 → BG := fun h => by rw [hBG]; exact ⟨g, hg, rfl, htg, h⟩
    have hQ1 : ∀ d r, zFc w d → zB d U → zLw w d BG → zfit U 20000 → (∃ o, (∀ g r, g < 4 → tb / 2 ^ g % 2 = 1 → r < e → o (g * 20 + r) = lN (zog U G fr ln g r)) ∧ r = some (.int (zcv tb o e g).toInt32)) → QR r d := fun d r g1 g2 g3 g4 g5 => hQ _ _ ⟨g1, g2, g3, g, hg, rfl, Or.inr ⟨htg, g4, g5⟩⟩
    have hX1 : ∀ E d, zSp w U U E d → QX E d := fun E d g1 => hX0 _ _ (Or.inr ⟨g, hg, rfl, htg, g1⟩)
    have hAs := zAs.copy hB
    have hk1 : (ztowc w 14 9).1 0 = some (.inl 8) := hAs.2.2.1.1.1 0 (by decide)
    have hH0 : zHk w (ztowc w 14 9) BG 1 (0 + 1) (0 + 6) := Or.inl ⟨hAs.2.1, by omega, by omega⟩
    obtain ⟨m1, m2, hc1, hc2, hc3, hc4, hc5, hc6⟩ := hH0.call hm0 (T := U) (by omega) hAs.2.2.1 (fun h _ => hbig0 h)
    have hpt : 0 < zpop tb := by
      have h16 : ∀ t, t < 16 → ∀ g, g < 4 → t / 2 ^ g % 2 = 1 → 0 < zpop t := by decide
      exact h16 tb ht g hg htg
    have END : ∀ (c : zW) (k n : Nat) (i : Nat), i ≤ 10 → zFc w c → zB c U → zHk w c BG i k n → (BG → c.2.2.2 0 8 = some 61) → zfit U 20000 → (∀ g r, g < 4 → tb / 2 ^ g % 2 = 1 → r < e → c.2.2.1 45 (g * 20 + r) = lN (zog U G fr ln g r)) → zJ Δ mX8_credit (zRm 8 mc ms) false w.1 QR QX k n 113 [(0, .ref 0), (1, .int (nI g))] [] c := by
      intro c k n i hi hFc hBc hH hlg hfit hod
      have hHk : k ≤ mc ∧ n ≤ ms := by
        rcases hH with ⟨h1, h2, h3⟩ | ⟨h1, h2, h3, h4, h5⟩
        · omega
        · have := hm3 h1 h2; omega
      have c42 : c.2.1 42 2 = nI tb := (hFc.2.1 42 2 (by omega)).1.trans htb
      have c38 : c.2.1 38 4 = nI e := (hFc.2.1 38 4 (by omega)).1.trans h4
      have CR := c_Guesses_creditOf Δ c hBc.1 tb g e c42 ht hpt hg he
      refine zJ_aload_n dX8_credit_113 rfl ?_
      refine zJ_getr dX8_credit_114 fX8_58 (by first | rfl | assumption | exact hBc.1.1 _ (by decide) | exact hBe.1.1 _ (by decide)) rfl (by first | rfl | assumption | exact hBc.1.2 _ _ rfl | exact hBe.1.2 _ _ rfl) ?_
      refine zJ_iload_n dX8_credit_117 rfl ?_
      refine zJ_aload_n dX8_credit_118 rfl ?_
      refine zJ_getr dX8_credit_119 fX8_51 (by first | rfl | assumption | exact hBc.1.1 _ (by decide) | exact hBe.1.1 _ (by decide)) rfl (by first | rfl | assumption | exact hBc.1.2 _ _ rfl | exact hBe.1.2 _ _ rfl) ?_
      refine zJ_geti dX8_credit_122 fX8_147 (by first | rfl | assumption | exact hBc.1.1 _ (by decide) | exact hBe.1.1 _ (by decide)) rfl ?_
      rw [c38]
      refine zJ_cV2 dX8_credit_125 sX8_279 mfX0_creditOf CR (hBc.1.1 42 (by decide)) rfl (Nat.le_of_ble_eq_true rfl) ⟨Nat.le_of_ble_eq_true rfl, Nat.le_of_ble_eq_true rfl⟩ ⟨by show _ ≤ mc; omega, by show _ ≤ ms; omega⟩ ?_
      exact zJ_iret dX8_credit_128 rfl (by show _ ≤ mc; omega) (by show _ ≤ ms; omega) (hQ1 _ _ (hFc.tr (zFc.rol (by decide))) (hBc.rol2 (by decide) _) (fun h9 => hH.lw hlg h9) hfit ⟨c.2.2.1 45, hod, rfl⟩)
    have L : 0 < e → zfit U 20000 → ∀ j, j ≤ 4 → ∀ (c : zW) (k n : Nat), zFc w c → zB c U → zHk w c BG (2 + j) k n → (BG → c.2.2.2 0 8 = some 61) → (∀ g r, g < j → tb / 2 ^ g % 2 = 1 → r < e → c.2.2.1 45 (g * 20 + r) = lN (zog U G fr ln g r)) → zJ Δ mX8_credit (zRm 8 mc ms) false w.1 QR QX k n 36 [(2, .int (nI j)), (0, .ref 0), (1, .int (nI g))] [] c := by
      intro he0 hfit
      refine zup (fun j hj ih => ?_)
      intro c k n hFc hBc hH hlg hod
      have hk1 : c.1 0 = some (.inl 8) := hBc.1.1 0 (by decide)
      have hHk : k ≤ mc ∧ n ≤ ms := by
        rcases hH with ⟨h1, h2, h3⟩ | ⟨h1, h2, h3, h4, h5⟩
        · omega
        · have := hm3 h1 h2; omega
      have c42 : c.2.1 42 2 = nI tb := (hFc.2.1 42 2 (by omega)).1.trans htb
      have c38 : c.2.1 38 4 = nI e := (hFc.2.1 38 4 (by omega)).1.trans h4
      by_cases hj4 : j = 4
      · have hge : (4 : Int32) ≤ nI j := by rw [hj4]; decide
        refine zJ_iload_n dX8_credit_36 rfl ?_
        refine zJ_iconst (v := 4) dX8_credit_37 (by decide) ?_
        refine zJ_icmp_ge (tgt := 113) dX8_credit_38 (by decide) (fun h38a => ?_) (fun h9 => absurd hge h9)
        refine zJ_ls [(0, .ref 0), (1, .int (nI g))] (by simp) ?_
        exact END c k n (2 + j) (by omega) hFc hBc hH hlg hfit (fun g r h1 h2 h3 => hod g r (by omega) h2 h3)
      · have hj3 : j < 4 := by omega
        have hlt0 : ¬ (4 : Int32) ≤ nI j := fun h => absurd ((nI_leI (a := 4) (by decide) (by omega)).mp h) (by omega)
        have hnle : ¬ nI e ≤ 0 := fun h => absurd ((nI_leI (b := 0) (by omega) (by decide)).mp h) (by omega)
        have IT := c_Guesses_isTold Δ c hBc.1 tb j c42 ht hj3
        by_cases htj : tb / 2 ^ j % 2 = 1
        · rw [if_pos htj] at IT
          have hAs1 := zAs.copy hBc
          have hGj : zGi ((ztowc c 14 9).2.1 43) ((ztowc c 14 9).2.1 44) G := by
            have e1 : (ztowc c 14 9).2.1 43 = w.2.1 43 := by funext i; exact (hAs1.1.2.1 43 i (by omega)).1.trans (hFc.2.1 43 i (by omega)).1
            have e2 : (ztowc c 14 9).2.1 44 = w.2.1 44 := by funext i; exact (hAs1.1.2.1 44 i (by omega)).1.trans (hFc.2.1 44 i (by omega)).1
            rw [e1, e2]; exact hGi
          have hAs : zAs c (zpi (ztowc c 14 9) 14 j 8) U (zTg U G j) := hAs1.pi hGk hGj hj3
          have hTok := zTg_ok hU hGk hj3
          obtain ⟨m1, m2, hc1, hc2, hc3, hc4, hc5, hc6⟩ := hH.call hm0 (T := U) (by omega) hBc (fun h _ => hbig0 h)
          have GA := c_playAsked Δ (zpi (ztowc c 14 9) 14 j 8) U (zTg U G j) hAs.2.2.1.1 hAs.2.2.1.2.2.2 hAs.2.2.2 hTok (zTg_can hcU) ⟨rfl, rfl, rfl, rfl, rfl⟩ m1 m2 ⟨hc1, hc2⟩ (fun h1 h2 => by have := hc3 (by rw [← (zTg_lk U G j).fit]; exact h1) (hAs.2.1 ▸ h2); omega)
          have XX : ∀ E d, zXp (zpi (ztowc c 14 9) 14 j 8) U (zTg U G j) E d → QX E d := fun E d g9 => absurd hfit (by rw [← (zTg_lk U G j).fit]; exact g9.2.2.1)
          refine zJ_iload_n dX8_credit_36 rfl ?_
          refine zJ_iconst (v := 4) dX8_credit_37 (by decide) ?_
          refine zJ_icmp_ge (tgt := 113) dX8_credit_38 (by decide) (fun h9 => absurd h9 hlt0) (fun h38b => ?_)
          refine zJ_aload_n dX8_credit_41 rfl ?_
          refine zJ_getr dX8_credit_42 fX8_51 (by first | rfl | assumption | exact hBc.1.1 _ (by decide) | exact hBe.1.1 _ (by decide)) rfl (by first | rfl | assumption | exact hBc.1.2 _ _ rfl | exact hBe.1.2 _ _ rfl) ?_
          refine zJ_geti dX8_credit_45 fX8_147 (by first | rfl | assumption | exact hBc.1.1 _ (by decide) | exact hBe.1.1 _ (by decide)) rfl ?_
          rw [c38]
          refine zJ_if_le (tgt := 113) dX8_credit_48 (by decide) (fun h9 => absurd h9 hnle) (fun h48b => ?_)
          refine zJ_aload_n dX8_credit_51 rfl ?_
          refine zJ_getr dX8_credit_52 fX8_58 (by first | rfl | assumption | exact hBc.1.1 _ (by decide) | exact hBe.1.1 _ (by decide)) rfl (by first | rfl | assumption | exact hBc.1.2 _ _ rfl | exact hBe.1.2 _ _ rfl) ?_
          refine zJ_iload_n dX8_credit_55 rfl ?_
          refine zJ_cV1 dX8_credit_56 sX8_268 mfX0_isTold IT (hBc.1.1 42 (by decide)) rfl (Nat.le_of_ble_eq_true rfl) ⟨Nat.le_of_ble_eq_true rfl, Nat.le_of_ble_eq_true rfl⟩ ⟨by show _ ≤ mc; omega, by show _ ≤ ms; omega⟩ ?_
          refine zJ_if_eq (tgt := 107) dX8_credit_59 (by decide) (fun h9 => False.elim (by revert h9; decide)) (fun _ => ?_)
          refine zJ_aload_n dX8_credit_62 rfl ?_
          refine zJ_getr dX8_credit_63 fX8_36 (by first | rfl | assumption | exact hBc.1.1 _ (by decide) | exact hBe.1.1 _ (by decide)) rfl (by first | rfl | assumption | exact hBc.1.2 _ _ rfl | exact hBe.1.2 _ _ rfl) ?_
          refine zJ_aload_n dX8_credit_66 rfl ?_
          refine zJ_getr dX8_credit_67 fX8_32 (by first | rfl | assumption | exact hBc.1.1 _ (by decide) | exact hBe.1.1 _ (by decide)) rfl (by first | rfl | assumption | exact hBc.1.2 _ _ rfl | exact hBe.1.2 _ _ rfl) ?_
          refine zJ_cV1 dX8_credit_70 sX8_110 mfX5_copy (c_Town_copy Δ c 14 9 (zTn14 hBc.1) hBc.2.1.1 (by decide)) (hBc.1.1 14 (by decide)) rfl (Nat.le_of_ble_eq_true rfl) ⟨Nat.le_of_ble_eq_true rfl, Nat.le_of_ble_eq_true rfl⟩ ⟨by show _ ≤ mc; omega, by show _ ≤ ms; omega⟩ ?_
          refine zJ_aload_n dX8_credit_73 rfl ?_
          refine zJ_getr dX8_credit_74 fX8_58 (by first | rfl | assumption | exact hBc.1.1 _ (by decide) | exact hBe.1.1 _ (by decide)) rfl (by first | rfl | assumption | exact hBc.1.2 _ _ rfl | exact hBe.1.2 _ _ rfl) ?_
          refine zJ_aload_n dX8_credit_77 rfl ?_
          refine zJ_getr dX8_credit_78 fX8_36 (by first | rfl | assumption | exact hBc.1.1 _ (by decide) | exact hBe.1.1 _ (by decide)) rfl (by first | rfl | assumption | exact hBc.1.2 _ _ rfl | exact hBe.1.2 _ _ rfl) ?_
          refine zJ_iload_n dX8_credit_81 rfl ?_
          refine zJ_cV2 dX8_credit_82 sX8_271 mfX0_putInto (c_Guesses_putInto Δ (ztowc c 14 9) hAs1.2.2.1.1 14 j (zTn14 hAs1.2.2.1.1) (by decide) hj3) (hAs1.2.2.1.1.1 42 (by decide)) rfl (Nat.le_of_ble_eq_true rfl) ⟨Nat.le_of_ble_eq_true rfl, Nat.le_of_ble_eq_true rfl⟩ ⟨by show _ ≤ mc; omega, by show _ ≤ ms; omega⟩ ?_
          refine zJ_aload_n dX8_credit_85 rfl ?_
          have hk2 : (zpi (ztowc c 14 9) 14 j 8).1 0 = some (.inl 8) := hk1
          refine zJ_yV0 dX8_credit_86 sX8_178 pX8_178 mfX8_playAsked GA rfl hk2 rfl ⟨rfl, by simp [zokv, zpush], by simp [lv_args, Value.category, zokv, hk2]⟩ (Nat.le_of_ble_eq_true rfl) ⟨Nat.le_of_ble_eq_true rfl, Nat.le_of_ble_eq_true rfl⟩ ⟨by show _ ≤ mc; omega, by show _ ≤ ms; omega⟩ (fun r d hP9 => ?_) (fun E d hX => XX E d hX)
          obtain ⟨hFa, hfit2, b, R, m9, K2, rfl, hO, hx, hR, hl1, hl2⟩ := hP9
          refine zJ_astore_n (ls2 := fun q9 => [(3, .ref q9), (2, .int (nI j)), (0, .ref 0), (1, .int (nI g))]) dX8_credit_89 (by decide) (fun _ => rfl) (fun q9 eq9 => ?_)
          obtain rfl := eq9.symm
          refine zJ_aload_n dX8_credit_90 rfl ?_
          refine zJ_eV0 dX8_credit_91 sX8_247 mfX1_choose (o_choose Δ d b R m9 U (zTg U G j) K2 hO) hO.1.1.1 rfl (Nat.le_of_ble_eq_true rfl) ⟨Nat.le_of_ble_eq_true rfl, Nat.le_of_ble_eq_true rfl⟩ ⟨by show _ ≤ mc; omega, by show _ ≤ ms; omega⟩ (fun r e9 hP9 => ?_)
          obtain ⟨rfl, hf, hO2, hcs⟩ := hP9
          obtain ⟨hFe, hBe⟩ := zfin hAs hFa hf hO2 hx hR
          have hFw : zFc w e9 := hFc.tr hFe.c
          have hl9 : zLf c e9 U := by
            have := zlf hAs hl1 hl2 hf
            have e1 := (zTg_lk U G j).fit
            exact ⟨fun h => this.1 (by rw [e1]; exact h), fun h => this.2 (by rw [e1]; exact h)⟩
          have NO := c_Guesses_noteOdds Δ e9 b R m9 (zTg U G j) K2 hO2.1 hcs hBe.1 (by rcases hR with ⟨h, -⟩ | ⟨h, -⟩ <;> rw [h] <;> decide) j e fr ln hj3 he ((hFw.2.1 38 4 (by omega)).1.trans h4) (fun r hr => ⟨(hFw.2.1 41 r (by omega)).1.trans (hln r hr).1, (hln r hr).2⟩) (fun r i hr hi => (hFw.2.1 40 _ (by omega)).1.trans (hfr r i hr hi)) hf8
          refine zJ_aload_n dX8_credit_94 rfl ?_
          refine zJ_getr dX8_credit_95 fX8_58 (by first | rfl | assumption | exact hBc.1.1 _ (by decide) | exact hBe.1.1 _ (by decide)) rfl (by first | rfl | assumption | exact hBc.1.2 _ _ rfl | exact hBe.1.2 _ _ rfl) ?_
          refine zJ_iload_n dX8_credit_98 rfl ?_
          refine zJ_aload_n dX8_credit_99 rfl ?_
          refine zJ_aload_n dX8_credit_100 rfl ?_
          refine zJ_getr dX8_credit_101 fX8_51 (by first | rfl | assumption | exact hBc.1.1 _ (by decide) | exact hBe.1.1 _ (by decide)) rfl (by first | rfl | assumption | exact hBc.1.2 _ _ rfl | exact hBe.1.2 _ _ rfl) ?_
          refine zJ_cV3 dX8_credit_104 sX8_275 mfX0_noteOdds NO (hBe.1.1 42 (by decide)) rfl (Nat.le_of_ble_eq_true rfl) ⟨Nat.le_of_ble_eq_true rfl, Nat.le_of_ble_eq_true rfl⟩ ⟨by show _ ≤ mc; omega, by show _ ≤ ms; omega⟩ ?_
          refine zJ_iinc (ls2 := fun x107b => [(2, .int x107b), (3, .ref b), (0, .ref 0), (1, .int (nI g))]) dX8_credit_107 rfl (by decide) (fun _ => rfl) (fun x107b ex107b => ?_)
          refine zJ_goto (tgt := 36) dX8_credit_110 (by decide) ?_
          refine zJ_ls [(2, .int x107b), (0, .ref 0), (1, .int (nI g))] (by simp) ?_
          rw [ex107b, show nI j + Int32.ofInt 1 = nI (j + 1) from nI_1 _]
          refine ih (j + 1) (by omega) (by omega) _ (k + m1) (n + m2) (hFw.tr (zFc.rol (by decide))) (hBe.rol2 (by decide) _) (hc6 e9 hl9) (fun h9 => ?_) (fun g2 r2 h1 h2 h3 => ?_)
          · show e9.2.2.2 0 8 = some 61
            by_cases hf9 : zfit U 640
            · rw [hl9.1 hf9]; exact hlg h9
            · exact hl9.2 hf9
          · rw [zrol_get]
            by_cases hgj : g2 = j
            · subst hgj
              rw [if_pos (by omega), Nat.add_sub_cancel_left]; rfl
            · rw [if_neg (by omega)]
              exact ((hFe.2.1 45 _ (by omega)).2).trans (hod g2 r2 (by omega) h2 h3)
        · rw [if_neg htj] at IT
          refine zJ_iload_n dX8_credit_36 rfl ?_
          refine zJ_iconst (v := 4) dX8_credit_37 (by decide) ?_
          refine zJ_icmp_ge (tgt := 113) dX8_credit_38 (by decide) (fun h9 => absurd h9 hlt0) (fun h38c => ?_)
          refine zJ_aload_n dX8_credit_41 rfl ?_
          refine zJ_getr dX8_credit_42 fX8_51 (by first | rfl | assumption | exact hBc.1.1 _ (by decide) | exact hBe.1.1 _ (by decide)) rfl (by first | rfl | assumption | exact hBc.1.2 _ _ rfl | exact hBe.1.2 _ _ rfl) ?_
          refine zJ_geti dX8_credit_45 fX8_147 (by first | rfl | assumption | exact hBc.1.1 _ (by decide) | exact hBe.1.1 _ (by decide)) rfl ?_
          rw [c38]
          refine zJ_if_le (tgt := 113) dX8_credit_48 (by decide) (fun h9 => absurd h9 hnle) (fun h48c => ?_)
          refine zJ_aload_n dX8_credit_51 rfl ?_
          refine zJ_getr dX8_credit_52 fX8_58 (by first | rfl | assumption | exact hBc.1.1 _ (by decide) | exact hBe.1.1 _ (by decide)) rfl (by first | rfl | assumption | exact hBc.1.2 _ _ rfl | exact hBe.1.2 _ _ rfl) ?_
          refine zJ_iload_n dX8_credit_55 rfl ?_
          refine zJ_cV1 dX8_credit_56 sX8_268 mfX0_isTold IT (hBc.1.1 42 (by decide)) rfl (Nat.le_of_ble_eq_true rfl) ⟨Nat.le_of_ble_eq_true rfl, Nat.le_of_ble_eq_true rfl⟩ ⟨by show _ ≤ mc; omega, by show _ ≤ ms; omega⟩ ?_
          refine zJ_if_eq (tgt := 107) dX8_credit_59 (by decide) (fun _ => ?_) (fun h9 => False.elim (by revert h9; decide))
          refine zJ_iinc (ls2 := fun x107c => [(2, .int x107c), (0, .ref 0), (1, .int (nI g))]) dX8_credit_107 rfl (by decide) (fun _ => rfl) (fun x107c ex107c => ?_)
          refine zJ_goto (tgt := 36) dX8_credit_110 (by decide) ?_
          refine zJ_ls [(2, .int x107c), (0, .ref 0), (1, .int (nI g))] (by simp) ?_
          rw [ex107c, show nI j + Int32.ofInt 1 = nI (j + 1) from nI_1 _]
          exact ih (j + 1) (by omega) (by omega) c k n hFc hBc (hH.up (by omega)) hlg (fun g2 r2 h1 h2 h3 => by
            by_cases hgj : g2 = j
            · exact absurd (hgj ▸ h2) htj
            · exact hod g2 r2 (by omega) h2 h3)
    refine zJ_aload_n dX8_credit_5 rfl ?_
    refine zJ_getr dX8_credit_6 fX8_58 (by first | rfl | assumption | exact hBd.1.1 _ (by decide) | exact hC.1 _ (by decide) | exact hAs.2.2.1.1.1 _ (by decide)) rfl (by first | rfl | assumption | exact hBd.1.2 _ _ rfl | exact hC.2 _ _ rfl | exact hAs.2.2.1.1.2 _ _ rfl) ?_
    refine zJ_iload_n dX8_credit_9 rfl ?_
    refine zJ_cV1 dX8_credit_10 sX8_268 mfX0_isTold (by have := c_Guesses_isTold Δ w hC tb g htb ht hg; rw [if_pos htg] at this; exact this) (hC.1 42 (by decide)) rfl (Nat.le_of_ble_eq_true rfl) ⟨Nat.le_of_ble_eq_true rfl, Nat.le_of_ble_eq_true rfl⟩ ⟨by show _ ≤ mc; omega, by show _ ≤ ms; omega⟩ ?_
    refine zJ_if_ne (tgt := 18) dX8_credit_13 (by decide) (fun _ => ?_) (fun h9 => False.elim (by revert h9; decide))
    refine zJ_aload_n dX8_credit_18 rfl ?_
    refine zJ_getr dX8_credit_19 fX8_36 (by first | rfl | assumption | exact hBd.1.1 _ (by decide) | exact hC.1 _ (by decide) | exact hAs.2.2.1.1.1 _ (by decide)) rfl (by first | rfl | assumption | exact hBd.1.2 _ _ rfl | exact hC.2 _ _ rfl | exact hAs.2.2.1.1.2 _ _ rfl) ?_
    refine zJ_aload_n dX8_credit_22 rfl ?_
    refine zJ_getr dX8_credit_23 fX8_32 (by first | rfl | assumption | exact hBd.1.1 _ (by decide) | exact hC.1 _ (by decide) | exact hAs.2.2.1.1.1 _ (by decide)) rfl (by first | rfl | assumption | exact hBd.1.2 _ _ rfl | exact hC.2 _ _ rfl | exact hAs.2.2.1.1.2 _ _ rfl) ?_
    refine zJ_cV1 dX8_credit_26 sX8_110 mfX5_copy (c_Town_copy Δ w 14 9 (zTn14 hC) hB.2.1.1 (by decide)) (hC.1 14 (by decide)) rfl (Nat.le_of_ble_eq_true rfl) ⟨Nat.le_of_ble_eq_true rfl, Nat.le_of_ble_eq_true rfl⟩ ⟨by show _ ≤ mc; omega, by show _ ≤ ms; omega⟩ ?_
    refine zJ_aload_n dX8_credit_29 rfl ?_
    refine zJ_yV0 dX8_credit_30 sX8_178 pX8_178 mfX8_playAsked (c_playAsked Δ (ztowc w 14 9) U U hAs.2.2.1.1 hAs.2.2.1.2.2.2 hAs.2.2.2 hU hcU (zsame.rf U) m1 m2 ⟨hc1, hc2⟩ (fun h1 h2 => by have := hc3 h1 h2; omega)) rfl hk1 rfl ⟨rfl, by simp [zokv, zpush], by simp [lv_args, Value.category, zokv, hk1]⟩ (Nat.le_of_ble_eq_true rfl) ⟨Nat.le_of_ble_eq_true rfl, Nat.le_of_ble_eq_true rfl⟩ ⟨by show _ ≤ mc; omega, by show _ ≤ ms; omega⟩ (fun r d hP9 => ?_) (fun E d hX => hX1 E d (hX.sp hAs))
    obtain ⟨hFa, hfit, b, R, m9, K, rfl, hO, hx, hR, hl1, hl2⟩ := hP9
    have hFd : zFb w d := hAs.1.tr hFa.b
    have hBd : zB d U := hAs.2.2.1.fb hFa.b (hO.py hx hR)
    have hl9 : zLf (ztowc w 14 9) d U := ⟨hl1, hl2⟩
    have hlg : BG → d.2.2.2 0 8 = some 61 := fun h9 => by
      rw [hBG] at h9
      obtain ⟨-, -, -, -, h9⟩ := h9
      exact hl2 h9
    have d38 : d.2.1 38 4 = nI e := (hFd.2.1 38 4 (by omega)).1.trans h4
    refine zJ_pop dX8_credit_33 rfl ?_
    refine zJ_iconst (v := 0) dX8_credit_34 (by decide) ?_
    refine zJ_istore_n (ls2 := fun x35w => [(2, .int x35w), (0, .ref 0), (1, .int (nI g))]) dX8_credit_35 (by decide) (fun _ => rfl) (fun x35w ex35w => ?_)
    obtain rfl : x35w = (nI 0) := ex35w
    by_cases he0 : 0 < e
    · refine zJ_ls [(2, .int (nI 0)), (0, .ref 0), (1, .int (nI g))] (by simp) ?_
      exact L he0 hfit 0 (Nat.zero_le _) d _ _ hFd.c hBd (hc6 d hl9) hlg (fun g2 r2 h1 => absurd h1 (Nat.not_lt_zero g2))
    · refine zJ_iload_n dX8_credit_36 rfl ?_
      refine zJ_iconst (v := 4) dX8_credit_37 (by decide) ?_
      refine zJ_icmp_ge (tgt := 113) dX8_credit_38 (by decide) (fun h9 => False.elim (by revert h9; decide)) (fun _ => ?_)
      refine zJ_aload_n dX8_credit_41 rfl ?_
      refine zJ_getr dX8_credit_42 fX8_51 (by first | rfl | assumption | exact hBd.1.1 _ (by decide) | exact hC.1 _ (by decide) | exact hAs.2.2.1.1.1 _ (by decide)) rfl (by first | rfl | assumption | exact hBd.1.2 _ _ rfl | exact hC.2 _ _ rfl | exact hAs.2.2.1.1.2 _ _ rfl) ?_
      refine zJ_geti dX8_credit_45 fX8_147 (by first | rfl | assumption | exact hBd.1.1 _ (by decide) | exact hC.1 _ (by decide) | exact hAs.2.2.1.1.1 _ (by decide)) rfl ?_
      rw [d38]
      refine zJ_if_le (tgt := 113) dX8_credit_48 (by decide) (fun h48y => ?_) (fun h9 => absurd ((nI_leI (b := 0) (by omega) (by decide)).mpr (by omega)) h9)
      refine zJ_ls [(0, .ref 0), (1, .int (nI g))] (by simp) ?_
      exact END d _ _ 2 (by omega) hFd.c hBd (hc6 d hl9) hlg hfit (fun g2 r2 h1 h2 h3 => absurd h3 (by omega))
  · have IT0 := c_Guesses_isTold Δ w hC tb g htb ht hg
    rw [if_neg htg] at IT0
    refine zJ_aload_n dX8_credit_5 rfl ?_
    refine zJ_getr dX8_credit_6 fX8_58 (by first | rfl | assumption | exact hC.1 _ (by decide) | exact hAs.2.2.1.1.1 _ (by decide) | exact (zfin hAs hFa hf hO2 hx hR).2.1.1 _ (by decide)) rfl (by first | rfl | assumption | exact hC.2 _ _ rfl | exact hAs.2.2.1.1.2 _ _ rfl | exact (zfin hAs hFa hf hO2 hx hR).2.1.2 _ _ rfl) ?_
    refine zJ_iload_n dX8_credit_9 rfl ?_
    refine zJ_cV1 dX8_credit_10 sX8_268 mfX0_isTold IT0 (hC.1 42 (by decide)) rfl (Nat.le_of_ble_eq_true rfl) ⟨Nat.le_of_ble_eq_true rfl, Nat.le_of_ble_eq_true rfl⟩ ⟨by show _ ≤ mc; omega, by show _ ≤ ms; omega⟩ ?_
    refine zJ_if_ne (tgt := 18) dX8_credit_13 (by decide) (fun h9 => False.elim (by revert h9; decide)) (fun _ => ?_)
    refine zJ_iconst (v := (-1)) dX8_credit_16 (by decide) ?_
    exact zJ_iret dX8_credit_17 rfl (by show _ ≤ mc; omega) (by show _ ≤ ms; omega) (hQ _ _ ⟨zFc.rf w, hB, fun h9 => h9.elim (fun h9 => h9) (fun h9 => by rw [hBG] at h9; obtain ⟨g2, a1, a2, a3, -⟩ := h9; rw [← (nI_eq (by omega) (by omega)).mp a2] at a3; exact absurd a3 htg), g, hg, rfl, Or.inl ⟨htg, rfl⟩⟩)
