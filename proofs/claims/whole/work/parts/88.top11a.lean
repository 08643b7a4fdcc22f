/-! LetterTown: one; the room of calls that ask often -/
def zHk (w c : zW) (b : Prop) (i k n : Nat) : Prop := (c.2.2.2 0 8 = w.2.2.2 0 8 ∧ k ≤ i ∧ n ≤ 6 * i) ∨ (b ∧ w.2.2.2 0 8 = none ∧ c.2.2.2 0 8 = some 61 ∧ k ≤ 20 + i ∧ n ≤ 580000 + 6 * i)
def zLw (w d : zW) (b : Prop) : Prop := w.2.2.2 0 8 = some 61 ∨ b → d.2.2.2 0 8 = some 61
theorem zB.lg {w : zW} {U : zTo} (h : zB w U) : w.2.2.2 0 8 = none ∨ w.2.2.2 0 8 = some 61 := h.2.2.2.2.elim (fun h => Or.inl h.1) (fun h => Or.inr h.1)
theorem zLf.w {w d : zW} {T : zTo} (h : zLf w d T) : zLw w d (¬ zfit T 640) := fun h1 => by
  by_cases hf : zfit T 640
  · rcases h1 with h1 | h1
    · rw [h.1 hf]; exact h1
    · exact absurd hf h1
  · exact h.2 hf
theorem zHk.lw {w c : zW} {b : Prop} {i k n : Nat} (h : zHk w c b i k n) (hb : b → c.2.2.2 0 8 = some 61) : zLw w c b := fun h1 => by
  rcases h1 with h1 | h1
  · rcases h with h | h
    · rw [h.1]; exact h1
    · exact h.2.2.1
  · exact hb h1
theorem zHk.call {w c : zW} {b : Prop} {i k n mc ms : Nat} {U T : zTo} (h : zHk w c b i k n) (hm : zRo w b mc ms) (hi : i < 100) (hc : zB c U) (hT : ¬ zfit T 640 → c.2.2.2 0 8 = none → b) : ∃ m1 m2, 1 ≤ m1 ∧ 6 ≤ m2 ∧ (¬ zfit T 640 → c.2.2.2 0 8 = none → 20 ≤ m1 ∧ 580000 ≤ m2) ∧ k + m1 ≤ mc ∧ n + m2 ≤ ms ∧ ∀ d, zLf c d T → zHk w d b (i + 1) (k + m1) (n + m2) := by
  obtain ⟨⟨r1, r2⟩, r3⟩ := hm
  by_cases hb : ¬ zfit T 640 ∧ c.2.2.2 0 8 = none
  · rcases h with ⟨h1, h2, h3⟩ | ⟨h1, h2, h3, h4, h5⟩
    · have hbb := hT hb.1 hb.2
      have hw : w.2.2.2 0 8 = none := h1.symm.trans hb.2
      have := r3 hbb hw
      exact ⟨20, 580000, by omega, by omega, fun _ _ => ⟨by omega, by omega⟩, by omega, by omega, fun d hd => Or.inr ⟨hbb, hw, hd.2 hb.1, by omega, by omega⟩⟩
    · rw [h3] at hb; exact absurd hb.2 (by simp)
  · refine ⟨1, 6, by omega, by omega, fun h1 h2 => absurd ⟨h1, h2⟩ hb, ?_, ?_, fun d hd => ?_⟩
    · rcases h with ⟨h1, h2, h3⟩ | ⟨h1, h2, h3, h4, h5⟩
      · omega
      · have := r3 h1 h2; omega
    · rcases h with ⟨h1, h2, h3⟩ | ⟨h1, h2, h3, h4, h5⟩
      · omega
      · have := r3 h1 h2; omega
    · have hdc : d.2.2.2 0 8 = c.2.2.2 0 8 := by
        by_cases hf : zfit T 640
        · exact hd.1 hf
        · rw [hd.2 hf]
          rcases hc.lg with h9 | h9
          · exact absurd ⟨hf, h9⟩ hb
          · exact h9.symm
      rcases h with ⟨h1, h2, h3⟩ | ⟨h1, h2, h3, h4, h5⟩
      · exact Or.inl ⟨hdc.trans h1, by omega, by omega⟩
      · exact Or.inr ⟨h1, h2, hdc.trans h3, by omega, by omega⟩
theorem zho_of {c : zW} {U T : zTo} {x : Nat} (hi : zTi c 14 T) (hT : zTok T) (h1 : T.1 = U.1) (hx : x ≤ 9999) : zcnt (zfo c 14 (nI x)) (U.1 7) = zho U x := by
  refine zcnt_c (fun h hh => ?_)
  have h7 := hT.2.2.2.1
  have h5 := hT.2.1
  have h6 := hT.2.2.1
  rw [h1] at h7 h5 h6
  have e : zfl T (h + 1) = zfl U (h + 1) := by simp only [zfl, zpe, h1]
  have hb : U.1 6 * h ≤ 99 * 12 := Nat.mul_le_mul h6 (by omega)
  have hl : zfl U (h + 1) ≤ 20000 := by
    simp only [zfl, zpe, Nat.add_sub_cancel]; omega
  simp only [zfo]
  rw [zfe_eq hi hT (by omega) (by omega), e]
  exact decide_eq_decide.mpr (nI_leI (by omega) (by omega))
theorem zTok.q0 {T : zTo} (h : zTok T) {p : Nat} (hp : p < T.1 0) : zTok (zTq T p 0) := by
  obtain ⟨h0, h5, h6, h7, h8, h9, h10, h11, h12, h13, hpp, hw⟩ := h
  refine ⟨h0, h5, h6, h7, h8, h9, h10, h11, h12, h13, fun q => ?_, hw⟩
  obtain ⟨a1, a2, a3, a4⟩ := hpp q
  simp only [zTq]
  by_cases hq : q = p
  · subst hq
    simp only [if_true]
    exact ⟨by decide, a2, fun h => absurd h (by decide), fun h => by omega⟩
  · simp only [hq, if_false]
    exact ⟨a1, a2, a3, a4⟩
set_option maxRecDepth 100000 in
theorem c_one (Δ : zD) (w : zW) (U : zTo) (hB : zB w U) (x a b wh : Int32) (mc ms : Nat) (hm : zRo w (((∃ p, p < U.1 0 ∧ x = nI p) ∧ ∃ q, q ≤ 1 ∧ wh = nI q) ∧ (∃ to s, to ≤ 9999 ∧ a = nI to ∧ (1 ≤ s ∧ s < 2 ^ 31) ∧ b = nI s ∧ to / s < 60) ∧ ¬ zfit U 640) mc ms) : zM Δ 8 mc ms false yX8_one mX8_one [.ref 0, .int x, .int a, .int b, .int wh] w (fun r d => zFb w d ∧ zB d U ∧ zLw w d (((∃ p, p < U.1 0 ∧ x = nI p) ∧ ∃ q, q ≤ 1 ∧ wh = nI q) ∧ (∃ to s, to ≤ 9999 ∧ a = nI to ∧ (1 ≤ s ∧ s < 2 ^ 31) ∧ b = nI s ∧ to / s < 60) ∧ ¬ zfit U 640) ∧ ∃ p wq to s, p < U.1 0 ∧ x = nI p ∧ wq ≤ 1 ∧ wh = nI wq ∧ to ≤ 9999 ∧ a = nI to ∧ (1 ≤ s ∧ s < 2 ^ 31) ∧ b = nI s ∧ to / s < 60 ∧ zfit U 20000 ∧ r = some (.long (if wq = 0 then lN (zbx (fun k => zgn U p (k * s)) (to / s) * s) else lZ (zgn U p (zbx (fun k => zgn U p (k * s)) (to / s) * s))))) (fun E d => (E = zNS ∧ d = w ∧ ¬ ((∃ p, p < U.1 0 ∧ x = nI p) ∧ ∃ q, q ≤ 1 ∧ wh = nI q)) ∨ (((∃ p, p < U.1 0 ∧ x = nI p) ∧ ∃ q, q ≤ 1 ∧ wh = nI q) ∧ E = "java/lang/IllegalArgumentException" ∧ d = w ∧ ¬ (∃ to s, to ≤ 9999 ∧ a = nI to ∧ (1 ≤ s ∧ s < 2 ^ 31) ∧ b = nI s ∧ to / s < 60)) ∨ (((∃ p, p < U.1 0 ∧ x = nI p) ∧ ∃ q, q ≤ 1 ∧ wh = nI q) ∧ (∃ to s, to ≤ 9999 ∧ a = nI to ∧ (1 ≤ s ∧ s < 2 ^ 31) ∧ b = nI s ∧ to / s < 60) ∧ zSp w U U E d)) := by
  refine zM.of2 mfX8_one (Nat.le_of_ble_eq_true rfl) (fun QR QX hQ hX0 => ?_)
  have hm0 := hm
  obtain ⟨⟨hm1, hm2⟩, hm3⟩ := hm
  have hC := hB.1
  have hU := hB.2.2.1.1
  have hcU := hB.2.2.1.2.1
  have h13 := hB.2.2.1.2.2
  have hp0 := hB.2.1.2.1 0 (by decide) (by decide)
  have hp8 := hU.1
  have hk0 := hC.1 0 (by decide)
  refine zJ_aload_n dX8_one_0 rfl ?_
  refine zJ_iload_n dX8_one_1 rfl ?_
  refine zJ_xV1 dX8_one_2 sX8_158 pX8_158 mfX8_needPerson (c_needPerson Δ w hC x (U.1 0) hp0 hp8) rfl hk0 rfl (Nat.le_of_ble_eq_true rfl) ⟨Nat.le_of_ble_eq_true rfl, Nat.le_of_ble_eq_true rfl⟩ ⟨by show _ ≤ mc; omega, by show _ ≤ ms; omega⟩ (fun r c9 hP => ?_) (fun E c9 hX => hX0 _ _ (Or.inl ⟨hX.1, hX.2.1, fun h => hX.2.2 h.1⟩))
  obtain ⟨rfl, hw9, hP⟩ := hP
  obtain rfl := hw9.symm
  obtain ⟨p, hp, rfl⟩ := hP
  refine zJ_aload_n dX8_one_5 rfl ?_
  refine zJ_iload dX8_one_6 rfl ?_
  refine zJ_iconst (v := 1) dX8_one_8 (by decide) ?_
  refine zJ_xV2 dX8_one_9 sX8_161 pX8_161 mfX8_needWhat (c_needWhat Δ w hC wh 1 (by decide)) rfl hk0 rfl (Nat.le_of_ble_eq_true rfl) ⟨Nat.le_of_ble_eq_true rfl, Nat.le_of_ble_eq_true rfl⟩ ⟨by show _ ≤ mc; omega, by show _ ≤ ms; omega⟩ (fun r c9 hP => ?_) (fun E c9 hX => hX0 _ _ (Or.inl ⟨hX.1, hX.2.1, fun h => hX.2.2 h.2⟩))
  obtain ⟨rfl, hw9, hP⟩ := hP
  obtain rfl := hw9.symm
  obtain ⟨wq, hwq, rfl⟩ := hP
  by_cases hok2 : (∃ to s, to ≤ 9999 ∧ a = nI to ∧ (1 ≤ s ∧ s < 2 ^ 31) ∧ b = nI s ∧ to / s < 60)
  · skip
    obtain ⟨to, s, hto, rfl, ⟨hs, hs2⟩, rfl, h60⟩ := hok2
    have hbig0 : ¬ zfit U 640 → (((∃ p_, p_ < U.1 0 ∧ nI p = nI p_) ∧ ∃ q, q ≤ 1 ∧ nI wq = nI q) ∧ (∃ to_ s_, to_ ≤ 9999 ∧ nI to = nI to_ ∧ (1 ≤ s_ ∧ s_ < 2 ^ 31) ∧ nI s = nI s_ ∧ to_ / s_ < 60) ∧ ¬ zfit U 640) := fun h => ⟨⟨⟨p, hp, rfl⟩, wq, hwq, rfl⟩, ⟨to, s, hto, rfl, ⟨hs, hs2⟩, rfl, h60⟩, h⟩
    have hok1 : ((∃ p_, p_ < U.1 0 ∧ nI p = nI p_) ∧ ∃ q, q ≤ 1 ∧ nI wq = nI q) := ⟨⟨p, hp, rfl⟩, wq, hwq, rfl⟩
    have hok2 : (∃ to_ s_, to_ ≤ 9999 ∧ nI to = nI to_ ∧ (1 ≤ s_ ∧ s_ < 2 ^ 31) ∧ nI s = nI s_ ∧ to_ / s_ < 60) := ⟨to, s, hto, rfl, ⟨hs, hs2⟩, rfl, h60⟩
    have cp : (nI p).toNatClampNeg = p := nI_clamp (by omega)
    have hms : to / s * s ≤ to := Nat.div_mul_le_self to s
    have hdv : nI to / nI s = nI (to / s) := nI_div (by omega) hs2
    have hQ1 : ∀ d, zFb w d → zB d U → zLw w d (((∃ p_, p_ < U.1 0 ∧ nI p = nI p_) ∧ ∃ q, q ≤ 1 ∧ nI wq = nI q) ∧ (∃ to_ s_, to_ ≤ 9999 ∧ nI to = nI to_ ∧ (1 ≤ s_ ∧ s_ < 2 ^ 31) ∧ nI s = nI s_ ∧ to_ / s_ < 60) ∧ ¬ zfit U 640) → zfit U 20000 → QR (some (.long (if wq = 0 then lN (zbx (fun k => zgn U p (k * s)) (to / s) * s) else lZ (zgn U p (zbx (fun k => zgn U p (k * s)) (to / s) * s))))) d := fun d g1 g2 g3 g4 => hQ _ _ ⟨g1, g2, g3, p, wq, to, s, hp, rfl, hwq, rfl, hto, rfl, ⟨hs, hs2⟩, rfl, h60, g4, rfl⟩
    have hX1 : ∀ E d, zSp w U U E d → QX E d := fun E d g => hX0 _ _ (Or.inr (Or.inr ⟨hok1, hok2, g⟩))
    generalize to / s = mm at h60 hms hdv hQ1
    have hsn : ¬ nI s = 0 := fun h => absurd ((nI_eq (b := 0) hs2 (by decide)).mp h) (by omega)
    have hTv : ∀ v, v ≤ 9999 → zTok (zTon U p v) := fun v hv => hU.q hp (by decide) hv (fun h => absurd h (by decide))
    have hgr : ∀ v, v ≤ 9999 → -420000000 ≤ zgn U p v ∧ zgn U p v ≤ 420000000 := fun v hv => (zvl_rng (hTv v hv) (zkok.fk (hTv v hv))).2 p
    have L : ∀ i, i ≤ mm + 1 → ∀ (c : zW) (k n : Nat) (T : zTo) (o6 b7 : Int32) (l8 : Int64), zFb w c → zB c U → zTi c 14 T → zTok T → T.1 = U.1 → (∀ v, zTn1 T p v = zTon U p v) → zHk w c (((∃ p_, p_ < U.1 0 ∧ nI p = nI p_) ∧ ∃ q, q ≤ 1 ∧ nI wq = nI q) ∧ (∃ to_ s_, to_ ≤ 9999 ∧ nI to = nI to_ ∧ (1 ≤ s_ ∧ s_ < 2 ^ 31) ∧ nI s = nI s_ ∧ to_ / s_ < 60) ∧ ¬ zfit U 640) (2 + i) k n → (i = 0 ∨ (0 < i ∧ o6 = nI (zho U ((i - 1) * s)) ∧ b7 = nI (zbx (fun k => zgn U p (k * s)) (i - 1) * s) ∧ l8 = lZ (zgn U p (zbx (fun k => zgn U p (k * s)) (i - 1) * s)) ∧ zfit U 20000 ∧ (¬ zfit U 640 → c.2.2.2 0 8 = some 61))) → zJ Δ mX8_one (zRm 8 mc ms) false w.1 QR QX k n 86 [(10, .int (nI i)), (8, .long l8), (7, .int b7), (6, .int o6), (5, .int (nI (mm + 1))), (0, .ref 0), (1, .int (nI p)), (2, .int (nI to)), (3, .int (nI s)), (4, .int (nI wq))] [] c := by
      refine zup (fun i hi ih => ?_)
      intro c k n T o6 b7 l8 hFc hBc hiT hTk hT1 hTn hH hst
      have hk1 : c.1 0 = some (.inl 8) := hBc.1.1 0 (by decide)
      have hHk : k ≤ mc ∧ n ≤ ms := by
        rcases hH with ⟨h1, h2, h3⟩ | ⟨h1, h2, h3, h4, h5⟩
        · omega
        · have := hm3 h1 h2; omega
      by_cases hi0 : i = mm + 1
      · rcases hst with h9 | ⟨-, rfl, rfl, rfl, hfit, hlg⟩
        · omega
        · have hb := zbx_le (fun k => zgn U p (k * s)) (i - 1)
          have hbm : zbx (fun k => zgn U p (k * s)) (i - 1) * s ≤ to := Nat.le_trans (Nat.mul_le_mul_right s (show zbx (fun k => zgn U p (k * s)) (i - 1) ≤ mm by omega)) hms
          have hQ9 := hQ1 c hFc hBc (hH.lw (fun h => hlg h.2.2)) hfit
          rw [show mm = i - 1 by omega] at hQ9
          have hge : nI (mm + 1) ≤ nI i := (nI_leI (by omega) (by omega)).mpr (by omega)
          rcases (by omega : wq = 0 ∨ wq = 1) with rfl | rfl
          · refine zJ_iload dX8_one_86 rfl ?_
            refine zJ_iload dX8_one_88 rfl ?_
            refine zJ_icmp_ge (tgt := 171) dX8_one_90 (by decide) (fun h90 => ?_) (fun h9 => absurd hge h9)
            refine zJ_iload dX8_one_171 rfl ?_
            refine zJ_if_ne (tgt := 182) dX8_one_173 (by decide) (fun h9 => False.elim (by revert h9; decide)) (fun _ => ?_)
            refine zJ_iload dX8_one_176 rfl ?_
            refine zJ_i2l dX8_one_178 ?_
            rw [nI_l (by omega)]
            refine zJ_goto (tgt := 184) dX8_one_179 (by decide) ?_
            exact zJ_lret dX8_one_184 rfl (by show _ ≤ mc; omega) (by show _ ≤ ms; omega) hQ9
          · refine zJ_iload dX8_one_86 rfl ?_
            refine zJ_iload dX8_one_88 rfl ?_
            refine zJ_icmp_ge (tgt := 171) dX8_one_90 (by decide) (fun h90 => ?_) (fun h9 => absurd hge h9)
            refine zJ_iload dX8_one_171 rfl ?_
            refine zJ_if_ne (tgt := 182) dX8_one_173 (by decide) (fun _ => ?_) (fun h9 => False.elim (by revert h9; decide))
            refine zJ_lload dX8_one_182 rfl ?_
            exact zJ_lret dX8_one_184 rfl (by show _ ≤ mc; omega) (by show _ ≤ ms; omega) hQ9
      · have him : i ≤ mm := by omega
        have hism : i * s ≤ to := Nat.le_trans (Nat.mul_le_mul_right s him) hms
        have hlt0 : ¬ nI (mm + 1) ≤ nI i := fun h => absurd ((nI_leI (by omega) (by omega)).mp h) (by omega)
        have hzo := zho_of (x := i * s) hiT hTk hT1 (by omega)
        have h7U : c.2.1 14 7 = nI (U.1 7) := by rw [← hT1]; exact hiT.2.1 7 (by decide) (by decide)
        have hU7 := hU.2.2.2.1
        have HO := c_Town_handsOpenedAt Δ c 14 (U.1 7) (nI (i * s)) hiT.1.1 h7U (by omega)
        rw [hzo] at HO
        have hAs0 : zAs c c U T := ⟨zFb.rf c, rfl, hBc, hiT⟩
        have hAs := hAs0.num (p := p) (v := i * s)
        rw [hTn] at hAs
        have hzl : zho U (i * s) ≤ 12 := by
          have : ∀ (f : Nat → Bool) n, zcnt f n ≤ n := fun f n => by
            induction n with
            | zero => exact Nat.le_refl _
            | succ n ih => simp only [zcnt]; split <;> omega
          have := this (fun h => decide (i * s ≤ zfl U (h + 1))) (U.1 7)
          simp only [zho]; omega
        obtain ⟨m1, m2, hc1, hc2, hc3, hc4, hc5, hc6⟩ := hH.call hm0 (T := U) (by omega) hBc (fun h _ => hbig0 h)
        have GA := c_gainAsked Δ _ U (zTon U p (i * s)) hAs.2.2.1 hAs.2.2.2 (hTv _ (by omega)) (hcU.q (by omega)) ((zsame.rf U).q) p hp m1 m2 hc1 hc2 (fun h1 h2 => hc3 (by rw [← (zLk.on U p (i * s)).fit]; exact h1) (hAs.2.1 ▸ h2))
        have NX : ∀ d (o6 b7 : Int32) (l8 : Int64), zFb (zsi c 16 p (nI (i * s))) d → zB d U → zTi d 14 (zTon U p (i * s)) → zLf (zsi c 16 p (nI (i * s))) d (zTon U p (i * s)) → zfit (zTon U p (i * s)) 20000 → o6 = nI (zho U (i * s)) → b7 = nI (zbx (fun k => zgn U p (k * s)) i * s) → l8 = lZ (zgn U p (zbx (fun k => zgn U p (k * s)) i * s)) → zJ Δ mX8_one (zRm 8 mc ms) false w.1 QR QX (k + m1) (n + m2) 86 [(10, .int (nI (i + 1))), (8, .long l8), (7, .int b7), (6, .int o6), (5, .int (nI (mm + 1))), (0, .ref 0), (1, .int (nI p)), (2, .int (nI to)), (3, .int (nI s)), (4, .int (nI wq))] [] d := by
          intro d o6 b7 l8 e1 e2 e3 e4 e5 e6 e7 e8
          have e9 : zLf c d U := by
            have := (zLk.on U p (i * s)).fit
            exact ⟨fun h => (e4.1 (by rw [this]; exact h)).trans hAs.2.1, fun h => e4.2 (by rw [this]; exact h)⟩
          refine ih (i + 1) (by omega) (by omega) d (k + m1) (n + m2) (zTon U p (i * s)) o6 b7 l8 ((hFc.tr hAs.1).tr e1) e2 e3 (hTv _ (by omega)) rfl (fun v => ?_) (hc6 d e9) (Or.inr ⟨by omega, by rw [Nat.add_sub_cancel]; exact e6, by rw [Nat.add_sub_cancel]; exact e7, by rw [Nat.add_sub_cancel]; exact e8, by rw [← (zLk.on U p (i * s)).fit]; exact e5, e9.2⟩)
          simp only [zTon, zTn1, zTq, Prod.mk.injEq, true_and, and_true]
          funext q
          by_cases hq : q = p <;> simp [hq]
        have XX : ∀ E d, zSp (zsi c 16 p (nI (i * s))) U (zTon U p (i * s)) E d → QX E d := fun E d g => hX1 E d ⟨g.1, by rw [← (zLk.on U p (i * s)).fit]; exact g.2.1, (hFc.tr hAs.1).tr g.2.2.1, g.2.2.2.1, g.2.2.2.2⟩
        have hgv := hgr (i * s) (by omega)
        rcases hst with h9 | ⟨hip, rfl, rfl, rfl, hfit, hlg⟩
        · have hz9 : nI i = 0 := by rw [h9]; rfl
          refine zJ_iload dX8_one_86 rfl ?_
          refine zJ_iload dX8_one_88 rfl ?_
          refine zJ_icmp_ge (tgt := 171) dX8_one_90 (by decide) (fun h9 => absurd h9 hlt0) (fun h90 => ?_)
          refine zJ_aload_n dX8_one_93 rfl ?_
          refine zJ_getr dX8_one_94 fX8_36 (by first | rfl | assumption | exact hBc.1.1 _ (by decide)) rfl (by first | rfl | assumption | exact hBc.1.2 _ _ rfl) ?_
          refine zJ_iload dX8_one_97 rfl ?_
          refine zJ_iload_n dX8_one_99 rfl ?_
          refine zJ_imul dX8_one_100 ?_
          rw [na_mul]
          refine zJ_cV1 dX8_one_101 sX8_223 mfX5_handsOpenedAt HO (hBc.1.1 14 (by decide)) rfl (Nat.le_of_ble_eq_true rfl) ⟨Nat.le_of_ble_eq_true rfl, Nat.le_of_ble_eq_true rfl⟩ ⟨by show _ ≤ mc; omega, by show _ ≤ ms; omega⟩ ?_
          refine zJ_istore (ls2 := fun x104 => [(11, .int x104), (10, .int (nI i)), (8, .long l8), (7, .int b7), (6, .int o6), (5, .int (nI (mm + 1))), (0, .ref 0), (1, .int (nI p)), (2, .int (nI to)), (3, .int (nI s)), (4, .int (nI wq))]) dX8_one_104 (by decide) (fun _ => rfl) (fun x104 ex104 => ?_)
          obtain rfl : x104 = (nI (zho U (i * s))) := ex104
          refine zJ_iload dX8_one_106 rfl ?_
          refine zJ_if_eq (tgt := 118) dX8_one_108 (by decide) (fun h108 => ?_) (fun h9 => absurd hz9 h9)
          refine zJ_iload dX8_one_118 rfl ?_
          refine zJ_istore (ls2 := fun x120 => [(6, .int x120), (11, .int (nI (zho U (i * s)))), (10, .int (nI i)), (8, .long l8), (7, .int b7), (5, .int (nI (mm + 1))), (0, .ref 0), (1, .int (nI p)), (2, .int (nI to)), (3, .int (nI s)), (4, .int (nI wq))]) dX8_one_120 (by decide) (fun _ => rfl) (fun x120 ex120 => ?_)
          obtain rfl : x120 = (nI (zho U (i * s))) := ex120
          refine zJ_aload_n dX8_one_122 rfl ?_
          refine zJ_getr dX8_one_123 fX8_36 (by first | rfl | assumption | exact hBc.1.1 _ (by decide)) rfl (by first | rfl | assumption | exact hBc.1.2 _ _ rfl) ?_
          refine zJ_getr dX8_one_126 fX8_167 (by first | rfl | assumption | exact hBc.1.1 _ (by decide)) rfl (by first | rfl | assumption | exact hBc.1.2 _ _ rfl) ?_
          refine zJ_iload_n dX8_one_129 rfl ?_
          refine zJ_iload dX8_one_130 rfl ?_
          refine zJ_iload_n dX8_one_132 rfl ?_
          refine zJ_imul dX8_one_133 ?_
          rw [na_mul]
          refine zJ_iast dX8_one_134 (by first | rfl | assumption | exact hBc.1.1 _ (by decide)) (vp_in_nI (by omega) (by decide)) ?_
          rw [cp]
          refine zJ_aload_n dX8_one_135 rfl ?_
          refine zJ_iload_n dX8_one_136 rfl ?_
          refine zJ_yV1 dX8_one_137 sX8_226 pX8_226 mfX8_gainAsked GA rfl hk1 rfl ⟨rfl, by simp [zokv, zpush], by simp [lv_args, Value.category, zokv, hk1, zsi]⟩ (Nat.le_of_ble_eq_true rfl) ⟨Nat.le_of_ble_eq_true rfl, Nat.le_of_ble_eq_true rfl⟩ ⟨by show _ ≤ mc; omega, by show _ ≤ ms; omega⟩ (fun r d hP9 => ?_) (fun E d hX => XX E d hX)
          obtain ⟨e1, e2, e3, e4, e5, rfl⟩ := hP9
          refine zJ_lstore (ls2 := fun x140 => [(12, .long x140), (6, .int (nI (zho U (i * s)))), (11, .int (nI (zho U (i * s)))), (10, .int (nI i)), (8, .long l8), (7, .int b7), (5, .int (nI (mm + 1))), (0, .ref 0), (1, .int (nI p)), (2, .int (nI to)), (3, .int (nI s)), (4, .int (nI wq))]) dX8_one_140 (by decide) (fun _ => rfl) (fun x140 ex140 => ?_)
          obtain rfl : x140 = (lZ (zgn U p (i * s))) := ex140
          refine zJ_iload dX8_one_142 rfl ?_
          refine zJ_if_eq (tgt := 155) dX8_one_144 (by decide) (fun h144 => ?_) (fun h9 => absurd hz9 h9)
          refine zJ_lload dX8_one_155 rfl ?_
          refine zJ_lstore (ls2 := fun x157 => [(8, .long x157), (12, .long (lZ (zgn U p (i * s)))), (6, .int (nI (zho U (i * s)))), (11, .int (nI (zho U (i * s)))), (10, .int (nI i)), (7, .int b7), (5, .int (nI (mm + 1))), (0, .ref 0), (1, .int (nI p)), (2, .int (nI to)), (3, .int (nI s)), (4, .int (nI wq))]) dX8_one_157 (by decide) (fun _ => rfl) (fun x157 ex157 => ?_)
          obtain rfl : x157 = (lZ (zgn U p (i * s))) := ex157
          refine zJ_iload dX8_one_159 rfl ?_
          refine zJ_iload_n dX8_one_161 rfl ?_
          refine zJ_imul dX8_one_162 ?_
          rw [na_mul]
          refine zJ_istore (ls2 := fun x163 => [(7, .int x163), (8, .long (lZ (zgn U p (i * s)))), (12, .long (lZ (zgn U p (i * s)))), (6, .int (nI (zho U (i * s)))), (11, .int (nI (zho U (i * s)))), (10, .int (nI i)), (5, .int (nI (mm + 1))), (0, .ref 0), (1, .int (nI p)), (2, .int (nI to)), (3, .int (nI s)), (4, .int (nI wq))]) dX8_one_163 (by decide) (fun _ => rfl) (fun x163 ex163 => ?_)
          obtain rfl : x163 = (nI (i * s)) := ex163
          refine zJ_iinc (ls2 := fun x165 => [(10, .int x165), (7, .int (nI (i * s))), (8, .long (lZ (zgn U p (i * s)))), (12, .long (lZ (zgn U p (i * s)))), (6, .int (nI (zho U (i * s)))), (11, .int (nI (zho U (i * s)))), (5, .int (nI (mm + 1))), (0, .ref 0), (1, .int (nI p)), (2, .int (nI to)), (3, .int (nI s)), (4, .int (nI wq))]) dX8_one_165 rfl (by decide) (fun _ => rfl) (fun x165 ex165 => ?_)
          refine zJ_goto (tgt := 86) dX8_one_168 (by decide) ?_
          refine zJ_ls [(10, .int x165), (8, .long (lZ (zgn U p (i * s)))), (7, .int (nI (i * s))), (6, .int (nI (zho U (i * s)))), (5, .int (nI (mm + 1))), (0, .ref 0), (1, .int (nI p)), (2, .int (nI to)), (3, .int (nI s)), (4, .int (nI wq))] (by simp) ?_
          rw [ex165, show nI i + Int32.ofInt 1 = nI (i + 1) from nI_1 _]
          exact NX d _ _ _ e1 e2 e3 e4 e5 rfl (by rw [h9]; rfl) (by rw [h9]; rfl)
        · have hiz : ¬ nI i = 0 := fun h => absurd ((nI_eq (b := 0) (by omega) (by decide)).mp h) (by omega)
          have hb := zbx_le (fun k => zgn U p (k * s)) (i - 1)
          have hbm : zbx (fun k => zgn U p (k * s)) (i - 1) * s ≤ to := Nat.le_trans (Nat.mul_le_mul_right s (show zbx (fun k => zgn U p (k * s)) (i - 1) ≤ mm by omega)) hms
          have hgb := hgr (zbx (fun k => zgn U p (k * s)) (i - 1) * s) (by omega)
          have hbs : zbx (fun k => zgn U p (k * s)) i = if zgn U p (zbx (fun k => zgn U p (k * s)) (i - 1) * s) < zgn U p (i * s) then i else zbx (fun k => zgn U p (k * s)) (i - 1) := by
            obtain ⟨j, rfl⟩ : ∃ j, i = j + 1 := ⟨i - 1, by omega⟩
            rfl
          by_cases heq : zho U (i * s) = zho U ((i - 1) * s)
          · have hge : zgn U p (i * s) = zgn U p ((i - 1) * s) := (zgn_eq (Nat.mul_le_mul_right s (show i - 1 ≤ i by omega)) heq.symm).symm
            have hmx := zbx_max (fun k => zgn U p (k * s)) (i - 1) (i - 1) (Nat.le_refl _)
            have hbx : zbx (fun k => zgn U p (k * s)) i = zbx (fun k => zgn U p (k * s)) (i - 1) := by
              rw [hbs, if_neg]
              have hmx : zgn U p ((i - 1) * s) ≤ zgn U p (zbx (fun k => zgn U p (k * s)) (i - 1) * s) := hmx
              omega
            have NS9 : zJ Δ mX8_one (zRm 8 mc ms) false w.1 QR QX k n 86 [(10, .int (nI (i + 1))), (8, .long (lZ (zgn U p (zbx (fun k => zgn U p (k * s)) (i - 1) * s)))), (7, .int (nI (zbx (fun k => zgn U p (k * s)) (i - 1) * s))), (6, .int (nI (zho U ((i - 1) * s)))), (5, .int (nI (mm + 1))), (0, .ref 0), (1, .int (nI p)), (2, .int (nI to)), (3, .int (nI s)), (4, .int (nI wq))] [] c := by
              refine ih (i + 1) (by omega) (by omega) c k n T _ _ _ hFc hBc hiT hTk hT1 hTn ?_ (Or.inr ⟨by omega, by rw [Nat.add_sub_cancel, heq], by rw [Nat.add_sub_cancel, hbx], by rw [Nat.add_sub_cancel, hbx], hfit, hlg⟩)
              rcases hH with ⟨h1, h2, h3⟩ | ⟨h1, h2, h3, h4, h5⟩
              · exact Or.inl ⟨h1, by omega, by omega⟩
              · exact Or.inr ⟨h1, h2, h3, by omega, by omega⟩
            refine zJ_iload dX8_one_86 rfl ?_
            refine zJ_iload dX8_one_88 rfl ?_
            refine zJ_icmp_ge (tgt := 171) dX8_one_90 (by decide) (fun h9 => absurd h9 hlt0) (fun h90 => ?_)
            refine zJ_aload_n dX8_one_93 rfl ?_
            refine zJ_getr dX8_one_94 fX8_36 (by first | rfl | assumption | exact hBc.1.1 _ (by decide)) rfl (by first | rfl | assumption | exact hBc.1.2 _ _ rfl) ?_
            refine zJ_iload dX8_one_97 rfl ?_
            refine zJ_iload_n dX8_one_99 rfl ?_
            refine zJ_imul dX8_one_100 ?_
            rw [na_mul]
            refine zJ_cV1 dX8_one_101 sX8_223 mfX5_handsOpenedAt HO (hBc.1.1 14 (by decide)) rfl (Nat.le_of_ble_eq_true rfl) ⟨Nat.le_of_ble_eq_true rfl, Nat.le_of_ble_eq_true rfl⟩ ⟨by show _ ≤ mc; omega, by show _ ≤ ms; omega⟩ ?_
            refine zJ_istore (ls2 := fun x104 => [(11, .int x104), (10, .int (nI i)), (8, .long (lZ (zgn U p (zbx (fun k => zgn U p (k * s)) (i - 1) * s)))), (7, .int (nI (zbx (fun k => zgn U p (k * s)) (i - 1) * s))), (6, .int (nI (zho U ((i - 1) * s)))), (5, .int (nI (mm + 1))), (0, .ref 0), (1, .int (nI p)), (2, .int (nI to)), (3, .int (nI s)), (4, .int (nI wq))]) dX8_one_104 (by decide) (fun _ => rfl) (fun x104 ex104 => ?_)
            obtain rfl : x104 = (nI (zho U (i * s))) := ex104
            refine zJ_iload dX8_one_106 rfl ?_
            refine zJ_if_eq (tgt := 118) dX8_one_108 (by decide) (fun h9 => absurd h9 hiz) (fun h108 => ?_)
            refine zJ_iload dX8_one_111 rfl ?_
            refine zJ_iload dX8_one_113 rfl ?_
            refine zJ_icmp_eq (tgt := 165) dX8_one_115 (by decide) (fun h115 => ?_) (fun h9 => absurd (congrArg nI heq) h9)
            refine zJ_iinc (ls2 := fun x165 => [(10, .int x165), (11, .int (nI (zho U (i * s)))), (8, .long (lZ (zgn U p (zbx (fun k => zgn U p (k * s)) (i - 1) * s)))), (7, .int (nI (zbx (fun k => zgn U p (k * s)) (i - 1) * s))), (6, .int (nI (zho U ((i - 1) * s)))), (5, .int (nI (mm + 1))), (0, .ref 0), (1, .int (nI p)), (2, .int (nI to)), (3, .int (nI s)), (4, .int (nI wq))]) dX8_one_165 rfl (by decide) (fun _ => rfl) (fun x165 ex165 => ?_)
            refine zJ_goto (tgt := 86) dX8_one_168 (by decide) ?_
            refine zJ_ls [(10, .int x165), (8, .long (lZ (zgn U p (zbx (fun k => zgn U p (k * s)) (i - 1) * s)))), (7, .int (nI (zbx (fun k => zgn U p (k * s)) (i - 1) * s))), (6, .int (nI (zho U ((i - 1) * s)))), (5, .int (nI (mm + 1))), (0, .ref 0), (1, .int (nI p)), (2, .int (nI to)), (3, .int (nI s)), (4, .int (nI wq))] (by simp) ?_
            rw [ex165, show nI i + Int32.ofInt 1 = nI (i + 1) from nI_1 _]
            exact NS9
          · have hne : ¬ nI (zho U (i * s)) = nI (zho U ((i - 1) * s)) := fun h => by
              have hzl2 : zho U ((i - 1) * s) ≤ 12 := by
                have : ∀ (f : Nat → Bool) n, zcnt f n ≤ n := fun f n => by
                  induction n with
                  | zero => exact Nat.le_refl _
                  | succ n ih => simp only [zcnt]; split <;> omega
                have := this (fun h => decide ((i - 1) * s ≤ zfl U (h + 1))) (U.1 7)
                simp only [zho]; omega
              exact heq ((nI_eq (by omega) (by omega)).mp h)
            by_cases hlt : zgn U p (zbx (fun k => zgn U p (k * s)) (i - 1) * s) < zgn U p (i * s)
            · have hbx : zbx (fun k => zgn U p (k * s)) i = i := by rw [hbs, if_pos hlt]
              have hcm : ¬ lZ (zgn U p (i * s)) ≤ (lZ (zgn U p (zbx (fun k => zgn U p (k * s)) (i - 1) * s))) := fun h => absurd ((lZ_le (by omega) (by omega) (by omega) (by omega)).mp h) (by omega)
              refine zJ_iload dX8_one_86 rfl ?_
              refine zJ_iload dX8_one_88 rfl ?_
              refine zJ_icmp_ge (tgt := 171) dX8_one_90 (by decide) (fun h9 => absurd h9 hlt0) (fun h90 => ?_)
              refine zJ_aload_n dX8_one_93 rfl ?_
              refine zJ_getr dX8_one_94 fX8_36 (by first | rfl | assumption | exact hBc.1.1 _ (by decide)) rfl (by first | rfl | assumption | exact hBc.1.2 _ _ rfl) ?_
              refine zJ_iload dX8_one_97 rfl ?_
              refine zJ_iload_n dX8_one_99 rfl ?_
              refine zJ_imul dX8_one_100 ?_
              rw [na_mul]
              refine zJ_cV1 dX8_one_101 sX8_223 mfX5_handsOpenedAt HO (hBc.1.1 14 (by decide)) rfl (Nat.le_of_ble_eq_true rfl) ⟨Nat.le_of_ble_eq_true rfl, Nat.le_of_ble_eq_true rfl⟩ ⟨by show _ ≤ mc; omega, by show _ ≤ ms; omega⟩ ?_
              refine zJ_istore (ls2 := fun x104 => [(11, .int x104), (10, .int (nI i)), (8, .long (lZ (zgn U p (zbx (fun k => zgn U p (k * s)) (i - 1) * s)))), (7, .int (nI (zbx (fun k => zgn U p (k * s)) (i - 1) * s))), (6, .int (nI (zho U ((i - 1) * s)))), (5, .int (nI (mm + 1))), (0, .ref 0), (1, .int (nI p)), (2, .int (nI to)), (3, .int (nI s)), (4, .int (nI wq))]) dX8_one_104 (by decide) (fun _ => rfl) (fun x104 ex104 => ?_)
              obtain rfl : x104 = (nI (zho U (i * s))) := ex104
              refine zJ_iload dX8_one_106 rfl ?_
              refine zJ_if_eq (tgt := 118) dX8_one_108 (by decide) (fun h9 => absurd h9 hiz) (fun h108 => ?_)
              refine zJ_iload dX8_one_111 rfl ?_
              refine zJ_iload dX8_one_113 rfl ?_
              refine zJ_icmp_eq (tgt := 165) dX8_one_115 (by decide) (fun h9 => absurd h9 hne) (fun h115 => ?_)
              refine zJ_iload dX8_one_118 rfl ?_
              refine zJ_istore (ls2 := fun x120 => [(6, .int x120), (11, .int (nI (zho U (i * s)))), (10, .int (nI i)), (8, .long (lZ (zgn U p (zbx (fun k => zgn U p (k * s)) (i - 1) * s)))), (7, .int (nI (zbx (fun k => zgn U p (k * s)) (i - 1) * s))), (5, .int (nI (mm + 1))), (0, .ref 0), (1, .int (nI p)), (2, .int (nI to)), (3, .int (nI s)), (4, .int (nI wq))]) dX8_one_120 (by decide) (fun _ => rfl) (fun x120 ex120 => ?_)
              obtain rfl : x120 = (nI (zho U (i * s))) := ex120
              refine zJ_aload_n dX8_one_122 rfl ?_
              refine zJ_getr dX8_one_123 fX8_36 (by first | rfl | assumption | exact hBc.1.1 _ (by decide)) rfl (by first | rfl | assumption | exact hBc.1.2 _ _ rfl) ?_
              refine zJ_getr dX8_one_126 fX8_167 (by first | rfl | assumption | exact hBc.1.1 _ (by decide)) rfl (by first | rfl | assumption | exact hBc.1.2 _ _ rfl) ?_
              refine zJ_iload_n dX8_one_129 rfl ?_
              refine zJ_iload dX8_one_130 rfl ?_
              refine zJ_iload_n dX8_one_132 rfl ?_
              refine zJ_imul dX8_one_133 ?_
              rw [na_mul]
              refine zJ_iast dX8_one_134 (by first | rfl | assumption | exact hBc.1.1 _ (by decide)) (vp_in_nI (by omega) (by decide)) ?_
              rw [cp]
              refine zJ_aload_n dX8_one_135 rfl ?_
              refine zJ_iload_n dX8_one_136 rfl ?_
              refine zJ_yV1 dX8_one_137 sX8_226 pX8_226 mfX8_gainAsked GA rfl hk1 rfl ⟨rfl, by simp [zokv, zpush], by simp [lv_args, Value.category, zokv, hk1, zsi]⟩ (Nat.le_of_ble_eq_true rfl) ⟨Nat.le_of_ble_eq_true rfl, Nat.le_of_ble_eq_true rfl⟩ ⟨by show _ ≤ mc; omega, by show _ ≤ ms; omega⟩ (fun r d hP9 => ?_) (fun E d hX => XX E d hX)
              obtain ⟨e1, e2, e3, e4, e5, rfl⟩ := hP9
              refine zJ_lstore (ls2 := fun x140 => [(12, .long x140), (6, .int (nI (zho U (i * s)))), (11, .int (nI (zho U (i * s)))), (10, .int (nI i)), (8, .long (lZ (zgn U p (zbx (fun k => zgn U p (k * s)) (i - 1) * s)))), (7, .int (nI (zbx (fun k => zgn U p (k * s)) (i - 1) * s))), (5, .int (nI (mm + 1))), (0, .ref 0), (1, .int (nI p)), (2, .int (nI to)), (3, .int (nI s)), (4, .int (nI wq))]) dX8_one_140 (by decide) (fun _ => rfl) (fun x140 ex140 => ?_)
              obtain rfl : x140 = (lZ (zgn U p (i * s))) := ex140
              refine zJ_iload dX8_one_142 rfl ?_
              refine zJ_if_eq (tgt := 155) dX8_one_144 (by decide) (fun h9 => absurd h9 hiz) (fun h144 => ?_)
              refine zJ_lload dX8_one_147 rfl ?_
              refine zJ_lload dX8_one_149 rfl ?_
              refine zJ_lc_le (tgt := 165) dX8_one_151 dX8_one_152 (by decide) (fun h9 => absurd h9 hcm) (fun h152 => ?_)
              refine zJ_lload dX8_one_155 rfl ?_
              refine zJ_lstore (ls2 := fun x157 => [(8, .long x157), (12, .long (lZ (zgn U p (i * s)))), (6, .int (nI (zho U (i * s)))), (11, .int (nI (zho U (i * s)))), (10, .int (nI i)), (7, .int (nI (zbx (fun k => zgn U p (k * s)) (i - 1) * s))), (5, .int (nI (mm + 1))), (0, .ref 0), (1, .int (nI p)), (2, .int (nI to)), (3, .int (nI s)), (4, .int (nI wq))]) dX8_one_157 (by decide) (fun _ => rfl) (fun x157 ex157 => ?_)
              obtain rfl : x157 = (lZ (zgn U p (i * s))) := ex157
              refine zJ_iload dX8_one_159 rfl ?_
              refine zJ_iload_n dX8_one_161 rfl ?_
              refine zJ_imul dX8_one_162 ?_
              rw [na_mul]
              refine zJ_istore (ls2 := fun x163 => [(7, .int x163), (8, .long (lZ (zgn U p (i * s)))), (12, .long (lZ (zgn U p (i * s)))), (6, .int (nI (zho U (i * s)))), (11, .int (nI (zho U (i * s)))), (10, .int (nI i)), (5, .int (nI (mm + 1))), (0, .ref 0), (1, .int (nI p)), (2, .int (nI to)), (3, .int (nI s)), (4, .int (nI wq))]) dX8_one_163 (by decide) (fun _ => rfl) (fun x163 ex163 => ?_)
              obtain rfl : x163 = (nI (i * s)) := ex163
              refine zJ_iinc (ls2 := fun x165 => [(10, .int x165), (7, .int (nI (i * s))), (8, .long (lZ (zgn U p (i * s)))), (12, .long (lZ (zgn U p (i * s)))), (6, .int (nI (zho U (i * s)))), (11, .int (nI (zho U (i * s)))), (5, .int (nI (mm + 1))), (0, .ref 0), (1, .int (nI p)), (2, .int (nI to)), (3, .int (nI s)), (4, .int (nI wq))]) dX8_one_165 rfl (by decide) (fun _ => rfl) (fun x165 ex165 => ?_)
              refine zJ_goto (tgt := 86) dX8_one_168 (by decide) ?_
              refine zJ_ls [(10, .int x165), (8, .long (lZ (zgn U p (i * s)))), (7, .int (nI (i * s))), (6, .int (nI (zho U (i * s)))), (5, .int (nI (mm + 1))), (0, .ref 0), (1, .int (nI p)), (2, .int (nI to)), (3, .int (nI s)), (4, .int (nI wq))] (by simp) ?_
              rw [ex165, show nI i + Int32.ofInt 1 = nI (i + 1) from nI_1 _]
              exact NX d _ _ _ e1 e2 e3 e4 e5 rfl (by rw [hbx]) (by rw [hbx])
            · have hbx : zbx (fun k => zgn U p (k * s)) i = zbx (fun k => zgn U p (k * s)) (i - 1) := by rw [hbs, if_neg hlt]
              have hcm : lZ (zgn U p (i * s)) ≤ (lZ (zgn U p (zbx (fun k => zgn U p (k * s)) (i - 1) * s))) := (lZ_le (by omega) (by omega) (by omega) (by omega)).mpr (by omega)
              refine zJ_iload dX8_one_86 rfl ?_
              refine zJ_iload dX8_one_88 rfl ?_
              refine zJ_icmp_ge (tgt := 171) dX8_one_90 (by decide) (fun h9 => absurd h9 hlt0) (fun h90 => ?_)
              refine zJ_aload_n dX8_one_93 rfl ?_
              refine zJ_getr dX8_one_94 fX8_36 (by first | rfl | assumption | exact hBc.1.1 _ (by decide)) rfl (by first | rfl | assumption | exact hBc.1.2 _ _ rfl) ?_
              refine zJ_iload dX8_one_97 rfl ?_
              refine zJ_iload_n dX8_one_99 rfl ?_
              refine zJ_imul dX8_one_100 ?_
              rw [na_mul]
              refine zJ_cV1 dX8_one_101 sX8_223 mfX5_handsOpenedAt HO (hBc.1.1 14 (by decide)) rfl (Nat.le_of_ble_eq_true rfl) ⟨Nat.le_of_ble_eq_true rfl, Nat.le_of_ble_eq_true rfl⟩ ⟨by show _ ≤ mc; omega, by show _ ≤ ms; omega⟩ ?_
              refine zJ_istore (ls2 := fun x104 => [(11, .int x104), (10, .int (nI i)), (8, .long (lZ (zgn U p (zbx (fun k => zgn U p (k * s)) (i - 1) * s)))), (7, .int (nI (zbx (fun k => zgn U p (k * s)) (i - 1) * s))), (6, .int (nI (zho U ((i - 1) * s)))), (5, .int (nI (mm + 1))), (0, .ref 0), (1, .int (nI p)), (2, .int (nI to)), (3, .int (nI s)), (4, .int (nI wq))]) dX8_one_104 (by decide) (fun _ => rfl) (fun x104 ex104 => ?_)
              obtain rfl : x104 = (nI (zho U (i * s))) := ex104
              refine zJ_iload dX8_one_106 rfl ?_
              refine zJ_if_eq (tgt := 118) dX8_one_108 (by decide) (fun h9 => absurd h9 hiz) (fun h108 => ?_)
              refine zJ_iload dX8_one_111 rfl ?_
              refine zJ_iload dX8_one_113 rfl ?_
              refine zJ_icmp_eq (tgt := 165) dX8_one_115 (by decide) (fun h9 => absurd h9 hne) (fun h115 => ?_)
              refine zJ_iload dX8_one_118 rfl ?_
              refine zJ_istore (ls2 := fun x120 => [(6, .int x120), (11, .int (nI (zho U (i * s)))), (10, .int (nI i)), (8, .long (lZ (zgn U p (zbx (fun k => zgn U p (k * s)) (i - 1) * s)))), (7, .int (nI (zbx (fun k => zgn U p (k * s)) (i - 1) * s))), (5, .int (nI (mm + 1))), (0, .ref 0), (1, .int (nI p)), (2, .int (nI to)), (3, .int (nI s)), (4, .int (nI wq))]) dX8_one_120 (by decide) (fun _ => rfl) (fun x120 ex120 => ?_)
              obtain rfl : x120 = (nI (zho U (i * s))) := ex120
              refine zJ_aload_n dX8_one_122 rfl ?_
              refine zJ_getr dX8_one_123 fX8_36 (by first | rfl | assumption | exact hBc.1.1 _ (by decide)) rfl (by first | rfl | assumption | exact hBc.1.2 _ _ rfl) ?_
              refine zJ_getr dX8_one_126 fX8_167 (by first | rfl | assumption | exact hBc.1.1 _ (by decide)) rfl (by first | rfl | assumption | exact hBc.1.2 _ _ rfl) ?_
              refine zJ_iload_n dX8_one_129 rfl ?_
              refine zJ_iload dX8_one_130 rfl ?_
              refine zJ_iload_n dX8_one_132 rfl ?_
              refine zJ_imul dX8_one_133 ?_
              rw [na_mul]
              refine zJ_iast dX8_one_134 (by first | rfl | assumption | exact hBc.1.1 _ (by decide)) (vp_in_nI (by omega) (by decide)) ?_
              rw [cp]
              refine zJ_aload_n dX8_one_135 rfl ?_
              refine zJ_iload_n dX8_one_136 rfl ?_
              refine zJ_yV1 dX8_one_137 sX8_226 pX8_226 mfX8_gainAsked GA rfl hk1 rfl ⟨rfl, by simp [zokv, zpush], by simp [lv_args, Value.category, zokv, hk1, zsi]⟩ (Nat.le_of_ble_eq_true rfl) ⟨Nat.le_of_ble_eq_true rfl, Nat.le_of_ble_eq_true rfl⟩ ⟨by show _ ≤ mc; omega, by show _ ≤ ms; omega⟩ (fun r d hP9 => ?_) (fun E d hX => XX E d hX)
              obtain ⟨e1, e2, e3, e4, e5, rfl⟩ := hP9
              refine zJ_lstore (ls2 := fun x140 => [(12, .long x140), (6, .int (nI (zho U (i * s)))), (11, .int (nI (zho U (i * s)))), (10, .int (nI i)), (8, .long (lZ (zgn U p (zbx (fun k => zgn U p (k * s)) (i - 1) * s)))), (7, .int (nI (zbx (fun k => zgn U p (k * s)) (i - 1) * s))), (5, .int (nI (mm + 1))), (0, .ref 0), (1, .int (nI p)), (2, .int (nI to)), (3, .int (nI s)), (4, .int (nI wq))]) dX8_one_140 (by decide) (fun _ => rfl) (fun x140 ex140 => ?_)
              obtain rfl : x140 = (lZ (zgn U p (i * s))) := ex140
              refine zJ_iload dX8_one_142 rfl ?_
              refine zJ_if_eq (tgt := 155) dX8_one_144 (by decide) (fun h9 => absurd h9 hiz) (fun h144 => ?_)
              refine zJ_lload dX8_one_147 rfl ?_
              refine zJ_lload dX8_one_149 rfl ?_
              refine zJ_lc_le (tgt := 165) dX8_one_151 dX8_one_152 (by decide) (fun h152 => ?_) (fun h9 => absurd hcm h9)
              refine zJ_iinc (ls2 := fun x165 => [(10, .int x165), (12, .long (lZ (zgn U p (i * s)))), (6, .int (nI (zho U (i * s)))), (11, .int (nI (zho U (i * s)))), (8, .long (lZ (zgn U p (zbx (fun k => zgn U p (k * s)) (i - 1) * s)))), (7, .int (nI (zbx (fun k => zgn U p (k * s)) (i - 1) * s))), (5, .int (nI (mm + 1))), (0, .ref 0), (1, .int (nI p)), (2, .int (nI to)), (3, .int (nI s)), (4, .int (nI wq))]) dX8_one_165 rfl (by decide) (fun _ => rfl) (fun x165 ex165 => ?_)
              refine zJ_goto (tgt := 86) dX8_one_168 (by decide) ?_
              refine zJ_ls [(10, .int x165), (8, .long (lZ (zgn U p (zbx (fun k => zgn U p (k * s)) (i - 1) * s)))), (7, .int (nI (zbx (fun k => zgn U p (k * s)) (i - 1) * s))), (6, .int (nI (zho U (i * s)))), (5, .int (nI (mm + 1))), (0, .ref 0), (1, .int (nI p)), (2, .int (nI to)), (3, .int (nI s)), (4, .int (nI wq))] (by simp) ?_
              rw [ex165, show nI i + Int32.ofInt 1 = nI (i + 1) from nI_1 _]
              exact NX d _ _ _ e1 e2 e3 e4 e5 rfl (by rw [hbx]) (by rw [hbx])
    refine zJ_iload_n dX8_one_12 rfl ?_
    refine zJ_if_lt (tgt := 36) dX8_one_13 (by decide) (fun h9 => absurd h9 (fun h => absurd h (Int32.not_lt.mpr ((nI_leI (a := 0) (by decide) (by omega)).mpr (Nat.zero_le _))))) (fun h13w => ?_)
    refine zJ_iload_n dX8_one_16 rfl ?_
    refine zJ_sipush (v := 9999) dX8_one_17 (by decide) ?_
    refine zJ_icmp_gt (tgt := 36) dX8_one_20 (by decide) (fun h9 => absurd h9 (fun h => absurd ((nI_ltI (a := 9999) (by decide) (by omega)).mp h) (by omega))) (fun h20w => ?_)
    refine zJ_iload_n dX8_one_23 rfl ?_
    refine zJ_iconst (v := 1) dX8_one_24 (by decide) ?_
    refine zJ_icmp_lt (tgt := 36) dX8_one_25 (by decide) (fun h9 => absurd h9 (fun h => absurd ((nI_ltI (b := 1) (by omega) (by decide)).mp h) (by omega))) (fun h25w => ?_)
    refine zJ_iload_n dX8_one_28 rfl ?_
    refine zJ_iload_n dX8_one_29 rfl ?_
    refine zJ_idiv dX8_one_30 hsn ?_
    rw [hdv]
    refine zJ_bipush (v := 60) dX8_one_31 (by decide) ?_
    refine zJ_icmp_lt (tgt := 46) dX8_one_33 (by decide) (fun h33w => ?_) (fun h9 => absurd ((nI_ltI (b := 60) (by omega) (by decide)).mpr h60) h9)
    refine zJ_aload_n dX8_one_46 rfl ?_
    refine zJ_getr dX8_one_47 fX8_36 (by first | rfl | assumption | exact hC.1 _ (by decide) | exact hAs.2.2.1.1.1 _ (by decide) | exact (zfin hAs hFa hf hO2 hx hR).2.1.1 _ (by decide)) rfl (by first | rfl | assumption | exact hC.2 _ _ rfl | exact hAs.2.2.1.1.2 _ _ rfl | exact (zfin hAs hFa hf hO2 hx hR).2.1.2 _ _ rfl) ?_
    refine zJ_aload_n dX8_one_50 rfl ?_
    refine zJ_getr dX8_one_51 fX8_32 (by first | rfl | assumption | exact hC.1 _ (by decide) | exact hAs.2.2.1.1.1 _ (by decide) | exact (zfin hAs hFa hf hO2 hx hR).2.1.1 _ (by decide)) rfl (by first | rfl | assumption | exact hC.2 _ _ rfl | exact hAs.2.2.1.1.2 _ _ rfl | exact (zfin hAs hFa hf hO2 hx hR).2.1.2 _ _ rfl) ?_
    refine zJ_cV1 dX8_one_54 sX8_110 mfX5_copy (c_Town_copy Δ w 14 9 (zTn14 hC) hB.2.1.1 (by decide)) (hC.1 14 (by decide)) rfl (Nat.le_of_ble_eq_true rfl) ⟨Nat.le_of_ble_eq_true rfl, Nat.le_of_ble_eq_true rfl⟩ ⟨by show _ ≤ mc; omega, by show _ ≤ ms; omega⟩ ?_
    refine zJ_aload_n dX8_one_57 rfl ?_
    refine zJ_getr dX8_one_58 fX8_36 (by first | rfl | assumption | exact hC.1 _ (by decide) | exact hAs.2.2.1.1.1 _ (by decide) | exact (zfin hAs hFa hf hO2 hx hR).2.1.1 _ (by decide)) rfl (by first | rfl | assumption | exact hC.2 _ _ rfl | exact hAs.2.2.1.1.2 _ _ rfl | exact (zfin hAs hFa hf hO2 hx hR).2.1.2 _ _ rfl) ?_
    refine zJ_getr dX8_one_61 fX8_164 (by first | rfl | assumption | exact hC.1 _ (by decide) | exact hAs.2.2.1.1.1 _ (by decide) | exact (zfin hAs hFa hf hO2 hx hR).2.1.1 _ (by decide)) rfl (by first | rfl | assumption | exact hC.2 _ _ rfl | exact hAs.2.2.1.1.2 _ _ rfl | exact (zfin hAs hFa hf hO2 hx hR).2.1.2 _ _ rfl) ?_
    refine zJ_iload_n dX8_one_64 rfl ?_
    refine zJ_iconst (v := 0) dX8_one_65 (by decide) ?_
    refine zJ_iast dX8_one_66 (by first | rfl | assumption | exact hC.1 _ (by decide) | exact hAs.2.2.1.1.1 _ (by decide) | exact (zfin hAs hFa hf hO2 hx hR).2.1.1 _ (by decide)) (vp_in_nI (by omega) (by decide)) ?_
    rw [cp]
    refine zJ_iload_n dX8_one_67 rfl ?_
    refine zJ_iload_n dX8_one_68 rfl ?_
    refine zJ_idiv dX8_one_69 hsn ?_
    rw [hdv]
    refine zJ_iconst (v := 1) dX8_one_70 (by decide) ?_
    refine zJ_iadd dX8_one_71 ?_
    rw [show nI mm + 1 = nI (mm + 1) from nI_1 _]
    refine zJ_istore (ls2 := fun x72w => [(5, .int x72w), (0, .ref 0), (1, .int (nI p)), (2, .int (nI to)), (3, .int (nI s)), (4, .int (nI wq))]) dX8_one_72 (by decide) (fun _ => rfl) (fun x72w ex72w => ?_)
    obtain rfl : x72w = (nI (mm + 1)) := ex72w
    refine zJ_iconst (v := (-1)) dX8_one_74 (by decide) ?_
    refine zJ_istore (ls2 := fun x75w => [(6, .int x75w), (5, .int (nI (mm + 1))), (0, .ref 0), (1, .int (nI p)), (2, .int (nI to)), (3, .int (nI s)), (4, .int (nI wq))]) dX8_one_75 (by decide) (fun _ => rfl) (fun x75w ex75w => ?_)
    obtain rfl : x75w = (-1) := ex75w
    refine zJ_iconst (v := 0) dX8_one_77 (by decide) ?_
    refine zJ_istore (ls2 := fun x78w => [(7, .int x78w), (6, .int (-1)), (5, .int (nI (mm + 1))), (0, .ref 0), (1, .int (nI p)), (2, .int (nI to)), (3, .int (nI s)), (4, .int (nI wq))]) dX8_one_78 (by decide) (fun _ => rfl) (fun x78w ex78w => ?_)
    obtain rfl : x78w = 0 := ex78w
    refine zJ_lconst (v := 0) dX8_one_80 (by decide) ?_
    refine zJ_lstore (ls2 := fun x81w => [(8, .long x81w), (7, .int 0), (6, .int (-1)), (5, .int (nI (mm + 1))), (0, .ref 0), (1, .int (nI p)), (2, .int (nI to)), (3, .int (nI s)), (4, .int (nI wq))]) dX8_one_81 (by decide) (fun _ => rfl) (fun x81w ex81w => ?_)
    obtain rfl : x81w = 0 := ex81w
    refine zJ_iconst (v := 0) dX8_one_83 (by decide) ?_
    refine zJ_istore (ls2 := fun x84w => [(10, .int x84w), (8, .long 0), (7, .int 0), (6, .int (-1)), (5, .int (nI (mm + 1))), (0, .ref 0), (1, .int (nI p)), (2, .int (nI to)), (3, .int (nI s)), (4, .int (nI wq))]) dX8_one_84 (by decide) (fun _ => rfl) (fun x84w ex84w => ?_)
    obtain rfl : x84w = (nI 0) := ex84w
    refine zJ_ls [(10, .int (nI 0)), (8, .long 0), (7, .int 0), (6, .int (-1)), (5, .int (nI (mm + 1))), (0, .ref 0), (1, .int (nI p)), (2, .int (nI to)), (3, .int (nI s)), (4, .int (nI wq))] (by simp) ?_
    have hA2 := ((zAs.copy hB).sort (p := p) (s := 0))
    exact L 0 (Nat.zero_le _) _ _ _ (zTq U p 0) _ _ _ hA2.1 hA2.2.2.1 hA2.2.2.2 (hU.q0 hp) rfl (fun v => rfl) (Or.inl ⟨hA2.2.1, by omega, by omega⟩) (Or.inl rfl)
  · skip
    refine zJ_iload_n dX8_one_12 rfl ?_
    refine zJ_if_lt (tgt := 36) dX8_one_13 (by decide) (fun h13v => ?_) (fun h13v => ?_)
    · exact zJ_throwI (text := "numbers not as told") (j := 20) dX8_one_36 dX8_one_39 dX8_one_40 dX8_one_42 dX8_one_45 rfl rfl (by decide +kernel) (Nat.le_of_ble_eq_true rfl) (Nat.le_of_ble_eq_true rfl) (by show _ ≤ mc; omega) (by show _ ≤ ms; omega) (hX0 _ _ (Or.inr (Or.inl ⟨⟨⟨p, hp, rfl⟩, wq, hwq, rfl⟩, rfl, rfl, hok2⟩)))
    · refine zJ_iload_n dX8_one_16 rfl ?_
      refine zJ_sipush (v := 9999) dX8_one_17 (by decide) ?_
      refine zJ_icmp_gt (tgt := 36) dX8_one_20 (by decide) (fun h20v => ?_) (fun h20v => ?_)
      · exact zJ_throwI (text := "numbers not as told") (j := 20) dX8_one_36 dX8_one_39 dX8_one_40 dX8_one_42 dX8_one_45 rfl rfl (by decide +kernel) (Nat.le_of_ble_eq_true rfl) (Nat.le_of_ble_eq_true rfl) (by show _ ≤ mc; omega) (by show _ ≤ ms; omega) (hX0 _ _ (Or.inr (Or.inl ⟨⟨⟨p, hp, rfl⟩, wq, hwq, rfl⟩, rfl, rfl, hok2⟩)))
      · refine zJ_iload_n dX8_one_23 rfl ?_
        refine zJ_iconst (v := 1) dX8_one_24 (by decide) ?_
        refine zJ_icmp_lt (tgt := 36) dX8_one_25 (by decide) (fun h25v => ?_) (fun h25v => ?_)
        · exact zJ_throwI (text := "numbers not as told") (j := 20) dX8_one_36 dX8_one_39 dX8_one_40 dX8_one_42 dX8_one_45 rfl rfl (by decide +kernel) (Nat.le_of_ble_eq_true rfl) (Nat.le_of_ble_eq_true rfl) (by show _ ≤ mc; omega) (by show _ ≤ ms; omega) (hX0 _ _ (Or.inr (Or.inl ⟨⟨⟨p, hp, rfl⟩, wq, hwq, rfl⟩, rfl, rfl, hok2⟩)))
        · refine zJ_iload_n dX8_one_28 rfl ?_
          refine zJ_iload_n dX8_one_29 rfl ?_
          refine zJ_idiv dX8_one_30 (fun h => h25v (by rw [h]; decide)) ?_
          refine zJ_bipush (v := 60) dX8_one_31 (by decide) ?_
          refine zJ_icmp_lt (tgt := 46) dX8_one_33 (by decide) (fun h33v => ?_) (fun h33v => ?_)
          · obtain ⟨to, hto31, rfl⟩ := nI_of h13v
            obtain ⟨s, hs31, rfl⟩ := nI_of (fun h => h25v (Int32.lt_trans h (by decide)))
            rw [nI_div hto31 hs31] at h33v
            have hd31 : to / s < 2 ^ 31 := Nat.lt_of_le_of_lt (Nat.div_le_self to s) hto31
            exact absurd ⟨to, s, (nI_leI (b := 9999) (by omega) (by decide)).mp (Int32.not_lt.mp h20v), rfl, ⟨(nI_leI (a := 1) (by decide) (by omega)).mp (Int32.not_lt.mp h25v), hs31⟩, rfl, (nI_ltI (b := 60) hd31 (by decide)).mp h33v⟩ hok2
          · exact zJ_throwI (text := "numbers not as told") (j := 20) dX8_one_36 dX8_one_39 dX8_one_40 dX8_one_42 dX8_one_45 rfl rfl (by decide +kernel) (Nat.le_of_ble_eq_true rfl) (Nat.le_of_ble_eq_true rfl) (by show _ ≤ mc; omega) (by show _ ≤ ms; omega) (hX0 _ _ (Or.inr (Or.inl ⟨⟨⟨p, hp, rfl⟩, wq, hwq, rfl⟩, rfl, rfl, hok2⟩)))
