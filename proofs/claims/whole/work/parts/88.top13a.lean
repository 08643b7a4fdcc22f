/-! LetterTown: two -/
def zFs (w d : zW) : Prop := ∃ f, zFb (zrol w 51 f) d
theorem zFb.s {w d : zW} (h : zFb w d) : zFs w d := ⟨w.2.2.1 51, by rw [zrol_self]; exact h⟩
theorem zFs.tr {w c d : zW} (h1 : zFs w c) (h2 : zFb c d) : zFs w d := by obtain ⟨f, h⟩ := h1; exact ⟨f, h.tr h2⟩
theorem zFb.rol {w e : zW} (h : zFb w e) (f : Nat → Int64) : zFs w (zrol e 51 f) := by
  refine ⟨f, fun a ha => h.1 a ha, fun a j ha => ⟨(h.2.1 a j ha).1, ?_⟩, fun a j h1 h2 => h.2.2 a j h1 h2⟩
  simp only [zrol]
  by_cases h51 : a = 51
  · simp [h51]
  · simp only [h51, if_false]; exact (h.2.1 a j ha).2
theorem zB.rol {e : zW} {U : zTo} (h : zB e U) (f : Nat → Int64) : zB (zrol e 51 f) U := h.out rfl rfl (fun a j ha => ⟨rfl, by simp only [zrol]; rw [if_neg (by omega)]⟩)
def zen (U : zTo) (p : Nat) (K : List zKy) (k : Nat) : Nat := zcas (zTs U 12 p) K (k * 12 + (U.1 7 - 1))
/-- the large Play is made -/
def ztwB (U : zTo) (p q : Nat) : Prop := ¬ zfit (zTs U 12 p) 640 ∨ ∃ K, zall (zTs U 12 p) K ∧ ∃ k, k < U.1 0 ∧ 0 < zen U p K k ∧ ¬ k = q ∧ ¬ zfit (zTw2 U q k) 640
def ztwR (U : zTo) (p q : Nat) (r : Option Value) : Prop := ∃ K, zall (zTs U 12 p) K ∧ K.length ≤ 20000 ∧ (∀ k, k < U.1 0 → 0 < zen U p K k → ¬ k = q → zfit (zTw2 U q k) 20000) ∧ r = some (.int (lN (ztw U (zen U p K) q (U.1 0))).toInt32)
def ztwX (U : zTo) (p q : Nat) : Prop := ¬ zfit (zTs U 12 p) 20000 ∨ ∃ K, zall (zTs U 12 p) K ∧ K.length ≤ 20000 ∧ ∃ k, k < U.1 0 ∧ 0 < zen U p K k ∧ ¬ k = q ∧ ¬ zfit (zTw2 U q k) 20000
theorem ztw_ext {U : zTo} {en : Nat → Nat} {q : Nat} (h : ∀ k, U.1 0 ≤ k → k < 8 → en k = 0) : ∀ d, U.1 0 + d ≤ 8 → ztw U en q (U.1 0 + d) = ztw U en q (U.1 0)
  | 0, _ => rfl
  | d + 1, hd => by
    rw [show U.1 0 + (d + 1) = (U.1 0 + d) + 1 by omega]
    simp only [ztw]
    rw [if_neg (by rw [h (U.1 0 + d) (by omega) (by omega)]; simp), ztw_ext h d (by omega)]
theorem ztw_le8 {U : zTo} (h : zTok U) {en : Nat → Nat} {q : Nat} (hq : q < U.1 0) (he : ∀ k, k < 8 → en k ≤ 1000000000) : ∀ j, j ≤ 8 → ztw U en q j ≤ j * 1000000000
  | 0, _ => Nat.zero_le _
  | j + 1, hj => by
    have ih := ztw_le8 h hq he j (by omega)
    simp only [ztw]
    split
    · have h1 := he j (by omega)
      have h2 := (zvl_rng (h.w2 hq (show j < 8 by omega)) (zkok.fk (h.w2 hq (show j < 8 by omega)))).1
      have h3 := Nat.mul_le_mul h1 h2
      omega
    · exact Nat.le_trans ih (Nat.mul_le_mul_right _ (Nat.le_succ j))
theorem zHk.up {w c : zW} {b : Prop} {i j k n : Nat} (h : zHk w c b i k n) (hij : i ≤ j) : zHk w c b j k n := by
  rcases h with ⟨h1, h2, h3⟩ | ⟨h1, h2, h3, h4, h5⟩
  · exact Or.inl ⟨h1, by omega, by omega⟩
  · exact Or.inr ⟨h1, h2, h3, by omega, by omega⟩
set_option maxRecDepth 100000 in
theorem c_two (Δ : zD) (w : zW) (U : zTo) (hB : zB w U) (x y : Int32) (mc ms : Nat) (hm : zRo w (∃ p q, p < U.1 0 ∧ x = nI p ∧ q < U.1 0 ∧ y = nI q ∧ ztwB U p q) mc ms) : zM Δ 8 mc ms false yX8_two mX8_two [.ref 0, .int x, .int y] w (fun r d => zFs w d ∧ zB d U ∧ zLw w d (∃ p q, p < U.1 0 ∧ x = nI p ∧ q < U.1 0 ∧ y = nI q ∧ ztwB U p q) ∧ ∃ p q, p < U.1 0 ∧ x = nI p ∧ q < U.1 0 ∧ y = nI q ∧ ztwR U p q r) (fun E d => (E = zNS ∧ d = w ∧ ¬ ((∃ p, p < U.1 0 ∧ x = nI p) ∧ ∃ q, q < U.1 0 ∧ y = nI q)) ∨ (∃ p q, p < U.1 0 ∧ x = nI p ∧ q < U.1 0 ∧ y = nI q ∧ ztwX U p q ∧ E = "java/lang/IllegalArgumentException" ∧ zFs w d ∧ zB d U ∧ d.2.2.2 0 8 = some 61)) := by
  refine zM.of2 mfX8_two (Nat.le_of_ble_eq_true rfl) (fun QR QX hQ hX0 => ?_)
  have hm0 := hm
  obtain ⟨⟨hm1, hm2⟩, hm3⟩ := hm
  have hC := hB.1
  have hU := hB.2.2.1.1
  have hcU := hB.2.2.1.2.1
  have h13 := hB.2.2.1.2.2
  have hp0 := hB.2.1.2.1 0 (by decide) (by decide)
  have hp8 := hU.1
  have hk0 := hC.1 0 (by decide)
  refine zJ_aload_n dX8_two_0 rfl ?_
  refine zJ_iload_n dX8_two_1 rfl ?_
  refine zJ_xV1 dX8_two_2 sX8_158 pX8_158 mfX8_needPerson (c_needPerson Δ w hC x (U.1 0) hp0 hp8) rfl hk0 rfl (Nat.le_of_ble_eq_true rfl) ⟨Nat.le_of_ble_eq_true rfl, Nat.le_of_ble_eq_true rfl⟩ ⟨by show _ ≤ mc; omega, by show _ ≤ ms; omega⟩ (fun r c9 hP => ?_) (fun E c9 hX => hX0 _ _ (Or.inl ⟨hX.1, hX.2.1, fun h => hX.2.2 h.1⟩))
  obtain ⟨rfl, hw9, hP⟩ := hP
  obtain rfl := hw9.symm
  obtain ⟨p, hp, rfl⟩ := hP
  refine zJ_aload_n dX8_two_5 rfl ?_
  refine zJ_iload_n dX8_two_6 rfl ?_
  refine zJ_xV1 dX8_two_7 sX8_158 pX8_158 mfX8_needPerson (c_needPerson Δ w hC y (U.1 0) hp0 hp8) rfl hk0 rfl (Nat.le_of_ble_eq_true rfl) ⟨Nat.le_of_ble_eq_true rfl, Nat.le_of_ble_eq_true rfl⟩ ⟨by show _ ≤ mc; omega, by show _ ≤ ms; omega⟩ (fun r c9 hP => ?_) (fun E c9 hX => hX0 _ _ (Or.inl ⟨hX.1, hX.2.1, fun h => hX.2.2 h.2⟩))
  obtain ⟨rfl, hw9, hP⟩ := hP
  obtain rfl := hw9.symm
  obtain ⟨q, hq, rfl⟩ := hP
  obtain ⟨BG, hBG⟩ : ∃ BG : Prop, BG = (∃ p_ q_, p_ < U.1 0 ∧ nI p = nI p_ ∧ q_ < U.1 0 ∧ nI q = nI q_ ∧ ztwB U p_ q_) := ⟨_, rfl⟩
  rw [← hBG] at hm0 hm3 hQ
  have hbig0 : ztwB U p q → BG := fun h => by rw [hBG]; exact ⟨p, q, hp, rfl, hq, rfl, h⟩
  have hbig1 : BG → ztwB U p q := fun h => by
    rw [hBG] at h
    obtain ⟨p2, q2, a1, a2, a3, a4, h⟩ := h
    rw [(nI_eq (by omega) (by omega)).mp a2, (nI_eq (by omega) (by omega)).mp a4]; exact h
  have hQ1 : ∀ d r, zFs w d → zB d U → zLw w d BG → ztwR U p q r → QR r d := fun d r g1 g2 g3 g4 => hQ _ _ ⟨g1, g2, g3, p, q, hp, rfl, hq, rfl, g4⟩
  have hX1 : ∀ d, ztwX U p q → zFs w d → zB d U → d.2.2.2 0 8 = some 61 → QX "java/lang/IllegalArgumentException" d := fun d g1 g2 g3 g4 => hX0 _ _ (Or.inr ⟨p, q, hp, rfl, hq, rfl, g1, rfl, g2, g3, g4⟩)
  have hU7 := hU.2.2.2.1
  have hAs := ((zAs.copy hB).set (k := 12) (v := p) (by decide) (by decide))
  have hk1 : (zsi (ztowc w 14 9) 14 12 (nI p)).1 0 = some (.inl 8) := hAs.2.2.1.1.1 0 (by decide)
  have hT1 : zTok (zTs U 12 p) := hU.s (by omega)
  have hH0 : zHk w (zsi (ztowc w 14 9) 14 12 (nI p)) BG 2 (0 + 1 + 1) (0 + 6 + 6) := Or.inl ⟨hAs.2.1, by omega, by omega⟩
  obtain ⟨m1, m2, hc1, hc2, hc3, hc4, hc5, hc6⟩ := hH0.call hm0 (T := (zTs U 12 p)) (by omega) hAs.2.2.1 (fun h _ => hbig0 (Or.inl h))
  have L2 : ∀ (K : List zKy), zall (zTs U 12 p) K → K.length ≤ 20000 → ∀ j, j ≤ 8 → ∀ (c : zW) (k n : Nat) (T : zTo), zFs w c → zB c U → zTi c 14 T → (∀ v, zTs T 13 v = zTs (zTs U 12 q) 13 v) → (∀ i, i < 8 → c.2.2.1 51 i = lN (zen U p K i)) → zHk w c BG (3 + j) k n → (∀ i, i < j → 0 < zen U p K i → ¬ i = q → zfit (zTw2 U q i) 20000 ∧ (c.2.2.2 0 8 = none → zfit (zTw2 U q i) 640)) → (c.2.2.2 0 8 = none → zfit (zTs U 12 p) 640) → zJ Δ mX8_two (zRm 8 mc ms) false w.1 QR QX k n 88 [(6, .int (nI j)), (4, .long (lN (ztw U (zen U p K) q j))), (0, .ref 0), (1, .int (nI p)), (2, .int (nI q))] [] c := by
    intro K hKa hKl
    have hen : ∀ k, k < 8 → zen U p K k ≤ 1000000000 := fun k hk => zcas_le hT1 (zall_nodup hKa) (by omega)
    have hpos : 0 < U.1 0 := by omega
    have hp1 : (zTs U 12 p).1 0 = U.1 0 := by simp [zTs]
    have h71 : (zTs U 12 p).1 7 = U.1 7 := by simp [zTs]
    have hen0 : ∀ k, U.1 0 ≤ k → k < 8 → zen U p K k = 0 := fun k h1 h2 => by
      have hKk : ∀ k ∈ K, k.1 < U.1 0 ∧ 1 ≤ k.2.1 ∧ k.2.1 ≤ U.1 7 := fun k hk => by
        have h3 := zall_pp hT1 (by omega) hKa k hk
        have h4 : zkok (zTs U 12 p) k := by
          obtain ⟨n, rfl, -⟩ := hKa
          exact zgr_ok hT1 n k hk
        have h5 := h4.2.1
        rw [hp1] at h3
        rw [h71] at h5
        exact ⟨h3, h5⟩
      exact zcas_0 hKk hU7.2 (by omega) (Or.inl h1)
    refine zup (fun j hj ih => ?_)
    intro c k n T hFc hBc hiT hTs h51 hH hst hst0
    have hk1 : c.1 0 = some (.inl 8) := hBc.1.1 0 (by decide)
    have hHk : k ≤ mc ∧ n ≤ ms := by
      rcases hH with ⟨h1, h2, h3⟩ | ⟨h1, h2, h3, h4, h5⟩
      · omega
      · have := hm3 h1 h2; omega
    have htl := ztw_le8 hU hq hen j hj
    by_cases hj8 : j = 8
    · have hge : (8 : Int32) ≤ nI j := by rw [hj8]; decide
      have hlw : BG → c.2.2.2 0 8 = some 61 := fun h => hBc.lg.elim (fun g => by
        rcases hbig1 h with h | ⟨K2, hK2, i, i1, i2, i3, i4⟩
        · exact absurd (hst0 g) h
        · rw [← zall_one hKa hK2] at i2
          exact absurd ((hst i (by omega) i2 i3).2 g) i4) (fun g => g)
      have hQ9 := hQ1 c (some (.int (lN (ztw U (zen U p K) q (U.1 0))).toInt32)) hFc hBc (hH.lw hlw) ⟨K, hKa, hKl, fun i i1 i2 i3 => (hst i (by omega) i2 i3).1, rfl⟩
      have e8 : ztw U (zen U p K) q j = ztw U (zen U p K) q (U.1 0) := by
        rw [hj8]
        have := ztw_ext (q := q) hen0 (8 - U.1 0) (by omega)
        rw [show U.1 0 + (8 - U.1 0) = 8 by omega] at this
        exact this
      rw [e8]
      refine zJ_iload dX8_two_88 rfl ?_
      refine zJ_bipush (v := 8) dX8_two_90 (by decide) ?_
      refine zJ_icmp_ge (tgt := 163) dX8_two_92 (by decide) (fun h92a => ?_) (fun h9 => absurd hge h9)
      refine zJ_lload dX8_two_163 rfl ?_
      refine zJ_l2i dX8_two_165 ?_
      exact zJ_iret dX8_two_166 rfl (by show _ ≤ mc; omega) (by show _ ≤ ms; omega) hQ9
    · have hj7 : j < 8 := by omega
      have hlt0 : ¬ (8 : Int32) ≤ nI j := fun h => absurd ((nI_leI (a := 8) (by decide) (by omega)).mp h) (by omega)
      have hej := hen j hj7
      have h51j := h51 j hj7
      by_cases he0 : zen U p K j = 0
      · have hno : ¬ (0 < zen U p K j ∧ ¬ j = q) := fun h => by omega
        have hle : lN (zen U p K j) ≤ 0 := by rw [he0]; decide
        refine zJ_iload dX8_two_88 rfl ?_
        refine zJ_bipush (v := 8) dX8_two_90 (by decide) ?_
        refine zJ_icmp_ge (tgt := 163) dX8_two_92 (by decide) (fun h9 => absurd h9 hlt0) (fun h92b => ?_)
        refine zJ_aload_n dX8_two_95 rfl ?_
        refine zJ_getr dX8_two_96 fX8_69 (by first | rfl | assumption | exact hBc.1.1 _ (by decide) | exact hBe.1.1 _ (by decide)) rfl (by first | rfl | assumption | exact hBc.1.2 _ _ rfl | exact hBe.1.2 _ _ rfl) ?_
        refine zJ_iload dX8_two_99 rfl ?_
        refine zJ_laldN (i := j) (v := (lN (zen U p K j))) dX8_two_101 (by first | rfl | assumption | exact hBc.1.1 _ (by decide) | exact hBe.1.1 _ (by decide)) rfl (by omega) (by decide) h51j ?_
        refine zJ_lconst (v := 0) dX8_two_102 (by decide) ?_
        refine zJ_lc_le (tgt := 157) dX8_two_103 dX8_two_104 (by decide) (fun h104b => ?_) (fun h9 => absurd hle h9)
        refine zJ_iinc (ls2 := fun x157b => [(6, .int x157b), (4, .long (lN (ztw U (zen U p K) q j))), (0, .ref 0), (1, .int (nI p)), (2, .int (nI q))]) dX8_two_157 rfl (by decide) (fun _ => rfl) (fun x157b ex157b => ?_)
        refine zJ_goto (tgt := 88) dX8_two_160 (by decide) ?_
        refine zJ_ls [(6, .int x157b), (4, .long (lN (ztw U (zen U p K) q j))), (0, .ref 0), (1, .int (nI p)), (2, .int (nI q))] (by simp) ?_
        rw [ex157b, show nI j + Int32.ofInt 1 = nI (j + 1) from nI_1 _]
        have hs9 : ztw U (zen U p K) q (j + 1) = ztw U (zen U p K) q j := by simp only [ztw]; rw [if_neg hno]
        have h9 := ih (j + 1) (by omega) (by omega) c k n T hFc hBc hiT hTs h51 (hH.up (by omega)) (fun i i1 i2 i3 => by
          by_cases hij : i = j
          · exact absurd ⟨hij ▸ i2, hij ▸ i3⟩ hno
          · exact hst i (by omega) i2 i3) hst0
        rw [hs9] at h9
        exact h9
      · have hnle : ¬ lN (zen U p K j) ≤ 0 := fun h => absurd ((lZ_le (a := (zen U p K j : Int)) (b := 0) (by omega) (by omega) (by decide) (by decide)).mp h) (by omega)
        by_cases hjq : j = q
        · have hno : ¬ (0 < zen U p K j ∧ ¬ j = q) := fun h => h.2 hjq
          refine zJ_iload dX8_two_88 rfl ?_
          refine zJ_bipush (v := 8) dX8_two_90 (by decide) ?_
          refine zJ_icmp_ge (tgt := 163) dX8_two_92 (by decide) (fun h9 => absurd h9 hlt0) (fun h92c => ?_)
          refine zJ_aload_n dX8_two_95 rfl ?_
          refine zJ_getr dX8_two_96 fX8_69 (by first | rfl | assumption | exact hBc.1.1 _ (by decide) | exact hBe.1.1 _ (by decide)) rfl (by first | rfl | assumption | exact hBc.1.2 _ _ rfl | exact hBe.1.2 _ _ rfl) ?_
          refine zJ_iload dX8_two_99 rfl ?_
          refine zJ_laldN (i := j) (v := (lN (zen U p K j))) dX8_two_101 (by first | rfl | assumption | exact hBc.1.1 _ (by decide) | exact hBe.1.1 _ (by decide)) rfl (by omega) (by decide) h51j ?_
          refine zJ_lconst (v := 0) dX8_two_102 (by decide) ?_
          refine zJ_lc_le (tgt := 157) dX8_two_103 dX8_two_104 (by decide) (fun h9 => absurd h9 hnle) (fun h104c => ?_)
          refine zJ_iload dX8_two_107 rfl ?_
          refine zJ_iload_n dX8_two_109 rfl ?_
          refine zJ_icmp_eq (tgt := 157) dX8_two_110 (by decide) (fun h110c => ?_) (fun h9 => absurd (congrArg nI hjq) h9)
          refine zJ_iinc (ls2 := fun x157c => [(6, .int x157c), (4, .long (lN (ztw U (zen U p K) q j))), (0, .ref 0), (1, .int (nI p)), (2, .int (nI q))]) dX8_two_157 rfl (by decide) (fun _ => rfl) (fun x157c ex157c => ?_)
          refine zJ_goto (tgt := 88) dX8_two_160 (by decide) ?_
          refine zJ_ls [(6, .int x157c), (4, .long (lN (ztw U (zen U p K) q j))), (0, .ref 0), (1, .int (nI p)), (2, .int (nI q))] (by simp) ?_
          rw [ex157c, show nI j + Int32.ofInt 1 = nI (j + 1) from nI_1 _]
          have hs9 : ztw U (zen U p K) q (j + 1) = ztw U (zen U p K) q j := by simp only [ztw]; rw [if_neg hno]
          have h9 := ih (j + 1) (by omega) (by omega) c k n T hFc hBc hiT hTs h51 (hH.up (by omega)) (fun i i1 i2 i3 => by
            by_cases hij : i = j
            · exact absurd ⟨hij ▸ i2, hij ▸ i3⟩ hno
            · exact hst i (by omega) i2 i3) hst0
          rw [hs9] at h9
          exact h9
        · have hyes : 0 < zen U p K j ∧ ¬ j = q := ⟨by omega, hjq⟩
          have hjp : j < U.1 0 := Nat.lt_of_not_le fun h => he0 (hen0 j h hj7)
          have hjq9 : ¬ nI j = nI q := fun h => hjq ((nI_eq (by omega) (by omega)).mp h)
          have hAs0 : zAs c c U T := ⟨zFb.rf c, rfl, hBc, hiT⟩
          have hAs := hAs0.set (k := 13) (v := 2 ^ j) (by decide) (by decide)
          rw [hTs] at hAs
          have hAs : zAs c (zsi c 14 13 (nI (2 ^ j))) U (zTw2 U q j) := hAs
          have hTok := hU.w2 hq hj7
          obtain ⟨m1, m2, hc1, hc2, hc3, hc4, hc5, hc6⟩ := hH.call hm0 (T := (zTw2 U q j)) (by omega) hBc (fun h h2 => hbig0 (Or.inr ⟨K, hKa, j, hjp, hyes.1, hjq, h⟩))
          have GA := c_playAsked Δ (zsi c 14 13 (nI (2 ^ j))) U (zTw2 U q j) hAs.2.2.1.1 hAs.2.2.1.2.2.2 hAs.2.2.2 hTok ((hcU.s (by decide)).s (by decide)) (((zsame.rf U).s (by decide)).s (by decide)) m1 m2 ⟨hc1, hc2⟩ (fun h1 h2 => by have := hc3 h1 (hAs.2.1 ▸ h2); omega)
          have XX : ∀ E d, zXp (zsi c 14 13 (nI (2 ^ j))) U (zTw2 U q j) E d → QX E d := fun E d g => by
            rw [g.1]
            have g2 := g.sp hAs
            exact hX1 d (Or.inr ⟨K, hKa, hKl, j, hjp, hyes.1, hjq, g.2.2.1⟩) (hFc.tr g2.2.2.1) g2.2.2.2.1 g2.2.2.2.2
          have hzr := (zvl_rng hTok (zkok.fk hTok)).1
          have hml := Nat.mul_le_mul hej hzr
          have hstep : ztw U (zen U p K) q (j + 1) = ztw U (zen U p K) q j + zen U p K j * (zvl (zTw2 U q j) (zfk (zTw2 U q j))).1 / 1000000000 := by simp only [ztw]; rw [if_pos hyes]
          refine zJ_iload dX8_two_88 rfl ?_
          refine zJ_bipush (v := 8) dX8_two_90 (by decide) ?_
          refine zJ_icmp_ge (tgt := 163) dX8_two_92 (by decide) (fun h9 => absurd h9 hlt0) (fun h92d => ?_)
          refine zJ_aload_n dX8_two_95 rfl ?_
          refine zJ_getr dX8_two_96 fX8_69 (by first | rfl | assumption | exact hBc.1.1 _ (by decide) | exact hBe.1.1 _ (by decide)) rfl (by first | rfl | assumption | exact hBc.1.2 _ _ rfl | exact hBe.1.2 _ _ rfl) ?_
          refine zJ_iload dX8_two_99 rfl ?_
          refine zJ_laldN (i := j) (v := (lN (zen U p K j))) dX8_two_101 (by first | rfl | assumption | exact hBc.1.1 _ (by decide) | exact hBe.1.1 _ (by decide)) rfl (by omega) (by decide) h51j ?_
          refine zJ_lconst (v := 0) dX8_two_102 (by decide) ?_
          refine zJ_lc_le (tgt := 157) dX8_two_103 dX8_two_104 (by decide) (fun h9 => absurd h9 hnle) (fun h104d => ?_)
          refine zJ_iload dX8_two_107 rfl ?_
          refine zJ_iload_n dX8_two_109 rfl ?_
          refine zJ_icmp_eq (tgt := 157) dX8_two_110 (by decide) (fun h9 => absurd h9 hjq9) (fun h110d => ?_)
          refine zJ_aload_n dX8_two_113 rfl ?_
          refine zJ_getr dX8_two_114 fX8_36 (by first | rfl | assumption | exact hBc.1.1 _ (by decide) | exact hBe.1.1 _ (by decide)) rfl (by first | rfl | assumption | exact hBc.1.2 _ _ rfl | exact hBe.1.2 _ _ rfl) ?_
          refine zJ_iconst (v := 1) dX8_two_117 (by decide) ?_
          refine zJ_iload dX8_two_118 rfl ?_
          refine zJ_ishl dX8_two_120 ?_
          rw [na_shl j (by omega)]
          refine zJ_puti dX8_two_121 fX8_304 (fun q h => by cases h; rfl) (by first | rfl | assumption | exact hBc.1.1 _ (by decide) | exact hBe.1.1 _ (by decide)) rfl rfl rfl ?_
          refine zJ_aload_n dX8_two_124 rfl ?_
          have hk2 : (zsi c 14 13 (nI (2 ^ j))).1 0 = some (.inl 8) := hk1
          refine zJ_yV0 dX8_two_125 sX8_178 pX8_178 mfX8_playAsked GA rfl hk2 rfl ⟨rfl, by simp [zokv, zpush], by simp [lv_args, Value.category, zokv, hk2]⟩ (Nat.le_of_ble_eq_true rfl) ⟨Nat.le_of_ble_eq_true rfl, Nat.le_of_ble_eq_true rfl⟩ ⟨by show _ ≤ mc; omega, by show _ ≤ ms; omega⟩ (fun r d hP9 => ?_) (fun E d hX => XX E d hX)
          obtain ⟨hFa, hfit, b, R, m9, K2, rfl, hO, hx, hR, hl1, hl2⟩ := hP9
          refine zJ_astore_n (ls2 := fun q9 => [(3, .ref q9), (6, .int (nI j)), (4, .long (lN (ztw U (zen U p K) q j))), (0, .ref 0), (1, .int (nI p)), (2, .int (nI q))]) dX8_two_128 (by decide) (fun _ => rfl) (fun q9 eq9 => ?_)
          obtain rfl := eq9.symm
          refine zJ_aload_n dX8_two_129 rfl ?_
          refine zJ_iconst (v := 0) dX8_two_130 (by decide) ?_
          refine zJ_st (st2 := [.int (nI 0), .ref b]) rfl ?_
          refine zJ_eV1 dX8_two_131 sX8_200 mfX1_reckon (o_reckon Δ d b R m9 U (zTw2 U q j) K2 hO 0 (by decide)) hO.1.1.1 rfl (Nat.le_of_ble_eq_true rfl) ⟨Nat.le_of_ble_eq_true rfl, Nat.le_of_ble_eq_true rfl⟩ ⟨by show _ ≤ mc; omega, by show _ ≤ ms; omega⟩ (fun r e hP9 => ?_)
          obtain ⟨rfl, hf, hO2, hcs, W, hW3, hWP, hup⟩ := hP9
          have hPS := hO2.1.1
          obtain ⟨p0, q0, q1, q2, q3, q4, q5, q6, q7, q8, q9, s11, s12, s13, s14, s15, s16, s17, s18, hSw⟩ := hPS
          have hRb : 1 ≤ R := by rcases hR with ⟨-, rfl, -⟩ | ⟨-, rfl, -⟩ <;> decide
          have hRb2 : R ≤ 20000 := by rcases hR with ⟨-, rfl, -⟩ | ⟨-, rfl, -⟩ <;> decide
          have hg := (hup 0 (zfk (zTw2 U q j)) (Nat.le_refl _) (zall_0 hO2.1.2.2.2.1)).1
          obtain ⟨hFe, hBe⟩ := zfin hAs hFa hf hO2 hx hR
          have h51e : ∀ i, i < 8 → e.2.2.1 51 i = lN (zen U p K i) := fun i hi => (hFe.2.1 51 i (by omega)).2.trans (h51 i hi)
          have hF9 : zFa (zsi c 14 13 (nI (2 ^ j))) e := hFa.tr (hf.a hx.b)
          have hl9 : zLf c e (zTw2 U q j) := zlf hAs hl1 hl2 hf
          refine zJ_lload dX8_two_134 rfl ?_
          refine zJ_aload_n dX8_two_136 rfl ?_
          refine zJ_getr dX8_two_137 fX8_69 (by first | rfl | assumption | exact hBc.1.1 _ (by decide) | exact hBe.1.1 _ (by decide)) rfl (by first | rfl | assumption | exact hBc.1.2 _ _ rfl | exact hBe.1.2 _ _ rfl) ?_
          refine zJ_iload dX8_two_140 rfl ?_
          refine zJ_laldN (i := j) (v := (lN (zen U p K j))) dX8_two_142 (by first | rfl | assumption | exact hBc.1.1 _ (by decide) | exact hBe.1.1 _ (by decide)) rfl (by omega) (by decide) (h51e j hj7) ?_
          refine zJ_aload_n dX8_two_143 rfl ?_
          refine zJ_getr dX8_two_144 fX8_307 (by first | rfl | assumption | exact hBc.1.1 _ (by decide) | exact hBe.1.1 _ (by decide)) rfl (by first | rfl | assumption | exact hBc.1.2 _ _ rfl | exact hBe.1.2 _ _ rfl) ?_
          refine zJ_iconst (v := 0) dX8_two_147 (by decide) ?_
          refine zJ_laldN (i := 0) (v := (lN (zvl (zTw2 U q j) (zfk (zTw2 U q j))).1)) dX8_two_148 (by first | rfl | assumption | exact hBc.1.1 _ (by decide) | exact hBe.1.1 _ (by decide)) rfl (by omega) (by omega) hg ?_
          refine zJ_lmul dX8_two_149 ?_
          rw [lN_mul]
          refine zJ_ldc2 dX8_two_150 kX8_310 ?_
          refine zJ_ldiv dX8_two_153 (by decide) ?_
          rw [show (1000000000 : Int64) = lN 1000000000 from rfl, lN_div (by omega) (by decide)]
          refine zJ_ladd dX8_two_154 ?_
          rw [lN_add]
          refine zJ_lstore (ls2 := fun x155d => [(4, .long x155d), (3, .ref b), (6, .int (nI j)), (0, .ref 0), (1, .int (nI p)), (2, .int (nI q))]) dX8_two_155 (by decide) (fun _ => rfl) (fun x155d ex155d => ?_)
          obtain rfl : x155d = (lN (ztw U (zen U p K) q (j + 1))) := (by rw [ex155d, hstep])
          refine zJ_iinc (ls2 := fun x157d => [(6, .int x157d), (4, .long (lN (ztw U (zen U p K) q (j + 1)))), (3, .ref b), (0, .ref 0), (1, .int (nI p)), (2, .int (nI q))]) dX8_two_157 rfl (by decide) (fun _ => rfl) (fun x157d ex157d => ?_)
          refine zJ_goto (tgt := 88) dX8_two_160 (by decide) ?_
          refine zJ_ls [(6, .int x157d), (4, .long (lN (ztw U (zen U p K) q (j + 1)))), (0, .ref 0), (1, .int (nI p)), (2, .int (nI q))] (by simp) ?_
          rw [ex157d, show nI j + Int32.ofInt 1 = nI (j + 1) from nI_1 _]
          refine ih (j + 1) (by omega) (by omega) e (k + m1) (n + m2) (zTw2 U q j) (hFc.tr hFe) hBe (hAs.2.2.2.eq (hAs.2.2.2.1.ff2 (fun a ha => (hF9.1 _ (by omega))) (fun j _ => hF9.2.2 14 j (by omega) (by omega))) (fun a j ha => (hF9.2.1 (14 + a) j (by omega)).1)) (fun v => zTs_2) h51e (hc6 e hl9) (fun i i1 i2 i3 => ?_) (fun h9 => ?_)
          · by_cases hij : i = j
            · rw [hij]
              refine ⟨hfit, fun h9 => ?_⟩
              by_cases hf9 : zfit (zTw2 U q j) 640
              · exact hf9
              · rw [hl9.2 hf9] at h9; exact absurd h9 (by simp)
            · refine ⟨(hst i (by omega) i2 i3).1, fun h9 => (hst i (by omega) i2 i3).2 ?_⟩
              by_cases hf9 : zfit (zTw2 U q j) 640
              · rw [← hl9.1 hf9]; exact h9
              · rw [hl9.2 hf9] at h9; exact absurd h9 (by simp)
          · refine hst0 ?_
            by_cases hf9 : zfit (zTw2 U q j) 640
            · rw [← hl9.1 hf9]; exact h9
            · rw [hl9.2 hf9] at h9; exact absurd h9 (by simp)
  refine zJ_aload_n dX8_two_10 rfl ?_
  refine zJ_getr dX8_two_11 fX8_36 (by first | rfl | assumption | exact hBe.1.1 _ (by decide) | exact hC.1 _ (by decide) | exact hAs.2.2.1.1.1 _ (by decide)) rfl (by first | rfl | assumption | exact hBe.1.2 _ _ rfl | exact hC.2 _ _ rfl | exact hAs.2.2.1.1.2 _ _ rfl) ?_
  refine zJ_aload_n dX8_two_14 rfl ?_
  refine zJ_getr dX8_two_15 fX8_32 (by first | rfl | assumption | exact hBe.1.1 _ (by decide) | exact hC.1 _ (by decide) | exact hAs.2.2.1.1.1 _ (by decide)) rfl (by first | rfl | assumption | exact hBe.1.2 _ _ rfl | exact hC.2 _ _ rfl | exact hAs.2.2.1.1.2 _ _ rfl) ?_
  refine zJ_cV1 dX8_two_18 sX8_110 mfX5_copy (c_Town_copy Δ w 14 9 (zTn14 hC) hB.2.1.1 (by decide)) (hC.1 14 (by decide)) rfl (Nat.le_of_ble_eq_true rfl) ⟨Nat.le_of_ble_eq_true rfl, Nat.le_of_ble_eq_true rfl⟩ ⟨by show _ ≤ mc; omega, by show _ ≤ ms; omega⟩ ?_
  refine zJ_aload_n dX8_two_21 rfl ?_
  refine zJ_getr dX8_two_22 fX8_36 (by first | rfl | assumption | exact hBe.1.1 _ (by decide) | exact hC.1 _ (by decide) | exact hAs.2.2.1.1.1 _ (by decide)) rfl (by first | rfl | assumption | exact hBe.1.2 _ _ rfl | exact hC.2 _ _ rfl | exact hAs.2.2.1.1.2 _ _ rfl) ?_
  refine zJ_iload_n dX8_two_25 rfl ?_
  refine zJ_puti dX8_two_26 fX8_141 (fun q h => by cases h; rfl) (by first | rfl | assumption | exact hBe.1.1 _ (by decide) | exact hC.1 _ (by decide) | exact hAs.2.2.1.1.1 _ (by decide)) rfl rfl rfl ?_
  refine zJ_aload_n dX8_two_29 rfl ?_
  refine zJ_yV0 dX8_two_30 sX8_178 pX8_178 mfX8_playAsked (c_playAsked Δ (zsi (ztowc w 14 9) 14 12 (nI p)) U (zTs U 12 p) hAs.2.2.1.1 hAs.2.2.1.2.2.2 hAs.2.2.2 hT1 (hcU.s (by decide)) ((zsame.rf U).s (by decide)) m1 m2 ⟨hc1, hc2⟩ (fun h1 h2 => by have := hc3 h1 h2; omega)) rfl hk1 rfl ⟨rfl, by simp [zokv, zpush], by simp [lv_args, Value.category, zokv, hk1]⟩ (Nat.le_of_ble_eq_true rfl) ⟨Nat.le_of_ble_eq_true rfl, Nat.le_of_ble_eq_true rfl⟩ ⟨by show _ ≤ mc; omega, by show _ ≤ ms; omega⟩ (fun r d hP9 => ?_) (fun E d hX => by have g := hX.sp hAs; rw [g.1]; exact hX1 d (Or.inl g.2.1) g.2.2.1.s g.2.2.2.1 g.2.2.2.2)
  obtain ⟨hFa, hfit, b, R, m9, K, rfl, hO, hx, hR, hl1, hl2⟩ := hP9
  refine zJ_astore_n (ls2 := fun q9 => [(3, .ref q9), (0, .ref 0), (1, .int (nI p)), (2, .int (nI q))]) dX8_two_33 (by decide) (fun _ => rfl) (fun q9 eq9 => ?_)
  obtain rfl := eq9.symm
  refine zJ_aload_n dX8_two_34 rfl ?_
  refine zJ_eV0 dX8_two_35 sX8_182 mfX1_countCases (o_countCases Δ d b R m9 U (zTs U 12 p) K hO) hO.1.1.1 rfl (Nat.le_of_ble_eq_true rfl) ⟨Nat.le_of_ble_eq_true rfl, Nat.le_of_ble_eq_true rfl⟩ ⟨by show _ ≤ mc; omega, by show _ ≤ ms; omega⟩ (fun r e hP9 => ?_)
  obtain ⟨rfl, hf, hO2, hcc⟩ := hP9
  have hKa : zall (zTs U 12 p) K := hO2.1.2.2.2.1
  have hKl : K.length ≤ 20000 := by
    obtain ⟨K2, hK2, h9⟩ := hfit
    rw [zall_one hKa hK2]; exact h9
  obtain ⟨hFe, hBe⟩ := zfin hAs hFa hf hO2 hx hR
  have hl9 : zLf (zsi (ztowc w 14 9) 14 12 (nI p)) e (zTs U 12 p) := ⟨fun h => by rw [hf.2.1, hl1 h], fun h => by rw [hf.2.1]; exact hl2 h⟩
  have hH1 := hc6 e hl9
  have hb51 : ¬ b + 16 = 51 := by rcases hR with ⟨h, -⟩ | ⟨h, -⟩ <;> rw [h] <;> decide
  have hF9 : zFa (zsi (ztowc w 14 9) 14 12 (nI p)) e := hFa.tr (hf.a hx.b)
  have hiE : zTi e 14 (zTs U 12 p) := (hAs.2.2.2.eq (hAs.2.2.2.1.ff2 (fun a ha => (hF9.1 _ (by omega))) (fun j _ => hF9.2.2 14 j (by omega) (by omega))) (fun a j ha => (hF9.2.1 (14 + a) j (by omega)).1))
  have hst0 : e.2.2.2 0 8 = none → zfit (zTs U 12 p) 640 := fun h9 => by
    by_cases hf9 : zfit (zTs U 12 p) 640
    · exact hf9
    · rw [hl9.2 hf9] at h9; exact absurd h9 (by simp)
  refine zJ_iconst (v := 0) dX8_two_38 (by decide) ?_
  refine zJ_istore (ls2 := fun x39w => [(4, .int x39w), (3, .ref b), (0, .ref 0), (1, .int (nI p)), (2, .int (nI q))]) dX8_two_39 (by decide) (fun _ => rfl) (fun x39w ex39w => ?_)
  obtain rfl : x39w = (nI 0) := ex39w
  have K74 : ∀ f : Nat → Int64, (∀ i, i < 8 → f i = lN (zen U p K i)) → zJ Δ mX8_two (zRm 8 mc ms) false w.1 QR QX (0 + 1 + 1 + m1) (0 + 6 + 6 + m2) 74 [(0, .ref 0), (1, .int (nI p)), (2, .int (nI q))] [] (zrol e 51 f) := by
    intro f hf9
    refine zJ_aload_n dX8_two_74 rfl ?_
    refine zJ_getr dX8_two_75 fX8_36 (by first | rfl | assumption | exact hBe.1.1 _ (by decide) | exact hC.1 _ (by decide) | exact hAs.2.2.1.1.1 _ (by decide)) rfl (by first | rfl | assumption | exact hBe.1.2 _ _ rfl | exact hC.2 _ _ rfl | exact hAs.2.2.1.1.2 _ _ rfl) ?_
    refine zJ_iload_n dX8_two_78 rfl ?_
    refine zJ_puti dX8_two_79 fX8_141 (fun q h => by cases h; rfl) (by first | rfl | assumption | exact hBe.1.1 _ (by decide) | exact hC.1 _ (by decide) | exact hAs.2.2.1.1.1 _ (by decide)) rfl rfl rfl ?_
    refine zJ_lconst (v := 0) dX8_two_82 (by decide) ?_
    refine zJ_lstore (ls2 := fun x83g => [(4, .long x83g), (0, .ref 0), (1, .int (nI p)), (2, .int (nI q))]) dX8_two_83 (by decide) (fun _ => rfl) (fun x83g ex83g => ?_)
    obtain rfl : x83g = (lN 0) := ex83g
    refine zJ_iconst (v := 0) dX8_two_85 (by decide) ?_
    refine zJ_istore (ls2 := fun x86g => [(6, .int x86g), (4, .long (lN 0)), (0, .ref 0), (1, .int (nI p)), (2, .int (nI q))]) dX8_two_86 (by decide) (fun _ => rfl) (fun x86g ex86g => ?_)
    obtain rfl : x86g = (nI 0) := ex86g
    refine zJ_ls [(6, .int (nI 0)), (4, .long (lN 0)), (0, .ref 0), (1, .int (nI p)), (2, .int (nI q))] (by simp) ?_
    have hAsE : zAs (zrol e 51 f) (zrol e 51 f) U (zTs U 12 p) := ⟨zFb.rf _, rfl, hBe.rol f, hiE⟩
    have hAs2 := hAsE.set (k := 12) (v := q) (by decide) (by decide)
    rw [zTs_2] at hAs2
    have h9 := L2 K hKa hKl 0 (Nat.zero_le _) (zsi (zrol e 51 f) 14 12 (nI q)) (0 + 1 + 1 + m1) (0 + 6 + 6 + m2) (zTs U 12 q) ((hFe.rol f).tr hAs2.1) hAs2.2.2.1 hAs2.2.2.2 (fun v => rfl) (fun i hi => by show (zrol e 51 f).2.2.1 51 i = _; rw [zrol_get]; exact hf9 i hi) hH1 (fun i hi => absurd hi (Nat.not_lt_zero i)) hst0
    exact h9
  have L1 : ∀ j, j ≤ 8 → ∀ f : Nat → Int64, (∀ i, i < j → f i = lN (zen U p K i)) → zJ Δ mX8_two (zRm 8 mc ms) false w.1 QR QX (0 + 1 + 1 + m1) (0 + 6 + 6 + m2) 41 [(4, .int (nI j)), (3, .ref b), (0, .ref 0), (1, .int (nI p)), (2, .int (nI q))] [] (zrol e 51 f) := by
    refine zup (fun j hj ih => ?_)
    intro f hf9
    have CO := c_Play_casesOf Δ (zrol e 51 f) b R m9 (show zPs (zrol e 51 f) b R m9 from hO2.1.1) (zcas (zTs U 12 p) K) (fun i hi => by simp only [zrol, hb51, if_false]; exact hcc i hi)
    by_cases hj8 : j = 8
    · have hge : (8 : Int32) ≤ nI j := by rw [hj8]; decide
      refine zJ_iload dX8_two_41 rfl ?_
      refine zJ_bipush (v := 8) dX8_two_43 (by decide) ?_
      refine zJ_icmp_ge (tgt := 74) dX8_two_45 (by decide) (fun h45h => ?_) (fun h9 => absurd hge h9)
      refine zJ_ls [(0, .ref 0), (1, .int (nI p)), (2, .int (nI q))] (by simp) ?_
      exact K74 f (fun i hi => hf9 i (by omega))
    · have hlt0 : ¬ (8 : Int32) ≤ nI j := fun h => absurd ((nI_leI (a := 8) (by decide) (by omega)).mp h) (by omega)
      have h97 : (zrol e 51 f).2.1 9 7 = nI (U.1 7) := hBe.2.1.2.1 7 (by decide) (by decide)
      refine zJ_iload dX8_two_41 rfl ?_
      refine zJ_bipush (v := 8) dX8_two_43 (by decide) ?_
      refine zJ_icmp_ge (tgt := 74) dX8_two_45 (by decide) (fun h9 => absurd h9 hlt0) (fun h45i => ?_)
      refine zJ_aload_n dX8_two_48 rfl ?_
      refine zJ_getr dX8_two_49 fX8_69 (by first | rfl | assumption | exact hBe.1.1 _ (by decide) | exact hC.1 _ (by decide) | exact hAs.2.2.1.1.1 _ (by decide)) rfl (by first | rfl | assumption | exact hBe.1.2 _ _ rfl | exact hC.2 _ _ rfl | exact hAs.2.2.1.1.2 _ _ rfl) ?_
      refine zJ_iload dX8_two_52 rfl ?_
      refine zJ_aload_n dX8_two_54 rfl ?_
      refine zJ_iload dX8_two_55 rfl ?_
      refine zJ_aload_n dX8_two_57 rfl ?_
      refine zJ_getr dX8_two_58 fX8_32 (by first | rfl | assumption | exact hBe.1.1 _ (by decide) | exact hC.1 _ (by decide) | exact hAs.2.2.1.1.1 _ (by decide)) rfl (by first | rfl | assumption | exact hBe.1.2 _ _ rfl | exact hC.2 _ _ rfl | exact hAs.2.2.1.1.2 _ _ rfl) ?_
      refine zJ_geti dX8_two_61 fX8_126 (by first | rfl | assumption | exact hBe.1.1 _ (by decide) | exact hC.1 _ (by decide) | exact hAs.2.2.1.1.1 _ (by decide)) rfl ?_
      rw [h97]
      refine zJ_cV2 dX8_two_64 sX8_185 mfX1_casesOf (CO j (U.1 7) (by omega) hU7) hO2.1.1.1 rfl (Nat.le_of_ble_eq_true rfl) ⟨Nat.le_of_ble_eq_true rfl, Nat.le_of_ble_eq_true rfl⟩ ⟨by show _ ≤ mc; omega, by show _ ≤ ms; omega⟩ ?_
      refine zJ_lastN (i := j) dX8_two_67 (by first | rfl | assumption | exact hBe.1.1 _ (by decide) | exact hC.1 _ (by decide) | exact hAs.2.2.1.1.1 _ (by decide)) rfl (by omega) (by decide) ?_
      refine zJ_iinc (ls2 := fun x68i => [(4, .int x68i), (3, .ref b), (0, .ref 0), (1, .int (nI p)), (2, .int (nI q))]) dX8_two_68 rfl (by decide) (fun _ => rfl) (fun x68i ex68i => ?_)
      refine zJ_goto (tgt := 41) dX8_two_71 (by decide) ?_
      refine zJ_ls [(4, .int x68i), (3, .ref b), (0, .ref 0), (1, .int (nI p)), (2, .int (nI q))] (by simp) ?_
      rw [ex68i, show nI j + Int32.ofInt 1 = nI (j + 1) from nI_1 _]
      refine zJ_w ?_ (ih (j + 1) (by omega) (by omega) (fun i => if i = j then lN (zen U p K j) else f i) (fun i hi => ?_))
      · rw [zsl_row, zrol_get, zrol_rol]; rfl
      · by_cases hij : i = j
        · simp [hij]
        · simp only [hij, if_false]; exact hf9 i (by omega)
  refine zJ_ls [(4, .int (nI 0)), (3, .ref b), (0, .ref 0), (1, .int (nI p)), (2, .int (nI q))] (by simp) ?_
  refine zJ_w (zrol_self e 51).symm ?_
  exact L1 0 (Nat.zero_le _) (e.2.2.1 51) (fun i hi => absurd hi (Nat.not_lt_zero i))
