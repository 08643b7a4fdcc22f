/-! LetterTown: least -/
/-- the large Play is made before it is found -/
def zlsB (U : zTo) (kf f s n : Nat) : Prop := ∃ i, i ≤ n ∧ ¬ zfit (zZl U kf f s i) 640 ∧ ∀ j, j < i → zfit (zZl U kf f s j) 640 ∧ ¬ zZh U kf f s j
/-- what least answers -/
def zlsR (U : zTo) (kf f s n : Nat) (r : Option Value) : Prop := ∃ i, i ≤ n ∧ (∀ j, j < i → zfit (zZl U kf f s j) 20000 ∧ ¬ zZh U kf f s j) ∧ ((zfit (zZl U kf f s i) 20000 ∧ zZh U kf f s i ∧ r = some (.int (nI (f + i * s)))) ∨ (i = n ∧ zfit (zZl U kf f s i) 20000 ∧ ¬ zZh U kf f s i ∧ r = some (.int (-1))))
/-- it is refused, for there are too many HANDS -/
def zlsX (w : zW) (U : zTo) (kf f s n : Nat) (E : String) (d : zW) : Prop := ∃ i, i ≤ n ∧ (∀ j, j < i → zfit (zZl U kf f s j) 20000 ∧ ¬ zZh U kf f s j) ∧ zSp w U (zZl U kf f s i) E d
theorem zTs_al {U : zTo} {k v : Nat} (hk : ¬ k = 0) : zTs (zTal U) k v = zTal (zTs U k v) := by
  have h : ¬ 0 = k := fun h => hk h.symm
  simp only [zTs, zTal, h, if_false]
theorem zTs_2 {U : zTo} {k v v2 : Nat} : zTs (zTs U k v) k v2 = zTs U k v2 := by
  simp only [zTs, Prod.mk.injEq, and_true]
  funext j
  by_cases h : j = k <;> simp [h]
set_option maxRecDepth 100000 in
theorem c_least (Δ : zD) (w : zW) (U : zTo) (hB : zB w U) (bI a b st : Int32) (hbI : bI = 0 ∨ bI = 1) (mc ms : Nat) (hm : zRo w ((∃ f t s, f ≤ t ∧ t ≤ 9999 ∧ a = nI f ∧ b = nI t ∧ (1 ≤ s ∧ s < 2 ^ 31) ∧ st = nI s ∧ (t - f) / s < 60) ∧ 0 < U.1 0 ∧ ∃ f t s, a = nI f ∧ b = nI t ∧ st = nI s ∧ s < 2 ^ 31 ∧ f ≤ t ∧ t ≤ 9999 ∧ zlsB U (if bI = 1 then 9 else 8) f s ((t - f) / s)) mc ms) : zM Δ 8 mc ms false yX8_least mX8_least [.ref 0, .int bI, .int a, .int b, .int st] w (fun r d => zFb w d ∧ zB d U ∧ zLw w d ((∃ f t s, f ≤ t ∧ t ≤ 9999 ∧ a = nI f ∧ b = nI t ∧ (1 ≤ s ∧ s < 2 ^ 31) ∧ st = nI s ∧ (t - f) / s < 60) ∧ 0 < U.1 0 ∧ ∃ f t s, a = nI f ∧ b = nI t ∧ st = nI s ∧ s < 2 ^ 31 ∧ f ≤ t ∧ t ≤ 9999 ∧ zlsB U (if bI = 1 then 9 else 8) f s ((t - f) / s)) ∧ 0 < U.1 0 ∧ ∃ f t s, f ≤ t ∧ t ≤ 9999 ∧ a = nI f ∧ b = nI t ∧ (1 ≤ s ∧ s < 2 ^ 31) ∧ st = nI s ∧ (t - f) / s < 60 ∧ zlsR U (if bI = 1 then 9 else 8) f s ((t - f) / s) r) (fun E d => (E = zNS ∧ d = w ∧ ¬ 0 < U.1 0) ∨ (0 < U.1 0 ∧ E = "java/lang/IllegalArgumentException" ∧ d = w ∧ ¬ (∃ f t s, f ≤ t ∧ t ≤ 9999 ∧ a = nI f ∧ b = nI t ∧ (1 ≤ s ∧ s < 2 ^ 31) ∧ st = nI s ∧ (t - f) / s < 60)) ∨ (0 < U.1 0 ∧ ∃ f t s, f ≤ t ∧ t ≤ 9999 ∧ a = nI f ∧ b = nI t ∧ (1 ≤ s ∧ s < 2 ^ 31) ∧ st = nI s ∧ (t - f) / s < 60 ∧ zlsX w U (if bI = 1 then 9 else 8) f s ((t - f) / s) E d)) := by
  refine zM.of2 mfX8_least (Nat.le_of_ble_eq_true rfl) (fun QR QX hQ hX0 => ?_)
  have hm0 := hm
  obtain ⟨⟨hm1, hm2⟩, hm3⟩ := hm
  have hC := hB.1
  have hU := hB.2.2.1.1
  have hcU := hB.2.2.1.2.1
  have h13 := hB.2.2.1.2.2
  have hp0 := hB.2.1.2.1 0 (by decide) (by decide)
  have hp8 := hU.1
  have hk0 := hC.1 0 (by decide)
  refine zJ_aload_n dX8_least_0 rfl ?_
  refine zJ_xV0 dX8_least_1 sX8_189 pX8_189 mfX8_needPeople (c_needPeople Δ w hC (U.1 0) hp0 hp8) rfl hk0 rfl (Nat.le_of_ble_eq_true rfl) ⟨Nat.le_of_ble_eq_true rfl, Nat.le_of_ble_eq_true rfl⟩ ⟨by show _ ≤ mc; omega, by show _ ≤ ms; omega⟩ (fun r c9 hP => ?_) (fun E c9 hX => hX0 _ _ (Or.inl ⟨hX.1, hX.2.1, hX.2.2⟩))
  obtain ⟨rfl, hw9, hP⟩ := hP
  obtain rfl := hw9.symm
  have hpos := hP
  have hsm : ∀ kf v, 8 ≤ kf → zsame U (zTal (zTs U kf v)) := fun kf v h => by rw [← zTs_al (by omega)]; exact (show zsame U (zTal U) from ⟨rfl, rfl, rfl, rfl, rfl⟩).s h
  by_cases hok2 : (∃ f t s, f ≤ t ∧ t ≤ 9999 ∧ a = nI f ∧ b = nI t ∧ (1 ≤ s ∧ s < 2 ^ 31) ∧ st = nI s ∧ (t - f) / s < 60)
  · have hok9 := hok2
    obtain ⟨f, t, s, hft, ht, rfl, rfl, ⟨hs, hs2⟩, rfl, h60⟩ := hok2
    have hkf : ∃ kf, kf = if bI = 1 then 9 else 8 := ⟨_, rfl⟩
    obtain ⟨kf, hkf⟩ := hkf
    have hkv : (kf = 9 ∧ bI = 1) ∨ (kf = 8 ∧ bI = 0) := by
      rcases hbI with h | h
      · right; rw [h] at hkf ⊢; exact ⟨hkf, rfl⟩
      · left; rw [h] at hkf ⊢; exact ⟨hkf, rfl⟩
    rw [← hkf] at hm0 hm3 hQ hX0
    have hok2 := hok9
    have hdv : nI (t - f) / nI s = nI ((t - f) / s) := nI_div (by omega) hs2
    have hms : (t - f) / s * s ≤ t - f := Nat.div_mul_le_self _ s
    have hsn : ¬ nI s = 0 := fun h => absurd ((nI_eq (b := 0) hs2 (by decide)).mp h) (by omega)
    obtain ⟨BG, hBG⟩ : ∃ BG : Prop, BG = ((∃ f_ t_ s_, f_ ≤ t_ ∧ t_ ≤ 9999 ∧ nI f = nI f_ ∧ nI t = nI t_ ∧ (1 ≤ s_ ∧ s_ < 2 ^ 31) ∧ nI s = nI s_ ∧ (t_ - f_) / s_ < 60) ∧ 0 < U.1 0 ∧ ∃ f_ t_ s_, nI f = nI f_ ∧ nI t = nI t_ ∧ nI s = nI s_ ∧ s_ < 2 ^ 31 ∧ f_ ≤ t_ ∧ t_ ≤ 9999 ∧ zlsB U kf f_ s_ ((t_ - f_) / s_)) := ⟨_, rfl⟩
    rw [← hBG] at hm0 hm3 hQ
    have hbig0 : zlsB U kf f s ((t - f) / s) → BG := fun h => by rw [hBG]; exact ⟨hok9, hpos, f, t, s, rfl, rfl, rfl, hs2, hft, ht, h⟩
    have hbig1 : BG → zlsB U kf f s ((t - f) / s) := fun h => by
      rw [hBG] at h
      obtain ⟨-, -, f2, t2, s2, e1, e2, e3, e4, e5, e6, h⟩ := h
      rw [(nI_eq (by omega) (by omega)).mp e1, (nI_eq (by omega) (by omega)).mp e2, (nI_eq (by omega) e4).mp e3]; exact h
    have hQ1 : ∀ d r, zFb w d → zB d U → zLw w d BG → zlsR U kf f s ((t - f) / s) r → QR r d := fun d r g1 g2 g3 g4 => hQ _ _ ⟨g1, g2, g3, hpos, f, t, s, hft, ht, rfl, rfl, ⟨hs, hs2⟩, rfl, h60, g4⟩
    have hX1 : ∀ E d, zlsX w U kf f s ((t - f) / s) E d → QX E d := fun E d g => hX0 _ _ (Or.inr (Or.inr ⟨hpos, f, t, s, hft, ht, rfl, rfl, ⟨hs, hs2⟩, rfl, h60, g⟩))
    generalize (t - f) / s = mm at h60 hms hdv hQ1 hX1 hbig0 hbig1
    have hTv : ∀ i, i ≤ mm → zTok (zZl U kf f s i) := fun i hi => by
      have : i * s ≤ t - f := Nat.le_trans (Nat.mul_le_mul_right s hi) hms
      exact (hU.s (by rcases hkv with ⟨rfl, -⟩ | ⟨rfl, -⟩ <;> omega)).al
    have L : ∀ i, i ≤ mm + 1 → ∀ (c : zW) (k n : Nat) (T : zTo), zFb w c → zB c U → zTi c 14 T → (∀ v, zTs T kf v = zTal (zTs U kf v)) → zHk w c BG (1 + i) k n → (∀ j, j < i → zfit (zZl U kf f s j) 20000 ∧ ¬ zZh U kf f s j ∧ (c.2.2.2 0 8 = none → zfit (zZl U kf f s j) 640)) → zJ Δ mX8_least (zRm 8 mc ms) false w.1 QR QX k n 78 [(6, .int (nI i)), (5, .int (nI (mm + 1))), (0, .ref 0), (1, .int bI), (2, .int (nI f)), (3, .int (nI t)), (4, .int (nI s))] [] c := by
      refine zup (fun i hi ih => ?_)
      intro c k n T hFc hBc hiT hTs hH hst
      have hk1 : c.1 0 = some (.inl 8) := hBc.1.1 0 (by decide)
      have hHk : k ≤ mc ∧ n ≤ ms := by
        rcases hH with ⟨h1, h2, h3⟩ | ⟨h1, h2, h3, h4, h5⟩
        · omega
        · have := hm3 h1 h2; omega
      have hlg : ∀ d : zW, (∀ j, j < i → d.2.2.2 0 8 = none → zfit (zZl U kf f s j) 640) → (d.2.2.2 0 8 = none ∨ d.2.2.2 0 8 = some 61) → zZh U kf f s (i - 1) ∨ i = mm + 1 → 0 < i → BG → d.2.2.2 0 8 = some 61 := fun d g1 g2 g3 g4 g5 => by
        rcases g2 with g2 | g2
        · obtain ⟨q, q1, q2, q3⟩ := hbig1 g5
          by_cases hq : q < i
          · exact absurd (g1 q hq g2) q2
          · rcases g3 with g3 | g3
            · exact absurd g3 (q3 (i - 1) (by omega)).2
            · omega
        · exact g2
      by_cases hi0 : i = mm + 1
      · have hge : nI (mm + 1) ≤ nI i := (nI_leI (by omega) (by omega)).mpr (by omega)
        have hQ9 : QR (some (.int (-1))) c := hQ1 c _ hFc hBc (hH.lw (hlg c (fun j hj => (hst j hj).2.2) hBc.lg (Or.inr hi0) (by omega))) ⟨mm, Nat.le_refl _, fun j hj => ⟨(hst j (by omega)).1, (hst j (by omega)).2.1⟩, Or.inr ⟨rfl, (hst mm (by omega)).1, (hst mm (by omega)).2.1, rfl⟩⟩
        refine zJ_iload dX8_least_78 rfl ?_
        refine zJ_iload dX8_least_80 rfl ?_
        refine zJ_icmp_ge (tgt := 145) dX8_least_82 (by decide) (fun h82 => ?_) (fun h9 => absurd hge h9)
        refine zJ_iconst (v := (-1)) dX8_least_145 (by decide) ?_
        exact zJ_iret dX8_least_146 rfl (by show _ ≤ mc; omega) (by show _ ≤ ms; omega) hQ9
      · have him : i ≤ mm := by omega
        have hism : i * s ≤ t - f := Nat.le_trans (Nat.mul_le_mul_right s him) hms
        have hlt0 : ¬ nI (mm + 1) ≤ nI i := fun h => absurd ((nI_leI (by omega) (by omega)).mp h) (by omega)
        have hAs0 : zAs c c U T := ⟨zFb.rf c, rfl, hBc, hiT⟩
        have hAs := hAs0.set (k := kf) (v := f + i * s) (by rcases hkv with ⟨rfl, -⟩ | ⟨rfl, -⟩ <;> decide) (by rcases hkv with ⟨rfl, -⟩ | ⟨rfl, -⟩ <;> decide)
        rw [hTs] at hAs
        have hAs : zAs c (zsi c 14 kf (nI (f + i * s))) U (zZl U kf f s i) := hAs
        have hBc2 := hAs.2.2.1
        have hZok := hTv i him
        obtain ⟨m1, m2, hc1, hc2, hc3, hc4, hc5, hc6⟩ := hH.call hm0 (T := (zZl U kf f s i)) (by omega) hBc (fun h h2 => hbig0 ⟨i, him, h, fun j hj => ⟨(hst j hj).2.2 h2, (hst j hj).2.1⟩⟩)
        have hp0Z : (zZl U kf f s i).1 0 = U.1 0 := by
          have : ¬ 0 = kf := by omega
          show (zTs U kf _).1 0 = _
          simp only [zTs, this, if_false]
        have h7Z : (zZl U kf f s i).1 7 = U.1 7 := by
          have : ¬ 7 = kf := by omega
          show (zTs U kf _).1 7 = _
          simp only [zTs, this, if_false]
        have GA := c_lastHandOfAll Δ _ U (zZl U kf f s i) hAs.2.2.1 hAs.2.2.2 hZok ((hcU.s (by omega)).al) (hsm kf (f + i * s) (by omega)) (fun p hp => by rw [hp0Z] at hp; show (if p < (zTs U kf _).1 0 then 3 else _) = 3; rw [if_pos (by have : (zTs U kf (f + i * s)).1 0 = U.1 0 := hp0Z; omega)]) (by omega) m1 m2 hc1 hc2 (fun h1 h2 => hc3 h1 (hAs.2.1 ▸ h2))
        have hko : zkok (zZl U kf f s i) (zlst (zZl U kf f s i) 11 (zfk (zZl U kf f s i))) := zlst_ok 11 _ (zgr_ok hZok 0 _ (by simp [zgr]))
        have hPa := zenc_parts hZok hko
        have hEl := zenc_lt hZok hko
        have h2k := hko.2.1
        rw [h7Z] at h2k
        have hU7 := hU.2.2.2.1
        have XX : ∀ E d, zSp (zsi c 14 kf (nI (f + i * s))) U (zZl U kf f s i) E d → QX E d := fun E d g => hX1 E d ⟨i, him, fun j hj => ⟨(hst j hj).1, (hst j hj).2.1⟩, g.1, g.2.1, (hFc.tr hAs.1).tr g.2.2.1, g.2.2.2.1, g.2.2.2.2⟩
        have FD : ∀ d, zFb (zsi c 14 kf (nI (f + i * s))) d → zB d U → zLf (zsi c 14 kf (nI (f + i * s))) d (zZl U kf f s i) → zfit (zZl U kf f s i) 20000 → (∀ j, j < i + 1 → d.2.2.2 0 8 = none → zfit (zZl U kf f s j) 640) := fun d e1 e2 e4 e5 j hj h9 => by
          by_cases hji : j = i
          · subst hji
            by_cases hf : zfit (zZl U kf f s j) 640
            · exact hf
            · rw [e4.2 hf] at h9; exact absurd h9 (by simp)
          · have : c.2.2.2 0 8 = none := by
              by_cases hf : zfit (zZl U kf f s i) 640
              · rw [← hAs.2.1, ← e4.1 hf]; exact h9
              · rw [e4.2 hf] at h9; exact absurd h9 (by simp)
            exact (hst j (by omega)).2.2 this
        have HH : ∀ d, zLf (zsi c 14 kf (nI (f + i * s))) d (zZl U kf f s i) → zHk w d BG (1 + i + 1) (k + m1) (n + m2) := fun d e4 => hc6 d ⟨fun h => (e4.1 h).trans hAs.2.1, e4.2⟩
        rcases hkv with ⟨rfl, rfl⟩ | ⟨rfl, rfl⟩
        · refine zJ_iload dX8_least_78 rfl ?_
          refine zJ_iload dX8_least_80 rfl ?_
          refine zJ_icmp_ge (tgt := 145) dX8_least_82 (by decide) (fun h9 => absurd h9 hlt0) (fun h82k9 => ?_)
          refine zJ_iload_n dX8_least_85 rfl ?_
          refine zJ_iload dX8_least_86 rfl ?_
          refine zJ_iload dX8_least_88 rfl ?_
          refine zJ_imul dX8_least_90 ?_
          rw [na_mul]
          refine zJ_iadd dX8_least_91 ?_
          rw [na_add]
          refine zJ_istore (ls2 := fun x92k9 => [(7, .int x92k9), (6, .int (nI i)), (5, .int (nI (mm + 1))), (0, .ref 0), (1, .int 1), (2, .int (nI f)), (3, .int (nI t)), (4, .int (nI s))]) dX8_least_92 (by decide) (fun _ => rfl) (fun x92k9 ex92k9 => ?_)
          obtain rfl : x92k9 = (nI (f + i * s)) := ex92k9
          refine zJ_iload_n dX8_least_94 rfl ?_
          refine zJ_if_eq (tgt := 110) dX8_least_95 (by decide) (fun h9 => False.elim (by revert h9; decide)) (fun _ => ?_)
          refine zJ_aload_n dX8_least_98 rfl ?_
          refine zJ_getr dX8_least_99 fX8_36 (by first | rfl | assumption | exact hBc.1.1 _ (by decide) | exact hBd.1.1 _ (by decide)) rfl (by first | rfl | assumption | exact hBc.1.2 _ _ rfl | exact hBd.1.2 _ _ rfl) ?_
          refine zJ_iload dX8_least_102 rfl ?_
          refine zJ_puti dX8_least_104 fX8_132 (fun q h => by cases h; rfl) (by first | rfl | assumption | exact hBc.1.1 _ (by decide) | exact hBd.1.1 _ (by decide)) rfl rfl rfl ?_
          refine zJ_goto (tgt := 119) dX8_least_107 (by decide) ?_
          refine zJ_aload_n dX8_least_119 rfl ?_
          refine zJ_yV0 dX8_least_120 sX8_209 pX8_209 mfX8_lastHandOfAll GA rfl hk1 rfl ⟨rfl, by simp [zokv, zpush], by simp [lv_args, Value.category, zokv, hk1, zsi]⟩ (Nat.le_of_ble_eq_true rfl) ⟨Nat.le_of_ble_eq_true rfl, Nat.le_of_ble_eq_true rfl⟩ ⟨by show _ ≤ mc; omega, by show _ ≤ ms; omega⟩ (fun r d hP9 => ?_) (fun E d hX => XX E d hX)
          obtain ⟨e1, hBd, e3, e4, e5, rfl⟩ := hP9
          refine zJ_cS1 dX8_least_123 sX8_218 mfX6_handOf (c_Ways_handOf Δ d (zenc (zZl U 9 f s i) (zlst (zZl U 9 f s i) 11 (zfk (zZl U 9 f s i)))) (by omega)) (Nat.le_of_ble_eq_true rfl) ⟨Nat.le_of_ble_eq_true rfl, Nat.le_of_ble_eq_true rfl⟩ ⟨by show _ ≤ mc; omega, by show _ ≤ ms; omega⟩ ?_
          rw [hPa.2.1]
          refine zJ_aload_n dX8_least_126 rfl ?_
          refine zJ_getr dX8_least_127 fX8_32 (by first | rfl | assumption | exact hBc.1.1 _ (by decide) | exact hBd.1.1 _ (by decide)) rfl (by first | rfl | assumption | exact hBc.1.2 _ _ rfl | exact hBd.1.2 _ _ rfl) ?_
          refine zJ_geti dX8_least_130 fX8_126 (by first | rfl | assumption | exact hBc.1.1 _ (by decide) | exact hBd.1.1 _ (by decide)) rfl ?_
          rw [show d.2.1 9 7 = nI (U.1 7) from hBd.2.1.2.1 7 (by decide) (by decide)]
          refine zJ_icmp_ne (tgt := 139) dX8_least_133 (by decide) (fun h133k9 => ?_) (fun h133k9 => ?_)
          · have hnh : ¬ zZh U 9 f s i := fun h => h133k9 (congrArg nI h)
            refine zJ_iinc (ls2 := fun x139k9 => [(6, .int x139k9), (7, .int (nI (f + i * s))), (5, .int (nI (mm + 1))), (0, .ref 0), (1, .int 1), (2, .int (nI f)), (3, .int (nI t)), (4, .int (nI s))]) dX8_least_139 rfl (by decide) (fun _ => rfl) (fun x139k9 ex139k9 => ?_)
            refine zJ_goto (tgt := 78) dX8_least_142 (by decide) ?_
            refine zJ_ls [(6, .int x139k9), (5, .int (nI (mm + 1))), (0, .ref 0), (1, .int 1), (2, .int (nI f)), (3, .int (nI t)), (4, .int (nI s))] (by simp) ?_
            rw [ex139k9, show nI i + Int32.ofInt 1 = nI (i + 1) from nI_1 _]
            refine ih (i + 1) (by omega) (by omega) d (k + m1) (n + m2) (zZl U 9 f s i) ((hFc.tr hAs.1).tr e1) hBd e3 (fun v => ?_) (HH d e4) (fun j hj => ?_)
            · show zTs (zTal (zTs U 9 _)) 9 v = _
              rw [zTs_al (by omega), zTs_2]
            · refine ⟨?_, ?_, fun h9 => FD d e1 hBd e4 e5 j hj h9⟩
              · by_cases hji : j = i
                · rw [hji]; exact e5
                · exact (hst j (by omega)).1
              · by_cases hji : j = i
                · rw [hji]; exact hnh
                · exact (hst j (by omega)).2.1
          · have hyh : zZh U 9 f s i := (nI_eq (by omega) (by omega)).mp h133k9
            refine zJ_iload dX8_least_136 rfl ?_
            exact zJ_iret dX8_least_138 rfl (by show _ ≤ mc; omega) (by show _ ≤ ms; omega) (hQ1 d _ ((hFc.tr hAs.1).tr e1) hBd ((HH d e4).lw (fun h => hBd.lg.elim (fun g => by obtain ⟨q, q1, q2, q3⟩ := hbig1 h; exact absurd (FD d e1 hBd e4 e5 q (Nat.lt_of_not_le fun hq => (q3 i (by omega)).2 hyh) g) q2) (fun g => g))) ⟨i, him, fun j hj => ⟨(hst j hj).1, (hst j hj).2.1⟩, Or.inl ⟨e5, hyh, rfl⟩⟩)
        · refine zJ_iload dX8_least_78 rfl ?_
          refine zJ_iload dX8_least_80 rfl ?_
          refine zJ_icmp_ge (tgt := 145) dX8_least_82 (by decide) (fun h9 => absurd h9 hlt0) (fun h82k8 => ?_)
          refine zJ_iload_n dX8_least_85 rfl ?_
          refine zJ_iload dX8_least_86 rfl ?_
          refine zJ_iload dX8_least_88 rfl ?_
          refine zJ_imul dX8_least_90 ?_
          rw [na_mul]
          refine zJ_iadd dX8_least_91 ?_
          rw [na_add]
          refine zJ_istore (ls2 := fun x92k8 => [(7, .int x92k8), (6, .int (nI i)), (5, .int (nI (mm + 1))), (0, .ref 0), (1, .int 0), (2, .int (nI f)), (3, .int (nI t)), (4, .int (nI s))]) dX8_least_92 (by decide) (fun _ => rfl) (fun x92k8 ex92k8 => ?_)
          obtain rfl : x92k8 = (nI (f + i * s)) := ex92k8
          refine zJ_iload_n dX8_least_94 rfl ?_
          refine zJ_if_eq (tgt := 110) dX8_least_95 (by decide) (fun _ => ?_) (fun h9 => False.elim (by revert h9; decide))
          refine zJ_aload_n dX8_least_110 rfl ?_
          refine zJ_getr dX8_least_111 fX8_36 (by first | rfl | assumption | exact hBc.1.1 _ (by decide) | exact hBd.1.1 _ (by decide)) rfl (by first | rfl | assumption | exact hBc.1.2 _ _ rfl | exact hBd.1.2 _ _ rfl) ?_
          refine zJ_iload dX8_least_114 rfl ?_
          refine zJ_puti dX8_least_116 fX8_129 (fun q h => by cases h; rfl) (by first | rfl | assumption | exact hBc.1.1 _ (by decide) | exact hBd.1.1 _ (by decide)) rfl rfl rfl ?_
          refine zJ_aload_n dX8_least_119 rfl ?_
          refine zJ_yV0 dX8_least_120 sX8_209 pX8_209 mfX8_lastHandOfAll GA rfl hk1 rfl ⟨rfl, by simp [zokv, zpush], by simp [lv_args, Value.category, zokv, hk1, zsi]⟩ (Nat.le_of_ble_eq_true rfl) ⟨Nat.le_of_ble_eq_true rfl, Nat.le_of_ble_eq_true rfl⟩ ⟨by show _ ≤ mc; omega, by show _ ≤ ms; omega⟩ (fun r d hP9 => ?_) (fun E d hX => XX E d hX)
          obtain ⟨e1, hBd, e3, e4, e5, rfl⟩ := hP9
          refine zJ_cS1 dX8_least_123 sX8_218 mfX6_handOf (c_Ways_handOf Δ d (zenc (zZl U 8 f s i) (zlst (zZl U 8 f s i) 11 (zfk (zZl U 8 f s i)))) (by omega)) (Nat.le_of_ble_eq_true rfl) ⟨Nat.le_of_ble_eq_true rfl, Nat.le_of_ble_eq_true rfl⟩ ⟨by show _ ≤ mc; omega, by show _ ≤ ms; omega⟩ ?_
          rw [hPa.2.1]
          refine zJ_aload_n dX8_least_126 rfl ?_
          refine zJ_getr dX8_least_127 fX8_32 (by first | rfl | assumption | exact hBc.1.1 _ (by decide) | exact hBd.1.1 _ (by decide)) rfl (by first | rfl | assumption | exact hBc.1.2 _ _ rfl | exact hBd.1.2 _ _ rfl) ?_
          refine zJ_geti dX8_least_130 fX8_126 (by first | rfl | assumption | exact hBc.1.1 _ (by decide) | exact hBd.1.1 _ (by decide)) rfl ?_
          rw [show d.2.1 9 7 = nI (U.1 7) from hBd.2.1.2.1 7 (by decide) (by decide)]
          refine zJ_icmp_ne (tgt := 139) dX8_least_133 (by decide) (fun h133k8 => ?_) (fun h133k8 => ?_)
          · have hnh : ¬ zZh U 8 f s i := fun h => h133k8 (congrArg nI h)
            refine zJ_iinc (ls2 := fun x139k8 => [(6, .int x139k8), (7, .int (nI (f + i * s))), (5, .int (nI (mm + 1))), (0, .ref 0), (1, .int 0), (2, .int (nI f)), (3, .int (nI t)), (4, .int (nI s))]) dX8_least_139 rfl (by decide) (fun _ => rfl) (fun x139k8 ex139k8 => ?_)
            refine zJ_goto (tgt := 78) dX8_least_142 (by decide) ?_
            refine zJ_ls [(6, .int x139k8), (5, .int (nI (mm + 1))), (0, .ref 0), (1, .int 0), (2, .int (nI f)), (3, .int (nI t)), (4, .int (nI s))] (by simp) ?_
            rw [ex139k8, show nI i + Int32.ofInt 1 = nI (i + 1) from nI_1 _]
            refine ih (i + 1) (by omega) (by omega) d (k + m1) (n + m2) (zZl U 8 f s i) ((hFc.tr hAs.1).tr e1) hBd e3 (fun v => ?_) (HH d e4) (fun j hj => ?_)
            · show zTs (zTal (zTs U 8 _)) 8 v = _
              rw [zTs_al (by omega), zTs_2]
            · refine ⟨?_, ?_, fun h9 => FD d e1 hBd e4 e5 j hj h9⟩
              · by_cases hji : j = i
                · rw [hji]; exact e5
                · exact (hst j (by omega)).1
              · by_cases hji : j = i
                · rw [hji]; exact hnh
                · exact (hst j (by omega)).2.1
          · have hyh : zZh U 8 f s i := (nI_eq (by omega) (by omega)).mp h133k8
            refine zJ_iload dX8_least_136 rfl ?_
            exact zJ_iret dX8_least_138 rfl (by show _ ≤ mc; omega) (by show _ ≤ ms; omega) (hQ1 d _ ((hFc.tr hAs.1).tr e1) hBd ((HH d e4).lw (fun h => hBd.lg.elim (fun g => by obtain ⟨q, q1, q2, q3⟩ := hbig1 h; exact absurd (FD d e1 hBd e4 e5 q (Nat.lt_of_not_le fun hq => (q3 i (by omega)).2 hyh) g) q2) (fun g => g))) ⟨i, him, fun j hj => ⟨(hst j hj).1, (hst j hj).2.1⟩, Or.inl ⟨e5, hyh, rfl⟩⟩)
    refine zJ_iload_n dX8_least_4 rfl ?_
    refine zJ_if_lt (tgt := 37) dX8_least_5 (by decide) (fun h9 => absurd h9 (fun h => absurd h (Int32.not_lt.mpr ((nI_leI (a := 0) (by decide) (by omega)).mpr (Nat.zero_le _))))) (fun h5w => ?_)
    refine zJ_iload_n dX8_least_8 rfl ?_
    refine zJ_sipush (v := 9999) dX8_least_9 (by decide) ?_
    refine zJ_icmp_gt (tgt := 37) dX8_least_12 (by decide) (fun h9 => absurd h9 (fun h => absurd ((nI_ltI (a := 9999) (by decide) (by omega)).mp h) (by omega))) (fun h12w => ?_)
    refine zJ_iload_n dX8_least_15 rfl ?_
    refine zJ_iload_n dX8_least_16 rfl ?_
    refine zJ_icmp_gt (tgt := 37) dX8_least_17 (by decide) (fun h9 => absurd h9 (fun h => absurd ((nI_ltI (by omega) (by omega)).mp h) (by omega))) (fun h17w => ?_)
    refine zJ_iload dX8_least_20 rfl ?_
    refine zJ_iconst (v := 1) dX8_least_22 (by decide) ?_
    refine zJ_icmp_lt (tgt := 37) dX8_least_23 (by decide) (fun h9 => absurd h9 (fun h => absurd ((nI_ltI (b := 1) (by omega) (by decide)).mp h) (by omega))) (fun h23w => ?_)
    refine zJ_iload_n dX8_least_26 rfl ?_
    refine zJ_iload_n dX8_least_27 rfl ?_
    refine zJ_isub dX8_least_28 ?_
    rw [na_sub hft]
    refine zJ_iload dX8_least_29 rfl ?_
    refine zJ_idiv dX8_least_31 hsn ?_
    rw [hdv]
    refine zJ_bipush (v := 60) dX8_least_32 (by decide) ?_
    refine zJ_icmp_lt (tgt := 47) dX8_least_34 (by decide) (fun h34w => ?_) (fun h9 => absurd ((nI_ltI (b := 60) (by omega) (by decide)).mpr h60) h9)
    refine zJ_aload_n dX8_least_47 rfl ?_
    refine zJ_getr dX8_least_48 fX8_36 (by first | rfl | assumption | exact hC.1 _ (by decide) | exact hAs.2.2.1.1.1 _ (by decide) | exact (zfin hAs hFa hf hO2 hx hR).2.1.1 _ (by decide)) rfl (by first | rfl | assumption | exact hC.2 _ _ rfl | exact hAs.2.2.1.1.2 _ _ rfl | exact (zfin hAs hFa hf hO2 hx hR).2.1.2 _ _ rfl) ?_
    refine zJ_aload_n dX8_least_51 rfl ?_
    refine zJ_getr dX8_least_52 fX8_32 (by first | rfl | assumption | exact hC.1 _ (by decide) | exact hAs.2.2.1.1.1 _ (by decide) | exact (zfin hAs hFa hf hO2 hx hR).2.1.1 _ (by decide)) rfl (by first | rfl | assumption | exact hC.2 _ _ rfl | exact hAs.2.2.1.1.2 _ _ rfl | exact (zfin hAs hFa hf hO2 hx hR).2.1.2 _ _ rfl) ?_
    refine zJ_cV1 dX8_least_55 sX8_110 mfX5_copy (c_Town_copy Δ w 14 9 (zTn14 hC) hB.2.1.1 (by decide)) (hC.1 14 (by decide)) rfl (Nat.le_of_ble_eq_true rfl) ⟨Nat.le_of_ble_eq_true rfl, Nat.le_of_ble_eq_true rfl⟩ ⟨by show _ ≤ mc; omega, by show _ ≤ ms; omega⟩ ?_
    refine zJ_aload_n dX8_least_58 rfl ?_
    refine zJ_getr dX8_least_59 fX8_36 (by first | rfl | assumption | exact hC.1 _ (by decide) | exact hAs.2.2.1.1.1 _ (by decide) | exact (zfin hAs hFa hf hO2 hx hR).2.1.1 _ (by decide)) rfl (by first | rfl | assumption | exact hC.2 _ _ rfl | exact hAs.2.2.1.1.2 _ _ rfl | exact (zfin hAs hFa hf hO2 hx hR).2.1.2 _ _ rfl) ?_
    refine zJ_cV0 dX8_least_62 sX8_206 mfX5_letAllReckon (c_Town_letAllReckon Δ (ztowc w 14 9) 14 (U.1 0) (zTn14 hC) ((zAs.copy hB).2.2.2.2.1 0 (by decide) (by decide)) hp8) (hC.1 14 (by decide)) rfl (Nat.le_of_ble_eq_true rfl) ⟨Nat.le_of_ble_eq_true rfl, Nat.le_of_ble_eq_true rfl⟩ ⟨by show _ ≤ mc; omega, by show _ ≤ ms; omega⟩ ?_
    refine zJ_iload_n dX8_least_65 rfl ?_
    refine zJ_iload_n dX8_least_66 rfl ?_
    refine zJ_isub dX8_least_67 ?_
    rw [na_sub hft]
    refine zJ_iload dX8_least_68 rfl ?_
    refine zJ_idiv dX8_least_70 hsn ?_
    rw [hdv]
    refine zJ_iconst (v := 1) dX8_least_71 (by decide) ?_
    refine zJ_iadd dX8_least_72 ?_
    rw [show nI mm + 1 = nI (mm + 1) from nI_1 _]
    refine zJ_istore (ls2 := fun x73w => [(5, .int x73w), (0, .ref 0), (1, .int bI), (2, .int (nI f)), (3, .int (nI t)), (4, .int (nI s))]) dX8_least_73 (by decide) (fun _ => rfl) (fun x73w ex73w => ?_)
    obtain rfl : x73w = (nI (mm + 1)) := ex73w
    refine zJ_iconst (v := 0) dX8_least_75 (by decide) ?_
    refine zJ_istore (ls2 := fun x76w => [(6, .int x76w), (5, .int (nI (mm + 1))), (0, .ref 0), (1, .int bI), (2, .int (nI f)), (3, .int (nI t)), (4, .int (nI s))]) dX8_least_76 (by decide) (fun _ => rfl) (fun x76w ex76w => ?_)
    obtain rfl : x76w = (nI 0) := ex76w
    refine zJ_ls [(6, .int (nI 0)), (5, .int (nI (mm + 1))), (0, .ref 0), (1, .int bI), (2, .int (nI f)), (3, .int (nI t)), (4, .int (nI s))] (by simp) ?_
    have hA2 := ((zAs.copy hB).al hU)
    exact L 0 (Nat.zero_le _) _ _ _ (zTal U) hA2.1 hA2.2.2.1 hA2.2.2.2 (fun v => zTs_al (by omega)) (Or.inl ⟨hA2.2.1, by omega, by omega⟩) (fun j hj => absurd hj (Nat.not_lt_zero j))
  · skip
    refine zJ_iload_n dX8_least_4 rfl ?_
    refine zJ_if_lt (tgt := 37) dX8_least_5 (by decide) (fun h5v => ?_) (fun h5v => ?_)
    · exact zJ_throwI (text := "numbers not as told") (j := 20) dX8_least_37 dX8_least_40 dX8_least_41 dX8_least_43 dX8_least_46 rfl rfl (by decide +kernel) (Nat.le_of_ble_eq_true rfl) (Nat.le_of_ble_eq_true rfl) (by show _ ≤ mc; omega) (by show _ ≤ ms; omega) (hX0 _ _ (Or.inr (Or.inl ⟨hpos, rfl, rfl, hok2⟩)))
    · refine zJ_iload_n dX8_least_8 rfl ?_
      refine zJ_sipush (v := 9999) dX8_least_9 (by decide) ?_
      refine zJ_icmp_gt (tgt := 37) dX8_least_12 (by decide) (fun h12v => ?_) (fun h12v => ?_)
      · exact zJ_throwI (text := "numbers not as told") (j := 20) dX8_least_37 dX8_least_40 dX8_least_41 dX8_least_43 dX8_least_46 rfl rfl (by decide +kernel) (Nat.le_of_ble_eq_true rfl) (Nat.le_of_ble_eq_true rfl) (by show _ ≤ mc; omega) (by show _ ≤ ms; omega) (hX0 _ _ (Or.inr (Or.inl ⟨hpos, rfl, rfl, hok2⟩)))
      · refine zJ_iload_n dX8_least_15 rfl ?_
        refine zJ_iload_n dX8_least_16 rfl ?_
        refine zJ_icmp_gt (tgt := 37) dX8_least_17 (by decide) (fun h17v => ?_) (fun h17v => ?_)
        · exact zJ_throwI (text := "numbers not as told") (j := 20) dX8_least_37 dX8_least_40 dX8_least_41 dX8_least_43 dX8_least_46 rfl rfl (by decide +kernel) (Nat.le_of_ble_eq_true rfl) (Nat.le_of_ble_eq_true rfl) (by show _ ≤ mc; omega) (by show _ ≤ ms; omega) (hX0 _ _ (Or.inr (Or.inl ⟨hpos, rfl, rfl, hok2⟩)))
        · refine zJ_iload dX8_least_20 rfl ?_
          refine zJ_iconst (v := 1) dX8_least_22 (by decide) ?_
          refine zJ_icmp_lt (tgt := 37) dX8_least_23 (by decide) (fun h23v => ?_) (fun h23v => ?_)
          · exact zJ_throwI (text := "numbers not as told") (j := 20) dX8_least_37 dX8_least_40 dX8_least_41 dX8_least_43 dX8_least_46 rfl rfl (by decide +kernel) (Nat.le_of_ble_eq_true rfl) (Nat.le_of_ble_eq_true rfl) (by show _ ≤ mc; omega) (by show _ ≤ ms; omega) (hX0 _ _ (Or.inr (Or.inl ⟨hpos, rfl, rfl, hok2⟩)))
          · refine zJ_iload_n dX8_least_26 rfl ?_
            refine zJ_iload_n dX8_least_27 rfl ?_
            refine zJ_isub dX8_least_28 ?_
            refine zJ_iload dX8_least_29 rfl ?_
            refine zJ_idiv dX8_least_31 (fun h => h23v (by rw [h]; decide)) ?_
            refine zJ_bipush (v := 60) dX8_least_32 (by decide) ?_
            refine zJ_icmp_lt (tgt := 47) dX8_least_34 (by decide) (fun h34v => ?_) (fun h34v => ?_)
            · obtain ⟨f, hf31, rfl⟩ := nI_of h5v
              have hle9 : nI f ≤ b := Int32.not_lt.mp h17v
              obtain ⟨t, ht31, rfl⟩ := nI_of (fun h => h5v (Int32.lt_of_le_of_lt hle9 h))
              obtain ⟨s, hs31, rfl⟩ := nI_of (fun h => h23v (Int32.lt_trans h (by decide)))
              have hft : f ≤ t := (nI_leI (by omega) (by omega)).mp hle9
              rw [na_sub hft, nI_div (by omega) hs31] at h34v
              have hd31 : (t - f) / s < 2 ^ 31 := Nat.lt_of_le_of_lt (Nat.div_le_self (t - f) s) (by omega)
              exact absurd ⟨f, t, s, hft, (nI_leI (b := 9999) (by omega) (by decide)).mp (Int32.not_lt.mp h12v), rfl, rfl, ⟨(nI_leI (a := 1) (by decide) (by omega)).mp (Int32.not_lt.mp h23v), hs31⟩, rfl, (nI_ltI (b := 60) hd31 (by decide)).mp h34v⟩ hok2
            · exact zJ_throwI (text := "numbers not as told") (j := 20) dX8_least_37 dX8_least_40 dX8_least_41 dX8_least_43 dX8_least_46 rfl rfl (by decide +kernel) (Nat.le_of_ble_eq_true rfl) (Nat.le_of_ble_eq_true rfl) (by show _ ≤ mc; omega) (by show _ ≤ ms; omega) (hX0 _ _ (Or.inr (Or.inl ⟨hpos, rfl, rfl, hok2⟩)))
