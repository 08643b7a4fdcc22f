/-! LetterTown$Play: reckon, choose -/
def zFq (w c : zW) (b : Nat) : Prop := c.1 = w.1 ∧ c.2.2.2 = w.2.2.2 ∧ (∀ a j, a ≠ b + 13 → a ≠ b + 18 → (a ≠ b ∨ (j ≠ 10 ∧ j ≠ 13 ∧ j ≠ 14)) → c.2.1 a j = w.2.1 a j) ∧ (∀ a j, a ≠ b + 11 → a ≠ b + 12 → a ≠ b + 17 → c.2.2.1 a j = w.2.2.1 a j)
theorem zFq.rf (w : zW) (b : Nat) : zFq w w b := ⟨rfl, rfl, fun _ _ _ _ _ => rfl, fun _ _ _ _ _ => rfl⟩
theorem zFq.tr {w c d : zW} {b : Nat} (h1 : zFq w c b) (h2 : zFq c d b) : zFq w d b := ⟨h2.1.trans h1.1, h2.2.1.trans h1.2.1, fun a j x y z => (h2.2.2.1 a j x y z).trans (h1.2.2.1 a j x y z), fun a j x y z => (h2.2.2.2 a j x y z).trans (h1.2.2.2 a j x y z)⟩
theorem zFq.fp {w c : zW} {b : Nat} (h : zFq w c b) : zFp w c b := ⟨h.1, h.2.1, fun a j h1 h2 h3 => h.2.2.1 a j h1 h2 (h3.elim Or.inl (fun h4 => Or.inr ⟨h4.1, h4.2.2.1, h4.2.2.2⟩)), fun a j h1 => h.2.2.2 a j (by omega) (by omega) (by omega)⟩
theorem zFh.fq {w c : zW} {b x : Nat} (h : zFh w c b x) : zFq w c b := ⟨h.1, h.2.1, fun a j h1 _ _ => h.2.2.1 a j (Or.inl h1), fun a j h1 h2 h3 => h.2.2.2 a j h3 (Or.inl h1) (Or.inl h2)⟩
theorem zFq.i {w : zW} {b a j : Nat} {x : Int32} (h : a = b + 13 ∨ a = b + 18 ∨ (a = b ∧ (j = 10 ∨ j = 13 ∨ j = 14))) : zFq w (zsi w a j x) b := ⟨rfl, rfl, fun a2 j2 h1 h2 h3 => by
  have h4 : ¬ (a2 = a ∧ j2 = j) := by omega
  simp [zsi, h4], fun _ _ _ _ _ => rfl⟩
/-- all is reckoned from n on, for the people of W -/
def zUp (w : zW) (b : Nat) (T : zTo) (K : List zKy) (W n : Nat) : Prop := ∀ (x : Nat) (k : zKy), n ≤ x → K[x]? = some k → w.2.2.1 (b + 11) x = lN (zvl T k).1 ∧ (∀ p, p < 8 → W.testBit p = true → w.2.2.1 (b + 12) (x * 8 + p) = lZ ((zvl T k).2.1 p)) ∧ (T.2.1 k.1 = 3 → w.2.1 (b + 13) x = zoi (zvl T k).2.2)
def zGa (w : zW) (b : Nat) (T : zTo) (K : List zKy) : Prop := w.2.1 b 13 = 0 ∨ (w.2.1 b 13 = 1 ∧ ∃ W, W < 256 ∧ w.2.1 b 14 = nI W ∧ (∀ p, p < 8 → T.2.1 p = 3 → W.testBit p = true) ∧ zUp w b T K W 0)
theorem zall_pos {T : zTo} {K : List zKy} (h : zall T K) : 0 < K.length := by
  obtain ⟨n, rfl, -⟩ := h
  have := zgr_len T 0 n
  rw [Nat.zero_add] at this
  have h1 : (zgr T 0).length = 1 := rfl
  omega
theorem zUp.ch {w : zW} {b : Nat} {T : zTo} {K : List zKy} {W x : Nat} {k : zKy} (h : zUp w b T K W (x + 1)) (hK : zall T K) (hx : K[x]? = some k) : zCh w b T K k W := fun y _ _ c hc => by
  have h1 := zall_up hK hx hc
  obtain ⟨a1, a2, -⟩ := h c _ h1 hc
  exact ⟨a1, a2⟩
set_option maxRecDepth 100000 in
theorem c_Play_reckon (Δ : zD) (w : zW) (b R m : Nat) (T : zTo) (K : List zKy) (hG : zGr w b R m T K) (P : Nat) (hP8 : P < 256) (hga : zGa w b T K) : zMp Δ 5 yX1_reckon mX1_reckon [.ref b, .int (nI P)] w (fun a c => a = none ∧ zFq w c b ∧ c.2.1 b 13 = 1 ∧ ∃ W, W < 256 ∧ c.2.1 b 14 = nI W ∧ (∀ p, p < 8 → T.2.1 p = 3 → W.testBit p = true) ∧ (∀ p, p < T.1 0 → P.testBit p = true → W.testBit p = true) ∧ zUp c b T K W 0) := by
  refine zMp.of mfX1_reckon (Nat.le_of_ble_eq_true rfl) (fun QR hQ => ?_)
  have hG0 := hG
  obtain ⟨⟨p0, q0, q1, q2, q3, q4, q5, q6, q7, q8, q9, s11, s12, s13, s14, s15, s16, s17, s18, hS⟩, hi, hT, hall, hL, hrow⟩ := hG
  have hS0 := hS
  obtain ⟨g0, r1, r2, r3, r4, g1, g2, g3, g4, hR, hRm, hm, hR0⟩ := hS
  have hi0 := hi
  obtain ⟨t0, u1, u2, u3, u4, t1, t2, t3, t4⟩ := hi.1
  obtain ⟨-, hsc, hso, hnu, hkn, hwt⟩ := hi
  have hT0 := hT
  obtain ⟨hp0, hp5, hp6, hp7, hp8, hp9, hp10, hp11, hp12, hp13, hpp, hpw⟩ := hT
  have hm2 : 2 ^ m ≤ 2 ^ 15 := Nat.pow_le_pow_right (by decide) hm
  have hKR : K.length ≤ R := hL.2.2.1
  have hsh : (1 : Int32) <<< (nI (T.1 0) &&& 31) = nI (2 ^ T.1 0) := na_shl _ (by omega)
  have hzr : zbits (zrk w (b + 1)) (T.1 0) = zbits (fun p => decide (T.2.1 p = 3)) (T.1 0) := zbits_c fun p hp => by
    simp only [zrk]
    rw [hso p (by omega)]
    have h1 := (hpp p).1
    simp only [show (3 : Int32) = nI 3 from rfl, nI_eq (show T.2.1 p < 2 ^ 31 by omega) (show 3 < 2 ^ 31 by decide)]
  generalize hWd : (P ||| zbits (fun p => decide (T.2.1 p = 3)) (T.1 0)) &&& (2 ^ T.1 0 - 1) = W
  have hpw8 : 2 ^ T.1 0 ≤ 2 ^ 8 := Nat.pow_le_pow_right (by decide) hp0
  have hW8 : W < 256 := by
    rw [← hWd, Nat.and_two_pow_sub_one_eq_mod]
    exact Nat.lt_of_lt_of_le (Nat.mod_lt _ (Nat.two_pow_pos _)) hpw8
  have hWt : ∀ p, W.testBit p = ((P.testBit p || (decide (p < T.1 0) && decide (T.2.1 p = 3))) && decide (p < T.1 0)) := fun p => by
    rw [← hWd, Nat.testBit_and, Nat.testBit_or, Nat.testBit_two_pow_sub_one, zbits_tb]
  have hW3 : ∀ p, p < 8 → T.2.1 p = 3 → W.testBit p = true := fun p hp h3 => by
    have h1 : p < T.1 0 := Nat.lt_of_not_le fun h => by rw [(hpp p).2.2.2 h] at h3; cases h3
    rw [hWt]; simp [h1, h3]
  have hWP : ∀ p, p < T.1 0 → P.testBit p = true → W.testBit p = true := fun p h1 h2 => by
    rw [hWt]; simp [h1, h2]
  have hK0 := zall_pos hall
  have L2 : ∀ (n : Nat) (cl : Nat → Nat) (j : Nat), j ≤ K.length → ∀ w1, zFq w w1 b → zCo w1 b W n cl → zUp w1 b T K W j → zJ Δ mX1_reckon (zRm 5 0 0) true w.1 QR (fun _ _ => False) 0 0 94 [(3, .int (nI j - 1)), (2, .int (nI W)), (0, .ref b), (1, .int (nI P))] [] w1 := by
    intro n cl
    refine zdn (fun j ih hj w1 hf hco hup => ?_)
    have hG1 : zGr w1 b R m T K := hG0.fp hf.fp
    have p1 : w1.1 b = some (.inl 1) := by rw [hf.1]; exact p0
    refine zJ_iload_n dX1_reckon_94 rfl ?_
    refine zJ_if_lt (tgt := 109) dX1_reckon_95 (by decide) (fun h95 => ?_) (fun h95 => ?_)
    · have hj0 : j = 0 := by
        cases j with
        | zero => rfl
        | succ x => rw [nI_pred] at h95; exact absurd ((nI_ltI (a := x) (b := 0) (by omega) (by decide)).mp h95) (by omega)
      have hj1 := hj0.symm
      subst hj1
      refine zJ_aload_n dX1_reckon_109 rfl ?_
      refine zJ_iconst (v := 1) dX1_reckon_110 (by decide) ?_
      refine zJ_puti dX1_reckon_111 fX1_71 (fun q h => by cases h; rfl) (by first | rfl | assumption) rfl rfl rfl ?_
      refine zJ_aload_n dX1_reckon_114 rfl ?_
      refine zJ_iload_n dX1_reckon_115 rfl ?_
      refine zJ_puti dX1_reckon_116 fX1_88 (fun q h => by cases h; rfl) (by first | rfl | assumption) rfl rfl rfl ?_
      exact zJ_vret dX1_reckon_119 rfl (by decide) (by decide) (hQ _ _ ⟨rfl, (hf.tr (zFq.i (Or.inr (Or.inr ⟨rfl, Or.inr (Or.inl rfl)⟩)))).tr (zFq.i (Or.inr (Or.inr ⟨rfl, Or.inr (Or.inr rfl)⟩))), by simp [zsi], W, hW8, by simp [zsi], hW3, hWP, fun x2 k2 hx2 hk2 => by
  obtain ⟨a1, a2, a3⟩ := hup x2 k2 hx2 hk2
  exact ⟨a1, a2, fun h => by rw [← a3 h]; simp [zsi]⟩⟩)
    · obtain ⟨x, rfl⟩ : ∃ x, j = x + 1 := by
        cases j with
        | zero => exact absurd (by decide) h95
        | succ x => exact ⟨x, rfl⟩
      obtain ⟨k, hx⟩ : ∃ k, K[x]? = some k := ⟨_, List.getElem?_eq_getElem (show x < K.length by omega)⟩
      refine zJ_aload_n dX1_reckon_98 rfl ?_
      refine zJ_iload_n dX1_reckon_99 rfl ?_
      rw [nI_pred]
      refine zJ_eV1 dX1_reckon_100 sX1_98 mfX1_reckonHand (c_Play_reckonHand Δ w1 b R m T K hG1 x k hx W n cl hco (hup.ch hall hx) hW3) p1 rfl (Nat.le_of_ble_eq_true rfl) (by decide) (by decide) (fun r w2 hP => ?_)
      obtain ⟨rfl, h1, h2, h3, h4⟩ := hP
      refine zJ_iinc (ls2 := fun x103 => [(3, .int x103), (2, .int (nI W)), (0, .ref b), (1, .int (nI P))]) dX1_reckon_103 rfl (by decide) (fun _ => rfl) (fun x103 ex103 => ?_)
      refine zJ_goto (tgt := 94) dX1_reckon_106 (by decide) ?_
      refine zJ_ls [(3, .int x103), (2, .int (nI W)), (0, .ref b), (1, .int (nI P))] (by simp) ?_
      rw [ex103, show nI x + Int32.ofInt (-1) = nI x - 1 from by rw [Int32.sub_eq_add_neg]; rfl]
      refine ih x (by omega) (by omega) w2 (hf.tr h1.fq) (hco.fh h1) (fun x2 k2 hx2 hk2 => ?_)
      by_cases hxx : x2 = x
      · subst hxx
        rw [hx] at hk2
        cases hk2
        exact ⟨h2, h3, h4⟩
      · obtain ⟨a1, a2, a3⟩ := hup x2 k2 (by omega) hk2
        refine ⟨by rw [h1.2.2.2 _ _ (by omega) (Or.inr hxx) (Or.inl (by omega))]; exact a1, fun p hp hWp => ?_, fun h => by rw [h1.2.2.1 _ _ (Or.inr hxx)]; exact a3 h⟩
        rw [h1.2.2.2 _ _ (by omega) (Or.inl (by omega)) (Or.inr (by omega))]; exact a2 p hp hWp
  have L1 : ∀ j, j ≤ 8 → ∀ w1, zFq w w1 b → (∃ (n : Nat) (cl : Nat → Nat), w1.2.1 b 10 = nI n ∧ n ≤ j ∧ (∀ c, c < n → w1.2.1 (b + 18) c = nI (cl c) ∧ cl c < j) ∧ (∀ c d, c < n → d < n → cl c = cl d → c = d) ∧ (∀ p, p < j → (W.testBit p = true ↔ ∃ c, c < n ∧ cl c = p))) → zJ Δ mX1_reckon (zRm 5 0 0) true w.1 QR (fun _ _ => False) 0 0 44 [(3, .int (nI j)), (2, .int (nI W)), (0, .ref b), (1, .int (nI P))] [] w1 := by
    refine zup (fun j hj ih w1 hf hI => ?_)
    obtain ⟨n, cl, i1, i2, i3, i4, i5⟩ := hI
    have p1 : w1.1 b = some (.inl 1) := by rw [hf.1]; exact p0
    have p2 : w1.2.2.2 b 9 = some (b + 18) := by rw [hf.2.1]; exact q9
    have p3 : w1.1 (b + 18) = some (.inr (false, 8)) := by rw [hf.1]; exact s18
    have p4 : w1.2.2.2 b 1 = some (b + 6) := by rw [hf.2.1]; exact q1
    have p5 : w1.1 (b + 6) = some (.inl 6) := by rw [hf.1]; exact g0
    have hsz : w1.2.1 (b + 6) 5 = nI K.length := by rw [hf.2.2.1 _ _ (by omega) (by omega) (Or.inl (by omega))]; exact hL.2.1
    refine zJ_iload_n dX1_reckon_44 rfl ?_
    refine zJ_bipush (v := 8) dX1_reckon_45 (by decide) ?_
    refine zJ_icmp_ge (tgt := 84) dX1_reckon_47 (by decide) (fun h47 => ?_) (fun h47 => ?_)
    · have hj9 : j = 8 := by exact Nat.le_antisymm hj ((nI_leI (a := 8) (b := j) (by omega) (by omega)).mp h47)
      subst hj9
      refine zJ_aload_n dX1_reckon_84 rfl ?_
      refine zJ_getr dX1_reckon_85 fX1_34 (by first | rfl | assumption) rfl (by first | rfl | assumption) ?_
      refine zJ_geti dX1_reckon_88 fX1_95 (by first | rfl | assumption) rfl ?_
      rw [hsz]
      refine zJ_iconst (v := 1) dX1_reckon_91 (by decide) ?_
      refine zJ_isub dX1_reckon_92 ?_
      refine zJ_istore_n (ls2 := fun x93 => [(3, .int x93), (2, .int (nI W)), (0, .ref b), (1, .int (nI P))]) dX1_reckon_93 (by decide) (fun _ => rfl) (fun x93 ex93 => ?_)
      obtain rfl : x93 = (nI K.length - 1) := ex93
      exact L2 n cl K.length (Nat.le_refl _) w1 hf ⟨i1, i2, i3, i4, i5⟩ (fun x k h1 h2 => by
        have := (List.getElem?_eq_some_iff.mp h2).1
        omega)
    · have hj9 : j < 8 := Nat.lt_of_not_le fun hq9 => h47 (by exact (nI_leI (a := 8) (b := j) (by omega) (by omega)).mpr hq9)
      refine zJ_iload_n dX1_reckon_50 rfl ?_
      refine zJ_iload_n dX1_reckon_51 rfl ?_
      refine zJ_ishr dX1_reckon_52 ?_
      refine zJ_iconst (v := 1) dX1_reckon_53 (by decide) ?_
      refine zJ_iand dX1_reckon_54 ?_
      rw [nI_bit (by omega) (by omega)]
      refine zJ_if_eq (tgt := 78) dX1_reckon_55 (by decide) (fun h55 => ?_) (fun h55 => ?_)
      · refine zJ_iinc (ls2 := fun x78 => [(3, .int x78), (2, .int (nI W)), (0, .ref b), (1, .int (nI P))]) dX1_reckon_78 rfl (by decide) (fun _ => rfl) (fun x78 ex78 => ?_)
        refine zJ_goto (tgt := 44) dX1_reckon_81 (by decide) ?_
        refine zJ_ls [(3, .int x78), (2, .int (nI W)), (0, .ref b), (1, .int (nI P))] (by simp) ?_
        rw [ex78, show nI j + Int32.ofInt 1 = nI (j + 1) from nI_1 _]
        have hb : W.testBit j = false := by
          cases hz : W.testBit j with
          | false => rfl
          | true =>
            rw [tb_of.mp hz] at h55
            exact absurd h55 (by decide)
        refine ih (j + 1) (by omega) (by omega) w1 hf ⟨n, cl, i1, by omega, fun c hc => ⟨(i3 c hc).1, by have := (i3 c hc).2; omega⟩, i4, fun p hp => ?_⟩
        by_cases hpj : p = j
        · subst hpj
          rw [hb]
          refine ⟨fun h => (by cases h), fun ⟨c, h1, h2⟩ => ?_⟩
          have := (i3 c h1).2; omega
        · exact i5 p (by omega)
      · refine zJ_aload_n dX1_reckon_58 rfl ?_
        refine zJ_getr dX1_reckon_59 fX1_25 (by first | rfl | assumption) rfl (by first | rfl | assumption) ?_
        refine zJ_aload_n dX1_reckon_62 rfl ?_
        refine zJ_geti dX1_reckon_63 fX1_92 (by first | rfl | assumption) rfl ?_
        rw [i1]
        refine zJ_iload_n dX1_reckon_66 rfl ?_
        refine zJ_iast dX1_reckon_67 (by first | rfl | assumption) (vp_in_nI (by omega) (by omega)) ?_
        refine zJ_aload_n dX1_reckon_68 rfl ?_
        refine zJ_dup dX1_reckon_69 rfl ?_
        refine zJ_geti dX1_reckon_70 fX1_92 (by first | rfl | assumption) rfl ?_
        rw [nI_clamp (show n < 2 ^ 31 by omega), show (zsi w1 (b + 18) n (nI j)).2.1 b 10 = nI n by rw [← i1]; simp [zsi]]
        refine zJ_iconst (v := 1) dX1_reckon_73 (by decide) ?_
        refine zJ_iadd dX1_reckon_74 ?_
        rw [show nI n + 1 = nI (n + 1) from nI_1 n]
        refine zJ_puti dX1_reckon_75 fX1_92 (fun q h => by cases h; rfl) (by first | rfl | assumption) rfl rfl rfl ?_
        refine zJ_iinc (ls2 := fun x78 => [(3, .int x78), (2, .int (nI W)), (0, .ref b), (1, .int (nI P))]) dX1_reckon_78 rfl (by decide) (fun _ => rfl) (fun x78 ex78 => ?_)
        refine zJ_goto (tgt := 44) dX1_reckon_81 (by decide) ?_
        refine zJ_ls [(3, .int x78), (2, .int (nI W)), (0, .ref b), (1, .int (nI P))] (by simp) ?_
        rw [ex78, show nI j + Int32.ofInt 1 = nI (j + 1) from nI_1 _]
        have hb : W.testBit j = true := by
          rw [tb_of]
          have h1 : ¬ W / 2 ^ j % 2 = 0 := fun h => h55 (by rw [h]; rfl)
          omega
        refine ih (j + 1) (by omega) (by omega) _ ((hf.tr (zFq.i (Or.inr (Or.inl rfl)))).tr (zFq.i (Or.inr (Or.inr ⟨rfl, Or.inl rfl⟩)))) ⟨n + 1, fun c => if c = n then j else cl c, by simp [zsi], by omega, fun c hc => ?_, fun c d hc hd he => ?_, fun p hp => ?_⟩
        · by_cases hcn : c = n
          · subst hcn; simp [zsi]
          · have := i3 c (by omega)
            simp only [zsi, hcn, if_false, and_false]
            refine ⟨?_, by omega⟩
            rw [← this.1]; simp
        · by_cases h1 : c = n <;> by_cases h2 : d = n <;> simp [h1, h2] at he
          · omega
          · have := (i3 d (by omega)).2; omega
          · have := (i3 c (by omega)).2; omega
          · exact i4 c d (by omega) (by omega) he
        · by_cases hpj : p = j
          · subst hpj
            exact ⟨fun _ => ⟨n, by omega, by simp⟩, fun _ => hb⟩
          · rw [i5 p (by omega)]
            refine ⟨fun ⟨c, h1, h2⟩ => ⟨c, by omega, (by show (if c = n then j else cl c) = p; rw [if_neg (by omega)]; exact h2)⟩, fun ⟨c, h1, h2⟩ => ?_⟩
            have h2 : (if c = n then j else cl c) = p := h2
            by_cases hcn : c = n
            · simp [hcn] at h2; omega
            · rw [if_neg hcn] at h2; exact ⟨c, by omega, h2⟩
  have L37 : zJ Δ mX1_reckon (zRm 5 0 0) true w.1 QR (fun _ _ => False) 0 0 37 [(2, .int (nI W)), (0, .ref b), (1, .int (nI P))] [] w := by
    refine zJ_aload_n dX1_reckon_37 rfl ?_
    refine zJ_iconst (v := 0) dX1_reckon_38 (by decide) ?_
    refine zJ_puti dX1_reckon_39 fX1_92 (fun q h => by cases h; rfl) (by first | rfl | assumption) rfl rfl rfl ?_
    refine zJ_iconst (v := 0) dX1_reckon_42 (by decide) ?_
    refine zJ_istore_n (ls2 := fun x43 => [(3, .int x43), (2, .int (nI W)), (0, .ref b), (1, .int (nI P))]) dX1_reckon_43 (by decide) (fun _ => rfl) (fun x43 ex43 => ?_)
    obtain rfl : x43 = (nI 0) := ex43
    refine L1 0 (Nat.zero_le _) _ (zFq.i (Or.inr (Or.inr ⟨rfl, Or.inl rfl⟩))) ⟨0, fun _ => 0, by simp [zsi]; rfl, Nat.le_refl _, fun c hc => absurd hc (Nat.not_lt_zero c), fun c d hc => absurd hc (Nat.not_lt_zero c), fun p hp => absurd hp (Nat.not_lt_zero p)⟩
  refine zJ_iload_n dX1_reckon_0 rfl ?_
  refine zJ_aload_n dX1_reckon_1 rfl ?_
  refine zJ_getr dX1_reckon_2 fX1_12 (by first | rfl | assumption) rfl (by first | rfl | assumption) ?_
  refine zJ_cV0 dX1_reckon_5 sX1_77 mfX5_reckoners (c_Town_reckoners Δ w (b + 1) (T.1 0) hi0.1 (hsc 0 (by decide) (by decide)) hp0) (by first | rfl | assumption) rfl (Nat.le_of_ble_eq_true rfl) (by decide) (by decide) ?_
  rw [hzr]
  refine zJ_ior dX1_reckon_8 ?_
  refine zJ_aload_n dX1_reckon_9 rfl ?_
  refine zJ_getr dX1_reckon_10 fX1_12 (by first | rfl | assumption) rfl (by first | rfl | assumption) ?_
  refine zJ_cV0 dX1_reckon_13 sX1_85 mfX5_everyone (c_Town_everyone Δ w (b + 1) t0) (by first | rfl | assumption) rfl (Nat.le_of_ble_eq_true rfl) (by decide) (by decide) ?_
  rw [hsc 0 (by decide) (by decide), hsh, show nI (2 ^ T.1 0) - 1 = nI (2 ^ T.1 0 - 1) from na_sub (Nat.two_pow_pos _), na_or]
  refine zJ_iand dX1_reckon_16 ?_
  refine zJ_istore_n (ls2 := fun x17 => [(2, .int x17), (0, .ref b), (1, .int (nI P))]) dX1_reckon_17 (by decide) (fun _ => rfl) (fun x17 ex17 => ?_)
  obtain rfl : x17 = (nI W) := by rw [ex17, na_and, hWd]
  refine zJ_aload_n dX1_reckon_18 rfl ?_
  refine zJ_geti dX1_reckon_19 fX1_71 (by first | rfl | assumption) rfl ?_
  refine zJ_if_eq (tgt := 37) dX1_reckon_22 (by decide) (fun h22 => ?_) (fun h22 => ?_)
  · exact L37
  · refine zJ_iload_n dX1_reckon_25 rfl ?_
    refine zJ_aload_n dX1_reckon_26 rfl ?_
    refine zJ_geti dX1_reckon_27 fX1_88 (by first | rfl | assumption) rfl ?_
    refine zJ_iconst (v := (-1)) dX1_reckon_30 (by decide) ?_
    refine zJ_ixor dX1_reckon_31 ?_
    refine zJ_iand dX1_reckon_32 ?_
    refine zJ_if_ne (tgt := 37) dX1_reckon_33 (by decide) (fun h33 => ?_) (fun h33 => ?_)
    · exact L37
    · obtain ⟨W0, hW0, h14, h3, hup⟩ : ∃ W0, W0 < 256 ∧ w.2.1 b 14 = nI W0 ∧ (∀ p, p < 8 → T.2.1 p = 3 → W0.testBit p = true) ∧ zUp w b T K W0 0 := by
        rcases hga with h | h
        · exact absurd h h22
        · exact h.2
      have h13 : w.2.1 b 13 = 1 := by
        rcases hga with h | h
        · exact absurd h h22
        · exact h.1
      rw [h14, na_not, na_and] at h33
      have hz : W &&& (W0 ^^^ 4294967295) = 0 := (nI_eq (b := 0) (Nat.lt_of_le_of_lt Nat.and_le_left (by omega)) (by decide)).mp h33
      refine zJ_vret dX1_reckon_36 rfl (by decide) (by decide) (hQ _ _ ⟨rfl, zFq.rf w b, h13, W0, hW0, h14, h3, fun p hp hPp => ?_, hup⟩)
      have h9 := hWP p hp hPp
      have h8 : (W &&& (W0 ^^^ 4294967295)).testBit p = false := by rw [hz]; simp
      rw [Nat.testBit_and, h9, tb_not] at h8
      have : p < 32 := by omega
      simpa [this] using h8
def zChs (w : zW) (b : Nat) (T : zTo) (K : List zKy) : Prop := ∀ (x : Nat) (k : zKy), K[x]? = some k → T.2.1 k.1 = 3 → w.2.1 (b + 13) x = zoi (zcC T k)
theorem zGa.chs {w : zW} {b R m : Nat} {T : zTo} {K : List zKy} {W : Nat} (hG : zGr w b R m T K) (h : zUp w b T K W 0) : zChs w b T K := fun x k hx h3 => by
  rw [← zvl_C hG.2.2.1 (hG.2.2.2.2.1.2.2.2.1 k (List.mem_iff_getElem?.mpr ⟨x, hx⟩)) h3]
  exact (h x k (Nat.zero_le _) hx).2.2 h3
set_option maxRecDepth 100000 in
theorem c_Play_choose (Δ : zD) (w : zW) (b R m : Nat) (T : zTo) (K : List zKy) (hG : zGr w b R m T K) (hga : zGa w b T K) : zMp Δ 6 yX1_choose mX1_choose [.ref b] w (fun a c => a = none ∧ zFq w c b ∧ zGa c b T K ∧ zChs c b T K) := by
  refine zMp.of mfX1_choose (Nat.le_of_ble_eq_true rfl) (fun QR hQ => ?_)
  have hG0 := hG
  obtain ⟨⟨p0, q0, q1, q2, q3, q4, q5, q6, q7, q8, q9, s11, s12, s13, s14, s15, s16, s17, s18, hS⟩, hi, hT, hall, hL, hrow⟩ := hG
  have hS0 := hS
  obtain ⟨g0, r1, r2, r3, r4, g1, g2, g3, g4, hR, hRm, hm, hR0⟩ := hS
  have hi0 := hi
  obtain ⟨t0, u1, u2, u3, u4, t1, t2, t3, t4⟩ := hi.1
  obtain ⟨-, hsc, hso, hnu, hkn, hwt⟩ := hi
  have hT0 := hT
  obtain ⟨hp0, hp5, hp6, hp7, hp8, hp9, hp10, hp11, hp12, hp13, hpp, hpw⟩ := hT
  have hm2 : 2 ^ m ≤ 2 ^ 15 := Nat.pow_le_pow_right (by decide) hm
  have hKR : K.length ≤ R := hL.2.2.1
  have hzr : zbits (zrk w (b + 1)) (T.1 0) = zbits (fun p => decide (T.2.1 p = 3)) (T.1 0) := zbits_c fun p hp => by
    simp only [zrk]
    rw [hso p (by omega)]
    have h1 := (hpp p).1
    simp only [show (3 : Int32) = nI 3 from rfl, nI_eq (show T.2.1 p < 2 ^ 31 by omega) (show 3 < 2 ^ 31 by decide)]
  have hbl := zbits_lt (fun p => decide (T.2.1 p = 3)) (T.1 0)
  have hpw8 : 2 ^ T.1 0 ≤ 2 ^ 8 := Nat.pow_le_pow_right (by decide) hp0
  refine zJ_aload_n dX1_choose_0 rfl ?_
  refine zJ_getr dX1_choose_1 fX1_12 (by first | rfl | assumption) rfl (by first | rfl | assumption) ?_
  refine zJ_cV0 dX1_choose_4 sX1_77 mfX5_reckoners (c_Town_reckoners Δ w (b + 1) (T.1 0) hi0.1 (hsc 0 (by decide) (by decide)) hp0) (by first | rfl | assumption) rfl (Nat.le_of_ble_eq_true rfl) (by decide) (by decide) ?_
  rw [hzr]
  refine zJ_if_eq (tgt := 15) dX1_choose_7 (by decide) (fun h7 => ?_) (fun h7 => ?_)
  · have hz : zbits (fun p => decide (T.2.1 p = 3)) (T.1 0) = 0 := (nI_eq (b := 0) (by omega) (by decide)).mp h7
    refine zJ_vret dX1_choose_15 rfl (by decide) (by decide) (hQ _ _ ⟨rfl, zFq.rf w b, hga, fun x k hx h3 => ?_⟩)
    have hlt : k.1 < T.1 0 := Nat.lt_of_not_le fun h => by rw [(hpp k.1).2.2.2 h] at h3; cases h3
    have h8 := zbits_tb (fun p => decide (T.2.1 p = 3)) (T.1 0) k.1
    rw [hz] at h8
    simp [hlt, h3] at h8
  · refine zJ_aload_n dX1_choose_10 rfl ?_
    refine zJ_iconst (v := 0) dX1_choose_11 (by decide) ?_
    refine zJ_eV1 dX1_choose_12 sX1_81 mfX1_reckon (c_Play_reckon Δ w b R m T K hG0 0 (by decide) hga) p0 rfl (Nat.le_of_ble_eq_true rfl) (by decide) (by decide) (fun r w2 hP => ?_)
    obtain ⟨rfl, h1, h2, W, h3, h4, h5, -, h6⟩ := hP
    exact zJ_vret dX1_choose_15 rfl (by decide) (by decide) (hQ _ _ ⟨rfl, h1, Or.inr ⟨h2, W, h3, h4, h5, h6⟩, zGa.chs (hG0.fp h1.fp) h6⟩)
