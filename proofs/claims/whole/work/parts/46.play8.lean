/-! LetterTown$Play: the cases counted -/
def zFt (w c : zW) (b : Nat) : Prop := c.1 = w.1 ∧ c.2.2.2 = w.2.2.2 ∧ (∀ a j, (a ≠ b ∨ j ≠ 12) → c.2.1 a j = w.2.1 a j) ∧ (∀ a j, a ≠ b + 14 → a ≠ b + 15 → a ≠ b + 16 → c.2.2.1 a j = w.2.2.1 a j)
theorem zFt.rf (w : zW) (b : Nat) : zFt w w b := ⟨rfl, rfl, fun _ _ _ => rfl, fun _ _ _ _ _ => rfl⟩
theorem zFt.tr {w c d : zW} {b : Nat} (h1 : zFt w c b) (h2 : zFt c d b) : zFt w d b := ⟨h2.1.trans h1.1, h2.2.1.trans h1.2.1, fun a j x => (h2.2.2.1 a j x).trans (h1.2.2.1 a j x), fun a j x y z => (h2.2.2.2 a j x y z).trans (h1.2.2.2 a j x y z)⟩
theorem zFt.fp {w c : zW} {b : Nat} (h : zFt w c b) : zFp w c b := ⟨h.1, h.2.1, fun a j _ _ h3 => h.2.2.1 a j (h3.elim Or.inl (fun h4 => Or.inr h4.2.1)), fun a j h1 => h.2.2.2 a j (by omega) (by omega) (by omega)⟩
theorem zFt.l {w : zW} {b a j : Nat} {x : Int64} (h : a = b + 14 ∨ a = b + 15 ∨ a = b + 16) : zFt w (zsl w a j x) b := ⟨rfl, rfl, fun _ _ _ => rfl, fun a2 j2 h1 h2 h3 => by
  have h4 : ¬ (a2 = a ∧ j2 = j) := by omega
  simp [zsl, h4]⟩
theorem zFt.rl {w : zW} {b a : Nat} {f : Nat → Int64} (h : a = b + 14 ∨ a = b + 15 ∨ a = b + 16) : zFt w (zrol w a f) b := ⟨rfl, rfl, fun _ _ _ => rfl, fun a2 j2 h1 h2 h3 => by
  have h4 : ¬ a2 = a := by omega
  simp [zrol, h4]⟩
theorem zGa.ft {w c : zW} {b : Nat} {T : zTo} {K : List zKy} (h : zGa w b T K) (hf : zFt w c b) : zGa c b T K := by
  have e1 : c.2.1 b 13 = w.2.1 b 13 := hf.2.2.1 _ _ (Or.inr (by decide))
  have e2 : c.2.1 b 14 = w.2.1 b 14 := hf.2.2.1 _ _ (Or.inr (by decide))
  have e3 : c.2.1 (b + 13) = w.2.1 (b + 13) := by funext j; exact hf.2.2.1 _ _ (Or.inl (by omega))
  have e4 : c.2.2.1 (b + 11) = w.2.2.1 (b + 11) := by funext j; exact hf.2.2.2 _ _ (by omega) (by omega) (by omega)
  have e5 : c.2.2.1 (b + 12) = w.2.2.1 (b + 12) := by funext j; exact hf.2.2.2 _ _ (by omega) (by omega) (by omega)
  unfold zGa zUp at *
  rw [e1, e2, e3, e4, e5]; exact h
theorem zChs.ft {w c : zW} {b : Nat} {T : zTo} {K : List zKy} (h : zChs w b T K) (hf : zFt w c b) : zChs c b T K := fun x k hx h3 => by
  rw [hf.2.2.1 (b + 13) x (Or.inl (by omega))]; exact h x k hx h3
theorem zall_nodup {T : zTo} {K : List zKy} (h : zall T K) : K.Nodup := by
  obtain ⟨n, rfl, -⟩ := h; exact zgr_nodup T n
theorem zall_0 {T : zTo} {K : List zKy} (h : zall T K) : K[0]? = some (zfk T) := by
  obtain ⟨n9, rfl, -⟩ := h
  obtain ⟨L9, e9⟩ := zgr_pre T 0 n9
  rw [Nat.zero_add] at e9
  rw [e9]; rfl
theorem nodup_ix {K : List zKy} (h : K.Nodup) {x y : Nat} {k : zKy} (hx : K[x]? = some k) (hy : K[y]? = some k) : x = y := by
  have h1 := (List.getElem?_eq_some_iff.mp hx)
  have h2 := (List.getElem?_eq_some_iff.mp hy)
  obtain ⟨a1, a2⟩ := h1
  obtain ⟨b1, b2⟩ := h2
  exact (List.getElem_inj h).mp (a2.trans b2.symm)
set_option maxRecDepth 100000 in
theorem c_Play_clearTally (Δ : zD) (w : zW) (b R m : Nat) (T : zTo) (K : List zKy) (hG : zGr w b R m T K) : zMd Δ 0 0 0 true yX1_clearTally mX1_clearTally [.ref b] w none (zrol w (b + 14) (fun i => if i = 0 then lN 1000000000 else if i < K.length then lN 0 else w.2.2.1 (b + 14) i)) := by
  refine zMd.of mfX1_clearTally (Nat.le_of_ble_eq_true rfl) (fun QR hQ => ?_)
  have hG0 := hG
  obtain ⟨⟨p0, q0, q1, q2, q3, q4, q5, q6, q7, q8, q9, s11, s12, s13, s14, s15, s16, s17, s18, hS⟩, hi, hT, hall, hL, hrow⟩ := hG
  have hS0 := hS
  obtain ⟨g0, r1, r2, r3, r4, g1, g2, g3, g4, hR, hRm, hm, hR0⟩ := hS
  have hi0 := hi
  obtain ⟨t0, u1, u2, u3, u4, t1, t2, t3, t4⟩ := hi.1
  obtain ⟨-, hsc, hso, hnu, hkn, hwt⟩ := hi
  have hT0 := hT
  obtain ⟨hp0, hp5, hp6, hp7, hp8, hp9, hp10, hp11, hp12, hp13, hpp, hpw⟩ := hT
  have hm2 : 2 ^ m ≤ 2 ^ 15 := Nat.pow_le_pow_right (by decide) hm
  have hKR : K.length ≤ R := hL.2.2.1
  have hK0 := zall_pos hall
  have hsz : w.2.1 (b + 6) 5 = nI K.length := hL.2.1
  have L : ∀ j, j ≤ K.length → 1 ≤ j → zJ Δ mX1_clearTally (zRm 0 0 0) true w.1 QR (fun _ _ => False) 0 0 2 [(1, .int (nI j)), (0, .ref b)] [] (zrol w (b + 14) (fun i => if i = 0 then w.2.2.1 (b + 14) i else if i < j then lN 0 else w.2.2.1 (b + 14) i)) := by
    refine zup (fun j hj ih h1 => ?_)
    refine zJ_iload_n dX1_clearTally_2 rfl ?_
    refine zJ_aload_n dX1_clearTally_3 rfl ?_
    refine zJ_getr dX1_clearTally_4 fX1_34 (by first | rfl | assumption) rfl (by first | rfl | assumption) ?_
    refine zJ_geti dX1_clearTally_7 fX1_95 (by first | rfl | assumption) rfl ?_
    rw [show (zrol w (b + 14) (fun i => if i = 0 then w.2.2.1 (b + 14) i else if i < j then lN 0 else w.2.2.1 (b + 14) i)).2.1 (b + 6) 5 = nI K.length from hsz]
    refine zJ_icmp_ge (tgt := 26) dX1_clearTally_10 (by decide) (fun h10 => ?_) (fun h10 => ?_)
    · have hj9 : j = K.length := by exact Nat.le_antisymm hj ((nI_leI (a := K.length) (b := j) (by omega) (by omega)).mp h10)
      refine zJ_aload_n dX1_clearTally_26 rfl ?_
      refine zJ_getr dX1_clearTally_27 fX1_47 (by first | rfl | assumption) rfl (by first | rfl | assumption) ?_
      refine zJ_iconst (v := 0) dX1_clearTally_30 (by decide) ?_
      refine zJ_ldc2 dX1_clearTally_31 kX1_147 ?_
      refine zJ_last dX1_clearTally_34 (by first | rfl | assumption) (vp_in_nI (n := 0) (by omega) (by omega)) ?_
      exact zJ_vret dX1_clearTally_35 rfl (by decide) (by decide) (by
  refine (congrArg (QR none) ?_).mp hQ
  rw [show Int32.toNatClampNeg 0 = 0 from rfl, zsl_row, zrol_get, zrol_rol]
  refine congrArg (zrol w (b + 14)) (funext fun i => ?_)
  by_cases c : i = 0
  · simp [c]; rfl
  · simp [c, hj9])
    · have hj9 : j < K.length := Nat.lt_of_not_le fun hq9 => h10 (by exact (nI_leI (a := K.length) (b := j) (by omega) (by omega)).mpr hq9)
      refine zJ_aload_n dX1_clearTally_13 rfl ?_
      refine zJ_getr dX1_clearTally_14 fX1_47 (by first | rfl | assumption) rfl (by first | rfl | assumption) ?_
      refine zJ_iload_n dX1_clearTally_17 rfl ?_
      refine zJ_lconst (v := 0) dX1_clearTally_18 (by decide) ?_
      refine zJ_last dX1_clearTally_19 (by first | rfl | assumption) (vp_in_nI (by omega) (by omega)) ?_
      refine zJ_iinc (ls2 := fun x20 => [(1, .int x20), (0, .ref b)]) dX1_clearTally_20 rfl (by decide) (fun _ => rfl) (fun x20 ex20 => ?_)
      refine zJ_goto (tgt := 2) dX1_clearTally_23 (by decide) ?_
      refine zJ_ls [(1, .int x20), (0, .ref b)] (by simp) ?_
      rw [ex20, show nI j + Int32.ofInt 1 = nI (j + 1) from nI_1 _]
      refine zJ_w (w2 := (zrol w (b + 14) (fun i => if i = 0 then w.2.2.1 (b + 14) i else if i < (j + 1) then lN 0 else w.2.2.1 (b + 14) i))) ?_ (ih (j + 1) (by omega) (by omega) (by omega))
      rw [nI_clamp (show j < 2 ^ 31 by omega), zsl_row, zrol_get, zrol_rol]
      refine congrArg (zrol w (b + 14)) (funext fun i => ?_)
      by_cases c : i = j
      · subst c
        have : ¬ i = 0 := by omega
        simp [this]; rfl
      · have c3 : (i < j + 1) = (i < j) := by simp only [eq_iff_iff]; omega
        simp [c, c3]
  refine zJ_iconst (v := 1) dX1_clearTally_0 (by decide) ?_
  refine zJ_istore_n (ls2 := fun x1 => [(1, .int x1), (0, .ref b)]) dX1_clearTally_1 (by decide) (fun _ => rfl) (fun x1 ex1 => ?_)
  obtain rfl : x1 = (nI 1) := ex1
  refine zJ_w (w2 := (zrol w (b + 14) (fun i => if i = 0 then w.2.2.1 (b + 14) i else if i < 1 then lN 0 else w.2.2.1 (b + 14) i))) ?_ (L 1 (by omega) (Nat.le_refl _))
  refine (zrol_self w (b + 14)).symm.trans (congrArg (zrol w (b + 14)) (funext fun i => ?_))
  by_cases c : i = 0
  · simp [c]
  · have : ¬ i < 1 := by omega
    simp [c, this]
def zTr (w : zW) (b : Nat) (K : List zKy) (t : zKy → Nat) : Prop := ∀ (z : Nat) (q : zKy), K[z]? = some q → w.2.2.1 (b + 14) z = lN (t q)
def zCc (w : zW) (b : Nat) (c : Nat → Nat) : Prop := ∀ i, i < 96 → w.2.2.1 (b + 16) i = lN (c i)
set_option maxRecDepth 100000 in
theorem c_Play_spreadCases (Δ : zD) (w : zW) (b R m : Nat) (T : zTo) (K : List zKy) (hG : zGr w b R m T K) (x : Nat) (k : zKy) (hx : K[x]? = some k) (hcs : zChs w b T K) (t : zKy → Nat) (c : Nat → Nat) (htr : zTr w b K t) (hcc : zCc w b c) (hv : t k ≤ 1000000000) : zMp Δ 3 yX1_spreadCases mX1_spreadCases [.ref b, .int (nI x)] w (fun a w2 => a = none ∧ zFt w w2 b ∧ w2.2.1 = w.2.1 ∧ zTr w2 b K (zsp T k (t, c)).1 ∧ zCc w2 b (zsp T k (t, c)).2) := by
  refine zMp.of mfX1_spreadCases (Nat.le_of_ble_eq_true rfl) (fun QR hQ => ?_)
  have hG0 := hG
  obtain ⟨⟨p0, q0, q1, q2, q3, q4, q5, q6, q7, q8, q9, s11, s12, s13, s14, s15, s16, s17, s18, hS⟩, hi, hT, hall, hL, hrow⟩ := hG
  have hS0 := hS
  obtain ⟨g0, r1, r2, r3, r4, g1, g2, g3, g4, hR, hRm, hm, hR0⟩ := hS
  have hi0 := hi
  obtain ⟨t0, u1, u2, u3, u4, t1, t2, t3, t4⟩ := hi.1
  obtain ⟨-, hsc, hso, hnu, hkn, hwt⟩ := hi
  have hT0 := hT
  obtain ⟨hp0, hp5, hp6, hp7, hp8, hp9, hp10, hp11, hp12, hp13, hpp, hpw⟩ := hT
  have hm2 : 2 ^ m ≤ 2 ^ 15 := Nat.pow_le_pow_right (by decide) hm
  have hKR : K.length ≤ R := hL.2.2.1
  have hxK : x < K.length := (List.getElem?_eq_some_iff.mp hx).1
  have hk : zkok T k := hL.2.2.2.1 k (List.mem_iff_getElem?.mpr ⟨x, hx⟩)
  have cx : (nI x).toNatClampNeg = x := nI_clamp (by omega)
  have hky : w.2.2.1 (b + 6 + 1) x = lN (zenc T k) := hL.1 x k hx
  have hP := zenc_parts hT0 hk
  have hE52 := zenc_lt hT0 hk
  have hk1 : k.1 < 8 := hk.1
  have hk2 := hk.2.1
  have hbl := zmb_lt T k
  have hmayx := (hrow x k hx).1
  have hnx := (hrow x k hx).2
  have hso1 := hso k.1 hk1
  have hnu1 := hnu k.1 hk1
  have hsl := (hpp k.1).1
  have hnl := (hpp k.1).2.1
  have ck : (nI k.1).toNatClampNeg = k.1 := nI_clamp (by omega)
  have hC := hcs x k hx
  have hC8 : ∀ q, zcC T k = some q → q < 8 := fun q h => (zcC_may h).1
  have hB256 := ztb_256 (T := T) (k := k)
  have hs1000 := zsh_1000 hT0 k (zcC T k)
  have hUl := zwt_le (B := ztb T k (zcC T k)) hT0 hk1 8 (Nat.le_refl 8)
  have hnd := zall_nodup hall
  have hop := zop1_le hT0 k (t k)
  have hm1 : t k * zsh T k (zcC T k) ≤ 1000000000 * 1000 := Nat.mul_le_mul hv hs1000
  have htx := htr x k hx
  have hBm : ∀ y, y < 8 → (ztb T k (zcC T k)).testBit y = true → zmay T k y = true := fun y hy hb => ztb_may hy hb
  have e8 : ∀ y, nI x * 8 + nI y = nI (x * 8 + y) := fun y => by rw [show nI x * 8 = nI (x * 8) from na_mul x 8, na_add]
  have L : ¬ t k - zop1 T k (t k) = 0 → 0 < zwt T k.1 (ztb T k (zcC T k)) 8 → ∀ j, j ≤ 8 → ∀ (lf : Int64) (w1 : zW), zFt w w1 b → w1.2.1 = w.2.1 → zCc w1 b (zsp T k (t, c)).2 → zTr w1 b K (zds T k (t k - zop1 T k (t k)) t j) → (1 ≤ ztb T k (zcC T k) / 2 ^ j → lf = lN (t k - zop1 T k (t k) - zps T k (t k - zop1 T k (t k)) j)) → zJ Δ mX1_spreadCases (zRm 3 0 0) true w.1 QR (fun _ _ => False) 0 0 122 [(14, .int (nI j)), (12, .long lf), (11, .int (nI (zwt T k.1 (ztb T k (zcC T k)) 8))), (10, .int (nI (ztb T k (zcC T k)))), (8, .long (lN (t k - zop1 T k (t k)))), (6, .long (lN (zop1 T k (t k)))), (5, .int (nI k.2.1)), (4, .int (nI k.1)), (2, .long (lN (zenc T k))), (0, .ref b), (1, .int (nI x))] [] w1 := by
    intro hsn hU
    refine zup (fun j hj ih lf w1 hf hi1 hc1 ht1 hlf => ?_)
    have p1 : w1.1 b = some (.inl 1) := by rw [hf.1]; exact p0
    have p2 : w1.2.2.2 b 1 = some (b + 6) := by rw [hf.2.1]; exact q1
    have p3 : w1.1 (b + 6) = some (.inl 6) := by rw [hf.1]; exact g0
    have p4 : w1.2.2.2 (b + 6) 3 = some (b + 6 + 3) := by rw [hf.2.1]; exact r3
    have p5 : w1.1 (b + 6 + 3) = some (.inr (false, R * 8)) := by rw [hf.1]; exact g3
    have p6 : w1.2.2.2 b 5 = some (b + 14) := by rw [hf.2.1]; exact q5
    have p7 : w1.1 (b + 14) = some (.inr (true, R)) := by rw [hf.1]; exact s14
    have eB : ztb T k (zcC T k) / 2 ^ (j + 1) = ztb T k (zcC T k) / 2 ^ j / 2 := by rw [Nat.pow_succ, Nat.div_div_eq_div_mul]
    have hDB : ztb T k (zcC T k) / 2 ^ j < 256 := Nat.lt_of_le_of_lt (Nat.div_le_self _ _) hB256
    refine zJ_iload dX1_spreadCases_122 rfl ?_
    refine zJ_bipush (v := 8) dX1_spreadCases_124 (by decide) ?_
    refine zJ_icmp_ge (tgt := 230) dX1_spreadCases_126 (by decide) (fun h126 => ?_) (fun h126 => ?_)
    · have hj9 : j = 8 := by exact Nat.le_antisymm hj ((nI_leI (a := 8) (b := j) (by omega) (by omega)).mp h126)
      subst hj9
      exact zJ_vret dX1_spreadCases_230 rfl (by decide) (by decide) (hQ _ _ ⟨rfl, hf, hi1, by simp only [zsp]; rw [if_neg (fun h => h.elim hsn (fun h => by omega))]; exact ht1, hc1⟩)
    · have hj9 : j < 8 := Nat.lt_of_not_le fun hq9 => h126 (by exact (nI_leI (a := 8) (b := j) (by omega) (by omega)).mpr hq9)
      refine zJ_aload_n dX1_spreadCases_129 rfl ?_
      refine zJ_getr dX1_spreadCases_130 fX1_34 (by first | rfl | assumption) rfl (by first | rfl | assumption) ?_
      refine zJ_getr dX1_spreadCases_133 fX1_158 (by first | rfl | assumption) rfl (by first | rfl | assumption) ?_
      refine zJ_iload_n dX1_spreadCases_136 rfl ?_
      refine zJ_bipush (v := 8) dX1_spreadCases_137 (by decide) ?_
      refine zJ_imul dX1_spreadCases_139 ?_
      refine zJ_iload dX1_spreadCases_140 rfl ?_
      refine zJ_iadd dX1_spreadCases_142 ?_
      rw [e8]
      refine zJ_iald dX1_spreadCases_143 (by first | rfl | assumption) (vp_in_nI (by omega) (by omega)) ?_
      refine zJ_istore (ls2 := fun x144 => [(15, .int x144), (14, .int (nI j)), (12, .long lf), (11, .int (nI (zwt T k.1 (ztb T k (zcC T k)) 8))), (10, .int (nI (ztb T k (zcC T k)))), (8, .long (lN (t k - zop1 T k (t k)))), (6, .long (lN (zop1 T k (t k)))), (5, .int (nI k.2.1)), (4, .int (nI k.1)), (2, .long (lN (zenc T k))), (0, .ref b), (1, .int (nI x))]) dX1_spreadCases_144 (by decide) (fun _ => rfl) (fun x144 ex144 => ?_)
      refine zJ_iload dX1_spreadCases_146 rfl ?_
      refine zJ_iload dX1_spreadCases_148 rfl ?_
      refine zJ_ishr dX1_spreadCases_150 ?_
      refine zJ_iconst (v := 1) dX1_spreadCases_151 (by decide) ?_
      refine zJ_iand dX1_spreadCases_152 ?_
      rw [nI_bit (by omega) (by omega)]
      refine zJ_if_eq (tgt := 224) dX1_spreadCases_153 (by decide) (fun h153 => ?_) (fun h153 => ?_)
      · refine zJ_iinc (ls2 := fun x224 => [(14, .int x224), (15, .int x144), (12, .long lf), (11, .int (nI (zwt T k.1 (ztb T k (zcC T k)) 8))), (10, .int (nI (ztb T k (zcC T k)))), (8, .long (lN (t k - zop1 T k (t k)))), (6, .long (lN (zop1 T k (t k)))), (5, .int (nI k.2.1)), (4, .int (nI k.1)), (2, .long (lN (zenc T k))), (0, .ref b), (1, .int (nI x))]) dX1_spreadCases_224 rfl (by decide) (fun _ => rfl) (fun x224 ex224 => ?_)
        refine zJ_goto (tgt := 122) dX1_spreadCases_227 (by decide) ?_
        refine zJ_ls [(14, .int x224), (12, .long lf), (11, .int (nI (zwt T k.1 (ztb T k (zcC T k)) 8))), (10, .int (nI (ztb T k (zcC T k)))), (8, .long (lN (t k - zop1 T k (t k)))), (6, .long (lN (zop1 T k (t k)))), (5, .int (nI k.2.1)), (4, .int (nI k.1)), (2, .long (lN (zenc T k))), (0, .ref b), (1, .int (nI x))] (by simp) ?_
        rw [ex224, show nI j + Int32.ofInt 1 = nI (j + 1) from nI_1 _]
        have hb : (ztb T k (zcC T k)).testBit j = false := by
          cases hz : (ztb T k (zcC T k)).testBit j with
          | false => rfl
          | true =>
            rw [tb_of.mp hz] at h153
            exact absurd h153 (by decide)
        have e1 : zds T k (t k - zop1 T k (t k)) t (j + 1) = zds T k (t k - zop1 T k (t k)) t j := by simp [zds, hb]
        have e2 : zps T k (t k - zop1 T k (t k)) (j + 1) = zps T k (t k - zop1 T k (t k)) j := by simp [zps, fb_sm, hb]
        refine ih (j + 1) (by omega) (by omega) lf w1 hf hi1 hc1 (by rw [e1]; exact ht1) (fun h => ?_)
        rw [e2]; exact hlf (by rw [eB] at h; generalize ztb T k (zcC T k) / 2 ^ j = D at h ⊢; omega)
      · have hb : (ztb T k (zcC T k)).testBit j = true := by
          rw [tb_of]
          have h1 : ¬ ztb T k (zcC T k) / 2 ^ j % 2 = 0 := fun h => h153 (by rw [h]; rfl)
          omega
        obtain ⟨q, hq, hnq⟩ := (hnx j hj9).1 (hBm j hj9 hb)
        have hqK : q < K.length := (List.getElem?_eq_some_iff.mp hq).1
        rw [nI_clamp (show x * 8 + j < 2 ^ 31 by omega), hi1, hnq] at ex144
        have hD0 : 1 ≤ ztb T k (zcC T k) / 2 ^ j := by have := tb_div hb; generalize ztb T k (zcC T k) / 2 ^ j = D at this ⊢; omega
        have hpl9 := zpt_le (sn := t k - zop1 T k (t k)) hU hj9 hb
        refine zJ_iload dX1_spreadCases_156 rfl ?_
        refine zJ_if_lt (tgt := 224) dX1_spreadCases_158 (by decide) (fun h158 => ?_) (fun h158 => ?_)
        · refine zJ_iinc (ls2 := fun x224 => [(14, .int x224), (15, .int x144), (12, .long lf), (11, .int (nI (zwt T k.1 (ztb T k (zcC T k)) 8))), (10, .int (nI (ztb T k (zcC T k)))), (8, .long (lN (t k - zop1 T k (t k)))), (6, .long (lN (zop1 T k (t k)))), (5, .int (nI k.2.1)), (4, .int (nI k.1)), (2, .long (lN (zenc T k))), (0, .ref b), (1, .int (nI x))]) dX1_spreadCases_224 rfl (by decide) (fun _ => rfl) (fun x224 ex224 => ?_)
          refine zJ_goto (tgt := 122) dX1_spreadCases_227 (by decide) ?_
          rw [ex144] at h158
          exact absurd ((nI_ltI (a := q) (b := 0) (by omega) (by decide)).mp h158) (by omega)
        · obtain rfl : x144 = nI q := ex144
          refine zJ_iload dX1_spreadCases_161 rfl ?_
          refine zJ_iload dX1_spreadCases_163 rfl ?_
          refine zJ_ishr dX1_spreadCases_165 ?_
          rw [nI_shr (show ztb T k (zcC T k) < 2 ^ 31 by omega) (by omega)]
          refine zJ_iconst (v := 1) dX1_spreadCases_166 (by decide) ?_
          refine zJ_icmp_ne (tgt := 174) dX1_spreadCases_167 (by decide) (fun h167 => ?_) (fun h167 => ?_)
          · have hD1 : ¬ ztb T k (zcC T k) / 2 ^ j = 1 := fun h => h167 (by rw [h]; rfl)
            refine zJ_iconst (v := 0) dX1_spreadCases_174 (by decide) ?_
            refine zJ_istore (ls2 := fun x175 => [(16, .int x175), (15, .int (nI q)), (14, .int (nI j)), (12, .long lf), (11, .int (nI (zwt T k.1 (ztb T k (zcC T k)) 8))), (10, .int (nI (ztb T k (zcC T k)))), (8, .long (lN (t k - zop1 T k (t k)))), (6, .long (lN (zop1 T k (t k)))), (5, .int (nI k.2.1)), (4, .int (nI k.1)), (2, .long (lN (zenc T k))), (0, .ref b), (1, .int (nI x))]) dX1_spreadCases_175 (by decide) (fun _ => rfl) (fun x175 ex175 => ?_)
            obtain rfl : x175 = (0) := ex175
            refine zJ_iload dX1_spreadCases_177 rfl ?_
            refine zJ_if_eq (tgt := 187) dX1_spreadCases_179 (by decide) (fun h179 => ?_) (fun h179 => ?_)
            · have hm8 : (t k - zop1 T k (t k)) * zwu T k.1 j ≤ 1000000000 * 99 := Nat.mul_le_mul (by omega) (zwu_le hT0 hk1 hj9)
              have hm9 : (t k - zop1 T k (t k)) * zwu T k.1 j < 2 ^ 63 := by omega
              refine zJ_lload dX1_spreadCases_187 rfl ?_
              refine zJ_aload_n dX1_spreadCases_189 rfl ?_
              refine zJ_iload dX1_spreadCases_190 rfl ?_
              refine zJ_iload dX1_spreadCases_192 rfl ?_
              refine zJ_cV2 dX1_spreadCases_194 sX1_161 mfX1_weightTo (c_Play_weightTo Δ w1 b R m T K (hG0.fp hf.fp) k.1 j hk1 hj9) (by first | rfl | assumption) rfl (Nat.le_of_ble_eq_true rfl) (by decide) (by decide) ?_
              refine zJ_i2l dX1_spreadCases_197 ?_
              rw [nI_l (by have := zwu_le hT0 hk1 hj9; omega)]
              refine zJ_lmul dX1_spreadCases_198 ?_
              refine zJ_iload dX1_spreadCases_199 rfl ?_
              refine zJ_i2l dX1_spreadCases_201 ?_
              rw [lN_mul, nI_l (show zwt T k.1 (ztb T k (zcC T k)) 8 < 2 ^ 31 by omega)]
              refine zJ_ldiv dX1_spreadCases_202 (fun h => absurd ((lN_ltL (a := 0) (by decide) (by omega)).mpr hU) (by rw [h]; decide)) ?_
              refine zJ_lstore (ls2 := fun x203n => [(17, .long x203n), (16, .int (0)), (15, .int (nI q)), (14, .int (nI j)), (12, .long lf), (11, .int (nI (zwt T k.1 (ztb T k (zcC T k)) 8))), (10, .int (nI (ztb T k (zcC T k)))), (8, .long (lN (t k - zop1 T k (t k)))), (6, .long (lN (zop1 T k (t k)))), (5, .int (nI k.2.1)), (4, .int (nI k.1)), (2, .long (lN (zenc T k))), (0, .ref b), (1, .int (nI x))]) dX1_spreadCases_203 (by decide) (fun _ => rfl) (fun x203n ex203n => ?_)
              obtain rfl : x203n = (lN (zpt T k (t k - zop1 T k (t k)) j)) := by rw [ex203n, lN_div hm9 (by omega)]; simp [zpt, hD1]
              refine zJ_lload dX1_spreadCases_205 rfl ?_
              refine zJ_lload dX1_spreadCases_207 rfl ?_
              refine zJ_lsub dX1_spreadCases_209 ?_
              refine zJ_lstore (ls2 := fun x210n => [(12, .long x210n), (17, .long (lN (zpt T k (t k - zop1 T k (t k)) j))), (16, .int (0)), (15, .int (nI q)), (14, .int (nI j)), (11, .int (nI (zwt T k.1 (ztb T k (zcC T k)) 8))), (10, .int (nI (ztb T k (zcC T k)))), (8, .long (lN (t k - zop1 T k (t k)))), (6, .long (lN (zop1 T k (t k)))), (5, .int (nI k.2.1)), (4, .int (nI k.1)), (2, .long (lN (zenc T k))), (0, .ref b), (1, .int (nI x))]) dX1_spreadCases_210 (by decide) (fun _ => rfl) (fun x210n ex210n => ?_)
              obtain rfl : x210n = (lf - lN (zpt T k (t k - zop1 T k (t k)) j)) := ex210n
              refine zJ_aload_n dX1_spreadCases_212 rfl ?_
              refine zJ_getr dX1_spreadCases_213 fX1_47 (by first | rfl | assumption) rfl (by first | rfl | assumption) ?_
              refine zJ_iload dX1_spreadCases_216 rfl ?_
              refine zJ_dup2_11 dX1_spreadCases_218 rfl rfl ?_
              refine zJ_lald dX1_spreadCases_219 (by first | rfl | assumption) (vp_in_nI (by omega) (by omega)) ?_
              refine zJ_lload dX1_spreadCases_220 rfl ?_
              refine zJ_ladd dX1_spreadCases_222 ?_
              refine zJ_last dX1_spreadCases_223 (by first | rfl | assumption) (vp_in_nI (by omega) (by omega)) ?_
              refine zJ_iinc (ls2 := fun x224n => [(14, .int x224n), (12, .long (lf - lN (zpt T k (t k - zop1 T k (t k)) j))), (17, .long (lN (zpt T k (t k - zop1 T k (t k)) j))), (16, .int (0)), (15, .int (nI q)), (11, .int (nI (zwt T k.1 (ztb T k (zcC T k)) 8))), (10, .int (nI (ztb T k (zcC T k)))), (8, .long (lN (t k - zop1 T k (t k)))), (6, .long (lN (zop1 T k (t k)))), (5, .int (nI k.2.1)), (4, .int (nI k.1)), (2, .long (lN (zenc T k))), (0, .ref b), (1, .int (nI x))]) dX1_spreadCases_224 rfl (by decide) (fun _ => rfl) (fun x224n ex224n => ?_)
              refine zJ_goto (tgt := 122) dX1_spreadCases_227 (by decide) ?_
              refine zJ_ls [(14, .int x224n), (12, .long (lf - lN (zpt T k (t k - zop1 T k (t k)) j))), (11, .int (nI (zwt T k.1 (ztb T k (zcC T k)) 8))), (10, .int (nI (ztb T k (zcC T k)))), (8, .long (lN (t k - zop1 T k (t k)))), (6, .long (lN (zop1 T k (t k)))), (5, .int (nI k.2.1)), (4, .int (nI k.1)), (2, .long (lN (zenc T k))), (0, .ref b), (1, .int (nI x))] (by simp) ?_
              rw [ex224n, show nI j + Int32.ofInt 1 = nI (j + 1) from nI_1 _]
              refine ih (j + 1) (by omega) (by omega) _ _ (hf.tr (zFt.l (Or.inl rfl))) hi1 (fun i hi => by rw [← hc1 i hi]; simp [zsl]) (fun z q2 hz => ?_) (fun h => ?_)
              · rw [nI_clamp (show q < 2 ^ 31 by omega)]
                simp only [zds, hb, if_true]
                by_cases hzq : z = q
                · subst hzq
                  rw [hq] at hz; cases hz
                  simp only [zsl, and_self, if_true]
                  rw [ht1 z _ hq, lN_add]
                · have hne : ¬ q2 = zbk T k j := fun e => hzq (nodup_ix hnd (by rw [← e]; exact hz) hq)
                  simp only [hne, if_false]
                  rw [← ht1 z q2 hz]; simp [zsl, hzq]
              · rw [hlf (by rw [eB] at h; generalize ztb T k (zcC T k) / 2 ^ j = D at h ⊢; omega), lN_sub hpl9, Nat.sub_sub]
                have hpe : zpt T k (t k - zop1 T k (t k)) j = (t k - zop1 T k (t k)) * zwu T k.1 j / zwt T k.1 (ztb T k (zcC T k)) 8 := by simp [zpt, hD1]
                rw [hpe, show zps T k (t k - zop1 T k (t k)) (j + 1) = zps T k (t k - zop1 T k (t k)) j + (t k - zop1 T k (t k)) * zwu T k.1 j / zwt T k.1 (ztb T k (zcC T k)) 8 by simp [zps, fb_sm, hb]]
            · exact absurd rfl h179
          · have hD1 : ztb T k (zcC T k) / 2 ^ j = 1 := (nI_eq (b := 1) (by omega) (by decide)).mp h167
            refine zJ_iconst (v := 1) dX1_spreadCases_170 (by decide) ?_
            refine zJ_goto (tgt := 175) dX1_spreadCases_171 (by decide) ?_
            refine zJ_istore (ls2 := fun x175 => [(16, .int x175), (15, .int (nI q)), (14, .int (nI j)), (12, .long lf), (11, .int (nI (zwt T k.1 (ztb T k (zcC T k)) 8))), (10, .int (nI (ztb T k (zcC T k)))), (8, .long (lN (t k - zop1 T k (t k)))), (6, .long (lN (zop1 T k (t k)))), (5, .int (nI k.2.1)), (4, .int (nI k.1)), (2, .long (lN (zenc T k))), (0, .ref b), (1, .int (nI x))]) dX1_spreadCases_175 (by decide) (fun _ => rfl) (fun x175 ex175 => ?_)
            obtain rfl : x175 = (1) := ex175
            refine zJ_iload dX1_spreadCases_177 rfl ?_
            refine zJ_if_eq (tgt := 187) dX1_spreadCases_179 (by decide) (fun h179 => ?_) (fun h179 => ?_)
            · exact absurd h179 (by decide)
            · refine zJ_lload dX1_spreadCases_182 rfl ?_
              refine zJ_goto (tgt := 203) dX1_spreadCases_184 (by decide) ?_
              refine zJ_lstore (ls2 := fun x203y => [(17, .long x203y), (16, .int (1)), (15, .int (nI q)), (14, .int (nI j)), (12, .long lf), (11, .int (nI (zwt T k.1 (ztb T k (zcC T k)) 8))), (10, .int (nI (ztb T k (zcC T k)))), (8, .long (lN (t k - zop1 T k (t k)))), (6, .long (lN (zop1 T k (t k)))), (5, .int (nI k.2.1)), (4, .int (nI k.1)), (2, .long (lN (zenc T k))), (0, .ref b), (1, .int (nI x))]) dX1_spreadCases_203 (by decide) (fun _ => rfl) (fun x203y ex203y => ?_)
              obtain rfl : x203y = (lN (zpt T k (t k - zop1 T k (t k)) j)) := by rw [ex203y, hlf hD0]; simp [zpt, hD1]
              refine zJ_lload dX1_spreadCases_205 rfl ?_
              refine zJ_lload dX1_spreadCases_207 rfl ?_
              refine zJ_lsub dX1_spreadCases_209 ?_
              refine zJ_lstore (ls2 := fun x210y => [(12, .long x210y), (17, .long (lN (zpt T k (t k - zop1 T k (t k)) j))), (16, .int (1)), (15, .int (nI q)), (14, .int (nI j)), (11, .int (nI (zwt T k.1 (ztb T k (zcC T k)) 8))), (10, .int (nI (ztb T k (zcC T k)))), (8, .long (lN (t k - zop1 T k (t k)))), (6, .long (lN (zop1 T k (t k)))), (5, .int (nI k.2.1)), (4, .int (nI k.1)), (2, .long (lN (zenc T k))), (0, .ref b), (1, .int (nI x))]) dX1_spreadCases_210 (by decide) (fun _ => rfl) (fun x210y ex210y => ?_)
              obtain rfl : x210y = (lf - lN (zpt T k (t k - zop1 T k (t k)) j)) := ex210y
              refine zJ_aload_n dX1_spreadCases_212 rfl ?_
              refine zJ_getr dX1_spreadCases_213 fX1_47 (by first | rfl | assumption) rfl (by first | rfl | assumption) ?_
              refine zJ_iload dX1_spreadCases_216 rfl ?_
              refine zJ_dup2_11 dX1_spreadCases_218 rfl rfl ?_
              refine zJ_lald dX1_spreadCases_219 (by first | rfl | assumption) (vp_in_nI (by omega) (by omega)) ?_
              refine zJ_lload dX1_spreadCases_220 rfl ?_
              refine zJ_ladd dX1_spreadCases_222 ?_
              refine zJ_last dX1_spreadCases_223 (by first | rfl | assumption) (vp_in_nI (by omega) (by omega)) ?_
              refine zJ_iinc (ls2 := fun x224y => [(14, .int x224y), (12, .long (lf - lN (zpt T k (t k - zop1 T k (t k)) j))), (17, .long (lN (zpt T k (t k - zop1 T k (t k)) j))), (16, .int (1)), (15, .int (nI q)), (11, .int (nI (zwt T k.1 (ztb T k (zcC T k)) 8))), (10, .int (nI (ztb T k (zcC T k)))), (8, .long (lN (t k - zop1 T k (t k)))), (6, .long (lN (zop1 T k (t k)))), (5, .int (nI k.2.1)), (4, .int (nI k.1)), (2, .long (lN (zenc T k))), (0, .ref b), (1, .int (nI x))]) dX1_spreadCases_224 rfl (by decide) (fun _ => rfl) (fun x224y ex224y => ?_)
              refine zJ_goto (tgt := 122) dX1_spreadCases_227 (by decide) ?_
              refine zJ_ls [(14, .int x224y), (12, .long (lf - lN (zpt T k (t k - zop1 T k (t k)) j))), (11, .int (nI (zwt T k.1 (ztb T k (zcC T k)) 8))), (10, .int (nI (ztb T k (zcC T k)))), (8, .long (lN (t k - zop1 T k (t k)))), (6, .long (lN (zop1 T k (t k)))), (5, .int (nI k.2.1)), (4, .int (nI k.1)), (2, .long (lN (zenc T k))), (0, .ref b), (1, .int (nI x))] (by simp) ?_
              rw [ex224y, show nI j + Int32.ofInt 1 = nI (j + 1) from nI_1 _]
              refine ih (j + 1) (by omega) (by omega) _ _ (hf.tr (zFt.l (Or.inl rfl))) hi1 (fun i hi => by rw [← hc1 i hi]; simp [zsl]) (fun z q2 hz => ?_) (fun h => ?_)
              · rw [nI_clamp (show q < 2 ^ 31 by omega)]
                simp only [zds, hb, if_true]
                by_cases hzq : z = q
                · subst hzq
                  rw [hq] at hz; cases hz
                  simp only [zsl, and_self, if_true]
                  rw [ht1 z _ hq, lN_add]
                · have hne : ¬ q2 = zbk T k j := fun e => hzq (nodup_ix hnd (by rw [← e]; exact hz) hq)
                  simp only [hne, if_false]
                  rw [← ht1 z q2 hz]; simp [zsl, hzq]
              · rw [eB, hD1] at h
                exact absurd h (by decide)
  refine zJ_aload_n dX1_spreadCases_0 rfl ?_
  refine zJ_getr dX1_spreadCases_1 fX1_34 (by first | rfl | assumption) rfl (by first | rfl | assumption) ?_
  refine zJ_getr dX1_spreadCases_4 fX1_101 (by first | rfl | assumption) rfl (by first | rfl | assumption) ?_
  refine zJ_iload_n dX1_spreadCases_7 rfl ?_
  refine zJ_lald dX1_spreadCases_8 (by first | rfl | assumption) (vp_in_nI (by omega) (by omega)) ?_
  refine zJ_lstore_n (ls2 := fun x9 => [(2, .long x9), (0, .ref b), (1, .int (nI x))]) dX1_spreadCases_9 (by decide) (fun _ => rfl) (fun x9 ex9 => ?_)
  obtain rfl : x9 = (lN (zenc T k)) := by rw [ex9, cx, hky]
  refine zJ_lload_n dX1_spreadCases_10 rfl ?_
  refine zJ_cS1 dX1_spreadCases_11 sX1_104 mfX6_whoOf (c_Ways_whoOf Δ w (zenc T k)) (Nat.le_of_ble_eq_true rfl) (by decide) (by decide) ?_
  rw [hP.1]
  refine zJ_istore (ls2 := fun x14 => [(4, .int x14), (2, .long (lN (zenc T k))), (0, .ref b), (1, .int (nI x))]) dX1_spreadCases_14 (by decide) (fun _ => rfl) (fun x14 ex14 => ?_)
  obtain rfl : x14 = (nI k.1) := ex14
  refine zJ_lload_n dX1_spreadCases_16 rfl ?_
  refine zJ_cS1 dX1_spreadCases_17 sX1_133 mfX6_handOf (c_Ways_handOf Δ w (zenc T k) (by omega)) (Nat.le_of_ble_eq_true rfl) (by decide) (by decide) ?_
  rw [hP.2.1]
  refine zJ_istore (ls2 := fun x20 => [(5, .int x20), (4, .int (nI k.1)), (2, .long (lN (zenc T k))), (0, .ref b), (1, .int (nI x))]) dX1_spreadCases_20 (by decide) (fun _ => rfl) (fun x20 ex20 => ?_)
  obtain rfl : x20 = (nI k.2.1) := ex20
  refine zJ_aload_n dX1_spreadCases_22 rfl ?_
  refine zJ_getr dX1_spreadCases_23 fX1_47 (by first | rfl | assumption) rfl (by first | rfl | assumption) ?_
  refine zJ_iload_n dX1_spreadCases_26 rfl ?_
  refine zJ_lald dX1_spreadCases_27 (by first | rfl | assumption) (vp_in_nI (by omega) (by omega)) ?_
  rw [cx, htx]
  refine zJ_aload_n dX1_spreadCases_28 rfl ?_
  refine zJ_iload_n dX1_spreadCases_29 rfl ?_
  refine zJ_cV1 dX1_spreadCases_30 sX1_123 mfX1_shareOpened (c_Play_shareOpened Δ w b R m T K hG0 x k hx (zcC T k) hC hC8) (by first | rfl | assumption) rfl (Nat.le_of_ble_eq_true rfl) (by decide) (by decide) ?_
  refine zJ_i2l dX1_spreadCases_33 ?_
  rw [nI_l (by omega)]
  refine zJ_lmul dX1_spreadCases_34 ?_
  rw [lN_mul]
  refine zJ_ldc2 dX1_spreadCases_35 kX1_139 ?_
  refine zJ_ldiv dX1_spreadCases_38 (by decide) ?_
  refine zJ_lstore (ls2 := fun x39 => [(6, .long x39), (5, .int (nI k.2.1)), (4, .int (nI k.1)), (2, .long (lN (zenc T k))), (0, .ref b), (1, .int (nI x))]) dX1_spreadCases_39 (by decide) (fun _ => rfl) (fun x39 ex39 => ?_)
  obtain rfl : x39 = (lN (zop1 T k (t k))) := by rw [ex39]; exact lN_div (by omega) (by decide)
  refine zJ_iload dX1_spreadCases_41 rfl ?_
  refine zJ_iconst (v := 1) dX1_spreadCases_43 (by decide) ?_
  refine zJ_icmp_lt (tgt := 74) dX1_spreadCases_44 (by decide) (fun h44 => ?_) (fun h44 => ?_)
  · exact absurd ((nI_ltI (b := 1) (by omega) (by decide)).mp h44) (by omega)
  · refine zJ_iload dX1_spreadCases_47 rfl ?_
    refine zJ_bipush (v := 12) dX1_spreadCases_49 (by decide) ?_
    refine zJ_icmp_gt (tgt := 74) dX1_spreadCases_51 (by decide) (fun h51 => ?_) (fun h51 => ?_)
    · exact absurd ((nI_ltI (a := 12) (by decide) (by omega)).mp h51) (by omega)
    · refine zJ_aload_n dX1_spreadCases_54 rfl ?_
      refine zJ_getr dX1_spreadCases_55 fX1_18 (by first | rfl | assumption) rfl (by first | rfl | assumption) ?_
      refine zJ_iload dX1_spreadCases_58 rfl ?_
      refine zJ_bipush (v := 12) dX1_spreadCases_60 (by decide) ?_
      refine zJ_imul dX1_spreadCases_62 ?_
      refine zJ_iload dX1_spreadCases_63 rfl ?_
      refine zJ_iadd dX1_spreadCases_65 ?_
      refine zJ_iconst (v := 1) dX1_spreadCases_66 (by decide) ?_
      refine zJ_isub dX1_spreadCases_67 ?_
      rw [show nI k.1 * 12 = nI (k.1 * 12) from na_mul k.1 12, na_add, show nI (k.1 * 12 + k.2.1) - 1 = nI (k.1 * 12 + k.2.1 - 1) from na_sub (a := k.1 * 12 + k.2.1) (b := 1) (by omega), show k.1 * 12 + k.2.1 - 1 = k.1 * 12 + (k.2.1 - 1) by omega]
      refine zJ_dup2_11 dX1_spreadCases_68 rfl rfl ?_
      refine zJ_lald dX1_spreadCases_69 (by first | rfl | assumption) (vp_in_nI (by omega) (by omega)) ?_
      rw [nI_clamp (show k.1 * 12 + (k.2.1 - 1) < 2 ^ 31 by omega), hcc _ (by omega)]
      refine zJ_lload dX1_spreadCases_70 rfl ?_
      refine zJ_ladd dX1_spreadCases_72 ?_
      rw [lN_add]
      refine zJ_last dX1_spreadCases_73 (by first | rfl | assumption) (vp_in_nI (by omega) (by omega)) ?_
      rw [nI_clamp (show k.1 * 12 + (k.2.1 - 1) < 2 ^ 31 by omega)]
      have hfw : zFt w (zsl w (b + 16) (k.1 * 12 + (k.2.1 - 1)) (lN (c (k.1 * 12 + (k.2.1 - 1)) + zop1 T k (t k)))) b := zFt.l (Or.inr (Or.inr rfl))
      have htw : zTr (zsl w (b + 16) (k.1 * 12 + (k.2.1 - 1)) (lN (c (k.1 * 12 + (k.2.1 - 1)) + zop1 T k (t k)))) b K t := fun z q hz => by rw [← htr z q hz]; simp [zsl]
      have hcw : zCc (zsl w (b + 16) (k.1 * 12 + (k.2.1 - 1)) (lN (c (k.1 * 12 + (k.2.1 - 1)) + zop1 T k (t k)))) b (zsp T k (t, c)).2 := fun i hi => by
        by_cases he : i = k.1 * 12 + (k.2.1 - 1)
        · subst he; simp [zsl, zsp]
        · simp only [zsp, he, if_false]; rw [← hcc i hi]; simp [zsl, he]
      refine zJ_aload_n dX1_spreadCases_74 rfl ?_
      refine zJ_getr dX1_spreadCases_75 fX1_47 (by first | rfl | assumption) rfl (by first | rfl | assumption) ?_
      refine zJ_iload_n dX1_spreadCases_78 rfl ?_
      refine zJ_lald dX1_spreadCases_79 (by first | rfl | assumption) (vp_in_nI (by omega) (by omega)) ?_
      rw [cx, htw x k hx]
      refine zJ_lload dX1_spreadCases_80 rfl ?_
      refine zJ_lsub dX1_spreadCases_82 ?_
      refine zJ_lstore (ls2 := fun x83 => [(8, .long x83), (6, .long (lN (zop1 T k (t k)))), (5, .int (nI k.2.1)), (4, .int (nI k.1)), (2, .long (lN (zenc T k))), (0, .ref b), (1, .int (nI x))]) dX1_spreadCases_83 (by decide) (fun _ => rfl) (fun x83 ex83 => ?_)
      obtain rfl : x83 = (lN (t k - zop1 T k (t k))) := by rw [ex83, lN_sub hop]
      refine zJ_aload_n dX1_spreadCases_85 rfl ?_
      refine zJ_iload_n dX1_spreadCases_86 rfl ?_
      refine zJ_cV1 dX1_spreadCases_87 sX1_155 mfX1_targetsOf (c_Play_targetsOf Δ (zsl w (b + 16) (k.1 * 12 + (k.2.1 - 1)) (lN (c (k.1 * 12 + (k.2.1 - 1)) + zop1 T k (t k)))) b R m T K (hG0.fp hfw.fp) x k hx (zcC T k) hC hC8) (by first | rfl | assumption) rfl (Nat.le_of_ble_eq_true rfl) (by decide) (by decide) ?_
      refine zJ_istore (ls2 := fun x90 => [(10, .int x90), (8, .long (lN (t k - zop1 T k (t k)))), (6, .long (lN (zop1 T k (t k)))), (5, .int (nI k.2.1)), (4, .int (nI k.1)), (2, .long (lN (zenc T k))), (0, .ref b), (1, .int (nI x))]) dX1_spreadCases_90 (by decide) (fun _ => rfl) (fun x90 ex90 => ?_)
      obtain rfl : x90 = (nI (ztb T k (zcC T k))) := ex90
      refine zJ_aload_n dX1_spreadCases_92 rfl ?_
      refine zJ_iload dX1_spreadCases_93 rfl ?_
      refine zJ_iload dX1_spreadCases_95 rfl ?_
      refine zJ_cV2 dX1_spreadCases_97 sX1_205 mfX1_weightsTo (c_Play_weightsTo Δ (zsl w (b + 16) (k.1 * 12 + (k.2.1 - 1)) (lN (c (k.1 * 12 + (k.2.1 - 1)) + zop1 T k (t k)))) b R m T K (hG0.fp hfw.fp) k.1 (ztb T k (zcC T k)) hk1 hB256) (by first | rfl | assumption) rfl (Nat.le_of_ble_eq_true rfl) (by decide) (by decide) ?_
      refine zJ_istore (ls2 := fun x100 => [(11, .int x100), (10, .int (nI (ztb T k (zcC T k)))), (8, .long (lN (t k - zop1 T k (t k)))), (6, .long (lN (zop1 T k (t k)))), (5, .int (nI k.2.1)), (4, .int (nI k.1)), (2, .long (lN (zenc T k))), (0, .ref b), (1, .int (nI x))]) dX1_spreadCases_100 (by decide) (fun _ => rfl) (fun x100 ex100 => ?_)
      obtain rfl : x100 = (nI (zwt T k.1 (ztb T k (zcC T k)) 8)) := ex100
      refine zJ_lload dX1_spreadCases_102 rfl ?_
      refine zJ_lconst (v := 0) dX1_spreadCases_104 (by decide) ?_
      refine zJ_lc_eq (tgt := 114) dX1_spreadCases_105 dX1_spreadCases_106 (by decide) (fun h106 => ?_) (fun h106 => ?_)
      · have hz : t k - zop1 T k (t k) = 0 ∨ zwt T k.1 (ztb T k (zcC T k)) 8 = 0 := Or.inl ((fb_lN_inj (b := 0) (by omega) (by decide)).mp h106)
        refine zJ_vret dX1_spreadCases_114 rfl (by decide) (by decide) (hQ _ _ ⟨rfl, hfw, rfl, by simp only [zsp]; rw [if_pos hz]; exact htw, hcw⟩)
      · have hsn : ¬ t k - zop1 T k (t k) = 0 := fun h => h106 (by rw [h]; rfl)
        refine zJ_iload dX1_spreadCases_109 rfl ?_
        refine zJ_if_gt (tgt := 115) dX1_spreadCases_111 (by decide) (fun h111 => ?_) (fun h111 => ?_)
        · have hU : 0 < zwt T k.1 (ztb T k (zcC T k)) 8 := (nI_ltI (a := 0) (by decide) (by omega)).mp h111
          refine zJ_lload dX1_spreadCases_115 rfl ?_
          refine zJ_lstore (ls2 := fun x117 => [(12, .long x117), (11, .int (nI (zwt T k.1 (ztb T k (zcC T k)) 8))), (10, .int (nI (ztb T k (zcC T k)))), (8, .long (lN (t k - zop1 T k (t k)))), (6, .long (lN (zop1 T k (t k)))), (5, .int (nI k.2.1)), (4, .int (nI k.1)), (2, .long (lN (zenc T k))), (0, .ref b), (1, .int (nI x))]) dX1_spreadCases_117 (by decide) (fun _ => rfl) (fun x117 ex117 => ?_)
          obtain rfl : x117 = (lN (t k - zop1 T k (t k))) := ex117
          refine zJ_iconst (v := 0) dX1_spreadCases_119 (by decide) ?_
          refine zJ_istore (ls2 := fun x120 => [(14, .int x120), (12, .long (lN (t k - zop1 T k (t k)))), (11, .int (nI (zwt T k.1 (ztb T k (zcC T k)) 8))), (10, .int (nI (ztb T k (zcC T k)))), (8, .long (lN (t k - zop1 T k (t k)))), (6, .long (lN (zop1 T k (t k)))), (5, .int (nI k.2.1)), (4, .int (nI k.1)), (2, .long (lN (zenc T k))), (0, .ref b), (1, .int (nI x))]) dX1_spreadCases_120 (by decide) (fun _ => rfl) (fun x120 ex120 => ?_)
          obtain rfl : x120 = (nI 0) := ex120
          refine zJ_ls [(14, .int (nI 0)), (12, .long (lN (t k - zop1 T k (t k)))), (11, .int (nI (zwt T k.1 (ztb T k (zcC T k)) 8))), (10, .int (nI (ztb T k (zcC T k)))), (8, .long (lN (t k - zop1 T k (t k)))), (6, .long (lN (zop1 T k (t k)))), (5, .int (nI k.2.1)), (4, .int (nI k.1)), (2, .long (lN (zenc T k))), (0, .ref b), (1, .int (nI x))] (by simp) (L hsn hU 0 (Nat.zero_le _) _ _ hfw rfl hcw htw (fun _ => by simp [zps, fb_sm]))
        · have hz : t k - zop1 T k (t k) = 0 ∨ zwt T k.1 (ztb T k (zcC T k)) 8 = 0 := Or.inr (by
            have : ¬ 0 < zwt T k.1 (ztb T k (zcC T k)) 8 := fun h => h111 ((nI_ltI (a := 0) (by decide) (by omega)).mpr h)
            omega)
          refine zJ_vret dX1_spreadCases_114 rfl (by decide) (by decide) (hQ _ _ ⟨rfl, hfw, rfl, by simp only [zsp]; rw [if_pos hz]; exact htw, hcw⟩)
