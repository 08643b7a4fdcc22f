/-! LetterTown$Play: reckonHand, reckon, choose -/
theorem sm_one {f : Nat → Nat} {q : Nat} : ∀ n, fb_sm (fun y => if (2 ^ q).testBit y then f y else 0) n = if q < n then f q else 0
  | 0 => by simp [fb_sm]
  | n + 1 => by
    rw [fb_sm_succ, sm_one n, Nat.testBit_two_pow]
    by_cases h : q = n
    · subst h; simp
    · have h1 : (q < n + 1) = (q < n) := by simp only [eq_iff_iff]; omega
      simp [h, h1]
theorem si_one {f : Nat → Int} {q : Nat} : ∀ n, fb_si (fun y => if (2 ^ q).testBit y then f y else 0) n = if q < n then f q else 0
  | 0 => by simp [fb_si]
  | n + 1 => by
    rw [fb_si_succ, si_one n, Nat.testBit_two_pow]
    by_cases h : q = n
    · subst h; simp
    · have h1 : (q < n + 1) = (q < n) := by simp only [eq_iff_iff]; omega
      simp [h, h1]
/-- whom k sends it to, as is reckoned -/
def zcC (T : zTo) (k : zKy) : Option Nat := if T.2.1 k.1 = 3 then zch T k (zce T k) (zcg T k) else none
theorem zcC_may {T : zTo} {k : zKy} {q : Nat} (h : zcC T k = some q) : q < 8 ∧ zmay T k q = true := by
  simp only [zcC] at h
  split at h
  · exact zch_may h
  · cases h
theorem zli_none {T : zTo} {k : zKy} {e : Nat → Nat} {g : Nat → Nat → Int} (h : zmb T k = 0) : ∀ n, n ≤ 8 → zli T k e g n = none
  | 0, _ => rfl
  | n + 1, hn => by
    have h1 := zmb_tb T k (show n < 8 by omega)
    rw [h, Nat.zero_testBit] at h1
    simp [zli, ← h1, zli_none h n (by omega)]
theorem zcC_none {T : zTo} {k : zKy} (h : zmb T k = 0) : zcC T k = none := by
  simp only [zcC, zch, zli_none h 8 (Nat.le_refl 8)]
  split <;> rfl
theorem zvl_C {T : zTo} {k : zKy} (hT : zTok T) (hk : zkok T k) (h3 : T.2.1 k.1 = 3) : (zvl T k).2.2 = zcC T k := by
  rw [zvl_e hT hk]
  by_cases hm : zmb T k = 0
  · rw [zcC_none hm]; simp [zRk, hm]
  · simp only [zRk, if_neg hm, h3, if_true, zcC]
    cases zch T k (zce T k) (zcg T k) <;> rfl
theorem zvl_op {T : zTo} {k : zKy} (hT : zTok T) (hk : zkok T k) (hs : 1000 ≤ zsh T k (zcC T k)) : (zvl T k).1 = zoE T k ∧ (zvl T k).2.1 = zoG T k := by
  rw [zvl_e hT hk]
  by_cases hm : zmb T k = 0
  · simp [zRk, hm]
  · obtain ⟨y, hy, hmy⟩ := zmb_0 hm
    have hh : ¬ k.2.1 = T.1 7 := by have := zmay_h1 hmy; omega
    have hn := (hT.2.2.2.2.2.2.2.2.2.2.1 k.1).2.2.1
    simp only [zsh, if_neg hm] at hs
    simp only [zRk, if_neg hm]
    by_cases h3 : T.2.1 k.1 = 3
    · simp only [h3, if_true, zcC] at hs ⊢
      cases hc : zch T k (zce T k) (zcg T k) with
      | none => exact ⟨rfl, rfl⟩
      | some q => rw [hc] at hs; simp at hs
    · simp only [if_neg h3] at hs ⊢
      by_cases h0 : T.2.1 k.1 = 0 ∧ T.2.2.1 k.1 ≤ zfl T k.2.1
      · rw [if_pos h0]; exact ⟨rfl, rfl⟩
      · rw [if_neg h0]
        by_cases h2 : T.2.1 k.1 = 2
        · have h20 : ¬ T.2.1 k.1 = 0 := by omega
          simp only [h20, h2, if_true, if_false] at hs ⊢
          have hn1 : T.2.2.1 k.1 = 1000 := by
            have := hn h2
            simp at hs
            omega
          rw [hn1]
          refine ⟨by simp [zoE, hh], funext fun p => ?_⟩
          simp only [zoG, hh, if_false]
          by_cases hp : p = k.1
          · simp only [hp, if_true]; omega
          · simp [hp]
        · by_cases h20 : T.2.1 k.1 = 0
          · have : ¬ T.2.2.1 k.1 ≤ zfl T k.2.1 := fun h => h0 ⟨h20, h⟩
            simp [h20, this] at hs
          · simp [h20, h2] at hs
theorem zwt_mb {T : zTo} {k : zKy} (h3 : ¬ T.2.1 k.1 = 3) : zwt T k.1 (zmb T k) 8 = zwS T k := by
  simp only [zwt, zwS]
  refine fb_sm_cong fun y hy => ?_
  simp [zmb_tb T k hy, zwu, h3, zwx]
theorem zve_mb {T : zTo} {k : zKy} (h3 : ¬ T.2.1 k.1 = 3) : zve T k (zmb T k) 8 = fb_sm (fun y => if zmay T k y then zwx T k y * zce T k y else 0) 8 := by
  simp only [zve]
  refine fb_sm_cong fun y hy => ?_
  simp [zmb_tb T k hy, zwu, h3, zwx]
theorem zvg_mb {T : zTo} {k : zKy} {p : Nat} (h3 : ¬ T.2.1 k.1 = 3) : zvg T k (zmb T k) p 8 = fb_si (fun y => if zmay T k y then (zwx T k y : Int) * zbs T k (zce T k) (zcg T k) y p else 0) 8 := by
  simp only [zvg]
  refine fb_si_cong fun y hy => ?_
  simp [zmb_tb T k hy, zwu, h3, zwx]
theorem zvl_se {T : zTo} {k : zKy} (hT : zTok T) (hk : zkok T k) (hs : zsh T k (zcC T k) < 1000) : 0 < zwt T k.1 (ztb T k (zcC T k)) 8 ∧ (zvl T k).1 = zfE T k (ztb T k (zcC T k)) (zsh T k (zcC T k)) ∧ (zvl T k).2.1 = zfG T k (ztb T k (zcC T k)) (zsh T k (zcC T k)) := by
  rw [zvl_e hT hk]
  have hm : ¬ zmb T k = 0 := fun h => by simp [zsh, h] at hs
  simp only [zRk, if_neg hm]
  by_cases h3 : T.2.1 k.1 = 3
  · have h30 : ¬ T.2.1 k.1 = 0 := by omega
    have h32 : ¬ T.2.1 k.1 = 2 := by omega
    cases hc : zch T k (zce T k) (zcg T k) with
    | none => simp [zsh, hm, h3, zcC, hc] at hs
    | some q =>
      have hq := zch_may hc
      have e1 : zsh T k (zcC T k) = 0 := by simp [zsh, hm, h3, zcC, hc]
      have e2 : ztb T k (zcC T k) = 2 ^ q := by simp [ztb, h3, zcC, hc]
      have e3 : zwt T k.1 (2 ^ q) 8 = 1 := by simp [zwt, sm_one, hq.1, zwu, h3]
      have e4 : zve T k (2 ^ q) 8 = zce T k q := by simp [zve, sm_one, hq.1, zwu, h3]
      have e5 : ∀ p, zvg T k (2 ^ q) p 8 = zbs T k (zce T k) (zcg T k) q p := fun p => by simp [zvg, si_one, hq.1, zwu, h3]
      rw [e1, e2, e3]
      simp only [h3, if_true]
      refine ⟨by decide, ?_, funext fun p => ?_⟩
      · simp only [zfE, e3, e4]; omega
      · simp only [zfG, e3, e5]
        simp
        try omega
  · have hW := zwS_pos hm
    have e2 : ztb T k (zcC T k) = zmb T k := by simp [ztb, h3]
    rw [e2, zwt_mb h3]
    refine ⟨hW, ?_⟩
    simp only [if_neg h3]
    have hno : ¬ (T.2.1 k.1 = 0 ∧ T.2.2.1 k.1 ≤ zfl T k.2.1) := fun h => by simp [zsh, hm, h.1, h.2] at hs
    rw [if_neg hno]
    by_cases h2 : T.2.1 k.1 = 2
    · have e1 : zsh T k (zcC T k) = T.2.2.1 k.1 := by simp [zsh, hm, h2]
      rw [e1] at hs ⊢
      simp only [h2, if_true]
      refine ⟨?_, funext fun p => ?_⟩
      · simp only [zfE, zwt_mb h3, zve_mb h3, zsE]
      · simp only [zfG, zwt_mb h3, zvg_mb h3, zsG]
        rw [Int.add_comm]
    · have e1 : zsh T k (zcC T k) = 0 := by
        by_cases h0 : T.2.1 k.1 = 0
        · have : ¬ T.2.2.1 k.1 ≤ zfl T k.2.1 := fun h => hno ⟨h0, h⟩
          simp [zsh, hm, h0, this]
        · simp [zsh, hm, h0, h2, h3]
      rw [e1]
      simp only [if_neg h2]
      refine ⟨?_, funext fun p => ?_⟩
      · simp only [zfE, zwt_mb h3, zve_mb h3, zsE]; omega
      · simp only [zfG, zwt_mb h3, zvg_mb h3, zsG]
        simp
        try omega
theorem zsh_le {T : zTo} (hT : zTok T) (k : zKy) (C : Option Nat) : zsh T k C ≤ 9999 := by
  have := (hT.2.2.2.2.2.2.2.2.2.2.1 k.1).2.1
  simp only [zsh]
  split
  · omega
  · split
    · split <;> omega
    · split
      · omega
      · split
        · cases C <;> simp
        · omega
set_option maxRecDepth 100000 in
theorem c_Play_reckonHand (Δ : zD) (w : zW) (b R m : Nat) (T : zTo) (K : List zKy) (hG : zGr w b R m T K) (x : Nat) (k : zKy) (hx : K[x]? = some k) (W n : Nat) (cl : Nat → Nat) (hco : zCo w b W n cl) (hch : zCh w b T K k W) (hWr : ∀ p, p < 8 → T.2.1 p = 3 → W.testBit p = true) : zMp Δ 4 yX1_reckonHand mX1_reckonHand [.ref b, .int (nI x)] w (fun a c => a = none ∧ zFh w c b x ∧ c.2.2.1 (b + 11) x = lN (zvl T k).1 ∧ (∀ p, p < 8 → W.testBit p = true → c.2.2.1 (b + 12) (x * 8 + p) = lZ ((zvl T k).2.1 p)) ∧ (T.2.1 k.1 = 3 → c.2.1 (b + 13) x = zoi (zvl T k).2.2)) := by
  refine zMp.of mfX1_reckonHand (Nat.le_of_ble_eq_true rfl) (fun QR hQ => ?_)
  have hG0 := hG
  obtain ⟨⟨p0, q0, q1, q2, q3, q4, q5, q6, q7, q8, q9, s11, s12, s13, s14, s15, s16, s17, s18, hS⟩, hi, hT, hall, hL, hrow⟩ := hG
  have hS0 := hS
  obtain ⟨g0, r1, r2, r3, r4, g1, g2, g3, g4, hR, hRm, hm, hR0⟩ := hS
  have hi0 := hi
  obtain ⟨t0, u1, u2, u3, u4, t1, t2, t3, t4⟩ := hi.1
  obtain ⟨-, hsc, hso, hnu, hkn, hwt⟩ := hi
  have hT0 := hT
  obtain ⟨hp0, hp5, hp6, hp7, hp8, hp9, hp10, hp11, hp12, hp13, hpp, hpw⟩ := hT
  have hm2 : 2 ^ m ≤ 2 ^ 15 := Nat.pow_le_pow_right (by decide) hm
  have hKR : K.length ≤ R := hL.2.2.1
  have hxK : x < K.length := (List.getElem?_eq_some_iff.mp hx).1
  have hk : zkok T k := hL.2.2.2.1 k (List.mem_iff_getElem?.mpr ⟨x, hx⟩)
  have cx : (nI x).toNatClampNeg = x := nI_clamp (by omega)
  have hky : w.2.2.1 (b + 6 + 1) x = lN (zenc T k) := hL.1 x k hx
  have hP := zenc_parts hT0 hk
  have hE52 := zenc_lt hT0 hk
  have hk1 : k.1 < 8 := hk.1
  have hk2 := hk.2.1
  have hbl := zmb_lt T k
  have hmayx := (hrow x k hx).1
  have hnx := (hrow x k hx).2
  have hso1 := hso k.1 hk1
  have hnu1 := hnu k.1 hk1
  have hsl := (hpp k.1).1
  have hnl := (hpp k.1).2.1
  have ck : (nI k.1).toNatClampNeg = k.1 := nI_clamp (by omega)
  have hcC8 : ∀ q, zcC T k = some q → q < 8 := fun q h => (zcC_may h).1
  have hshl := zsh_le hT0 k (zcC T k)
  have L : ∀ w1, zFh w w1 b x → w1.2.2.1 = w.2.2.1 → (T.2.1 k.1 = 3 → w1.2.1 (b + 13) x = zoi (zcC T k)) → zJ Δ mX1_reckonHand (zRm 4 0 0) true w.1 QR (fun _ _ => False) 0 0 74 [(2, .int (nI k.1)), (0, .ref b), (1, .int (nI x))] [] w1 := by
    intro w1 hf hl1 hc1
    have hG1 : zGr w1 b R m T K := hG0.fp hf.fp
    have hco1 : zCo w1 b W n cl := hco.fh hf
    have hch1 : zCh w1 b T K k W := by unfold zCh at *; rw [hl1]; exact hch
    have p1 : w1.1 b = some (.inl 1) := by rw [hf.1]; exact p0
    refine zJ_aload_n dX1_reckonHand_74 rfl ?_
    refine zJ_iload_n dX1_reckonHand_75 rfl ?_
    refine zJ_cV1 dX1_reckonHand_76 sX1_123 mfX1_shareOpened (c_Play_shareOpened Δ w1 b R m T K hG1 x k hx (zcC T k) hc1 hcC8) (by first | rfl | assumption) rfl (Nat.le_of_ble_eq_true rfl) (by decide) (by decide) ?_
    refine zJ_istore_n (ls2 := fun x79 => [(3, .int x79), (2, .int (nI k.1)), (0, .ref b), (1, .int (nI x))]) dX1_reckonHand_79 (by decide) (fun _ => rfl) (fun x79 ex79 => ?_)
    obtain rfl : x79 = (nI (zsh T k (zcC T k))) := ex79
    refine zJ_iload_n dX1_reckonHand_80 rfl ?_
    refine zJ_sipush (v := 1000) dX1_reckonHand_81 (by decide) ?_
    refine zJ_icmp_lt (tgt := 96) dX1_reckonHand_84 (by decide) (fun h84 => ?_) (fun h84 => ?_)
    · have hs9 : zsh T k (zcC T k) < 1000 := (nI_ltI (b := 1000) (by omega) (by decide)).mp h84
      obtain ⟨v0, v1, v2⟩ := zvl_se hT0 hk hs9
      refine zJ_aload_n dX1_reckonHand_96 rfl ?_
      refine zJ_iload_n dX1_reckonHand_97 rfl ?_
      refine zJ_iload_n dX1_reckonHand_98 rfl ?_
      refine zJ_iload_n dX1_reckonHand_99 rfl ?_
      refine zJ_eV3 dX1_reckonHand_100 sX1_129 mfX1_reckonSent (c_Play_reckonSent Δ w1 b R m T K hG1 x k hx W n cl hco1 (zcC T k) (zsh T k (zcC T k)) hc1 (fun q h => zcC_may h) hch1 hs9 v0) p1 rfl (Nat.le_of_ble_eq_true rfl) (by decide) (by decide) (fun r w2 hP => ?_)
      obtain ⟨rfl, h1, h2, h3, h4⟩ := hP
      exact zJ_vret dX1_reckonHand_103 rfl (by decide) (by decide) (hQ _ _ ⟨rfl, hf.tr h1, by rw [v1]; exact h3, by rw [v2]; exact h4, fun h => by rw [h2, zvl_C hT0 hk h]; exact hc1 h⟩)
    · refine zJ_aload_n dX1_reckonHand_87 rfl ?_
      refine zJ_iload_n dX1_reckonHand_88 rfl ?_
      refine zJ_iload_n dX1_reckonHand_89 rfl ?_
      refine zJ_eV2 dX1_reckonHand_90 sX1_126 mfX1_reckonOpened (c_Play_reckonOpened Δ w1 b R m T K hG1 x k hx W n cl hco1) p1 rfl (Nat.le_of_ble_eq_true rfl) (by decide) (by decide) (fun r w2 hP => ?_)
      obtain ⟨rfl, h1, h2, h3, h4⟩ := hP
      obtain ⟨v1, v2⟩ := zvl_op hT0 hk ((nI_leI (a := 1000) (by decide) (by omega)).mp (Int32.not_lt.mp h84))
      refine zJ_goto (tgt := 103) dX1_reckonHand_93 (by decide) ?_
      exact zJ_vret dX1_reckonHand_103 rfl (by decide) (by decide) (hQ _ _ ⟨rfl, hf.tr h1, by rw [v1]; exact h3, by rw [v2]; exact h4, fun h => by rw [h2, zvl_C hT0 hk h]; exact hc1 h⟩)
  have S0 : zcC T k = none → ∀ q3 : Int32, zJ Δ mX1_reckonHand (zRm 4 0 0) true w.1 QR (fun _ _ => False) 0 0 58 [(4, .int 0), (3, .int q3), (2, .int (nI k.1)), (0, .ref b), (1, .int (nI x))] [] w := by
    intro hc q3
    refine zJ_aload_n dX1_reckonHand_58 rfl ?_
    refine zJ_getr dX1_reckonHand_59 fX1_44 (by first | rfl | assumption) rfl (by first | rfl | assumption) ?_
    refine zJ_iload_n dX1_reckonHand_62 rfl ?_
    refine zJ_iload dX1_reckonHand_63 rfl ?_
    refine zJ_if_eq (tgt := 72) dX1_reckonHand_65 (by decide) (fun _ => ?_) (fun h9 => False.elim (by revert h9; decide))
    refine zJ_iconst (v := (-1)) dX1_reckonHand_72 (by decide) ?_
    refine zJ_iast dX1_reckonHand_73 (by first | rfl | assumption) (vp_in_nI (by omega) (by omega)) ?_
    refine zJ_ls [(2, .int (nI k.1)), (0, .ref b), (1, .int (nI x))] (by simp) ?_
    rw [cx]
    refine L _ ⟨rfl, rfl, fun a j h => ?_, fun _ _ _ _ _ => rfl⟩ rfl (fun _ => by rw [hc]; have h9 : (if b + 13 = b + 13 ∧ x = x then zoi none else w.2.1 (b + 13) x) = zoi none := if_pos ⟨rfl, rfl⟩; exact h9)
    have n1 : ¬ (a = b + 13 ∧ j = x) := by omega
    simp [zsi, n1]
  have S1 : ∀ q, zcC T k = some q → zJ Δ mX1_reckonHand (zRm 4 0 0) true w.1 QR (fun _ _ => False) 0 0 58 [(4, .int 1), (3, .int (nI q)), (2, .int (nI k.1)), (0, .ref b), (1, .int (nI x))] [] w := by
    intro q hc
    refine zJ_aload_n dX1_reckonHand_58 rfl ?_
    refine zJ_getr dX1_reckonHand_59 fX1_44 (by first | rfl | assumption) rfl (by first | rfl | assumption) ?_
    refine zJ_iload_n dX1_reckonHand_62 rfl ?_
    refine zJ_iload dX1_reckonHand_63 rfl ?_
    refine zJ_if_eq (tgt := 72) dX1_reckonHand_65 (by decide) (fun h9 => False.elim (by revert h9; decide)) (fun _ => ?_)
    refine zJ_iload_n dX1_reckonHand_68 rfl ?_
    refine zJ_goto (tgt := 73) dX1_reckonHand_69 (by decide) ?_
    refine zJ_iast dX1_reckonHand_73 (by first | rfl | assumption) (vp_in_nI (by omega) (by omega)) ?_
    refine zJ_ls [(2, .int (nI k.1)), (0, .ref b), (1, .int (nI x))] (by simp) ?_
    rw [cx]
    refine L _ ⟨rfl, rfl, fun a j h => ?_, fun _ _ _ _ _ => rfl⟩ rfl (fun _ => by rw [hc]; have h9 : (if b + 13 = b + 13 ∧ x = x then zoi (some q) else w.2.1 (b + 13) x) = zoi (some q) := if_pos ⟨rfl, rfl⟩; exact h9)
    have n1 : ¬ (a = b + 13 ∧ j = x) := by omega
    simp [zsi, n1]
  refine zJ_aload_n dX1_reckonHand_0 rfl ?_
  refine zJ_getr dX1_reckonHand_1 fX1_34 (by first | rfl | assumption) rfl (by first | rfl | assumption) ?_
  refine zJ_getr dX1_reckonHand_4 fX1_101 (by first | rfl | assumption) rfl (by first | rfl | assumption) ?_
  refine zJ_iload_n dX1_reckonHand_7 rfl ?_
  refine zJ_lald dX1_reckonHand_8 (by first | rfl | assumption) (vp_in_nI (by omega) (by omega)) ?_
  rw [cx, hky]
  refine zJ_cS1 dX1_reckonHand_9 sX1_104 mfX6_whoOf (c_Ways_whoOf Δ w (zenc T k)) (Nat.le_of_ble_eq_true rfl) (by decide) (by decide) ?_
  rw [hP.1]
  refine zJ_istore_n (ls2 := fun x12 => [(2, .int x12), (0, .ref b), (1, .int (nI x))]) dX1_reckonHand_12 (by decide) (fun _ => rfl) (fun x12 ex12 => ?_)
  obtain rfl : x12 = (nI k.1) := ex12
  refine zJ_aload_n dX1_reckonHand_13 rfl ?_
  refine zJ_getr dX1_reckonHand_14 fX1_12 (by first | rfl | assumption) rfl (by first | rfl | assumption) ?_
  refine zJ_getr dX1_reckonHand_17 fX1_108 (by first | rfl | assumption) rfl (by first | rfl | assumption) ?_
  refine zJ_iload_n dX1_reckonHand_20 rfl ?_
  refine zJ_iald dX1_reckonHand_21 (by first | rfl | assumption) (vp_in_nI (by omega) (by decide)) ?_
  rw [ck, hso1]
  refine zJ_iconst (v := 3) dX1_reckonHand_22 (by decide) ?_
  refine zJ_icmp_ne (tgt := 74) dX1_reckonHand_23 (by decide) (fun h23 => ?_) (fun h23 => ?_)
  · have hs3 : ¬ T.2.1 k.1 = 3 := fun h => h23 (by rw [h]; rfl)
    exact L w ⟨rfl, rfl, fun _ _ _ => rfl, fun _ _ _ _ _ => rfl⟩ rfl (fun h => absurd h hs3)
  · have hs3 : T.2.1 k.1 = 3 := (nI_eq (b := 3) (by omega) (by decide)).mp h23
    refine zJ_aload_n dX1_reckonHand_26 rfl ?_
    refine zJ_iload_n dX1_reckonHand_27 rfl ?_
    refine zJ_cV1 dX1_reckonHand_28 sX1_111 mfX1_likedMost (c_Play_likedMost Δ w b R m T K hG0 x k hx W hch hs3 (hWr k.1 hk1 hs3)) (by first | rfl | assumption) rfl (Nat.le_of_ble_eq_true rfl) (by decide) (by decide) ?_
    refine zJ_istore_n (ls2 := fun x31 => [(3, .int x31), (2, .int (nI k.1)), (0, .ref b), (1, .int (nI x))]) dX1_reckonHand_31 (by decide) (fun _ => rfl) (fun x31 ex31 => ?_)
    refine zJ_iload_n dX1_reckonHand_32 rfl ?_
    refine zJ_if_lt (tgt := 55) dX1_reckonHand_33 (by decide) (fun h33 => ?_) (fun h33 => ?_)
    · refine zJ_iconst (v := 0) dX1_reckonHand_55 (by decide) ?_
      refine zJ_istore (ls2 := fun x56 => [(4, .int x56), (3, .int x31), (2, .int (nI k.1)), (0, .ref b), (1, .int (nI x))]) dX1_reckonHand_56 (by decide) (fun _ => rfl) (fun x56 ex56 => ?_)
      obtain rfl : x56 = 0 := ex56.trans (by decide)
      have hc : zch T k (zce T k) (zcg T k) = none := by
        cases hz : zli T k (zce T k) (zcg T k) 8 with
        | none => simp [zch, hz]
        | some q =>
          have hq := zli_may _ _ _ _ _ _ hz
          rw [ex31, hz] at h33
          exact absurd ((nI_ltI (a := q) (b := 0) (by omega) (by decide)).mp h33) (by omega)
      exact S0 (by rw [zcC, if_pos hs3]; exact hc) x31
    · obtain ⟨q, hz⟩ : ∃ q, zli T k (zce T k) (zcg T k) 8 = some q := by
        cases hz : zli T k (zce T k) (zcg T k) 8 with
        | none => rw [ex31, hz] at h33; exact absurd (by decide) h33
        | some q => exact ⟨q, rfl⟩
      have hq := zli_may _ _ _ _ _ _ hz
      have hrm := zmo_rng hT0 hk (Nat.le_refl 8)
      rw [hz] at hrm ex31
      obtain rfl : x31 = nI q := ex31
      have hrq : -1000000000 ≤ zwo T k (zce T k) (zcg T k) q ∧ zwo T k (zce T k) (zcg T k) q ≤ 1000000000 := hrm
      have hpl := zpe_le hT0 (show k.2.1 ≤ 13 by omega)
      refine zJ_aload_n dX1_reckonHand_36 rfl ?_
      refine zJ_iload_n dX1_reckonHand_37 rfl ?_
      refine zJ_iload_n dX1_reckonHand_38 rfl ?_
      refine zJ_cV2 dX1_reckonHand_39 sX1_115 mfX1_worthOf (c_Play_worthOf Δ w b R m T K hG0 x k hx W hch hs3 (hWr k.1 hk1 hs3) q hq.1 hq.2) (by first | rfl | assumption) rfl (Nat.le_of_ble_eq_true rfl) (by decide) (by decide) ?_
      refine zJ_aload_n dX1_reckonHand_42 rfl ?_
      refine zJ_iload_n dX1_reckonHand_43 rfl ?_
      refine zJ_cV1 dX1_reckonHand_44 sX1_119 mfX1_openingOf (c_Play_openingOf Δ w b R m T K hG0 x k hx) (by first | rfl | assumption) rfl (Nat.le_of_ble_eq_true rfl) (by decide) (by decide) ?_
      refine zJ_lc_le (tgt := 55) dX1_reckonHand_47 dX1_reckonHand_48 (by decide) (fun h48 => ?_) (fun h48 => ?_)
      · refine zJ_iconst (v := 0) dX1_reckonHand_55 (by decide) ?_
        refine zJ_istore (ls2 := fun x56 => [(4, .int x56), (3, .int (nI q)), (2, .int (nI k.1)), (0, .ref b), (1, .int (nI x))]) dX1_reckonHand_56 (by decide) (fun _ => rfl) (fun x56 ex56 => ?_)
        obtain rfl : x56 = 0 := ex56.trans (by decide)
        have hlt : ¬ 1000 * (zpe T k.2.1 : Int) < zwo T k (zce T k) (zcg T k) q := Int.not_lt.mpr ((lZ_le (by omega) (by omega) (by omega) (by omega)).mp h48)
        exact S0 (by rw [zcC, if_pos hs3]; simp [zch, hz, hlt]) (nI q)
      · refine zJ_iconst (v := 1) dX1_reckonHand_51 (by decide) ?_
        refine zJ_goto (tgt := 56) dX1_reckonHand_52 (by decide) ?_
        refine zJ_istore (ls2 := fun x56 => [(4, .int x56), (3, .int (nI q)), (2, .int (nI k.1)), (0, .ref b), (1, .int (nI x))]) dX1_reckonHand_56 (by decide) (fun _ => rfl) (fun x56 ex56 => ?_)
        obtain rfl : x56 = 1 := ex56.trans (by decide)
        have hlt : 1000 * (zpe T k.2.1 : Int) < zwo T k (zce T k) (zcg T k) q := Int.not_le.mp (fun h => h48 ((lZ_le (by omega) (by omega) (by omega) (by omega)).mpr h))
        exact S1 q (by rw [zcC, if_pos hs3]; simp [zch, hz, hlt])
