/-! LetterTown$Play: cases counted, the surest end, the last by choice -/
def zCa (w : zW) (b : Nat) (T : zTo) (K : List zKy) : Prop := w.2.1 b 12 = 0 ∨ (w.2.1 b 12 = 1 ∧ zCc w b (zcas T K))
theorem zsp_0 {T : zTo} {k : zKy} {s : (zKy → Nat) × (Nat → Nat)} (h : s.1 k = 0) : zsp T k s = s := by
  have h0 : zop1 T k 0 = 0 := by simp [zop1]
  simp only [zsp, h, h0]
  simp
theorem zFt.i12 {w : zW} {b : Nat} {x : Int32} : zFt w (zsi w b 12 x) b := ⟨rfl, rfl, fun a j h => by
  have h4 : ¬ (a = b ∧ j = 12) := by omega
  simp [zsi, h4], fun _ _ _ _ _ => rfl⟩
set_option maxRecDepth 100000 in
theorem c_Play_countCases (Δ : zD) (w : zW) (b R m : Nat) (T : zTo) (K : List zKy) (hG : zGr w b R m T K) (hga : zGa w b T K) (hca : zCa w b T K) : zMp Δ 7 yX1_countCases mX1_countCases [.ref b] w (fun a c => a = none ∧ zFp w c b ∧ zGa c b T K ∧ c.2.1 b 12 = 1 ∧ zCc c b (zcas T K)) := by
  refine zMp.of mfX1_countCases (Nat.le_of_ble_eq_true rfl) (fun QR hQ => ?_)
  have hG0 := hG
  obtain ⟨⟨p0, q0, q1, q2, q3, q4, q5, q6, q7, q8, q9, s11, s12, s13, s14, s15, s16, s17, s18, hS⟩, hi, hT, hall, hL, hrow⟩ := hG
  have hS0 := hS
  obtain ⟨g0, r1, r2, r3, r4, g1, g2, g3, g4, hR, hRm, hm, hR0⟩ := hS
  have hi0 := hi
  obtain ⟨t0, u1, u2, u3, u4, t1, t2, t3, t4⟩ := hi.1
  obtain ⟨-, hsc, hso, hnu, hkn, hwt⟩ := hi
  have hT0 := hT
  obtain ⟨hp0, hp5, hp6, hp7, hp8, hp9, hp10, hp11, hp12, hp13, hpp, hpw⟩ := hT
  have hm2 : 2 ^ m ≤ 2 ^ 15 := Nat.pow_le_pow_right (by decide) hm
  have hKR : K.length ≤ R := hL.2.2.1
  have hnd := zall_nodup hall
  have hK0 := zall_0 hall
  have L : ∀ j, j ≤ K.length → ∀ w1, zFp w w1 b → zGa w1 b T K → zChs w1 b T K → zTr w1 b K (zsn T K j).1 → zCc w1 b (zsn T K j).2 → zJ Δ mX1_countCases (zRm 7 0 0) true w.1 QR (fun _ _ => False) 0 0 26 [(1, .int (nI j)), (0, .ref b)] [] w1 := by
    refine zup (fun j hj ih w1 hf hg1 hcs1 ht1 hc1 => ?_)
    have hG1 : zGr w1 b R m T K := hG0.fp hf
    have p1 : w1.1 b = some (.inl 1) := by rw [hf.1]; exact p0
    have p2 : w1.2.2.2 b 5 = some (b + 14) := by rw [hf.2.1]; exact q5
    have p3 : w1.1 (b + 14) = some (.inr (true, R)) := by rw [hf.1]; exact s14
    have p4 : w1.2.2.2 b 1 = some (b + 6) := by rw [hf.2.1]; exact q1
    have p5 : w1.1 (b + 6) = some (.inl 6) := by rw [hf.1]; exact g0
    have hsz : w1.2.1 (b + 6) 5 = nI K.length := hG1.2.2.2.2.1.2.1
    refine zJ_iload_n dX1_countCases_26 rfl ?_
    refine zJ_aload_n dX1_countCases_27 rfl ?_
    refine zJ_getr dX1_countCases_28 fX1_34 (by first | rfl | assumption) rfl (by first | rfl | assumption) ?_
    refine zJ_geti dX1_countCases_31 fX1_95 (by first | rfl | assumption) rfl ?_
    rw [hsz]
    refine zJ_icmp_ge (tgt := 59) dX1_countCases_34 (by decide) (fun h34 => ?_) (fun h34 => ?_)
    · have hj9 : j = K.length := by exact Nat.le_antisymm hj ((nI_leI (a := K.length) (b := j) (by omega) (by omega)).mp h34)
      subst hj9
      refine zJ_aload_n dX1_countCases_59 rfl ?_
      refine zJ_iconst (v := 1) dX1_countCases_60 (by decide) ?_
      refine zJ_puti dX1_countCases_61 fX1_68 (fun q h => by cases h; rfl) (by first | rfl | assumption) rfl rfl rfl ?_
      exact zJ_vret dX1_countCases_64 rfl (by decide) (by decide) (hQ _ _ ⟨rfl, hf.tr (zFp.i (Or.inr (Or.inr ⟨rfl, Or.inr (Or.inl rfl)⟩))), hg1.ft (zFt.i12), by simp [zsi], hc1⟩)
    · have hj9 : j < K.length := Nat.lt_of_not_le fun hq9 => h34 (by exact (nI_leI (a := K.length) (b := j) (by omega) (by omega)).mpr hq9)
      obtain ⟨k, hk⟩ : ∃ k, K[j]? = some k := ⟨_, List.getElem?_eq_getElem hj9⟩
      have hle := zsn_le hT0 hnd hk
      have cj : (nI j).toNatClampNeg = j := nI_clamp (by omega)
      refine zJ_aload_n dX1_countCases_37 rfl ?_
      refine zJ_getr dX1_countCases_38 fX1_47 (by first | rfl | assumption) rfl (by first | rfl | assumption) ?_
      refine zJ_iload_n dX1_countCases_41 rfl ?_
      refine zJ_lald dX1_countCases_42 (by first | rfl | assumption) (vp_in_nI (by omega) (by omega)) ?_
      refine zJ_lconst (v := 0) dX1_countCases_43 (by decide) ?_
      refine zJ_lc_le (tgt := 53) dX1_countCases_44 dX1_countCases_45 (by decide) (fun h45 => ?_) (fun h45 => ?_)
      · refine zJ_iinc (ls2 := fun x53 => [(1, .int x53), (0, .ref b)]) dX1_countCases_53 rfl (by decide) (fun _ => rfl) (fun x53 ex53 => ?_)
        refine zJ_goto (tgt := 26) dX1_countCases_56 (by decide) ?_
        refine zJ_ls [(1, .int x53), (0, .ref b)] (by simp) ?_
        rw [ex53, show nI j + Int32.ofInt 1 = nI (j + 1) from nI_1 _]
        have h0 : (zsn T K j).1 k = 0 := by
          rw [cj, ht1 j k hk] at h45
          have := (lN_leL (a := (zsn T K j).1 k) (b := 0) (by omega) (by decide)).mp h45
          omega
        have e : zsn T K (j + 1) = zsn T K j := by simp only [zsn, hk]; exact zsp_0 h0
        exact ih (j + 1) (by omega) (by omega) w1 hf hg1 hcs1 (by rw [e]; exact ht1) (by rw [e]; exact hc1)
      · refine zJ_aload_n dX1_countCases_48 rfl ?_
        refine zJ_iload_n dX1_countCases_49 rfl ?_
        refine zJ_eV1 dX1_countCases_50 sX1_202 mfX1_spreadCases (c_Play_spreadCases Δ w1 b R m T K hG1 j k hk hcs1 (zsn T K j).1 (zsn T K j).2 ht1 hc1 hle) p1 rfl (Nat.le_of_ble_eq_true rfl) (by decide) (by decide) (fun r w2 hP => ?_)
        obtain ⟨rfl, a1, a2, a3, a4⟩ := hP
        refine zJ_iinc (ls2 := fun x53 => [(1, .int x53), (0, .ref b)]) dX1_countCases_53 rfl (by decide) (fun _ => rfl) (fun x53 ex53 => ?_)
        refine zJ_goto (tgt := 26) dX1_countCases_56 (by decide) ?_
        refine zJ_ls [(1, .int x53), (0, .ref b)] (by simp) ?_
        rw [ex53, show nI j + Int32.ofInt 1 = nI (j + 1) from nI_1 _]
        have e : zsn T K (j + 1) = zsp T k (zsn T K j) := by simp only [zsn, hk]
        exact ih (j + 1) (by omega) (by omega) w2 (hf.tr a1.fp) (hg1.ft a1) (hcs1.ft a1) (by rw [e]; exact a3) (by rw [e]; exact a4)
  skip
  refine zJ_aload_n dX1_countCases_0 rfl ?_
  refine zJ_geti dX1_countCases_1 fX1_68 (by first | rfl | assumption) rfl ?_
  refine zJ_if_eq (tgt := 8) dX1_countCases_4 (by decide) (fun h4 => ?_) (fun h4 => ?_)
  · refine zJ_aload_n dX1_countCases_8 rfl ?_
    refine zJ_eV0 dX1_countCases_9 sX1_196 mfX1_choose (c_Play_choose Δ w b R m T K hG0 hga) p0 rfl (Nat.le_of_ble_eq_true rfl) (by decide) (by decide) (fun r w1 hP => ?_)
    obtain ⟨rfl, hq1, hga1, hcs1⟩ := hP
    have p1 : w1.1 b = some (.inl 1) := by rw [hq1.1]; exact p0
    have p2 : w1.2.2.2 b 7 = some (b + 16) := by rw [hq1.2.1]; exact q7
    have p3 : w1.1 (b + 16) = some (.inr (true, 96)) := by rw [hq1.1]; exact s16
    have f1 : zFt w1 (zrol w1 (b + 16) (fun k => if k < 96 then 0 else w1.2.2.1 (b + 16) k)) b := zFt.rl (Or.inr (Or.inr rfl))
    refine zJ_aload_n dX1_countCases_12 rfl ?_
    refine zJ_getr dX1_countCases_13 fX1_18 (by first | rfl | assumption) rfl (by first | rfl | assumption) ?_
    refine zJ_lconst (v := 0) dX1_countCases_16 (by decide) ?_
    refine zJ_cS2 dX1_countCases_17 sX1_149 mfJ7_fill_d0a16 (c_fill_l Δ w1 (b + 16) 96 0 (by decide) p3) (Nat.le_of_ble_eq_true rfl) (by decide) (by decide) ?_
    refine zJ_aload_n dX1_countCases_20 rfl ?_
    refine zJ_cV0 dX1_countCases_21 sX1_199 mfX1_clearTally (c_Play_clearTally Δ _ b R m T K (hG0.fp (hq1.fp.tr f1.fp))) (by first | rfl | assumption) rfl (Nat.le_of_ble_eq_true rfl) (by decide) (by decide) ?_
    refine zJ_iconst (v := 0) dX1_countCases_24 (by decide) ?_
    refine zJ_istore_n (ls2 := fun x25 => [(1, .int x25), (0, .ref b)]) dX1_countCases_25 (by decide) (fun _ => rfl) (fun x25 ex25 => ?_)
    obtain rfl : x25 = (nI 0) := ex25
    have f2 := f1.tr (zFt.rl (f := fun i => if i = 0 then lN 1000000000 else if i < K.length then lN 0 else (zrol w1 (b + 16) (fun k => if k < 96 then 0 else w1.2.2.1 (b + 16) k)).2.2.1 (b + 14) i) (Or.inl rfl))
    refine L 0 (Nat.zero_le _) _ (hq1.fp.tr f2.fp) (hga1.ft f2) (hcs1.ft f2) (fun z q hz => ?_) (fun i hi => ?_)
    · have hzK := (List.getElem?_eq_some_iff.mp hz).1
      simp only [zrol, if_true, zsn, zt0]
      by_cases h0 : z = 0
      · subst h0
        rw [hK0] at hz
        cases hz
        simp
      · have hne : ¬ q = zfk T := fun e => h0 (nodup_ix hnd (by rw [← e]; exact hz) hK0)
        simp [h0, hzK, hne]
    · have hne : ¬ b + 16 = b + 14 := by omega
      simp only [zrol, hne, if_false, if_true, zsn, hi]
      rfl
  · exact zJ_vret dX1_countCases_7 rfl (by decide) (by decide) (hQ _ _ (by
  rcases hca with h | h
  · exact absurd h h4
  · exact ⟨rfl, zFp.rf w b, hga, h.1, h.2⟩))
set_option maxRecDepth 100000 in
theorem c_Play_isSurer (Δ : zD) (w : zW) (b R m : Nat) (hS : zPs w b R m) (q c row a rr : Nat) (hq : q < R) (h14 : w.2.2.1 (b + 14) q = lN a) (hc : c < 2 ^ 62) (ha : a < 2 ^ 62) (hrow : row < 2 ^ 62) (hrr : c = a → w.2.2.1 (b + 15) q = lN rr ∧ rr < 2 ^ 62) : zMd Δ 0 0 0 true yX1_isSurer mX1_isSurer [.ref b, .long (lN c), .long (lN row), .int (nI q)] w (some (.int (if a < c ∨ (c = a ∧ row < rr) then 1 else 0))) w := by
  refine zMd.of mfX1_isSurer (Nat.le_of_ble_eq_true rfl) (fun QR hQ => ?_)
  obtain ⟨p0, q0, q1, q2, q3, q4, q5, q6, q7, q8, q9, s11, s12, s13, s14, s15, s16, s17, s18, hSw⟩ := hS
  have hRb : R < 2 ^ 15 := by
    obtain ⟨g0, r1, r2, r3, r4, g1, g2, g3, g4, hR, hRm, hm, hR0⟩ := hSw
    have hm2 : 2 ^ m ≤ 2 ^ 15 := Nat.pow_le_pow_right (by decide) hm
    omega
  have cq : (nI q).toNatClampNeg = q := nI_clamp (by omega)
  rw [show (lv_args 0 [.ref b, .long (lN c), .long (lN row), .int (nI q)]) = [(0, .ref b), (1, .long (lN c)), (3, .long (lN row)), (5, .int (nI q))] from rfl]
  refine zJ_lload_n dX1_isSurer_0 rfl ?_
  refine zJ_aload_n dX1_isSurer_1 rfl ?_
  refine zJ_getr dX1_isSurer_2 fX1_47 (by first | rfl | assumption) rfl (by first | rfl | assumption) ?_
  refine zJ_iload dX1_isSurer_5 rfl ?_
  refine zJ_lald dX1_isSurer_7 (by first | rfl | assumption) (vp_in_nI (by omega) (by omega)) ?_
  refine zJ_lc_gt (tgt := 36) dX1_isSurer_8 dX1_isSurer_9 (by decide) (fun h9 => ?_) (fun h9 => ?_)
  · rw [cq, h14] at h9
    have hlt : a < c := (lN_ltL (by omega) (by omega)).mp h9
    rw [if_pos (Or.inl hlt)] at hQ
    refine zJ_iconst (v := 1) dX1_isSurer_36 (by decide) ?_
    refine zJ_goto (tgt := 41) dX1_isSurer_37 (by decide) ?_
    exact zJ_zret dX1_isSurer_41 rfl rfl (by decide) (by decide) hQ
  · have hnlt : ¬ a < c := fun h => h9 (by rw [cq, h14]; exact (lN_ltL (by omega) (by omega)).mpr h)
    refine zJ_lload_n dX1_isSurer_12 rfl ?_
    refine zJ_aload_n dX1_isSurer_13 rfl ?_
    refine zJ_getr dX1_isSurer_14 fX1_47 (by first | rfl | assumption) rfl (by first | rfl | assumption) ?_
    refine zJ_iload dX1_isSurer_17 rfl ?_
    refine zJ_lald dX1_isSurer_19 (by first | rfl | assumption) (vp_in_nI (by omega) (by omega)) ?_
    refine zJ_lc_ne (tgt := 40) dX1_isSurer_20 dX1_isSurer_21 (by decide) (fun h21 => ?_) (fun h21 => ?_)
    · rw [cq, h14] at h21
      have hne : ¬ c = a := fun e => h21 (by rw [e])
      rw [if_neg (fun h => h.elim hnlt (fun h => hne h.1))] at hQ
      refine zJ_iconst (v := 0) dX1_isSurer_40 (by decide) ?_
      exact zJ_zret dX1_isSurer_41 rfl rfl (by decide) (by decide) hQ
    · have heq : c = a := by
        have h21 := h21
        rw [cq, h14] at h21
        exact (fb_lN_inj (by omega) (by omega)).mp h21
      obtain ⟨hr1, hr2⟩ := hrr heq
      refine zJ_lload_n dX1_isSurer_24 rfl ?_
      refine zJ_aload_n dX1_isSurer_25 rfl ?_
      refine zJ_getr dX1_isSurer_26 fX1_50 (by first | rfl | assumption) rfl (by first | rfl | assumption) ?_
      refine zJ_iload dX1_isSurer_29 rfl ?_
      refine zJ_lald dX1_isSurer_31 (by first | rfl | assumption) (vp_in_nI (by omega) (by omega)) ?_
      refine zJ_lc_ge (tgt := 40) dX1_isSurer_32 dX1_isSurer_33 (by decide) (fun h33 => ?_) (fun h33 => ?_)
      · rw [cq, hr1] at h33
        have hge : rr ≤ row := (lN_leL (by omega) (by omega)).mp h33
        rw [if_neg (fun h => h.elim hnlt (fun h => by omega))] at hQ
        refine zJ_iconst (v := 0) dX1_isSurer_40 (by decide) ?_
        exact zJ_zret dX1_isSurer_41 rfl rfl (by decide) (by decide) hQ
      · rw [cq, hr1] at h33
        have hlt : row < rr := (lN_ltL (by omega) (by omega)).mp (Int64.not_le.mp h33)
        rw [if_pos (Or.inr ⟨heq, hlt⟩)] at hQ
        refine zJ_iconst (v := 1) dX1_isSurer_36 (by decide) ?_
        refine zJ_goto (tgt := 41) dX1_isSurer_37 (by decide) ?_
        exact zJ_zret dX1_isSurer_41 rfl rfl (by decide) (by decide) hQ
theorem lN_or3 {a j : Nat} (hj : j < 8) : lN (a * 2 ^ 3) ||| lN j = lN (8 * a + j) := by
  rw [Int64.or_comm, show a * 2 ^ 3 = 2 ^ 3 * a by omega, lN_orS (k := 3) a hj]
theorem zmay_lt {T : zTo} {k : zKy} {y : Nat} (h : zmay T k y = true) : k.2.1 < T.1 7 := by
  simp only [zmay, Bool.and_eq_true, decide_eq_true_eq] at h
  exact h.1.1.1
def zTw (w : zW) (b : Nat) (K : List zKy) (s : (zKy → Nat) × (zKy → Nat)) : Prop := ∀ (z : Nat) (q : zKy), K[z]? = some q → w.2.2.1 (b + 14) z = lN (s.1 q) ∧ (0 < s.1 q → w.2.2.1 (b + 15) z = lN (s.2 q))
theorem p8_36 {h : Nat} (h1 : h ≤ 12) : 8 ^ h ≤ 2 ^ 36 := by
  have := Nat.pow_le_pow_right (show 0 < 8 by decide) h1
  omega
set_option maxRecDepth 100000 in
theorem c_Play_tellBehind (Δ : zD) (w : zW) (b R m : Nat) (T : zTo) (K : List zKy) (hG : zGr w b R m T K) (x : Nat) (k : zKy) (hx : K[x]? = some k) (hcs : zChs w b T K) (s : (zKy → Nat) × (zKy → Nat)) (hs : zcok s) (hsk : 0 < s.1 k) (htw : zTw w b K s) : zMp Δ 4 yX1_tellBehind mX1_tellBehind [.ref b, .int (nI x)] w (fun a c => a = none ∧ zFt w c b ∧ c.2.1 = w.2.1 ∧ c.2.2.1 (b + 16) = w.2.2.1 (b + 16) ∧ zTw c b K (ztl T k s 8)) := by
  refine zMp.of mfX1_tellBehind (Nat.le_of_ble_eq_true rfl) (fun QR hQ => ?_)
  have hG0 := hG
  obtain ⟨⟨p0, q0, q1, q2, q3, q4, q5, q6, q7, q8, q9, s11, s12, s13, s14, s15, s16, s17, s18, hS⟩, hi, hT, hall, hL, hrow⟩ := hG
  have hS0 := hS
  obtain ⟨g0, r1, r2, r3, r4, g1, g2, g3, g4, hR, hRm, hm, hR0⟩ := hS
  have hi0 := hi
  obtain ⟨t0, u1, u2, u3, u4, t1, t2, t3, t4⟩ := hi.1
  obtain ⟨-, hsc, hso, hnu, hkn, hwt⟩ := hi
  have hT0 := hT
  obtain ⟨hp0, hp5, hp6, hp7, hp8, hp9, hp10, hp11, hp12, hp13, hpp, hpw⟩ := hT
  have hm2 : 2 ^ m ≤ 2 ^ 15 := Nat.pow_le_pow_right (by decide) hm
  have hKR : K.length ≤ R := hL.2.2.1
  have hxK : x < K.length := (List.getElem?_eq_some_iff.mp hx).1
  have hk : zkok T k := hL.2.2.2.1 k (List.mem_iff_getElem?.mpr ⟨x, hx⟩)
  have cx : (nI x).toNatClampNeg = x := nI_clamp (by omega)
  have hky : w.2.2.1 (b + 6 + 1) x = lN (zenc T k) := hL.1 x k hx
  have hP := zenc_parts hT0 hk
  have hE52 := zenc_lt hT0 hk
  have hk1 : k.1 < 8 := hk.1
  have hk2 := hk.2.1
  have hbl := zmb_lt T k
  have hmayx := (hrow x k hx).1
  have hnx := (hrow x k hx).2
  have hso1 := hso k.1 hk1
  have hnu1 := hnu k.1 hk1
  have hsl := (hpp k.1).1
  have hnl := (hpp k.1).2.1
  have ck : (nI k.1).toNatClampNeg = k.1 := nI_clamp (by omega)
  have hC := hcs x k hx
  have hC8 : ∀ q, zcC T k = some q → q < 8 := fun q h => (zcC_may h).1
  have hB256 := ztb_256 (T := T) (k := k)
  have hs1000 := zsh_1000 hT0 k (zcC T k)
  have hUl := zwt_le (B := ztb T k (zcC T k)) hT0 hk1 8 (Nat.le_refl 8)
  have hnd := zall_nodup hall
  have e8 : ∀ y, nI x * 8 + nI y = nI (x * 8 + y) := fun y => by rw [show nI x * 8 = nI (x * 8) from na_mul x 8, na_add]
  have hsk1 := (hs k).1
  have hsk2 := (hs k).2 hsk
  have hp36 := p8_36 (show k.2.1 ≤ 12 by omega)
  have L : ∀ j, j ≤ 8 → ∀ w1, zFt w w1 b → w1.2.1 = w.2.1 → w1.2.2.1 (b + 16) = w.2.2.1 (b + 16) → zTw w1 b K (ztl T k s j) → zJ Δ mX1_tellBehind (zRm 4 0 0) true w.1 QR (fun _ _ => False) 0 0 2 [(2, .int (nI j)), (0, .ref b), (1, .int (nI x))] [] w1 := by
    refine zup (fun j hj ih w1 hf hi1 h16 ht1 => ?_)
    have hG1 : zGr w1 b R m T K := hG0.fp hf.fp
    have p1 : w1.1 b = some (.inl 1) := by rw [hf.1]; exact p0
    have p2 : w1.2.2.2 b 1 = some (b + 6) := by rw [hf.2.1]; exact q1
    have p3 : w1.1 (b + 6) = some (.inl 6) := by rw [hf.1]; exact g0
    have p4 : w1.2.2.2 (b + 6) 3 = some (b + 6 + 3) := by rw [hf.2.1]; exact r3
    have p5 : w1.1 (b + 6 + 3) = some (.inr (false, R * 8)) := by rw [hf.1]; exact g3
    have p6 : w1.2.2.2 b 5 = some (b + 14) := by rw [hf.2.1]; exact q5
    have p7 : w1.1 (b + 14) = some (.inr (true, R)) := by rw [hf.1]; exact s14
    have p8 : w1.2.2.2 b 6 = some (b + 15) := by rw [hf.2.1]; exact q6
    have p9 : w1.1 (b + 15) = some (.inr (true, R)) := by rw [hf.1]; exact s15
    have hself := ztl_self (T := T) (k := k) (s := s) j
    have hxx := ht1 x k hx
    rw [hself.1, hself.2] at hxx
    have hx14 := hxx.1
    have hx15 := hxx.2 hsk
    have hok := ztl_ok (T := T) hs hsk j hj
    refine zJ_iload_n dX1_tellBehind_2 rfl ?_
    refine zJ_bipush (v := 8) dX1_tellBehind_3 (by decide) ?_
    refine zJ_icmp_ge (tgt := 95) dX1_tellBehind_5 (by decide) (fun h5 => ?_) (fun h5 => ?_)
    · have hj9 : j = 8 := by exact Nat.le_antisymm hj ((nI_leI (a := 8) (b := j) (by omega) (by omega)).mp h5)
      subst hj9
      exact zJ_vret dX1_tellBehind_95 rfl (by decide) (by decide) (hQ _ _ ⟨rfl, hf, hi1, h16, ht1⟩)
    · have hj9 : j < 8 := Nat.lt_of_not_le fun hq9 => h5 (by exact (nI_leI (a := 8) (b := j) (by omega) (by omega)).mpr hq9)
      refine zJ_aload_n dX1_tellBehind_8 rfl ?_
      refine zJ_getr dX1_tellBehind_9 fX1_34 (by first | rfl | assumption) rfl (by first | rfl | assumption) ?_
      refine zJ_getr dX1_tellBehind_12 fX1_158 (by first | rfl | assumption) rfl (by first | rfl | assumption) ?_
      refine zJ_iload_n dX1_tellBehind_15 rfl ?_
      refine zJ_bipush (v := 8) dX1_tellBehind_16 (by decide) ?_
      refine zJ_imul dX1_tellBehind_18 ?_
      refine zJ_iload_n dX1_tellBehind_19 rfl ?_
      refine zJ_iadd dX1_tellBehind_20 ?_
      rw [e8]
      refine zJ_iald dX1_tellBehind_21 (by first | rfl | assumption) (vp_in_nI (by omega) (by omega)) ?_
      refine zJ_istore_n (ls2 := fun x22 => [(3, .int x22), (2, .int (nI j)), (0, .ref b), (1, .int (nI x))]) dX1_tellBehind_22 (by decide) (fun _ => rfl) (fun x22 ex22 => ?_)
      refine zJ_iload_n dX1_tellBehind_23 rfl ?_
      refine zJ_if_lt (tgt := 89) dX1_tellBehind_24 (by decide) (fun h24 => ?_) (fun h24 => ?_)
      · refine zJ_iinc (ls2 := fun x89 => [(2, .int x89), (3, .int x22), (0, .ref b), (1, .int (nI x))]) dX1_tellBehind_89 rfl (by decide) (fun _ => rfl) (fun x89 ex89 => ?_)
        refine zJ_goto (tgt := 2) dX1_tellBehind_92 (by decide) ?_
        refine zJ_ls [(2, .int x89), (0, .ref b), (1, .int (nI x))] (by simp) ?_
        rw [ex89, show nI j + Int32.ofInt 1 = nI (j + 1) from nI_1 _]
        have hno : zmay T k j = false := by
          cases hz : zmay T k j with
          | false => rfl
          | true =>
            obtain ⟨c, hc, hnc⟩ := (hnx j hj9).1 hz
            have hcK : c < K.length := (List.getElem?_eq_some_iff.mp hc).1
            rw [ex22, nI_clamp (show x * 8 + j < 2 ^ 31 by omega), hi1, hnc] at h24
            exact absurd ((nI_ltI (a := c) (b := 0) (by omega) (by decide)).mp h24) (by omega)
        have e : ztl T k s (j + 1) = ztl T k s j := by
          simp only [ztl]
          rw [if_neg]
          rintro ⟨h1, -⟩
          rw [hno] at h1; cases h1
        exact ih (j + 1) (by omega) (by omega) w1 hf hi1 h16 (by rw [e]; exact ht1)
      · have hyes : zmay T k j = true := by
          cases hz : zmay T k j with
          | true => rfl
          | false =>
            rw [ex22, nI_clamp (show x * 8 + j < 2 ^ 31 by omega), hi1, (hnx j hj9).2 hz] at h24
            exact absurd (by decide) h24
        obtain ⟨c, hc, hnc⟩ := (hnx j hj9).1 hyes
        have hcK : c < K.length := (List.getElem?_eq_some_iff.mp hc).1
        have cc : (nI c).toNatClampNeg = c := nI_clamp (by omega)
        obtain rfl : x22 = nI c := by rw [ex22, nI_clamp (show x * 8 + j < 2 ^ 31 by omega), hi1, hnc]
        have hst := zst1_le (T := T) k (s.1 k) hj9
        refine zJ_aload_n dX1_tellBehind_27 rfl ?_
        refine zJ_iload_n dX1_tellBehind_28 rfl ?_
        refine zJ_iload_n dX1_tellBehind_29 rfl ?_
        refine zJ_aload_n dX1_tellBehind_30 rfl ?_
        refine zJ_getr dX1_tellBehind_31 fX1_47 (by first | rfl | assumption) rfl (by first | rfl | assumption) ?_
        refine zJ_iload_n dX1_tellBehind_34 rfl ?_
        refine zJ_lald dX1_tellBehind_35 (by first | rfl | assumption) (vp_in_nI (by omega) (by omega)) ?_
        rw [cx, hx14]
        refine zJ_cV3 dX1_tellBehind_36 sX1_217 mfX1_chanceTo (c_Play_chanceTo Δ w1 b R m T K hG1 x k hx (fun z q hz h3 => by rw [hi1]; exact hcs z q hz h3) j (s.1 k) hj9 hsk1) (by first | rfl | assumption) rfl (Nat.le_of_ble_eq_true rfl) (by decide) (by decide) ?_
        refine zJ_lstore (ls2 := fun x39 => [(4, .long x39), (3, .int (nI c)), (2, .int (nI j)), (0, .ref b), (1, .int (nI x))]) dX1_tellBehind_39 (by decide) (fun _ => rfl) (fun x39 ex39 => ?_)
        obtain rfl : x39 = (lN (zst1 T k (s.1 k) j)) := ex39
        refine zJ_aload_n dX1_tellBehind_41 rfl ?_
        refine zJ_getr dX1_tellBehind_42 fX1_50 (by first | rfl | assumption) rfl (by first | rfl | assumption) ?_
        refine zJ_iload_n dX1_tellBehind_45 rfl ?_
        refine zJ_lald dX1_tellBehind_46 (by first | rfl | assumption) (vp_in_nI (by omega) (by omega)) ?_
        rw [cx, hx15]
        refine zJ_iconst (v := 3) dX1_tellBehind_47 (by decide) ?_
        refine zJ_lshl dX1_tellBehind_48 ?_
        refine zJ_iload_n dX1_tellBehind_49 rfl ?_
        refine zJ_i2l dX1_tellBehind_50 ?_
        refine zJ_lor dX1_tellBehind_51 ?_
        refine zJ_lstore (ls2 := fun x52 => [(6, .long x52), (4, .long (lN (zst1 T k (s.1 k) j))), (3, .int (nI c)), (2, .int (nI j)), (0, .ref b), (1, .int (nI x))]) dX1_tellBehind_52 (by decide) (fun _ => rfl) (fun x52 ex52 => ?_)
        obtain rfl : x52 = (lN (8 * s.2 k + j)) := by rw [ex52, lN_shlI (y := 3) (k := 3) rfl (by decide), nI_l (by omega), lN_or3 hj9]
        refine zJ_lload dX1_tellBehind_54 rfl ?_
        refine zJ_lconst (v := 0) dX1_tellBehind_56 (by decide) ?_
        refine zJ_lc_le (tgt := 89) dX1_tellBehind_57 dX1_tellBehind_58 (by decide) (fun h58 => ?_) (fun h58 => ?_)
        · refine zJ_iinc (ls2 := fun x89 => [(2, .int x89), (6, .long (lN (8 * s.2 k + j))), (4, .long (lN (zst1 T k (s.1 k) j))), (3, .int (nI c)), (0, .ref b), (1, .int (nI x))]) dX1_tellBehind_89 rfl (by decide) (fun _ => rfl) (fun x89 ex89 => ?_)
          refine zJ_goto (tgt := 2) dX1_tellBehind_92 (by decide) ?_
          refine zJ_ls [(2, .int x89), (0, .ref b), (1, .int (nI x))] (by simp) ?_
          rw [ex89, show nI j + Int32.ofInt 1 = nI (j + 1) from nI_1 _]
          have h0 : zst1 T k (s.1 k) j = 0 := by
            have := (lN_leL (a := zst1 T k (s.1 k) j) (b := 0) (by omega) (by decide)).mp h58
            omega
          have e : ztl T k s (j + 1) = ztl T k s j := by
            simp only [ztl]
            rw [if_neg]
            rintro ⟨-, h1, -⟩
            omega
          exact ih (j + 1) (by omega) (by omega) w1 hf hi1 h16 (by rw [e]; exact ht1)
        · have hc0 : 0 < zst1 T k (s.1 k) j := Nat.pos_of_ne_zero fun h => h58 (by rw [h]; decide)
          refine zJ_aload_n dX1_tellBehind_61 rfl ?_
          refine zJ_lload dX1_tellBehind_62 rfl ?_
          refine zJ_lload dX1_tellBehind_64 rfl ?_
          refine zJ_iload_n dX1_tellBehind_66 rfl ?_
          refine zJ_cV3 dX1_tellBehind_67 sX1_224 mfX1_isSurer (c_Play_isSurer Δ w1 b R m hG1.1 c (zst1 T k (s.1 k) j) (8 * s.2 k + j) ((ztl T k s j).1 (zbk T k j)) ((ztl T k s j).2 (zbk T k j)) (by omega) (ht1 c _ hc).1 (by omega) (by have := (hok (zbk T k j)).1; omega) (by omega) (fun e => ⟨(ht1 c _ hc).2 (by omega), by have h1 := (hok (zbk T k j)).2 (by omega); have h2 := p8_36 (show (zbk T k j).2.1 ≤ 12 by have := zmay_lt hyes; simp only [zbk]; omega); omega⟩)) (by first | rfl | assumption) rfl (Nat.le_of_ble_eq_true rfl) (by decide) (by decide) ?_
          refine zJ_if_eq (tgt := 89) dX1_tellBehind_70 (by decide) (fun h70 => ?_) (fun h70 => ?_)
          · refine zJ_iinc (ls2 := fun x89 => [(2, .int x89), (6, .long (lN (8 * s.2 k + j))), (4, .long (lN (zst1 T k (s.1 k) j))), (3, .int (nI c)), (0, .ref b), (1, .int (nI x))]) dX1_tellBehind_89 rfl (by decide) (fun _ => rfl) (fun x89 ex89 => ?_)
            refine zJ_goto (tgt := 2) dX1_tellBehind_92 (by decide) ?_
            refine zJ_ls [(2, .int x89), (0, .ref b), (1, .int (nI x))] (by simp) ?_
            rw [ex89, show nI j + Int32.ofInt 1 = nI (j + 1) from nI_1 _]
            have hn : ¬ ((ztl T k s j).1 (zbk T k j) < zst1 T k (s.1 k) j ∨ (zst1 T k (s.1 k) j = (ztl T k s j).1 (zbk T k j) ∧ 8 * s.2 k + j < (ztl T k s j).2 (zbk T k j))) := fun h => by
              rw [if_pos h] at h70
              exact absurd h70 (by decide)
            have e : ztl T k s (j + 1) = ztl T k s j := by
              simp only [ztl]
              rw [if_neg]
              rintro ⟨-, -, h1⟩
              exact hn (h1.elim Or.inl (fun h => Or.inr ⟨h.1.symm, h.2⟩))
            exact ih (j + 1) (by omega) (by omega) w1 hf hi1 h16 (by rw [e]; exact ht1)
          · refine zJ_aload_n dX1_tellBehind_73 rfl ?_
            refine zJ_getr dX1_tellBehind_74 fX1_47 (by first | rfl | assumption) rfl (by first | rfl | assumption) ?_
            refine zJ_iload_n dX1_tellBehind_77 rfl ?_
            refine zJ_lload dX1_tellBehind_78 rfl ?_
            refine zJ_last dX1_tellBehind_80 (by first | rfl | assumption) (vp_in_nI (by omega) (by omega)) ?_
            rw [cc]
            refine zJ_aload_n dX1_tellBehind_81 rfl ?_
            refine zJ_getr dX1_tellBehind_82 fX1_50 (by first | rfl | assumption) rfl (by first | rfl | assumption) ?_
            refine zJ_iload_n dX1_tellBehind_85 rfl ?_
            refine zJ_lload dX1_tellBehind_86 rfl ?_
            refine zJ_last dX1_tellBehind_88 (by first | rfl | assumption) (vp_in_nI (by omega) (by omega)) ?_
            refine zJ_iinc (ls2 := fun x89 => [(2, .int x89), (6, .long (lN (8 * s.2 k + j))), (4, .long (lN (zst1 T k (s.1 k) j))), (3, .int (nI c)), (0, .ref b), (1, .int (nI x))]) dX1_tellBehind_89 rfl (by decide) (fun _ => rfl) (fun x89 ex89 => ?_)
            refine zJ_goto (tgt := 2) dX1_tellBehind_92 (by decide) ?_
            refine zJ_ls [(2, .int x89), (0, .ref b), (1, .int (nI x))] (by simp) ?_
            rw [ex89, show nI j + Int32.ofInt 1 = nI (j + 1) from nI_1 _]
            have hy : (ztl T k s j).1 (zbk T k j) < zst1 T k (s.1 k) j ∨ (zst1 T k (s.1 k) j = (ztl T k s j).1 (zbk T k j) ∧ 8 * s.2 k + j < (ztl T k s j).2 (zbk T k j)) := Classical.byContradiction fun h => h70 (by rw [if_neg h])
            have e : ztl T k s (j + 1) = (fun q => if q = zbk T k j then zst1 T k (s.1 k) j else (ztl T k s j).1 q, fun q => if q = zbk T k j then 8 * s.2 k + j else (ztl T k s j).2 q) := by
              simp only [ztl]
              rw [if_pos ⟨hyes, hc0, hy.elim Or.inl (fun h => Or.inr ⟨h.1.symm, h.2⟩)⟩]
            refine ih (j + 1) (by omega) (by omega) _ ((hf.tr (zFt.l (Or.inl rfl))).tr (zFt.l (Or.inr (Or.inl rfl)))) hi1 (by rw [← h16]; funext i; simp [zsl]) (fun z q2 hz => ?_)
            rw [e]
            by_cases hzc : z = c
            · subst hzc
              rw [hc] at hz; cases hz
              rw [cc]
              simp [zsl]
            · have hne : ¬ q2 = zbk T k j := fun e => hzc (nodup_ix hnd (by rw [← e]; exact hz) hc)
              have := ht1 z q2 hz
              simp only [hne, if_false]
              rw [cc, ← this.1]
              refine ⟨by simp [zsl, hzc], fun h => ?_⟩
              rw [← this.2 h]; simp [zsl, hzc]
  refine zJ_iconst (v := 0) dX1_tellBehind_0 (by decide) ?_
  refine zJ_istore_n (ls2 := fun x1 => [(2, .int x1), (0, .ref b), (1, .int (nI x))]) dX1_tellBehind_1 (by decide) (fun _ => rfl) (fun x1 ex1 => ?_)
  obtain rfl : x1 = (nI 0) := ex1
  exact L 0 (Nat.zero_le _) w (zFt.rf w b) rfl rfl htw
theorem ztl_pos {T : zTo} {k : zKy} {s : (zKy → Nat) × (zKy → Nat)} {q : zKy} (h : 0 < s.1 q) : ∀ y, 0 < (ztl T k s y).1 q
  | 0 => h
  | y + 1 => by
    have ih := ztl_pos (T := T) (k := k) h y
    simp only [ztl]
    split
    · rename_i h9
      show 0 < (if q = zbk T k y then _ else _)
      split
      · exact h9.2.1
      · exact ih
    · exact ih
theorem zchn_pos {T : zTo} {K : List zKy} {n : Nat} {q : zKy} (h : 0 < (zchn T K n).1 q) : 0 < (zchn T K (n + 1)).1 q := by
  simp only [zchn]
  split
  · exact h
  · split
    · exact ztl_pos h 8
    · exact h
theorem zfnd_pos {T : zTo} {K : List zKy} : ∀ {n : Nat} {q : zKy}, zfnd T K n = some q → 0 < (zchn T K n).1 q
  | 0, q, h => by cases h
  | n + 1, q, h => by
    refine zchn_pos ?_
    simp only [zfnd] at h
    split at h
    · exact zfnd_pos h
    · rename_i k _
      split at h
      · rename_i h9
        unfold zfo1 at h
        split at h
        · cases h; exact h9.1
        · rename_i q2 hq2
          split at h
          · cases h; exact h9.1
          · cases h; exact zfnd_pos hq2
      · exact zfnd_pos h
set_option maxRecDepth 100000 in
theorem c_Play_surestEnd (Δ : zD) (w : zW) (b R m : Nat) (T : zTo) (K : List zKy) (hG : zGr w b R m T K) (hcs : zChs w b T K) : zMp Δ 5 yX1_surestEnd mX1_surestEnd [.ref b] w (fun a c => zFt w c b ∧ c.2.1 = w.2.1 ∧ c.2.2.1 (b + 16) = w.2.2.1 (b + 16) ∧ zTw c b K (zchn T K K.length) ∧ ((zfnd T K K.length = none ∧ a = some (.int (-1))) ∨ ∃ (z : Nat) (q : zKy), zfnd T K K.length = some q ∧ K[z]? = some q ∧ a = some (.int (nI z)))) := by
  refine zMp.of mfX1_surestEnd (Nat.le_of_ble_eq_true rfl) (fun QR hQ => ?_)
  have hG0 := hG
  obtain ⟨⟨p0, q0, q1, q2, q3, q4, q5, q6, q7, q8, q9, s11, s12, s13, s14, s15, s16, s17, s18, hS⟩, hi, hT, hall, hL, hrow⟩ := hG
  have hS0 := hS
  obtain ⟨g0, r1, r2, r3, r4, g1, g2, g3, g4, hR, hRm, hm, hR0⟩ := hS
  have hi0 := hi
  obtain ⟨t0, u1, u2, u3, u4, t1, t2, t3, t4⟩ := hi.1
  obtain ⟨-, hsc, hso, hnu, hkn, hwt⟩ := hi
  have hT0 := hT
  obtain ⟨hp0, hp5, hp6, hp7, hp8, hp9, hp10, hp11, hp12, hp13, hpp, hpw⟩ := hT
  have hm2 : 2 ^ m ≤ 2 ^ 15 := Nat.pow_le_pow_right (by decide) hm
  have hKR : K.length ≤ R := hL.2.2.1
  have hnd := zall_nodup hall
  have hK0 := zall_0 hall
  have hKp := zall_pos hall
  have L : ∀ j, j ≤ K.length → ∀ (w1 : zW) (su : Int32), zFt w w1 b → w1.2.1 = w.2.1 → w1.2.2.1 (b + 16) = w.2.2.1 (b + 16) → zTw w1 b K (zchn T K j) → ((zfnd T K j = none ∧ su = -1) ∨ ∃ (z : Nat) (q : zKy), zfnd T K j = some q ∧ K[z]? = some q ∧ su = nI z) → zJ Δ mX1_surestEnd (zRm 5 0 0) true w.1 QR (fun _ _ => False) 0 0 22 [(2, .int (nI j)), (1, .int su), (0, .ref b)] [] w1 := by
    refine zup (fun j hj ih w1 su hf hi1 h16 ht1 hsu => ?_)
    have hG1 : zGr w1 b R m T K := hG0.fp hf.fp
    have p1 : w1.1 b = some (.inl 1) := by rw [hf.1]; exact p0
    have p2 : w1.2.2.2 b 1 = some (b + 6) := by rw [hf.2.1]; exact q1
    have p3 : w1.1 (b + 6) = some (.inl 6) := by rw [hf.1]; exact g0
    have p4 : w1.2.2.2 (b + 6) 1 = some (b + 6 + 1) := by rw [hf.2.1]; exact r1
    have p5 : w1.1 (b + 6 + 1) = some (.inr (true, R)) := by rw [hf.1]; exact g1
    have p6 : w1.2.2.2 b 5 = some (b + 14) := by rw [hf.2.1]; exact q5
    have p7 : w1.1 (b + 14) = some (.inr (true, R)) := by rw [hf.1]; exact s14
    have p8 : w1.2.2.2 b 6 = some (b + 15) := by rw [hf.2.1]; exact q6
    have p9 : w1.1 (b + 15) = some (.inr (true, R)) := by rw [hf.1]; exact s15
    have p10 : w1.2.2.2 b 0 = some (b + 1) := by rw [hf.2.1]; exact q0
    have p11 : w1.1 (b + 1) = some (.inl 5) := by rw [hf.1]; exact t0
    have hsz : w1.2.1 (b + 6) 5 = nI K.length := hG1.2.2.2.2.1.2.1
    have hha : w1.2.1 (b + 1) 7 = nI (T.1 7) := by rw [hi1]; exact hsc 7 (by decide) (by decide)
    have hcs1 : zChs w1 b T K := fun z q hz h3 => by rw [hi1]; exact hcs z q hz h3
    have hok := zchn_ok hT0 (K := K) j
    refine zJ_iload_n dX1_surestEnd_22 rfl ?_
    refine zJ_aload_n dX1_surestEnd_23 rfl ?_
    refine zJ_getr dX1_surestEnd_24 fX1_34 (by first | rfl | assumption) rfl (by first | rfl | assumption) ?_
    refine zJ_geti dX1_surestEnd_27 fX1_95 (by first | rfl | assumption) rfl ?_
    rw [hsz]
    refine zJ_icmp_ge (tgt := 106) dX1_surestEnd_30 (by decide) (fun h30 => ?_) (fun h30 => ?_)
    · have hj9 : j = K.length := by exact Nat.le_antisymm hj ((nI_leI (a := K.length) (b := j) (by omega) (by omega)).mp h30)
      subst hj9
      refine zJ_iload_n dX1_surestEnd_106 rfl ?_
      exact zJ_iret dX1_surestEnd_107 rfl (by decide) (by decide) (hQ _ _ ⟨hf, hi1, h16, ht1, by
  rcases hsu with ⟨h1, rfl⟩ | ⟨z, q, h1, h2, rfl⟩
  · exact Or.inl ⟨h1, rfl⟩
  · exact Or.inr ⟨z, q, h1, h2, rfl⟩⟩)
    · have hj9 : j < K.length := Nat.lt_of_not_le fun hq9 => h30 (by exact (nI_leI (a := K.length) (b := j) (by omega) (by omega)).mpr hq9)
      obtain ⟨k, hk⟩ : ∃ k, K[j]? = some k := ⟨_, List.getElem?_eq_getElem hj9⟩
      have cj : (nI j).toNatClampNeg = j := nI_clamp (by omega)
      have hkk : zkok T k := hL.2.2.2.1 k (List.mem_iff_getElem?.mpr ⟨j, hk⟩)
      have hk2 := hkk.2.1
      have hP := zenc_parts hT0 hkk
      have hE52 := zenc_lt hT0 hkk
      have hle := (hok k).1
      refine zJ_aload_n dX1_surestEnd_33 rfl ?_
      refine zJ_getr dX1_surestEnd_34 fX1_47 (by first | rfl | assumption) rfl (by first | rfl | assumption) ?_
      refine zJ_iload_n dX1_surestEnd_37 rfl ?_
      refine zJ_lald dX1_surestEnd_38 (by first | rfl | assumption) (vp_in_nI (by omega) (by omega)) ?_
      rw [cj, (ht1 j k hk).1]
      refine zJ_lconst (v := 0) dX1_surestEnd_39 (by decide) ?_
      refine zJ_lc_le (tgt := 100) dX1_surestEnd_40 dX1_surestEnd_41 (by decide) (fun h41 => ?_) (fun h41 => ?_)
      · refine zJ_iinc (ls2 := fun x100 => [(2, .int x100), (1, .int su), (0, .ref b)]) dX1_surestEnd_100 rfl (by decide) (fun _ => rfl) (fun x100 ex100 => ?_)
        refine zJ_goto (tgt := 22) dX1_surestEnd_103 (by decide) ?_
        refine zJ_ls [(2, .int x100), (1, .int su), (0, .ref b)] (by simp) ?_
        rw [ex100, show nI j + Int32.ofInt 1 = nI (j + 1) from nI_1 _]
        have h0 : (zchn T K j).1 k = 0 := by
          have := (lN_leL (a := (zchn T K j).1 k) (b := 0) (by omega) (by decide)).mp h41
          omega
        have e : zchn T K (j + 1) = zchn T K j := by
          simp only [zchn, hk]
          rw [if_neg (fun h => by omega)]
        have e2 : zfnd T K (j + 1) = zfnd T K j := by
          simp only [zfnd, hk]
          rw [if_neg (fun h => by omega)]
        exact ih (j + 1) (by omega) (by omega) w1 su hf hi1 h16 (by rw [e]; exact ht1) (by rw [e2]; exact hsu)
      · have hpos : 0 < (zchn T K j).1 k := Nat.pos_of_ne_zero fun h => h41 (by rw [h]; decide)
        refine zJ_aload_n dX1_surestEnd_44 rfl ?_
        refine zJ_getr dX1_surestEnd_45 fX1_34 (by first | rfl | assumption) rfl (by first | rfl | assumption) ?_
        refine zJ_getr dX1_surestEnd_48 fX1_101 (by first | rfl | assumption) rfl (by first | rfl | assumption) ?_
        refine zJ_iload_n dX1_surestEnd_51 rfl ?_
        refine zJ_lald dX1_surestEnd_52 (by first | rfl | assumption) (vp_in_nI (by omega) (by omega)) ?_
        rw [cj, show w1.2.2.1 (b + 6 + 1) j = lN (zenc T k) from hG1.2.2.2.2.1.1 j k hk]
        refine zJ_cS1 dX1_surestEnd_53 sX1_133 mfX6_handOf (c_Ways_handOf Δ w1 (zenc T k) (by omega)) (Nat.le_of_ble_eq_true rfl) (by decide) (by decide) ?_
        rw [hP.2.1]
        refine zJ_aload_n dX1_surestEnd_56 rfl ?_
        refine zJ_getr dX1_surestEnd_57 fX1_12 (by first | rfl | assumption) rfl (by first | rfl | assumption) ?_
        refine zJ_geti dX1_surestEnd_60 fX1_136 (by first | rfl | assumption) rfl ?_
        rw [hha]
        refine zJ_icmp_ge (tgt := 74) dX1_surestEnd_63 (by decide) (fun h63 => ?_) (fun h63 => ?_)
        · have hge : ¬ k.2.1 < T.1 7 := Nat.not_lt.mpr ((nI_leI (by omega) (by omega)).mp h63)
          rcases hsu with ⟨hz0, rfl⟩ | ⟨z, q, hz1, hz2, rfl⟩
          · refine zJ_iload_n dX1_surestEnd_74 rfl ?_
            refine zJ_if_lt (tgt := 98) dX1_surestEnd_75 (by decide) (fun h75n => ?_) (fun h75n => absurd (by decide) h75n)
            refine zJ_iload_n dX1_surestEnd_98 rfl ?_
            refine zJ_istore_n (ls2 := fun x99n => [(1, .int x99n), (2, .int (nI j)), (0, .ref b)]) dX1_surestEnd_99 (by decide) (fun _ => rfl) (fun x99n ex99n => ?_)
            obtain rfl : x99n = (nI j) := ex99n
            refine zJ_iinc (ls2 := fun x100n => [(2, .int x100n), (1, .int (nI j)), (0, .ref b)]) dX1_surestEnd_100 rfl (by decide) (fun _ => rfl) (fun x100n ex100n => ?_)
            refine zJ_goto (tgt := 22) dX1_surestEnd_103 (by decide) ?_
            refine zJ_ls [(2, .int x100n), (1, .int (nI j)), (0, .ref b)] (by simp) ?_
            rw [ex100n, show nI j + Int32.ofInt 1 = nI (j + 1) from nI_1 _]
            have e : zchn T K (j + 1) = zchn T K j := by
              simp only [zchn, hk]
              rw [if_neg (fun h => hge h.2)]
            have e2 : zfnd T K (j + 1) = zfo1 (zchn T K j) (zfnd T K j) k := by
              simp only [zfnd, hk]
              rw [if_pos ⟨hpos, hge⟩]
            exact ih (j + 1) (by omega) (by omega) w1 _ hf hi1 h16 (by rw [e]; exact ht1) (by rw [e2]; rw [hz0]; exact Or.inr ⟨j, k, rfl, hk, rfl⟩)
          · have hzK : z < K.length := (List.getElem?_eq_some_iff.mp hz2).1
            have hqv := ht1 z q hz2
            have hqk : zkok T q := hL.2.2.2.1 q (List.mem_iff_getElem?.mpr ⟨z, hz2⟩)
            have hq2 := hqk.2.1
            refine zJ_iload_n dX1_surestEnd_74 rfl ?_
            refine zJ_if_lt (tgt := 98) dX1_surestEnd_75 (by decide) (fun h75z => ?_) (fun h75z => ?_)
            · exact absurd ((nI_ltI (a := z) (b := 0) (by omega) (by decide)).mp h75z) (by omega)
            · refine zJ_aload_n dX1_surestEnd_78 rfl ?_
              refine zJ_aload_n dX1_surestEnd_79 rfl ?_
              refine zJ_getr dX1_surestEnd_80 fX1_47 (by first | rfl | assumption) rfl (by first | rfl | assumption) ?_
              refine zJ_iload_n dX1_surestEnd_83 rfl ?_
              refine zJ_lald dX1_surestEnd_84 (by first | rfl | assumption) (vp_in_nI (by omega) (by omega)) ?_
              rw [cj, (ht1 j k hk).1]
              refine zJ_aload_n dX1_surestEnd_85 rfl ?_
              refine zJ_getr dX1_surestEnd_86 fX1_50 (by first | rfl | assumption) rfl (by first | rfl | assumption) ?_
              refine zJ_iload_n dX1_surestEnd_89 rfl ?_
              refine zJ_lald dX1_surestEnd_90 (by first | rfl | assumption) (vp_in_nI (by omega) (by omega)) ?_
              rw [cj, (ht1 j k hk).2 hpos]
              refine zJ_iload_n dX1_surestEnd_91 rfl ?_
              refine zJ_cV3 dX1_surestEnd_92 sX1_224 mfX1_isSurer (c_Play_isSurer Δ w1 b R m hG1.1 z ((zchn T K j).1 k) ((zchn T K j).2 k) ((zchn T K j).1 q) ((zchn T K j).2 q) (by omega) hqv.1 (by omega) (by have := (hok q).1; omega) (by have h2 := p8_36 (show k.2.1 ≤ 12 by omega); have h3 := (hok k).2 hpos; omega) (fun e => ⟨hqv.2 (by omega), by have h1 := (hok q).2 (by omega); have h2 := p8_36 (show q.2.1 ≤ 12 by omega); omega⟩)) (by first | rfl | assumption) rfl (Nat.le_of_ble_eq_true rfl) (by decide) (by decide) ?_
              refine zJ_if_eq (tgt := 100) dX1_surestEnd_95 (by decide) (fun h95z => ?_) (fun h95z => ?_)
              · have hnb : zbet (zchn T K j) k q = false := by
                  cases hb : zbet (zchn T K j) k q with
                  | false => rfl
                  | true =>
                    have hb : (decide _ || (decide _ && decide _)) = true := hb
                    rw [if_pos (by simpa using hb)] at h95z
                    exact absurd h95z (by decide)
                refine zJ_iinc (ls2 := fun x100k => [(2, .int x100k), (1, .int (nI z)), (0, .ref b)]) dX1_surestEnd_100 rfl (by decide) (fun _ => rfl) (fun x100k ex100k => ?_)
                refine zJ_goto (tgt := 22) dX1_surestEnd_103 (by decide) ?_
                refine zJ_ls [(2, .int x100k), (1, .int (nI z)), (0, .ref b)] (by simp) ?_
                rw [ex100k, show nI j + Int32.ofInt 1 = nI (j + 1) from nI_1 _]
                have e : zchn T K (j + 1) = zchn T K j := by
                  simp only [zchn, hk]
                  rw [if_neg (fun h => hge h.2)]
                have e2 : zfnd T K (j + 1) = zfo1 (zchn T K j) (zfnd T K j) k := by
                  simp only [zfnd, hk]
                  rw [if_pos ⟨hpos, hge⟩]
                exact ih (j + 1) (by omega) (by omega) w1 _ hf hi1 h16 (by rw [e]; exact ht1) (by rw [e2]; rw [hz1]; exact Or.inr ⟨z, q, by simp only [zfo1, hnb]; rfl, hz2, rfl⟩)
              · have hyb : zbet (zchn T K j) k q = true := by
                  refine Classical.byContradiction fun hb => h95z ?_
                  rw [if_neg]
                  intro h9
                  exact hb (show (decide _ || (decide _ && decide _)) = true by simpa using h9)
                refine zJ_iload_n dX1_surestEnd_98 rfl ?_
                refine zJ_istore_n (ls2 := fun x99k => [(1, .int x99k), (2, .int (nI j)), (0, .ref b)]) dX1_surestEnd_99 (by decide) (fun _ => rfl) (fun x99k ex99k => ?_)
                obtain rfl : x99k = (nI j) := ex99k
                refine zJ_iinc (ls2 := fun x100k => [(2, .int x100k), (1, .int (nI j)), (0, .ref b)]) dX1_surestEnd_100 rfl (by decide) (fun _ => rfl) (fun x100k ex100k => ?_)
                refine zJ_goto (tgt := 22) dX1_surestEnd_103 (by decide) ?_
                refine zJ_ls [(2, .int x100k), (1, .int (nI j)), (0, .ref b)] (by simp) ?_
                rw [ex100k, show nI j + Int32.ofInt 1 = nI (j + 1) from nI_1 _]
                have e : zchn T K (j + 1) = zchn T K j := by
                  simp only [zchn, hk]
                  rw [if_neg (fun h => hge h.2)]
                have e2 : zfnd T K (j + 1) = zfo1 (zchn T K j) (zfnd T K j) k := by
                  simp only [zfnd, hk]
                  rw [if_pos ⟨hpos, hge⟩]
                exact ih (j + 1) (by omega) (by omega) w1 _ hf hi1 h16 (by rw [e]; exact ht1) (by rw [e2]; rw [hz1]; exact Or.inr ⟨j, k, by simp only [zfo1, hyb, if_true], hk, rfl⟩)
        · have hlt : k.2.1 < T.1 7 := Nat.lt_of_not_le fun h => h63 ((nI_leI (by omega) (by omega)).mpr h)
          refine zJ_aload_n dX1_surestEnd_66 rfl ?_
          refine zJ_iload_n dX1_surestEnd_67 rfl ?_
          refine zJ_eV1 dX1_surestEnd_68 sX1_221 mfX1_tellBehind (c_Play_tellBehind Δ w1 b R m T K hG1 j k hk hcs1 (zchn T K j) hok hpos ht1) p1 rfl (Nat.le_of_ble_eq_true rfl) (by decide) (by decide) (fun r w2 hP => ?_)
          obtain ⟨rfl, a1, a2, a16, a3⟩ := hP
          refine zJ_goto (tgt := 100) dX1_surestEnd_71 (by decide) ?_
          refine zJ_iinc (ls2 := fun x100 => [(2, .int x100), (1, .int su), (0, .ref b)]) dX1_surestEnd_100 rfl (by decide) (fun _ => rfl) (fun x100 ex100 => ?_)
          refine zJ_goto (tgt := 22) dX1_surestEnd_103 (by decide) ?_
          refine zJ_ls [(2, .int x100), (1, .int su), (0, .ref b)] (by simp) ?_
          rw [ex100, show nI j + Int32.ofInt 1 = nI (j + 1) from nI_1 _]
          have e : zchn T K (j + 1) = ztl T k (zchn T K j) 8 := by
            simp only [zchn, hk]
            rw [if_pos ⟨hpos, hlt⟩]
          have e2 : zfnd T K (j + 1) = zfnd T K j := by
            simp only [zfnd, hk]
            rw [if_neg (fun h => h.2 hlt)]
          exact ih (j + 1) (by omega) (by omega) w2 su (hf.tr a1) (a2.trans hi1) (a16.trans h16) (by rw [e]; exact a3) (by rw [e2]; exact hsu)
  have hfi : w.2.1 (b + 1) 12 = nI (T.1 12) := hsc 12 (by decide) (by decide)
  refine zJ_aload_n dX1_surestEnd_0 rfl ?_
  refine zJ_cV0 dX1_surestEnd_1 sX1_199 mfX1_clearTally (c_Play_clearTally Δ w b R m T K hG0) (by first | rfl | assumption) rfl (Nat.le_of_ble_eq_true rfl) (by decide) (by decide) ?_
  refine zJ_aload_n dX1_surestEnd_4 rfl ?_
  refine zJ_getr dX1_surestEnd_5 fX1_50 (by first | rfl | assumption) rfl (by first | rfl | assumption) ?_
  refine zJ_iconst (v := 0) dX1_surestEnd_8 (by decide) ?_
  refine zJ_aload_n dX1_surestEnd_9 rfl ?_
  refine zJ_getr dX1_surestEnd_10 fX1_12 (by first | rfl | assumption) rfl (by first | rfl | assumption) ?_
  refine zJ_geti dX1_surestEnd_13 fX1_214 (by first | rfl | assumption) rfl ?_
  rw [show (zrol w (b + 14) (fun i => if i = 0 then lN 1000000000 else if i < K.length then lN 0 else w.2.2.1 (b + 14) i)).2.1 (b + 1) 12 = nI (T.1 12) from hfi]
  refine zJ_i2l dX1_surestEnd_16 ?_
  rw [nI_l (by omega), show (0 : Int32) = nI 0 from rfl]
  refine zJ_last dX1_surestEnd_17 (by first | rfl | assumption) (vp_in_nI (by omega) (by omega)) ?_
  refine zJ_iconst (v := (-1)) dX1_surestEnd_18 (by decide) ?_
  refine zJ_istore_n (ls2 := fun x19 => [(1, .int x19), (0, .ref b)]) dX1_surestEnd_19 (by decide) (fun _ => rfl) (fun x19 ex19 => ?_)
  obtain rfl : x19 = (-1) := ex19
  refine zJ_iconst (v := 0) dX1_surestEnd_20 (by decide) ?_
  refine zJ_istore_n (ls2 := fun x21 => [(2, .int x21), (1, .int (-1)), (0, .ref b)]) dX1_surestEnd_21 (by decide) (fun _ => rfl) (fun x21 ex21 => ?_)
  obtain rfl : x21 = (nI 0) := ex21
  refine L 0 (Nat.zero_le _) _ _ ((zFt.rl (Or.inl rfl)).tr (zFt.l (Or.inr (Or.inl rfl)))) rfl (by funext i; simp [zrol, zsl]) (fun z q hz => ?_) (Or.inl ⟨rfl, rfl⟩)
  rw [nI_clamp (show 0 < 2 ^ 31 by decide)]
  have hzK := (List.getElem?_eq_some_iff.mp hz).1
  by_cases h0 : z = 0
  · subst h0
    rw [hK0] at hz
    cases hz
    simp [zrol, zsl, zchn, zt0]
  · have hne : ¬ q = zfk T := fun e => h0 (nodup_ix hnd (by rw [← e]; exact hz) hK0)
    simp [zrol, zsl, zchn, zt0, h0, hzK, hne]
set_option maxRecDepth 100000 in
theorem c_Play_lastByChoice (Δ : zD) (w : zW) (b R m : Nat) (T : zTo) (K : List zKy) (hG : zGr w b R m T K) (hcs : zChs w b T K) (h3 : ∀ k ∈ K, T.2.1 k.1 = 3) : zMd Δ 0 0 0 true yX1_lastByChoice mX1_lastByChoice [.ref b] w (some (.long (lN (zenc T (zlst T 11 (zfk T)))))) w := by
  refine zMd.of mfX1_lastByChoice (Nat.le_of_ble_eq_true rfl) (fun QR hQ => ?_)
  have hG0 := hG
  obtain ⟨⟨p0, q0, q1, q2, q3, q4, q5, q6, q7, q8, q9, s11, s12, s13, s14, s15, s16, s17, s18, hS⟩, hi, hT, hall, hL, hrow⟩ := hG
  have hS0 := hS
  obtain ⟨g0, r1, r2, r3, r4, g1, g2, g3, g4, hR, hRm, hm, hR0⟩ := hS
  have hi0 := hi
  obtain ⟨t0, u1, u2, u3, u4, t1, t2, t3, t4⟩ := hi.1
  obtain ⟨-, hsc, hso, hnu, hkn, hwt⟩ := hi
  have hT0 := hT
  obtain ⟨hp0, hp5, hp6, hp7, hp8, hp9, hp10, hp11, hp12, hp13, hpp, hpw⟩ := hT
  have hm2 : 2 ^ m ≤ 2 ^ 15 := Nat.pow_le_pow_right (by decide) hm
  have hKR : K.length ≤ R := hL.2.2.1
  have hK0 := zall_0 hall
  have L : ∀ j, j ≤ 11 → ∀ (x : Nat) (k : zKy), K[x]? = some k → zlst T (11 - j) k = zlst T 11 (zfk T) → zJ Δ mX1_lastByChoice (zRm 0 0 0) true w.1 QR (fun _ _ => False) 0 0 4 [(2, .int (nI (j + 1))), (1, .int (nI x)), (0, .ref b)] [] w := by
    refine zup (fun j hj ih x k hx he => ?_)
    have hxK : x < K.length := (List.getElem?_eq_some_iff.mp hx).1
    have cx : (nI x).toNatClampNeg = x := nI_clamp (by omega)
    have hky : w.2.2.1 (b + 6 + 1) x = lN (zenc T k) := hL.1 x k hx
    have hch := hcs x k hx (h3 k (List.mem_iff_getElem?.mpr ⟨x, hx⟩))
    have hnx := (hrow x k hx).2
    refine zJ_iload_n dX1_lastByChoice_4 rfl ?_
    refine zJ_bipush (v := 12) dX1_lastByChoice_5 (by decide) ?_
    refine zJ_icmp_ge (tgt := 58) dX1_lastByChoice_7 (by decide) (fun h7 => ?_) (fun h7 => ?_)
    · have hj9 : j = 11 := by have := (nI_leI (a := 12) (b := j + 1) (by decide) (by omega)).mp h7; omega
      rw [hj9] at he
      have he : k = zlst T 11 (zfk T) := he
      refine zJ_aload_n dX1_lastByChoice_58 rfl ?_
      refine zJ_getr dX1_lastByChoice_59 fX1_34 (by first | rfl | assumption) rfl (by first | rfl | assumption) ?_
      refine zJ_getr dX1_lastByChoice_62 fX1_101 (by first | rfl | assumption) rfl (by first | rfl | assumption) ?_
      refine zJ_iload_n dX1_lastByChoice_65 rfl ?_
      refine zJ_lald dX1_lastByChoice_66 (by first | rfl | assumption) (vp_in_nI (by omega) (by omega)) ?_
      rw [cx, hky, he]
      exact zJ_lret dX1_lastByChoice_67 rfl (by decide) (by decide) hQ
    · refine zJ_aload_n dX1_lastByChoice_10 rfl ?_
      refine zJ_getr dX1_lastByChoice_11 fX1_44 (by first | rfl | assumption) rfl (by first | rfl | assumption) ?_
      refine zJ_iload_n dX1_lastByChoice_14 rfl ?_
      refine zJ_iald dX1_lastByChoice_15 (by first | rfl | assumption) (vp_in_nI (by omega) (by omega)) ?_
      refine zJ_istore_n (ls2 := fun x16 => [(3, .int x16), (2, .int (nI (j + 1))), (1, .int (nI x)), (0, .ref b)]) dX1_lastByChoice_16 (by decide) (fun _ => rfl) (fun x16 ex16 => ?_)
      have hj9 : j < 11 := Nat.lt_of_not_le fun hq => h7 ((nI_leI (a := 12) (by decide) (by omega)).mpr (by omega))
      rw [cx, hch] at ex16
      cases hcC : zcC T k with
      | none =>
        rw [hcC] at ex16
        obtain rfl : x16 = -1 := ex16
        refine zJ_iload_n dX1_lastByChoice_17 rfl ?_
        refine zJ_if_ge (tgt := 25) dX1_lastByChoice_18 (by decide) (fun h18n => ?_) (fun h18n => ?_)
        · exact absurd h18n (by decide)
        · refine zJ_iconst (v := (-1)) dX1_lastByChoice_21 (by decide) ?_
          refine zJ_goto (tgt := 39) dX1_lastByChoice_22 (by decide) ?_
          refine zJ_istore (ls2 := fun x39n => [(4, .int x39n), (3, .int (-1)), (2, .int (nI (j + 1))), (1, .int (nI x)), (0, .ref b)]) dX1_lastByChoice_39 (by decide) (fun _ => rfl) (fun x39n ex39n => ?_)
          obtain rfl : x39n = (-1) := ex39n
          refine zJ_iload dX1_lastByChoice_41 rfl ?_
          refine zJ_if_ge (tgt := 49) dX1_lastByChoice_43 (by decide) (fun h43n => ?_) (fun h43n => ?_)
          · exact absurd h43n (by decide)
          · refine zJ_goto (tgt := 58) dX1_lastByChoice_46 (by decide) ?_
            have he2 : k = zlst T 11 (zfk T) := by
              rw [← he, show 11 - j = (11 - (j + 1)) + 1 by omega]
              simp only [zlst, hcC]
            have he := he2
            refine zJ_aload_n dX1_lastByChoice_58 rfl ?_
            refine zJ_getr dX1_lastByChoice_59 fX1_34 (by first | rfl | assumption) rfl (by first | rfl | assumption) ?_
            refine zJ_getr dX1_lastByChoice_62 fX1_101 (by first | rfl | assumption) rfl (by first | rfl | assumption) ?_
            refine zJ_iload_n dX1_lastByChoice_65 rfl ?_
            refine zJ_lald dX1_lastByChoice_66 (by first | rfl | assumption) (vp_in_nI (by omega) (by omega)) ?_
            rw [cx, hky, he]
            exact zJ_lret dX1_lastByChoice_67 rfl (by decide) (by decide) hQ
      | some q =>
        rw [hcC] at ex16
        obtain rfl : x16 = nI q := ex16
        obtain ⟨hq8, hqm⟩ := zcC_may hcC
        obtain ⟨c, hc, hnc⟩ := (hnx q hq8).1 hqm
        have hcK : c < K.length := (List.getElem?_eq_some_iff.mp hc).1
        refine zJ_iload_n dX1_lastByChoice_17 rfl ?_
        refine zJ_if_ge (tgt := 25) dX1_lastByChoice_18 (by decide) (fun h18s => ?_) (fun h18s => ?_)
        · refine zJ_aload_n dX1_lastByChoice_25 rfl ?_
          refine zJ_getr dX1_lastByChoice_26 fX1_34 (by first | rfl | assumption) rfl (by first | rfl | assumption) ?_
          refine zJ_getr dX1_lastByChoice_29 fX1_158 (by first | rfl | assumption) rfl (by first | rfl | assumption) ?_
          refine zJ_iload_n dX1_lastByChoice_32 rfl ?_
          refine zJ_bipush (v := 8) dX1_lastByChoice_33 (by decide) ?_
          refine zJ_imul dX1_lastByChoice_35 ?_
          refine zJ_iload_n dX1_lastByChoice_36 rfl ?_
          refine zJ_iadd dX1_lastByChoice_37 ?_
          rw [show nI x * 8 = nI (x * 8) from na_mul x 8, na_add]
          refine zJ_iald dX1_lastByChoice_38 (by first | rfl | assumption) (vp_in_nI (by omega) (by omega)) ?_
          refine zJ_istore (ls2 := fun x39s => [(4, .int x39s), (3, .int (nI q)), (2, .int (nI (j + 1))), (1, .int (nI x)), (0, .ref b)]) dX1_lastByChoice_39 (by decide) (fun _ => rfl) (fun x39s ex39s => ?_)
          obtain rfl : x39s = (nI c) := by rw [ex39s, nI_clamp (show x * 8 + q < 2 ^ 31 by omega), hnc]
          refine zJ_iload dX1_lastByChoice_41 rfl ?_
          refine zJ_if_ge (tgt := 49) dX1_lastByChoice_43 (by decide) (fun h43s => ?_) (fun h43s => ?_)
          · refine zJ_iload dX1_lastByChoice_49 rfl ?_
            refine zJ_istore_n (ls2 := fun x51s => [(1, .int x51s), (4, .int (nI c)), (3, .int (nI q)), (2, .int (nI (j + 1))), (0, .ref b)]) dX1_lastByChoice_51 (by decide) (fun _ => rfl) (fun x51s ex51s => ?_)
            obtain rfl : x51s = (nI c) := ex51s
            refine zJ_iinc (ls2 := fun x52s => [(2, .int x52s), (1, .int (nI c)), (4, .int (nI c)), (3, .int (nI q)), (0, .ref b)]) dX1_lastByChoice_52 rfl (by decide) (fun _ => rfl) (fun x52s ex52s => ?_)
            refine zJ_goto (tgt := 4) dX1_lastByChoice_55 (by decide) ?_
            refine zJ_ls [(2, .int x52s), (1, .int (nI c)), (0, .ref b)] (by simp) ?_
            rw [ex52s, show nI (j + 1) + Int32.ofInt 1 = nI ((j + 1) + 1) from nI_1 _]
            refine ih (j + 1) (by omega) (by omega) c _ hc ?_
            rw [← he, show 11 - j = (11 - (j + 1)) + 1 by omega]
            simp only [zlst, hcC]
          · exact absurd ((nI_leI (a := 0) (b := c) (by decide) (by omega)).mpr (Nat.zero_le _)) h43s
        · exact absurd ((nI_leI (a := 0) (b := q) (by decide) (by omega)).mpr (Nat.zero_le _)) h18s
  refine zJ_iconst (v := 0) dX1_lastByChoice_0 (by decide) ?_
  refine zJ_istore_n (ls2 := fun x1 => [(1, .int x1), (0, .ref b)]) dX1_lastByChoice_1 (by decide) (fun _ => rfl) (fun x1 ex1 => ?_)
  obtain rfl : x1 = (nI 0) := ex1
  refine zJ_iconst (v := 1) dX1_lastByChoice_2 (by decide) ?_
  refine zJ_istore_n (ls2 := fun x3 => [(2, .int x3), (1, .int (nI 0)), (0, .ref b)]) dX1_lastByChoice_3 (by decide) (fun _ => rfl) (fun x3 ex3 => ?_)
  obtain rfl : x3 = (nI 1) := ex3
  exact L 0 (Nat.zero_le _) 0 _ hK0 rfl
