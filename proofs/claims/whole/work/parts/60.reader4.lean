/-! LetterTown$Reader: law, letter, person, knows -/
theorem zTi.know {w : zW} {T : zTo} (h : zTi w 4 T) {a b v : Nat} (ha : a < 8) (hb : b < 8) (hv : v ≠ 0) : zTi (zsi (zsi w 7 a (nI (zkn T a ||| 2 ^ b))) 8 (a * 8 + b) (nI v)) 4 (zTe T a b v) := by
  obtain ⟨h0, h1, h2, h3, h4, h5⟩ := h
  refine ⟨h0, fun j x y => ?_, fun p x => ?_, fun p x => ?_, fun p x => ?_, fun p x => ?_⟩
  · simp [zsi]; exact h1 j x y
  · simp [zsi]; exact h2 p x
  · simp [zsi]; exact h3 p x
  · have e : zkn (zTe T a b v) p = if p = a then zkn T a ||| 2 ^ b else zkn T p := by
      apply Nat.eq_of_testBit_eq
      intro y
      simp only [zkn, zTe]
      rw [zbits_tb]
      by_cases hp : p = a
      · subst hp
        simp only [if_true]
        rw [Nat.testBit_or, zbits_tb, Nat.testBit_two_pow]
        by_cases hy : y = b
        · subst hy; simp [hb, hv]
        · have h9 : ¬ p * 8 + y = p * 8 + b := by omega
          have h8 : ¬ b = y := fun h => hy h.symm
          simp [h9, h8, hy]
      · simp only [hp, if_false]
        rw [zbits_tb]
        by_cases hy : y < 8
        · have h9 : ¬ p * 8 + y = a * 8 + b := by omega
          simp [h9]
        · simp [hy]
    rw [e]
    by_cases hp : p = a
    · subst hp; simp [zsi]
    · simp [zsi, hp]; exact h4 p x
  · by_cases hp : p = a * 8 + b
    · subst hp; simp [zsi, zTe]
    · simp [zsi, zTe, hp]; exact h5 p x
set_option maxRecDepth 100000 in
theorem c_Rd_readLaw (Δ : zD) (w : zW) (tx : Nat → Nat) (n : Nat) (t : zTkn) (T : zTo) (hR : zRe w tx n) (hi : zTi w 4 T) (hT : zTok T) (ht : zRp w t) (hle : t.2.2.1 ≤ n) : zMp Δ 6 yX2_readLaw mX2_readLaw [.ref 3] w (fun r c => zLr w c n r (zcl (zlW tx n T t))) := by
  refine zMp.of mfX2_readLaw (Nat.le_of_ble_eq_true rfl) (fun QR hQ => ?_)
  have hC := hR.1
  refine zJ_aload_n dX2_readLaw_0 rfl ?_
  refine zJ_eV0 dX2_readLaw_1 sX2_47 mfX2_takeToken (c_Rd_takeToken Δ w tx n _ hR hle ht.1) (hC.1 _ (by decide)) rfl (Nat.le_of_ble_eq_true rfl) (by decide) (by decide) (fun r c hP => ?_)
  obtain ⟨rfl, c1, c2⟩ := hP
  have hcC := hC.fk c1.1 c1.2.1
  refine zJ_aload_n dX2_readLaw_4 rfl ?_
  refine zJ_ldcS (j := 14) (tx := "once") dX2_readLaw_5 (by decide +kernel) ?_
  refine zJ_cV1 dX2_readLaw_7 sX2_84 mfX2_isWord (c_Rd_isWord Δ c tx n 14 (ztk tx n t.2.2.1) (hR.fk c1) (by decide) c2.p ztk_k.1 ⟨(ztk_le (tx := tx) hle).2.1, (ztk_le (tx := tx) hle).2.2⟩) (by first | rfl | assumption | exact hcC.1 _ (by decide)) rfl (Nat.le_of_ble_eq_true rfl) (by decide) (by decide) ?_
  refine zJ_if_eq (tgt := 24) dX2_readLaw_10 (by decide) (fun h10 => ?_) (fun h10 => ?_)
  · have hw14 : zwd tx (ztk tx n t.2.2.1) 14 = false := by
      cases hz : zwd tx (ztk tx n t.2.2.1) 14 with
      | false => rfl
      | true => rw [hz] at h10; exact absurd h10 (by decide)
    refine zJ_aload_n dX2_readLaw_24 rfl ?_
    refine zJ_ldcS (j := 15) (tx := "again") dX2_readLaw_25 (by decide +kernel) ?_
    refine zJ_cV1 dX2_readLaw_27 sX2_84 mfX2_isWord (c_Rd_isWord Δ c tx n 15 (ztk tx n t.2.2.1) (hR.fk c1) (by decide) c2.p ztk_k.1 ⟨(ztk_le (tx := tx) hle).2.1, (ztk_le (tx := tx) hle).2.2⟩) (by first | rfl | assumption | exact hcC.1 _ (by decide)) rfl (Nat.le_of_ble_eq_true rfl) (by decide) (by decide) ?_
    refine zJ_if_eq (tgt := 44) dX2_readLaw_30 (by decide) (fun h30 => ?_) (fun h30 => ?_)
    · have hw15 : zwd tx (ztk tx n t.2.2.1) 15 = false := by
        cases hz : zwd tx (ztk tx n t.2.2.1) 15 with
        | false => rfl
        | true => rw [hz] at h30; exact absurd h30 (by decide)
      refine zJ_aload_n dX2_readLaw_44 rfl ?_
      refine zJ_ldcS (j := 16) (tx := "back") dX2_readLaw_45 (by decide +kernel) ?_
      refine zJ_cV1 dX2_readLaw_47 sX2_84 mfX2_isWord (c_Rd_isWord Δ c tx n 16 (ztk tx n t.2.2.1) (hR.fk c1) (by decide) c2.p ztk_k.1 ⟨(ztk_le (tx := tx) hle).2.1, (ztk_le (tx := tx) hle).2.2⟩) (by first | rfl | assumption | exact hcC.1 _ (by decide)) rfl (Nat.le_of_ble_eq_true rfl) (by decide) (by decide) ?_
      refine zJ_if_eq (tgt := 64) dX2_readLaw_50 (by decide) (fun h50 => ?_) (fun h50 => ?_)
      · have hw16 : zwd tx (ztk tx n t.2.2.1) 16 = false := by
          cases hz : zwd tx (ztk tx n t.2.2.1) 16 with
          | false => rfl
          | true => rw [hz] at h50; exact absurd h50 (by decide)
        refine zJ_aload_n dX2_readLaw_64 rfl ?_
        refine zJ_iconst (v := 1) dX2_readLaw_65 (by decide) ?_
        refine zJ_cV1 dX2_readLaw_66 sX2_119 mfX2_refuse (c_Rd_refuse Δ c hcC 1) (by first | rfl | assumption | exact hcC.1 _ (by decide)) rfl (Nat.le_of_ble_eq_true rfl) (by decide) (by decide) ?_
        exact zJ_zret dX2_readLaw_69 rfl rfl (by decide) (by decide) (hQ _ _ (zLr.er (e := (1, (ztk tx n t.2.2.1).2.1)) (by simp [zlW, hw14, hw15, hw16]) (zEr.pre c1.d (zEr.of c2.2.2.1))))
      · have hw16 : zwd tx (ztk tx n t.2.2.1) 16 = true := by
          cases hz : zwd tx (ztk tx n t.2.2.1) 16 with
          | true => rfl
          | false => rw [hz] at h50; exact absurd rfl h50
        refine zJ_aload_n dX2_readLaw_53 rfl ?_
        refine zJ_getr dX2_readLaw_54 fX2_12 (by first | rfl | assumption | exact hcC.1 _ (by decide)) rfl (by first | rfl | assumption | exact hcC.2 _ _ rfl) ?_
        refine zJ_iconst (v := 2) dX2_readLaw_57 (by decide) ?_
        refine zJ_puti dX2_readLaw_58 fX2_184 (fun q h => by cases h; rfl) (by first | rfl | assumption | exact hcC.1 _ (by decide)) rfl rfl rfl ?_
        refine zJ_goto (tgt := 70) dX2_readLaw_61 (by decide) ?_
        refine zJ_w (w2 := zsi c 4 10 (nI 2)) rfl ?_
        refine zJ_aload_n dX2_readLaw_70 rfl ?_
        refine zJ_eV0 dX2_readLaw_71 sX2_47 mfX2_takeToken (c_Rd_takeToken Δ (zsi c 4 10 (nI 2)) tx n _ ((hR.fk c1).fd (zFd.i (by omega))) (ztk_le (tx := tx) hle).2.2 (by simp [zsi, c2.1])) (hcC.1 _ (by decide)) rfl (Nat.le_of_ble_eq_true rfl) (by decide) (by decide) (fun r d hP => ?_)
        obtain ⟨rfl, d1, d2⟩ := hP
        have hdC := hcC.fk d1.1 d1.2.1
        have hx : zlW tx n T t = .inr (zTs T 10 2, ztk tx n (ztk tx n t.2.2.1).2.2.1) := by simp [zlW, hw14, hw15, hw16]
        refine zJ_aload_n dX2_readLaw_74 rfl ?_
        refine zJ_eV0 dX2_readLaw_75 sX2_144 mfX2_isClosed (c_Rd_isClosed Δ d hdC _ d2.p ztk_k.1) (hdC.1 _ (by decide)) rfl (Nat.le_of_ble_eq_true rfl) (by decide) (by decide) (fun r z hP => ?_)
        rcases hP with ⟨k1, rfl, rfl⟩ | ⟨k1, rfl, k2⟩
        · exact zJ_zret dX2_readLaw_78 rfl rfl (by decide) (by decide) (hQ _ _ (zLr.ok hx ((c1.n.tr (zFn.i (by omega))).tr d1.n) (((hi.fk c1).set (by decide) (by decide)).fk d1) d2.p (ztk_le (tx := tx) (ztk_le (tx := tx) hle).2.2).2.2 k1))
        · exact zJ_zret dX2_readLaw_78 rfl rfl (by decide) (by decide) (hQ _ _ (zLr.no hx ((c1.n.tr (zFn.i (by omega))).tr d1.n) k1 k2))
    · have hw15 : zwd tx (ztk tx n t.2.2.1) 15 = true := by
        cases hz : zwd tx (ztk tx n t.2.2.1) 15 with
        | true => rfl
        | false => rw [hz] at h30; exact absurd rfl h30
      refine zJ_aload_n dX2_readLaw_33 rfl ?_
      refine zJ_getr dX2_readLaw_34 fX2_12 (by first | rfl | assumption | exact hcC.1 _ (by decide)) rfl (by first | rfl | assumption | exact hcC.2 _ _ rfl) ?_
      refine zJ_iconst (v := 1) dX2_readLaw_37 (by decide) ?_
      refine zJ_puti dX2_readLaw_38 fX2_184 (fun q h => by cases h; rfl) (by first | rfl | assumption | exact hcC.1 _ (by decide)) rfl rfl rfl ?_
      refine zJ_goto (tgt := 70) dX2_readLaw_41 (by decide) ?_
      refine zJ_w (w2 := zsi c 4 10 (nI 1)) rfl ?_
      refine zJ_aload_n dX2_readLaw_70 rfl ?_
      refine zJ_eV0 dX2_readLaw_71 sX2_47 mfX2_takeToken (c_Rd_takeToken Δ (zsi c 4 10 (nI 1)) tx n _ ((hR.fk c1).fd (zFd.i (by omega))) (ztk_le (tx := tx) hle).2.2 (by simp [zsi, c2.1])) (hcC.1 _ (by decide)) rfl (Nat.le_of_ble_eq_true rfl) (by decide) (by decide) (fun r d hP => ?_)
      obtain ⟨rfl, d1, d2⟩ := hP
      have hdC := hcC.fk d1.1 d1.2.1
      have hx : zlW tx n T t = .inr (zTs T 10 1, ztk tx n (ztk tx n t.2.2.1).2.2.1) := by simp [zlW, hw14, hw15]
      refine zJ_aload_n dX2_readLaw_74 rfl ?_
      refine zJ_eV0 dX2_readLaw_75 sX2_144 mfX2_isClosed (c_Rd_isClosed Δ d hdC _ d2.p ztk_k.1) (hdC.1 _ (by decide)) rfl (Nat.le_of_ble_eq_true rfl) (by decide) (by decide) (fun r z hP => ?_)
      rcases hP with ⟨k1, rfl, rfl⟩ | ⟨k1, rfl, k2⟩
      · exact zJ_zret dX2_readLaw_78 rfl rfl (by decide) (by decide) (hQ _ _ (zLr.ok hx ((c1.n.tr (zFn.i (by omega))).tr d1.n) (((hi.fk c1).set (by decide) (by decide)).fk d1) d2.p (ztk_le (tx := tx) (ztk_le (tx := tx) hle).2.2).2.2 k1))
      · exact zJ_zret dX2_readLaw_78 rfl rfl (by decide) (by decide) (hQ _ _ (zLr.no hx ((c1.n.tr (zFn.i (by omega))).tr d1.n) k1 k2))
  · have hw14 : zwd tx (ztk tx n t.2.2.1) 14 = true := by
      cases hz : zwd tx (ztk tx n t.2.2.1) 14 with
      | true => rfl
      | false => rw [hz] at h10; exact absurd rfl h10
    refine zJ_aload_n dX2_readLaw_13 rfl ?_
    refine zJ_getr dX2_readLaw_14 fX2_12 (by first | rfl | assumption | exact hcC.1 _ (by decide)) rfl (by first | rfl | assumption | exact hcC.2 _ _ rfl) ?_
    refine zJ_iconst (v := 0) dX2_readLaw_17 (by decide) ?_
    refine zJ_puti dX2_readLaw_18 fX2_184 (fun q h => by cases h; rfl) (by first | rfl | assumption | exact hcC.1 _ (by decide)) rfl rfl rfl ?_
    refine zJ_goto (tgt := 70) dX2_readLaw_21 (by decide) ?_
    refine zJ_w (w2 := zsi c 4 10 (nI 0)) rfl ?_
    refine zJ_aload_n dX2_readLaw_70 rfl ?_
    refine zJ_eV0 dX2_readLaw_71 sX2_47 mfX2_takeToken (c_Rd_takeToken Δ (zsi c 4 10 (nI 0)) tx n _ ((hR.fk c1).fd (zFd.i (by omega))) (ztk_le (tx := tx) hle).2.2 (by simp [zsi, c2.1])) (hcC.1 _ (by decide)) rfl (Nat.le_of_ble_eq_true rfl) (by decide) (by decide) (fun r d hP => ?_)
    obtain ⟨rfl, d1, d2⟩ := hP
    have hdC := hcC.fk d1.1 d1.2.1
    have hx : zlW tx n T t = .inr (zTs T 10 0, ztk tx n (ztk tx n t.2.2.1).2.2.1) := by simp [zlW, hw14]
    refine zJ_aload_n dX2_readLaw_74 rfl ?_
    refine zJ_eV0 dX2_readLaw_75 sX2_144 mfX2_isClosed (c_Rd_isClosed Δ d hdC _ d2.p ztk_k.1) (hdC.1 _ (by decide)) rfl (Nat.le_of_ble_eq_true rfl) (by decide) (by decide) (fun r z hP => ?_)
    rcases hP with ⟨k1, rfl, rfl⟩ | ⟨k1, rfl, k2⟩
    · exact zJ_zret dX2_readLaw_78 rfl rfl (by decide) (by decide) (hQ _ _ (zLr.ok hx ((c1.n.tr (zFn.i (by omega))).tr d1.n) (((hi.fk c1).set (by decide) (by decide)).fk d1) d2.p (ztk_le (tx := tx) (ztk_le (tx := tx) hle).2.2).2.2 k1))
    · exact zJ_zret dX2_readLaw_78 rfl rfl (by decide) (by decide) (hQ _ _ (zLr.no hx ((c1.n.tr (zFn.i (by omega))).tr d1.n) k1 k2))
theorem zrP_ok2 {tx : Nat → Nat} {n i lo hi wo v : Nat} {t q : zTkn} (hk : t.1 ≤ 4) (hle : t.2.1 ≤ t.2.2.1 ∧ t.2.2.1 ≤ n) (h : zrP tx n i lo hi wo t = .inr (v, q)) : q.1 ≤ 4 ∧ (q.2.1 ≤ q.2.2.1 ∧ q.2.2.1 ≤ n) := by
  simp only [zrP] at h
  split at h
  · split at h
    · cases h
    · cases h
      have h1 := ztk_le (tx := tx) hle.2
      have h2 := ztk_le (tx := tx) h1.2.2
      exact ⟨ztk_k.1, h2.2.1, h2.2.2⟩
  · cases h; exact ⟨hk, hle⟩
theorem zrP_ok {tx : Nat → Nat} {n i lo hi wo v a : Nat} {q : zTkn} (ha : a ≤ n) (h : zrP tx n i lo hi wo (ztk tx n a) = .inr (v, q)) : q.1 ≤ 4 ∧ (q.2.1 ≤ q.2.2.1 ∧ q.2.2.1 ≤ n) := zrP_ok2 ztk_k.1 ⟨(ztk_le (tx := tx) ha).2.1, (ztk_le (tx := tx) ha).2.2⟩ h
set_option maxRecDepth 100000 in
theorem c_Rd_readLetter (Δ : zD) (w : zW) (tx : Nat → Nat) (n : Nat) (t : zTkn) (T : zTo) (hR : zRe w tx n) (hi : zTi w 4 T) (hT : zTok T) (ht : zRp w t) (hle : t.2.2.1 ≤ n) : zMp Δ 6 yX2_readLetter mX2_readLetter [.ref 3] w (fun r c => zLr w c n r (zcl (zlL tx n T t))) := by
  refine zMp.of mfX2_readLetter (Nat.le_of_ble_eq_true rfl) (fun QR hQ => ?_)
  have hC := hR.1
  refine zJ_aload_n dX2_readLetter_0 rfl ?_
  refine zJ_iconst (v := 0) dX2_readLetter_1 (by decide) ?_
  refine zJ_sipush (v := 9999) dX2_readLetter_2 (by decide) ?_
  refine zJ_eV2 dX2_readLetter_5 sX2_122 mfX2_readNumber (c_Rd_readNumber Δ w tx n _ 0 9999 hR hle ht.1 (by decide) (by decide)) (hC.1 _ (by decide)) rfl (Nat.le_of_ble_eq_true rfl) (by decide) (by decide) (fun r c1 hP => ?_)
  rcases hP with ⟨v1, a1, rfl, a2, a3, a4⟩ | ⟨e, a1, rfl, a2⟩
  · have hC1 := hC.fk a2.1 a2.2.1
    refine zJ_if_ne (tgt := 13) dX2_readLetter_8 (by decide) (fun _ => ?_) (fun h9 => False.elim (by revert h9; decide))
    refine zJ_aload_n dX2_readLetter_13 rfl ?_
    refine zJ_getr dX2_readLetter_14 fX2_12 (by first | rfl | assumption | exact hC1.1 _ (by decide)) rfl (by first | rfl | assumption | exact hC1.2 _ _ rfl) ?_
    refine zJ_aload_n dX2_readLetter_17 rfl ?_
    refine zJ_geti dX2_readLetter_18 fX2_67 (by first | rfl | assumption | exact hC1.1 _ (by decide)) rfl ?_
    rw [a4]
    refine zJ_puti dX2_readLetter_21 fX2_165 (fun q h => by cases h; rfl) (by first | rfl | assumption | exact hC1.1 _ (by decide)) rfl rfl rfl ?_
    refine zJ_aload_n dX2_readLetter_24 rfl ?_
    refine zJ_iconst (v := 0) dX2_readLetter_25 (by decide) ?_
    refine zJ_bipush (v := 99) dX2_readLetter_26 (by decide) ?_
    refine zJ_eV2 dX2_readLetter_28 sX2_122 mfX2_readNumber (c_Rd_readNumber Δ (zsi c1 4 5 (nI v1)) tx n _ 0 99 ((hR.fk a2).fd (zFd.i (by omega))) (ztk_le (tx := tx) hle).2.2 (by simp [zsi, a3.1]) (by decide) (by decide)) (hC1.1 _ (by decide)) rfl (Nat.le_of_ble_eq_true rfl) (by decide) (by decide) (fun r c2 hP => ?_)
    rcases hP with ⟨v2, b1, rfl, b2, b3, b4⟩ | ⟨e, b1, rfl, b2⟩
    · have hC2 := hC1.fk b2.1 b2.2.1
      refine zJ_if_ne (tgt := 36) dX2_readLetter_31 (by decide) (fun _ => ?_) (fun h9 => False.elim (by revert h9; decide))
      refine zJ_aload_n dX2_readLetter_36 rfl ?_
      refine zJ_getr dX2_readLetter_37 fX2_12 (by first | rfl | assumption | exact hC2.1 _ (by decide)) rfl (by first | rfl | assumption | exact hC2.2 _ _ rfl) ?_
      refine zJ_aload_n dX2_readLetter_40 rfl ?_
      refine zJ_geti dX2_readLetter_41 fX2_67 (by first | rfl | assumption | exact hC2.1 _ (by decide)) rfl ?_
      rw [b4]
      refine zJ_puti dX2_readLetter_44 fX2_168 (fun q h => by cases h; rfl) (by first | rfl | assumption | exact hC2.1 _ (by decide)) rfl rfl rfl ?_
      refine zJ_aload_n dX2_readLetter_47 rfl ?_
      refine zJ_iconst (v := 1) dX2_readLetter_48 (by decide) ?_
      refine zJ_bipush (v := 12) dX2_readLetter_49 (by decide) ?_
      refine zJ_eV2 dX2_readLetter_51 sX2_122 mfX2_readNumber (c_Rd_readNumber Δ (zsi c2 4 6 (nI v2)) tx n _ 1 12 ((((hR.fk a2).fd (zFd.i (by omega))).fk b2).fd (zFd.i (by omega))) (ztk_le (tx := tx) ((ztk_le (tx := tx) hle).2.2)).2.2 (by simp [zsi, b3.1]) (by decide) (by decide)) (hC2.1 _ (by decide)) rfl (Nat.le_of_ble_eq_true rfl) (by decide) (by decide) (fun r c3 hP => ?_)
      rcases hP with ⟨v3, e1, rfl, e2, e3, e4⟩ | ⟨e, e1, rfl, e2⟩
      · have hC3 := hC2.fk e2.1 e2.2.1
        refine zJ_if_ne (tgt := 59) dX2_readLetter_54 (by decide) (fun _ => ?_) (fun h9 => False.elim (by revert h9; decide))
        refine zJ_aload_n dX2_readLetter_59 rfl ?_
        refine zJ_getr dX2_readLetter_60 fX2_12 (by first | rfl | assumption | exact hC3.1 _ (by decide)) rfl (by first | rfl | assumption | exact hC3.2 _ _ rfl) ?_
        refine zJ_aload_n dX2_readLetter_63 rfl ?_
        refine zJ_geti dX2_readLetter_64 fX2_67 (by first | rfl | assumption | exact hC3.1 _ (by decide)) rfl ?_
        rw [e4]
        refine zJ_puti dX2_readLetter_67 fX2_171 (fun q h => by cases h; rfl) (by first | rfl | assumption | exact hC3.1 _ (by decide)) rfl rfl rfl ?_
        refine zJ_aload_n dX2_readLetter_70 rfl ?_
        refine zJ_eV0 dX2_readLetter_71 sX2_47 mfX2_takeToken (c_Rd_takeToken Δ (zsi c3 4 7 (nI v3)) tx n _ (((((hR.fk a2).fd (zFd.i (by omega))).fk b2).fd (zFd.i (by omega))).fk e2 |>.fd (zFd.i (by omega))) (ztk_le (tx := tx) ((ztk_le (tx := tx) ((ztk_le (tx := tx) hle).2.2)).2.2)).2.2 (by simp [zsi, e3.1])) (hC3.1 _ (by decide)) rfl (Nat.le_of_ble_eq_true rfl) (by decide) (by decide) (fun r d hP => ?_)
        obtain ⟨rfl, d1, d2⟩ := hP
        have hdC := hC3.fk d1.1 d1.2.1
        have hRd : zRe d tx n := ((((((hR.fk a2).fd (zFd.i (by omega))).fk b2).fd (zFd.i (by omega))).fk e2).fd (zFd.i (by omega))).fk d1
        have hFd : zFn w d := (((a2.n.tr (zFn.i (by omega))).tr (b2.n.tr (zFn.i (by omega)))).tr (e2.n.tr (zFn.i (by omega)))).tr d1.n
        have hId : zTi d 4 (zTs (zTs (zTs T 5 v1) 6 v2) 7 v3) := (((((((hi.fk a2).set (by decide) (by decide)).fk b2).set (by decide) (by decide)).fk e2).set (by decide) (by decide))).fk d1
        refine zJ_aload_n dX2_readLetter_74 rfl ?_
        refine zJ_ldcS (j := 12) (tx := "prize") dX2_readLetter_75 (by decide +kernel) ?_
        refine zJ_iconst (v := 0) dX2_readLetter_77 (by decide) ?_
        refine zJ_sipush (v := 9999) dX2_readLetter_78 (by decide) ?_
        refine zJ_iconst (v := 0) dX2_readLetter_81 (by decide) ?_
        refine zJ_eV4 dX2_readLetter_82 sX2_134 mfX2_readPerhaps (c_Rd_readPerhaps Δ d tx n 12 0 9999 0 (ztk tx n (ztk tx n (ztk tx n (ztk tx n t.2.2.1).2.2.1).2.2.1).2.2.1) hRd (by decide) d2.p ztk_k.1 ⟨(ztk_le (tx := tx) ((ztk_le (tx := tx) ((ztk_le (tx := tx) ((ztk_le (tx := tx) hle).2.2)).2.2)).2.2)).2.1, (ztk_le (tx := tx) ((ztk_le (tx := tx) ((ztk_le (tx := tx) ((ztk_le (tx := tx) hle).2.2)).2.2)).2.2)).2.2⟩ (by decide) (by decide)) (hdC.1 _ (by decide)) rfl (Nat.le_of_ble_eq_true rfl) (by decide) (by decide) (fun r f hP => ?_)
        rcases hP with ⟨v4, q4, f1, rfl, f2, f3, f4⟩ | ⟨e, f1, rfl, f2⟩
        · have hq4 := zrP_ok ((ztk_le (tx := tx) ((ztk_le (tx := tx) ((ztk_le (tx := tx) hle).2.2)).2.2)).2.2) f1
          have hfC := hdC.fk f2.1 f2.2.1
          refine zJ_if_ne (tgt := 90) dX2_readLetter_85 (by decide) (fun _ => ?_) (fun h9 => False.elim (by revert h9; decide))
          refine zJ_aload_n dX2_readLetter_90 rfl ?_
          refine zJ_getr dX2_readLetter_91 fX2_12 (by first | rfl | assumption | exact hfC.1 _ (by decide)) rfl (by first | rfl | assumption | exact hfC.2 _ _ rfl) ?_
          refine zJ_aload_n dX2_readLetter_94 rfl ?_
          refine zJ_geti dX2_readLetter_95 fX2_67 (by first | rfl | assumption | exact hfC.1 _ (by decide)) rfl ?_
          rw [f4]
          refine zJ_puti dX2_readLetter_98 fX2_176 (fun q h => by cases h; rfl) (by first | rfl | assumption | exact hfC.1 _ (by decide)) rfl rfl rfl ?_
          refine zJ_aload_n dX2_readLetter_101 rfl ?_
          refine zJ_ldcS (j := 13) (tx := "pays") dX2_readLetter_102 (by decide +kernel) ?_
          refine zJ_iconst (v := 0) dX2_readLetter_104 (by decide) ?_
          refine zJ_sipush (v := 9999) dX2_readLetter_105 (by decide) ?_
          refine zJ_iconst (v := 0) dX2_readLetter_108 (by decide) ?_
          refine zJ_eV4 dX2_readLetter_109 sX2_134 mfX2_readPerhaps (c_Rd_readPerhaps Δ (zsi f 4 8 (nI v4)) tx n 13 0 9999 0 q4 ((hRd.fk f2).fd (zFd.i (by omega))) (by decide) ⟨by simp [zsi, f3.1], by simp [zsi, f3.2.1], by simp [zsi, f3.2.2]⟩ hq4.1 hq4.2 (by decide) (by decide)) (hfC.1 _ (by decide)) rfl (Nat.le_of_ble_eq_true rfl) (by decide) (by decide) (fun r g hP => ?_)
          rcases hP with ⟨v5, q5, g1, rfl, g2, g3, g4⟩ | ⟨e, g1, rfl, g2⟩
          · have hq5 := zrP_ok2 hq4.1 hq4.2 g1
            have hgC := hfC.fk g2.1 g2.2.1
            refine zJ_if_ne (tgt := 117) dX2_readLetter_112 (by decide) (fun _ => ?_) (fun h9 => False.elim (by revert h9; decide))
            refine zJ_aload_n dX2_readLetter_117 rfl ?_
            refine zJ_getr dX2_readLetter_118 fX2_12 (by first | rfl | assumption | exact hgC.1 _ (by decide)) rfl (by first | rfl | assumption | exact hgC.2 _ _ rfl) ?_
            refine zJ_aload_n dX2_readLetter_121 rfl ?_
            refine zJ_geti dX2_readLetter_122 fX2_67 (by first | rfl | assumption | exact hgC.1 _ (by decide)) rfl ?_
            rw [g4]
            refine zJ_puti dX2_readLetter_125 fX2_180 (fun q h => by cases h; rfl) (by first | rfl | assumption | exact hgC.1 _ (by decide)) rfl rfl rfl ?_
            have hx : zlL tx n T t = .inr (zTs (zTs (zTs (zTs (zTs T 5 v1) 6 v2) 7 v3) 8 v4) 9 v5, q5) := by simp only [zlL, a1, b1, e1, f1, g1]
            refine zJ_aload_n dX2_readLetter_128 rfl ?_
            refine zJ_eV0 dX2_readLetter_129 sX2_144 mfX2_isClosed (c_Rd_isClosed Δ (zsi g 4 9 (nI v5)) hgC _ ⟨by simp [zsi, g3.1], by simp [zsi, g3.2.1], by simp [zsi, g3.2.2]⟩ hq5.1) (hgC.1 _ (by decide)) rfl (Nat.le_of_ble_eq_true rfl) (by decide) (by decide) (fun r z hP => ?_)
            rcases hP with ⟨k1, rfl, rfl⟩ | ⟨k1, rfl, k2⟩
            · exact zJ_zret dX2_readLetter_132 rfl rfl (by decide) (by decide) (hQ _ _ (zLr.ok hx ((hFd.tr (f2.n.tr (zFn.i (by omega)))).tr (g2.n.tr (zFn.i (by omega)))) ((((hId.fk f2).set (by decide) (by decide)).fk g2).set (by decide) (by decide)) ⟨by simp [zsi, g3.1], by simp [zsi, g3.2.1], by simp [zsi, g3.2.2]⟩ hq5.2.2 k1))
            · exact zJ_zret dX2_readLetter_132 rfl rfl (by decide) (by decide) (hQ _ _ (zLr.no hx ((hFd.tr (f2.n.tr (zFn.i (by omega)))).tr (g2.n.tr (zFn.i (by omega)))) k1 k2))
          · have hgC := hfC.fk g2.1.1 g2.1.2.1
            refine zJ_if_ne (tgt := 117) dX2_readLetter_112 (by decide) (fun h9 => False.elim (by revert h9; decide)) (fun _ => ?_)
            refine zJ_iconst (v := 0) dX2_readLetter_115 (by decide) ?_
            exact zJ_zret dX2_readLetter_116 rfl rfl (by decide) (by decide) (hQ _ _ (zLr.er (by simp only [zlL, a1, b1, e1, f1, g1]) (g2.pre (hFd.d.tr (f2.d.tr (zFd.i (by omega)))))))
        · have hfC := hdC.fk f2.1.1 f2.1.2.1
          refine zJ_if_ne (tgt := 90) dX2_readLetter_85 (by decide) (fun h9 => False.elim (by revert h9; decide)) (fun _ => ?_)
          refine zJ_iconst (v := 0) dX2_readLetter_88 (by decide) ?_
          exact zJ_zret dX2_readLetter_89 rfl rfl (by decide) (by decide) (hQ _ _ (zLr.er (by simp only [zlL, a1, b1, e1, f1]) (f2.pre hFd.d)))
      · have hC3 := hC2.fk e2.1.1 e2.1.2.1
        refine zJ_if_ne (tgt := 59) dX2_readLetter_54 (by decide) (fun h9 => False.elim (by revert h9; decide)) (fun _ => ?_)
        refine zJ_iconst (v := 0) dX2_readLetter_57 (by decide) ?_
        exact zJ_zret dX2_readLetter_58 rfl rfl (by decide) (by decide) (hQ _ _ (zLr.er (by simp only [zlL, a1, b1, e1]) (e2.pre ((a2.n.tr (zFn.i (by omega))).tr (b2.n.tr (zFn.i (by omega)))).d)))
    · have hC2 := hC1.fk b2.1.1 b2.1.2.1
      refine zJ_if_ne (tgt := 36) dX2_readLetter_31 (by decide) (fun h9 => False.elim (by revert h9; decide)) (fun _ => ?_)
      refine zJ_iconst (v := 0) dX2_readLetter_34 (by decide) ?_
      exact zJ_zret dX2_readLetter_35 rfl rfl (by decide) (by decide) (hQ _ _ (zLr.er (by simp only [zlL, a1, b1]) (b2.pre (a2.d.tr (zFd.i (by omega))))))
  · have hC1 := hC.fk a2.1.1 a2.1.2.1
    refine zJ_if_ne (tgt := 13) dX2_readLetter_8 (by decide) (fun h9 => False.elim (by revert h9; decide)) (fun _ => ?_)
    refine zJ_iconst (v := 0) dX2_readLetter_11 (by decide) ?_
    exact zJ_zret dX2_readLetter_12 rfl rfl (by decide) (by decide) (hQ _ _ (zLr.er (by simp only [zlL, a1]) a2))
