/-! LetterTown: theft, week, thieves, luck, on -/
theorem zev_and {pp : Nat} (hp : pp ≤ 8) (x : Int32) : x &&& (nI (2 ^ pp - 1) ^^^ (-1)) = 0 ↔ ∃ t, t < 2 ^ pp ∧ x = nI t := by
  have hx := zn32_eq x
  have hlt : zn32 x < 2 ^ 32 := x.toBitVec.isLt
  have h8 : 2 ^ pp ≤ 2 ^ 8 := Nat.pow_le_pow_right (by decide) hp
  rw [na_not, ← hx, na_and]
  have hz : ∀ a, a < 2 ^ 32 → (nI a = 0 ↔ a = 0) := fun a ha => by
    constructor
    · intro h
      have h2 := congrArg (fun z : Int32 => z.toBitVec.toNat) h
      simp only [nI] at h2
      have h3 : (Int32.ofNat a).toBitVec.toNat = a := by
        rw [show (Int32.ofNat a).toBitVec = BitVec.ofNat 32 a from rfl, BitVec.toNat_ofNat, Nat.mod_eq_of_lt ha]
      rw [h3] at h2
      exact h2
    · intro h; rw [h]; rfl
  rw [hz _ (Nat.lt_of_le_of_lt Nat.and_le_left hlt)]
  constructor
  · intro h
    refine ⟨zn32 x, ?_, rfl⟩
    refine Nat.lt_pow_two_of_testBit _ (fun j hj => ?_)
    by_cases hj32 : j < 32
    · have h1 := congrArg (fun z : Nat => z.testBit j) h
      simp only [Nat.testBit_and, tb_not, Nat.testBit_two_pow_sub_one, Nat.zero_testBit] at h1
      have h2 : decide (j < pp) = false := decide_eq_false (by omega)
      have h3 : decide (j < 32) = true := decide_eq_true hj32
      rw [h2, h3] at h1
      simpa using h1
    · exact Nat.testBit_lt_two_pow (Nat.lt_of_lt_of_le hlt (Nat.pow_le_pow_right (by decide) (by omega)))
  · rintro ⟨t, ht, h⟩
    have e : zn32 x = t := by
      have h2 := congrArg (fun z : Int32 => z.toBitVec.toNat) h
      simp only [nI] at h2
      rw [show (Int32.ofNat (zn32 x)).toBitVec = BitVec.ofNat 32 (zn32 x) from rfl, show (Int32.ofNat t).toBitVec = BitVec.ofNat 32 t from rfl, BitVec.toNat_ofNat, BitVec.toNat_ofNat, Nat.mod_eq_of_lt hlt, Nat.mod_eq_of_lt (by omega)] at h2
      exact h2
    rw [e]
    refine Nat.eq_of_testBit_eq (fun j => ?_)
    simp only [Nat.testBit_and, tb_not, Nat.testBit_two_pow_sub_one, Nat.zero_testBit]
    by_cases hj : j < pp
    · have h3 : decide (j < 32) = true := decide_eq_true (by omega)
      simp [hj, h3]
    · rw [Nat.testBit_lt_two_pow (Nat.lt_of_lt_of_le ht (Nat.pow_le_pow_right (by decide) (by omega)))]
      simp
set_option maxRecDepth 100000 in
theorem c_theft (Δ : zD) (w : zW) (U : zTo) (hB : zB w U) (x y : Int32) (n : Nat) (hn : n ≤ 30) (h2 : w.2.1 47 2 = nI n) : zM Δ 6 10 60 true yX8_theft mX8_theft [.ref 0, .int x, .int y] w (fun r d => ∃ t, t < 2 ^ U.1 0 ∧ x = nI t ∧ ((¬ (n < 30 ∧ (∃ f, f ≤ 8 ∧ y = nI f)) ∧ r = some (.int (-1)) ∧ d = zsi w 2 2 (w.2.1 2 2 + 1)) ∨ ((n < 30 ∧ (∃ f, f ≤ 8 ∧ y = nI f)) ∧ r = some (.int (nI (n + 1))) ∧ d = zsi (zsi (zsi w 48 n x) 49 n y) 47 2 (nI (n + 1))))) (fun E d => E = "java/lang/IllegalArgumentException" ∧ d = w ∧ ¬ (∃ t, t < 2 ^ U.1 0 ∧ x = nI t)) := by
  refine zM.of mfX8_theft (Nat.le_of_ble_eq_true rfl) ?_
  have hC := hB.1
  have hU := hB.2.2.1.1
  have hp0 := hB.2.1.2.1 0 (by decide) (by decide)
  have hp8 := hU.1
  have hk0 := hC.1 0 (by decide)
  have hTh : zTh w 47 := ⟨hC.1 _ (by decide), hC.2 _ _ rfl, hC.2 _ _ rfl, hC.2 _ _ rfl, hC.1 _ (by decide), hC.1 _ (by decide), hC.1 _ (by decide)⟩
  refine zJ_iload_n dX8_theft_0 rfl ?_
  refine zJ_aload_n dX8_theft_1 rfl ?_
  refine zJ_getr dX8_theft_2 fX8_32 (by first | rfl | assumption | exact hC.1 _ (by decide)) rfl (by first | rfl | assumption | exact hC.2 _ _ rfl) ?_
  refine zJ_cV0 dX8_theft_5 sX8_314 mfX5_everyone (c_Town_everyone Δ w 9 (hC.1 9 (by decide))) (by first | rfl | assumption | exact hC.1 _ (by decide)) rfl (Nat.le_of_ble_eq_true rfl) (by decide) (by decide) ?_
  rw [hp0, na_shl (U.1 0) (by omega), show nI (2 ^ U.1 0) - 1 = nI (2 ^ U.1 0 - 1) from na_sub (b := 1) (Nat.one_le_two_pow)]
  refine zJ_iconst (v := (-1)) dX8_theft_8 (by decide) ?_
  refine zJ_ixor dX8_theft_9 ?_
  refine zJ_iand dX8_theft_10 ?_
  refine zJ_if_eq (tgt := 25) dX8_theft_11 (by decide) (fun h11 => ?_) (fun h11 => ?_)
  · obtain ⟨t, ht, rfl⟩ := (zev_and hp8 x).mp h11
    refine zJ_iload_n dX8_theft_25 rfl ?_
    refine zJ_if_lt (tgt := 47) dX8_theft_26 (by decide) (fun h26 => ?_) (fun h26 => ?_)
    · have hno : ¬ (n < 30 ∧ (∃ f, f ≤ 8 ∧ y = nI f)) := fun ⟨_, h, h1, h2⟩ => by
        rw [h2] at h26
        exact absurd ((nI_ltI (b := 0) (by omega) (by decide)).mp h26) (by omega)
      refine zJ_aload_n dX8_theft_47 rfl ?_
      refine zJ_getr dX8_theft_48 fX8_17 (by first | rfl | assumption | exact hC.1 _ (by decide)) rfl (by first | rfl | assumption | exact hC.2 _ _ rfl) ?_
      refine zJ_iconst (v := 2) dX8_theft_51 (by decide) ?_
      refine zJ_dup2_11 dX8_theft_52 rfl rfl ?_
      refine zJ_iald dX8_theft_53 (by first | rfl | assumption | exact hC.1 _ (by decide)) (vp_in_nI (n := 2) (by decide) (by decide)) ?_
      refine zJ_iconst (v := 1) dX8_theft_54 (by decide) ?_
      refine zJ_iadd dX8_theft_55 ?_
      refine zJ_iast dX8_theft_56 (by first | rfl | assumption | exact hC.1 _ (by decide)) (vp_in_nI (n := 2) (by decide) (by decide)) ?_
      refine zJ_iconst (v := (-1)) dX8_theft_57 (by decide) ?_
      exact zJ_iret dX8_theft_58 rfl (by decide) (by decide) ⟨t, ht, rfl, Or.inl ⟨hno, rfl, rfl⟩⟩
    · refine zJ_iload_n dX8_theft_29 rfl ?_
      refine zJ_bipush (v := 8) dX8_theft_30 (by decide) ?_
      refine zJ_icmp_gt (tgt := 47) dX8_theft_32 (by decide) (fun h32 => ?_) (fun h32 => ?_)
      · have hno : ¬ (n < 30 ∧ (∃ f, f ≤ 8 ∧ y = nI f)) := fun ⟨_, h, h1, h2⟩ => by
          rw [h2] at h32
          exact absurd ((nI_ltI (a := 8) (by decide) (by omega)).mp h32) (by omega)
        refine zJ_aload_n dX8_theft_47 rfl ?_
        refine zJ_getr dX8_theft_48 fX8_17 (by first | rfl | assumption | exact hC.1 _ (by decide)) rfl (by first | rfl | assumption | exact hC.2 _ _ rfl) ?_
        refine zJ_iconst (v := 2) dX8_theft_51 (by decide) ?_
        refine zJ_dup2_11 dX8_theft_52 rfl rfl ?_
        refine zJ_iald dX8_theft_53 (by first | rfl | assumption | exact hC.1 _ (by decide)) (vp_in_nI (n := 2) (by decide) (by decide)) ?_
        refine zJ_iconst (v := 1) dX8_theft_54 (by decide) ?_
        refine zJ_iadd dX8_theft_55 ?_
        refine zJ_iast dX8_theft_56 (by first | rfl | assumption | exact hC.1 _ (by decide)) (vp_in_nI (n := 2) (by decide) (by decide)) ?_
        refine zJ_iconst (v := (-1)) dX8_theft_57 (by decide) ?_
        exact zJ_iret dX8_theft_58 rfl (by decide) (by decide) ⟨t, ht, rfl, Or.inl ⟨hno, rfl, rfl⟩⟩
      · obtain ⟨fv, hf31, rfl⟩ := nI_of h26
        have hfv : fv ≤ 8 := (nI_leI (b := 8) (by omega) (by decide)).mp (Int32.not_lt.mp h32)
        refine zJ_aload_n dX8_theft_35 rfl ?_
        refine zJ_getr dX8_theft_36 fX8_65 (by first | rfl | assumption | exact hC.1 _ (by decide)) rfl (by first | rfl | assumption | exact hC.2 _ _ rfl) ?_
        refine zJ_iload_n dX8_theft_39 rfl ?_
        refine zJ_iload_n dX8_theft_40 rfl ?_
        by_cases hn30 : n < 30
        · refine zJ_cV2 dX8_theft_41 sX8_319 mfX4_add (c_Theft_add Δ w 47 n (nI t) (nI fv) hTh h2 hn30) (hC.1 _ (by decide)) rfl (Nat.le_of_ble_eq_true rfl) (by decide) (by decide) ?_
          refine zJ_if_ne (tgt := 59) dX8_theft_44 (by decide) (fun _ => ?_) (fun h9 => False.elim (by revert h9; decide))
          refine zJ_aload_n dX8_theft_59 rfl ?_
          refine zJ_getr dX8_theft_60 fX8_65 (by first | rfl | assumption | exact hC.1 _ (by decide)) rfl (by first | rfl | assumption | exact hC.2 _ _ rfl) ?_
          refine zJ_geti dX8_theft_63 fX8_150 (by first | rfl | assumption | exact hC.1 _ (by decide)) rfl ?_
          rw [show (zsi (zsi (zsi w 48 n (nI t)) 49 n (nI fv)) 47 2 (nI (n + 1))).2.1 47 2 = nI (n + 1) by simp [zsi]]
          exact zJ_iret dX8_theft_66 rfl (by decide) (by decide) ⟨t, ht, rfl, Or.inr ⟨⟨hn30, fv, hfv, rfl⟩, rfl, rfl⟩⟩
        · refine zJ_cV2 dX8_theft_41 sX8_319 mfX4_add (c_Theft_add0 Δ w 47 (nI t) (nI fv) hTh (by rw [h2, show n = 30 by omega]; rfl)) (hC.1 _ (by decide)) rfl (Nat.le_of_ble_eq_true rfl) (by decide) (by decide) ?_
          refine zJ_if_ne (tgt := 59) dX8_theft_44 (by decide) (fun h9 => False.elim (by revert h9; decide)) (fun _ => ?_)
          have hno : ¬ (n < 30 ∧ (∃ f, f ≤ 8 ∧ (nI fv) = nI f)) := fun h => absurd h.1 (by omega)
          refine zJ_aload_n dX8_theft_47 rfl ?_
          refine zJ_getr dX8_theft_48 fX8_17 (by first | rfl | assumption | exact hC.1 _ (by decide)) rfl (by first | rfl | assumption | exact hC.2 _ _ rfl) ?_
          refine zJ_iconst (v := 2) dX8_theft_51 (by decide) ?_
          refine zJ_dup2_11 dX8_theft_52 rfl rfl ?_
          refine zJ_iald dX8_theft_53 (by first | rfl | assumption | exact hC.1 _ (by decide)) (vp_in_nI (n := 2) (by decide) (by decide)) ?_
          refine zJ_iconst (v := 1) dX8_theft_54 (by decide) ?_
          refine zJ_iadd dX8_theft_55 ?_
          refine zJ_iast dX8_theft_56 (by first | rfl | assumption | exact hC.1 _ (by decide)) (vp_in_nI (n := 2) (by decide) (by decide)) ?_
          refine zJ_iconst (v := (-1)) dX8_theft_57 (by decide) ?_
          exact zJ_iret dX8_theft_58 rfl (by decide) (by decide) ⟨t, ht, rfl, Or.inl ⟨hno, rfl, rfl⟩⟩
  · exact zJ_throwIW (text := "PEOPLE that there aren't") (j := 24) dX8_theft_14 dX8_theft_17 dX8_theft_18 dX8_theft_21 dX8_theft_24 rfl rfl (by decide +kernel) (Nat.le_of_ble_eq_true rfl) (Nat.le_of_ble_eq_true rfl) (by decide) (by decide) ⟨rfl, rfl, fun h => h11 ((zev_and hp8 x).mpr h)⟩
set_option maxRecDepth 100000 in
theorem c_week (Δ : zD) (w : zW) (U : zTo) (hB : zB w U) (x y : Int32) (n : Nat) (hn : n ≤ 100) (h3 : w.2.1 53 3 = nI n) (hd : Nat → Nat) (hh : ∀ i, i < n → w.2.1 55 i = nI (hd i) ∧ hd i ≤ 12) : zM Δ 7 10 60 true yX8_week mX8_week [.ref 0, .int x, .int y] w (fun r d => d = w ∧ ∃ q i, q ≤ 2 ∧ y = nI q ∧ i < n ∧ x = nI i ∧ r = some (.int (if q = 0 then w.2.1 54 i else if q = 1 then nI (hd i) else nI (if hd i = 0 then 0 else zpe U (hd i))))) (fun E d => E = zNS ∧ d = w ∧ ¬ ((∃ q, q ≤ 2 ∧ y = nI q) ∧ ∃ i, i < n ∧ x = nI i)) := by
  refine zM.of mfX8_week (Nat.le_of_ble_eq_true rfl) ?_
  have hC := hB.1
  have hU := hB.2.2.1.1
  have hp0 := hB.2.1.2.1 0 (by decide) (by decide)
  have hp8 := hU.1
  have hk0 := hC.1 0 (by decide)
  refine zJ_aload_n dX8_week_0 rfl ?_
  refine zJ_iload_n dX8_week_1 rfl ?_
  refine zJ_iconst (v := 2) dX8_week_2 (by decide) ?_
  refine zJ_xV2 dX8_week_3 sX8_161 pX8_161 mfX8_needWhat (c_needWhat Δ w hC y 2 (by decide)) rfl hk0 rfl (Nat.le_of_ble_eq_true rfl) ⟨Nat.le_of_ble_eq_true rfl, Nat.le_of_ble_eq_true rfl⟩ (by decide) (fun r c9 hP => ?_) (fun E c9 hX => ⟨hX.1, hX.2.1, fun h => hX.2.2 h.1⟩)
  obtain ⟨rfl, hw9, hP⟩ := hP
  obtain rfl := hw9.symm
  obtain ⟨q, hq, rfl⟩ := hP
  refine zJ_iload_n dX8_week_6 rfl ?_
  refine zJ_if_lt (tgt := 21) dX8_week_7 (by decide) (fun h7 => ?_) (fun h7 => ?_)
  · have hno : ¬ ∃ i, i < n ∧ x = nI i := fun ⟨h, h1, h2⟩ => by
      rw [h2] at h7
      exact absurd ((nI_ltI (b := 0) (by omega) (by decide)).mp h7) (by omega)
    exact zJ_throwNW (text := "no such week") (j := 28) dX8_week_21 dX8_week_24 dX8_week_25 dX8_week_28 dX8_week_31 rfl rfl (by decide +kernel) (Nat.le_of_ble_eq_true rfl) (Nat.le_of_ble_eq_true rfl) (by decide) (by decide) ⟨rfl, rfl, fun h => hno h.2⟩
  · refine zJ_iload_n dX8_week_10 rfl ?_
    refine zJ_aload_n dX8_week_11 rfl ?_
    refine zJ_getr dX8_week_12 fX8_79 (by first | rfl | assumption | exact hC.1 _ (by decide)) rfl (by first | rfl | assumption | exact hC.2 _ _ rfl) ?_
    refine zJ_geti dX8_week_15 fX8_358 (by first | rfl | assumption | exact hC.1 _ (by decide)) rfl ?_
    rw [h3]
    refine zJ_icmp_lt (tgt := 32) dX8_week_18 (by decide) (fun h18 => ?_) (fun h18 => ?_)
    · obtain ⟨i, hi31, rfl⟩ := nI_of h7
      have hi : i < n := (nI_ltI (by omega) (by omega)).mp h18
      have ci : (nI i).toNatClampNeg = i := nI_clamp (by omega)
      have hh1 := (hh i hi).2
      refine zJ_iload_n dX8_week_32 rfl ?_
      refine zJ_if_ne (tgt := 46) dX8_week_33 (by decide) (fun h33 => ?_) (fun h33 => ?_)
      · have hq0 : ¬ q = 0 := fun h => h33 (by rw [h]; rfl)
        refine zJ_aload_n dX8_week_46 rfl ?_
        refine zJ_getr dX8_week_47 fX8_79 (by first | rfl | assumption | exact hC.1 _ (by decide)) rfl (by first | rfl | assumption | exact hC.2 _ _ rfl) ?_
        refine zJ_getr dX8_week_50 fX8_368 (by first | rfl | assumption | exact hC.1 _ (by decide)) rfl (by first | rfl | assumption | exact hC.2 _ _ rfl) ?_
        refine zJ_iload_n dX8_week_53 rfl ?_
        refine zJ_iald dX8_week_54 (by first | rfl | assumption | exact hC.1 _ (by decide)) (vp_in_nI (by omega) (by decide)) ?_
        rw [ci, (hh i hi).1]
        refine zJ_istore_n (ls2 := fun x55 => [(3, .int x55), (0, .ref 0), (1, .int (nI i)), (2, .int (nI q))]) dX8_week_55 (by decide) (fun _ => rfl) (fun x55 ex55 => ?_)
        obtain rfl : x55 = (nI (hd i)) := ex55
        refine zJ_iload_n dX8_week_56 rfl ?_
        refine zJ_iconst (v := 1) dX8_week_57 (by decide) ?_
        refine zJ_icmp_eq (tgt := 65) dX8_week_58 (by decide) (fun h58 => ?_) (fun h58 => ?_)
        · have hq1 : q = 1 := (nI_eq (b := 1) (by omega) (by decide)).mp h58
          refine zJ_iload_n dX8_week_65 rfl ?_
          refine zJ_goto (tgt := 77) dX8_week_66 (by decide) ?_
          exact zJ_iret dX8_week_77 rfl (by decide) (by decide) ⟨rfl, q, i, hq, rfl, hi, rfl, by simp [hq0, hq1]⟩
        · have hq1 : ¬ q = 1 := fun h => h58 (by rw [h]; rfl)
          refine zJ_iload_n dX8_week_61 rfl ?_
          refine zJ_if_ne (tgt := 69) dX8_week_62 (by decide) (fun h62 => ?_) (fun h62 => ?_)
          · have hz : ¬ hd i = 0 := fun h => h62 (by rw [h]; rfl)
            refine zJ_aload_n dX8_week_69 rfl ?_
            refine zJ_getr dX8_week_70 fX8_32 (by first | rfl | assumption | exact hC.1 _ (by decide)) rfl (by first | rfl | assumption | exact hC.2 _ _ rfl) ?_
            refine zJ_iload_n dX8_week_73 rfl ?_
            refine zJ_cV1 dX8_week_74 sX8_370 mfX5_pence (c_Town_penceN Δ w 9 (hd i) U hB.2.1 (by omega)) (by first | rfl | assumption | exact hC.1 _ (by decide)) rfl (Nat.le_of_ble_eq_true rfl) (by decide) (by decide) ?_
            exact zJ_iret dX8_week_77 rfl (by decide) (by decide) ⟨rfl, q, i, hq, rfl, hi, rfl, by simp only [hq0, hq1, hz, if_true, if_false]⟩
          · have hz : hd i = 0 := (nI_eq (b := 0) (by omega) (by decide)).mp h62
            rw [hz]
            refine zJ_iload_n dX8_week_65 rfl ?_
            refine zJ_goto (tgt := 77) dX8_week_66 (by decide) ?_
            exact zJ_iret dX8_week_77 rfl (by decide) (by decide) ⟨rfl, q, i, hq, rfl, hi, rfl, by simp only [hq0, hq1, hz, if_true, if_false]⟩
      · refine zJ_aload_n dX8_week_36 rfl ?_
        refine zJ_getr dX8_week_37 fX8_79 (by first | rfl | assumption | exact hC.1 _ (by decide)) rfl (by first | rfl | assumption | exact hC.2 _ _ rfl) ?_
        refine zJ_getr dX8_week_40 fX8_365 (by first | rfl | assumption | exact hC.1 _ (by decide)) rfl (by first | rfl | assumption | exact hC.2 _ _ rfl) ?_
        refine zJ_iload_n dX8_week_43 rfl ?_
        refine zJ_iald dX8_week_44 (by first | rfl | assumption | exact hC.1 _ (by decide)) (vp_in_nI (by omega) (by decide)) ?_
        have hq0 : q = 0 := (nI_eq (b := 0) (by omega) (by decide)).mp h33
        rw [ci]
        exact zJ_iret dX8_week_45 rfl (by decide) (by decide) ⟨rfl, q, i, hq, rfl, hi, rfl, by simp [hq0]⟩
    · have hno : ¬ ∃ i, i < n ∧ x = nI i := fun ⟨h, h1, h2⟩ => by
        rw [h2] at h18
        exact h18 ((nI_ltI (by omega) (by omega)).mpr h1)
      exact zJ_throwNW (text := "no such week") (j := 28) dX8_week_21 dX8_week_24 dX8_week_25 dX8_week_28 dX8_week_31 rfl rfl (by decide +kernel) (Nat.le_of_ble_eq_true rfl) (Nat.le_of_ble_eq_true rfl) (by decide) (by decide) ⟨rfl, rfl, fun h => hno h.2⟩
set_option maxRecDepth 100000 in
theorem c_thieves (Δ : zD) (w : zW) (U : zTo) (hB : zB w U) (x : Int32) (n : Nat) (hn : n ≤ 30) (thr few : Nat → Nat) (h2 : w.2.1 47 2 = nI n) (h48 : ∀ k, k < n → w.2.1 48 k = nI (thr k)) (h49 : ∀ k, k < n → w.2.1 49 k = nI (few k) ∧ few k ≤ 8) : zM Δ 7 10 60 true yX8_thieves mX8_thieves [.ref 0, .int x] w (fun r d => ∃ q, q ≤ 4 ∧ x = nI q ∧ r = some (.int (if q = 0 then nI (if zcnt (fun s => zexp thr few s n) (2 ^ U.1 0) = 0 then 0 else zsu (fun s => zexp thr few s n) ((2 ^ U.1 0) - 1) (2 ^ U.1 0)) else if q = 1 then nI (zpo (fun s => zexp thr few s n) (2 ^ U.1 0)) else if q = 2 then nI (zcnt (fun s => zexp thr few s n) (2 ^ U.1 0)) else if q = 3 then zoi (zfw (fun s => zexp thr few s n) (2 ^ U.1 0)) else if zcnt (fun s => zexp thr few s n) (2 ^ U.1 0) = 0 then -1 else zoi (zwa (fun p => zwi (fun s => zexp thr few s n) p (2 ^ U.1 0)) (zcnt (fun s => zexp thr few s n) (2 ^ U.1 0)) (U.1 0)))) ∧ ∃ su po se fw wi, d = zthw w 47 su po se fw wi) (fun E d => E = zNS ∧ d = w ∧ ¬ ∃ q, q ≤ 4 ∧ x = nI q) := by
  refine zM.of mfX8_thieves (Nat.le_of_ble_eq_true rfl) ?_
  have hC := hB.1
  have hU := hB.2.2.1.1
  have hp0 := hB.2.1.2.1 0 (by decide) (by decide)
  have hp8 := hU.1
  have hk0 := hC.1 0 (by decide)
  have hTh : zTh w 47 := ⟨hC.1 _ (by decide), hC.2 _ _ rfl, hC.2 _ _ rfl, hC.2 _ _ rfl, hC.1 _ (by decide), hC.1 _ (by decide), hC.1 _ (by decide)⟩
  have h256 : 2 ^ U.1 0 ≤ 256 := Nat.pow_le_pow_right (m := 8) (by decide) hp8
  refine zJ_aload_n dX8_thieves_0 rfl ?_
  refine zJ_iload_n dX8_thieves_1 rfl ?_
  refine zJ_iconst (v := 4) dX8_thieves_2 (by decide) ?_
  refine zJ_xV2 dX8_thieves_3 sX8_161 pX8_161 mfX8_needWhat (c_needWhat Δ w hC x 4 (by decide)) rfl hk0 rfl (Nat.le_of_ble_eq_true rfl) ⟨Nat.le_of_ble_eq_true rfl, Nat.le_of_ble_eq_true rfl⟩ (by decide) (fun r c9 hP => ?_) (fun E c9 hX => ⟨hX.1, hX.2.1, hX.2.2⟩)
  obtain ⟨rfl, hw9, hP⟩ := hP
  obtain rfl := hw9.symm
  refine zJ_aload_n dX8_thieves_6 rfl ?_
  refine zJ_getr dX8_thieves_7 fX8_65 (by first | rfl | assumption | exact hC.1 _ (by decide)) rfl (by first | rfl | assumption | exact hC.2 _ _ rfl) ?_
  refine zJ_aload_n dX8_thieves_10 rfl ?_
  refine zJ_getr dX8_thieves_11 fX8_32 (by first | rfl | assumption | exact hC.1 _ (by decide)) rfl (by first | rfl | assumption | exact hC.2 _ _ rfl) ?_
  refine zJ_geti dX8_thieves_14 fX8_117 (by first | rfl | assumption | exact hC.1 _ (by decide)) rfl ?_
  rw [hp0]
  refine zJ_cV1 dX8_thieves_17 sX8_322 mfX4_weigh (c_Theft_weigh Δ w 47 n (U.1 0) thr few hTh h2 hn hp8 h48 h49) (by first | rfl | assumption | exact hC.1 _ (by decide)) rfl (Nat.le_of_ble_eq_true rfl) (by decide) (by decide) ?_
  refine zJ_iload_n dX8_thieves_20 rfl ?_
  obtain ⟨q, hq, rfl⟩ := hP
  have hg := zthw_get w 47 (nI (if zcnt (fun s => zexp thr few s n) (2 ^ U.1 0) = 0 then 0 else zsu (fun s => zexp thr few s n) ((2 ^ U.1 0) - 1) (2 ^ U.1 0))) (nI (zpo (fun s => zexp thr few s n) (2 ^ U.1 0))) (nI (zcnt (fun s => zexp thr few s n) (2 ^ U.1 0))) (zoi (zfw (fun s => zexp thr few s n) (2 ^ U.1 0))) (fun p => if p < 8 then nI (if p < U.1 0 then zwi (fun s => zexp thr few s n) p (2 ^ U.1 0) else 0) else w.2.1 (47 + 3) p)
  generalize hd9 : zthw w 47 (nI (if zcnt (fun s => zexp thr few s n) (2 ^ U.1 0) = 0 then 0 else zsu (fun s => zexp thr few s n) ((2 ^ U.1 0) - 1) (2 ^ U.1 0))) (nI (zpo (fun s => zexp thr few s n) (2 ^ U.1 0))) (nI (zcnt (fun s => zexp thr few s n) (2 ^ U.1 0))) (zoi (zfw (fun s => zexp thr few s n) (2 ^ U.1 0))) (fun p => if p < 8 then nI (if p < U.1 0 then zwi (fun s => zexp thr few s n) p (2 ^ U.1 0) else 0) else w.2.1 (47 + 3) p) = d at hg ⊢
  have hCd : zCs d := by rw [← hd9]; exact hC
  have hTd : zTh d 47 := by rw [← hd9]; exact hTh
  have hex : ∃ su po se fw wi, d = zthw w 47 su po se fw wi := ⟨_, _, _, _, _, hd9.symm⟩
  have hd90 : d.2.1 9 0 = nI (U.1 0) := by rw [← hd9]; simp [zthw, hp0]
  obtain ⟨g3, g4, g5, g6, g7⟩ := hg
  rcases (by omega : q = 0 ∨ q = 1 ∨ q = 2 ∨ q = 3 ∨ q = 4) with rfl | rfl | rfl | rfl | rfl
  · refine zJ_tabN (off := 31) (tgt := 52) dX8_thieves_21 (by decide) (by decide) rfl (by decide) ?_
    refine zJ_aload_n dX8_thieves_52 rfl ?_
    refine zJ_getr dX8_thieves_53 fX8_65 (by first | rfl | assumption | exact hCd.1 _ (by decide)) rfl (by first | rfl | assumption | exact hCd.2 _ _ rfl) ?_
    refine zJ_geti dX8_thieves_56 fX8_325 (by first | rfl | assumption | exact hCd.1 _ (by decide)) rfl ?_
    rw [g3]
    exact zJ_iret dX8_thieves_59 rfl (by decide) (by decide) ⟨0, by decide, rfl, rfl, hex⟩
  · refine zJ_tabN (off := 39) (tgt := 60) dX8_thieves_21 (by decide) (by decide) rfl (by decide) ?_
    refine zJ_aload_n dX8_thieves_60 rfl ?_
    refine zJ_getr dX8_thieves_61 fX8_65 (by first | rfl | assumption | exact hCd.1 _ (by decide)) rfl (by first | rfl | assumption | exact hCd.2 _ _ rfl) ?_
    refine zJ_geti dX8_thieves_64 fX8_328 (by first | rfl | assumption | exact hCd.1 _ (by decide)) rfl ?_
    rw [g4]
    exact zJ_iret dX8_thieves_67 rfl (by decide) (by decide) ⟨1, by decide, rfl, rfl, hex⟩
  · refine zJ_tabN (off := 47) (tgt := 68) dX8_thieves_21 (by decide) (by decide) rfl (by decide) ?_
    refine zJ_aload_n dX8_thieves_68 rfl ?_
    refine zJ_getr dX8_thieves_69 fX8_65 (by first | rfl | assumption | exact hCd.1 _ (by decide)) rfl (by first | rfl | assumption | exact hCd.2 _ _ rfl) ?_
    refine zJ_geti dX8_thieves_72 fX8_331 (by first | rfl | assumption | exact hCd.1 _ (by decide)) rfl ?_
    rw [g5]
    exact zJ_iret dX8_thieves_75 rfl (by decide) (by decide) ⟨2, by decide, rfl, rfl, hex⟩
  · refine zJ_tabN (off := 55) (tgt := 76) dX8_thieves_21 (by decide) (by decide) rfl (by decide) ?_
    refine zJ_aload_n dX8_thieves_76 rfl ?_
    refine zJ_getr dX8_thieves_77 fX8_65 (by first | rfl | assumption | exact hCd.1 _ (by decide)) rfl (by first | rfl | assumption | exact hCd.2 _ _ rfl) ?_
    refine zJ_geti dX8_thieves_80 fX8_334 (by first | rfl | assumption | exact hCd.1 _ (by decide)) rfl ?_
    rw [g6]
    exact zJ_iret dX8_thieves_83 rfl (by decide) (by decide) ⟨3, by decide, rfl, rfl, hex⟩
  · refine zJ_tableOut (tgt := 84) dX8_thieves_21 (Or.inr (by decide)) (by decide) ?_
    refine zJ_aload_n dX8_thieves_84 rfl ?_
    refine zJ_getr dX8_thieves_85 fX8_65 (by first | rfl | assumption | exact hCd.1 _ (by decide)) rfl (by first | rfl | assumption | exact hCd.2 _ _ rfl) ?_
    refine zJ_aload_n dX8_thieves_88 rfl ?_
    refine zJ_getr dX8_thieves_89 fX8_32 (by first | rfl | assumption | exact hCd.1 _ (by decide)) rfl (by first | rfl | assumption | exact hCd.2 _ _ rfl) ?_
    refine zJ_geti dX8_thieves_92 fX8_117 (by first | rfl | assumption | exact hCd.1 _ (by decide)) rfl ?_
    rw [hd90]
    refine zJ_cV1 dX8_thieves_95 sX8_337 mfX4_whomToAsk (c_Theft_whomToAsk Δ d 47 (U.1 0) (zcnt (fun s => zexp thr few s n) (2 ^ U.1 0)) (fun p => zwi (fun s => zexp thr few s n) p (2 ^ U.1 0)) hTd hp8 (Nat.le_trans (zcnt_le _ _) h256) (fun p _ => Nat.le_trans (zcnt_le _ _) h256) g5 (fun p hp => by rw [show (50 : Nat) = 47 + 3 from rfl, g7]; simp [hp, show p < 8 by omega])) (by first | rfl | assumption | exact hCd.1 _ (by decide)) rfl (Nat.le_of_ble_eq_true rfl) (by decide) (by decide) ?_
    exact zJ_iret dX8_thieves_98 rfl (by decide) (by decide) ⟨4, by decide, rfl, rfl, hex⟩
/-- the chances of j pennies lost, of i -/
def zlu (ch : Nat) : Nat → Nat → Nat
  | 0, j => if j = 0 then 1000000000 else 0
  | i + 1, j => if j ≤ i + 1 then (zlu ch i j * (1000 - ch) + (if j = 0 then 0 else zlu ch i (j - 1) * ch)) / 1000 else zlu ch i j
theorem zlu_le {ch : Nat} (hc : ch ≤ 1000) : ∀ i j, zlu ch i j ≤ 1000000000
  | 0, j => by simp only [zlu]; split <;> decide
  | i + 1, j => by
    have h1 := zlu_le hc i j
    have h2 := zlu_le hc i (j - 1)
    simp only [zlu]
    split
    · have h3 : zlu ch i j * (1000 - ch) ≤ 1000000000 * (1000 - ch) := Nat.mul_le_mul_right _ h1
      have h4 : (if j = 0 then 0 else zlu ch i (j - 1) * ch) ≤ 1000000000 * ch := by
        split
        · exact Nat.zero_le _
        · exact Nat.mul_le_mul_right _ h2
      omega
    · exact h1
/-- one penny more, where those above m are done -/
def zlm (ch i m j : Nat) : Nat := if m ≤ j then zlu ch (i + 1) j else zlu ch i j
def zlsum (ch n k : Nat) (j : Nat) : Nat := fb_sm (fun i => zlu ch n (k + i)) j
theorem zlsum_le {ch n k : Nat} (hc : ch ≤ 1000) (j : Nat) : zlsum ch n k j ≤ j * 1000000000 := fb_sm_bound (fun i _ => zlu_le hc n (k + i))
theorem zlu_new {ch i j : Nat} (hj : j ≤ i + 1) (h1 : ch ≤ 1000) : (lN (zlu ch i j) * lN (1000 - ch) + lN (if j = 0 then 0 else zlu ch i (j - 1) * ch)) / 1000 = lN (zlu ch (i + 1) j) := by
  have a1 := zlu_le h1 i j
  have a2 := zlu_le h1 i (j - 1)
  have a3 : zlu ch i j * (1000 - ch) ≤ 1000000000 * 1000 := Nat.mul_le_mul a1 (by omega)
  have a4 : (if j = 0 then 0 else zlu ch i (j - 1) * ch) ≤ 1000000000 * 1000 := by
    split
    · exact Nat.zero_le _
    · exact Nat.mul_le_mul a2 h1
  rw [lN_mul, lN_add, show (1000 : Int64) = lN 1000 from rfl, lN_div (by omega) (by decide)]
  simp only [zlu, hj, if_true]
set_option maxRecDepth 100000 in
theorem c_luck (Δ : zD) (w : zW) (U : zTo) (hB : zB w U) (a b e : Int32) : zM Δ 6 10 60 true yX8_luck mX8_luck [.ref 0, .int a, .int b, .int e] w (fun r d => ∃ n k c, n ≤ 30 ∧ a = nI n ∧ k ≤ n ∧ b = nI k ∧ c ≤ 1000 ∧ e = nI c ∧ r = some (.int (lN (zlsum c n k (n + 1 - k))).toInt32) ∧ ∃ f, d = zrol w 52 f) (fun E d => E = "java/lang/IllegalArgumentException" ∧ d = w ∧ ¬ (∃ n k c, n ≤ 30 ∧ a = nI n ∧ k ≤ n ∧ b = nI k ∧ c ≤ 1000 ∧ e = nI c)) := by
  refine zM.of mfX8_luck (Nat.le_of_ble_eq_true rfl) ?_
  have hC := hB.1
  have hU := hB.2.2.1.1
  have hp0 := hB.2.1.2.1 0 (by decide) (by decide)
  have hp8 := hU.1
  have hk0 := hC.1 0 (by decide)
  refine zJ_iload_n dX8_luck_0 rfl ?_
  refine zJ_if_lt (tgt := 30) dX8_luck_1 (by decide) (fun h1_ => ?_) (fun h1_ => ?_)
  · have hno : ¬ (∃ n k c, n ≤ 30 ∧ a = nI n ∧ k ≤ n ∧ b = nI k ∧ c ≤ 1000 ∧ e = nI c) := fun ⟨n, k, c, q1, q2, q3, q4, q5, q6⟩ => by
      rw [q2] at h1_
      exact absurd ((nI_ltI (b := 0) (by omega) (by decide)).mp h1_) (by omega)
    exact zJ_throwIW (text := "pennies not as told") (j := 25) dX8_luck_30 dX8_luck_33 dX8_luck_34 dX8_luck_37 dX8_luck_40 rfl rfl (by decide +kernel) (Nat.le_of_ble_eq_true rfl) (Nat.le_of_ble_eq_true rfl) (by decide) (by decide) ⟨rfl, rfl, hno⟩
  · refine zJ_iload_n dX8_luck_4 rfl ?_
    refine zJ_bipush (v := 30) dX8_luck_5 (by decide) ?_
    refine zJ_icmp_gt (tgt := 30) dX8_luck_7 (by decide) (fun h7 => ?_) (fun h7 => ?_)
    · have hno : ¬ (∃ n k c, n ≤ 30 ∧ a = nI n ∧ k ≤ n ∧ b = nI k ∧ c ≤ 1000 ∧ e = nI c) := fun ⟨n, k, c, q1, q2, q3, q4, q5, q6⟩ => by
        rw [q2] at h7
        exact absurd ((nI_ltI (a := 30) (by decide) (by omega)).mp h7) (by omega)
      exact zJ_throwIW (text := "pennies not as told") (j := 25) dX8_luck_30 dX8_luck_33 dX8_luck_34 dX8_luck_37 dX8_luck_40 rfl rfl (by decide +kernel) (Nat.le_of_ble_eq_true rfl) (Nat.le_of_ble_eq_true rfl) (by decide) (by decide) ⟨rfl, rfl, hno⟩
    · refine zJ_iload_n dX8_luck_10 rfl ?_
      refine zJ_if_lt (tgt := 30) dX8_luck_11 (by decide) (fun h11 => ?_) (fun h11 => ?_)
      · have hno : ¬ (∃ n k c, n ≤ 30 ∧ a = nI n ∧ k ≤ n ∧ b = nI k ∧ c ≤ 1000 ∧ e = nI c) := fun ⟨n, k, c, q1, q2, q3, q4, q5, q6⟩ => by
          rw [q4] at h11
          exact absurd ((nI_ltI (b := 0) (by omega) (by decide)).mp h11) (by omega)
        exact zJ_throwIW (text := "pennies not as told") (j := 25) dX8_luck_30 dX8_luck_33 dX8_luck_34 dX8_luck_37 dX8_luck_40 rfl rfl (by decide +kernel) (Nat.le_of_ble_eq_true rfl) (Nat.le_of_ble_eq_true rfl) (by decide) (by decide) ⟨rfl, rfl, hno⟩
      · refine zJ_iload_n dX8_luck_14 rfl ?_
        refine zJ_iload_n dX8_luck_15 rfl ?_
        refine zJ_icmp_gt (tgt := 30) dX8_luck_16 (by decide) (fun h16 => ?_) (fun h16 => ?_)
        · have hno : ¬ (∃ n k c, n ≤ 30 ∧ a = nI n ∧ k ≤ n ∧ b = nI k ∧ c ≤ 1000 ∧ e = nI c) := fun ⟨n, k, c, q1, q2, q3, q4, q5, q6⟩ => by
            rw [q4, q2] at h16
            exact absurd ((nI_ltI (by omega) (by omega)).mp h16) (by omega)
          exact zJ_throwIW (text := "pennies not as told") (j := 25) dX8_luck_30 dX8_luck_33 dX8_luck_34 dX8_luck_37 dX8_luck_40 rfl rfl (by decide +kernel) (Nat.le_of_ble_eq_true rfl) (Nat.le_of_ble_eq_true rfl) (by decide) (by decide) ⟨rfl, rfl, hno⟩
        · refine zJ_iload_n dX8_luck_19 rfl ?_
          refine zJ_if_lt (tgt := 30) dX8_luck_20 (by decide) (fun h20 => ?_) (fun h20 => ?_)
          · have hno : ¬ (∃ n k c, n ≤ 30 ∧ a = nI n ∧ k ≤ n ∧ b = nI k ∧ c ≤ 1000 ∧ e = nI c) := fun ⟨n, k, c, q1, q2, q3, q4, q5, q6⟩ => by
              rw [q6] at h20
              exact absurd ((nI_ltI (b := 0) (by omega) (by decide)).mp h20) (by omega)
            exact zJ_throwIW (text := "pennies not as told") (j := 25) dX8_luck_30 dX8_luck_33 dX8_luck_34 dX8_luck_37 dX8_luck_40 rfl rfl (by decide +kernel) (Nat.le_of_ble_eq_true rfl) (Nat.le_of_ble_eq_true rfl) (by decide) (by decide) ⟨rfl, rfl, hno⟩
          · refine zJ_iload_n dX8_luck_23 rfl ?_
            refine zJ_sipush (v := 1000) dX8_luck_24 (by decide) ?_
            refine zJ_icmp_le (tgt := 41) dX8_luck_27 (by decide) (fun h27 => ?_) (fun h27 => ?_)
            · obtain ⟨n, hn31, rfl⟩ := nI_of h1_
              have hn : n ≤ 30 := (nI_leI (b := 30) (by omega) (by decide)).mp (Int32.not_lt.mp h7)
              obtain ⟨k, hk31, rfl⟩ := nI_of h11
              have hk : k ≤ n := (nI_leI (by omega) (by omega)).mp (Int32.not_lt.mp h16)
              obtain ⟨c, hc31, rfl⟩ := nI_of h20
              have hc : c ≤ 1000 := (nI_leI (b := 1000) (by omega) (by decide)).mp h27
              refine zJ_aload_n dX8_luck_41 rfl ?_
              refine zJ_getr dX8_luck_42 fX8_73 (by first | rfl | assumption | exact hC.1 _ (by decide)) rfl (by first | rfl | assumption | exact hC.2 _ _ rfl) ?_
              refine zJ_lconst (v := 0) dX8_luck_45 (by decide) ?_
              refine zJ_cS2 dX8_luck_46 sX8_342 mfJ7_fill_d0a16 (c_fill_l Δ w 52 31 0 (by decide) (hC.1 52 (by decide))) (Nat.le_of_ble_eq_true rfl) (by decide) (by decide) ?_
              refine zJ_aload_n dX8_luck_49 rfl ?_
              refine zJ_getr dX8_luck_50 fX8_73 (by first | rfl | assumption | exact hC.1 _ (by decide)) rfl (by first | rfl | assumption | exact hC.2 _ _ rfl) ?_
              refine zJ_iconst (v := 0) dX8_luck_53 (by decide) ?_
              refine zJ_ldc2 dX8_luck_54 kX8_310 ?_
              refine zJ_last dX8_luck_57 (by first | rfl | assumption | exact hC.1 _ (by decide)) (vp_in_nI (n := 0) (by decide) (by decide)) ?_
              refine zJ_iconst (v := 1) dX8_luck_58 (by decide) ?_
              refine zJ_istore (ls2 := fun x59 => [(4, .int x59), (0, .ref 0), (1, .int (nI n)), (2, .int (nI k)), (3, .int (nI c))]) dX8_luck_59 (by decide) (fun _ => rfl) (fun x59 ex59 => ?_)
              generalize hQR : (fun (r : Option Value) (d : zW) => ∃ n2 k2 c2, n2 ≤ 30 ∧ nI n = nI n2 ∧ k2 ≤ n2 ∧ nI k = nI k2 ∧ c2 ≤ 1000 ∧ nI c = nI c2 ∧ r = some (.int (lN (zlsum c2 n2 k2 (n2 + 1 - k2))).toInt32) ∧ ∃ f, d = zrol w 52 f) = QR
              generalize (fun (E : String) (d : zW) => E = "java/lang/IllegalArgumentException" ∧ d = w ∧ ¬ ∃ n2 k2 c2, n2 ≤ 30 ∧ nI n = nI n2 ∧ k2 ≤ n2 ∧ nI k = nI k2 ∧ c2 ≤ 1000 ∧ nI c = nI c2) = QX
              have hQ : ∀ f, QR (some (.int (lN (zlsum c n k (n + 1 - k))).toInt32)) (zrol w 52 f) := fun f => by rw [← hQR]; exact ⟨n, k, c, hn, rfl, hk, rfl, hc, rfl, rfl, f, rfl⟩
              have L3 : ∀ f : Nat → Int64, (∀ j, j < 31 → f j = lN (zlu c n j)) → ∀ j, j ≤ n + 1 - k → zJ Δ mX8_luck (zRm 6 10 60) true w.1 QR QX 0 0 145 [(6, .int (nI (k + j))), (4, .long (lN (zlsum c n k j))), (0, .ref 0), (1, .int (nI n)), (2, .int (nI k)), (3, .int (nI c))] [] (zrol w 52 f) := by
                intro f hf
                refine zup (fun j hj ih => ?_)
                have hsl := zlsum_le (n := n) (k := k) hc j
                refine zJ_iload dX8_luck_145 rfl ?_
                refine zJ_iload_n dX8_luck_147 rfl ?_
                refine zJ_icmp_gt (tgt := 169) dX8_luck_148 (by decide) (fun h148 => ?_) (fun h148 => ?_)
                · have hj9 : j = n + 1 - k := by have := (nI_ltI (by omega) (by omega)).mp h148; omega
                  subst hj9
                  refine zJ_lload dX8_luck_169 rfl ?_
                  refine zJ_l2i dX8_luck_171 ?_
                  exact zJ_iret dX8_luck_172 rfl (by decide) (by decide) (hQ f)
                · have hj9 : k + j ≤ n := Nat.le_of_not_lt fun h9 => h148 ((nI_ltI (by omega) (by omega)).mpr h9)
                  refine zJ_lload dX8_luck_151 rfl ?_
                  refine zJ_aload_n dX8_luck_153 rfl ?_
                  refine zJ_getr dX8_luck_154 fX8_73 (by first | rfl | assumption | exact hC.1 _ (by decide)) rfl (by first | rfl | assumption | exact hC.2 _ _ rfl) ?_
                  refine zJ_iload dX8_luck_157 rfl ?_
                  refine zJ_lald dX8_luck_159 (by first | rfl | assumption | exact hC.1 _ (by decide)) (vp_in_nI (by omega) (by decide)) ?_
                  rw [nI_clamp (show k + j < 2 ^ 31 by omega), zrol_get, hf _ (by omega)]
                  refine zJ_ladd dX8_luck_160 ?_
                  rw [lN_add, show zlsum c n k j + zlu c n (k + j) = zlsum c n k (j + 1) from rfl]
                  refine zJ_lstore (ls2 := fun x161 => [(4, .long x161), (6, .int (nI (k + j))), (0, .ref 0), (1, .int (nI n)), (2, .int (nI k)), (3, .int (nI c))]) dX8_luck_161 (by decide) (fun _ => rfl) (fun x161 ex161 => ?_)
                  obtain rfl : x161 = (lN (zlsum c n k (j + 1))) := ex161
                  refine zJ_iinc (ls2 := fun x163 => [(6, .int x163), (4, .long (lN (zlsum c n k (j + 1)))), (0, .ref 0), (1, .int (nI n)), (2, .int (nI k)), (3, .int (nI c))]) dX8_luck_163 rfl (by decide) (fun _ => rfl) (fun x163 ex163 => ?_)
                  refine zJ_goto (tgt := 145) dX8_luck_166 (by decide) ?_
                  refine zJ_ls [(6, .int x163), (4, .long (lN (zlsum c n k (j + 1)))), (0, .ref 0), (1, .int (nI n)), (2, .int (nI k)), (3, .int (nI c))] (by simp) ?_
                  rw [ex163, show nI (k + j) + Int32.ofInt 1 = nI (k + (j + 1)) from nI_1 _]
                  exact ih (j + 1) (by omega) (by omega)
              have L2 : ∀ (i : Nat), i < n → (∀ f : Nat → Int64, (∀ j, j < 31 → f j = lN (zlu c (i + 1) j)) → zJ Δ mX8_luck (zRm 6 10 60) true w.1 QR QX 0 0 61 [(4, .int (nI (i + 2))), (0, .ref 0), (1, .int (nI n)), (2, .int (nI k)), (3, .int (nI c))] [] (zrol w 52 f)) → ∀ m, m ≤ i + 2 → ∀ f : Nat → Int64, (∀ j, j < 31 → f j = lN (zlm c i m j)) → zJ Δ mX8_luck (zRm 6 10 60) true w.1 QR QX 0 0 71 [(5, .int (nI m - 1)), (4, .int (nI (i + 1))), (0, .ref 0), (1, .int (nI n)), (2, .int (nI k)), (3, .int (nI c))] [] (zrol w 52 f) := by
                intro i hi kk m
                induction m with
                | zero =>
                  intro _ f hf
                  refine zJ_iload dX8_luck_71 rfl ?_
                  refine zJ_if_lt (tgt := 133) dX8_luck_73 (by decide) (fun _ => ?_) (fun h9 => absurd (by decide : (nI 0 - 1 : Int32) < 0) h9)
                  refine zJ_iinc (ls2 := fun x133 => [(4, .int x133), (5, .int (nI 0 - 1)), (0, .ref 0), (1, .int (nI n)), (2, .int (nI k)), (3, .int (nI c))]) dX8_luck_133 rfl (by decide) (fun _ => rfl) (fun x133 ex133 => ?_)
                  refine zJ_goto (tgt := 61) dX8_luck_136 (by decide) ?_
                  refine zJ_ls [(4, .int x133), (0, .ref 0), (1, .int (nI n)), (2, .int (nI k)), (3, .int (nI c))] (by simp) ?_
                  rw [ex133, show nI (i + 1) + Int32.ofInt 1 = nI (i + 2) from nI_1 _]
                  exact kk f (fun j hj => by rw [hf j hj]; simp [zlm])
                | succ m ih =>
                  intro hm f hf
                  have em : nI (m + 1) - 1 = nI m := na_sub (b := 1) (by omega)
                  rw [em]
                  have cm : (nI m).toNatClampNeg = m := nI_clamp (by omega)
                  have fm : f m = lN (zlu c i m) := by rw [hf m (by omega)]; simp [zlm]
                  refine zJ_iload dX8_luck_71 rfl ?_
                  refine zJ_if_lt (tgt := 133) dX8_luck_73 (by decide) (fun h73 => ?_) (fun h73 => ?_)
                  · exact absurd ((nI_ltI (b := 0) (by omega) (by decide)).mp h73) (by omega)
                  · refine zJ_iload dX8_luck_76 rfl ?_
                    refine zJ_if_le (tgt := 96) dX8_luck_78 (by decide) (fun h78 => ?_) (fun h78 => ?_)
                    · have hm0 : m = 0 := Nat.le_zero.mp ((nI_leI (b := 0) (by omega) (by decide)).mp h78)
                      refine zJ_lconst (v := 0) dX8_luck_96 (by decide) ?_
                      refine zJ_lstore (ls2 := fun x97 => [(6, .long x97), (5, .int (nI m)), (4, .int (nI (i + 1))), (0, .ref 0), (1, .int (nI n)), (2, .int (nI k)), (3, .int (nI c))]) dX8_luck_97 (by decide) (fun _ => rfl) (fun x97 ex97 => ?_)
                      obtain rfl : x97 = (lN (if m = 0 then 0 else zlu c i (m - 1) * c)) := (by rw [ex97, if_pos (by omega)]; rfl)
                      refine zJ_aload_n dX8_luck_99 rfl ?_
                      refine zJ_getr dX8_luck_100 fX8_73 (by first | rfl | assumption | exact hC.1 _ (by decide)) rfl (by first | rfl | assumption | exact hC.2 _ _ rfl) ?_
                      refine zJ_iload dX8_luck_103 rfl ?_
                      refine zJ_aload_n dX8_luck_105 rfl ?_
                      refine zJ_getr dX8_luck_106 fX8_73 (by first | rfl | assumption | exact hC.1 _ (by decide)) rfl (by first | rfl | assumption | exact hC.2 _ _ rfl) ?_
                      refine zJ_iload dX8_luck_109 rfl ?_
                      refine zJ_lald dX8_luck_111 (by first | rfl | assumption | exact hC.1 _ (by decide)) (vp_in_nI (by omega) (by decide)) ?_
                      rw [cm, zrol_get, fm]
                      refine zJ_sipush (v := 1000) dX8_luck_112 (by decide) ?_
                      refine zJ_iload_n dX8_luck_115 rfl ?_
                      refine zJ_isub dX8_luck_116 ?_
                      rw [show (1000 : Int32) - nI c = nI (1000 - c) from na_sub hc]
                      refine zJ_i2l dX8_luck_117 ?_
                      rw [nI_l (show 1000 - c < 2 ^ 31 by omega)]
                      refine zJ_lmul dX8_luck_118 ?_
                      refine zJ_lload dX8_luck_119 rfl ?_
                      refine zJ_ladd dX8_luck_121 ?_
                      refine zJ_ldc2 dX8_luck_122 kX8_234 ?_
                      refine zJ_ldiv dX8_luck_125 (by decide) ?_
                      rw [zlu_new (by omega) hc]
                      refine zJ_last dX8_luck_126 (by first | rfl | assumption | exact hC.1 _ (by decide)) (vp_in_nI (by omega) (by decide)) ?_
                      rw [cm]
                      refine zJ_iinc (ls2 := fun x127 => [(5, .int x127), (6, .long (lN (if m = 0 then 0 else zlu c i (m - 1) * c))), (4, .int (nI (i + 1))), (0, .ref 0), (1, .int (nI n)), (2, .int (nI k)), (3, .int (nI c))]) dX8_luck_127 rfl (by decide) (fun _ => rfl) (fun x127 ex127 => ?_)
                      refine zJ_goto (tgt := 71) dX8_luck_130 (by decide) ?_
                      refine zJ_ls [(5, .int x127), (4, .int (nI (i + 1))), (0, .ref 0), (1, .int (nI n)), (2, .int (nI k)), (3, .int (nI c))] (by simp) ?_
                      rw [ex127, show nI m + Int32.ofInt (-1) = nI m - 1 from Int32.sub_eq_add_neg.symm]
                      refine zJ_w (w2 := zrol w 52 (fun j => if j = m then lN (zlu c (i + 1) m) else f j)) ?_ (ih (by omega) _ (fun j hj => ?_))
                      · rw [zsl_row, zrol_get, zrol_rol]
                      · by_cases hjm : j = m
                        · subst hjm; simp [zlm]
                        · simp only [hjm, if_false]
                          rw [hf j hj]
                          simp only [zlm]
                          rw [show (m + 1 ≤ j) = (m ≤ j) by simp only [eq_iff_iff]; omega]
                    · have hm0 : 0 < m := by
                        have := Int32.not_le.mp h78
                        exact (nI_ltI (a := 0) (by decide) (by omega)).mp this
                      refine zJ_aload_n dX8_luck_81 rfl ?_
                      refine zJ_getr dX8_luck_82 fX8_73 (by first | rfl | assumption | exact hC.1 _ (by decide)) rfl (by first | rfl | assumption | exact hC.2 _ _ rfl) ?_
                      refine zJ_iload dX8_luck_85 rfl ?_
                      refine zJ_iconst (v := 1) dX8_luck_87 (by decide) ?_
                      skip
                      refine zJ_isub dX8_luck_88 ?_
                      rw [show nI m - 1 = nI (m - 1) from na_sub (b := 1) (by omega)]
                      refine zJ_lald dX8_luck_89 (by first | rfl | assumption | exact hC.1 _ (by decide)) (vp_in_nI (by omega) (by decide)) ?_
                      rw [nI_clamp (show m - 1 < 2 ^ 31 by omega), zrol_get, show f (m - 1) = lN (zlu c i (m - 1)) by rw [hf _ (by omega)]; simp only [zlm]; rw [if_neg (by omega)]]
                      refine zJ_iload_n dX8_luck_90 rfl ?_
                      skip
                      refine zJ_i2l dX8_luck_91 ?_
                      rw [nI_l (show c < 2 ^ 31 by omega)]
                      refine zJ_lmul dX8_luck_92 ?_
                      refine zJ_goto (tgt := 97) dX8_luck_93 (by decide) ?_
                      refine zJ_lstore (ls2 := fun x97 => [(6, .long x97), (5, .int (nI m)), (4, .int (nI (i + 1))), (0, .ref 0), (1, .int (nI n)), (2, .int (nI k)), (3, .int (nI c))]) dX8_luck_97 (by decide) (fun _ => rfl) (fun x97 ex97 => ?_)
                      obtain rfl : x97 = (lN (if m = 0 then 0 else zlu c i (m - 1) * c)) := (by rw [ex97, if_neg (by omega), lN_mul])
                      refine zJ_aload_n dX8_luck_99 rfl ?_
                      refine zJ_getr dX8_luck_100 fX8_73 (by first | rfl | assumption | exact hC.1 _ (by decide)) rfl (by first | rfl | assumption | exact hC.2 _ _ rfl) ?_
                      refine zJ_iload dX8_luck_103 rfl ?_
                      refine zJ_aload_n dX8_luck_105 rfl ?_
                      refine zJ_getr dX8_luck_106 fX8_73 (by first | rfl | assumption | exact hC.1 _ (by decide)) rfl (by first | rfl | assumption | exact hC.2 _ _ rfl) ?_
                      refine zJ_iload dX8_luck_109 rfl ?_
                      refine zJ_lald dX8_luck_111 (by first | rfl | assumption | exact hC.1 _ (by decide)) (vp_in_nI (by omega) (by decide)) ?_
                      rw [cm, zrol_get, fm]
                      refine zJ_sipush (v := 1000) dX8_luck_112 (by decide) ?_
                      refine zJ_iload_n dX8_luck_115 rfl ?_
                      refine zJ_isub dX8_luck_116 ?_
                      rw [show (1000 : Int32) - nI c = nI (1000 - c) from na_sub hc]
                      refine zJ_i2l dX8_luck_117 ?_
                      rw [nI_l (show 1000 - c < 2 ^ 31 by omega)]
                      refine zJ_lmul dX8_luck_118 ?_
                      refine zJ_lload dX8_luck_119 rfl ?_
                      refine zJ_ladd dX8_luck_121 ?_
                      refine zJ_ldc2 dX8_luck_122 kX8_234 ?_
                      refine zJ_ldiv dX8_luck_125 (by decide) ?_
                      rw [zlu_new (by omega) hc]
                      refine zJ_last dX8_luck_126 (by first | rfl | assumption | exact hC.1 _ (by decide)) (vp_in_nI (by omega) (by decide)) ?_
                      rw [cm]
                      refine zJ_iinc (ls2 := fun x127 => [(5, .int x127), (6, .long (lN (if m = 0 then 0 else zlu c i (m - 1) * c))), (4, .int (nI (i + 1))), (0, .ref 0), (1, .int (nI n)), (2, .int (nI k)), (3, .int (nI c))]) dX8_luck_127 rfl (by decide) (fun _ => rfl) (fun x127 ex127 => ?_)
                      refine zJ_goto (tgt := 71) dX8_luck_130 (by decide) ?_
                      refine zJ_ls [(5, .int x127), (4, .int (nI (i + 1))), (0, .ref 0), (1, .int (nI n)), (2, .int (nI k)), (3, .int (nI c))] (by simp) ?_
                      rw [ex127, show nI m + Int32.ofInt (-1) = nI m - 1 from Int32.sub_eq_add_neg.symm]
                      refine zJ_w (w2 := zrol w 52 (fun j => if j = m then lN (zlu c (i + 1) m) else f j)) ?_ (ih (by omega) _ (fun j hj => ?_))
                      · rw [zsl_row, zrol_get, zrol_rol]
                      · by_cases hjm : j = m
                        · subst hjm; simp [zlm]
                        · simp only [hjm, if_false]
                          rw [hf j hj]
                          simp only [zlm]
                          rw [show (m + 1 ≤ j) = (m ≤ j) by simp only [eq_iff_iff]; omega]
              have L1 : ∀ i, i ≤ n → ∀ f : Nat → Int64, (∀ j, j < 31 → f j = lN (zlu c i j)) → zJ Δ mX8_luck (zRm 6 10 60) true w.1 QR QX 0 0 61 [(4, .int (nI (i + 1))), (0, .ref 0), (1, .int (nI n)), (2, .int (nI k)), (3, .int (nI c))] [] (zrol w 52 f) := by
                refine zup (fun i hi ih => ?_)
                intro f hf
                refine zJ_iload dX8_luck_61 rfl ?_
                refine zJ_iload_n dX8_luck_63 rfl ?_
                refine zJ_icmp_gt (tgt := 139) dX8_luck_64 (by decide) (fun h64 => ?_) (fun h64 => ?_)
                · have hi9 : i = n := by
                    have := (nI_ltI (b := i + 1) (by omega) (by omega)).mp h64
                    omega
                  subst hi9
                  refine zJ_lconst (v := 0) dX8_luck_139 (by decide) ?_
                  refine zJ_lstore (ls2 := fun x140 => [(4, .long x140), (0, .ref 0), (1, .int (nI n)), (2, .int (nI k)), (3, .int (nI c))]) dX8_luck_140 (by decide) (fun _ => rfl) (fun x140 ex140 => ?_)
                  refine zJ_iload_n dX8_luck_142 rfl ?_
                  refine zJ_istore (ls2 := fun x143 => [(6, .int x143), (4, .long x140), (0, .ref 0), (1, .int (nI n)), (2, .int (nI k)), (3, .int (nI c))]) dX8_luck_143 (by decide) (fun _ => rfl) (fun x143 ex143 => ?_)
                  refine zJ_ls [(6, .int x143), (4, .long x140), (0, .ref 0), (1, .int (nI i)), (2, .int (nI k)), (3, .int (nI c))] (by simp) ?_
                  rw [ex143, ex140]
                  exact L3 f hf 0 (Nat.zero_le _)
                · have hi9 : i < n := by
                    have := (nI_leI (a := i + 1) (by omega) (by omega)).mp (Int32.not_lt.mp h64)
                    omega
                  refine zJ_iload dX8_luck_67 rfl ?_
                  refine zJ_istore (ls2 := fun x69 => [(5, .int x69), (4, .int (nI (i + 1))), (0, .ref 0), (1, .int (nI n)), (2, .int (nI k)), (3, .int (nI c))]) dX8_luck_69 (by decide) (fun _ => rfl) (fun x69 ex69 => ?_)
                  refine zJ_ls [(5, .int x69), (4, .int (nI (i + 1))), (0, .ref 0), (1, .int (nI n)), (2, .int (nI k)), (3, .int (nI c))] (by simp) ?_
                  rw [ex69]
                  refine zJ_w rfl ?_
                  have := L2 i hi9 (ih (i + 1) (by omega) (by omega)) (i + 2) (Nat.le_refl _) f (fun j hj => by
                    rw [hf j hj]; simp only [zlm]
                    split
                    · have : ¬ j ≤ i + 1 := by omega
                      simp only [zlu, this, if_false]
                    · rfl)
                  rw [show nI (i + 2) - 1 = nI (i + 1) from na_sub (b := 1) (by omega)] at this
                  exact this
              refine zJ_ls [(4, .int x59), (0, .ref 0), (1, .int (nI n)), (2, .int (nI k)), (3, .int (nI c))] (by simp) ?_
              rw [ex59]
              refine zJ_w (w2 := zrol w 52 (fun j => if j = 0 then lN 1000000000 else if j < 31 then 0 else w.2.2.1 52 j)) ?_ (L1 0 (Nat.zero_le _) _ (fun j hj => ?_))
              · rw [zsl_row, zrol_get, zrol_rol]
                refine congrArg (zrol w 52) (funext fun j => ?_)
                by_cases h0 : j = 0
                · subst h0; simp; rfl
                · simp [h0]
              · by_cases h0 : j = 0
                · subst h0; simp [zlu]
                · simp [h0, hj, zlu]; rfl
            · have hno : ¬ (∃ n k c, n ≤ 30 ∧ a = nI n ∧ k ≤ n ∧ b = nI k ∧ c ≤ 1000 ∧ e = nI c) := fun ⟨n, k, c, q1, q2, q3, q4, q5, q6⟩ => by
                rw [q6] at h27
                exact h27 ((nI_leI (b := 1000) (by omega) (by decide)).mpr q5)
              exact zJ_throwIW (text := "pennies not as told") (j := 25) dX8_luck_30 dX8_luck_33 dX8_luck_34 dX8_luck_37 dX8_luck_40 rfl rfl (by decide +kernel) (Nat.le_of_ble_eq_true rfl) (Nat.le_of_ble_eq_true rfl) (by decide) (by decide) ⟨rfl, rfl, hno⟩
/-- weeks: the seed, till when each is out, who opened it and at which hand -/
abbrev zRs : Type := Int32 × (Nat → Nat) × (Nat → Option (Nat × Nat))
def zr1 (T : zTo) (wo n : Nat) (S : zRs) : zRs := ((zwn T S.2.1 n S.1).2, fun p => (match (zwn T S.2.1 n S.1).1 with | none => S.2.1 p | some k => if k.2.1 < T.1 7 ∧ p = k.1 then n + wo + 1 else S.2.1 p), fun i => if i = n then (zwn T S.2.1 n S.1).1.map (fun k => (k.1, k.2.1)) else S.2.2 i)
def zrn (T : zTo) (wo n : Nat) (S : zRs) : Nat → zRs
  | 0 => S
  | m + 1 => zr1 T wo (n + m) (zrn T wo n S m)
def zeb (e : Option (Nat × Nat)) : Int32 := match e with | none => -1 | some q => nI q.1
def zeh (e : Option (Nat × Nat)) : Nat := match e with | none => 0 | some q => q.2
/-- the Weeks at i stand so -/
def zWr (w : zW) (i wo n : Nat) (S : zRs) : Prop := w.2.1 i 0 = 1 ∧ w.2.1 i 1 = S.1 ∧ w.2.1 i 2 = nI wo ∧ wo ≤ 20 ∧ w.2.1 i 3 = nI n ∧ n ≤ 100 ∧ (∀ j, j < n → w.2.1 (i + 1) j = zeb (S.2.2 j) ∧ w.2.1 (i + 2) j = nI (zeh (S.2.2 j)) ∧ zeh (S.2.2 j) ≤ 12) ∧ ∀ p, p < 8 → w.2.1 (i + 3) p = nI (S.2.1 p) - 1 ∧ S.2.1 p ≤ 200
def zFw (w c : zW) (i : Nat) : Prop := c.1 = w.1 ∧ c.2.2 = w.2.2 ∧ ∀ a j, (a < i ∨ i + 3 < a) → c.2.1 a j = w.2.1 a j
theorem zgo_may {T : zTo} {k : zKy} {out : Nat → Bool} {s : Int32} {y : Nat} (h : (zgo T k out s).1 = some y) : y < 8 ∧ zmay T k y = true := by
  have hp : ∀ s, (zgp T k out s).1 = some y → y < 8 ∧ zmay T k y = true := by
    intro s h
    simp only [zgp] at h
    split at h
    · cases h
    · have h1 := zpk_some h
      refine ⟨h1.1, ?_⟩
      have h2 := h1.2
      simp only [zgU] at h2
      split at h2
      · rename_i h3
        exact (Bool.and_eq_true _ _ ▸ h3 : zmay T k y = true ∧ _).1
      · omega
  have ht : ∀ s, (zgt T k out s).1 = some y → y < 8 ∧ zmay T k y = true := by
    intro s h
    simp only [zgt] at h
    split at h
    · cases hc : zcC T k with
      | none => rw [hc] at h; cases h
      | some q =>
        rw [hc] at h
        simp only at h
        split at h
        · cases h
        · cases h; exact zcC_may hc
    · exact hp s h
  simp only [zgo] at h
  split at h
  · cases h
  · split at h
    · split at h
      · cases h
      · exact ht _ h
    · split at h
      · cases h
      · exact ht _ h
theorem zwk_ok {T : zTo} {out : Nat → Bool} : ∀ n k s, zkok T k → zkok T (zwk T out n k s).1
  | 0, k, s, h => h
  | n + 1, k, s, h => by
    simp only [zwk]
    cases hg : (zgo T k out s).1 with
    | none => exact h
    | some y => exact zwk_ok n _ _ (h.bk (zgo_may hg).1 (zgo_may hg).2)
theorem zwn_ok {T : zTo} (hT : zTok T) {ot : Nat → Nat} {n : Nat} {s : Int32} {k : zKy} (h : (zwn T ot n s).1 = some k) : zkok T k := by
  simp only [zwn] at h
  split at h
  · cases h
  · cases h; exact zwk_ok _ _ _ (zkok.fk hT)
theorem zM.of2 {Δ : zD} {h mc ms n : Nat} {fx : Bool} {y : MethodName} {M : zMI} {as : List Value} {w : zW} {P : Option Value → zW → Prop} {X : String → zW → Prop} (hf : zMf y M n) (hlen : (lg_sl as).length ≤ M.2.2.1)
    (body : ∀ QR QX, (∀ r w', P r w' → QR r w') → (∀ E w', X E w' → QX E w') → zJ Δ M (zRm h mc ms) fx w.1 QR QX 0 0 0 (lv_args 0 as) [] w) : zM Δ h mc ms fx y M as w P X := zM.of hf hlen (body P X (fun _ _ h => h) (fun _ _ h => h))
theorem zWr.step {w c : zW} {i wo n : Nat} {S : zRs} {T : zTo} (hT : zTok T) (h : zWr w i wo n S) (hn : n < 100) (hk : ∀ k, (zwn T S.2.1 n S.1).1 = some k → k.2.1 ≤ 12) (hw : zWn w c i n wo T (zwn T S.2.1 n (w.2.1 i 1))) : zWr c i wo (n + 1) (zr1 T wo n S) := by
  obtain ⟨h0, h1, h2, hwo, h3, hn1, he, ho⟩ := h
  rw [h1] at hw
  obtain ⟨-, -, -, g0, g1, g2, g3⟩ := hw
  refine ⟨by rw [g0]; simp [h0], by rw [g0]; simp [zr1], by rw [g0]; simp [h2], hwo, by rw [g0]; simp, by omega, fun j hj => ?_, fun p hp => ?_⟩
  · rw [g1, g2]
    simp only [zr1]
    by_cases hjn : j = n
    · subst hjn
      simp only [if_true]
      cases hz : (zwn T S.2.1 j S.1).1 with
      | none => simp [zeb, zeh]; rfl
      | some k => simpa [zeb, zeh] using hk k hz
    · simp only [hjn, if_false]
      exact he j (by omega)
  · rw [g3]
    simp only [zr1]
    cases hz : (zwn T S.2.1 n S.1).1 with
    | none => exact ho p hp
    | some k =>
      simp only
      by_cases hc : k.2.1 < T.1 7 ∧ p = k.1
      · rw [if_pos hc, if_pos hc]
        exact ⟨(na_sub (b := 1) (by omega)).symm, by omega⟩
      · rw [if_neg hc, if_neg hc]
        exact ho p hp
theorem zWr.fb {w c : zW} {wo n : Nat} {S : zRs} (h : zWr w 53 wo n S) (hf : zFb w c) : zWr c 53 wo n S := by
  have e : ∀ a j, 53 ≤ a → a ≤ 56 → c.2.1 a j = w.2.1 a j := fun a j x y => (hf.2.1 a j (by omega)).1
  obtain ⟨h0, h1, h2, h3, h4, h5, h6, h7⟩ := h
  exact ⟨(e _ _ (by decide) (by decide)).trans h0, (e _ _ (by decide) (by decide)).trans h1, (e _ _ (by decide) (by decide)).trans h2, h3, (e _ _ (by decide) (by decide)).trans h4, h5, fun j hj => ⟨(e _ _ (by decide) (by decide)).trans (h6 j hj).1, (e _ _ (by decide) (by decide)).trans (h6 j hj).2.1, (h6 j hj).2.2⟩, fun p hp => ⟨(e _ _ (by decide) (by decide)).trans (h7 p hp).1, (h7 p hp).2⟩⟩
theorem zFw.tr {w c d : zW} {i : Nat} (h1 : zFw w c i) (h2 : zFw c d i) : zFw w d i := ⟨h2.1.trans h1.1, h2.2.1.trans h1.2.1, fun a j h => (h2.2.2 a j h).trans (h1.2.2 a j h)⟩
/-- what lies outside keeps zB -/
theorem zB.out {w c : zW} {U : zTo} (h : zB w U) (hs : c.1 = w.1) (hr : c.2.2.2 = w.2.2.2) (hi : ∀ a j, ((9 ≤ a ∧ a ≤ 13) ∨ (19 ≤ a ∧ a ≤ 37) ∨ (61 ≤ a ∧ a ≤ 79)) → c.2.1 a j = w.2.1 a j ∧ c.2.2.1 a j = w.2.2.1 a j) : zB c U := by
  obtain ⟨h1, h2, h3, h4⟩ := h
  refine ⟨by unfold zCs at *; rw [hs, hr]; exact h1, ?_, h3, ?_⟩
  · exact h2.eq (h2.1.ff hs hr) (fun a j ha => (hi _ _ (by omega)).1)
  · exact h4.out (fun a _ => by rw [hs]) (fun a j _ => by rw [hr]) (fun a j ha => hi a j (by omega)) hs hr
theorem zFw.b {w c : zW} {i : Nat} {U : zTo} (h : zFw w c i) (hb : zB w U) (hi : 37 < i ∧ i + 3 < 61) : zB c U := hb.out h.1 (congrArg Prod.snd h.2.1) (fun a j ha => ⟨h.2.2 a j (by omega), by rw [h.2.1]⟩)
set_option maxRecDepth 100000 in
theorem c_on (Δ : zD) (w : zW) (U : zTo) (hB : zB w U) (x : Int32) (bg : Prop) (wo n : Nat) (S : zRs) (hbg : (bg ∧ zWr w 53 wo n S) ∨ (¬ bg ∧ w.2.1 53 0 = 0)) (mc ms : Nat) (hm : zRo w ((∃ m, m ≤ 60 ∧ x = nI m ∧ bg ∧ n + m ≤ 100) ∧ ¬ zfit U 640) mc ms) : zM Δ 8 mc ms false yX8_on mX8_on [.ref 0, .int x] w (fun r d => ∃ m, m ≤ 60 ∧ x = nI m ∧ ((¬ (bg ∧ n + m ≤ 100) ∧ r = some (.int (-1)) ∧ d = w) ∨ (bg ∧ n + m ≤ 100 ∧ zfit U 20000 ∧ r = some (.int (nI (n + m))) ∧ ∃ e, zFb w e ∧ zB e U ∧ zLf w e U ∧ zFw e d 53 ∧ zWr d 53 wo (n + m) (zrn U wo n S m)))) (fun E d => (E = "java/lang/IllegalArgumentException" ∧ d = w ∧ ¬ (∃ m, m ≤ 60 ∧ x = nI m)) ∨ (∃ m, m ≤ 60 ∧ x = nI m ∧ bg ∧ n + m ≤ 100 ∧ zSp w U U E d)) := by
  refine zM.of2 mfX8_on (Nat.le_of_ble_eq_true rfl) (fun QR QX hQ hX0 => ?_)
  obtain ⟨⟨hm1, hm2⟩, hm3⟩ := hm
  have hC := hB.1
  have hU := hB.2.2.1.1
  have hcU := hB.2.2.1.2.1
  have h13 := hB.2.2.1.2.2
  have hp0 := hB.2.1.2.1 0 (by decide) (by decide)
  have hp8 := hU.1
  have hk0 := hC.1 0 (by decide)
  refine zJ_iload_n dX8_on_0 rfl ?_
  refine zJ_if_lt (tgt := 10) dX8_on_1 (by decide) (fun h1_ => ?_) (fun h1_ => ?_)
  · have hno : ¬ (∃ m, m ≤ 60 ∧ x = nI m) := fun ⟨h, h1, h2⟩ => by
      rw [h2] at h1_
      exact absurd ((nI_ltI (b := 0) (by omega) (by decide)).mp h1_) (by omega)
    exact zJ_throwIW (text := "weeks not as told") (j := 27) dX8_on_10 dX8_on_13 dX8_on_14 dX8_on_17 dX8_on_20 rfl rfl (by decide +kernel) (Nat.le_of_ble_eq_true rfl) (Nat.le_of_ble_eq_true rfl) (by show _ ≤ mc; omega) (by show _ ≤ ms; omega) (hX0 _ _ (Or.inl ⟨rfl, rfl, hno⟩))
  · refine zJ_iload_n dX8_on_4 rfl ?_
    refine zJ_bipush (v := 60) dX8_on_5 (by decide) ?_
    refine zJ_icmp_le (tgt := 21) dX8_on_7 (by decide) (fun h7 => ?_) (fun h7 => ?_)
    · obtain ⟨m, hm31, rfl⟩ := nI_of h1_
      have hm60 : m ≤ 60 := (nI_leI (b := 60) (by omega) (by decide)).mp h7
      refine zJ_aload_n dX8_on_21 rfl ?_
      refine zJ_getr dX8_on_22 fX8_79 (by first | rfl | assumption | exact hC.1 _ (by decide)) rfl (by first | rfl | assumption | exact hC.2 _ _ rfl) ?_
      refine zJ_geti dX8_on_25 fX8_354 (by first | rfl | assumption | exact hC.1 _ (by decide)) rfl ?_
      refine zJ_if_eq (tgt := 45) dX8_on_28 (by decide) (fun h28 => ?_) (fun h28 => ?_)
      · have hno : ¬ (bg ∧ n + m ≤ 100) := fun h => by
          rcases hbg with ⟨_, h9⟩ | ⟨h9, _⟩
          · rw [h9.1] at h28; exact absurd h28 (by decide)
          · exact h9 h.1
        refine zJ_iconst (v := -1) dX8_on_45 (by decide) ?_
        exact zJ_iret dX8_on_46 rfl (by show _ ≤ mc; omega) (by show _ ≤ ms; omega) (hQ _ _ ⟨m, hm60, rfl, Or.inl ⟨hno, rfl, rfl⟩⟩)
      · have hbg1 : bg ∧ zWr w 53 wo n S := hbg.resolve_right (fun h => h28 h.2)
        obtain ⟨hbg1, hWw⟩ := hbg1
        have hn100 := hWw.2.2.2.2.2.1
        refine zJ_aload_n dX8_on_31 rfl ?_
        refine zJ_getr dX8_on_32 fX8_79 (by first | rfl | assumption | exact hC.1 _ (by decide)) rfl (by first | rfl | assumption | exact hC.2 _ _ rfl) ?_
        refine zJ_geti dX8_on_35 fX8_358 (by first | rfl | assumption | exact hC.1 _ (by decide)) rfl ?_
        rw [hWw.2.2.2.2.1]
        refine zJ_iload_n dX8_on_38 rfl ?_
        refine zJ_iadd dX8_on_39 ?_
        rw [na_add]
        refine zJ_bipush (v := 100) dX8_on_40 (by decide) ?_
        refine zJ_icmp_le (tgt := 47) dX8_on_42 (by decide) (fun h42 => ?_) (fun h42 => ?_)
        · have hnm : n + m ≤ 100 := (nI_leI (b := 100) (by omega) (by decide)).mp h42
          refine zJ_aload_n dX8_on_47 rfl ?_
          refine zJ_getr dX8_on_48 fX8_36 (by first | rfl | assumption | exact hC.1 _ (by decide)) rfl (by first | rfl | assumption | exact hC.2 _ _ rfl) ?_
          refine zJ_aload_n dX8_on_51 rfl ?_
          refine zJ_getr dX8_on_52 fX8_32 (by first | rfl | assumption | exact hC.1 _ (by decide)) rfl (by first | rfl | assumption | exact hC.2 _ _ rfl) ?_
          refine zJ_cV1 dX8_on_55 sX8_110 mfX5_copy (c_Town_copy Δ w 14 9 (zTn14 hC) hB.2.1.1 (by decide)) (hC.1 14 (by decide)) rfl (Nat.le_of_ble_eq_true rfl) ⟨Nat.le_of_ble_eq_true rfl, Nat.le_of_ble_eq_true rfl⟩ ⟨by show _ ≤ mc; omega, by show _ ≤ ms; omega⟩ ?_
          refine zJ_aload_n dX8_on_58 rfl ?_
          have hAs := (zAs.copy hB)
          have hk1 : (ztowc w 14 9).1 0 = some (.inl 8) := hAs.2.2.1.1.1 0 (by decide)
          refine zJ_yV0 dX8_on_59 sX8_178 pX8_178 mfX8_playAsked (c_playAsked Δ (ztowc w 14 9) U U hAs.2.2.1.1 hAs.2.2.1.2.2.2 hAs.2.2.2 hU hcU (zsame.rf U) (mc - 10) (ms - 60) (by omega) (fun h1 h2 => by have := hm3 ⟨⟨m, hm60, rfl, hbg1, hnm⟩, h1⟩ (by rw [← hAs.2.1]; exact h2); omega)) rfl hk1 rfl ⟨rfl, by simp [zokv, zpush], by simp [lv_args, Value.category, zokv, hk1]⟩ (Nat.le_of_ble_eq_true rfl) ⟨Nat.le_of_ble_eq_true rfl, Nat.le_of_ble_eq_true rfl⟩ ⟨by show _ ≤ mc; omega, by show _ ≤ ms; omega⟩ (fun r d hP9 => ?_) (fun E d hX => hX0 _ _ (Or.inr ⟨m, hm60, rfl, hbg1, hnm, hX.sp hAs⟩))
          obtain ⟨hFa, hfit, b, R, m9, K, rfl, hO, hx, hR, hl1, hl2⟩ := hP9
          refine zJ_astore_n (ls2 := fun q9 => [(2, .ref q9), (0, .ref 0), (1, .int (nI m))]) dX8_on_62 (by decide) (fun _ => rfl) (fun q9 eq9 => ?_)
          obtain rfl := eq9.symm
          refine zJ_aload_n dX8_on_63 rfl ?_
          refine zJ_eV0 dX8_on_64 sX8_247 mfX1_choose (o_choose Δ d b R m9 U U K hO) hO.1.1.1 rfl (Nat.le_of_ble_eq_true rfl) ⟨Nat.le_of_ble_eq_true rfl, Nat.le_of_ble_eq_true rfl⟩ ⟨by show _ ≤ mc; omega, by show _ ≤ ms; omega⟩ (fun r e hP9 => ?_)
          obtain ⟨rfl, hf, hO2, hcs⟩ := hP9
          refine zJ_iconst (v := 0) dX8_on_67 (by decide) ?_
          refine zJ_istore_n (ls2 := fun x68 => [(3, .int x68), (2, .ref b), (0, .ref 0), (1, .int (nI m))]) dX8_on_68 (by decide) (fun _ => rfl) (fun x68 ex68 => ?_)
          obtain ⟨g1, g2⟩ := zfin hAs hFa hf hO2 hx hR
          have hk12 : ∀ (ot : Nat → Nat) (n2 : Nat) (s2 : Int32) (k : zKy), (zwn U ot n2 s2).1 = some k → k.2.1 ≤ 12 := fun ot n2 s2 k hk => by
            have h7 := hU.2.2.2.1.2
            have := (zwn_ok hU hk).2.1.2
            omega
          have L : ∀ (kk nn : Nat), kk ≤ mc → nn ≤ ms → ∀ j, j ≤ m → ∀ c9, zFw e c9 53 → zWr c9 53 wo (n + j) (zrn U wo n S j) → zJ Δ mX8_on (zRm 8 mc ms) false w.1 QR QX kk nn 69 [(3, .int (nI j)), (2, .ref b), (0, .ref 0), (1, .int (nI m))] [] c9 := by
            intro kk nn hkk hnn
            refine zup (fun j hj ih => ?_)
            intro c9 hf9 hw9
            have hCe : zCs c9 := g2.1.fk hf9.1 hf9.2.1
            have hb53 : b + 18 < 53 ∨ 56 < b := by rcases hR with ⟨rfl, -⟩ | ⟨rfl, -⟩ <;> decide
            have hG9 : zGr c9 b R m9 U K := hO2.1.eq hf9.1 (congrArg Prod.snd hf9.2.1) (fun a j2 x y => hf9.2.2 a j2 (by omega)) (fun a j2 x y => by rw [hf9.2.1])
            have hcs9 : zChs c9 b U K := hcs.out (fun j2 => hf9.2.2 _ j2 (by omega))
            refine zJ_iload_n dX8_on_69 rfl ?_
            refine zJ_iload_n dX8_on_70 rfl ?_
            refine zJ_icmp_ge (tgt := 88) dX8_on_71 (by decide) (fun h71 => ?_) (fun h71 => ?_)
            · have hj9 : j = m := by exact Nat.le_antisymm hj ((nI_leI (a := m) (b := j) (by omega) (by omega)).mp h71)
              subst hj9
              refine zJ_aload_n dX8_on_88 rfl ?_
              refine zJ_getr dX8_on_89 fX8_79 (by first | rfl | assumption | exact hCe.1 _ (by decide)) rfl (by first | rfl | assumption | exact hCe.2 _ _ rfl) ?_
              refine zJ_geti dX8_on_92 fX8_358 (by first | rfl | assumption | exact hCe.1 _ (by decide)) rfl ?_
              rw [hw9.2.2.2.2.1]
              exact zJ_iret dX8_on_95 rfl (by show _ ≤ mc; omega) (by show _ ≤ ms; omega) (hQ _ _ ⟨j, hm60, rfl, Or.inr ⟨hbg1, hnm, hfit, rfl, e, g1, g2, zlf hAs hl1 hl2 hf, hf9, hw9⟩⟩)
            · have hj9 : j < m := Nat.lt_of_not_le fun hq9 => h71 (by exact (nI_leI (a := m) (b := j) (by omega) (by omega)).mpr hq9)
              refine zJ_aload_n dX8_on_74 rfl ?_
              refine zJ_getr dX8_on_75 fX8_79 (by first | rfl | assumption | exact hCe.1 _ (by decide)) rfl (by first | rfl | assumption | exact hCe.2 _ _ rfl) ?_
              refine zJ_aload_n dX8_on_78 rfl ?_
              refine zJ_eV1 dX8_on_79 sX8_359 mfX7_runOne (c_Weeks_runOne Δ c9 b R m9 U K hG9 hcs9 53 (⟨hCe.1 _ (by decide), hCe.2 _ _ rfl, hCe.2 _ _ rfl, hCe.2 _ _ rfl, hCe.1 _ (by decide), hCe.1 _ (by decide), hCe.1 _ (by decide)⟩ : zWk c9 53) (by rcases hR with ⟨rfl, -⟩ | ⟨rfl, -⟩ <;> decide) (n + j) wo (zrn U wo n S j).2.1 (by omega) hw9.2.2.2.1 hw9.2.2.2.2.1 hw9.2.2.1 hw9.2.2.2.2.2.2.2) (hCe.1 53 (by decide)) rfl (Nat.le_of_ble_eq_true rfl) ⟨Nat.le_of_ble_eq_true rfl, Nat.le_of_ble_eq_true rfl⟩ ⟨by show _ ≤ mc; omega, by show _ ≤ ms; omega⟩ (fun r c10 hP9 => ?_)
              obtain ⟨rfl, hwn⟩ := hP9
              refine zJ_iinc (ls2 := fun x82 => [(3, .int x82), (2, .ref b), (0, .ref 0), (1, .int (nI m))]) dX8_on_82 rfl (by decide) (fun _ => rfl) (fun x82 ex82 => ?_)
              refine zJ_goto (tgt := 69) dX8_on_85 (by decide) ?_
              refine zJ_ls [(3, .int x82), (2, .ref b), (0, .ref 0), (1, .int (nI m))] (by simp) ?_
              rw [ex82, show nI j + Int32.ofInt 1 = nI (j + 1) from nI_1 _]
              refine ih (j + 1) (by omega) (by omega) c10 (hf9.tr ⟨hwn.1, hwn.2.1, hwn.2.2.1⟩) ?_
              exact hw9.step hU (by omega) (fun k hk => hk12 _ _ _ _ hk) hwn
          rw [ex68]
          exact L _ _ (by omega) (by omega) 0 (Nat.zero_le _) e ⟨rfl, rfl, fun _ _ _ => rfl⟩ (hWw.fb g1)
        · have hno : ¬ (bg ∧ n + m ≤ 100) := fun h => h42 ((nI_leI (b := 100) (by omega) (by decide)).mpr h.2)
          refine zJ_iconst (v := -1) dX8_on_45 (by decide) ?_
          exact zJ_iret dX8_on_46 rfl (by show _ ≤ mc; omega) (by show _ ≤ ms; omega) (hQ _ _ ⟨m, hm60, rfl, Or.inl ⟨hno, rfl, rfl⟩⟩)
    · have hno : ¬ (∃ m, m ≤ 60 ∧ x = nI m) := fun ⟨h, h1, h2⟩ => by
        rw [h2] at h7
        exact h7 ((nI_leI (b := 60) (by omega) (by decide)).mpr h1)
      exact zJ_throwIW (text := "weeks not as told") (j := 27) dX8_on_10 dX8_on_13 dX8_on_14 dX8_on_17 dX8_on_20 rfl rfl (by decide +kernel) (Nat.le_of_ble_eq_true rfl) (Nat.le_of_ble_eq_true rfl) (by show _ ≤ mc; omega) (by show _ ≤ ms; omega) (hX0 _ _ (Or.inl ⟨rfl, rfl, hno⟩))
