theorem na_dec (x : Int32) : x + Int32.ofInt (-1) = x - 1 := by rw [Int32.sub_eq_add_neg]; rfl
/-- the chances of j pennies lost, of i -/
def zlu (ch : Nat) : Nat → Nat → Nat
  | 0, j => if j = 0 then 1000000000 else 0
  | i + 1, j => if j ≤ i + 1 then (zlu ch i j * (1000 - ch) + (if j = 0 then 0 else zlu ch i (j - 1) * ch)) / 1000 else zlu ch i j
theorem zlu_le {ch : Nat} (hc : ch ≤ 1000) : ∀ i j, zlu ch i j ≤ 1000000000
  | 0, j => by simp only [zlu]; split <;> decide
  | i + 1, j => by
    have h1 := zlu_le hc i j
    have h2 := zlu_le hc i (j - 1)
    simp only [zlu]
    split
    · have h3 : zlu ch i j * (1000 - ch) ≤ 1000000000 * (1000 - ch) := Nat.mul_le_mul_right _ h1
      have h4 : (if j = 0 then 0 else zlu ch i (j - 1) * ch) ≤ 1000000000 * ch := by
        split
        · exact Nat.zero_le _
        · exact Nat.mul_le_mul_right _ h2
      omega
    · exact h1
/-- one penny more, where those above m are done -/
def zlm (ch i m j : Nat) : Nat := if m ≤ j then zlu ch (i + 1) j else zlu ch i j
def zlsum (ch n k : Nat) (j : Nat) : Nat := fb_sm (fun i => zlu ch n (k + i)) j
theorem zlsum_le {ch n k : Nat} (hc : ch ≤ 1000) (j : Nat) : zlsum ch n k j ≤ j * 1000000000 := fb_sm_bound (fun i _ => zlu_le hc n (k + i))
theorem zlu_new {ch i j : Nat} (hj : j ≤ i + 1) (h1 : ch ≤ 1000) : (lN (zlu ch i j) * lN (1000 - ch) + lN (if j = 0 then 0 else zlu ch i (j - 1) * ch)) / 1000 = lN (zlu ch (i + 1) j) := by
  have a1 := zlu_le h1 i j
  have a2 := zlu_le h1 i (j - 1)
  have a3 : zlu ch i j * (1000 - ch) ≤ 1000000000 * 1000 := Nat.mul_le_mul a1 (by omega)
  have a4 : (if j = 0 then 0 else zlu ch i (j - 1) * ch) ≤ 1000000000 * 1000 := by
    split
    · exact Nat.zero_le _
    · exact Nat.mul_le_mul a2 h1
  rw [lN_mul, lN_add, show (1000 : Int64) = lN 1000 from rfl, lN_div (by omega) (by decide)]
  simp only [zlu, hj, if_true]
set_option maxRecDepth 100000 in
theorem c_luck (Δ : zD) (w : zW) (U : zTo) (hB : zB w U) (a b e : Int32) : zM Δ 6 10 60 true yX8_luck mX8_luck [.ref 0, .int a, .int b, .int e] w (fun r d => ∃ n k c, n ≤ 30 ∧ a = nI n ∧ k ≤ n ∧ b = nI k ∧ c ≤ 1000 ∧ e = nI c ∧ r = some (.int (lN (zlsum c n k (n + 1 - k))).toInt32) ∧ ∃ f, d = zrol w 52 f) (fun E d => E = "java/lang/IllegalArgumentException" ∧ d = w ∧ ¬ (∃ n k c, n ≤ 30 ∧ a = nI n ∧ k ≤ n ∧ b = nI k ∧ c ≤ 1000 ∧ e = nI c)) := by
  refine zM.of mfX8_luck (Nat.le_of_ble_eq_true rfl) ?_
  have hC := hB.1
  have hU := hB.2.2.1.1
  have hp0 := hB.2.1.2.1 0 (by decide) (by decide)
  have hp8 := hU.1
  have hk0 := hC.1 0 (by decide)
  refine zJ_iload_n dX8_luck_0 rfl ?_
  refine zJ_if_lt (tgt := 30) dX8_luck_1 (by decide) (fun h1_ => ?_) (fun h1_ => ?_)
  · have hno : ¬ (∃ n k c, n ≤ 30 ∧ a = nI n ∧ k ≤ n ∧ b = nI k ∧ c ≤ 1000 ∧ e = nI c) := fun ⟨n, k, c, q1, q2, q3, q4, q5, q6⟩ => by
      rw [q2] at h1_
      exact absurd ((nI_ltI (b := 0) (by omega) (by decide)).mp h1_) (by omega)
    exact zJ_throwIW (text := "pennies not as told") (j := 25) dX8_luck_30 dX8_luck_33 dX8_luck_34 dX8_luck_37 dX8_luck_40 rfl rfl (by decide +kernel) (Nat.le_of_ble_eq_true rfl) (Nat.le_of_ble_eq_true rfl) (by decide) (by decide) ⟨rfl, rfl, hno⟩
  · refine zJ_iload_n dX8_luck_4 rfl ?_
    refine zJ_bipush (v := 30) dX8_luck_5 (by decide) ?_
    refine zJ_icmp_gt (tgt := 30) dX8_luck_7 (by decide) (fun h7 => ?_) (fun h7 => ?_)
    · have hno : ¬ (∃ n k c, n ≤ 30 ∧ a = nI n ∧ k ≤ n ∧ b = nI k ∧ c ≤ 1000 ∧ e = nI c) := fun ⟨n, k, c, q1, q2, q3, q4, q5, q6⟩ => by
        rw [q2] at h7
        exact absurd ((nI_ltI (a := 30) (by decide) (by omega)).mp h7) (by omega)
      exact zJ_throwIW (text := "pennies not as told") (j := 25) dX8_luck_30 dX8_luck_33 dX8_luck_34 dX8_luck_37 dX8_luck_40 rfl rfl (by decide +kernel) (Nat.le_of_ble_eq_true rfl) (Nat.le_of_ble_eq_true rfl) (by decide) (by decide) ⟨rfl, rfl, hno⟩
    · refine zJ_iload_n dX8_luck_10 rfl ?_
      refine zJ_if_lt (tgt := 30) dX8_luck_11 (by decide) (fun h11 => ?_) (fun h11 => ?_)
      · have hno : ¬ (∃ n k c, n ≤ 30 ∧ a = nI n ∧ k ≤ n ∧ b = nI k ∧ c ≤ 1000 ∧ e = nI c) := fun ⟨n, k, c, q1, q2, q3, q4, q5, q6⟩ => by
          rw [q4] at h11
          exact absurd ((nI_ltI (b := 0) (by omega) (by decide)).mp h11) (by omega)
        exact zJ_throwIW (text := "pennies not as told") (j := 25) dX8_luck_30 dX8_luck_33 dX8_luck_34 dX8_luck_37 dX8_luck_40 rfl rfl (by decide +kernel) (Nat.le_of_ble_eq_true rfl) (Nat.le_of_ble_eq_true rfl) (by decide) (by decide) ⟨rfl, rfl, hno⟩
      · refine zJ_iload_n dX8_luck_14 rfl ?_
        refine zJ_iload_n dX8_luck_15 rfl ?_
        refine zJ_icmp_gt (tgt := 30) dX8_luck_16 (by decide) (fun h16 => ?_) (fun h16 => ?_)
        · have hno : ¬ (∃ n k c, n ≤ 30 ∧ a = nI n ∧ k ≤ n ∧ b = nI k ∧ c ≤ 1000 ∧ e = nI c) := fun ⟨n, k, c, q1, q2, q3, q4, q5, q6⟩ => by
            rw [q4, q2] at h16
            exact absurd ((nI_ltI (by omega) (by omega)).mp h16) (by omega)
          exact zJ_throwIW (text := "pennies not as told") (j := 25) dX8_luck_30 dX8_luck_33 dX8_luck_34 dX8_luck_37 dX8_luck_40 rfl rfl (by decide +kernel) (Nat.le_of_ble_eq_true rfl) (Nat.le_of_ble_eq_true rfl) (by decide) (by decide) ⟨rfl, rfl, hno⟩
        · refine zJ_iload_n dX8_luck_19 rfl ?_
          refine zJ_if_lt (tgt := 30) dX8_luck_20 (by decide) (fun h20 => ?_) (fun h20 => ?_)
          · have hno : ¬ (∃ n k c, n ≤ 30 ∧ a = nI n ∧ k ≤ n ∧ b = nI k ∧ c ≤ 1000 ∧ e = nI c) := fun ⟨n, k, c, q1, q2, q3, q4, q5, q6⟩ => by
              rw [q6] at h20
              exact absurd ((nI_ltI (b := 0) (by omega) (by decide)).mp h20) (by omega)
            exact zJ_throwIW (text := "pennies not as told") (j := 25) dX8_luck_30 dX8_luck_33 dX8_luck_34 dX8_luck_37 dX8_luck_40 rfl rfl (by decide +kernel) (Nat.le_of_ble_eq_true rfl) (Nat.le_of_ble_eq_true rfl) (by decide) (by decide) ⟨rfl, rfl, hno⟩
          · refine zJ_iload_n dX8_luck_23 rfl ?_
            refine zJ_sipush (v := 1000) dX8_luck_24 (by decide) ?_
            refine zJ_icmp_le (tgt := 41) dX8_luck_27 (by decide) (fun h27 => ?_) (fun h27 => ?_)
            · obtain ⟨n, hn31, rfl⟩ := nI_of h1_
              have hn : n ≤ 30 := (nI_leI (b := 30) (by omega) (by decide)).mp (Int32.not_lt.mp h7)
              obtain ⟨k, hk31, rfl⟩ := nI_of h11
              have hk : k ≤ n := (nI_leI (by omega) (by omega)).mp (Int32.not_lt.mp h16)
              obtain ⟨c, hc31, rfl⟩ := nI_of h20
              have hc : c ≤ 1000 := (nI_leI (b := 1000) (by omega) (by decide)).mp h27
              refine zJ_aload_n dX8_luck_41 rfl ?_
              refine zJ_getr dX8_luck_42 fX8_73 (by first | rfl | assumption | exact hC.1 _ (by decide)) rfl (by first | rfl | assumption | exact hC.2 _ _ rfl) ?_
              refine zJ_lconst (v := 0) dX8_luck_45 (by decide) ?_
              refine zJ_cS2 dX8_luck_46 sX8_342 mfJ7_fill_d0a16 (c_fill_l Δ w 52 31 0 (by decide) (hC.1 52 (by decide))) (Nat.le_of_ble_eq_true rfl) (by decide) (by decide) ?_
              refine zJ_aload_n dX8_luck_49 rfl ?_
              refine zJ_getr dX8_luck_50 fX8_73 (by first | rfl | assumption | exact hC.1 _ (by decide)) rfl (by first | rfl | assumption | exact hC.2 _ _ rfl) ?_
              refine zJ_iconst (v := 0) dX8_luck_53 (by decide) ?_
              refine zJ_ldc2 dX8_luck_54 kX8_310 ?_
              refine zJ_last dX8_luck_57 (by first | rfl | assumption | exact hC.1 _ (by decide)) (vp_in_nI (n := 0) (by decide) (by decide)) ?_
              refine zJ_iconst (v := 1) dX8_luck_58 (by decide) ?_
              refine zJ_istore (ls2 := fun x59 => [(4, .int x59), (0, .ref 0), (1, .int (nI n)), (2, .int (nI k)), (3, .int (nI c))]) dX8_luck_59 (by decide) (fun _ => rfl) (fun x59 ex59 => ?_)
              generalize hQR : (fun (r : Option Value) (d : zW) => ∃ n2 k2 c2, n2 ≤ 30 ∧ nI n = nI n2 ∧ k2 ≤ n2 ∧ nI k = nI k2 ∧ c2 ≤ 1000 ∧ nI c = nI c2 ∧ r = some (.int (lN (zlsum c2 n2 k2 (n2 + 1 - k2))).toInt32) ∧ ∃ f, d = zrol w 52 f) = QR
              generalize (fun (E : String) (d : zW) => E = "java/lang/IllegalArgumentException" ∧ d = w ∧ ¬ ∃ n2 k2 c2, n2 ≤ 30 ∧ nI n = nI n2 ∧ k2 ≤ n2 ∧ nI k = nI k2 ∧ c2 ≤ 1000 ∧ nI c = nI c2) = QX
              have hQ : ∀ f, QR (some (.int (lN (zlsum c n k (n + 1 - k))).toInt32)) (zrol w 52 f) := fun f => by rw [← hQR]; exact ⟨n, k, c, hn, rfl, hk, rfl, hc, rfl, rfl, f, rfl⟩
              have L3 : ∀ f : Nat → Int64, (∀ j, j < 31 → f j = lN (zlu c n j)) → ∀ j, j ≤ n + 1 - k → zJ Δ mX8_luck (zRm 6 10 60) true w.1 QR QX 0 0 145 [(6, .int (nI (k + j))), (4, .long (lN (zlsum c n k j))), (0, .ref 0), (1, .int (nI n)), (2, .int (nI k)), (3, .int (nI c))] [] (zrol w 52 f) := by
                intro f hf
                refine zup (fun j hj ih => ?_)
                have hsl := zlsum_le (n := n) (k := k) hc j
                refine zJ_iload dX8_luck_145 rfl ?_
                refine zJ_iload_n dX8_luck_147 rfl ?_
                refine zJ_icmp_gt (tgt := 169) dX8_luck_148 (by decide) (fun h148 => ?_) (fun h148 => ?_)
                · have hj9 : j = n + 1 - k := by have := (nI_ltI (by omega) (by omega)).mp h148; omega
                  subst hj9
                  refine zJ_lload dX8_luck_169 rfl ?_
                  refine zJ_l2i dX8_luck_171 ?_
                  exact zJ_iret dX8_luck_172 rfl (by decide) (by decide) (hQ f)
                · have hj9 : k + j ≤ n := Nat.le_of_not_lt fun h9 => h148 ((nI_ltI (by omega) (by omega)).mpr h9)
                  refine zJ_lload dX8_luck_151 rfl ?_
                  refine zJ_aload_n dX8_luck_153 rfl ?_
                  refine zJ_getr dX8_luck_154 fX8_73 (by first | rfl | assumption | exact hC.1 _ (by decide)) rfl (by first | rfl | assumption | exact hC.2 _ _ rfl) ?_
                  refine zJ_iload dX8_luck_157 rfl ?_
                  refine zJ_lald dX8_luck_159 (by first | rfl | assumption | exact hC.1 _ (by decide)) (vp_in_nI (by omega) (by decide)) ?_
                  rw [nI_clamp (show k + j < 2 ^ 31 by omega), zrol_get, hf _ (by omega)]
                  refine zJ_ladd dX8_luck_160 ?_
                  rw [lN_add, show zlsum c n k j + zlu c n (k + j) = zlsum c n k (j + 1) from rfl]
                  refine zJ_lstore (ls2 := fun x161 => [(4, .long x161), (6, .int (nI (k + j))), (0, .ref 0), (1, .int (nI n)), (2, .int (nI k)), (3, .int (nI c))]) dX8_luck_161 (by decide) (fun _ => rfl) (fun x161 ex161 => ?_)
                  obtain rfl : x161 = (lN (zlsum c n k (j + 1))) := ex161
                  refine zJ_iinc (ls2 := fun x163 => [(6, .int x163), (4, .long (lN (zlsum c n k (j + 1)))), (0, .ref 0), (1, .int (nI n)), (2, .int (nI k)), (3, .int (nI c))]) dX8_luck_163 rfl (by decide) (fun _ => rfl) (fun x163 ex163 => ?_)
                  refine zJ_goto (tgt := 145) dX8_luck_166 (by decide) ?_
                  refine zJ_ls [(6, .int x163), (4, .long (lN (zlsum c n k (j + 1)))), (0, .ref 0), (1, .int (nI n)), (2, .int (nI k)), (3, .int (nI c))] (by simp) ?_
                  rw [ex163, show nI (k + j) + Int32.ofInt 1 = nI (k + (j + 1)) from nI_1 _]
                  exact ih (j + 1) (by omega) (by omega)
              have L2 : ∀ (i : Nat), i < n → (∀ f : Nat → Int64, (∀ j, j < 31 → f j = lN (zlu c (i + 1) j)) → zJ Δ mX8_luck (zRm 6 10 60) true w.1 QR QX 0 0 61 [(4, .int (nI (i + 2))), (0, .ref 0), (1, .int (nI n)), (2, .int (nI k)), (3, .int (nI c))] [] (zrol w 52 f)) → ∀ m, m ≤ i + 2 → ∀ f : Nat → Int64, (∀ j, j < 31 → f j = lN (zlm c i m j)) → zJ Δ mX8_luck (zRm 6 10 60) true w.1 QR QX 0 0 71 [(5, .int (nI m - 1)), (4, .int (nI (i + 1))), (0, .ref 0), (1, .int (nI n)), (2, .int (nI k)), (3, .int (nI c))] [] (zrol w 52 f) := by
                intro i hi kk m
                induction m with
                | zero =>
                  intro _ f hf
                  refine zJ_iload dX8_luck_71 rfl ?_
                  refine zJ_if_lt (tgt := 133) dX8_luck_73 (by decide) (fun _ => ?_) (fun h9 => absurd (by decide : (nI 0 - 1 : Int32) < 0) h9)
                  refine zJ_iinc (ls2 := fun x133 => [(4, .int x133), (5, .int (nI 0 - 1)), (0, .ref 0), (1, .int (nI n)), (2, .int (nI k)), (3, .int (nI c))]) dX8_luck_133 rfl (by decide) (fun _ => rfl) (fun x133 ex133 => ?_)
                  refine zJ_goto (tgt := 61) dX8_luck_136 (by decide) ?_
                  refine zJ_ls [(4, .int x133), (0, .ref 0), (1, .int (nI n)), (2, .int (nI k)), (3, .int (nI c))] (by simp) ?_
                  rw [ex133, show nI (i + 1) + Int32.ofInt 1 = nI (i + 2) from nI_1 _]
                  exact kk f (fun j hj => by rw [hf j hj]; simp [zlm])
                | succ m ih =>
                  intro hm f hf
                  have em : nI (m + 1) - 1 = nI m := na_sub (b := 1) (by omega)
                  rw [em]
                  have cm : (nI m).toNatClampNeg = m := nI_clamp (by omega)
                  have fm : f m = lN (zlu c i m) := by rw [hf m (by omega)]; simp only [zlm]; rw [if_neg (by omega)]
                  refine zJ_iload dX8_luck_71 rfl ?_
                  refine zJ_if_lt (tgt := 133) dX8_luck_73 (by decide) (fun h73 => ?_) (fun h73 => ?_)
                  · exact absurd ((nI_ltI (b := 0) (by omega) (by decide)).mp h73) (by omega)
                  · refine zJ_iload dX8_luck_76 rfl ?_
                    refine zJ_if_le (tgt := 96) dX8_luck_78 (by decide) (fun h78 => ?_) (fun h78 => ?_)
                    · have hm0 : m = 0 := Nat.le_zero.mp ((nI_leI (b := 0) (by omega) (by decide)).mp h78)
                      refine zJ_lconst (v := 0) dX8_luck_96 (by decide) ?_
                      refine zJ_lstore (ls2 := fun x97 => [(6, .long x97), (5, .int (nI m)), (4, .int (nI (i + 1))), (0, .ref 0), (1, .int (nI n)), (2, .int (nI k)), (3, .int (nI c))]) dX8_luck_97 (by decide) (fun _ => rfl) (fun x97 ex97 => ?_)
                      obtain rfl : x97 = (lN (if m = 0 then 0 else zlu c i (m - 1) * c)) := (by rw [ex97, if_pos (by omega)]; rfl)
                      refine zJ_aload_n dX8_luck_99 rfl ?_
                      refine zJ_getr dX8_luck_100 fX8_73 (by first | rfl | assumption | exact hC.1 _ (by decide)) rfl (by first | rfl | assumption | exact hC.2 _ _ rfl) ?_
                      refine zJ_iload dX8_luck_103 rfl ?_
                      refine zJ_aload_n dX8_luck_105 rfl ?_
                      refine zJ_getr dX8_luck_106 fX8_73 (by first | rfl | assumption | exact hC.1 _ (by decide)) rfl (by first | rfl | assumption | exact hC.2 _ _ rfl) ?_
                      refine zJ_iload dX8_luck_109 rfl ?_
                      refine zJ_lald dX8_luck_111 (by first | rfl | assumption | exact hC.1 _ (by decide)) (vp_in_nI (by omega) (by decide)) ?_
                      rw [cm, zrol_get, fm]
                      refine zJ_sipush (v := 1000) dX8_luck_112 (by decide) ?_
                      refine zJ_iload_n dX8_luck_115 rfl ?_
                      refine zJ_isub dX8_luck_116 ?_
                      rw [show (1000 : Int32) - nI c = nI (1000 - c) from na_sub hc]
                      refine zJ_i2l dX8_luck_117 ?_
                      rw [nI_l (show 1000 - c < 2 ^ 31 by omega)]
                      refine zJ_lmul dX8_luck_118 ?_
                      refine zJ_lload dX8_luck_119 rfl ?_
                      refine zJ_ladd dX8_luck_121 ?_
                      refine zJ_ldc2 dX8_luck_122 kX8_234 ?_
                      refine zJ_ldiv dX8_luck_125 (by decide) ?_
                      rw [zlu_new (by omega) hc]
                      refine zJ_last dX8_luck_126 (by first | rfl | assumption | exact hC.1 _ (by decide)) (vp_in_nI (by omega) (by decide)) ?_
                      rw [cm]
                      refine zJ_iinc (ls2 := fun x127 => [(5, .int x127), (6, .long (lN (if m = 0 then 0 else zlu c i (m - 1) * c))), (4, .int (nI (i + 1))), (0, .ref 0), (1, .int (nI n)), (2, .int (nI k)), (3, .int (nI c))]) dX8_luck_127 rfl (by decide) (fun _ => rfl) (fun x127 ex127 => ?_)
                      refine zJ_goto (tgt := 71) dX8_luck_130 (by decide) ?_
                      refine zJ_ls [(5, .int x127), (4, .int (nI (i + 1))), (0, .ref 0), (1, .int (nI n)), (2, .int (nI k)), (3, .int (nI c))] (by simp) ?_
                      rw [ex127, na_dec]
                      refine zJ_w (w2 := zrol w 52 (fun j => if j = m then lN (zlu c (i + 1) m) else f j)) ?_ (ih (by omega) _ (fun j hj => ?_))
                      · rw [zsl_row, zrol_get, zrol_rol]
                      · by_cases hjm : j = m
                        · subst hjm; simp [zlm]
                        · simp only [hjm, if_false]
                          rw [hf j hj]
                          simp only [zlm, show (m + 1 ≤ j) = (m ≤ j) by simp only [eq_iff_iff]; omega]
                    · have hm0 : 0 < m := by
                        have := Int32.not_le.mp h78
                        exact (nI_ltI (a := 0) (by decide) (by omega)).mp this
                      refine zJ_aload_n dX8_luck_81 rfl ?_
                      refine zJ_getr dX8_luck_82 fX8_73 (by first | rfl | assumption | exact hC.1 _ (by decide)) rfl (by first | rfl | assumption | exact hC.2 _ _ rfl) ?_
                      refine zJ_iload dX8_luck_85 rfl ?_
                      refine zJ_iconst (v := 1) dX8_luck_87 (by decide) ?_
                      skip
                      refine zJ_isub dX8_luck_88 ?_
                      rw [show nI m - 1 = nI (m - 1) from na_sub (b := 1) (by omega)]
                      refine zJ_lald dX8_luck_89 (by first | rfl | assumption | exact hC.1 _ (by decide)) (vp_in_nI (by omega) (by decide)) ?_
                      rw [nI_clamp (show m - 1 < 2 ^ 31 by omega), zrol_get, show f (m - 1) = lN (zlu c i (m - 1)) by rw [hf _ (by omega)]; simp only [zlm]; rw [if_neg (by omega)]]
                      refine zJ_iload_n dX8_luck_90 rfl ?_
                      skip
                      refine zJ_i2l dX8_luck_91 ?_
                      rw [nI_l (show c < 2 ^ 31 by omega)]
                      refine zJ_lmul dX8_luck_92 ?_
                      refine zJ_goto (tgt := 97) dX8_luck_93 (by decide) ?_
                      refine zJ_lstore (ls2 := fun x97 => [(6, .long x97), (5, .int (nI m)), (4, .int (nI (i + 1))), (0, .ref 0), (1, .int (nI n)), (2, .int (nI k)), (3, .int (nI c))]) dX8_luck_97 (by decide) (fun _ => rfl) (fun x97 ex97 => ?_)
                      obtain rfl : x97 = (lN (if m = 0 then 0 else zlu c i (m - 1) * c)) := (by rw [ex97, if_neg (by omega), lN_mul])
                      refine zJ_aload_n dX8_luck_99 rfl ?_
                      refine zJ_getr dX8_luck_100 fX8_73 (by first | rfl | assumption | exact hC.1 _ (by decide)) rfl (by first | rfl | assumption | exact hC.2 _ _ rfl) ?_
                      refine zJ_iload dX8_luck_103 rfl ?_
                      refine zJ_aload_n dX8_luck_105 rfl ?_
                      refine zJ_getr dX8_luck_106 fX8_73 (by first | rfl | assumption | exact hC.1 _ (by decide)) rfl (by first | rfl | assumption | exact hC.2 _ _ rfl) ?_
                      refine zJ_iload dX8_luck_109 rfl ?_
                      refine zJ_lald dX8_luck_111 (by first | rfl | assumption | exact hC.1 _ (by decide)) (vp_in_nI (by omega) (by decide)) ?_
                      rw [cm, zrol_get, fm]
                      refine zJ_sipush (v := 1000) dX8_luck_112 (by decide) ?_
                      refine zJ_iload_n dX8_luck_115 rfl ?_
                      refine zJ_isub dX8_luck_116 ?_
                      rw [show (1000 : Int32) - nI c = nI (1000 - c) from na_sub hc]
                      refine zJ_i2l dX8_luck_117 ?_
                      rw [nI_l (show 1000 - c < 2 ^ 31 by omega)]
                      refine zJ_lmul dX8_luck_118 ?_
                      refine zJ_lload dX8_luck_119 rfl ?_
                      refine zJ_ladd dX8_luck_121 ?_
                      refine zJ_ldc2 dX8_luck_122 kX8_234 ?_
                      refine zJ_ldiv dX8_luck_125 (by decide) ?_
                      rw [zlu_new (by omega) hc]
                      refine zJ_last dX8_luck_126 (by first | rfl | assumption | exact hC.1 _ (by decide)) (vp_in_nI (by omega) (by decide)) ?_
                      rw [cm]
                      refine zJ_iinc (ls2 := fun x127 => [(5, .int x127), (6, .long (lN (if m = 0 then 0 else zlu c i (m - 1) * c))), (4, .int (nI (i + 1))), (0, .ref 0), (1, .int (nI n)), (2, .int (nI k)), (3, .int (nI c))]) dX8_luck_127 rfl (by decide) (fun _ => rfl) (fun x127 ex127 => ?_)
                      refine zJ_goto (tgt := 71) dX8_luck_130 (by decide) ?_
                      refine zJ_ls [(5, .int x127), (4, .int (nI (i + 1))), (0, .ref 0), (1, .int (nI n)), (2, .int (nI k)), (3, .int (nI c))] (by simp) ?_
                      rw [ex127, na_dec]
                      refine zJ_w (w2 := zrol w 52 (fun j => if j = m then lN (zlu c (i + 1) m) else f j)) ?_ (ih (by omega) _ (fun j hj => ?_))
                      · rw [zsl_row, zrol_get, zrol_rol]
                      · by_cases hjm : j = m
                        · subst hjm; simp [zlm]
                        · simp only [hjm, if_false]
                          rw [hf j hj]
                          simp only [zlm, show (m + 1 ≤ j) = (m ≤ j) by simp only [eq_iff_iff]; omega]
              have L1 : ∀ i, i ≤ n → ∀ f : Nat → Int64, (∀ j, j < 31 → f j = lN (zlu c i j)) → zJ Δ mX8_luck (zRm 6 10 60) true w.1 QR QX 0 0 61 [(4, .int (nI (i + 1))), (0, .ref 0), (1, .int (nI n)), (2, .int (nI k)), (3, .int (nI c))] [] (zrol w 52 f) := by
                refine zup (fun i hi ih => ?_)
                intro f hf
                refine zJ_iload dX8_luck_61 rfl ?_
                refine zJ_iload_n dX8_luck_63 rfl ?_
                refine zJ_icmp_gt (tgt := 139) dX8_luck_64 (by decide) (fun h64 => ?_) (fun h64 => ?_)
                · have hi9 : i = n := by
                    have := (nI_ltI (b := i + 1) (by omega) (by omega)).mp h64
                    omega
                  rw [hi9] at hf
                  refine zJ_lconst (v := 0) dX8_luck_139 (by decide) ?_
                  refine zJ_lstore (ls2 := fun x140 => [(4, .long x140), (0, .ref 0), (1, .int (nI n)), (2, .int (nI k)), (3, .int (nI c))]) dX8_luck_140 (by decide) (fun _ => rfl) (fun x140 ex140 => ?_)
                  refine zJ_iload_n dX8_luck_142 rfl ?_
                  refine zJ_istore (ls2 := fun x143 => [(6, .int x143), (4, .long x140), (0, .ref 0), (1, .int (nI n)), (2, .int (nI k)), (3, .int (nI c))]) dX8_luck_143 (by decide) (fun _ => rfl) (fun x143 ex143 => ?_)
                  refine zJ_ls [(6, .int x143), (4, .long x140), (0, .ref 0), (1, .int (nI n)), (2, .int (nI k)), (3, .int (nI c))] (by simp) ?_
                  rw [ex143, ex140]
                  exact L3 f hf 0 (Nat.zero_le _)
                · have hi9 : i < n := by
                    have := (nI_leI (a := i + 1) (by omega) (by omega)).mp (Int32.not_lt.mp h64)
                    omega
                  refine zJ_iload dX8_luck_67 rfl ?_
                  refine zJ_istore (ls2 := fun x69 => [(5, .int x69), (4, .int (nI (i + 1))), (0, .ref 0), (1, .int (nI n)), (2, .int (nI k)), (3, .int (nI c))]) dX8_luck_69 (by decide) (fun _ => rfl) (fun x69 ex69 => ?_)
                  refine zJ_ls [(5, .int x69), (4, .int (nI (i + 1))), (0, .ref 0), (1, .int (nI n)), (2, .int (nI k)), (3, .int (nI c))] (by simp) ?_
                  rw [ex69]
                  refine zJ_w rfl ?_
                  have := L2 i hi9 (ih (i + 1) (by omega) (by omega)) (i + 2) (Nat.le_refl _) f (fun j hj => by
                    rw [hf j hj]; simp only [zlm]
                    split
                    · have : ¬ j ≤ i + 1 := by omega
                      simp only [zlu, this, if_false]
                    · rfl)
                  rw [show nI (i + 2) - 1 = nI (i + 1) from na_sub (b := 1) (by omega)] at this
                  exact this
              refine zJ_ls [(4, .int x59), (0, .ref 0), (1, .int (nI n)), (2, .int (nI k)), (3, .int (nI c))] (by simp) ?_
              rw [ex59]
              refine zJ_w (w2 := zrol w 52 (fun j => if j = 0 then lN 1000000000 else if j < 31 then 0 else w.2.2.1 52 j)) ?_ (L1 0 (Nat.zero_le _) _ (fun j hj => ?_))
              · rw [zsl_row, zrol_get, zrol_rol]
                refine congrArg (zrol w 52) (funext fun j => ?_)
                by_cases h0 : j = 0
                · subst h0; simp; rfl
                · simp [h0]
              · by_cases h0 : j = 0
                · subst h0; simp [zlu]
                · simp [h0, hj, zlu]; rfl
            · have hno : ¬ (∃ n k c, n ≤ 30 ∧ a = nI n ∧ k ≤ n ∧ b = nI k ∧ c ≤ 1000 ∧ e = nI c) := fun ⟨n, k, c, q1, q2, q3, q4, q5, q6⟩ => by
                rw [q6] at h27
                exact h27 ((nI_leI (b := 1000) (by omega) (by decide)).mpr q5)
              exact zJ_throwIW (text := "pennies not as told") (j := 25) dX8_luck_30 dX8_luck_33 dX8_luck_34 dX8_luck_37 dX8_luck_40 rfl rfl (by decide +kernel) (Nat.le_of_ble_eq_true rfl) (Nat.le_of_ble_eq_true rfl) (by decide) (by decide) ⟨rfl, rfl, hno⟩
