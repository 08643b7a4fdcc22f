/-! the model: luck, weeks -/
set_option maxRecDepth 100000 in
theorem c_Mo_luck (Δ : zD) (w : zW) (hM : zMs w) (a b e : Int32) : zMp Δ 1 yX9_luck mX9_luck [.ref 100, .int a, .int b, .int e] w (fun r d => zFM zScr w d ∧ ((¬ (∃ n k c, n ≤ 30 ∧ a = nI n ∧ k ≤ n ∧ b = nI k ∧ c ≤ 1000 ∧ e = nI c) ∧ d.2.1 100 0 = 1) ∨ (∃ n k c, n ≤ 30 ∧ a = nI n ∧ k ≤ n ∧ b = nI k ∧ c ≤ 1000 ∧ e = nI c ∧ d.2.1 100 0 = 0 ∧ r = some (.int (lN (zlsum c n k (n + 1 - k))).toInt32)))) := by
  refine zMp.of mfX9_luck (Nat.le_of_ble_eq_true rfl) (fun QR hQ => ?_)
  have M0 : zMs (zsi w 100 0 0) := hM
  have z0 : (zsi w 100 0 0).2.1 100 0 = 0 := by simp [zsi]
  by_cases ha : ∃ n, 0 ≤ n ∧ n ≤ 30 ∧ a = nI n
  · by_cases hb : ∀ n, n ≤ 30 → a = nI n → ∃ k, 0 ≤ k ∧ k ≤ n ∧ b = nI k
    · by_cases he : ∃ c, 0 ≤ c ∧ c ≤ 1000 ∧ e = nI c
      · obtain ⟨n, -, hn, rfl⟩ := ha
        obtain ⟨k, -, hk, rfl⟩ := hb n hn rfl
        obtain ⟨c, -, hc, rfl⟩ := he
        have hOK : ∀ f, QR (some (.int (lN (zlsum c n k (n + 1 - k))).toInt32)) (zrol (zsi w 100 0 0) 175 f) := fun f => hQ _ _ ⟨zFM.t0.tr (zFM.rol (by decide)), Or.inr ⟨n, k, c, hn, rfl, hk, rfl, hc, rfl, by simp [zrol, zsi], rfl⟩⟩
        have L3 : ∀ f : Nat → Int64, (∀ j, j < 32 → f j = lN (zlu c n j)) → ∀ j, j ≤ n + 1 - k → zJ Δ mX9_luck (zRm 1 0 0) true w.1 QR (fun _ _ => False) 0 0 170 [(6, .int (nI (k + j))), (4, .long (lN (zlsum c n k j))), (0, .ref 100), (1, .int (nI n)), (2, .int (nI k)), (3, .int (nI c))] [] (zrol (zsi w 100 0 0) 175 f) := by
          intro f hf
          refine zup (fun j hj ih => ?_)
          have hsl := zlsum_le (n := n) (k := k) hc j
          refine zJ_iload dX9_luck_170 rfl ?_
          refine zJ_iload_n dX9_luck_172 rfl ?_
          refine zJ_icmp_gt (tgt := 194) dX9_luck_173 (by decide) (fun h173 => ?_) (fun h173 => ?_)
          · have hj9 : j = n + 1 - k := by have := (nI_ltI (by omega) (by omega)).mp h173; omega
            subst hj9
            refine zJ_lload dX9_luck_194 rfl ?_
            refine zJ_l2i dX9_luck_196 ?_
            exact zJ_iret dX9_luck_197 rfl (by decide) (by decide) (hOK f)
          · have hj9 : k + j ≤ n := Nat.le_of_not_lt fun h9 => h173 ((nI_ltI (by omega) (by omega)).mpr h9)
            refine zJ_lload dX9_luck_176 rfl ?_
            refine zJ_aload_n dX9_luck_178 rfl ?_
            refine zJ_getr (j := 175) dX9_luck_179 fX9_137 (by first | rfl | assumption | exact M0.at (by decide) (by decide)) rfl (by first | rfl | assumption | exact M0.rf (by decide) rfl) ?_
            refine zJ_iload dX9_luck_182 rfl ?_
            refine zJ_laldN (i := (k + j)) (v := (lN (zlu c n (k + j)))) dX9_luck_184 (by first | rfl | assumption | exact M0.at (by decide) (by decide)) rfl (by omega) (by decide) (by rw [zrol_get]; exact hf _ (by omega)) ?_
            refine zJ_ladd dX9_luck_185 ?_
            rw [lN_add, show zlsum c n k j + zlu c n (k + j) = zlsum c n k (j + 1) from rfl]
            refine zJ_lstore (ls2 := fun x186 => [(4, .long x186), (6, .int (nI (k + j))), (0, .ref 100), (1, .int (nI n)), (2, .int (nI k)), (3, .int (nI c))]) dX9_luck_186 (by decide) (fun _ => rfl) (fun x186 ex186 => ?_)
            obtain rfl : x186 = (lN (zlsum c n k (j + 1))) := ex186
            refine zJ_iinc (ls2 := fun x188 => [(6, .int x188), (4, .long (lN (zlsum c n k (j + 1)))), (0, .ref 100), (1, .int (nI n)), (2, .int (nI k)), (3, .int (nI c))]) dX9_luck_188 rfl (by decide) (fun _ => rfl) (fun x188 ex188 => ?_)
            refine zJ_goto (tgt := 170) dX9_luck_191 (by decide) ?_
            refine zJ_ls [(6, .int x188), (4, .long (lN (zlsum c n k (j + 1)))), (0, .ref 100), (1, .int (nI n)), (2, .int (nI k)), (3, .int (nI c))] (by simp) ?_
            rw [ex188, show nI (k + j) + Int32.ofInt 1 = nI (k + (j + 1)) from nI_1 _]
            exact ih (j + 1) (by omega) (by omega)
        have L2 : ∀ (i : Nat), i < n → (∀ f : Nat → Int64, (∀ j, j < 32 → f j = lN (zlu c (i + 1) j)) → zJ Δ mX9_luck (zRm 1 0 0) true w.1 QR (fun _ _ => False) 0 0 88 [(4, .int (nI (i + 1))), (0, .ref 100), (1, .int (nI n)), (2, .int (nI k)), (3, .int (nI c))] [] (zrol (zsi w 100 0 0) 175 f)) → ∀ m, m ≤ i + 2 → ∀ f : Nat → Int64, (∀ j, j < 32 → f j = lN (zlm c i m j)) → zJ Δ mX9_luck (zRm 1 0 0) true w.1 QR (fun _ _ => False) 0 0 100 [(5, .int (nI m - 1)), (4, .int (nI i)), (0, .ref 100), (1, .int (nI n)), (2, .int (nI k)), (3, .int (nI c))] [] (zrol (zsi w 100 0 0) 175 f) := by
          intro i hi kk m
          induction m with
          | zero =>
            intro _ f hf
            refine zJ_iload dX9_luck_100 rfl ?_
            refine zJ_if_lt (tgt := 158) dX9_luck_102 (by decide) (fun _ => ?_) (fun h9 => absurd (by decide : (nI 0 - 1 : Int32) < 0) h9)
            refine zJ_iinc (ls2 := fun x158 => [(4, .int x158), (5, .int (nI 0 - 1)), (0, .ref 100), (1, .int (nI n)), (2, .int (nI k)), (3, .int (nI c))]) dX9_luck_158 rfl (by decide) (fun _ => rfl) (fun x158 ex158 => ?_)
            refine zJ_goto (tgt := 88) dX9_luck_161 (by decide) ?_
            refine zJ_ls [(4, .int x158), (0, .ref 100), (1, .int (nI n)), (2, .int (nI k)), (3, .int (nI c))] (by simp) ?_
            rw [ex158, show nI i + Int32.ofInt 1 = nI (i + 1) from nI_1 _]
            exact kk f (fun j hj => by rw [hf j hj]; simp [zlm])
          | succ m ih =>
            intro hm f hf
            have em : nI (m + 1) - 1 = nI m := na_sub (b := 1) (by omega)
            rw [em]
            have fm : f m = lN (zlu c i m) := by rw [hf m (by omega)]; simp only [zlm]; rw [if_neg (by omega)]
            refine zJ_iload dX9_luck_100 rfl ?_
            refine zJ_if_lt (tgt := 158) dX9_luck_102 (by decide) (fun h102 => ?_) (fun h102 => ?_)
            · exact absurd ((nI_ltI (b := 0) (by omega) (by decide)).mp h102) (by omega)
            · refine zJ_aload_n dX9_luck_105 rfl ?_
              refine zJ_getr (j := 175) dX9_luck_106 fX9_137 (by first | rfl | assumption | exact M0.at (by decide) (by decide)) rfl (by first | rfl | assumption | exact M0.rf (by decide) rfl) ?_
              refine zJ_iload dX9_luck_109 rfl ?_
              refine zJ_aload_n dX9_luck_111 rfl ?_
              refine zJ_getr (j := 175) dX9_luck_112 fX9_137 (by first | rfl | assumption | exact M0.at (by decide) (by decide)) rfl (by first | rfl | assumption | exact M0.rf (by decide) rfl) ?_
              refine zJ_iload dX9_luck_115 rfl ?_
              refine zJ_laldN (i := m) (v := (lN (zlu c i m))) dX9_luck_117 (by first | rfl | assumption | exact M0.at (by decide) (by decide)) rfl (by omega) (by decide) (by rw [zrol_get]; exact fm) ?_
              refine zJ_sipush (v := 1000) dX9_luck_118 (by decide) ?_
              refine zJ_iload_n dX9_luck_121 rfl ?_
              refine zJ_isub dX9_luck_122 ?_
              rw [show (1000 : Int32) - nI c = nI (1000 - c) from na_sub hc]
              refine zJ_i2l dX9_luck_123 ?_
              rw [nI_l (show 1000 - c < 2 ^ 31 by omega)]
              refine zJ_lmul dX9_luck_124 ?_
              refine zJ_iload dX9_luck_125 rfl ?_
              refine zJ_if_ne (tgt := 134) dX9_luck_127 (by decide) (fun h127 => ?_) (fun h127 => ?_)
              · have hm0 : ¬ m = 0 := fun h => h127 (by rw [h]; rfl)
                refine zJ_aload_n dX9_luck_134 rfl ?_
                refine zJ_getr (j := 175) dX9_luck_135 fX9_137 (by first | rfl | assumption | exact M0.at (by decide) (by decide)) rfl (by first | rfl | assumption | exact M0.rf (by decide) rfl) ?_
                refine zJ_iload dX9_luck_138 rfl ?_
                refine zJ_iconst (v := 1) dX9_luck_140 (by decide) ?_
                refine zJ_isub dX9_luck_141 ?_
                refine zJ_laldN (i := (m - 1)) (v := (lN (zlu c i (m - 1)))) dX9_luck_142 (by first | rfl | assumption | exact M0.at (by decide) (by decide)) (na_sub (b := 1) (by omega)) (by omega) (by decide) (by rw [zrol_get, hf _ (by omega)]; simp only [zlm]; rw [if_neg (by omega)]) ?_
                refine zJ_iload_n dX9_luck_143 rfl ?_
                refine zJ_i2l dX9_luck_144 ?_
                rw [nI_l (show c < 2 ^ 31 by omega)]
                refine zJ_lmul dX9_luck_145 ?_
                refine zJ_st (st2 := [.long (lN (if m = 0 then 0 else zlu c i (m - 1) * c)), .long (lN (zlu c i m) * lN (1000 - c)), .int (nI m), .ref 175]) (congrArg (fun z => Value.long z :: _) ((lN_mul _ _).trans (by rw [if_neg hm0]))) ?_
                refine zJ_ladd dX9_luck_146 ?_
                refine zJ_ldc2 dX9_luck_147 kX9_370 ?_
                refine zJ_ldiv dX9_luck_150 (by decide) ?_
                rw [zlu_new (by omega) hc]
                refine zJ_lastN (i := m) dX9_luck_151 (by first | rfl | assumption | exact M0.at (by decide) (by decide)) rfl (by omega) (by decide) ?_
                refine zJ_iinc (ls2 := fun x152z1 => [(5, .int x152z1), (4, .int (nI i)), (0, .ref 100), (1, .int (nI n)), (2, .int (nI k)), (3, .int (nI c))]) dX9_luck_152 rfl (by decide) (fun _ => rfl) (fun x152z1 ex152z1 => ?_)
                refine zJ_goto (tgt := 100) dX9_luck_155 (by decide) ?_
                refine zJ_ls [(5, .int x152z1), (4, .int (nI i)), (0, .ref 100), (1, .int (nI n)), (2, .int (nI k)), (3, .int (nI c))] (by simp) ?_
                rw [ex152z1, na_dec]
                refine zJ_w (w2 := zrol (zsi w 100 0 0) 175 (fun j => if j = m then lN (zlu c (i + 1) m) else f j)) ?_ (ih (by omega) _ (fun j hj => ?_))
                · rw [zsl_row, zrol_get, zrol_rol]
                · by_cases hjm : j = m
                  · subst hjm; simp [zlm]
                  · simp only [hjm, if_false]
                    rw [hf j hj]
                    simp only [zlm, show (m + 1 ≤ j) = (m ≤ j) by simp only [eq_iff_iff]; omega]
              · have hm0 : m = 0 := (nI_eq (b := 0) (by omega) (by decide)).mp h127
                refine zJ_lconst (v := 0) dX9_luck_130 (by decide) ?_
                refine zJ_goto (tgt := 146) dX9_luck_131 (by decide) ?_
                refine zJ_st (st2 := [.long (lN (if m = 0 then 0 else zlu c i (m - 1) * c)), .long (lN (zlu c i m) * lN (1000 - c)), .int (nI m), .ref 175]) (congrArg (fun z => Value.long z :: _) (by rw [if_pos hm0]; rfl)) ?_
                refine zJ_ladd dX9_luck_146 ?_
                refine zJ_ldc2 dX9_luck_147 kX9_370 ?_
                refine zJ_ldiv dX9_luck_150 (by decide) ?_
                rw [zlu_new (by omega) hc]
                refine zJ_lastN (i := m) dX9_luck_151 (by first | rfl | assumption | exact M0.at (by decide) (by decide)) rfl (by omega) (by decide) ?_
                refine zJ_iinc (ls2 := fun x152z2 => [(5, .int x152z2), (4, .int (nI i)), (0, .ref 100), (1, .int (nI n)), (2, .int (nI k)), (3, .int (nI c))]) dX9_luck_152 rfl (by decide) (fun _ => rfl) (fun x152z2 ex152z2 => ?_)
                refine zJ_goto (tgt := 100) dX9_luck_155 (by decide) ?_
                refine zJ_ls [(5, .int x152z2), (4, .int (nI i)), (0, .ref 100), (1, .int (nI n)), (2, .int (nI k)), (3, .int (nI c))] (by simp) ?_
                rw [ex152z2, na_dec]
                refine zJ_w (w2 := zrol (zsi w 100 0 0) 175 (fun j => if j = m then lN (zlu c (i + 1) m) else f j)) ?_ (ih (by omega) _ (fun j hj => ?_))
                · rw [zsl_row, zrol_get, zrol_rol]
                · by_cases hjm : j = m
                  · subst hjm; simp [zlm]
                  · simp only [hjm, if_false]
                    rw [hf j hj]
                    simp only [zlm, show (m + 1 ≤ j) = (m ≤ j) by simp only [eq_iff_iff]; omega]
        have L1 : ∀ i, i ≤ n → ∀ f : Nat → Int64, (∀ j, j < 32 → f j = lN (zlu c i j)) → zJ Δ mX9_luck (zRm 1 0 0) true w.1 QR (fun _ _ => False) 0 0 88 [(4, .int (nI i)), (0, .ref 100), (1, .int (nI n)), (2, .int (nI k)), (3, .int (nI c))] [] (zrol (zsi w 100 0 0) 175 f) := by
          refine zup (fun i hi ih => ?_)
          intro f hf
          refine zJ_iload dX9_luck_88 rfl ?_
          refine zJ_iload_n dX9_luck_90 rfl ?_
          refine zJ_icmp_ge (tgt := 164) dX9_luck_91 (by decide) (fun h91 => ?_) (fun h91 => ?_)
          · have hi9 : i = n := Nat.le_antisymm hi ((nI_leI (by omega) (by omega)).mp h91)
            rw [hi9] at hf
            refine zJ_lconst (v := 0) dX9_luck_164 (by decide) ?_
            refine zJ_lstore (ls2 := fun x165 => [(4, .long x165), (0, .ref 100), (1, .int (nI n)), (2, .int (nI k)), (3, .int (nI c))]) dX9_luck_165 (by decide) (fun _ => rfl) (fun x165 ex165 => ?_)
            refine zJ_iload_n dX9_luck_167 rfl ?_
            refine zJ_istore (ls2 := fun x168 => [(6, .int x168), (4, .long x165), (0, .ref 100), (1, .int (nI n)), (2, .int (nI k)), (3, .int (nI c))]) dX9_luck_168 (by decide) (fun _ => rfl) (fun x168 ex168 => ?_)
            refine zJ_ls [(6, .int x168), (4, .long x165), (0, .ref 100), (1, .int (nI n)), (2, .int (nI k)), (3, .int (nI c))] (by simp) ?_
            rw [ex168, ex165]
            exact L3 f hf 0 (Nat.zero_le _)
          · have hi9 : i < n := Nat.lt_of_not_le fun hq9 => h91 ((nI_leI (by omega) (by omega)).mpr hq9)
            refine zJ_iload dX9_luck_94 rfl ?_
            refine zJ_iconst (v := 1) dX9_luck_96 (by decide) ?_
            refine zJ_iadd dX9_luck_97 ?_
            rw [show nI i + 1 = nI (i + 1) from nI_1 _]
            refine zJ_istore (ls2 := fun x98 => [(5, .int x98), (4, .int (nI i)), (0, .ref 100), (1, .int (nI n)), (2, .int (nI k)), (3, .int (nI c))]) dX9_luck_98 (by decide) (fun _ => rfl) (fun x98 ex98 => ?_)
            refine zJ_ls [(5, .int x98), (4, .int (nI i)), (0, .ref 100), (1, .int (nI n)), (2, .int (nI k)), (3, .int (nI c))] (by simp) ?_
            rw [ex98]
            have := L2 i hi9 (ih (i + 1) (by omega) (by omega)) (i + 2) (Nat.le_refl _) f (fun j hj => by
              rw [hf j hj]; simp only [zlm]
              split
              · have : ¬ j ≤ i + 1 := by omega
                simp only [zlu, this, if_false]
              · rfl)
            rw [show nI (i + 2) - 1 = nI (i + 1) from na_sub (b := 1) (by omega)] at this
            exact this
        have L0 : ∀ j, j ≤ 32 → zJ Δ mX9_luck (zRm 1 0 0) true w.1 QR (fun _ _ => False) 0 0 53 [(4, .int (nI j)), (0, .ref 100), (1, .int (nI n)), (2, .int (nI k)), (3, .int (nI c))] [] (zrol (zsi w 100 0 0) 175 (fun p => if p < j then lN (zlu c 0 p) else w.2.2.1 175 p)) := by
          refine zup (fun j hj ih => ?_)
          refine zJ_iload dX9_luck_53 rfl ?_
          refine zJ_bipush (v := 32) dX9_luck_55 (by decide) ?_
          refine zJ_icmp_ge (tgt := 85) dX9_luck_57 (by decide) (fun h57 => ?_) (fun h57 => ?_)
          · have hj9 : j = 32 := by exact Nat.le_antisymm hj ((nI_leI (a := 32) (b := j) (by omega) (by omega)).mp h57)
            subst hj9
            refine zJ_iconst (v := 0) dX9_luck_85 (by decide) ?_
            refine zJ_istore (ls2 := fun x86 => [(4, .int x86), (0, .ref 100), (1, .int (nI n)), (2, .int (nI k)), (3, .int (nI c))]) dX9_luck_86 (by decide) (fun _ => rfl) (fun x86 ex86 => ?_)
            rw [ex86]
            exact L1 0 (Nat.zero_le _) _ (fun p hp => by rw [if_pos hp])
          · have hj9 : j < 32 := Nat.lt_of_not_le fun hq9 => h57 (by exact (nI_leI (a := 32) (b := j) (by omega) (by omega)).mpr hq9)
            refine zJ_aload_n dX9_luck_60 rfl ?_
            refine zJ_getr (j := 175) dX9_luck_61 fX9_137 (by first | rfl | assumption | exact M0.at (by decide) (by decide)) rfl (by first | rfl | assumption | exact M0.rf (by decide) rfl) ?_
            refine zJ_iload dX9_luck_64 rfl ?_
            refine zJ_iload dX9_luck_66 rfl ?_
            refine zJ_if_ne (tgt := 77) dX9_luck_68 (by decide) (fun h68 => ?_) (fun h68 => ?_)
            · have hv9 : ¬ j = 0 := fun h => h68 (by rw [h]; rfl)
              refine zJ_lconst (v := 0) dX9_luck_77 (by decide) ?_
              refine zJ_lastN (i := j) dX9_luck_78 (by first | rfl | assumption | exact M0.at (by decide) (by decide)) rfl (by omega) (by decide) ?_
              refine zJ_iinc (ls2 := fun x79 => [(4, .int x79), (0, .ref 100), (1, .int (nI n)), (2, .int (nI k)), (3, .int (nI c))]) dX9_luck_79 rfl (by decide) (fun _ => rfl) (fun x79 ex79 => ?_)
              refine zJ_goto (tgt := 53) dX9_luck_82 (by decide) ?_
              refine zJ_ls [(4, .int x79), (0, .ref 100), (1, .int (nI n)), (2, .int (nI k)), (3, .int (nI c))] (by simp) ?_
              rw [ex79, show nI j + Int32.ofInt 1 = nI (j + 1) from nI_1 _]
              refine zJ_w ?_ (ih (j + 1) (by omega) (by omega))
              rw [zsl_row, zrol_get, zrol_rol]
              refine congrArg (zrol (zsi w 100 0 0) 175) (funext fun p => ?_)
              by_cases h : p = j
              · subst h; rw [if_pos rfl, if_pos (by omega)]; simp only [zlu]; first | (rw [if_pos hv9]; rfl) | (rw [if_neg hv9]; rfl)
              · have c3 : (p < j + 1) = (p < j) := by simp only [eq_iff_iff]; omega
                simp only [h, if_false, c3]
            · have hv9 : j = 0 := (nI_eq (b := 0) (by omega) (by decide)).mp h68
              refine zJ_ldc2 dX9_luck_71 kX9_372 ?_
              refine zJ_goto (tgt := 78) dX9_luck_74 (by decide) ?_
              refine zJ_lastN (i := j) dX9_luck_78 (by first | rfl | assumption | exact M0.at (by decide) (by decide)) rfl (by omega) (by decide) ?_
              refine zJ_iinc (ls2 := fun x79 => [(4, .int x79), (0, .ref 100), (1, .int (nI n)), (2, .int (nI k)), (3, .int (nI c))]) dX9_luck_79 rfl (by decide) (fun _ => rfl) (fun x79 ex79 => ?_)
              refine zJ_goto (tgt := 53) dX9_luck_82 (by decide) ?_
              refine zJ_ls [(4, .int x79), (0, .ref 100), (1, .int (nI n)), (2, .int (nI k)), (3, .int (nI c))] (by simp) ?_
              rw [ex79, show nI j + Int32.ofInt 1 = nI (j + 1) from nI_1 _]
              refine zJ_w ?_ (ih (j + 1) (by omega) (by omega))
              rw [zsl_row, zrol_get, zrol_rol]
              refine congrArg (zrol (zsi w 100 0 0) 175) (funext fun p => ?_)
              by_cases h : p = j
              · subst h; rw [if_pos rfl, if_pos (by omega)]; simp only [zlu]; first | (rw [if_pos hv9]; rfl) | (rw [if_neg hv9]; rfl)
              · have c3 : (p < j + 1) = (p < j) := by simp only [eq_iff_iff]; omega
                simp only [h, if_false, c3]
        refine zJ_aload_n dX9_luck_0 rfl ?_
        refine zJ_iconst (v := 0) dX9_luck_1 (by decide) ?_
        refine zJ_puti dX9_luck_2 fX9_170 (fun q h => by cases h; rfl) (by first | rfl | assumption | exact M0.at (by decide) (by decide)) rfl rfl rfl ?_
        refine zJ_aload_n dX9_luck_5 rfl ?_
        refine zJ_iload_n dX9_luck_6 rfl ?_
        refine zJ_iconst (v := 0) dX9_luck_7 (by decide) ?_
        refine zJ_bipush (v := 30) dX9_luck_8 (by decide) ?_
        refine zJ_cS3 dX9_luck_10 sX9_336 mfX9_within ((c_Mo_within Δ (zsi w 100 0 0) (nI n) 0 30 (by decide) (by decide)).1 ⟨n, Nat.zero_le _, hn, rfl⟩) (Nat.le_of_ble_eq_true rfl) (by decide) (by decide) ?_
        refine zJ_if_eq (tgt := 40) dX9_luck_13 (by decide) (fun h9 => False.elim (by revert h9; decide)) (fun _ => ?_)
        refine zJ_iload_n dX9_luck_16 rfl ?_
        refine zJ_iconst (v := 0) dX9_luck_17 (by decide) ?_
        refine zJ_iload_n dX9_luck_18 rfl ?_
        refine zJ_cS3 dX9_luck_19 sX9_336 mfX9_within ((c_Mo_within Δ (zsi w 100 0 0) (nI k) 0 n (by decide) (by omega)).1 ⟨k, Nat.zero_le _, hk, rfl⟩) (Nat.le_of_ble_eq_true rfl) (by decide) (by decide) ?_
        refine zJ_if_eq (tgt := 40) dX9_luck_22 (by decide) (fun h9 => False.elim (by revert h9; decide)) (fun _ => ?_)
        refine zJ_iload_n dX9_luck_25 rfl ?_
        refine zJ_iconst (v := 0) dX9_luck_26 (by decide) ?_
        refine zJ_sipush (v := 1000) dX9_luck_27 (by decide) ?_
        refine zJ_cS3 dX9_luck_30 sX9_336 mfX9_within ((c_Mo_within Δ (zsi w 100 0 0) (nI c) 0 1000 (by decide) (by decide)).1 ⟨c, Nat.zero_le _, hc, rfl⟩) (Nat.le_of_ble_eq_true rfl) (by decide) (by decide) ?_
        refine zJ_if_eq (tgt := 40) dX9_luck_33 (by decide) (fun h9 => False.elim (by revert h9; decide)) (fun _ => ?_)
        refine zJ_iconst (v := 1) dX9_luck_36 (by decide) ?_
        refine zJ_goto (tgt := 41) dX9_luck_37 (by decide) ?_
        refine zJ_iconst (v := 1) dX9_luck_41 (by decide) ?_
        refine zJ_cV2 dX9_luck_42 sX9_291 mfX9_right (c_Mo_right1 Δ (zsi w 100 0 0) M0 z0 1) (by first | rfl | assumption | exact M0.at (by decide) (by decide)) rfl (Nat.le_of_ble_eq_true rfl) (by decide) (by decide) ?_
        refine zJ_if_ne (tgt := 50) dX9_luck_45 (by decide) (fun _ => ?_) (fun h9 => False.elim (by revert h9; decide))
        refine zJ_iconst (v := 0) dX9_luck_50 (by decide) ?_
        refine zJ_istore (ls2 := fun x51 => [(4, .int x51), (0, .ref 100), (1, .int (nI n)), (2, .int (nI k)), (3, .int (nI c))]) dX9_luck_51 (by decide) (fun _ => rfl) (fun x51 ex51 => ?_)
        obtain rfl : x51 = (nI 0) := ex51
        refine zJ_w ?_ (L0 0 (Nat.zero_le _))
        refine (zrol_self (zsi w 100 0 0) 175).symm.trans (congrArg (zrol (zsi w 100 0 0) 175) (funext fun p => ?_))
        rw [if_neg (Nat.not_lt_zero p)]; rfl
      · obtain ⟨n, -, hn, rfl⟩ := ha
        obtain ⟨k, -, hk, rfl⟩ := hb n hn rfl
        have hno : ¬ (∃ n2 k2 c2, n2 ≤ 30 ∧ nI n = nI n2 ∧ k2 ≤ n2 ∧ nI k = nI k2 ∧ c2 ≤ 1000 ∧ e = nI c2) := fun ⟨n2, k2, c2, q1, q2, q3, q4, q5, q6⟩ => he ⟨c2, Nat.zero_le _, q5, q6⟩
        refine zJ_aload_n dX9_luck_0 rfl ?_
        refine zJ_iconst (v := 0) dX9_luck_1 (by decide) ?_
        refine zJ_puti dX9_luck_2 fX9_170 (fun q h => by cases h; rfl) (by first | rfl | assumption | exact M0.at (by decide) (by decide)) rfl rfl rfl ?_
        refine zJ_aload_n dX9_luck_5 rfl ?_
        refine zJ_iload_n dX9_luck_6 rfl ?_
        refine zJ_iconst (v := 0) dX9_luck_7 (by decide) ?_
        refine zJ_bipush (v := 30) dX9_luck_8 (by decide) ?_
        refine zJ_cS3 dX9_luck_10 sX9_336 mfX9_within ((c_Mo_within Δ (zsi w 100 0 0) (nI n) 0 30 (by decide) (by decide)).1 ⟨n, Nat.zero_le _, hn, rfl⟩) (Nat.le_of_ble_eq_true rfl) (by decide) (by decide) ?_
        refine zJ_if_eq (tgt := 40) dX9_luck_13 (by decide) (fun h9 => False.elim (by revert h9; decide)) (fun _ => ?_)
        refine zJ_iload_n dX9_luck_16 rfl ?_
        refine zJ_iconst (v := 0) dX9_luck_17 (by decide) ?_
        refine zJ_iload_n dX9_luck_18 rfl ?_
        refine zJ_cS3 dX9_luck_19 sX9_336 mfX9_within ((c_Mo_within Δ (zsi w 100 0 0) (nI k) 0 n (by decide) (by omega)).1 ⟨k, Nat.zero_le _, hk, rfl⟩) (Nat.le_of_ble_eq_true rfl) (by decide) (by decide) ?_
        refine zJ_if_eq (tgt := 40) dX9_luck_22 (by decide) (fun h9 => False.elim (by revert h9; decide)) (fun _ => ?_)
        refine zJ_iload_n dX9_luck_25 rfl ?_
        refine zJ_iconst (v := 0) dX9_luck_26 (by decide) ?_
        refine zJ_sipush (v := 1000) dX9_luck_27 (by decide) ?_
        refine zJ_cS3 dX9_luck_30 sX9_336 mfX9_within ((c_Mo_within Δ (zsi w 100 0 0) e 0 1000 (by decide) (by decide)).2 he) (Nat.le_of_ble_eq_true rfl) (by decide) (by decide) ?_
        refine zJ_if_eq (tgt := 40) dX9_luck_33 (by decide) (fun _ => ?_) (fun h9 => False.elim (by revert h9; decide))
        refine zJ_iconst (v := 0) dX9_luck_40 (by decide) ?_
        refine zJ_iconst (v := 1) dX9_luck_41 (by decide) ?_
        refine zJ_cV2 dX9_luck_42 sX9_291 mfX9_right (c_Mo_right0 Δ (zsi w 100 0 0) M0 z0 1 (by decide)) (by first | rfl | assumption | exact M0.at (by decide) (by decide)) rfl (Nat.le_of_ble_eq_true rfl) (by decide) (by decide) ?_
        refine zJ_if_ne (tgt := 50) dX9_luck_45 (by decide) (fun h9 => False.elim (by revert h9; decide)) (fun _ => ?_)
        refine zJ_iconst (v := 0) dX9_luck_48 (by decide) ?_
        exact zJ_iret dX9_luck_49 rfl (by decide) (by decide) (hQ _ _ ⟨zFM.t0.tr zFM.t0, Or.inl ⟨hno, by simp [zsi]⟩⟩)
    · obtain ⟨n, -, hn, rfl⟩ := ha
      have hb2 : ¬ ∃ k, 0 ≤ k ∧ k ≤ n ∧ b = nI k := fun h => hb (fun n2 h1 h2 => by
        obtain rfl := (nI_eq (by omega) (by omega)).mp h2
        exact h)
      have hno : ¬ (∃ n2 k2 c2, n2 ≤ 30 ∧ nI n = nI n2 ∧ k2 ≤ n2 ∧ b = nI k2 ∧ c2 ≤ 1000 ∧ e = nI c2) := fun ⟨n2, k2, c2, q1, q2, q3, q4, q5, q6⟩ => by
        obtain rfl := (nI_eq (by omega) (by omega)).mp q2
        exact hb2 ⟨k2, Nat.zero_le _, q3, q4⟩
      refine zJ_aload_n dX9_luck_0 rfl ?_
      refine zJ_iconst (v := 0) dX9_luck_1 (by decide) ?_
      refine zJ_puti dX9_luck_2 fX9_170 (fun q h => by cases h; rfl) (by first | rfl | assumption | exact M0.at (by decide) (by decide)) rfl rfl rfl ?_
      refine zJ_aload_n dX9_luck_5 rfl ?_
      refine zJ_iload_n dX9_luck_6 rfl ?_
      refine zJ_iconst (v := 0) dX9_luck_7 (by decide) ?_
      refine zJ_bipush (v := 30) dX9_luck_8 (by decide) ?_
      refine zJ_cS3 dX9_luck_10 sX9_336 mfX9_within ((c_Mo_within Δ (zsi w 100 0 0) (nI n) 0 30 (by decide) (by decide)).1 ⟨n, Nat.zero_le _, hn, rfl⟩) (Nat.le_of_ble_eq_true rfl) (by decide) (by decide) ?_
      refine zJ_if_eq (tgt := 40) dX9_luck_13 (by decide) (fun h9 => False.elim (by revert h9; decide)) (fun _ => ?_)
      refine zJ_iload_n dX9_luck_16 rfl ?_
      refine zJ_iconst (v := 0) dX9_luck_17 (by decide) ?_
      refine zJ_iload_n dX9_luck_18 rfl ?_
      refine zJ_cS3 dX9_luck_19 sX9_336 mfX9_within ((c_Mo_within Δ (zsi w 100 0 0) b 0 n (by decide) (by omega)).2 hb2) (Nat.le_of_ble_eq_true rfl) (by decide) (by decide) ?_
      refine zJ_if_eq (tgt := 40) dX9_luck_22 (by decide) (fun _ => ?_) (fun h9 => False.elim (by revert h9; decide))
      refine zJ_iconst (v := 0) dX9_luck_40 (by decide) ?_
      refine zJ_iconst (v := 1) dX9_luck_41 (by decide) ?_
      refine zJ_cV2 dX9_luck_42 sX9_291 mfX9_right (c_Mo_right0 Δ (zsi w 100 0 0) M0 z0 1 (by decide)) (by first | rfl | assumption | exact M0.at (by decide) (by decide)) rfl (Nat.le_of_ble_eq_true rfl) (by decide) (by decide) ?_
      refine zJ_if_ne (tgt := 50) dX9_luck_45 (by decide) (fun h9 => False.elim (by revert h9; decide)) (fun _ => ?_)
      refine zJ_iconst (v := 0) dX9_luck_48 (by decide) ?_
      exact zJ_iret dX9_luck_49 rfl (by decide) (by decide) (hQ _ _ ⟨zFM.t0.tr zFM.t0, Or.inl ⟨hno, by simp [zsi]⟩⟩)
  · have hno : ¬ (∃ n k c, n ≤ 30 ∧ a = nI n ∧ k ≤ n ∧ b = nI k ∧ c ≤ 1000 ∧ e = nI c) := fun ⟨n, k, c, q1, q2, q3, q4, q5, q6⟩ => by
      exact ha ⟨n, Nat.zero_le _, q1, q2⟩
    refine zJ_aload_n dX9_luck_0 rfl ?_
    refine zJ_iconst (v := 0) dX9_luck_1 (by decide) ?_
    refine zJ_puti dX9_luck_2 fX9_170 (fun q h => by cases h; rfl) (by first | rfl | assumption | exact M0.at (by decide) (by decide)) rfl rfl rfl ?_
    refine zJ_aload_n dX9_luck_5 rfl ?_
    refine zJ_iload_n dX9_luck_6 rfl ?_
    refine zJ_iconst (v := 0) dX9_luck_7 (by decide) ?_
    refine zJ_bipush (v := 30) dX9_luck_8 (by decide) ?_
    refine zJ_cS3 dX9_luck_10 sX9_336 mfX9_within ((c_Mo_within Δ (zsi w 100 0 0) a 0 30 (by decide) (by decide)).2 ha) (Nat.le_of_ble_eq_true rfl) (by decide) (by decide) ?_
    refine zJ_if_eq (tgt := 40) dX9_luck_13 (by decide) (fun _ => ?_) (fun h9 => False.elim (by revert h9; decide))
    refine zJ_iconst (v := 0) dX9_luck_40 (by decide) ?_
    refine zJ_iconst (v := 1) dX9_luck_41 (by decide) ?_
    refine zJ_cV2 dX9_luck_42 sX9_291 mfX9_right (c_Mo_right0 Δ (zsi w 100 0 0) M0 z0 1 (by decide)) (by first | rfl | assumption | exact M0.at (by decide) (by decide)) rfl (Nat.le_of_ble_eq_true rfl) (by decide) (by decide) ?_
    refine zJ_if_ne (tgt := 50) dX9_luck_45 (by decide) (fun h9 => False.elim (by revert h9; decide)) (fun _ => ?_)
    refine zJ_iconst (v := 0) dX9_luck_48 (by decide) ?_
    exact zJ_iret dX9_luck_49 rfl (by decide) (by decide) (hQ _ _ ⟨zFM.t0.tr zFM.t0, Or.inl ⟨hno, by simp [zsi]⟩⟩)
