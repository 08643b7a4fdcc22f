theorem zrq_stop {p : Nat → Bool} : ∀ m a, zrq p m a < a + m → p (zrq p m a) = false
  | 0, a, h => by simp only [zrq] at h; omega
  | m + 1, a, h => by
    simp only [zrq] at h ⊢
    by_cases hp : p a = true
    · rw [if_pos hp] at h ⊢
      exact zrq_stop m (a + 1) (by omega)
    · rw [if_neg hp]
      exact Bool.eq_false_iff.mpr hp
theorem zrun_stop {p : Nat → Bool} {n a : Nat} (h : a ≤ n) (hs : zrun p n a < n) : p (zrun p n a) = false := zrq_stop (n - a) a (by simp only [zrun] at hs; omega)
theorem zwp_lt {tx : Nat → Nat} {f : Nat} : ∀ d, (∀ i, i < d → zlet (tx (f + i)) = true) → zwp tx f d < 32 ^ (min d 7)
  | 0, _ => by simp [zwp]
  | d + 1, h => by
    have ih := zwp_lt (tx := tx) (f := f) d (fun i hi => h i (by omega))
    have h1 := h d (by omega)
    simp only [zlet, Bool.and_eq_true, decide_eq_true_eq] at h1
    simp only [zwp]
    split
    · rename_i h4
      rw [Nat.min_eq_left (by omega)] at ih ⊢
      rw [Nat.pow_succ]; omega
    · rename_i h4
      rw [Nat.min_eq_right (by omega)] at ih ⊢
      exact ih
theorem lN_or5 {a j : Nat} (hj : j < 32) : lN (a * 2 ^ 5) ||| lN j = lN (a * 32 + j) := by
  rw [Int64.or_comm, show a * 2 ^ 5 = 2 ^ 5 * a by omega, lN_orS (k := 5) a hj, show 2 ^ 5 * a + j = a * 32 + j by omega]
set_option maxRecDepth 100000 in
theorem c_Mo_steps (Δ : zD) (w : zW) (tx : Nat → Nat) (n a : Nat) (hR : zRm9 w tx n) (ha : a ≤ n) (hat : w.2.1 100 19 = nI a) : zMp Δ 1 yX9_steps mX9_steps [.ref 100] w (fun r c => r = none ∧ zFM [19, 20, 21, 22, 23, 24] w c ∧ zMk c tx (ztk tx n a)) := by
  refine zMp.of mfX9_steps (Nat.le_of_ble_eq_true rfl) (fun QR hQ => ?_)
  have hn7 := hR.2.2.1
  have hrn := zrun_le (p := fun i => zblk (tx i)) ha
  have hM := hR.1
  have ht256 : ∀ k, zbt tx n k < 256 := fun k => by
    simp only [zbt]; split
    · exact (hR.2.2.2 k (by omega)).2
    · decide
  generalize hfd : zrun (fun i => zblk (tx i)) n a = f at hrn
  have htk : ztk tx n a = ztk0 tx n f := by simp only [ztk, hfd]
  rw [htk] at hQ
  have LE : ∀ (w1 : zW) (t : zTkn), zFM [19, 20, 21, 22, 23, 24] w w1 → t = ztk0 tx n f → w1.2.1 100 19 = nI t.2.2.1 → w1.2.1 100 20 = nI t.1 → w1.2.1 100 21 = nI t.2.1 → t.2.1 ≤ t.2.2.1 → (t.1 = 2 → w1.2.1 100 23 = nI t.2.2.2) → (t.1 = 1 → w1.2.2.1 100 24 = lN (zwp tx t.2.1 (t.2.2.1 - t.2.1))) → zJ Δ mX9_steps (zRm 1 0 0) true w.1 QR (fun _ _ => False) 0 0 278 [(1, .int (nI (zbt tx n f))), (0, .ref 100)] [] w1 := by
    intro w1 t hf ht f19 f20 f21 hle f23 f24
    have M1 : zMs w1 := hM.fm hf
    rw [← ht] at hQ
    refine zJ_aload_n dX9_steps_278 rfl ?_
    refine zJ_aload_n dX9_steps_279 rfl ?_
    refine zJ_getiN dX9_steps_280 fX9_183 (by first | rfl | assumption | exact M1.at (by decide) (by decide)) rfl f19 ?_
    refine zJ_aload_n dX9_steps_283 rfl ?_
    refine zJ_getiN dX9_steps_284 fX9_190 (by first | rfl | assumption | exact M1.at (by decide) (by decide)) rfl f21 ?_
    refine zJ_isub dX9_steps_287 ?_
    rw [na_sub hle]
    refine zJ_puti dX9_steps_288 fX9_210 (fun q h => by cases h; rfl) (by first | rfl | assumption | exact M1.at (by decide) (by decide)) rfl rfl rfl ?_
    exact zJ_vret dX9_steps_291 rfl (by decide) (by decide) (hQ _ _ ⟨rfl, hf.tr (zFM.i (by decide)), by simp [zsi, f19], by simp [zsi, f20], by simp [zsi, f21], by simp [zsi], fun h => by simp [zsi, f23 h], fun h => by simp [zsi, f24 h]⟩)
  have hle1 := zrun_le (p := fun i => zlet (tx i)) hrn.2
  have hle2 := zrun_le (p := fun i => zdig (tx i)) hrn.2
  have LW : ¬ n ≤ f → zlet (tx f) = true → ∀ d, d ≤ (zrun (fun i => zlet (tx i)) n f) - f → ∀ w1, zFM [19, 20, 21, 22, 23, 24] w w1 → w1.2.1 100 19 = nI (f + d) → w1.2.1 100 21 = nI f → w1.2.2.1 100 24 = lN (zwp tx f d) → zJ Δ mX9_steps (zRm 1 0 0) true w.1 QR (fun _ _ => False) 0 0 103 [(1, .int (nI (zbt tx n f))), (0, .ref 100)] [] w1 := by
    intro hnf hl
    refine zup (fun d hd ih => ?_)
    intro w1 hf f19 f21 fv
    have M1 : zMs w1 := hM.fm hf
    have hb := ht256 (f + d)
    by_cases hd0 : d = (zrun (fun i => zlet (tx i)) n f) - f
    · have hnl : zlet (zbt tx n (f + d)) = false := by
        rw [show f + d = (zrun (fun i => zlet (tx i)) n f) by omega]
        simp only [zbt]
        split
        · rename_i h9
          exact zrun_stop (p := fun i => zlet (tx i)) hrn.2 h9
        · rfl
      refine zJ_aload_n dX9_steps_103 rfl ?_
      refine zJ_aload_n dX9_steps_104 rfl ?_
      refine zJ_getiN dX9_steps_105 fX9_183 (by first | rfl | assumption | exact M1.at (by decide) (by decide)) rfl f19 ?_
      refine zJ_cV1 dX9_steps_108 sX9_186 mfX9_byteAt (c_Mo_byteAt Δ w1 tx n (f + d) (hR.fm hf (by decide)) (by omega)) (by first | rfl | assumption | exact M1.at (by decide) (by decide)) rfl (Nat.le_of_ble_eq_true rfl) (by decide) (by decide) ?_
      refine zJ_cS1 dX9_steps_111 sX9_203 mfX9_isLetter (c_Mo_isLetter Δ w1 (zbt tx n (f + d)) hb) (Nat.le_of_ble_eq_true rfl) (by decide) (by decide) ?_
      rw [hnl]
      refine zJ_if_eq (tgt := 167) dX9_steps_114 (by decide) (fun _ => ?_) (fun h9 => False.elim (by revert h9; decide))
      refine zJ_aload_n dX9_steps_167 rfl ?_
      refine zJ_iconst (v := 1) dX9_steps_168 (by decide) ?_
      refine zJ_puti dX9_steps_169 fX9_200 (fun q h => by cases h; rfl) (by first | rfl | assumption | exact M1.at (by decide) (by decide)) rfl rfl rfl ?_
      refine zJ_goto (tgt := 278) dX9_steps_172 (by decide) ?_
      refine LE _ (1, f, (zrun (fun i => zlet (tx i)) n f), 0) (hf.tr (zFM.i (by decide))) ?_ ?_ ?_ ?_ ?_ ?_ ?_
      · simp only [ztk0]; rw [if_neg hnf, if_pos hl]
      · simp only [zsi]; simp [f19]; exact congrArg nI (by omega)
      · simp [zsi]; rfl
      · simp [zsi, f21]
      · exact hle1.1
      · exact fun h => absurd (show (1 : Nat) = 2 from h) (by decide)
      · exact fun _ => by rw [← hd0]; exact fv
    · have hdn : f + d < n := by omega
      have hbe : zbt tx n (f + d) = tx (f + d) := by simp only [zbt, hdn, if_true]
      have hyl : zlet (tx (f + d)) = true := zrun_all (p := fun i => zlet (tx i)) (show f ≤ f + d by omega) (show f + d < (zrun (fun i => zlet (tx i)) n f) by omega)
      have hsp := hyl
      simp only [zlet, Bool.and_eq_true, decide_eq_true_eq] at hsp
      have hst : nI (f + d) - nI f = nI d := by rw [na_sub (by omega)]; exact congrArg nI (by omega)
      by_cases hd7 : d < 7
      · refine zJ_aload_n dX9_steps_103 rfl ?_
        refine zJ_aload_n dX9_steps_104 rfl ?_
        refine zJ_getiN dX9_steps_105 fX9_183 (by first | rfl | assumption | exact M1.at (by decide) (by decide)) rfl (by first | exact f19 | (simp only [zsl]; exact f19)) ?_
        refine zJ_cV1 dX9_steps_108 sX9_186 mfX9_byteAt (c_Mo_byteAt Δ w1 tx n (f + d) (hR.fm hf (by decide)) (by omega)) (by first | rfl | assumption | exact M1.at (by decide) (by decide)) rfl (Nat.le_of_ble_eq_true rfl) (by decide) (by decide) ?_
        refine zJ_cS1 dX9_steps_111 sX9_203 mfX9_isLetter (c_Mo_isLetter Δ w1 (zbt tx n (f + d)) hb) (Nat.le_of_ble_eq_true rfl) (by decide) (by decide) ?_
        rw [hbe, hyl]
        refine zJ_if_eq (tgt := 167) dX9_steps_114 (by decide) (fun h9 => False.elim (by revert h9; decide)) (fun _ => ?_)
        refine zJ_aload_n dX9_steps_117 rfl ?_
        refine zJ_getiN dX9_steps_118 fX9_183 (by first | rfl | assumption | exact M1.at (by decide) (by decide)) rfl (by first | exact f19 | (simp only [zsl]; exact f19)) ?_
        refine zJ_aload_n dX9_steps_121 rfl ?_
        refine zJ_getiN dX9_steps_122 fX9_190 (by first | rfl | assumption | exact M1.at (by decide) (by decide)) rfl f21 ?_
        refine zJ_isub dX9_steps_125 ?_
        rw [hst]
        refine zJ_bipush (v := 7) dX9_steps_126 (by decide) ?_
        refine zJ_icmp_ge (tgt := 154) dX9_steps_128 (by decide) (fun h9 => absurd h9 (fun h => absurd ((nI_leI (a := 7) (by decide) (by omega)).mp h) (by omega))) (fun h128 => ?_)
        refine zJ_aload_n dX9_steps_131 rfl ?_
        refine zJ_aload_n dX9_steps_132 rfl ?_
        refine zJ_getl dX9_steps_133 fX9_193 (by first | rfl | assumption | exact M1.at (by decide) (by decide)) rfl ?_
        rw [fv]
        refine zJ_iconst (v := 5) dX9_steps_136 (by decide) ?_
        refine zJ_lshl dX9_steps_137 ?_
        rw [show lN (zwp tx f d) <<< ((5 : Int32).toInt64 &&& 63) = lN (zwp tx f d * 2 ^ 5) from lN_shlI (k := 5) rfl (by decide)]
        refine zJ_aload_n dX9_steps_138 rfl ?_
        refine zJ_aload_n dX9_steps_139 rfl ?_
        refine zJ_getiN dX9_steps_140 fX9_183 (by first | rfl | assumption | exact M1.at (by decide) (by decide)) rfl (by first | exact f19 | (simp only [zsl]; exact f19)) ?_
        refine zJ_cV1 dX9_steps_143 sX9_186 mfX9_byteAt (c_Mo_byteAt Δ w1 tx n (f + d) (hR.fm hf (by decide)) (by omega)) (by first | rfl | assumption | exact M1.at (by decide) (by decide)) rfl (Nat.le_of_ble_eq_true rfl) (by decide) (by decide) ?_
        rw [hbe]
        refine zJ_bipush (v := 96) dX9_steps_146 (by decide) ?_
        refine zJ_isub dX9_steps_148 ?_
        rw [show nI (tx (f + d)) - 96 = nI (tx (f + d) - 96) from na_sub (b := 96) (by omega)]
        refine zJ_i2l dX9_steps_149 ?_
        rw [nI_l (by omega)]
        refine zJ_lor dX9_steps_150 ?_
        rw [lN_or5 (by omega)]
        refine zJ_putl dX9_steps_151 fX9_193 (fun q h => by cases h; rfl) (by first | rfl | assumption | exact M1.at (by decide) (by decide)) rfl ?_
        refine zJ_aload_n dX9_steps_154 rfl ?_
        refine zJ_dup dX9_steps_155 rfl ?_
        refine zJ_getiN dX9_steps_156 fX9_183 (by first | rfl | assumption | exact M1.at (by decide) (by decide)) rfl (by first | exact f19 | (simp only [zsl]; exact f19)) ?_
        refine zJ_iconst (v := 1) dX9_steps_159 (by decide) ?_
        refine zJ_iadd dX9_steps_160 ?_
        rw [show nI (f + d) + 1 = nI (f + (d + 1)) from nI_1 _]
        refine zJ_puti dX9_steps_161 fX9_183 (fun q h => by cases h; rfl) (by first | rfl | assumption | exact M1.at (by decide) (by decide)) rfl rfl rfl ?_
        refine zJ_goto (tgt := 103) dX9_steps_164 (by decide) ?_
        refine ih (d + 1) (by omega) (by omega) _ ((hf.tr (zFM.l (by decide))).tr (zFM.i (by decide))) ?_ ?_ ?_
        · simp only [zsi]; first | (simp; done) | (simp; rfl)
        · simp [zsi, zsl, f21]
        · simp only [zsi, zsl, zwp]; rw [if_pos hd7]; simp
      · refine zJ_aload_n dX9_steps_103 rfl ?_
        refine zJ_aload_n dX9_steps_104 rfl ?_
        refine zJ_getiN dX9_steps_105 fX9_183 (by first | rfl | assumption | exact M1.at (by decide) (by decide)) rfl f19 ?_
        refine zJ_cV1 dX9_steps_108 sX9_186 mfX9_byteAt (c_Mo_byteAt Δ w1 tx n (f + d) (hR.fm hf (by decide)) (by omega)) (by first | rfl | assumption | exact M1.at (by decide) (by decide)) rfl (Nat.le_of_ble_eq_true rfl) (by decide) (by decide) ?_
        refine zJ_cS1 dX9_steps_111 sX9_203 mfX9_isLetter (c_Mo_isLetter Δ w1 (zbt tx n (f + d)) hb) (Nat.le_of_ble_eq_true rfl) (by decide) (by decide) ?_
        rw [hbe, hyl]
        refine zJ_if_eq (tgt := 167) dX9_steps_114 (by decide) (fun h9 => False.elim (by revert h9; decide)) (fun _ => ?_)
        refine zJ_aload_n dX9_steps_117 rfl ?_
        refine zJ_getiN dX9_steps_118 fX9_183 (by first | rfl | assumption | exact M1.at (by decide) (by decide)) rfl f19 ?_
        refine zJ_aload_n dX9_steps_121 rfl ?_
        refine zJ_getiN dX9_steps_122 fX9_190 (by first | rfl | assumption | exact M1.at (by decide) (by decide)) rfl f21 ?_
        refine zJ_isub dX9_steps_125 ?_
        rw [hst]
        refine zJ_bipush (v := 7) dX9_steps_126 (by decide) ?_
        refine zJ_icmp_ge (tgt := 154) dX9_steps_128 (by decide) (fun h128 => ?_) (fun h9 => absurd ((nI_leI (a := 7) (by decide) (by omega)).mpr (by omega)) h9)
        refine zJ_aload_n dX9_steps_154 rfl ?_
        refine zJ_dup dX9_steps_155 rfl ?_
        refine zJ_getiN dX9_steps_156 fX9_183 (by first | rfl | assumption | exact M1.at (by decide) (by decide)) rfl f19 ?_
        refine zJ_iconst (v := 1) dX9_steps_159 (by decide) ?_
        refine zJ_iadd dX9_steps_160 ?_
        rw [show nI (f + d) + 1 = nI (f + (d + 1)) from nI_1 _]
        refine zJ_puti dX9_steps_161 fX9_183 (fun q h => by cases h; rfl) (by first | rfl | assumption | exact M1.at (by decide) (by decide)) rfl rfl rfl ?_
        refine zJ_goto (tgt := 103) dX9_steps_164 (by decide) ?_
        refine ih (d + 1) (by omega) (by omega) _ (hf.tr (zFM.i (by decide))) ?_ ?_ ?_
        · simp only [zsi]; first | (simp; done) | (simp; rfl)
        · simp [zsi, f21]
        · simp only [zwp]; rw [if_neg hd7]; exact fv
  have LN : ¬ n ≤ f → zlet (tx f) = false → zdig (tx f) = true → ∀ d, d ≤ (zrun (fun i => zdig (tx i)) n f) - f → ∀ w1, zFM [19, 20, 21, 22, 23, 24] w w1 → w1.2.1 100 19 = nI (f + d) → w1.2.1 100 21 = nI f → w1.2.1 100 23 = nI (zvd tx f d) → zJ Δ mX9_steps (zRm 1 0 0) true w.1 QR (fun _ _ => False) 0 0 182 [(1, .int (nI (zbt tx n f))), (0, .ref 100)] [] w1 := by
    intro hnf hl hl2
    refine zup (fun d hd ih => ?_)
    intro w1 hf f19 f21 fv
    have M1 : zMs w1 := hM.fm hf
    have hb := ht256 (f + d)
    by_cases hd0 : d = (zrun (fun i => zdig (tx i)) n f) - f
    · have hnl : zdig (zbt tx n (f + d)) = false := by
        rw [show f + d = (zrun (fun i => zdig (tx i)) n f) by omega]
        simp only [zbt]
        split
        · rename_i h9
          exact zrun_stop (p := fun i => zdig (tx i)) hrn.2 h9
        · rfl
      refine zJ_aload_n dX9_steps_182 rfl ?_
      refine zJ_aload_n dX9_steps_183 rfl ?_
      refine zJ_getiN dX9_steps_184 fX9_183 (by first | rfl | assumption | exact M1.at (by decide) (by decide)) rfl f19 ?_
      refine zJ_cV1 dX9_steps_187 sX9_186 mfX9_byteAt (c_Mo_byteAt Δ w1 tx n (f + d) (hR.fm hf (by decide)) (by omega)) (by first | rfl | assumption | exact M1.at (by decide) (by decide)) rfl (Nat.le_of_ble_eq_true rfl) (by decide) (by decide) ?_
      refine zJ_cS1 dX9_steps_190 sX9_207 mfX9_isDigit (c_Mo_isDigit Δ w1 (zbt tx n (f + d)) hb) (Nat.le_of_ble_eq_true rfl) (by decide) (by decide) ?_
      rw [hnl]
      refine zJ_if_eq (tgt := 245) dX9_steps_193 (by decide) (fun _ => ?_) (fun h9 => False.elim (by revert h9; decide))
      refine zJ_aload_n dX9_steps_245 rfl ?_
      refine zJ_iconst (v := 2) dX9_steps_246 (by decide) ?_
      refine zJ_puti dX9_steps_247 fX9_200 (fun q h => by cases h; rfl) (by first | rfl | assumption | exact M1.at (by decide) (by decide)) rfl rfl rfl ?_
      refine zJ_goto (tgt := 278) dX9_steps_250 (by decide) ?_
      refine LE _ (2, f, (zrun (fun i => zdig (tx i)) n f), zvd tx f ((zrun (fun i => zdig (tx i)) n f) - f)) (hf.tr (zFM.i (by decide))) ?_ ?_ ?_ ?_ ?_ ?_ ?_
      · simp only [ztk0]; rw [if_neg hnf, if_neg (by rw [hl]; decide), if_pos hl2]
      · simp only [zsi]; simp [f19]; exact congrArg nI (by omega)
      · simp [zsi]; rfl
      · simp [zsi, f21]
      · exact hle2.1
      · exact fun _ => by simp only [zsi]; simp; rw [← hd0]; exact fv
      · exact fun h => absurd (show (2 : Nat) = 1 from h) (by decide)
    · have hdn : f + d < n := by omega
      have hbe : zbt tx n (f + d) = tx (f + d) := by simp only [zbt, hdn, if_true]
      have hyl : zdig (tx (f + d)) = true := zrun_all (p := fun i => zdig (tx i)) (show f ≤ f + d by omega) (show f + d < (zrun (fun i => zdig (tx i)) n f) by omega)
      have hsp := hyl
      simp only [zdig, Bool.and_eq_true, decide_eq_true_eq] at hsp
      have hst : nI (f + d) - nI f = nI d := by rw [na_sub (by omega)]; exact congrArg nI (by omega)
      by_cases hd7 : d < 4
      · refine zJ_aload_n dX9_steps_182 rfl ?_
        refine zJ_aload_n dX9_steps_183 rfl ?_
        refine zJ_getiN dX9_steps_184 fX9_183 (by first | rfl | assumption | exact M1.at (by decide) (by decide)) rfl (by first | exact f19 | (simp [zsi]; exact f19)) ?_
        refine zJ_cV1 dX9_steps_187 sX9_186 mfX9_byteAt (c_Mo_byteAt Δ w1 tx n (f + d) (hR.fm hf (by decide)) (by omega)) (by first | rfl | assumption | exact M1.at (by decide) (by decide)) rfl (Nat.le_of_ble_eq_true rfl) (by decide) (by decide) ?_
        refine zJ_cS1 dX9_steps_190 sX9_207 mfX9_isDigit (c_Mo_isDigit Δ w1 (zbt tx n (f + d)) hb) (Nat.le_of_ble_eq_true rfl) (by decide) (by decide) ?_
        rw [hbe, hyl]
        refine zJ_if_eq (tgt := 245) dX9_steps_193 (by decide) (fun h9 => False.elim (by revert h9; decide)) (fun _ => ?_)
        refine zJ_aload_n dX9_steps_196 rfl ?_
        refine zJ_getiN dX9_steps_197 fX9_183 (by first | rfl | assumption | exact M1.at (by decide) (by decide)) rfl (by first | exact f19 | (simp [zsi]; exact f19)) ?_
        refine zJ_aload_n dX9_steps_200 rfl ?_
        refine zJ_getiN dX9_steps_201 fX9_190 (by first | rfl | assumption | exact M1.at (by decide) (by decide)) rfl f21 ?_
        refine zJ_isub dX9_steps_204 ?_
        rw [hst]
        refine zJ_iconst (v := 4) dX9_steps_205 (by decide) ?_
        refine zJ_icmp_ge (tgt := 232) dX9_steps_206 (by decide) (fun h9 => absurd h9 (fun h => absurd ((nI_leI (a := 4) (by decide) (by omega)).mp h) (by omega))) (fun h206 => ?_)
        refine zJ_aload_n dX9_steps_209 rfl ?_
        refine zJ_bipush (v := 10) dX9_steps_210 (by decide) ?_
        refine zJ_aload_n dX9_steps_212 rfl ?_
        refine zJ_getiN dX9_steps_213 fX9_197 (by first | rfl | assumption | exact M1.at (by decide) (by decide)) rfl fv ?_
        refine zJ_imul dX9_steps_216 ?_
        rw [show (10 : Int32) * nI (zvd tx f d) = nI (10 * zvd tx f d) from na_mul 10 _]
        refine zJ_aload_n dX9_steps_217 rfl ?_
        refine zJ_aload_n dX9_steps_218 rfl ?_
        refine zJ_getiN dX9_steps_219 fX9_183 (by first | rfl | assumption | exact M1.at (by decide) (by decide)) rfl (by first | exact f19 | (simp [zsi]; exact f19)) ?_
        refine zJ_cV1 dX9_steps_222 sX9_186 mfX9_byteAt (c_Mo_byteAt Δ w1 tx n (f + d) (hR.fm hf (by decide)) (by omega)) (by first | rfl | assumption | exact M1.at (by decide) (by decide)) rfl (Nat.le_of_ble_eq_true rfl) (by decide) (by decide) ?_
        rw [hbe]
        refine zJ_iadd dX9_steps_225 ?_
        rw [na_add]
        refine zJ_bipush (v := 48) dX9_steps_226 (by decide) ?_
        refine zJ_isub dX9_steps_228 ?_
        rw [show nI (10 * zvd tx f d + tx (f + d)) - 48 = nI (zvd tx f d * 10 + (tx (f + d) - 48)) by rw [show (48 : Int32) = nI 48 from rfl, na_sub (by omega)]; exact congrArg nI (by omega)]
        refine zJ_puti dX9_steps_229 fX9_197 (fun q h => by cases h; rfl) (by first | rfl | assumption | exact M1.at (by decide) (by decide)) rfl rfl rfl ?_
        refine zJ_aload_n dX9_steps_232 rfl ?_
        refine zJ_dup dX9_steps_233 rfl ?_
        refine zJ_getiN dX9_steps_234 fX9_183 (by first | rfl | assumption | exact M1.at (by decide) (by decide)) rfl (by first | exact f19 | (simp [zsi]; exact f19)) ?_
        refine zJ_iconst (v := 1) dX9_steps_237 (by decide) ?_
        refine zJ_iadd dX9_steps_238 ?_
        rw [show nI (f + d) + 1 = nI (f + (d + 1)) from nI_1 _]
        refine zJ_puti dX9_steps_239 fX9_183 (fun q h => by cases h; rfl) (by first | rfl | assumption | exact M1.at (by decide) (by decide)) rfl rfl rfl ?_
        refine zJ_goto (tgt := 182) dX9_steps_242 (by decide) ?_
        refine ih (d + 1) (by omega) (by omega) _ ((hf.tr (zFM.i (by decide))).tr (zFM.i (by decide))) ?_ ?_ ?_
        · simp only [zsi]; first | (simp; done) | (simp; rfl)
        · simp [zsi, f21]
        · simp only [zsi, zvd]; rw [if_pos hd7]; simp
      · refine zJ_aload_n dX9_steps_182 rfl ?_
        refine zJ_aload_n dX9_steps_183 rfl ?_
        refine zJ_getiN dX9_steps_184 fX9_183 (by first | rfl | assumption | exact M1.at (by decide) (by decide)) rfl f19 ?_
        refine zJ_cV1 dX9_steps_187 sX9_186 mfX9_byteAt (c_Mo_byteAt Δ w1 tx n (f + d) (hR.fm hf (by decide)) (by omega)) (by first | rfl | assumption | exact M1.at (by decide) (by decide)) rfl (Nat.le_of_ble_eq_true rfl) (by decide) (by decide) ?_
        refine zJ_cS1 dX9_steps_190 sX9_207 mfX9_isDigit (c_Mo_isDigit Δ w1 (zbt tx n (f + d)) hb) (Nat.le_of_ble_eq_true rfl) (by decide) (by decide) ?_
        rw [hbe, hyl]
        refine zJ_if_eq (tgt := 245) dX9_steps_193 (by decide) (fun h9 => False.elim (by revert h9; decide)) (fun _ => ?_)
        refine zJ_aload_n dX9_steps_196 rfl ?_
        refine zJ_getiN dX9_steps_197 fX9_183 (by first | rfl | assumption | exact M1.at (by decide) (by decide)) rfl f19 ?_
        refine zJ_aload_n dX9_steps_200 rfl ?_
        refine zJ_getiN dX9_steps_201 fX9_190 (by first | rfl | assumption | exact M1.at (by decide) (by decide)) rfl f21 ?_
        refine zJ_isub dX9_steps_204 ?_
        rw [hst]
        refine zJ_iconst (v := 4) dX9_steps_205 (by decide) ?_
        refine zJ_icmp_ge (tgt := 232) dX9_steps_206 (by decide) (fun h206 => ?_) (fun h9 => absurd ((nI_leI (a := 4) (by decide) (by omega)).mpr (by omega)) h9)
        refine zJ_aload_n dX9_steps_232 rfl ?_
        refine zJ_dup dX9_steps_233 rfl ?_
        refine zJ_getiN dX9_steps_234 fX9_183 (by first | rfl | assumption | exact M1.at (by decide) (by decide)) rfl f19 ?_
        refine zJ_iconst (v := 1) dX9_steps_237 (by decide) ?_
        refine zJ_iadd dX9_steps_238 ?_
        rw [show nI (f + d) + 1 = nI (f + (d + 1)) from nI_1 _]
        refine zJ_puti dX9_steps_239 fX9_183 (fun q h => by cases h; rfl) (by first | rfl | assumption | exact M1.at (by decide) (by decide)) rfl rfl rfl ?_
        refine zJ_goto (tgt := 182) dX9_steps_242 (by decide) ?_
        refine ih (d + 1) (by omega) (by omega) _ (hf.tr (zFM.i (by decide))) ?_ ?_ ?_
        · simp only [zsi]; first | (simp; done) | (simp; rfl)
        · simp [zsi, f21]
        · simp only [zvd]; rw [if_neg hd7]; simp only [zsi]; simp; exact fv
  have K50 : ∀ w1, zFM [19, 20, 21, 22, 23, 24] w w1 → w1.2.1 100 19 = nI f → zJ Δ mX9_steps (zRm 1 0 0) true w.1 QR (fun _ _ => False) 0 0 50 [(0, .ref 100)] [] w1 := by
    intro w1 hf f19
    have M1 : zMs w1 := hM.fm hf
    have f2 : zFM [19, 20, 21, 22, 23, 24] w (zsi (zsl (zsi w1 100 21 (nI f)) 100 24 0) 100 23 0) := ((hf.tr (zFM.i (by decide))).tr (zFM.l (by decide))).tr (zFM.i (by decide))
    have g19 : (zsi (zsl (zsi w1 100 21 (nI f)) 100 24 0) 100 23 0).2.1 100 19 = nI f := f19
    have g21 : (zsi (zsl (zsi w1 100 21 (nI f)) 100 24 0) 100 23 0).2.1 100 21 = nI f := by simp [zsi, zsl]
    have g23 : (zsi (zsl (zsi w1 100 21 (nI f)) 100 24 0) 100 23 0).2.1 100 23 = nI 0 := by simp [zsi]; rfl
    have g24 : (zsi (zsl (zsi w1 100 21 (nI f)) 100 24 0) 100 23 0).2.2.1 100 24 = lN 0 := by simp [zsi, zsl]; rfl
    have g18 : (zsi (zsl (zsi w1 100 21 (nI f)) 100 24 0) 100 23 0).2.1 100 18 = nI n := (hR.fm f2 (by decide)).2.1
    have M2 : zMs (zsi (zsl (zsi w1 100 21 (nI f)) 100 24 0) 100 23 0) := M1
    have hb := ht256 f
    by_cases hnf : n ≤ f
    · refine zJ_aload_n dX9_steps_50 rfl ?_
      refine zJ_aload_n dX9_steps_51 rfl ?_
      refine zJ_getiN dX9_steps_52 fX9_183 (by first | rfl | assumption | exact M1.at (by decide) (by decide)) rfl f19 ?_
      refine zJ_puti dX9_steps_55 fX9_190 (fun q h => by cases h; rfl) (by first | rfl | assumption | exact M1.at (by decide) (by decide)) rfl rfl rfl ?_
      refine zJ_aload_n dX9_steps_58 rfl ?_
      refine zJ_lconst (v := 0) dX9_steps_59 (by decide) ?_
      refine zJ_putl dX9_steps_60 fX9_193 (fun q h => by cases h; rfl) (by first | rfl | assumption | exact M1.at (by decide) (by decide)) rfl ?_
      refine zJ_aload_n dX9_steps_63 rfl ?_
      refine zJ_iconst (v := 0) dX9_steps_64 (by decide) ?_
      refine zJ_puti dX9_steps_65 fX9_197 (fun q h => by cases h; rfl) (by first | rfl | assumption | exact M1.at (by decide) (by decide)) rfl rfl rfl ?_
      refine zJ_aload_n dX9_steps_68 rfl ?_
      refine zJ_aload_n dX9_steps_69 rfl ?_
      refine zJ_getiN dX9_steps_70 fX9_183 (by first | rfl | assumption | exact M2.at (by decide) (by decide)) rfl g19 ?_
      refine zJ_cV1 dX9_steps_73 sX9_186 mfX9_byteAt (c_Mo_byteAt Δ (zsi (zsl (zsi w1 100 21 (nI f)) 100 24 0) 100 23 0) tx n f (hR.fm f2 (by decide)) (by omega)) (by first | rfl | assumption | exact M2.at (by decide) (by decide)) rfl (Nat.le_of_ble_eq_true rfl) (by decide) (by decide) ?_
      refine zJ_istore_n (ls2 := fun x76q => [(1, .int x76q), (0, .ref 100)]) dX9_steps_76 (by decide) (fun _ => rfl) (fun x76q ex76q => ?_)
      obtain rfl : x76q = (nI (zbt tx n f)) := ex76q
      refine zJ_aload_n dX9_steps_77 rfl ?_
      refine zJ_getiN dX9_steps_78 fX9_183 (by first | rfl | assumption | exact M2.at (by decide) (by decide)) rfl g19 ?_
      refine zJ_aload_n dX9_steps_81 rfl ?_
      refine zJ_getiN dX9_steps_82 fX9_180 (by first | rfl | assumption | exact M2.at (by decide) (by decide)) rfl g18 ?_
      refine zJ_icmp_lt (tgt := 96) dX9_steps_85 (by decide) (fun h9 => absurd h9 (fun h => absurd ((nI_ltI (by omega) (by omega)).mp h) (by omega))) (fun h85q => ?_)
      refine zJ_aload_n dX9_steps_88 rfl ?_
      refine zJ_iconst (v := 0) dX9_steps_89 (by decide) ?_
      refine zJ_puti dX9_steps_90 fX9_200 (fun q h => by cases h; rfl) (by first | rfl | assumption | exact M2.at (by decide) (by decide)) rfl rfl rfl ?_
      refine zJ_goto (tgt := 278) dX9_steps_93 (by decide) ?_
      refine LE _ (0, f, f, 0) (f2.tr (zFM.i (by decide))) ?_ ?_ ?_ ?_ (Nat.le_refl _) (fun h => absurd (show (0 : Nat) = 2 from h) (by decide)) (fun h => absurd (show (0 : Nat) = 1 from h) (by decide))
      · simp only [ztk0]; rw [if_pos hnf]
      · exact g19
      · simp [zsi]; rfl
      · simp [zsi, zsl]
    · have hbe : zbt tx n f = tx f := by simp only [zbt]; rw [if_pos (by omega)]
      have htf := (hR.2.2.2 f (by omega)).2
      cases hl : zlet (tx f) with
      | true =>
        refine zJ_aload_n dX9_steps_50 rfl ?_
        refine zJ_aload_n dX9_steps_51 rfl ?_
        refine zJ_getiN dX9_steps_52 fX9_183 (by first | rfl | assumption | exact M1.at (by decide) (by decide)) rfl f19 ?_
        refine zJ_puti dX9_steps_55 fX9_190 (fun q h => by cases h; rfl) (by first | rfl | assumption | exact M1.at (by decide) (by decide)) rfl rfl rfl ?_
        refine zJ_aload_n dX9_steps_58 rfl ?_
        refine zJ_lconst (v := 0) dX9_steps_59 (by decide) ?_
        refine zJ_putl dX9_steps_60 fX9_193 (fun q h => by cases h; rfl) (by first | rfl | assumption | exact M1.at (by decide) (by decide)) rfl ?_
        refine zJ_aload_n dX9_steps_63 rfl ?_
        refine zJ_iconst (v := 0) dX9_steps_64 (by decide) ?_
        refine zJ_puti dX9_steps_65 fX9_197 (fun q h => by cases h; rfl) (by first | rfl | assumption | exact M1.at (by decide) (by decide)) rfl rfl rfl ?_
        refine zJ_aload_n dX9_steps_68 rfl ?_
        refine zJ_aload_n dX9_steps_69 rfl ?_
        refine zJ_getiN dX9_steps_70 fX9_183 (by first | rfl | assumption | exact M2.at (by decide) (by decide)) rfl g19 ?_
        refine zJ_cV1 dX9_steps_73 sX9_186 mfX9_byteAt (c_Mo_byteAt Δ (zsi (zsl (zsi w1 100 21 (nI f)) 100 24 0) 100 23 0) tx n f (hR.fm f2 (by decide)) (by omega)) (by first | rfl | assumption | exact M2.at (by decide) (by decide)) rfl (Nat.le_of_ble_eq_true rfl) (by decide) (by decide) ?_
        refine zJ_istore_n (ls2 := fun x76q => [(1, .int x76q), (0, .ref 100)]) dX9_steps_76 (by decide) (fun _ => rfl) (fun x76q ex76q => ?_)
        obtain rfl : x76q = (nI (zbt tx n f)) := ex76q
        refine zJ_aload_n dX9_steps_77 rfl ?_
        refine zJ_getiN dX9_steps_78 fX9_183 (by first | rfl | assumption | exact M2.at (by decide) (by decide)) rfl g19 ?_
        refine zJ_aload_n dX9_steps_81 rfl ?_
        refine zJ_getiN dX9_steps_82 fX9_180 (by first | rfl | assumption | exact M2.at (by decide) (by decide)) rfl g18 ?_
        refine zJ_icmp_lt (tgt := 96) dX9_steps_85 (by decide) (fun h85q => ?_) (fun h9 => absurd ((nI_ltI (by omega) (by omega)).mpr (by omega)) h9)
        refine zJ_iload_n dX9_steps_96 rfl ?_
        refine zJ_cS1 dX9_steps_97 sX9_203 mfX9_isLetter (c_Mo_isLetter Δ (zsi (zsl (zsi w1 100 21 (nI f)) 100 24 0) 100 23 0) (zbt tx n f) hb) (Nat.le_of_ble_eq_true rfl) (by decide) (by decide) ?_
        rw [(congrArg zlet hbe).trans hl]
        refine zJ_if_eq (tgt := 175) dX9_steps_100 (by decide) (fun h9 => False.elim (by revert h9; decide)) (fun _ => ?_)
        exact LW hnf hl 0 (Nat.zero_le _) _ f2 g19 g21 g24
      | false =>
        cases hg : zdig (tx f) with
        | true =>
          refine zJ_aload_n dX9_steps_50 rfl ?_
          refine zJ_aload_n dX9_steps_51 rfl ?_
          refine zJ_getiN dX9_steps_52 fX9_183 (by first | rfl | assumption | exact M1.at (by decide) (by decide)) rfl f19 ?_
          refine zJ_puti dX9_steps_55 fX9_190 (fun q h => by cases h; rfl) (by first | rfl | assumption | exact M1.at (by decide) (by decide)) rfl rfl rfl ?_
          refine zJ_aload_n dX9_steps_58 rfl ?_
          refine zJ_lconst (v := 0) dX9_steps_59 (by decide) ?_
          refine zJ_putl dX9_steps_60 fX9_193 (fun q h => by cases h; rfl) (by first | rfl | assumption | exact M1.at (by decide) (by decide)) rfl ?_
          refine zJ_aload_n dX9_steps_63 rfl ?_
          refine zJ_iconst (v := 0) dX9_steps_64 (by decide) ?_
          refine zJ_puti dX9_steps_65 fX9_197 (fun q h => by cases h; rfl) (by first | rfl | assumption | exact M1.at (by decide) (by decide)) rfl rfl rfl ?_
          refine zJ_aload_n dX9_steps_68 rfl ?_
          refine zJ_aload_n dX9_steps_69 rfl ?_
          refine zJ_getiN dX9_steps_70 fX9_183 (by first | rfl | assumption | exact M2.at (by decide) (by decide)) rfl g19 ?_
          refine zJ_cV1 dX9_steps_73 sX9_186 mfX9_byteAt (c_Mo_byteAt Δ (zsi (zsl (zsi w1 100 21 (nI f)) 100 24 0) 100 23 0) tx n f (hR.fm f2 (by decide)) (by omega)) (by first | rfl | assumption | exact M2.at (by decide) (by decide)) rfl (Nat.le_of_ble_eq_true rfl) (by decide) (by decide) ?_
          refine zJ_istore_n (ls2 := fun x76q => [(1, .int x76q), (0, .ref 100)]) dX9_steps_76 (by decide) (fun _ => rfl) (fun x76q ex76q => ?_)
          obtain rfl : x76q = (nI (zbt tx n f)) := ex76q
          refine zJ_aload_n dX9_steps_77 rfl ?_
          refine zJ_getiN dX9_steps_78 fX9_183 (by first | rfl | assumption | exact M2.at (by decide) (by decide)) rfl g19 ?_
          refine zJ_aload_n dX9_steps_81 rfl ?_
          refine zJ_getiN dX9_steps_82 fX9_180 (by first | rfl | assumption | exact M2.at (by decide) (by decide)) rfl g18 ?_
          refine zJ_icmp_lt (tgt := 96) dX9_steps_85 (by decide) (fun h85q => ?_) (fun h9 => absurd ((nI_ltI (by omega) (by omega)).mpr (by omega)) h9)
          refine zJ_iload_n dX9_steps_96 rfl ?_
          refine zJ_cS1 dX9_steps_97 sX9_203 mfX9_isLetter (c_Mo_isLetter Δ (zsi (zsl (zsi w1 100 21 (nI f)) 100 24 0) 100 23 0) (zbt tx n f) hb) (Nat.le_of_ble_eq_true rfl) (by decide) (by decide) ?_
          rw [(congrArg zlet hbe).trans hl]
          refine zJ_if_eq (tgt := 175) dX9_steps_100 (by decide) (fun _ => ?_) (fun h9 => False.elim (by revert h9; decide))
          refine zJ_iload_n dX9_steps_175 rfl ?_
          refine zJ_cS1 dX9_steps_176 sX9_207 mfX9_isDigit (c_Mo_isDigit Δ (zsi (zsl (zsi w1 100 21 (nI f)) 100 24 0) 100 23 0) (zbt tx n f) hb) (Nat.le_of_ble_eq_true rfl) (by decide) (by decide) ?_
          rw [(congrArg zdig hbe).trans hg]
          refine zJ_if_eq (tgt := 253) dX9_steps_179 (by decide) (fun h9 => False.elim (by revert h9; decide)) (fun _ => ?_)
          exact LN hnf hl hg 0 (Nat.zero_le _) _ f2 g19 g21 g23
        | false =>
          have hz : ztk0 tx n f = ((if tx f = 59 then 3 else 4), f, f + 1, 0) := by
            simp only [ztk0]
            rw [if_neg hnf, if_neg (by rw [hl]; decide), if_neg (by rw [hg]; decide)]
          by_cases h59 : tx f = 59
          · refine zJ_aload_n dX9_steps_50 rfl ?_
            refine zJ_aload_n dX9_steps_51 rfl ?_
            refine zJ_getiN dX9_steps_52 fX9_183 (by first | rfl | assumption | exact M1.at (by decide) (by decide)) rfl f19 ?_
            refine zJ_puti dX9_steps_55 fX9_190 (fun q h => by cases h; rfl) (by first | rfl | assumption | exact M1.at (by decide) (by decide)) rfl rfl rfl ?_
            refine zJ_aload_n dX9_steps_58 rfl ?_
            refine zJ_lconst (v := 0) dX9_steps_59 (by decide) ?_
            refine zJ_putl dX9_steps_60 fX9_193 (fun q h => by cases h; rfl) (by first | rfl | assumption | exact M1.at (by decide) (by decide)) rfl ?_
            refine zJ_aload_n dX9_steps_63 rfl ?_
            refine zJ_iconst (v := 0) dX9_steps_64 (by decide) ?_
            refine zJ_puti dX9_steps_65 fX9_197 (fun q h => by cases h; rfl) (by first | rfl | assumption | exact M1.at (by decide) (by decide)) rfl rfl rfl ?_
            refine zJ_aload_n dX9_steps_68 rfl ?_
            refine zJ_aload_n dX9_steps_69 rfl ?_
            refine zJ_getiN dX9_steps_70 fX9_183 (by first | rfl | assumption | exact M2.at (by decide) (by decide)) rfl g19 ?_
            refine zJ_cV1 dX9_steps_73 sX9_186 mfX9_byteAt (c_Mo_byteAt Δ (zsi (zsl (zsi w1 100 21 (nI f)) 100 24 0) 100 23 0) tx n f (hR.fm f2 (by decide)) (by omega)) (by first | rfl | assumption | exact M2.at (by decide) (by decide)) rfl (Nat.le_of_ble_eq_true rfl) (by decide) (by decide) ?_
            refine zJ_istore_n (ls2 := fun x76q => [(1, .int x76q), (0, .ref 100)]) dX9_steps_76 (by decide) (fun _ => rfl) (fun x76q ex76q => ?_)
            obtain rfl : x76q = (nI (zbt tx n f)) := ex76q
            refine zJ_aload_n dX9_steps_77 rfl ?_
            refine zJ_getiN dX9_steps_78 fX9_183 (by first | rfl | assumption | exact M2.at (by decide) (by decide)) rfl g19 ?_
            refine zJ_aload_n dX9_steps_81 rfl ?_
            refine zJ_getiN dX9_steps_82 fX9_180 (by first | rfl | assumption | exact M2.at (by decide) (by decide)) rfl g18 ?_
            refine zJ_icmp_lt (tgt := 96) dX9_steps_85 (by decide) (fun h85q => ?_) (fun h9 => absurd ((nI_ltI (by omega) (by omega)).mpr (by omega)) h9)
            refine zJ_iload_n dX9_steps_96 rfl ?_
            refine zJ_cS1 dX9_steps_97 sX9_203 mfX9_isLetter (c_Mo_isLetter Δ (zsi (zsl (zsi w1 100 21 (nI f)) 100 24 0) 100 23 0) (zbt tx n f) hb) (Nat.le_of_ble_eq_true rfl) (by decide) (by decide) ?_
            rw [(congrArg zlet hbe).trans hl]
            refine zJ_if_eq (tgt := 175) dX9_steps_100 (by decide) (fun _ => ?_) (fun h9 => False.elim (by revert h9; decide))
            refine zJ_iload_n dX9_steps_175 rfl ?_
            refine zJ_cS1 dX9_steps_176 sX9_207 mfX9_isDigit (c_Mo_isDigit Δ (zsi (zsl (zsi w1 100 21 (nI f)) 100 24 0) 100 23 0) (zbt tx n f) hb) (Nat.le_of_ble_eq_true rfl) (by decide) (by decide) ?_
            rw [(congrArg zdig hbe).trans hg]
            refine zJ_if_eq (tgt := 253) dX9_steps_179 (by decide) (fun _ => ?_) (fun h9 => False.elim (by revert h9; decide))
            refine zJ_aload_n dX9_steps_253 rfl ?_
            refine zJ_dup dX9_steps_254 rfl ?_
            refine zJ_getiN dX9_steps_255 fX9_183 (by first | rfl | assumption | exact M2.at (by decide) (by decide)) rfl g19 ?_
            refine zJ_iconst (v := 1) dX9_steps_258 (by decide) ?_
            refine zJ_iadd dX9_steps_259 ?_
            rw [show nI f + 1 = nI (f + 1) from nI_1 _]
            refine zJ_puti dX9_steps_260 fX9_183 (fun q h => by cases h; rfl) (by first | rfl | assumption | exact M2.at (by decide) (by decide)) rfl rfl rfl ?_
            refine zJ_aload_n dX9_steps_263 rfl ?_
            refine zJ_iload_n dX9_steps_264 rfl ?_
            refine zJ_bipush (v := 59) dX9_steps_265 (by decide) ?_
            refine zJ_icmp_ne (tgt := 274) dX9_steps_267 (by decide) (fun h9 => absurd h9 (fun h => h (by rw [hbe, h59]; rfl))) (fun h267q => ?_)
            refine zJ_iconst (v := 3) dX9_steps_270 (by decide) ?_
            refine zJ_goto (tgt := 275) dX9_steps_271 (by decide) ?_
            refine zJ_puti dX9_steps_275 fX9_200 (fun q h => by cases h; rfl) (by first | rfl | assumption | exact M2.at (by decide) (by decide)) rfl rfl rfl ?_
            refine LE _ (3, f, f + 1, 0) ((f2.tr (zFM.i (by decide))).tr (zFM.i (by decide))) ?_ ?_ ?_ ?_ (Nat.le_succ _) (fun h => absurd (show (3 : Nat) = 2 from h) (by decide)) (fun h => absurd (show (3 : Nat) = 1 from h) (by decide))
            · rw [hz, if_pos h59]
            · simp [zsi]
            · simp [zsi]; rfl
            · simp [zsi, zsl]
          · refine zJ_aload_n dX9_steps_50 rfl ?_
            refine zJ_aload_n dX9_steps_51 rfl ?_
            refine zJ_getiN dX9_steps_52 fX9_183 (by first | rfl | assumption | exact M1.at (by decide) (by decide)) rfl f19 ?_
            refine zJ_puti dX9_steps_55 fX9_190 (fun q h => by cases h; rfl) (by first | rfl | assumption | exact M1.at (by decide) (by decide)) rfl rfl rfl ?_
            refine zJ_aload_n dX9_steps_58 rfl ?_
            refine zJ_lconst (v := 0) dX9_steps_59 (by decide) ?_
            refine zJ_putl dX9_steps_60 fX9_193 (fun q h => by cases h; rfl) (by first | rfl | assumption | exact M1.at (by decide) (by decide)) rfl ?_
            refine zJ_aload_n dX9_steps_63 rfl ?_
            refine zJ_iconst (v := 0) dX9_steps_64 (by decide) ?_
            refine zJ_puti dX9_steps_65 fX9_197 (fun q h => by cases h; rfl) (by first | rfl | assumption | exact M1.at (by decide) (by decide)) rfl rfl rfl ?_
            refine zJ_aload_n dX9_steps_68 rfl ?_
            refine zJ_aload_n dX9_steps_69 rfl ?_
            refine zJ_getiN dX9_steps_70 fX9_183 (by first | rfl | assumption | exact M2.at (by decide) (by decide)) rfl g19 ?_
            refine zJ_cV1 dX9_steps_73 sX9_186 mfX9_byteAt (c_Mo_byteAt Δ (zsi (zsl (zsi w1 100 21 (nI f)) 100 24 0) 100 23 0) tx n f (hR.fm f2 (by decide)) (by omega)) (by first | rfl | assumption | exact M2.at (by decide) (by decide)) rfl (Nat.le_of_ble_eq_true rfl) (by decide) (by decide) ?_
            refine zJ_istore_n (ls2 := fun x76q => [(1, .int x76q), (0, .ref 100)]) dX9_steps_76 (by decide) (fun _ => rfl) (fun x76q ex76q => ?_)
            obtain rfl : x76q = (nI (zbt tx n f)) := ex76q
            refine zJ_aload_n dX9_steps_77 rfl ?_
            refine zJ_getiN dX9_steps_78 fX9_183 (by first | rfl | assumption | exact M2.at (by decide) (by decide)) rfl g19 ?_
            refine zJ_aload_n dX9_steps_81 rfl ?_
            refine zJ_getiN dX9_steps_82 fX9_180 (by first | rfl | assumption | exact M2.at (by decide) (by decide)) rfl g18 ?_
            refine zJ_icmp_lt (tgt := 96) dX9_steps_85 (by decide) (fun h85q => ?_) (fun h9 => absurd ((nI_ltI (by omega) (by omega)).mpr (by omega)) h9)
            refine zJ_iload_n dX9_steps_96 rfl ?_
            refine zJ_cS1 dX9_steps_97 sX9_203 mfX9_isLetter (c_Mo_isLetter Δ (zsi (zsl (zsi w1 100 21 (nI f)) 100 24 0) 100 23 0) (zbt tx n f) hb) (Nat.le_of_ble_eq_true rfl) (by decide) (by decide) ?_
            rw [(congrArg zlet hbe).trans hl]
            refine zJ_if_eq (tgt := 175) dX9_steps_100 (by decide) (fun _ => ?_) (fun h9 => False.elim (by revert h9; decide))
            refine zJ_iload_n dX9_steps_175 rfl ?_
            refine zJ_cS1 dX9_steps_176 sX9_207 mfX9_isDigit (c_Mo_isDigit Δ (zsi (zsl (zsi w1 100 21 (nI f)) 100 24 0) 100 23 0) (zbt tx n f) hb) (Nat.le_of_ble_eq_true rfl) (by decide) (by decide) ?_
            rw [(congrArg zdig hbe).trans hg]
            refine zJ_if_eq (tgt := 253) dX9_steps_179 (by decide) (fun _ => ?_) (fun h9 => False.elim (by revert h9; decide))
            refine zJ_aload_n dX9_steps_253 rfl ?_
            refine zJ_dup dX9_steps_254 rfl ?_
            refine zJ_getiN dX9_steps_255 fX9_183 (by first | rfl | assumption | exact M2.at (by decide) (by decide)) rfl g19 ?_
            refine zJ_iconst (v := 1) dX9_steps_258 (by decide) ?_
            refine zJ_iadd dX9_steps_259 ?_
            rw [show nI f + 1 = nI (f + 1) from nI_1 _]
            refine zJ_puti dX9_steps_260 fX9_183 (fun q h => by cases h; rfl) (by first | rfl | assumption | exact M2.at (by decide) (by decide)) rfl rfl rfl ?_
            refine zJ_aload_n dX9_steps_263 rfl ?_
            refine zJ_iload_n dX9_steps_264 rfl ?_
            refine zJ_bipush (v := 59) dX9_steps_265 (by decide) ?_
            refine zJ_icmp_ne (tgt := 274) dX9_steps_267 (by decide) (fun h267q => ?_) (fun h9 => absurd h9 (fun h => h59 ((nI_eq (b := 59) (by omega) (by decide)).mp (by rw [← hbe]; exact h))))
            refine zJ_iconst (v := 4) dX9_steps_274 (by decide) ?_
            refine zJ_puti dX9_steps_275 fX9_200 (fun q h => by cases h; rfl) (by first | rfl | assumption | exact M2.at (by decide) (by decide)) rfl rfl rfl ?_
            refine LE _ (4, f, f + 1, 0) ((f2.tr (zFM.i (by decide))).tr (zFM.i (by decide))) ?_ ?_ ?_ ?_ (Nat.le_succ _) (fun h => absurd (show (4 : Nat) = 2 from h) (by decide)) (fun h => absurd (show (4 : Nat) = 1 from h) (by decide))
            · rw [hz, if_neg h59]
            · simp [zsi]
            · simp [zsi]; rfl
            · simp [zsi, zsl]
  have B : ∀ d b, n - b = d → b ≤ n → zrun (fun i => zblk (tx i)) n b = f → ∀ w1, zFM [19, 20, 21, 22, 23, 24] w w1 → w1.2.1 100 19 = nI b → zJ Δ mX9_steps (zRm 1 0 0) true w.1 QR (fun _ _ => False) 0 0 0 [(0, .ref 100)] [] w1 := by
    intro d
    induction d with
    | zero =>
      intro b hb hbn hbf w1 hf f19
      have M1 : zMs w1 := hM.fm hf
      have g18 : w1.2.1 100 18 = nI n := (hR.fm hf (by decide)).2.1
      have hbe : b = f := by rw [← hbf]; exact (zrun_end (by omega)).symm
      refine zJ_aload_n dX9_steps_0 rfl ?_
      refine zJ_getiN dX9_steps_1 fX9_183 (by first | rfl | assumption | exact M1.at (by decide) (by decide)) rfl f19 ?_
      refine zJ_aload_n dX9_steps_4 rfl ?_
      refine zJ_getiN dX9_steps_5 fX9_180 (by first | rfl | assumption | exact M1.at (by decide) (by decide)) rfl g18 ?_
      refine zJ_icmp_ge (tgt := 50) dX9_steps_8 (by decide) (fun h8 => ?_) (fun h9 => absurd ((nI_leI (by omega) (by omega)).mpr (by omega)) h9)
      exact K50 w1 hf (by rw [← hbe]; exact f19)
    | succ d ih =>
      intro b hb hbn hbf w1 hf f19
      have M1 : zMs w1 := hM.fm hf
      have hR1 := hR.fm hf (by decide)
      have g18 : w1.2.1 100 18 = nI n := hR1.2.1
      have hlt : b < n := by omega
      have hbe : zbt tx n b = tx b := by simp only [zbt, hlt, if_true]
      have htb := (hR.2.2.2 b (by omega)).2
      by_cases h32 : tx b = 32
      · have hbl : (fun i => zblk (tx i)) b = true := by simp [zblk, h32]
        refine zJ_aload_n dX9_steps_0 rfl ?_
        refine zJ_getiN dX9_steps_1 fX9_183 (by first | rfl | assumption | exact M1.at (by decide) (by decide)) rfl f19 ?_
        refine zJ_aload_n dX9_steps_4 rfl ?_
        refine zJ_getiN dX9_steps_5 fX9_180 (by first | rfl | assumption | exact M1.at (by decide) (by decide)) rfl g18 ?_
        refine zJ_icmp_ge (tgt := 50) dX9_steps_8 (by decide) (fun h9 => absurd h9 (fun h => absurd ((nI_leI (by omega) (by omega)).mp h) (by omega))) (fun h8 => ?_)
        refine zJ_aload_n dX9_steps_11 rfl ?_
        refine zJ_aload_n dX9_steps_12 rfl ?_
        refine zJ_getiN dX9_steps_13 fX9_183 (by first | rfl | assumption | exact M1.at (by decide) (by decide)) rfl f19 ?_
        refine zJ_cV1 dX9_steps_16 sX9_186 mfX9_byteAt (c_Mo_byteAt Δ w1 tx n b hR1 (by omega)) (by first | rfl | assumption | exact M1.at (by decide) (by decide)) rfl (Nat.le_of_ble_eq_true rfl) (by decide) (by decide) ?_
        rw [hbe]
        refine zJ_bipush (v := 32) dX9_steps_19 (by decide) ?_
        refine zJ_icmp_eq (tgt := 37) dX9_steps_21 (by decide) (fun h21 => ?_) (fun h9 => absurd (by rw [h32]; rfl) h9)
        refine zJ_aload_n dX9_steps_37 rfl ?_
        refine zJ_dup dX9_steps_38 rfl ?_
        refine zJ_getiN dX9_steps_39 fX9_183 (by first | rfl | assumption | exact M1.at (by decide) (by decide)) rfl f19 ?_
        refine zJ_iconst (v := 1) dX9_steps_42 (by decide) ?_
        refine zJ_iadd dX9_steps_43 ?_
        rw [show nI b + 1 = nI (b + 1) from nI_1 _]
        refine zJ_puti dX9_steps_44 fX9_183 (fun q h => by cases h; rfl) (by first | rfl | assumption | exact M1.at (by decide) (by decide)) rfl rfl rfl ?_
        refine zJ_goto (tgt := 0) dX9_steps_47 (by decide) ?_
        exact ih (b + 1) (by omega) (by omega) (by rw [← zrun_go hlt hbl]; exact hbf) _ (hf.tr (zFM.i (by decide))) (by simp [zsi])
      · have hn32 : ¬ nI (tx b) = 32 := fun h => h32 ((nI_eq (b := 32) (by omega) (by decide)).mp h)
        by_cases h10 : tx b = 10
        · have hbl : (fun i => zblk (tx i)) b = true := by simp [zblk, h10]
          refine zJ_aload_n dX9_steps_0 rfl ?_
          refine zJ_getiN dX9_steps_1 fX9_183 (by first | rfl | assumption | exact M1.at (by decide) (by decide)) rfl f19 ?_
          refine zJ_aload_n dX9_steps_4 rfl ?_
          refine zJ_getiN dX9_steps_5 fX9_180 (by first | rfl | assumption | exact M1.at (by decide) (by decide)) rfl g18 ?_
          refine zJ_icmp_ge (tgt := 50) dX9_steps_8 (by decide) (fun h9 => absurd h9 (fun h => absurd ((nI_leI (by omega) (by omega)).mp h) (by omega))) (fun h8 => ?_)
          refine zJ_aload_n dX9_steps_11 rfl ?_
          refine zJ_aload_n dX9_steps_12 rfl ?_
          refine zJ_getiN dX9_steps_13 fX9_183 (by first | rfl | assumption | exact M1.at (by decide) (by decide)) rfl f19 ?_
          refine zJ_cV1 dX9_steps_16 sX9_186 mfX9_byteAt (c_Mo_byteAt Δ w1 tx n b hR1 (by omega)) (by first | rfl | assumption | exact M1.at (by decide) (by decide)) rfl (Nat.le_of_ble_eq_true rfl) (by decide) (by decide) ?_
          rw [hbe]
          refine zJ_bipush (v := 32) dX9_steps_19 (by decide) ?_
          refine zJ_icmp_eq (tgt := 37) dX9_steps_21 (by decide) (fun h9 => absurd h9 hn32) (fun h21 => ?_)
          refine zJ_aload_n dX9_steps_24 rfl ?_
          refine zJ_aload_n dX9_steps_25 rfl ?_
          refine zJ_getiN dX9_steps_26 fX9_183 (by first | rfl | assumption | exact M1.at (by decide) (by decide)) rfl f19 ?_
          refine zJ_cV1 dX9_steps_29 sX9_186 mfX9_byteAt (c_Mo_byteAt Δ w1 tx n b hR1 (by omega)) (by first | rfl | assumption | exact M1.at (by decide) (by decide)) rfl (Nat.le_of_ble_eq_true rfl) (by decide) (by decide) ?_
          rw [hbe]
          refine zJ_bipush (v := 10) dX9_steps_32 (by decide) ?_
          refine zJ_icmp_ne (tgt := 50) dX9_steps_34 (by decide) (fun h9 => absurd h9 (fun h => h (by rw [h10]; rfl))) (fun h34 => ?_)
          refine zJ_aload_n dX9_steps_37 rfl ?_
          refine zJ_dup dX9_steps_38 rfl ?_
          refine zJ_getiN dX9_steps_39 fX9_183 (by first | rfl | assumption | exact M1.at (by decide) (by decide)) rfl f19 ?_
          refine zJ_iconst (v := 1) dX9_steps_42 (by decide) ?_
          refine zJ_iadd dX9_steps_43 ?_
          rw [show nI b + 1 = nI (b + 1) from nI_1 _]
          refine zJ_puti dX9_steps_44 fX9_183 (fun q h => by cases h; rfl) (by first | rfl | assumption | exact M1.at (by decide) (by decide)) rfl rfl rfl ?_
          refine zJ_goto (tgt := 0) dX9_steps_47 (by decide) ?_
          exact ih (b + 1) (by omega) (by omega) (by rw [← zrun_go hlt hbl]; exact hbf) _ (hf.tr (zFM.i (by decide))) (by simp [zsi])
        · have hbf2 : b = f := by rw [← hbf]; exact (zrun_no (by simp [zblk, h32, h10])).symm
          refine zJ_aload_n dX9_steps_0 rfl ?_
          refine zJ_getiN dX9_steps_1 fX9_183 (by first | rfl | assumption | exact M1.at (by decide) (by decide)) rfl f19 ?_
          refine zJ_aload_n dX9_steps_4 rfl ?_
          refine zJ_getiN dX9_steps_5 fX9_180 (by first | rfl | assumption | exact M1.at (by decide) (by decide)) rfl g18 ?_
          refine zJ_icmp_ge (tgt := 50) dX9_steps_8 (by decide) (fun h9 => absurd h9 (fun h => absurd ((nI_leI (by omega) (by omega)).mp h) (by omega))) (fun h8 => ?_)
          refine zJ_aload_n dX9_steps_11 rfl ?_
          refine zJ_aload_n dX9_steps_12 rfl ?_
          refine zJ_getiN dX9_steps_13 fX9_183 (by first | rfl | assumption | exact M1.at (by decide) (by decide)) rfl f19 ?_
          refine zJ_cV1 dX9_steps_16 sX9_186 mfX9_byteAt (c_Mo_byteAt Δ w1 tx n b hR1 (by omega)) (by first | rfl | assumption | exact M1.at (by decide) (by decide)) rfl (Nat.le_of_ble_eq_true rfl) (by decide) (by decide) ?_
          rw [hbe]
          refine zJ_bipush (v := 32) dX9_steps_19 (by decide) ?_
          refine zJ_icmp_eq (tgt := 37) dX9_steps_21 (by decide) (fun h9 => absurd h9 hn32) (fun h21 => ?_)
          refine zJ_aload_n dX9_steps_24 rfl ?_
          refine zJ_aload_n dX9_steps_25 rfl ?_
          refine zJ_getiN dX9_steps_26 fX9_183 (by first | rfl | assumption | exact M1.at (by decide) (by decide)) rfl f19 ?_
          refine zJ_cV1 dX9_steps_29 sX9_186 mfX9_byteAt (c_Mo_byteAt Δ w1 tx n b hR1 (by omega)) (by first | rfl | assumption | exact M1.at (by decide) (by decide)) rfl (Nat.le_of_ble_eq_true rfl) (by decide) (by decide) ?_
          rw [hbe]
          refine zJ_bipush (v := 10) dX9_steps_32 (by decide) ?_
          refine zJ_icmp_ne (tgt := 50) dX9_steps_34 (by decide) (fun h34 => ?_) (fun h9 => absurd h9 (fun h => h10 ((nI_eq (b := 10) (by omega) (by decide)).mp h)))
          exact K50 w1 hf (by rw [← hbf2]; exact f19)
  exact B _ a rfl ha hfd w (zFM.rf _) hat
