/-! the model: least -/
def zZl (U : zTo) (kf f s i : Nat) : zTo := zTal (zTs U kf (f + i * s))
def zZh (U : zTo) (kf f s i : Nat) : Prop := (zlst (zZl U kf f s i) 11 (zfk (zZl U kf f s i))).2.1 = U.1 7
/-- what least answers: the first at which it comes to its end -/
def zlsP (U : zTo) (kf f s n : Nat) (c : zW) (r : Option Value) : Prop := ∃ i, i ≤ n ∧ (∀ j, j < i → zfit (zZl U kf f s j) 20000 ∧ ¬ zZh U kf f s j) ∧ ((¬ zfit (zZl U kf f s i) 20000 ∧ c.2.1 100 0 = 2) ∨ (zfit (zZl U kf f s i) 20000 ∧ zZh U kf f s i ∧ c.2.1 100 0 = 0 ∧ r = some (.int (nI (f + i * s)))) ∨ (i = n ∧ zfit (zZl U kf f s i) 20000 ∧ ¬ zZh U kf f s i ∧ c.2.1 100 0 = 0 ∧ r = some (.int (-1))))
theorem zFM.swap {l : List Nat} {w g : zW} {j : Nat} {v v2 : Int32} (h : zFM l (zsi w 100 j v) g) : zFM l (zsi w 100 j v2) (zsi g 100 j v2) := by
  refine ⟨h.1, h.2.1, fun q hq => ?_, fun a b ha hk => ?_⟩
  · obtain ⟨h1, h2⟩ := h.2.2.1 q hq
    refine ⟨?_, h2⟩
    by_cases hqj : q = j
    · simp only [zsi, hqj, and_self, if_true]
    · simp only [zsi, hqj, and_false, if_false] at h1 ⊢; exact h1
  · obtain ⟨h1, h2⟩ := h.2.2.2 a b ha hk
    refine ⟨?_, h2⟩
    simp only [zsi, ha, false_and, if_false] at h1 ⊢; exact h1
set_option maxRecDepth 100000 in
theorem zMo_ls1 (Δ : zD) (w : zW) (U : zTo) (hMu : zMu w U) (hU : zTok U) (h13 : U.1 13 = 0) (hpos : 0 < U.1 0) (e0 : w.2.1 100 0 = 0) (f t s : Nat) (hft : f ≤ t) (ht : t ≤ 9999) (hs : 1 ≤ s) (hs2 : s < 2 ^ 31) {QR : Option Value → zW → Prop} (hQ : ∀ c r, zFM zScr w c → zlsP U 9 f s ((t - f) / s) c r → QR r c) : zJ Δ mX9_least (zRm 6 0 0) true w.1 QR (fun _ _ => False) 0 0 94 [(0, .ref 100), (1, .int (nI 1)), (2, .int (nI f)), (3, .int (nI t)), (4, .int (nI s))] [] w := by
  have hM := hMu.1
  have hms : (t - f) / s * s ≤ t - f := Nat.div_mul_le_self (t - f) s
  have hml : t - f < ((t - f) / s + 1) * s := by rw [Nat.mul_comm]; exact Nat.lt_mul_div_succ (t - f) (by omega)
  generalize (t - f) / s = n at hms hml hQ
  rw [Nat.add_mul, Nat.one_mul] at hml
  have W0 : zsi w 100 7 (w.2.1 100 7) = w := zsi_self w 100 7
  have E : ∀ (g : zW) (v : Int32) (gd fd : Int32), zFM zScr (zsi w 100 7 v) g → g.2.1 100 0 = 0 → ((gd = 0 ∧ ∃ i, i ≤ n ∧ (∀ j, j < i → zfit (zZl U 9 f s j) 20000 ∧ ¬ zZh U 9 f s j) ∧ ¬ zfit (zZl U 9 f s i) 20000) ∨ (gd = 1 ∧ ∀ c, c.2.1 100 0 = 0 → zlsP U 9 f s n c (some (.int fd)))) → zJ Δ mX9_least (zRm 6 0 0) true w.1 QR (fun _ _ => False) 0 0 215 [(8, .int gd), (7, .int fd), (6, .int (w.2.1 100 7)), (5, .int (w.2.1 100 6)), (0, .ref 100), (1, .int (nI 1)), (2, .int (nI f)), (3, .int (nI t)), (4, .int (nI s))] [] g := by
    intro g v gd fd fg g0 hst
    have Mg : zMs g := (show zMs (zsi w 100 7 v) from hM).fm fg
    have go : g.2.1 100 6 = w.2.1 100 6 := (fg.at (by decide)).trans (by simp [zsi])
    have fin : zFM zScr w (zsi (zsi g 100 6 (w.2.1 100 6)) 100 7 (w.2.1 100 7)) := by
      rw [← go, zsi_self]
      exact fg.sand (by decide)
    have M2 : zMs (zsi (zsi g 100 6 (w.2.1 100 6)) 100 7 (w.2.1 100 7)) := Mg
    have q0 : (zsi (zsi g 100 6 (w.2.1 100 6)) 100 7 (w.2.1 100 7)).2.1 100 0 = 0 := by simp [zsi, g0]
    rcases hst with ⟨rfl, i, hi, h1, h2⟩ | ⟨rfl, h1⟩
    · refine zJ_aload_n dX9_least_215 rfl ?_
      refine zJ_iload dX9_least_216 rfl ?_
      refine zJ_puti dX9_least_218 fX9_304 (fun q h => by cases h; rfl) (by first | rfl | assumption | exact Mg.at (by decide) (by decide)) rfl rfl rfl ?_
      refine zJ_aload_n dX9_least_221 rfl ?_
      refine zJ_iload dX9_least_222 rfl ?_
      refine zJ_puti dX9_least_224 fX9_307 (fun q h => by cases h; rfl) (by first | rfl | assumption | exact Mg.at (by decide) (by decide)) rfl rfl rfl ?_
      refine zJ_aload_n dX9_least_227 rfl ?_
      refine zJ_iload dX9_least_228 rfl ?_
      refine zJ_iconst (v := 2) dX9_least_230 (by decide) ?_
      refine zJ_cV2 dX9_least_231 sX9_291 mfX9_right (c_Mo_right0 Δ (zsi (zsi g 100 6 (w.2.1 100 6)) 100 7 (w.2.1 100 7)) M2 q0 2 (by decide)) (by first | rfl | assumption | exact Mg.at (by decide) (by decide)) rfl (Nat.le_of_ble_eq_true rfl) (by decide) (by decide) ?_
      refine zJ_if_eq (tgt := 242) dX9_least_234 (by decide) (fun _ => ?_) (fun h9 => False.elim (by revert h9; decide))
      refine zJ_iconst (v := 0) dX9_least_242 (by decide) ?_
      exact zJ_iret dX9_least_243 rfl (by decide) (by decide) (hQ _ _ (fin.tr zFM.t0) ⟨i, hi, h1, Or.inl ⟨h2, by simp [zsi]⟩⟩)
    · refine zJ_aload_n dX9_least_215 rfl ?_
      refine zJ_iload dX9_least_216 rfl ?_
      refine zJ_puti dX9_least_218 fX9_304 (fun q h => by cases h; rfl) (by first | rfl | assumption | exact Mg.at (by decide) (by decide)) rfl rfl rfl ?_
      refine zJ_aload_n dX9_least_221 rfl ?_
      refine zJ_iload dX9_least_222 rfl ?_
      refine zJ_puti dX9_least_224 fX9_307 (fun q h => by cases h; rfl) (by first | rfl | assumption | exact Mg.at (by decide) (by decide)) rfl rfl rfl ?_
      refine zJ_aload_n dX9_least_227 rfl ?_
      refine zJ_iload dX9_least_228 rfl ?_
      refine zJ_iconst (v := 2) dX9_least_230 (by decide) ?_
      refine zJ_cV2 dX9_least_231 sX9_291 mfX9_right (c_Mo_right1 Δ (zsi (zsi g 100 6 (w.2.1 100 6)) 100 7 (w.2.1 100 7)) M2 q0 2) (by first | rfl | assumption | exact Mg.at (by decide) (by decide)) rfl (Nat.le_of_ble_eq_true rfl) (by decide) (by decide) ?_
      refine zJ_if_eq (tgt := 242) dX9_least_234 (by decide) (fun h9 => False.elim (by revert h9; decide)) (fun _ => ?_)
      refine zJ_iload dX9_least_237 rfl ?_
      refine zJ_goto (tgt := 243) dX9_least_239 (by decide) ?_
      exact zJ_iret dX9_least_243 rfl (by decide) (by decide) (hQ _ _ fin (h1 _ q0))
  have L : ∀ i, i ≤ n → ∀ (g : zW) (v : Int32), zFM zScr (zsi w 100 7 v) g → g.2.1 100 0 = 0 → (∀ j, j < i → zfit (zZl U 9 f s j) 20000 ∧ ¬ zZh U 9 f s j) → zJ Δ mX9_least (zRm 6 0 0) true w.1 QR (fun _ _ => False) 0 0 115 [(9, .int (nI (f + i * s))), (8, .int 1), (7, .int (-1)), (6, .int (w.2.1 100 7)), (5, .int (w.2.1 100 6)), (0, .ref 100), (1, .int (nI 1)), (2, .int (nI f)), (3, .int (nI t)), (4, .int (nI s))] [] g := by
    refine zup (fun i hi ih => ?_)
    intro g v fg g0 hbf
    have Mg : zMs g := (show zMs (zsi w 100 7 v) from hM).fm fg
    have his : i * s ≤ n * s := Nat.mul_le_mul_right s hi
    have hvt : f + i * s ≤ t := by omega
    have f2 : zFM zScr (zsi w 100 7 (nI (f + i * s))) (zsi g 100 7 (nI (f + i * s))) := fg.swap
    have hMu2 : zMu (zsi g 100 7 (nI (f + i * s))) (zTs U 9 (f + i * s)) := (hMu.set (by omega)).fm f2 (by decide)
    have M2 : zMs (zsi g 100 7 (nI (f + i * s))) := hMu2.1
    have g2 : (zsi g 100 7 (nI (f + i * s))).2.1 100 0 = 0 := by simp [zsi, g0]
    have hT9 : zTok (zTs U 9 (f + i * s)) := hU.s (by omega)
    have hnx : i < n → f + (i + 1) * s = f + i * s + s ∧ f + i * s + s ≤ t := fun h => by
      have h1 : (i + 1) * s ≤ n * s := Nat.mul_le_mul_right s h
      rw [Nat.add_mul, Nat.one_mul] at h1 ⊢
      omega
    have hlast : ¬ i < n → ¬ nI (f + i * s) ≤ nI t - nI s := fun h h9 => by
      have e : i = n := by omega
      subst e
      by_cases hst : s ≤ t
      · rw [na_sub hst] at h9
        have := (nI_leI (by omega) (by omega)).mp h9
        omega
      · exact zneg (by omega) hs2 (Int32.le_trans ((nI_leI (a := 0) (by decide) (by omega)).mpr (Nat.zero_le _)) h9)
    have hmore : i < n → nI (f + i * s) ≤ nI t - nI s := fun h => by
      have := hnx h
      rw [na_sub (by omega)]
      exact (nI_leI (by omega) (by omega)).mpr (by omega)
    refine zJ_iload dX9_least_115 rfl ?_
    refine zJ_iload_n dX9_least_117 rfl ?_
    refine zJ_icmp_gt (tgt := 215) dX9_least_118 (by decide) (fun h9 => absurd h9 (fun h => absurd ((nI_ltI (by omega) (by omega)).mp h) (by omega))) (fun h118 => ?_)
    refine zJ_iload dX9_least_121 rfl ?_
    refine zJ_iconst (v := (-1)) dX9_least_123 (by decide) ?_
    refine zJ_icmp_ne (tgt := 215) dX9_least_124 (by decide) (fun h9 => False.elim (by revert h9; decide)) (fun _ => ?_)
    refine zJ_iload dX9_least_127 rfl ?_
    refine zJ_if_eq (tgt := 215) dX9_least_129 (by decide) (fun h9 => False.elim (by revert h9; decide)) (fun _ => ?_)
    refine zJ_iload_n dX9_least_132 rfl ?_
    refine zJ_if_eq (tgt := 145) dX9_least_133 (by decide) (fun h9 => False.elim (by revert h9; decide)) (fun _ => ?_)
    refine zJ_aload_n dX9_least_136 rfl ?_
    refine zJ_iload dX9_least_137 rfl ?_
    refine zJ_puti dX9_least_139 fX9_307 (fun q h => by cases h; rfl) (by first | rfl | assumption | exact Mg.at (by decide) (by decide)) rfl rfl rfl ?_
    refine zJ_goto (tgt := 151) dX9_least_142 (by decide) ?_
    refine zJ_aload_n dX9_least_151 rfl ?_
    refine zJ_eV0 dX9_least_152 sX9_429 mfX9_allReckon (c_Mo_allReckon Δ _ (zTs U 9 (f + i * s)) hMu2 hT9 h13 hpos) (M2.at (by decide) (by decide)) rfl (Nat.le_of_ble_eq_true rfl) (by decide) (by decide) (fun r d hP => ?_)
    obtain ⟨hfd, hP⟩ := hP
    have Md : zMs d := M2.fm hfd
    have d0 : d.2.1 100 0 = 0 := (hfd.at (by decide)).trans g2
    have fd9 : zFM zScr (zsi w 100 7 (nI (f + i * s))) d := f2.tr (hfd.mono (by decide))
    have d5 : d.2.1 100 5 = nI (U.1 7) := (fd9.at (by decide)).trans (by simp [zsi, hMu.2.2.2.2.2.1])
    rcases hP with ⟨rfl, hno⟩ | ⟨K, z, hKd, hz, hz2, rfl⟩
    · by_cases hin : i < n
      · refine zJ_istore (ls2 := fun x155k => [(10, .int x155k), (9, .int (nI (f + i * s))), (8, .int 1), (7, .int (-1)), (6, .int (w.2.1 100 7)), (5, .int (w.2.1 100 6)), (0, .ref 100), (1, .int (nI 1)), (2, .int (nI f)), (3, .int (nI t)), (4, .int (nI s))]) dX9_least_155 (by decide) (fun _ => rfl) (fun x155k ex155k => ?_)
        obtain rfl : x155k = (-1) := ex155k
        refine zJ_iload dX9_least_157 rfl ?_
        refine zJ_iconst (v := (-1)) dX9_least_159 (by decide) ?_
        refine zJ_icmp_eq (tgt := 167) dX9_least_160 (by decide) (fun _ => ?_) (fun h9 => False.elim (by revert h9; decide))
        refine zJ_iconst (v := 0) dX9_least_167 (by decide) ?_
        refine zJ_istore (ls2 := fun x168k => [(8, .int x168k), (10, .int (-1)), (9, .int (nI (f + i * s))), (7, .int (-1)), (6, .int (w.2.1 100 7)), (5, .int (w.2.1 100 6)), (0, .ref 100), (1, .int (nI 1)), (2, .int (nI f)), (3, .int (nI t)), (4, .int (nI s))]) dX9_least_168 (by decide) (fun _ => rfl) (fun x168k ex168k => ?_)
        obtain rfl : x168k = 0 := ex168k
        refine zJ_iload dX9_least_170 rfl ?_
        refine zJ_if_eq (tgt := 193) dX9_least_172 (by decide) (fun _ => ?_) (fun h9 => False.elim (by revert h9; decide))
        refine zJ_iload dX9_least_193 rfl ?_
        refine zJ_iload_n dX9_least_195 rfl ?_
        refine zJ_iload dX9_least_196 rfl ?_
        refine zJ_isub dX9_least_198 ?_
        refine zJ_icmp_le (tgt := 205) dX9_least_199 (by decide) (fun h199k => ?_) (fun h9 => absurd (hmore hin) h9)
        refine zJ_iload dX9_least_205 rfl ?_
        refine zJ_iload dX9_least_207 rfl ?_
        refine zJ_iadd dX9_least_209 ?_
        rw [na_add, show f + i * s + s = f + (i + 1) * s from (hnx hin).1.symm]
        refine zJ_istore (ls2 := fun x210k => [(9, .int x210k), (8, .int 0), (10, .int (-1)), (7, .int (-1)), (6, .int (w.2.1 100 7)), (5, .int (w.2.1 100 6)), (0, .ref 100), (1, .int (nI 1)), (2, .int (nI f)), (3, .int (nI t)), (4, .int (nI s))]) dX9_least_210 (by decide) (fun _ => rfl) (fun x210k ex210k => ?_)
        obtain rfl : x210k = (nI (f + (i + 1) * s)) := ex210k
        refine zJ_goto (tgt := 115) dX9_least_212 (by decide) ?_
        refine zJ_iload dX9_least_115 rfl ?_
        refine zJ_iload_n dX9_least_117 rfl ?_
        refine zJ_icmp_gt (tgt := 215) dX9_least_118 (by decide) (fun h9 => absurd h9 (fun h => absurd ((nI_ltI (by omega) (by omega)).mp h) (by have := hnx hin; omega))) (fun h118r => ?_)
        refine zJ_iload dX9_least_121 rfl ?_
        refine zJ_iconst (v := (-1)) dX9_least_123 (by decide) ?_
        refine zJ_icmp_ne (tgt := 215) dX9_least_124 (by decide) (fun h9 => False.elim (by revert h9; decide)) (fun _ => ?_)
        refine zJ_iload dX9_least_127 rfl ?_
        refine zJ_if_eq (tgt := 215) dX9_least_129 (by decide) (fun _ => ?_) (fun h9 => False.elim (by revert h9; decide))
        refine zJ_ls [(8, .int 0), (7, .int (-1)), (6, .int (w.2.1 100 7)), (5, .int (w.2.1 100 6)), (0, .ref 100), (1, .int (nI 1)), (2, .int (nI f)), (3, .int (nI t)), (4, .int (nI s))] (by simp) ?_
        exact E d _ 0 (-1) fd9 d0 (Or.inl ⟨rfl, i, hi, hbf, hno⟩)
      · refine zJ_istore (ls2 := fun x155k => [(10, .int x155k), (9, .int (nI (f + i * s))), (8, .int 1), (7, .int (-1)), (6, .int (w.2.1 100 7)), (5, .int (w.2.1 100 6)), (0, .ref 100), (1, .int (nI 1)), (2, .int (nI f)), (3, .int (nI t)), (4, .int (nI s))]) dX9_least_155 (by decide) (fun _ => rfl) (fun x155k ex155k => ?_)
        obtain rfl : x155k = (-1) := ex155k
        refine zJ_iload dX9_least_157 rfl ?_
        refine zJ_iconst (v := (-1)) dX9_least_159 (by decide) ?_
        refine zJ_icmp_eq (tgt := 167) dX9_least_160 (by decide) (fun _ => ?_) (fun h9 => False.elim (by revert h9; decide))
        refine zJ_iconst (v := 0) dX9_least_167 (by decide) ?_
        refine zJ_istore (ls2 := fun x168k => [(8, .int x168k), (10, .int (-1)), (9, .int (nI (f + i * s))), (7, .int (-1)), (6, .int (w.2.1 100 7)), (5, .int (w.2.1 100 6)), (0, .ref 100), (1, .int (nI 1)), (2, .int (nI f)), (3, .int (nI t)), (4, .int (nI s))]) dX9_least_168 (by decide) (fun _ => rfl) (fun x168k ex168k => ?_)
        obtain rfl : x168k = 0 := ex168k
        refine zJ_iload dX9_least_170 rfl ?_
        refine zJ_if_eq (tgt := 193) dX9_least_172 (by decide) (fun _ => ?_) (fun h9 => False.elim (by revert h9; decide))
        refine zJ_iload dX9_least_193 rfl ?_
        refine zJ_iload_n dX9_least_195 rfl ?_
        refine zJ_iload dX9_least_196 rfl ?_
        refine zJ_isub dX9_least_198 ?_
        refine zJ_icmp_le (tgt := 205) dX9_least_199 (by decide) (fun h9 => absurd h9 (hlast hin)) (fun h199k => ?_)
        refine zJ_goto (tgt := 215) dX9_least_202 (by decide) ?_
        refine zJ_ls [(8, .int 0), (7, .int (-1)), (6, .int (w.2.1 100 7)), (5, .int (w.2.1 100 6)), (0, .ref 100), (1, .int (nI 1)), (2, .int (nI f)), (3, .int (nI t)), (4, .int (nI s))] (by simp) ?_
        exact E d _ 0 (-1) fd9 d0 (Or.inl ⟨rfl, i, hi, hbf, hno⟩)
    · have hfi : zfit (zZl U 9 f s i) 20000 := ⟨K, hKd.2.2.1, hKd.2.1.2.2.1⟩
      have hzr : d.2.1 140 z = nI (zlst (zZl U 9 f s i) 11 (zfk (zZl U 9 f s i))).2.1 := (hKd.2.1.1 z _ hz).2.1
      have hkk := (hKd.2.1.2.2.2 _ (List.mem_iff_getElem?.mpr ⟨z, hz⟩)).1.2.1
      have h712 : (zlst (zZl U 9 f s i) 11 (zfk (zZl U 9 f s i))).2.1 ≤ U.1 7 := hkk.2
      have h7 := hU.2.2.2.1
      by_cases hit : zZh U 9 f s i
      · by_cases hin : i < n
        · refine zJ_istore (ls2 := fun x155k => [(10, .int x155k), (9, .int (nI (f + i * s))), (8, .int 1), (7, .int (-1)), (6, .int (w.2.1 100 7)), (5, .int (w.2.1 100 6)), (0, .ref 100), (1, .int (nI 1)), (2, .int (nI f)), (3, .int (nI t)), (4, .int (nI s))]) dX9_least_155 (by decide) (fun _ => rfl) (fun x155k ex155k => ?_)
          obtain rfl : x155k = (nI z) := ex155k
          refine zJ_iload dX9_least_157 rfl ?_
          refine zJ_iconst (v := (-1)) dX9_least_159 (by decide) ?_
          refine zJ_icmp_eq (tgt := 167) dX9_least_160 (by decide) (fun h9 => absurd h9 (nI_m1 (by omega))) (fun h160k => ?_)
          refine zJ_iconst (v := 1) dX9_least_163 (by decide) ?_
          refine zJ_goto (tgt := 168) dX9_least_164 (by decide) ?_
          refine zJ_istore (ls2 := fun x168k => [(8, .int x168k), (10, .int (nI z)), (9, .int (nI (f + i * s))), (7, .int (-1)), (6, .int (w.2.1 100 7)), (5, .int (w.2.1 100 6)), (0, .ref 100), (1, .int (nI 1)), (2, .int (nI f)), (3, .int (nI t)), (4, .int (nI s))]) dX9_least_168 (by decide) (fun _ => rfl) (fun x168k ex168k => ?_)
          obtain rfl : x168k = 1 := ex168k
          refine zJ_iload dX9_least_170 rfl ?_
          refine zJ_if_eq (tgt := 193) dX9_least_172 (by decide) (fun h9 => False.elim (by revert h9; decide)) (fun _ => ?_)
          refine zJ_aload_n dX9_least_175 rfl ?_
          refine zJ_getr (j := 140) dX9_least_176 fX9_53 (by first | rfl | assumption | exact Md.at (by decide) (by decide)) rfl (by first | rfl | assumption | exact Md.rf (by decide) rfl) ?_
          refine zJ_iload dX9_least_179 rfl ?_
          refine zJ_ialdN (i := z) (v := (nI (zlst (zZl U 9 f s i) 11 (zfk (zZl U 9 f s i))).2.1)) dX9_least_181 (by first | rfl | assumption | exact Md.at (by decide) (by decide)) rfl (by omega) (by decide) hzr ?_
          refine zJ_aload_n dX9_least_182 rfl ?_
          refine zJ_getiN dX9_least_183 fX9_16 (by first | rfl | assumption | exact Md.at (by decide) (by decide)) rfl d5 ?_
          refine zJ_icmp_ne (tgt := 193) dX9_least_186 (by decide) (fun h9 => absurd h9 (fun h => h (congrArg nI hit))) (fun h186k => ?_)
          refine zJ_iload dX9_least_189 rfl ?_
          refine zJ_istore (ls2 := fun x191k => [(7, .int x191k), (8, .int 1), (10, .int (nI z)), (9, .int (nI (f + i * s))), (6, .int (w.2.1 100 7)), (5, .int (w.2.1 100 6)), (0, .ref 100), (1, .int (nI 1)), (2, .int (nI f)), (3, .int (nI t)), (4, .int (nI s))]) dX9_least_191 (by decide) (fun _ => rfl) (fun x191k ex191k => ?_)
          obtain rfl : x191k = (nI (f + i * s)) := ex191k
          refine zJ_iload dX9_least_193 rfl ?_
          refine zJ_iload_n dX9_least_195 rfl ?_
          refine zJ_iload dX9_least_196 rfl ?_
          refine zJ_isub dX9_least_198 ?_
          refine zJ_icmp_le (tgt := 205) dX9_least_199 (by decide) (fun h199k => ?_) (fun h9 => absurd (hmore hin) h9)
          refine zJ_iload dX9_least_205 rfl ?_
          refine zJ_iload dX9_least_207 rfl ?_
          refine zJ_iadd dX9_least_209 ?_
          rw [na_add, show f + i * s + s = f + (i + 1) * s from (hnx hin).1.symm]
          refine zJ_istore (ls2 := fun x210k => [(9, .int x210k), (7, .int (nI (f + i * s))), (8, .int 1), (10, .int (nI z)), (6, .int (w.2.1 100 7)), (5, .int (w.2.1 100 6)), (0, .ref 100), (1, .int (nI 1)), (2, .int (nI f)), (3, .int (nI t)), (4, .int (nI s))]) dX9_least_210 (by decide) (fun _ => rfl) (fun x210k ex210k => ?_)
          obtain rfl : x210k = (nI (f + (i + 1) * s)) := ex210k
          refine zJ_goto (tgt := 115) dX9_least_212 (by decide) ?_
          refine zJ_iload dX9_least_115 rfl ?_
          refine zJ_iload_n dX9_least_117 rfl ?_
          refine zJ_icmp_gt (tgt := 215) dX9_least_118 (by decide) (fun h9 => absurd h9 (fun h => absurd ((nI_ltI (by omega) (by omega)).mp h) (by have := hnx hin; omega))) (fun h118r => ?_)
          refine zJ_iload dX9_least_121 rfl ?_
          refine zJ_iconst (v := (-1)) dX9_least_123 (by decide) ?_
          refine zJ_icmp_ne (tgt := 215) dX9_least_124 (by decide) (fun h124r => ?_) (fun h9 => absurd h9 (nI_m1 (by omega)))
          refine zJ_ls [(8, .int 1), (7, .int (nI (f + i * s))), (6, .int (w.2.1 100 7)), (5, .int (w.2.1 100 6)), (0, .ref 100), (1, .int (nI 1)), (2, .int (nI f)), (3, .int (nI t)), (4, .int (nI s))] (by simp) ?_
          exact E d _ 1 (nI (f + i * s)) fd9 d0 (Or.inr ⟨rfl, fun c c0 => ⟨i, hi, hbf, Or.inr (Or.inl ⟨hfi, hit, c0, rfl⟩)⟩⟩)
        · refine zJ_istore (ls2 := fun x155k => [(10, .int x155k), (9, .int (nI (f + i * s))), (8, .int 1), (7, .int (-1)), (6, .int (w.2.1 100 7)), (5, .int (w.2.1 100 6)), (0, .ref 100), (1, .int (nI 1)), (2, .int (nI f)), (3, .int (nI t)), (4, .int (nI s))]) dX9_least_155 (by decide) (fun _ => rfl) (fun x155k ex155k => ?_)
          obtain rfl : x155k = (nI z) := ex155k
          refine zJ_iload dX9_least_157 rfl ?_
          refine zJ_iconst (v := (-1)) dX9_least_159 (by decide) ?_
          refine zJ_icmp_eq (tgt := 167) dX9_least_160 (by decide) (fun h9 => absurd h9 (nI_m1 (by omega))) (fun h160k => ?_)
          refine zJ_iconst (v := 1) dX9_least_163 (by decide) ?_
          refine zJ_goto (tgt := 168) dX9_least_164 (by decide) ?_
          refine zJ_istore (ls2 := fun x168k => [(8, .int x168k), (10, .int (nI z)), (9, .int (nI (f + i * s))), (7, .int (-1)), (6, .int (w.2.1 100 7)), (5, .int (w.2.1 100 6)), (0, .ref 100), (1, .int (nI 1)), (2, .int (nI f)), (3, .int (nI t)), (4, .int (nI s))]) dX9_least_168 (by decide) (fun _ => rfl) (fun x168k ex168k => ?_)
          obtain rfl : x168k = 1 := ex168k
          refine zJ_iload dX9_least_170 rfl ?_
          refine zJ_if_eq (tgt := 193) dX9_least_172 (by decide) (fun h9 => False.elim (by revert h9; decide)) (fun _ => ?_)
          refine zJ_aload_n dX9_least_175 rfl ?_
          refine zJ_getr (j := 140) dX9_least_176 fX9_53 (by first | rfl | assumption | exact Md.at (by decide) (by decide)) rfl (by first | rfl | assumption | exact Md.rf (by decide) rfl) ?_
          refine zJ_iload dX9_least_179 rfl ?_
          refine zJ_ialdN (i := z) (v := (nI (zlst (zZl U 9 f s i) 11 (zfk (zZl U 9 f s i))).2.1)) dX9_least_181 (by first | rfl | assumption | exact Md.at (by decide) (by decide)) rfl (by omega) (by decide) hzr ?_
          refine zJ_aload_n dX9_least_182 rfl ?_
          refine zJ_getiN dX9_least_183 fX9_16 (by first | rfl | assumption | exact Md.at (by decide) (by decide)) rfl d5 ?_
          refine zJ_icmp_ne (tgt := 193) dX9_least_186 (by decide) (fun h9 => absurd h9 (fun h => h (congrArg nI hit))) (fun h186k => ?_)
          refine zJ_iload dX9_least_189 rfl ?_
          refine zJ_istore (ls2 := fun x191k => [(7, .int x191k), (8, .int 1), (10, .int (nI z)), (9, .int (nI (f + i * s))), (6, .int (w.2.1 100 7)), (5, .int (w.2.1 100 6)), (0, .ref 100), (1, .int (nI 1)), (2, .int (nI f)), (3, .int (nI t)), (4, .int (nI s))]) dX9_least_191 (by decide) (fun _ => rfl) (fun x191k ex191k => ?_)
          obtain rfl : x191k = (nI (f + i * s)) := ex191k
          refine zJ_iload dX9_least_193 rfl ?_
          refine zJ_iload_n dX9_least_195 rfl ?_
          refine zJ_iload dX9_least_196 rfl ?_
          refine zJ_isub dX9_least_198 ?_
          refine zJ_icmp_le (tgt := 205) dX9_least_199 (by decide) (fun h9 => absurd h9 (hlast hin)) (fun h199k => ?_)
          refine zJ_goto (tgt := 215) dX9_least_202 (by decide) ?_
          refine zJ_ls [(8, .int 1), (7, .int (nI (f + i * s))), (6, .int (w.2.1 100 7)), (5, .int (w.2.1 100 6)), (0, .ref 100), (1, .int (nI 1)), (2, .int (nI f)), (3, .int (nI t)), (4, .int (nI s))] (by simp) ?_
          exact E d _ 1 (nI (f + i * s)) fd9 d0 (Or.inr ⟨rfl, fun c c0 => ⟨i, hi, hbf, Or.inr (Or.inl ⟨hfi, hit, c0, rfl⟩)⟩⟩)
      · by_cases hin : i < n
        · refine zJ_istore (ls2 := fun x155k => [(10, .int x155k), (9, .int (nI (f + i * s))), (8, .int 1), (7, .int (-1)), (6, .int (w.2.1 100 7)), (5, .int (w.2.1 100 6)), (0, .ref 100), (1, .int (nI 1)), (2, .int (nI f)), (3, .int (nI t)), (4, .int (nI s))]) dX9_least_155 (by decide) (fun _ => rfl) (fun x155k ex155k => ?_)
          obtain rfl : x155k = (nI z) := ex155k
          refine zJ_iload dX9_least_157 rfl ?_
          refine zJ_iconst (v := (-1)) dX9_least_159 (by decide) ?_
          refine zJ_icmp_eq (tgt := 167) dX9_least_160 (by decide) (fun h9 => absurd h9 (nI_m1 (by omega))) (fun h160k => ?_)
          refine zJ_iconst (v := 1) dX9_least_163 (by decide) ?_
          refine zJ_goto (tgt := 168) dX9_least_164 (by decide) ?_
          refine zJ_istore (ls2 := fun x168k => [(8, .int x168k), (10, .int (nI z)), (9, .int (nI (f + i * s))), (7, .int (-1)), (6, .int (w.2.1 100 7)), (5, .int (w.2.1 100 6)), (0, .ref 100), (1, .int (nI 1)), (2, .int (nI f)), (3, .int (nI t)), (4, .int (nI s))]) dX9_least_168 (by decide) (fun _ => rfl) (fun x168k ex168k => ?_)
          obtain rfl : x168k = 1 := ex168k
          refine zJ_iload dX9_least_170 rfl ?_
          refine zJ_if_eq (tgt := 193) dX9_least_172 (by decide) (fun h9 => False.elim (by revert h9; decide)) (fun _ => ?_)
          refine zJ_aload_n dX9_least_175 rfl ?_
          refine zJ_getr (j := 140) dX9_least_176 fX9_53 (by first | rfl | assumption | exact Md.at (by decide) (by decide)) rfl (by first | rfl | assumption | exact Md.rf (by decide) rfl) ?_
          refine zJ_iload dX9_least_179 rfl ?_
          refine zJ_ialdN (i := z) (v := (nI (zlst (zZl U 9 f s i) 11 (zfk (zZl U 9 f s i))).2.1)) dX9_least_181 (by first | rfl | assumption | exact Md.at (by decide) (by decide)) rfl (by omega) (by decide) hzr ?_
          refine zJ_aload_n dX9_least_182 rfl ?_
          refine zJ_getiN dX9_least_183 fX9_16 (by first | rfl | assumption | exact Md.at (by decide) (by decide)) rfl d5 ?_
          refine zJ_icmp_ne (tgt := 193) dX9_least_186 (by decide) (fun h186k => ?_) (fun h9 => absurd h9 (fun h => hit ((nI_eq (by omega) (by omega)).mp h)))
          refine zJ_iload dX9_least_193 rfl ?_
          refine zJ_iload_n dX9_least_195 rfl ?_
          refine zJ_iload dX9_least_196 rfl ?_
          refine zJ_isub dX9_least_198 ?_
          refine zJ_icmp_le (tgt := 205) dX9_least_199 (by decide) (fun h199k => ?_) (fun h9 => absurd (hmore hin) h9)
          refine zJ_iload dX9_least_205 rfl ?_
          refine zJ_iload dX9_least_207 rfl ?_
          refine zJ_iadd dX9_least_209 ?_
          rw [na_add, show f + i * s + s = f + (i + 1) * s from (hnx hin).1.symm]
          refine zJ_istore (ls2 := fun x210k => [(9, .int x210k), (8, .int 1), (10, .int (nI z)), (7, .int (-1)), (6, .int (w.2.1 100 7)), (5, .int (w.2.1 100 6)), (0, .ref 100), (1, .int (nI 1)), (2, .int (nI f)), (3, .int (nI t)), (4, .int (nI s))]) dX9_least_210 (by decide) (fun _ => rfl) (fun x210k ex210k => ?_)
          obtain rfl : x210k = (nI (f + (i + 1) * s)) := ex210k
          refine zJ_goto (tgt := 115) dX9_least_212 (by decide) ?_
          refine zJ_ls [(9, .int (nI (f + (i + 1) * s))), (8, .int 1), (7, .int (-1)), (6, .int (w.2.1 100 7)), (5, .int (w.2.1 100 6)), (0, .ref 100), (1, .int (nI 1)), (2, .int (nI f)), (3, .int (nI t)), (4, .int (nI s))] (by simp) ?_
          exact ih (i + 1) (by omega) (by omega) d _ fd9 d0 (fun j hj => by
            by_cases hji : j = i
            · subst hji; exact ⟨hfi, hit⟩
            · exact hbf j (by omega))
        · refine zJ_istore (ls2 := fun x155k => [(10, .int x155k), (9, .int (nI (f + i * s))), (8, .int 1), (7, .int (-1)), (6, .int (w.2.1 100 7)), (5, .int (w.2.1 100 6)), (0, .ref 100), (1, .int (nI 1)), (2, .int (nI f)), (3, .int (nI t)), (4, .int (nI s))]) dX9_least_155 (by decide) (fun _ => rfl) (fun x155k ex155k => ?_)
          obtain rfl : x155k = (nI z) := ex155k
          refine zJ_iload dX9_least_157 rfl ?_
          refine zJ_iconst (v := (-1)) dX9_least_159 (by decide) ?_
          refine zJ_icmp_eq (tgt := 167) dX9_least_160 (by decide) (fun h9 => absurd h9 (nI_m1 (by omega))) (fun h160k => ?_)
          refine zJ_iconst (v := 1) dX9_least_163 (by decide) ?_
          refine zJ_goto (tgt := 168) dX9_least_164 (by decide) ?_
          refine zJ_istore (ls2 := fun x168k => [(8, .int x168k), (10, .int (nI z)), (9, .int (nI (f + i * s))), (7, .int (-1)), (6, .int (w.2.1 100 7)), (5, .int (w.2.1 100 6)), (0, .ref 100), (1, .int (nI 1)), (2, .int (nI f)), (3, .int (nI t)), (4, .int (nI s))]) dX9_least_168 (by decide) (fun _ => rfl) (fun x168k ex168k => ?_)
          obtain rfl : x168k = 1 := ex168k
          refine zJ_iload dX9_least_170 rfl ?_
          refine zJ_if_eq (tgt := 193) dX9_least_172 (by decide) (fun h9 => False.elim (by revert h9; decide)) (fun _ => ?_)
          refine zJ_aload_n dX9_least_175 rfl ?_
          refine zJ_getr (j := 140) dX9_least_176 fX9_53 (by first | rfl | assumption | exact Md.at (by decide) (by decide)) rfl (by first | rfl | assumption | exact Md.rf (by decide) rfl) ?_
          refine zJ_iload dX9_least_179 rfl ?_
          refine zJ_ialdN (i := z) (v := (nI (zlst (zZl U 9 f s i) 11 (zfk (zZl U 9 f s i))).2.1)) dX9_least_181 (by first | rfl | assumption | exact Md.at (by decide) (by decide)) rfl (by omega) (by decide) hzr ?_
          refine zJ_aload_n dX9_least_182 rfl ?_
          refine zJ_getiN dX9_least_183 fX9_16 (by first | rfl | assumption | exact Md.at (by decide) (by decide)) rfl d5 ?_
          refine zJ_icmp_ne (tgt := 193) dX9_least_186 (by decide) (fun h186k => ?_) (fun h9 => absurd h9 (fun h => hit ((nI_eq (by omega) (by omega)).mp h)))
          refine zJ_iload dX9_least_193 rfl ?_
          refine zJ_iload_n dX9_least_195 rfl ?_
          refine zJ_iload dX9_least_196 rfl ?_
          refine zJ_isub dX9_least_198 ?_
          refine zJ_icmp_le (tgt := 205) dX9_least_199 (by decide) (fun h9 => absurd h9 (hlast hin)) (fun h199k => ?_)
          refine zJ_goto (tgt := 215) dX9_least_202 (by decide) ?_
          refine zJ_ls [(8, .int 1), (7, .int (-1)), (6, .int (w.2.1 100 7)), (5, .int (w.2.1 100 6)), (0, .ref 100), (1, .int (nI 1)), (2, .int (nI f)), (3, .int (nI t)), (4, .int (nI s))] (by simp) ?_
          exact E d _ 1 (-1) fd9 d0 (Or.inr ⟨rfl, fun c c0 => ⟨i, hi, hbf, Or.inr (Or.inr ⟨by omega, hfi, hit, c0, rfl⟩)⟩⟩)
  refine zJ_aload_n dX9_least_94 rfl ?_
  refine zJ_geti dX9_least_95 fX9_304 (by first | rfl | assumption | exact hM.at (by decide) (by decide)) rfl ?_
  refine zJ_istore (ls2 := fun x98 => [(5, .int x98), (0, .ref 100), (1, .int (nI 1)), (2, .int (nI f)), (3, .int (nI t)), (4, .int (nI s))]) dX9_least_98 (by decide) (fun _ => rfl) (fun x98 ex98 => ?_)
  refine zJ_aload_n dX9_least_100 rfl ?_
  refine zJ_geti dX9_least_101 fX9_307 (by first | rfl | assumption | exact hM.at (by decide) (by decide)) rfl ?_
  refine zJ_istore (ls2 := fun x104 => [(6, .int x104), (5, .int x98), (0, .ref 100), (1, .int (nI 1)), (2, .int (nI f)), (3, .int (nI t)), (4, .int (nI s))]) dX9_least_104 (by decide) (fun _ => rfl) (fun x104 ex104 => ?_)
  refine zJ_iconst (v := (-1)) dX9_least_106 (by decide) ?_
  refine zJ_istore (ls2 := fun x107 => [(7, .int x107), (6, .int x104), (5, .int x98), (0, .ref 100), (1, .int (nI 1)), (2, .int (nI f)), (3, .int (nI t)), (4, .int (nI s))]) dX9_least_107 (by decide) (fun _ => rfl) (fun x107 ex107 => ?_)
  refine zJ_iconst (v := 1) dX9_least_109 (by decide) ?_
  refine zJ_istore (ls2 := fun x110 => [(8, .int x110), (7, .int x107), (6, .int x104), (5, .int x98), (0, .ref 100), (1, .int (nI 1)), (2, .int (nI f)), (3, .int (nI t)), (4, .int (nI s))]) dX9_least_110 (by decide) (fun _ => rfl) (fun x110 ex110 => ?_)
  refine zJ_iload_n dX9_least_112 rfl ?_
  refine zJ_istore (ls2 := fun x113 => [(9, .int x113), (8, .int x110), (7, .int x107), (6, .int x104), (5, .int x98), (0, .ref 100), (1, .int (nI 1)), (2, .int (nI f)), (3, .int (nI t)), (4, .int (nI s))]) dX9_least_113 (by decide) (fun _ => rfl) (fun x113 ex113 => ?_)
  refine zJ_ls [(9, .int x113), (8, .int x110), (7, .int x107), (6, .int x104), (5, .int x98), (0, .ref 100), (1, .int (nI 1)), (2, .int (nI f)), (3, .int (nI t)), (4, .int (nI s))] (by simp) ?_
  rw [ex113, ex110, ex107, ex104, ex98]
  have h9 := L 0 (Nat.zero_le _) w (w.2.1 100 7) (by rw [W0]; exact zFM.rf _) e0 (fun j hj => absurd hj (Nat.not_lt_zero j))
  rw [show f + 0 * s = f by omega] at h9
  exact h9
set_option maxRecDepth 100000 in
theorem zMo_ls0 (Δ : zD) (w : zW) (U : zTo) (hMu : zMu w U) (hU : zTok U) (h13 : U.1 13 = 0) (hpos : 0 < U.1 0) (e0 : w.2.1 100 0 = 0) (f t s : Nat) (hft : f ≤ t) (ht : t ≤ 9999) (hs : 1 ≤ s) (hs2 : s < 2 ^ 31) {QR : Option Value → zW → Prop} (hQ : ∀ c r, zFM zScr w c → zlsP U 8 f s ((t - f) / s) c r → QR r c) : zJ Δ mX9_least (zRm 6 0 0) true w.1 QR (fun _ _ => False) 0 0 94 [(0, .ref 100), (1, .int (nI 0)), (2, .int (nI f)), (3, .int (nI t)), (4, .int (nI s))] [] w := by
  have hM := hMu.1
  have hms : (t - f) / s * s ≤ t - f := Nat.div_mul_le_self (t - f) s
  have hml : t - f < ((t - f) / s + 1) * s := by rw [Nat.mul_comm]; exact Nat.lt_mul_div_succ (t - f) (by omega)
  generalize (t - f) / s = n at hms hml hQ
  rw [Nat.add_mul, Nat.one_mul] at hml
  have W0 : zsi w 100 6 (w.2.1 100 6) = w := zsi_self w 100 6
  have E : ∀ (g : zW) (v : Int32) (gd fd : Int32), zFM zScr (zsi w 100 6 v) g → g.2.1 100 0 = 0 → ((gd = 0 ∧ ∃ i, i ≤ n ∧ (∀ j, j < i → zfit (zZl U 8 f s j) 20000 ∧ ¬ zZh U 8 f s j) ∧ ¬ zfit (zZl U 8 f s i) 20000) ∨ (gd = 1 ∧ ∀ c, c.2.1 100 0 = 0 → zlsP U 8 f s n c (some (.int fd)))) → zJ Δ mX9_least (zRm 6 0 0) true w.1 QR (fun _ _ => False) 0 0 215 [(8, .int gd), (7, .int fd), (6, .int (w.2.1 100 7)), (5, .int (w.2.1 100 6)), (0, .ref 100), (1, .int (nI 0)), (2, .int (nI f)), (3, .int (nI t)), (4, .int (nI s))] [] g := by
    intro g v gd fd fg g0 hst
    have Mg : zMs g := (show zMs (zsi w 100 6 v) from hM).fm fg
    have go : g.2.1 100 7 = w.2.1 100 7 := (fg.at (by decide)).trans (by simp [zsi])
    have fin : zFM zScr w (zsi (zsi g 100 6 (w.2.1 100 6)) 100 7 (w.2.1 100 7)) := by
      have h1 : zFM zScr w (zsi g 100 6 (w.2.1 100 6)) := fg.sand (by decide)
      have h2 : (zsi g 100 6 (w.2.1 100 6)).2.1 100 7 = w.2.1 100 7 := by simp [zsi, go]
      rw [← h2, zsi_self]
      exact h1
    have M2 : zMs (zsi (zsi g 100 6 (w.2.1 100 6)) 100 7 (w.2.1 100 7)) := Mg
    have q0 : (zsi (zsi g 100 6 (w.2.1 100 6)) 100 7 (w.2.1 100 7)).2.1 100 0 = 0 := by simp [zsi, g0]
    rcases hst with ⟨rfl, i, hi, h1, h2⟩ | ⟨rfl, h1⟩
    · refine zJ_aload_n dX9_least_215 rfl ?_
      refine zJ_iload dX9_least_216 rfl ?_
      refine zJ_puti dX9_least_218 fX9_304 (fun q h => by cases h; rfl) (by first | rfl | assumption | exact Mg.at (by decide) (by decide)) rfl rfl rfl ?_
      refine zJ_aload_n dX9_least_221 rfl ?_
      refine zJ_iload dX9_least_222 rfl ?_
      refine zJ_puti dX9_least_224 fX9_307 (fun q h => by cases h; rfl) (by first | rfl | assumption | exact Mg.at (by decide) (by decide)) rfl rfl rfl ?_
      refine zJ_aload_n dX9_least_227 rfl ?_
      refine zJ_iload dX9_least_228 rfl ?_
      refine zJ_iconst (v := 2) dX9_least_230 (by decide) ?_
      refine zJ_cV2 dX9_least_231 sX9_291 mfX9_right (c_Mo_right0 Δ (zsi (zsi g 100 6 (w.2.1 100 6)) 100 7 (w.2.1 100 7)) M2 q0 2 (by decide)) (by first | rfl | assumption | exact Mg.at (by decide) (by decide)) rfl (Nat.le_of_ble_eq_true rfl) (by decide) (by decide) ?_
      refine zJ_if_eq (tgt := 242) dX9_least_234 (by decide) (fun _ => ?_) (fun h9 => False.elim (by revert h9; decide))
      refine zJ_iconst (v := 0) dX9_least_242 (by decide) ?_
      exact zJ_iret dX9_least_243 rfl (by decide) (by decide) (hQ _ _ (fin.tr zFM.t0) ⟨i, hi, h1, Or.inl ⟨h2, by simp [zsi]⟩⟩)
    · refine zJ_aload_n dX9_least_215 rfl ?_
      refine zJ_iload dX9_least_216 rfl ?_
      refine zJ_puti dX9_least_218 fX9_304 (fun q h => by cases h; rfl) (by first | rfl | assumption | exact Mg.at (by decide) (by decide)) rfl rfl rfl ?_
      refine zJ_aload_n dX9_least_221 rfl ?_
      refine zJ_iload dX9_least_222 rfl ?_
      refine zJ_puti dX9_least_224 fX9_307 (fun q h => by cases h; rfl) (by first | rfl | assumption | exact Mg.at (by decide) (by decide)) rfl rfl rfl ?_
      refine zJ_aload_n dX9_least_227 rfl ?_
      refine zJ_iload dX9_least_228 rfl ?_
      refine zJ_iconst (v := 2) dX9_least_230 (by decide) ?_
      refine zJ_cV2 dX9_least_231 sX9_291 mfX9_right (c_Mo_right1 Δ (zsi (zsi g 100 6 (w.2.1 100 6)) 100 7 (w.2.1 100 7)) M2 q0 2) (by first | rfl | assumption | exact Mg.at (by decide) (by decide)) rfl (Nat.le_of_ble_eq_true rfl) (by decide) (by decide) ?_
      refine zJ_if_eq (tgt := 242) dX9_least_234 (by decide) (fun h9 => False.elim (by revert h9; decide)) (fun _ => ?_)
      refine zJ_iload dX9_least_237 rfl ?_
      refine zJ_goto (tgt := 243) dX9_least_239 (by decide) ?_
      exact zJ_iret dX9_least_243 rfl (by decide) (by decide) (hQ _ _ fin (h1 _ q0))
  have L : ∀ i, i ≤ n → ∀ (g : zW) (v : Int32), zFM zScr (zsi w 100 6 v) g → g.2.1 100 0 = 0 → (∀ j, j < i → zfit (zZl U 8 f s j) 20000 ∧ ¬ zZh U 8 f s j) → zJ Δ mX9_least (zRm 6 0 0) true w.1 QR (fun _ _ => False) 0 0 115 [(9, .int (nI (f + i * s))), (8, .int 1), (7, .int (-1)), (6, .int (w.2.1 100 7)), (5, .int (w.2.1 100 6)), (0, .ref 100), (1, .int (nI 0)), (2, .int (nI f)), (3, .int (nI t)), (4, .int (nI s))] [] g := by
    refine zup (fun i hi ih => ?_)
    intro g v fg g0 hbf
    have Mg : zMs g := (show zMs (zsi w 100 6 v) from hM).fm fg
    have his : i * s ≤ n * s := Nat.mul_le_mul_right s hi
    have hvt : f + i * s ≤ t := by omega
    have f2 : zFM zScr (zsi w 100 6 (nI (f + i * s))) (zsi g 100 6 (nI (f + i * s))) := fg.swap
    have hMu2 : zMu (zsi g 100 6 (nI (f + i * s))) (zTs U 8 (f + i * s)) := (hMu.set (by omega)).fm f2 (by decide)
    have M2 : zMs (zsi g 100 6 (nI (f + i * s))) := hMu2.1
    have g2 : (zsi g 100 6 (nI (f + i * s))).2.1 100 0 = 0 := by simp [zsi, g0]
    have hT9 : zTok (zTs U 8 (f + i * s)) := hU.s (by omega)
    have hnx : i < n → f + (i + 1) * s = f + i * s + s ∧ f + i * s + s ≤ t := fun h => by
      have h1 : (i + 1) * s ≤ n * s := Nat.mul_le_mul_right s h
      rw [Nat.add_mul, Nat.one_mul] at h1 ⊢
      omega
    have hlast : ¬ i < n → ¬ nI (f + i * s) ≤ nI t - nI s := fun h h9 => by
      have e : i = n := by omega
      subst e
      by_cases hst : s ≤ t
      · rw [na_sub hst] at h9
        have := (nI_leI (by omega) (by omega)).mp h9
        omega
      · exact zneg (by omega) hs2 (Int32.le_trans ((nI_leI (a := 0) (by decide) (by omega)).mpr (Nat.zero_le _)) h9)
    have hmore : i < n → nI (f + i * s) ≤ nI t - nI s := fun h => by
      have := hnx h
      rw [na_sub (by omega)]
      exact (nI_leI (by omega) (by omega)).mpr (by omega)
    refine zJ_iload dX9_least_115 rfl ?_
    refine zJ_iload_n dX9_least_117 rfl ?_
    refine zJ_icmp_gt (tgt := 215) dX9_least_118 (by decide) (fun h9 => absurd h9 (fun h => absurd ((nI_ltI (by omega) (by omega)).mp h) (by omega))) (fun h118 => ?_)
    refine zJ_iload dX9_least_121 rfl ?_
    refine zJ_iconst (v := (-1)) dX9_least_123 (by decide) ?_
    refine zJ_icmp_ne (tgt := 215) dX9_least_124 (by decide) (fun h9 => False.elim (by revert h9; decide)) (fun _ => ?_)
    refine zJ_iload dX9_least_127 rfl ?_
    refine zJ_if_eq (tgt := 215) dX9_least_129 (by decide) (fun h9 => False.elim (by revert h9; decide)) (fun _ => ?_)
    refine zJ_iload_n dX9_least_132 rfl ?_
    refine zJ_if_eq (tgt := 145) dX9_least_133 (by decide) (fun _ => ?_) (fun h9 => False.elim (by revert h9; decide))
    refine zJ_aload_n dX9_least_145 rfl ?_
    refine zJ_iload dX9_least_146 rfl ?_
    refine zJ_puti dX9_least_148 fX9_304 (fun q h => by cases h; rfl) (by first | rfl | assumption | exact Mg.at (by decide) (by decide)) rfl rfl rfl ?_
    refine zJ_aload_n dX9_least_151 rfl ?_
    refine zJ_eV0 dX9_least_152 sX9_429 mfX9_allReckon (c_Mo_allReckon Δ _ (zTs U 8 (f + i * s)) hMu2 hT9 h13 hpos) (M2.at (by decide) (by decide)) rfl (Nat.le_of_ble_eq_true rfl) (by decide) (by decide) (fun r d hP => ?_)
    obtain ⟨hfd, hP⟩ := hP
    have Md : zMs d := M2.fm hfd
    have d0 : d.2.1 100 0 = 0 := (hfd.at (by decide)).trans g2
    have fd9 : zFM zScr (zsi w 100 6 (nI (f + i * s))) d := f2.tr (hfd.mono (by decide))
    have d5 : d.2.1 100 5 = nI (U.1 7) := (fd9.at (by decide)).trans (by simp [zsi, hMu.2.2.2.2.2.1])
    rcases hP with ⟨rfl, hno⟩ | ⟨K, z, hKd, hz, hz2, rfl⟩
    · by_cases hin : i < n
      · refine zJ_istore (ls2 := fun x155k => [(10, .int x155k), (9, .int (nI (f + i * s))), (8, .int 1), (7, .int (-1)), (6, .int (w.2.1 100 7)), (5, .int (w.2.1 100 6)), (0, .ref 100), (1, .int (nI 0)), (2, .int (nI f)), (3, .int (nI t)), (4, .int (nI s))]) dX9_least_155 (by decide) (fun _ => rfl) (fun x155k ex155k => ?_)
        obtain rfl : x155k = (-1) := ex155k
        refine zJ_iload dX9_least_157 rfl ?_
        refine zJ_iconst (v := (-1)) dX9_least_159 (by decide) ?_
        refine zJ_icmp_eq (tgt := 167) dX9_least_160 (by decide) (fun _ => ?_) (fun h9 => False.elim (by revert h9; decide))
        refine zJ_iconst (v := 0) dX9_least_167 (by decide) ?_
        refine zJ_istore (ls2 := fun x168k => [(8, .int x168k), (10, .int (-1)), (9, .int (nI (f + i * s))), (7, .int (-1)), (6, .int (w.2.1 100 7)), (5, .int (w.2.1 100 6)), (0, .ref 100), (1, .int (nI 0)), (2, .int (nI f)), (3, .int (nI t)), (4, .int (nI s))]) dX9_least_168 (by decide) (fun _ => rfl) (fun x168k ex168k => ?_)
        obtain rfl : x168k = 0 := ex168k
        refine zJ_iload dX9_least_170 rfl ?_
        refine zJ_if_eq (tgt := 193) dX9_least_172 (by decide) (fun _ => ?_) (fun h9 => False.elim (by revert h9; decide))
        refine zJ_iload dX9_least_193 rfl ?_
        refine zJ_iload_n dX9_least_195 rfl ?_
        refine zJ_iload dX9_least_196 rfl ?_
        refine zJ_isub dX9_least_198 ?_
        refine zJ_icmp_le (tgt := 205) dX9_least_199 (by decide) (fun h199k => ?_) (fun h9 => absurd (hmore hin) h9)
        refine zJ_iload dX9_least_205 rfl ?_
        refine zJ_iload dX9_least_207 rfl ?_
        refine zJ_iadd dX9_least_209 ?_
        rw [na_add, show f + i * s + s = f + (i + 1) * s from (hnx hin).1.symm]
        refine zJ_istore (ls2 := fun x210k => [(9, .int x210k), (8, .int 0), (10, .int (-1)), (7, .int (-1)), (6, .int (w.2.1 100 7)), (5, .int (w.2.1 100 6)), (0, .ref 100), (1, .int (nI 0)), (2, .int (nI f)), (3, .int (nI t)), (4, .int (nI s))]) dX9_least_210 (by decide) (fun _ => rfl) (fun x210k ex210k => ?_)
        obtain rfl : x210k = (nI (f + (i + 1) * s)) := ex210k
        refine zJ_goto (tgt := 115) dX9_least_212 (by decide) ?_
        refine zJ_iload dX9_least_115 rfl ?_
        refine zJ_iload_n dX9_least_117 rfl ?_
        refine zJ_icmp_gt (tgt := 215) dX9_least_118 (by decide) (fun h9 => absurd h9 (fun h => absurd ((nI_ltI (by omega) (by omega)).mp h) (by have := hnx hin; omega))) (fun h118r => ?_)
        refine zJ_iload dX9_least_121 rfl ?_
        refine zJ_iconst (v := (-1)) dX9_least_123 (by decide) ?_
        refine zJ_icmp_ne (tgt := 215) dX9_least_124 (by decide) (fun h9 => False.elim (by revert h9; decide)) (fun _ => ?_)
        refine zJ_iload dX9_least_127 rfl ?_
        refine zJ_if_eq (tgt := 215) dX9_least_129 (by decide) (fun _ => ?_) (fun h9 => False.elim (by revert h9; decide))
        refine zJ_ls [(8, .int 0), (7, .int (-1)), (6, .int (w.2.1 100 7)), (5, .int (w.2.1 100 6)), (0, .ref 100), (1, .int (nI 0)), (2, .int (nI f)), (3, .int (nI t)), (4, .int (nI s))] (by simp) ?_
        exact E d _ 0 (-1) fd9 d0 (Or.inl ⟨rfl, i, hi, hbf, hno⟩)
      · refine zJ_istore (ls2 := fun x155k => [(10, .int x155k), (9, .int (nI (f + i * s))), (8, .int 1), (7, .int (-1)), (6, .int (w.2.1 100 7)), (5, .int (w.2.1 100 6)), (0, .ref 100), (1, .int (nI 0)), (2, .int (nI f)), (3, .int (nI t)), (4, .int (nI s))]) dX9_least_155 (by decide) (fun _ => rfl) (fun x155k ex155k => ?_)
        obtain rfl : x155k = (-1) := ex155k
        refine zJ_iload dX9_least_157 rfl ?_
        refine zJ_iconst (v := (-1)) dX9_least_159 (by decide) ?_
        refine zJ_icmp_eq (tgt := 167) dX9_least_160 (by decide) (fun _ => ?_) (fun h9 => False.elim (by revert h9; decide))
        refine zJ_iconst (v := 0) dX9_least_167 (by decide) ?_
        refine zJ_istore (ls2 := fun x168k => [(8, .int x168k), (10, .int (-1)), (9, .int (nI (f + i * s))), (7, .int (-1)), (6, .int (w.2.1 100 7)), (5, .int (w.2.1 100 6)), (0, .ref 100), (1, .int (nI 0)), (2, .int (nI f)), (3, .int (nI t)), (4, .int (nI s))]) dX9_least_168 (by decide) (fun _ => rfl) (fun x168k ex168k => ?_)
        obtain rfl : x168k = 0 := ex168k
        refine zJ_iload dX9_least_170 rfl ?_
        refine zJ_if_eq (tgt := 193) dX9_least_172 (by decide) (fun _ => ?_) (fun h9 => False.elim (by revert h9; decide))
        refine zJ_iload dX9_least_193 rfl ?_
        refine zJ_iload_n dX9_least_195 rfl ?_
        refine zJ_iload dX9_least_196 rfl ?_
        refine zJ_isub dX9_least_198 ?_
        refine zJ_icmp_le (tgt := 205) dX9_least_199 (by decide) (fun h9 => absurd h9 (hlast hin)) (fun h199k => ?_)
        refine zJ_goto (tgt := 215) dX9_least_202 (by decide) ?_
        refine zJ_ls [(8, .int 0), (7, .int (-1)), (6, .int (w.2.1 100 7)), (5, .int (w.2.1 100 6)), (0, .ref 100), (1, .int (nI 0)), (2, .int (nI f)), (3, .int (nI t)), (4, .int (nI s))] (by simp) ?_
        exact E d _ 0 (-1) fd9 d0 (Or.inl ⟨rfl, i, hi, hbf, hno⟩)
    · have hfi : zfit (zZl U 8 f s i) 20000 := ⟨K, hKd.2.2.1, hKd.2.1.2.2.1⟩
      have hzr : d.2.1 140 z = nI (zlst (zZl U 8 f s i) 11 (zfk (zZl U 8 f s i))).2.1 := (hKd.2.1.1 z _ hz).2.1
      have hkk := (hKd.2.1.2.2.2 _ (List.mem_iff_getElem?.mpr ⟨z, hz⟩)).1.2.1
      have h712 : (zlst (zZl U 8 f s i) 11 (zfk (zZl U 8 f s i))).2.1 ≤ U.1 7 := hkk.2
      have h7 := hU.2.2.2.1
      by_cases hit : zZh U 8 f s i
      · by_cases hin : i < n
        · refine zJ_istore (ls2 := fun x155k => [(10, .int x155k), (9, .int (nI (f + i * s))), (8, .int 1), (7, .int (-1)), (6, .int (w.2.1 100 7)), (5, .int (w.2.1 100 6)), (0, .ref 100), (1, .int (nI 0)), (2, .int (nI f)), (3, .int (nI t)), (4, .int (nI s))]) dX9_least_155 (by decide) (fun _ => rfl) (fun x155k ex155k => ?_)
          obtain rfl : x155k = (nI z) := ex155k
          refine zJ_iload dX9_least_157 rfl ?_
          refine zJ_iconst (v := (-1)) dX9_least_159 (by decide) ?_
          refine zJ_icmp_eq (tgt := 167) dX9_least_160 (by decide) (fun h9 => absurd h9 (nI_m1 (by omega))) (fun h160k => ?_)
          refine zJ_iconst (v := 1) dX9_least_163 (by decide) ?_
          refine zJ_goto (tgt := 168) dX9_least_164 (by decide) ?_
          refine zJ_istore (ls2 := fun x168k => [(8, .int x168k), (10, .int (nI z)), (9, .int (nI (f + i * s))), (7, .int (-1)), (6, .int (w.2.1 100 7)), (5, .int (w.2.1 100 6)), (0, .ref 100), (1, .int (nI 0)), (2, .int (nI f)), (3, .int (nI t)), (4, .int (nI s))]) dX9_least_168 (by decide) (fun _ => rfl) (fun x168k ex168k => ?_)
          obtain rfl : x168k = 1 := ex168k
          refine zJ_iload dX9_least_170 rfl ?_
          refine zJ_if_eq (tgt := 193) dX9_least_172 (by decide) (fun h9 => False.elim (by revert h9; decide)) (fun _ => ?_)
          refine zJ_aload_n dX9_least_175 rfl ?_
          refine zJ_getr (j := 140) dX9_least_176 fX9_53 (by first | rfl | assumption | exact Md.at (by decide) (by decide)) rfl (by first | rfl | assumption | exact Md.rf (by decide) rfl) ?_
          refine zJ_iload dX9_least_179 rfl ?_
          refine zJ_ialdN (i := z) (v := (nI (zlst (zZl U 8 f s i) 11 (zfk (zZl U 8 f s i))).2.1)) dX9_least_181 (by first | rfl | assumption | exact Md.at (by decide) (by decide)) rfl (by omega) (by decide) hzr ?_
          refine zJ_aload_n dX9_least_182 rfl ?_
          refine zJ_getiN dX9_least_183 fX9_16 (by first | rfl | assumption | exact Md.at (by decide) (by decide)) rfl d5 ?_
          refine zJ_icmp_ne (tgt := 193) dX9_least_186 (by decide) (fun h9 => absurd h9 (fun h => h (congrArg nI hit))) (fun h186k => ?_)
          refine zJ_iload dX9_least_189 rfl ?_
          refine zJ_istore (ls2 := fun x191k => [(7, .int x191k), (8, .int 1), (10, .int (nI z)), (9, .int (nI (f + i * s))), (6, .int (w.2.1 100 7)), (5, .int (w.2.1 100 6)), (0, .ref 100), (1, .int (nI 0)), (2, .int (nI f)), (3, .int (nI t)), (4, .int (nI s))]) dX9_least_191 (by decide) (fun _ => rfl) (fun x191k ex191k => ?_)
          obtain rfl : x191k = (nI (f + i * s)) := ex191k
          refine zJ_iload dX9_least_193 rfl ?_
          refine zJ_iload_n dX9_least_195 rfl ?_
          refine zJ_iload dX9_least_196 rfl ?_
          refine zJ_isub dX9_least_198 ?_
          refine zJ_icmp_le (tgt := 205) dX9_least_199 (by decide) (fun h199k => ?_) (fun h9 => absurd (hmore hin) h9)
          refine zJ_iload dX9_least_205 rfl ?_
          refine zJ_iload dX9_least_207 rfl ?_
          refine zJ_iadd dX9_least_209 ?_
          rw [na_add, show f + i * s + s = f + (i + 1) * s from (hnx hin).1.symm]
          refine zJ_istore (ls2 := fun x210k => [(9, .int x210k), (7, .int (nI (f + i * s))), (8, .int 1), (10, .int (nI z)), (6, .int (w.2.1 100 7)), (5, .int (w.2.1 100 6)), (0, .ref 100), (1, .int (nI 0)), (2, .int (nI f)), (3, .int (nI t)), (4, .int (nI s))]) dX9_least_210 (by decide) (fun _ => rfl) (fun x210k ex210k => ?_)
          obtain rfl : x210k = (nI (f + (i + 1) * s)) := ex210k
          refine zJ_goto (tgt := 115) dX9_least_212 (by decide) ?_
          refine zJ_iload dX9_least_115 rfl ?_
          refine zJ_iload_n dX9_least_117 rfl ?_
          refine zJ_icmp_gt (tgt := 215) dX9_least_118 (by decide) (fun h9 => absurd h9 (fun h => absurd ((nI_ltI (by omega) (by omega)).mp h) (by have := hnx hin; omega))) (fun h118r => ?_)
          refine zJ_iload dX9_least_121 rfl ?_
          refine zJ_iconst (v := (-1)) dX9_least_123 (by decide) ?_
          refine zJ_icmp_ne (tgt := 215) dX9_least_124 (by decide) (fun h124r => ?_) (fun h9 => absurd h9 (nI_m1 (by omega)))
          refine zJ_ls [(8, .int 1), (7, .int (nI (f + i * s))), (6, .int (w.2.1 100 7)), (5, .int (w.2.1 100 6)), (0, .ref 100), (1, .int (nI 0)), (2, .int (nI f)), (3, .int (nI t)), (4, .int (nI s))] (by simp) ?_
          exact E d _ 1 (nI (f + i * s)) fd9 d0 (Or.inr ⟨rfl, fun c c0 => ⟨i, hi, hbf, Or.inr (Or.inl ⟨hfi, hit, c0, rfl⟩)⟩⟩)
        · refine zJ_istore (ls2 := fun x155k => [(10, .int x155k), (9, .int (nI (f + i * s))), (8, .int 1), (7, .int (-1)), (6, .int (w.2.1 100 7)), (5, .int (w.2.1 100 6)), (0, .ref 100), (1, .int (nI 0)), (2, .int (nI f)), (3, .int (nI t)), (4, .int (nI s))]) dX9_least_155 (by decide) (fun _ => rfl) (fun x155k ex155k => ?_)
          obtain rfl : x155k = (nI z) := ex155k
          refine zJ_iload dX9_least_157 rfl ?_
          refine zJ_iconst (v := (-1)) dX9_least_159 (by decide) ?_
          refine zJ_icmp_eq (tgt := 167) dX9_least_160 (by decide) (fun h9 => absurd h9 (nI_m1 (by omega))) (fun h160k => ?_)
          refine zJ_iconst (v := 1) dX9_least_163 (by decide) ?_
          refine zJ_goto (tgt := 168) dX9_least_164 (by decide) ?_
          refine zJ_istore (ls2 := fun x168k => [(8, .int x168k), (10, .int (nI z)), (9, .int (nI (f + i * s))), (7, .int (-1)), (6, .int (w.2.1 100 7)), (5, .int (w.2.1 100 6)), (0, .ref 100), (1, .int (nI 0)), (2, .int (nI f)), (3, .int (nI t)), (4, .int (nI s))]) dX9_least_168 (by decide) (fun _ => rfl) (fun x168k ex168k => ?_)
          obtain rfl : x168k = 1 := ex168k
          refine zJ_iload dX9_least_170 rfl ?_
          refine zJ_if_eq (tgt := 193) dX9_least_172 (by decide) (fun h9 => False.elim (by revert h9; decide)) (fun _ => ?_)
          refine zJ_aload_n dX9_least_175 rfl ?_
          refine zJ_getr (j := 140) dX9_least_176 fX9_53 (by first | rfl | assumption | exact Md.at (by decide) (by decide)) rfl (by first | rfl | assumption | exact Md.rf (by decide) rfl) ?_
          refine zJ_iload dX9_least_179 rfl ?_
          refine zJ_ialdN (i := z) (v := (nI (zlst (zZl U 8 f s i) 11 (zfk (zZl U 8 f s i))).2.1)) dX9_least_181 (by first | rfl | assumption | exact Md.at (by decide) (by decide)) rfl (by omega) (by decide) hzr ?_
          refine zJ_aload_n dX9_least_182 rfl ?_
          refine zJ_getiN dX9_least_183 fX9_16 (by first | rfl | assumption | exact Md.at (by decide) (by decide)) rfl d5 ?_
          refine zJ_icmp_ne (tgt := 193) dX9_least_186 (by decide) (fun h9 => absurd h9 (fun h => h (congrArg nI hit))) (fun h186k => ?_)
          refine zJ_iload dX9_least_189 rfl ?_
          refine zJ_istore (ls2 := fun x191k => [(7, .int x191k), (8, .int 1), (10, .int (nI z)), (9, .int (nI (f + i * s))), (6, .int (w.2.1 100 7)), (5, .int (w.2.1 100 6)), (0, .ref 100), (1, .int (nI 0)), (2, .int (nI f)), (3, .int (nI t)), (4, .int (nI s))]) dX9_least_191 (by decide) (fun _ => rfl) (fun x191k ex191k => ?_)
          obtain rfl : x191k = (nI (f + i * s)) := ex191k
          refine zJ_iload dX9_least_193 rfl ?_
          refine zJ_iload_n dX9_least_195 rfl ?_
          refine zJ_iload dX9_least_196 rfl ?_
          refine zJ_isub dX9_least_198 ?_
          refine zJ_icmp_le (tgt := 205) dX9_least_199 (by decide) (fun h9 => absurd h9 (hlast hin)) (fun h199k => ?_)
          refine zJ_goto (tgt := 215) dX9_least_202 (by decide) ?_
          refine zJ_ls [(8, .int 1), (7, .int (nI (f + i * s))), (6, .int (w.2.1 100 7)), (5, .int (w.2.1 100 6)), (0, .ref 100), (1, .int (nI 0)), (2, .int (nI f)), (3, .int (nI t)), (4, .int (nI s))] (by simp) ?_
          exact E d _ 1 (nI (f + i * s)) fd9 d0 (Or.inr ⟨rfl, fun c c0 => ⟨i, hi, hbf, Or.inr (Or.inl ⟨hfi, hit, c0, rfl⟩)⟩⟩)
      · by_cases hin : i < n
        · refine zJ_istore (ls2 := fun x155k => [(10, .int x155k), (9, .int (nI (f + i * s))), (8, .int 1), (7, .int (-1)), (6, .int (w.2.1 100 7)), (5, .int (w.2.1 100 6)), (0, .ref 100), (1, .int (nI 0)), (2, .int (nI f)), (3, .int (nI t)), (4, .int (nI s))]) dX9_least_155 (by decide) (fun _ => rfl) (fun x155k ex155k => ?_)
          obtain rfl : x155k = (nI z) := ex155k
          refine zJ_iload dX9_least_157 rfl ?_
          refine zJ_iconst (v := (-1)) dX9_least_159 (by decide) ?_
          refine zJ_icmp_eq (tgt := 167) dX9_least_160 (by decide) (fun h9 => absurd h9 (nI_m1 (by omega))) (fun h160k => ?_)
          refine zJ_iconst (v := 1) dX9_least_163 (by decide) ?_
          refine zJ_goto (tgt := 168) dX9_least_164 (by decide) ?_
          refine zJ_istore (ls2 := fun x168k => [(8, .int x168k), (10, .int (nI z)), (9, .int (nI (f + i * s))), (7, .int (-1)), (6, .int (w.2.1 100 7)), (5, .int (w.2.1 100 6)), (0, .ref 100), (1, .int (nI 0)), (2, .int (nI f)), (3, .int (nI t)), (4, .int (nI s))]) dX9_least_168 (by decide) (fun _ => rfl) (fun x168k ex168k => ?_)
          obtain rfl : x168k = 1 := ex168k
          refine zJ_iload dX9_least_170 rfl ?_
          refine zJ_if_eq (tgt := 193) dX9_least_172 (by decide) (fun h9 => False.elim (by revert h9; decide)) (fun _ => ?_)
          refine zJ_aload_n dX9_least_175 rfl ?_
          refine zJ_getr (j := 140) dX9_least_176 fX9_53 (by first | rfl | assumption | exact Md.at (by decide) (by decide)) rfl (by first | rfl | assumption | exact Md.rf (by decide) rfl) ?_
          refine zJ_iload dX9_least_179 rfl ?_
          refine zJ_ialdN (i := z) (v := (nI (zlst (zZl U 8 f s i) 11 (zfk (zZl U 8 f s i))).2.1)) dX9_least_181 (by first | rfl | assumption | exact Md.at (by decide) (by decide)) rfl (by omega) (by decide) hzr ?_
          refine zJ_aload_n dX9_least_182 rfl ?_
          refine zJ_getiN dX9_least_183 fX9_16 (by first | rfl | assumption | exact Md.at (by decide) (by decide)) rfl d5 ?_
          refine zJ_icmp_ne (tgt := 193) dX9_least_186 (by decide) (fun h186k => ?_) (fun h9 => absurd h9 (fun h => hit ((nI_eq (by omega) (by omega)).mp h)))
          refine zJ_iload dX9_least_193 rfl ?_
          refine zJ_iload_n dX9_least_195 rfl ?_
          refine zJ_iload dX9_least_196 rfl ?_
          refine zJ_isub dX9_least_198 ?_
          refine zJ_icmp_le (tgt := 205) dX9_least_199 (by decide) (fun h199k => ?_) (fun h9 => absurd (hmore hin) h9)
          refine zJ_iload dX9_least_205 rfl ?_
          refine zJ_iload dX9_least_207 rfl ?_
          refine zJ_iadd dX9_least_209 ?_
          rw [na_add, show f + i * s + s = f + (i + 1) * s from (hnx hin).1.symm]
          refine zJ_istore (ls2 := fun x210k => [(9, .int x210k), (8, .int 1), (10, .int (nI z)), (7, .int (-1)), (6, .int (w.2.1 100 7)), (5, .int (w.2.1 100 6)), (0, .ref 100), (1, .int (nI 0)), (2, .int (nI f)), (3, .int (nI t)), (4, .int (nI s))]) dX9_least_210 (by decide) (fun _ => rfl) (fun x210k ex210k => ?_)
          obtain rfl : x210k = (nI (f + (i + 1) * s)) := ex210k
          refine zJ_goto (tgt := 115) dX9_least_212 (by decide) ?_
          refine zJ_ls [(9, .int (nI (f + (i + 1) * s))), (8, .int 1), (7, .int (-1)), (6, .int (w.2.1 100 7)), (5, .int (w.2.1 100 6)), (0, .ref 100), (1, .int (nI 0)), (2, .int (nI f)), (3, .int (nI t)), (4, .int (nI s))] (by simp) ?_
          exact ih (i + 1) (by omega) (by omega) d _ fd9 d0 (fun j hj => by
            by_cases hji : j = i
            · subst hji; exact ⟨hfi, hit⟩
            · exact hbf j (by omega))
        · refine zJ_istore (ls2 := fun x155k => [(10, .int x155k), (9, .int (nI (f + i * s))), (8, .int 1), (7, .int (-1)), (6, .int (w.2.1 100 7)), (5, .int (w.2.1 100 6)), (0, .ref 100), (1, .int (nI 0)), (2, .int (nI f)), (3, .int (nI t)), (4, .int (nI s))]) dX9_least_155 (by decide) (fun _ => rfl) (fun x155k ex155k => ?_)
          obtain rfl : x155k = (nI z) := ex155k
          refine zJ_iload dX9_least_157 rfl ?_
          refine zJ_iconst (v := (-1)) dX9_least_159 (by decide) ?_
          refine zJ_icmp_eq (tgt := 167) dX9_least_160 (by decide) (fun h9 => absurd h9 (nI_m1 (by omega))) (fun h160k => ?_)
          refine zJ_iconst (v := 1) dX9_least_163 (by decide) ?_
          refine zJ_goto (tgt := 168) dX9_least_164 (by decide) ?_
          refine zJ_istore (ls2 := fun x168k => [(8, .int x168k), (10, .int (nI z)), (9, .int (nI (f + i * s))), (7, .int (-1)), (6, .int (w.2.1 100 7)), (5, .int (w.2.1 100 6)), (0, .ref 100), (1, .int (nI 0)), (2, .int (nI f)), (3, .int (nI t)), (4, .int (nI s))]) dX9_least_168 (by decide) (fun _ => rfl) (fun x168k ex168k => ?_)
          obtain rfl : x168k = 1 := ex168k
          refine zJ_iload dX9_least_170 rfl ?_
          refine zJ_if_eq (tgt := 193) dX9_least_172 (by decide) (fun h9 => False.elim (by revert h9; decide)) (fun _ => ?_)
          refine zJ_aload_n dX9_least_175 rfl ?_
          refine zJ_getr (j := 140) dX9_least_176 fX9_53 (by first | rfl | assumption | exact Md.at (by decide) (by decide)) rfl (by first | rfl | assumption | exact Md.rf (by decide) rfl) ?_
          refine zJ_iload dX9_least_179 rfl ?_
          refine zJ_ialdN (i := z) (v := (nI (zlst (zZl U 8 f s i) 11 (zfk (zZl U 8 f s i))).2.1)) dX9_least_181 (by first | rfl | assumption | exact Md.at (by decide) (by decide)) rfl (by omega) (by decide) hzr ?_
          refine zJ_aload_n dX9_least_182 rfl ?_
          refine zJ_getiN dX9_least_183 fX9_16 (by first | rfl | assumption | exact Md.at (by decide) (by decide)) rfl d5 ?_
          refine zJ_icmp_ne (tgt := 193) dX9_least_186 (by decide) (fun h186k => ?_) (fun h9 => absurd h9 (fun h => hit ((nI_eq (by omega) (by omega)).mp h)))
          refine zJ_iload dX9_least_193 rfl ?_
          refine zJ_iload_n dX9_least_195 rfl ?_
          refine zJ_iload dX9_least_196 rfl ?_
          refine zJ_isub dX9_least_198 ?_
          refine zJ_icmp_le (tgt := 205) dX9_least_199 (by decide) (fun h9 => absurd h9 (hlast hin)) (fun h199k => ?_)
          refine zJ_goto (tgt := 215) dX9_least_202 (by decide) ?_
          refine zJ_ls [(8, .int 1), (7, .int (-1)), (6, .int (w.2.1 100 7)), (5, .int (w.2.1 100 6)), (0, .ref 100), (1, .int (nI 0)), (2, .int (nI f)), (3, .int (nI t)), (4, .int (nI s))] (by simp) ?_
          exact E d _ 1 (-1) fd9 d0 (Or.inr ⟨rfl, fun c c0 => ⟨i, hi, hbf, Or.inr (Or.inr ⟨by omega, hfi, hit, c0, rfl⟩)⟩⟩)
  refine zJ_aload_n dX9_least_94 rfl ?_
  refine zJ_geti dX9_least_95 fX9_304 (by first | rfl | assumption | exact hM.at (by decide) (by decide)) rfl ?_
  refine zJ_istore (ls2 := fun x98 => [(5, .int x98), (0, .ref 100), (1, .int (nI 0)), (2, .int (nI f)), (3, .int (nI t)), (4, .int (nI s))]) dX9_least_98 (by decide) (fun _ => rfl) (fun x98 ex98 => ?_)
  refine zJ_aload_n dX9_least_100 rfl ?_
  refine zJ_geti dX9_least_101 fX9_307 (by first | rfl | assumption | exact hM.at (by decide) (by decide)) rfl ?_
  refine zJ_istore (ls2 := fun x104 => [(6, .int x104), (5, .int x98), (0, .ref 100), (1, .int (nI 0)), (2, .int (nI f)), (3, .int (nI t)), (4, .int (nI s))]) dX9_least_104 (by decide) (fun _ => rfl) (fun x104 ex104 => ?_)
  refine zJ_iconst (v := (-1)) dX9_least_106 (by decide) ?_
  refine zJ_istore (ls2 := fun x107 => [(7, .int x107), (6, .int x104), (5, .int x98), (0, .ref 100), (1, .int (nI 0)), (2, .int (nI f)), (3, .int (nI t)), (4, .int (nI s))]) dX9_least_107 (by decide) (fun _ => rfl) (fun x107 ex107 => ?_)
  refine zJ_iconst (v := 1) dX9_least_109 (by decide) ?_
  refine zJ_istore (ls2 := fun x110 => [(8, .int x110), (7, .int x107), (6, .int x104), (5, .int x98), (0, .ref 100), (1, .int (nI 0)), (2, .int (nI f)), (3, .int (nI t)), (4, .int (nI s))]) dX9_least_110 (by decide) (fun _ => rfl) (fun x110 ex110 => ?_)
  refine zJ_iload_n dX9_least_112 rfl ?_
  refine zJ_istore (ls2 := fun x113 => [(9, .int x113), (8, .int x110), (7, .int x107), (6, .int x104), (5, .int x98), (0, .ref 100), (1, .int (nI 0)), (2, .int (nI f)), (3, .int (nI t)), (4, .int (nI s))]) dX9_least_113 (by decide) (fun _ => rfl) (fun x113 ex113 => ?_)
  refine zJ_ls [(9, .int x113), (8, .int x110), (7, .int x107), (6, .int x104), (5, .int x98), (0, .ref 100), (1, .int (nI 0)), (2, .int (nI f)), (3, .int (nI t)), (4, .int (nI s))] (by simp) ?_
  rw [ex113, ex110, ex107, ex104, ex98]
  have h9 := L 0 (Nat.zero_le _) w (w.2.1 100 6) (by rw [W0]; exact zFM.rf _) e0 (fun j hj => absurd hj (Nat.not_lt_zero j))
  rw [show f + 0 * s = f by omega] at h9
  exact h9
