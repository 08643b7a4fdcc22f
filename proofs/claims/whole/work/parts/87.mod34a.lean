/-! the model: readsPerson -/
theorem zGd.pe {w0 w c d : zW} {tx : Nat → Nat} {n : Nat} {S : zTo × Nat} {t : zTkn} (h : zGd w0 w tx n S t) (hT : zTok S.1) (s v : Nat) (hc : c = zsi (zsi w 135 (S.1.1 0) (nI s)) 136 (S.1.1 0) (nI v)) (hf : zFM [37] c d) (hz : ∀ q, q < 8 → d.2.1 137 (S.1.1 0 * 8 + q) = 0 ∧ d.2.1 137 (q * 8 + S.1.1 0) = 0) (ho : ∀ p q, p < S.1.1 0 → q < S.1.1 0 → d.2.1 137 (p * 8 + q) = w.2.1 137 (p * 8 + q)) (h7 : S.1.1 0 < 8) : zGd w0 (zsi d 100 25 (nI (S.1.1 0 + 1))) tx n (zTp S.1 s v, S.2) t := by
  have hf1 : zFM [35, 36] w c := by rw [hc]; exact (zFM.i (Or.inr (by decide))).tr (zFM.i (Or.inr (by decide)))
  have hf2 : zFM [25, 35, 36, 37] w (zsi d 100 25 (nI (S.1.1 0 + 1))) := ((hf1.mono (by decide)).tr (hf.mono (by decide))).tr (zFM.i (by decide))
  have e35 : ∀ p, (zsi d 100 25 (nI (S.1.1 0 + 1))).2.1 135 p = if p = S.1.1 0 then nI s else w.2.1 135 p := fun p => by
    have := hf.ar (k := 35) (j := p) (by decide) (by decide)
    simp only [zsi]
    rw [if_neg (by omega), this, hc]
    simp only [zsi]
    by_cases hp : p = S.1.1 0 <;> simp [hp]
  have e36 : ∀ p, (zsi d 100 25 (nI (S.1.1 0 + 1))).2.1 136 p = if p = S.1.1 0 then nI v else w.2.1 136 p := fun p => by
    have := hf.ar (k := 36) (j := p) (by decide) (by decide)
    simp only [zsi]
    rw [if_neg (by omega), this, hc]
    simp only [zsi]
    by_cases hp : p = S.1.1 0 <;> simp [hp]
  obtain ⟨h1, h2, h3, h4, h5, h6, h8⟩ := h
  obtain ⟨f19, f20, f21, f22, f23, f24⟩ := h3
  obtain ⟨g0, g1, g2, g3, g4, g5, g6, g7, g8, g9, g10, g11, g12⟩ := h8
  have hw := hT.2.2.2.2.2.2.2.2.2.2.2
  refine ⟨h1.tr (hf2.mono (by decide)), h2.fm hf2 (by decide), ⟨(hf2.at (by decide)).trans f19, (hf2.at (by decide)).trans f20, (hf2.at (by decide)).trans f21, (hf2.at (by decide)).trans f22, fun h => (hf2.at (by decide)).trans (f23 h), fun h => (hf2.2.2.1 24 (by decide)).2.trans (f24 h)⟩, h4, (hf2.at (by decide)).trans h5, (hf2.at (by decide)).trans h6, by simp [zsi, zTp], (hf2.at (by decide)).trans (by rw [g1]; simp [zTp]), (hf2.at (by decide)).trans (by rw [g2]; simp [zTp]), (hf2.at (by decide)).trans (by rw [g3]; simp [zTp]), (hf2.at (by decide)).trans (by rw [g4]; simp [zTp]), (hf2.at (by decide)).trans (by rw [g5]; simp [zTp]), (hf2.at (by decide)).trans (by rw [g6]; simp [zTp]), (hf2.at (by decide)).trans (by rw [g7]; simp [zTp]), (hf2.at (by decide)).trans (by rw [g8]; simp [zTp]), (hf2.at (by decide)).trans g9, fun p hp => ?_, fun p hp => ?_, fun p q hp hq => ?_⟩
  · have hp2 : p < S.1.1 0 + 1 := hp
    rw [e35]
    by_cases hpp : p = S.1.1 0
    · simp [hpp, zTp]
    · simp only [zTp, if_neg hpp]; exact g10 p (by omega)
  · have hp2 : p < S.1.1 0 + 1 := hp
    rw [e36]
    by_cases hpp : p = S.1.1 0
    · simp [hpp, zTp]
    · simp only [zTp, if_neg hpp]; exact g11 p (by omega)
  · have hp2 : p < S.1.1 0 + 1 := hp
    have hq2 : q < S.1.1 0 + 1 := hq
    have e : (zsi d 100 25 (nI (S.1.1 0 + 1))).2.1 137 (p * 8 + q) = d.2.1 137 (p * 8 + q) := by
      simp only [zsi]; rw [if_neg (by omega)]
    rw [e]
    have hT2 := (hw p q (by omega) (by omega)).2
    by_cases hpp : p = S.1.1 0
    · have : S.1.2.2.2 (p * 8 + q) = 0 := Decidable.byContradiction fun h9 => by have := hT2 h9; omega
      rw [show (zTp S.1 s v).2.2.2 (p * 8 + q) = 0 from this, hpp]
      exact (hz q (by omega)).1
    · by_cases hqq : q = S.1.1 0
      · have : S.1.2.2.2 (p * 8 + q) = 0 := Decidable.byContradiction fun h9 => by have := hT2 h9; omega
        rw [show (zTp S.1 s v).2.2.2 (p * 8 + q) = 0 from this, hqq]
        exact (hz p (by omega)).2
      · rw [ho p q (by omega) (by omega)]; exact g12 p q (by omega) (by omega)
set_option maxRecDepth 100000 in
theorem c_Mo_readsPerson (Δ : zD) {w0 w : zW} {tx : Nat → Nat} {n : Nat} {S : zTo × Nat} {t : zTkn} (h : zGd w0 w tx n S t) (hT : zTok S.1) : zMp Δ 4 yX9_readsPerson mX9_readsPerson [.ref 100] w (fun r c => r = none ∧ match zlP tx n S.1 t with | .inl e => zBd w0 c tx n e | .inr q => zGd w0 c tx n (q.1, S.2) q.2) := by
  refine zMp.of mfX9_readsPerson (Nat.le_of_ble_eq_true rfl) (fun QR hQ => ?_)
  have hM := h.2.1.1
  have h8 := hT.1
  generalize hP0 : S.1.1 0 = P at h8
  have K148 : ∀ (s v : Nat) (c : zW) (t2 : zTkn), P < 8 → zGd w0 c tx n S t2 → zlP tx n S.1 t = .inr (zTp S.1 s v, t2) → zJ Δ mX9_readsPerson (zRm 4 0 0) true w.1 QR (fun _ _ => False) 0 0 148 [(2, .int (nI v)), (1, .int (nI s)), (0, .ref 100)] [] c := by
    intro s v c t2 hP7 hg hz
    have M1 := hg.2.1.1
    have f25 : c.2.1 100 25 = nI P := by rw [← hP0]; exact hg.2.2.2.2.2.2.1
    rw [hz] at hQ
    have L : ∀ j, j ≤ 8 → ∀ d, zFM [37] (zsi (zsi c 135 P (nI s)) 136 P (nI v)) d → (∀ q, q < j → d.2.1 137 (P * 8 + q) = 0 ∧ d.2.1 137 (q * 8 + P) = 0) → (∀ p q, p < P → q < P → d.2.1 137 (p * 8 + q) = c.2.1 137 (p * 8 + q)) → zJ Δ mX9_readsPerson (zRm 4 0 0) true w.1 QR (fun _ _ => False) 0 0 178 [(3, .int (nI j)), (2, .int (nI v)), (1, .int (nI s)), (0, .ref 100)] [] d := by
      refine zup (fun j hj ih => ?_)
      intro d hf h0 ho
      have M2 : zMs d := (show zMs (zsi (zsi c 135 P (nI s)) 136 P (nI v)) from M1).fm hf
      have e25 : d.2.1 100 25 = nI P := (hf.at (by decide)).trans (by simp [zsi, f25])
      refine zJ_iload_n dX9_readsPerson_178 rfl ?_
      refine zJ_bipush (v := 8) dX9_readsPerson_179 (by decide) ?_
      refine zJ_icmp_ge (tgt := 220) dX9_readsPerson_181 (by decide) (fun h181 => ?_) (fun h181 => ?_)
      · have hj9 : j = 8 := by exact Nat.le_antisymm hj ((nI_leI (a := 8) (b := j) (by omega) (by omega)).mp h181)
        subst hj9
        refine zJ_aload_n dX9_readsPerson_220 rfl ?_
        refine zJ_dup dX9_readsPerson_221 rfl ?_
        refine zJ_getiN dX9_readsPerson_222 fX9_241 (by first | rfl | assumption | exact hM.at (by decide) (by decide) | exact M1.at (by decide) (by decide) | exact M2.at (by decide) (by decide) | exact M3.at (by decide) (by decide) | exact M4.at (by decide) (by decide) | exact M5.at (by decide) (by decide) | exact M6.at (by decide) (by decide)) rfl (by first | exact e25 | simp [zsi, e25]) ?_
        refine zJ_iconst (v := 1) dX9_readsPerson_225 (by decide) ?_
        refine zJ_iadd dX9_readsPerson_226 ?_
        refine zJ_puti dX9_readsPerson_227 fX9_241 (fun q h => by cases h; rfl) (by first | rfl | assumption | exact hM.at (by decide) (by decide) | exact M1.at (by decide) (by decide) | exact M2.at (by decide) (by decide) | exact M3.at (by decide) (by decide) | exact M4.at (by decide) (by decide) | exact M5.at (by decide) (by decide) | exact M6.at (by decide) (by decide)) rfl rfl rfl ?_
        exact zJ_vret dX9_readsPerson_230 rfl (by decide) (by decide) (hQ _ _ ⟨rfl, by rw [show nI P + 1 = nI (P + 1) from nI_1 _]; exact hP0 ▸ hg.pe hT s v (c := zsi (zsi c 135 (S.1.1 0) (nI s)) 136 (S.1.1 0) (nI v)) rfl (by rw [hP0]; exact hf) (fun q hq => by rw [hP0]; exact h0 q hq) (fun p q hp hq => ho p q (by omega) (by omega)) (by omega)⟩)
      · have hj9 : j < 8 := Nat.lt_of_not_le fun hq9 => h181 (by exact (nI_leI (a := 8) (b := j) (by omega) (by omega)).mpr hq9)
        refine zJ_aload_n dX9_readsPerson_184 rfl ?_
        refine zJ_getr (j := 137) dX9_readsPerson_185 fX9_47 (by first | rfl | assumption | exact hM.at (by decide) (by decide) | exact M1.at (by decide) (by decide) | exact M2.at (by decide) (by decide) | exact M3.at (by decide) (by decide) | exact M4.at (by decide) (by decide) | exact M5.at (by decide) (by decide) | exact M6.at (by decide) (by decide)) rfl (by first | rfl | assumption | exact hM.rf (by decide) rfl | exact M1.rf (by decide) rfl | exact M2.rf (by decide) rfl | exact M3.rf (by decide) rfl | exact M4.rf (by decide) rfl | exact M5.rf (by decide) rfl | exact M6.rf (by decide) rfl) ?_
        refine zJ_bipush (v := 8) dX9_readsPerson_188 (by decide) ?_
        refine zJ_aload_n dX9_readsPerson_190 rfl ?_
        refine zJ_getiN dX9_readsPerson_191 fX9_241 (by first | rfl | assumption | exact hM.at (by decide) (by decide) | exact M1.at (by decide) (by decide) | exact M2.at (by decide) (by decide) | exact M3.at (by decide) (by decide) | exact M4.at (by decide) (by decide) | exact M5.at (by decide) (by decide) | exact M6.at (by decide) (by decide)) rfl (by first | exact e25 | simp [zsi, e25]) ?_
        refine zJ_imul dX9_readsPerson_194 ?_
        refine zJ_iload_n dX9_readsPerson_195 rfl ?_
        refine zJ_iadd dX9_readsPerson_196 ?_
        refine zJ_iconst (v := 0) dX9_readsPerson_197 (by decide) ?_
        refine zJ_iastN (i := (P * 8 + j)) dX9_readsPerson_198 (by first | rfl | assumption | exact hM.at (by decide) (by decide) | exact M1.at (by decide) (by decide) | exact M2.at (by decide) (by decide) | exact M3.at (by decide) (by decide) | exact M4.at (by decide) (by decide) | exact M5.at (by decide) (by decide) | exact M6.at (by decide) (by decide)) (na_8 _ _) (by omega) (by decide) ?_
        refine zJ_aload_n dX9_readsPerson_199 rfl ?_
        refine zJ_getr (j := 137) dX9_readsPerson_200 fX9_47 (by first | rfl | assumption | exact hM.at (by decide) (by decide) | exact M1.at (by decide) (by decide) | exact M2.at (by decide) (by decide) | exact M3.at (by decide) (by decide) | exact M4.at (by decide) (by decide) | exact M5.at (by decide) (by decide) | exact M6.at (by decide) (by decide)) rfl (by first | rfl | assumption | exact hM.rf (by decide) rfl | exact M1.rf (by decide) rfl | exact M2.rf (by decide) rfl | exact M3.rf (by decide) rfl | exact M4.rf (by decide) rfl | exact M5.rf (by decide) rfl | exact M6.rf (by decide) rfl) ?_
        refine zJ_bipush (v := 8) dX9_readsPerson_203 (by decide) ?_
        refine zJ_iload_n dX9_readsPerson_205 rfl ?_
        refine zJ_imul dX9_readsPerson_206 ?_
        refine zJ_aload_n dX9_readsPerson_207 rfl ?_
        refine zJ_getiN dX9_readsPerson_208 fX9_241 (by first | rfl | assumption | exact hM.at (by decide) (by decide) | exact M1.at (by decide) (by decide) | exact M2.at (by decide) (by decide) | exact M3.at (by decide) (by decide) | exact M4.at (by decide) (by decide) | exact M5.at (by decide) (by decide) | exact M6.at (by decide) (by decide)) rfl (by first | exact e25 | simp [zsi, e25]) ?_
        refine zJ_iadd dX9_readsPerson_211 ?_
        refine zJ_iconst (v := 0) dX9_readsPerson_212 (by decide) ?_
        refine zJ_iastN (i := (j * 8 + P)) dX9_readsPerson_213 (by first | rfl | assumption | exact hM.at (by decide) (by decide) | exact M1.at (by decide) (by decide) | exact M2.at (by decide) (by decide) | exact M3.at (by decide) (by decide) | exact M4.at (by decide) (by decide) | exact M5.at (by decide) (by decide) | exact M6.at (by decide) (by decide)) (na_8 _ _) (by omega) (by decide) ?_
        refine zJ_iinc (ls2 := fun x214 => [(3, .int x214), (2, .int (nI v)), (1, .int (nI s)), (0, .ref 100)]) dX9_readsPerson_214 rfl (by decide) (fun _ => rfl) (fun x214 ex214 => ?_)
        refine zJ_goto (tgt := 178) dX9_readsPerson_217 (by decide) ?_
        rw [ex214, show nI j + Int32.ofInt 1 = nI (j + 1) from nI_1 _]
        refine ih (j + 1) (by omega) (by omega) (zsi (zsi d 137 (P * 8 + j) 0) 137 (j * 8 + P) 0) ((hf.tr (zFM.i (Or.inr (by decide)))).tr (zFM.i (Or.inr (by decide)))) (fun q hq => ?_) (fun p q hp hq => ?_)
        · by_cases hqj : q = j
          · subst hqj
            constructor
            · simp only [zsi]; by_cases hpj : P * 8 + q = q * 8 + P <;> simp [hpj]
            · simp [zsi]
          · have := h0 q (by omega)
            constructor
            · simp only [zsi]; rw [if_neg (by omega)]; split
              · rfl
              · exact this.1
            · simp only [zsi]; split
              · rfl
              · rw [if_neg (by omega)]; exact this.2
        · have := ho p q hp hq
          simp only [zsi]; rw [if_neg (by omega), if_neg (by omega)]; exact this
    refine zJ_aload_n dX9_readsPerson_148 rfl ?_
    refine zJ_cV0 dX9_readsPerson_149 sX9_224 mfX9_isGood (c_Mo_ig Δ hg) (by first | rfl | assumption | exact hM.at (by decide) (by decide) | exact M1.at (by decide) (by decide) | exact M2.at (by decide) (by decide) | exact M3.at (by decide) (by decide) | exact M4.at (by decide) (by decide) | exact M5.at (by decide) (by decide) | exact M6.at (by decide) (by decide)) rfl (Nat.le_of_ble_eq_true rfl) (by decide) (by decide) ?_
    refine zJ_if_ne (tgt := 156) dX9_readsPerson_152 (by decide) (fun _ => ?_) (fun h9 => False.elim (by revert h9; decide))
    refine zJ_aload_n dX9_readsPerson_156 rfl ?_
    refine zJ_getr (j := 135) dX9_readsPerson_157 fX9_41 (by first | rfl | assumption | exact hM.at (by decide) (by decide) | exact M1.at (by decide) (by decide) | exact M2.at (by decide) (by decide) | exact M3.at (by decide) (by decide) | exact M4.at (by decide) (by decide) | exact M5.at (by decide) (by decide) | exact M6.at (by decide) (by decide)) rfl (by first | rfl | assumption | exact hM.rf (by decide) rfl | exact M1.rf (by decide) rfl | exact M2.rf (by decide) rfl | exact M3.rf (by decide) rfl | exact M4.rf (by decide) rfl | exact M5.rf (by decide) rfl | exact M6.rf (by decide) rfl) ?_
    refine zJ_aload_n dX9_readsPerson_160 rfl ?_
    refine zJ_getiN dX9_readsPerson_161 fX9_241 (by first | rfl | assumption | exact hM.at (by decide) (by decide) | exact M1.at (by decide) (by decide) | exact M2.at (by decide) (by decide) | exact M3.at (by decide) (by decide) | exact M4.at (by decide) (by decide) | exact M5.at (by decide) (by decide) | exact M6.at (by decide) (by decide)) rfl (by first | exact f25 | simp [zsi, f25]) ?_
    refine zJ_iload_n dX9_readsPerson_164 rfl ?_
    refine zJ_iastN (i := P) dX9_readsPerson_165 (by first | rfl | assumption | exact hM.at (by decide) (by decide) | exact M1.at (by decide) (by decide) | exact M2.at (by decide) (by decide) | exact M3.at (by decide) (by decide) | exact M4.at (by decide) (by decide) | exact M5.at (by decide) (by decide) | exact M6.at (by decide) (by decide)) rfl (by omega) (by decide) ?_
    refine zJ_aload_n dX9_readsPerson_166 rfl ?_
    refine zJ_getr (j := 136) dX9_readsPerson_167 fX9_44 (by first | rfl | assumption | exact hM.at (by decide) (by decide) | exact M1.at (by decide) (by decide) | exact M2.at (by decide) (by decide) | exact M3.at (by decide) (by decide) | exact M4.at (by decide) (by decide) | exact M5.at (by decide) (by decide) | exact M6.at (by decide) (by decide)) rfl (by first | rfl | assumption | exact hM.rf (by decide) rfl | exact M1.rf (by decide) rfl | exact M2.rf (by decide) rfl | exact M3.rf (by decide) rfl | exact M4.rf (by decide) rfl | exact M5.rf (by decide) rfl | exact M6.rf (by decide) rfl) ?_
    refine zJ_aload_n dX9_readsPerson_170 rfl ?_
    refine zJ_getiN dX9_readsPerson_171 fX9_241 (by first | rfl | assumption | exact hM.at (by decide) (by decide) | exact M1.at (by decide) (by decide) | exact M2.at (by decide) (by decide) | exact M3.at (by decide) (by decide) | exact M4.at (by decide) (by decide) | exact M5.at (by decide) (by decide) | exact M6.at (by decide) (by decide)) rfl (by first | exact f25 | simp [zsi, f25]) ?_
    refine zJ_iload_n dX9_readsPerson_174 rfl ?_
    refine zJ_iastN (i := P) dX9_readsPerson_175 (by first | rfl | assumption | exact hM.at (by decide) (by decide) | exact M1.at (by decide) (by decide) | exact M2.at (by decide) (by decide) | exact M3.at (by decide) (by decide) | exact M4.at (by decide) (by decide) | exact M5.at (by decide) (by decide) | exact M6.at (by decide) (by decide)) rfl (by omega) (by decide) ?_
    refine zJ_iconst (v := 0) dX9_readsPerson_176 (by decide) ?_
    refine zJ_istore_n (ls2 := fun x177e => [(3, .int x177e), (2, .int (nI v)), (1, .int (nI s)), (0, .ref 100)]) dX9_readsPerson_177 (by decide) (fun _ => rfl) (fun x177e ex177e => ?_)
    obtain rfl : x177e = (nI 0) := ex177e
    exact L 0 (Nat.zero_le _) _ (zFM.rf _) (fun q hq => absurd hq (Nat.not_lt_zero q)) (fun p q _ _ => by simp [zsi])
  by_cases hP8 : P = 8
  · have hz : zlP tx n S.1 t = .inl (2, t.2.1) := by simp only [zlP]; rw [if_pos (by omega)]
    rw [hz] at hQ
    have f25 : w.2.1 100 25 = nI P := by rw [← hP0]; exact h.2.2.2.2.2.2.1
    refine zJ_aload_n dX9_readsPerson_0 rfl ?_
    refine zJ_getiN dX9_readsPerson_1 fX9_241 (by first | rfl | assumption | exact hM.at (by decide) (by decide) | exact M1.at (by decide) (by decide) | exact M2.at (by decide) (by decide) | exact M3.at (by decide) (by decide) | exact M4.at (by decide) (by decide) | exact M5.at (by decide) (by decide) | exact M6.at (by decide) (by decide)) rfl f25 ?_
    refine zJ_bipush (v := 8) dX9_readsPerson_4 (by decide) ?_
    refine zJ_icmp_ne (tgt := 14) dX9_readsPerson_6 (by decide) (fun h9 => absurd h9 (fun h => h (by rw [hP8]; rfl))) (fun h6 => ?_)
    refine zJ_aload_n dX9_readsPerson_9 rfl ?_
    refine zJ_iconst (v := 2) dX9_readsPerson_10 (by decide) ?_
    refine zJ_eV1 dX9_readsPerson_11 sX9_231 mfX9_wrong (c_Mo_wr Δ h 2 (by decide)) (by first | exact hM.at (by decide) (by decide) | exact M1.at (by decide) (by decide) | exact M2.at (by decide) (by decide) | exact M3.at (by decide) (by decide) | exact M4.at (by decide) (by decide) | exact M5.at (by decide) (by decide) | exact M6.at (by decide) (by decide)) rfl (Nat.le_of_ble_eq_true rfl) (by decide) (by decide) (fun r c1 hP => ?_)
    obtain ⟨rfl, hb⟩ := hP
    have M1 := hb.2.1.1
    refine zJ_aload_n dX9_readsPerson_14 rfl ?_
    refine zJ_cV0 dX9_readsPerson_15 sX9_224 mfX9_isGood (c_Mo_igB Δ hb) (by first | rfl | assumption | exact hM.at (by decide) (by decide) | exact M1.at (by decide) (by decide) | exact M2.at (by decide) (by decide) | exact M3.at (by decide) (by decide) | exact M4.at (by decide) (by decide) | exact M5.at (by decide) (by decide) | exact M6.at (by decide) (by decide)) rfl (Nat.le_of_ble_eq_true rfl) (by decide) (by decide) ?_
    refine zJ_if_ne (tgt := 22) dX9_readsPerson_18 (by decide) (fun h9 => False.elim (by revert h9; decide)) (fun _ => ?_)
    exact zJ_vret dX9_readsPerson_21 rfl (by decide) (by decide) (hQ _ _ ⟨rfl, hb⟩)
  · have hP7 : P < 8 := by omega
    have f25 : w.2.1 100 25 = nI P := by rw [← hP0]; exact h.2.2.2.2.2.2.1
    refine zJ_aload_n dX9_readsPerson_0 rfl ?_
    refine zJ_getiN dX9_readsPerson_1 fX9_241 (by first | rfl | assumption | exact hM.at (by decide) (by decide) | exact M1.at (by decide) (by decide) | exact M2.at (by decide) (by decide) | exact M3.at (by decide) (by decide) | exact M4.at (by decide) (by decide) | exact M5.at (by decide) (by decide) | exact M6.at (by decide) (by decide)) rfl f25 ?_
    refine zJ_bipush (v := 8) dX9_readsPerson_4 (by decide) ?_
    refine zJ_icmp_ne (tgt := 14) dX9_readsPerson_6 (by decide) (fun h6 => ?_) (fun h9 => absurd h9 (fun h => hP8 ((nI_eq (b := 8) (by omega) (by decide)).mp h)))
    refine zJ_aload_n dX9_readsPerson_14 rfl ?_
    refine zJ_cV0 dX9_readsPerson_15 sX9_224 mfX9_isGood (c_Mo_ig Δ h) (by first | rfl | assumption | exact hM.at (by decide) (by decide) | exact M1.at (by decide) (by decide) | exact M2.at (by decide) (by decide) | exact M3.at (by decide) (by decide) | exact M4.at (by decide) (by decide) | exact M5.at (by decide) (by decide) | exact M6.at (by decide) (by decide)) rfl (Nat.le_of_ble_eq_true rfl) (by decide) (by decide) ?_
    refine zJ_if_ne (tgt := 22) dX9_readsPerson_18 (by decide) (fun _ => ?_) (fun h9 => False.elim (by revert h9; decide))
    refine zJ_aload_n dX9_readsPerson_22 rfl ?_
    refine zJ_eV0 dX9_readsPerson_23 sX9_228 mfX9_steps (c_Mo_st Δ h) (by first | exact hM.at (by decide) (by decide) | exact M1.at (by decide) (by decide) | exact M2.at (by decide) (by decide) | exact M3.at (by decide) (by decide) | exact M4.at (by decide) (by decide) | exact M5.at (by decide) (by decide) | exact M6.at (by decide) (by decide)) rfl (Nat.le_of_ble_eq_true rfl) (by decide) (by decide) (fun r c1 hP => ?_)
    obtain ⟨rfl, g1⟩ := hP
    have M1 := g1.2.1.1
    cases hw0 : zwd tx (ztk tx n t.2.2.1) 7 with
    | true =>
      have hso : zso tx (ztk tx n t.2.2.1) = some 0 := by simp [zso, hw0]
      refine zJ_aload_n dX9_readsPerson_26 rfl ?_
      refine zJ_bipush (v := 6) dX9_readsPerson_27 (by decide) ?_
      refine zJ_cV1 dX9_readsPerson_29 sX9_234 mfX9_is (c_Mo_isg Δ g1 6 (by decide) hw0) (by first | rfl | assumption | exact hM.at (by decide) (by decide) | exact M1.at (by decide) (by decide) | exact M2.at (by decide) (by decide) | exact M3.at (by decide) (by decide) | exact M4.at (by decide) (by decide) | exact M5.at (by decide) (by decide) | exact M6.at (by decide) (by decide)) rfl (Nat.le_of_ble_eq_true rfl) (by decide) (by decide) ?_
      refine zJ_if_eq (tgt := 39) dX9_readsPerson_32 (by decide) (fun h9 => False.elim (by revert h9; decide)) (fun _ => ?_)
      refine zJ_iconst (v := 0) dX9_readsPerson_35 (by decide) ?_
      refine zJ_goto (tgt := 79) dX9_readsPerson_36 (by decide) ?_
      refine zJ_istore_n (ls2 := fun x79s0 => [(1, .int x79s0), (0, .ref 100)]) dX9_readsPerson_79 (by decide) (fun _ => rfl) (fun x79s0 ex79s0 => ?_)
      obtain rfl : x79s0 = (nI 0) := ex79s0
      refine zJ_iload_n dX9_readsPerson_80 rfl ?_
      refine zJ_iconst (v := (-1)) dX9_readsPerson_81 (by decide) ?_
      refine zJ_icmp_ne (tgt := 90) dX9_readsPerson_82 (by decide) (fun _ => ?_) (fun h9 => False.elim (by revert h9; decide))
      refine zJ_aload_n dX9_readsPerson_90 rfl ?_
      refine zJ_cV0 dX9_readsPerson_91 sX9_224 mfX9_isGood (c_Mo_ig Δ g1) (by first | rfl | assumption | exact hM.at (by decide) (by decide) | exact M1.at (by decide) (by decide) | exact M2.at (by decide) (by decide) | exact M3.at (by decide) (by decide) | exact M4.at (by decide) (by decide) | exact M5.at (by decide) (by decide) | exact M6.at (by decide) (by decide)) rfl (Nat.le_of_ble_eq_true rfl) (by decide) (by decide) ?_
      refine zJ_if_ne (tgt := 98) dX9_readsPerson_94 (by decide) (fun _ => ?_) (fun h9 => False.elim (by revert h9; decide))
      refine zJ_aload_n dX9_readsPerson_98 rfl ?_
      refine zJ_eV0 dX9_readsPerson_99 sX9_228 mfX9_steps (c_Mo_st Δ g1) (by first | exact hM.at (by decide) (by decide) | exact M1.at (by decide) (by decide) | exact M2.at (by decide) (by decide) | exact M3.at (by decide) (by decide) | exact M4.at (by decide) (by decide) | exact M5.at (by decide) (by decide) | exact M6.at (by decide) (by decide)) rfl (Nat.le_of_ble_eq_true rfl) (by decide) (by decide) (fun r c2 hP => ?_)
      obtain ⟨rfl, g2⟩ := hP
      have M2 := g2.2.1.1
      refine zJ_iconst (v := 0) dX9_readsPerson_102 (by decide) ?_
      refine zJ_istore_n (ls2 := fun x103 => [(2, .int x103), (1, .int (nI 0)), (0, .ref 100)]) dX9_readsPerson_103 (by decide) (fun _ => rfl) (fun x103 ex103 => ?_)
      obtain rfl : x103 = (nI 0) := ex103
      refine zJ_iload_n dX9_readsPerson_104 rfl ?_
      refine zJ_if_ne (tgt := 117) dX9_readsPerson_105 (by decide) (fun h9 => False.elim (by revert h9; decide)) (fun _ => ?_)
      refine zJ_aload_n dX9_readsPerson_108 rfl ?_
      refine zJ_iconst (v := 0) dX9_readsPerson_109 (by decide) ?_
      refine zJ_sipush (v := 9999) dX9_readsPerson_110 (by decide) ?_
      refine zJ_eV2 dX9_readsPerson_113 sX9_237 mfX9_number (c_Mo_nm Δ g2 0 9999 (by decide) (by decide)) (by first | exact hM.at (by decide) (by decide) | exact M1.at (by decide) (by decide) | exact M2.at (by decide) (by decide) | exact M3.at (by decide) (by decide) | exact M4.at (by decide) (by decide) | exact M5.at (by decide) (by decide) | exact M6.at (by decide) (by decide)) rfl (Nat.le_of_ble_eq_true rfl) (by decide) (by decide) (fun r c3 hP => ?_)
      cases hn : zrN 0 9999 (ztk tx n (ztk tx n t.2.2.1).2.2.1) with
      | inl e =>
        rw [hn] at hP
        obtain ⟨hb, v, rfl⟩ := hP
        have M3 := hb.2.1.1
        have hz : zlP tx n S.1 t = .inl e := by rw [zlP, if_neg (by omega), hso]; simp [hn]
        refine zJ_istore_n (ls2 := fun x116f => [(2, .int x116f), (1, .int (nI 0)), (0, .ref 100)]) dX9_readsPerson_116 (by decide) (fun _ => rfl) (fun x116f ex116f => ?_)
        refine zJ_iload_n dX9_readsPerson_117 rfl ?_
        refine zJ_iconst (v := 2) dX9_readsPerson_118 (by decide) ?_
        refine zJ_icmp_ne (tgt := 131) dX9_readsPerson_119 (by decide) (fun _ => ?_) (fun h9 => False.elim (by revert h9; decide))
        refine zJ_iload_n dX9_readsPerson_131 rfl ?_
        refine zJ_iconst (v := 3) dX9_readsPerson_132 (by decide) ?_
        refine zJ_icmp_ne (tgt := 148) dX9_readsPerson_133 (by decide) (fun _ => ?_) (fun h9 => False.elim (by revert h9; decide))
        refine zJ_aload_n dX9_readsPerson_148 rfl ?_
        refine zJ_cV0 dX9_readsPerson_149 sX9_224 mfX9_isGood (c_Mo_igB Δ hb) (by first | rfl | assumption | exact hM.at (by decide) (by decide) | exact M1.at (by decide) (by decide) | exact M2.at (by decide) (by decide) | exact M3.at (by decide) (by decide) | exact M4.at (by decide) (by decide) | exact M5.at (by decide) (by decide) | exact M6.at (by decide) (by decide)) rfl (Nat.le_of_ble_eq_true rfl) (by decide) (by decide) ?_
        refine zJ_if_ne (tgt := 156) dX9_readsPerson_152 (by decide) (fun h9 => False.elim (by revert h9; decide)) (fun _ => ?_)
        exact zJ_vret dX9_readsPerson_155 rfl (by decide) (by decide) (hQ _ _ ⟨rfl, by rw [hz]; exact hb⟩)
      | inr v =>
        rw [hn] at hP
        obtain ⟨g3, rfl⟩ := hP
        have M3 := g3.2.1.1
        have hz : zlP tx n S.1 t = .inr (zTp S.1 0 v, ztk tx n (ztk tx n (ztk tx n t.2.2.1).2.2.1).2.2.1) := by rw [zlP, if_neg (by omega), hso]; simp [hn]
        refine zJ_istore_n (ls2 := fun x116g => [(2, .int x116g), (1, .int (nI 0)), (0, .ref 100)]) dX9_readsPerson_116 (by decide) (fun _ => rfl) (fun x116g ex116g => ?_)
        obtain rfl : x116g = (nI v) := ex116g
        refine zJ_iload_n dX9_readsPerson_117 rfl ?_
        refine zJ_iconst (v := 2) dX9_readsPerson_118 (by decide) ?_
        refine zJ_icmp_ne (tgt := 131) dX9_readsPerson_119 (by decide) (fun _ => ?_) (fun h9 => False.elim (by revert h9; decide))
        refine zJ_iload_n dX9_readsPerson_131 rfl ?_
        refine zJ_iconst (v := 3) dX9_readsPerson_132 (by decide) ?_
        refine zJ_icmp_ne (tgt := 148) dX9_readsPerson_133 (by decide) (fun _ => ?_) (fun h9 => False.elim (by revert h9; decide))
        exact K148 0 v _ _ hP7 g3 hz
    | false =>
      refine zJ_aload_n dX9_readsPerson_26 rfl ?_
      refine zJ_bipush (v := 6) dX9_readsPerson_27 (by decide) ?_
      refine zJ_cV1 dX9_readsPerson_29 sX9_234 mfX9_is (c_Mo_isg Δ g1 6 (by decide) hw0) (by first | rfl | assumption | exact hM.at (by decide) (by decide) | exact M1.at (by decide) (by decide) | exact M2.at (by decide) (by decide) | exact M3.at (by decide) (by decide) | exact M4.at (by decide) (by decide) | exact M5.at (by decide) (by decide) | exact M6.at (by decide) (by decide)) rfl (Nat.le_of_ble_eq_true rfl) (by decide) (by decide) ?_
      refine zJ_if_eq (tgt := 39) dX9_readsPerson_32 (by decide) (fun _ => ?_) (fun h9 => False.elim (by revert h9; decide))
      cases hw1 : zwd tx (ztk tx n t.2.2.1) 8 with
      | true =>
        have hso : zso tx (ztk tx n t.2.2.1) = some 1 := by simp [zso, hw1, hw0]
        refine zJ_aload_n dX9_readsPerson_39 rfl ?_
        refine zJ_bipush (v := 7) dX9_readsPerson_40 (by decide) ?_
        refine zJ_cV1 dX9_readsPerson_42 sX9_234 mfX9_is (c_Mo_isg Δ g1 7 (by decide) hw1) (by first | rfl | assumption | exact hM.at (by decide) (by decide) | exact M1.at (by decide) (by decide) | exact M2.at (by decide) (by decide) | exact M3.at (by decide) (by decide) | exact M4.at (by decide) (by decide) | exact M5.at (by decide) (by decide) | exact M6.at (by decide) (by decide)) rfl (Nat.le_of_ble_eq_true rfl) (by decide) (by decide) ?_
        refine zJ_if_eq (tgt := 52) dX9_readsPerson_45 (by decide) (fun h9 => False.elim (by revert h9; decide)) (fun _ => ?_)
        refine zJ_iconst (v := 1) dX9_readsPerson_48 (by decide) ?_
        refine zJ_goto (tgt := 79) dX9_readsPerson_49 (by decide) ?_
        refine zJ_istore_n (ls2 := fun x79s1 => [(1, .int x79s1), (0, .ref 100)]) dX9_readsPerson_79 (by decide) (fun _ => rfl) (fun x79s1 ex79s1 => ?_)
        obtain rfl : x79s1 = (nI 1) := ex79s1
        refine zJ_iload_n dX9_readsPerson_80 rfl ?_
        refine zJ_iconst (v := (-1)) dX9_readsPerson_81 (by decide) ?_
        refine zJ_icmp_ne (tgt := 90) dX9_readsPerson_82 (by decide) (fun _ => ?_) (fun h9 => False.elim (by revert h9; decide))
        refine zJ_aload_n dX9_readsPerson_90 rfl ?_
        refine zJ_cV0 dX9_readsPerson_91 sX9_224 mfX9_isGood (c_Mo_ig Δ g1) (by first | rfl | assumption | exact hM.at (by decide) (by decide) | exact M1.at (by decide) (by decide) | exact M2.at (by decide) (by decide) | exact M3.at (by decide) (by decide) | exact M4.at (by decide) (by decide) | exact M5.at (by decide) (by decide) | exact M6.at (by decide) (by decide)) rfl (Nat.le_of_ble_eq_true rfl) (by decide) (by decide) ?_
        refine zJ_if_ne (tgt := 98) dX9_readsPerson_94 (by decide) (fun _ => ?_) (fun h9 => False.elim (by revert h9; decide))
        refine zJ_aload_n dX9_readsPerson_98 rfl ?_
        refine zJ_eV0 dX9_readsPerson_99 sX9_228 mfX9_steps (c_Mo_st Δ g1) (by first | exact hM.at (by decide) (by decide) | exact M1.at (by decide) (by decide) | exact M2.at (by decide) (by decide) | exact M3.at (by decide) (by decide) | exact M4.at (by decide) (by decide) | exact M5.at (by decide) (by decide) | exact M6.at (by decide) (by decide)) rfl (Nat.le_of_ble_eq_true rfl) (by decide) (by decide) (fun r c2 hP => ?_)
        obtain ⟨rfl, g2⟩ := hP
        have M2 := g2.2.1.1
        refine zJ_iconst (v := 0) dX9_readsPerson_102 (by decide) ?_
        refine zJ_istore_n (ls2 := fun x103 => [(2, .int x103), (1, .int (nI 1)), (0, .ref 100)]) dX9_readsPerson_103 (by decide) (fun _ => rfl) (fun x103 ex103 => ?_)
        obtain rfl : x103 = (nI 0) := ex103
        refine zJ_iload_n dX9_readsPerson_104 rfl ?_
        refine zJ_if_ne (tgt := 117) dX9_readsPerson_105 (by decide) (fun _ => ?_) (fun h9 => False.elim (by revert h9; decide))
        refine zJ_iload_n dX9_readsPerson_117 rfl ?_
        refine zJ_iconst (v := 2) dX9_readsPerson_118 (by decide) ?_
        refine zJ_icmp_ne (tgt := 131) dX9_readsPerson_119 (by decide) (fun _ => ?_) (fun h9 => False.elim (by revert h9; decide))
        refine zJ_iload_n dX9_readsPerson_131 rfl ?_
        refine zJ_iconst (v := 3) dX9_readsPerson_132 (by decide) ?_
        refine zJ_icmp_ne (tgt := 148) dX9_readsPerson_133 (by decide) (fun _ => ?_) (fun h9 => False.elim (by revert h9; decide))
        exact K148 1 0 _ _ hP7 g2 (by rw [zlP, if_neg (by omega), hso]; simp)
      | false =>
        refine zJ_aload_n dX9_readsPerson_39 rfl ?_
        refine zJ_bipush (v := 7) dX9_readsPerson_40 (by decide) ?_
        refine zJ_cV1 dX9_readsPerson_42 sX9_234 mfX9_is (c_Mo_isg Δ g1 7 (by decide) hw1) (by first | rfl | assumption | exact hM.at (by decide) (by decide) | exact M1.at (by decide) (by decide) | exact M2.at (by decide) (by decide) | exact M3.at (by decide) (by decide) | exact M4.at (by decide) (by decide) | exact M5.at (by decide) (by decide) | exact M6.at (by decide) (by decide)) rfl (Nat.le_of_ble_eq_true rfl) (by decide) (by decide) ?_
        refine zJ_if_eq (tgt := 52) dX9_readsPerson_45 (by decide) (fun _ => ?_) (fun h9 => False.elim (by revert h9; decide))
        cases hw2 : zwd tx (ztk tx n t.2.2.1) 9 with
        | true =>
          have hso : zso tx (ztk tx n t.2.2.1) = some 2 := by simp [zso, hw2, hw0, hw1]
          refine zJ_aload_n dX9_readsPerson_52 rfl ?_
          refine zJ_bipush (v := 8) dX9_readsPerson_53 (by decide) ?_
          refine zJ_cV1 dX9_readsPerson_55 sX9_234 mfX9_is (c_Mo_isg Δ g1 8 (by decide) hw2) (by first | rfl | assumption | exact hM.at (by decide) (by decide) | exact M1.at (by decide) (by decide) | exact M2.at (by decide) (by decide) | exact M3.at (by decide) (by decide) | exact M4.at (by decide) (by decide) | exact M5.at (by decide) (by decide) | exact M6.at (by decide) (by decide)) rfl (Nat.le_of_ble_eq_true rfl) (by decide) (by decide) ?_
          refine zJ_if_eq (tgt := 65) dX9_readsPerson_58 (by decide) (fun h9 => False.elim (by revert h9; decide)) (fun _ => ?_)
          refine zJ_iconst (v := 2) dX9_readsPerson_61 (by decide) ?_
          refine zJ_goto (tgt := 79) dX9_readsPerson_62 (by decide) ?_
          refine zJ_istore_n (ls2 := fun x79s2 => [(1, .int x79s2), (0, .ref 100)]) dX9_readsPerson_79 (by decide) (fun _ => rfl) (fun x79s2 ex79s2 => ?_)
          obtain rfl : x79s2 = (nI 2) := ex79s2
          refine zJ_iload_n dX9_readsPerson_80 rfl ?_
          refine zJ_iconst (v := (-1)) dX9_readsPerson_81 (by decide) ?_
          refine zJ_icmp_ne (tgt := 90) dX9_readsPerson_82 (by decide) (fun _ => ?_) (fun h9 => False.elim (by revert h9; decide))
          refine zJ_aload_n dX9_readsPerson_90 rfl ?_
          refine zJ_cV0 dX9_readsPerson_91 sX9_224 mfX9_isGood (c_Mo_ig Δ g1) (by first | rfl | assumption | exact hM.at (by decide) (by decide) | exact M1.at (by decide) (by decide) | exact M2.at (by decide) (by decide) | exact M3.at (by decide) (by decide) | exact M4.at (by decide) (by decide) | exact M5.at (by decide) (by decide) | exact M6.at (by decide) (by decide)) rfl (Nat.le_of_ble_eq_true rfl) (by decide) (by decide) ?_
          refine zJ_if_ne (tgt := 98) dX9_readsPerson_94 (by decide) (fun _ => ?_) (fun h9 => False.elim (by revert h9; decide))
          refine zJ_aload_n dX9_readsPerson_98 rfl ?_
          refine zJ_eV0 dX9_readsPerson_99 sX9_228 mfX9_steps (c_Mo_st Δ g1) (by first | exact hM.at (by decide) (by decide) | exact M1.at (by decide) (by decide) | exact M2.at (by decide) (by decide) | exact M3.at (by decide) (by decide) | exact M4.at (by decide) (by decide) | exact M5.at (by decide) (by decide) | exact M6.at (by decide) (by decide)) rfl (Nat.le_of_ble_eq_true rfl) (by decide) (by decide) (fun r c2 hP => ?_)
          obtain ⟨rfl, g2⟩ := hP
          have M2 := g2.2.1.1
          refine zJ_iconst (v := 0) dX9_readsPerson_102 (by decide) ?_
          refine zJ_istore_n (ls2 := fun x103 => [(2, .int x103), (1, .int (nI 2)), (0, .ref 100)]) dX9_readsPerson_103 (by decide) (fun _ => rfl) (fun x103 ex103 => ?_)
          obtain rfl : x103 = (nI 0) := ex103
          refine zJ_iload_n dX9_readsPerson_104 rfl ?_
          refine zJ_if_ne (tgt := 117) dX9_readsPerson_105 (by decide) (fun _ => ?_) (fun h9 => False.elim (by revert h9; decide))
          refine zJ_iload_n dX9_readsPerson_117 rfl ?_
          refine zJ_iconst (v := 2) dX9_readsPerson_118 (by decide) ?_
          refine zJ_icmp_ne (tgt := 131) dX9_readsPerson_119 (by decide) (fun h9 => False.elim (by revert h9; decide)) (fun _ => ?_)
          refine zJ_aload_n dX9_readsPerson_122 rfl ?_
          refine zJ_iconst (v := 0) dX9_readsPerson_123 (by decide) ?_
          refine zJ_sipush (v := 1000) dX9_readsPerson_124 (by decide) ?_
          refine zJ_eV2 dX9_readsPerson_127 sX9_237 mfX9_number (c_Mo_nm Δ g2 0 1000 (by decide) (by decide)) (by first | exact hM.at (by decide) (by decide) | exact M1.at (by decide) (by decide) | exact M2.at (by decide) (by decide) | exact M3.at (by decide) (by decide) | exact M4.at (by decide) (by decide) | exact M5.at (by decide) (by decide) | exact M6.at (by decide) (by decide)) rfl (Nat.le_of_ble_eq_true rfl) (by decide) (by decide) (fun r c3 hP => ?_)
          cases hn : zrN 0 1000 (ztk tx n (ztk tx n t.2.2.1).2.2.1) with
          | inl e =>
            rw [hn] at hP
            obtain ⟨hb, v, rfl⟩ := hP
            have M3 := hb.2.1.1
            have hz : zlP tx n S.1 t = .inl e := by rw [zlP, if_neg (by omega), hso]; simp [hn]
            refine zJ_istore_n (ls2 := fun x130f => [(2, .int x130f), (1, .int (nI 2)), (0, .ref 100)]) dX9_readsPerson_130 (by decide) (fun _ => rfl) (fun x130f ex130f => ?_)
            refine zJ_iload_n dX9_readsPerson_131 rfl ?_
            refine zJ_iconst (v := 3) dX9_readsPerson_132 (by decide) ?_
            refine zJ_icmp_ne (tgt := 148) dX9_readsPerson_133 (by decide) (fun _ => ?_) (fun h9 => False.elim (by revert h9; decide))
            refine zJ_aload_n dX9_readsPerson_148 rfl ?_
            refine zJ_cV0 dX9_readsPerson_149 sX9_224 mfX9_isGood (c_Mo_igB Δ hb) (by first | rfl | assumption | exact hM.at (by decide) (by decide) | exact M1.at (by decide) (by decide) | exact M2.at (by decide) (by decide) | exact M3.at (by decide) (by decide) | exact M4.at (by decide) (by decide) | exact M5.at (by decide) (by decide) | exact M6.at (by decide) (by decide)) rfl (Nat.le_of_ble_eq_true rfl) (by decide) (by decide) ?_
            refine zJ_if_ne (tgt := 156) dX9_readsPerson_152 (by decide) (fun h9 => False.elim (by revert h9; decide)) (fun _ => ?_)
            exact zJ_vret dX9_readsPerson_155 rfl (by decide) (by decide) (hQ _ _ ⟨rfl, by rw [hz]; exact hb⟩)
          | inr v =>
            rw [hn] at hP
            obtain ⟨g3, rfl⟩ := hP
            have M3 := g3.2.1.1
            have hz : zlP tx n S.1 t = .inr (zTp S.1 2 v, ztk tx n (ztk tx n (ztk tx n t.2.2.1).2.2.1).2.2.1) := by rw [zlP, if_neg (by omega), hso]; simp [hn]
            refine zJ_istore_n (ls2 := fun x130g => [(2, .int x130g), (1, .int (nI 2)), (0, .ref 100)]) dX9_readsPerson_130 (by decide) (fun _ => rfl) (fun x130g ex130g => ?_)
            obtain rfl : x130g = (nI v) := ex130g
            refine zJ_iload_n dX9_readsPerson_131 rfl ?_
            refine zJ_iconst (v := 3) dX9_readsPerson_132 (by decide) ?_
            refine zJ_icmp_ne (tgt := 148) dX9_readsPerson_133 (by decide) (fun _ => ?_) (fun h9 => False.elim (by revert h9; decide))
            exact K148 2 v _ _ hP7 g3 hz
        | false =>
          refine zJ_aload_n dX9_readsPerson_52 rfl ?_
          refine zJ_bipush (v := 8) dX9_readsPerson_53 (by decide) ?_
          refine zJ_cV1 dX9_readsPerson_55 sX9_234 mfX9_is (c_Mo_isg Δ g1 8 (by decide) hw2) (by first | rfl | assumption | exact hM.at (by decide) (by decide) | exact M1.at (by decide) (by decide) | exact M2.at (by decide) (by decide) | exact M3.at (by decide) (by decide) | exact M4.at (by decide) (by decide) | exact M5.at (by decide) (by decide) | exact M6.at (by decide) (by decide)) rfl (Nat.le_of_ble_eq_true rfl) (by decide) (by decide) ?_
          refine zJ_if_eq (tgt := 65) dX9_readsPerson_58 (by decide) (fun _ => ?_) (fun h9 => False.elim (by revert h9; decide))
          cases hw3 : zwd tx (ztk tx n t.2.2.1) 10 with
          | true =>
            have hso : zso tx (ztk tx n t.2.2.1) = some 3 := by simp [zso, hw3, hw0, hw1, hw2]
            refine zJ_aload_n dX9_readsPerson_65 rfl ?_
            refine zJ_bipush (v := 9) dX9_readsPerson_66 (by decide) ?_
            refine zJ_cV1 dX9_readsPerson_68 sX9_234 mfX9_is (c_Mo_isg Δ g1 9 (by decide) hw3) (by first | rfl | assumption | exact hM.at (by decide) (by decide) | exact M1.at (by decide) (by decide) | exact M2.at (by decide) (by decide) | exact M3.at (by decide) (by decide) | exact M4.at (by decide) (by decide) | exact M5.at (by decide) (by decide) | exact M6.at (by decide) (by decide)) rfl (Nat.le_of_ble_eq_true rfl) (by decide) (by decide) ?_
            refine zJ_if_eq (tgt := 78) dX9_readsPerson_71 (by decide) (fun h9 => False.elim (by revert h9; decide)) (fun _ => ?_)
            refine zJ_iconst (v := 3) dX9_readsPerson_74 (by decide) ?_
            refine zJ_goto (tgt := 79) dX9_readsPerson_75 (by decide) ?_
            refine zJ_istore_n (ls2 := fun x79s3 => [(1, .int x79s3), (0, .ref 100)]) dX9_readsPerson_79 (by decide) (fun _ => rfl) (fun x79s3 ex79s3 => ?_)
            obtain rfl : x79s3 = (nI 3) := ex79s3
            refine zJ_iload_n dX9_readsPerson_80 rfl ?_
            refine zJ_iconst (v := (-1)) dX9_readsPerson_81 (by decide) ?_
            refine zJ_icmp_ne (tgt := 90) dX9_readsPerson_82 (by decide) (fun _ => ?_) (fun h9 => False.elim (by revert h9; decide))
            refine zJ_aload_n dX9_readsPerson_90 rfl ?_
            refine zJ_cV0 dX9_readsPerson_91 sX9_224 mfX9_isGood (c_Mo_ig Δ g1) (by first | rfl | assumption | exact hM.at (by decide) (by decide) | exact M1.at (by decide) (by decide) | exact M2.at (by decide) (by decide) | exact M3.at (by decide) (by decide) | exact M4.at (by decide) (by decide) | exact M5.at (by decide) (by decide) | exact M6.at (by decide) (by decide)) rfl (Nat.le_of_ble_eq_true rfl) (by decide) (by decide) ?_
            refine zJ_if_ne (tgt := 98) dX9_readsPerson_94 (by decide) (fun _ => ?_) (fun h9 => False.elim (by revert h9; decide))
            refine zJ_aload_n dX9_readsPerson_98 rfl ?_
            refine zJ_eV0 dX9_readsPerson_99 sX9_228 mfX9_steps (c_Mo_st Δ g1) (by first | exact hM.at (by decide) (by decide) | exact M1.at (by decide) (by decide) | exact M2.at (by decide) (by decide) | exact M3.at (by decide) (by decide) | exact M4.at (by decide) (by decide) | exact M5.at (by decide) (by decide) | exact M6.at (by decide) (by decide)) rfl (Nat.le_of_ble_eq_true rfl) (by decide) (by decide) (fun r c2 hP => ?_)
            obtain ⟨rfl, g2⟩ := hP
            have M2 := g2.2.1.1
            refine zJ_iconst (v := 0) dX9_readsPerson_102 (by decide) ?_
            refine zJ_istore_n (ls2 := fun x103 => [(2, .int x103), (1, .int (nI 3)), (0, .ref 100)]) dX9_readsPerson_103 (by decide) (fun _ => rfl) (fun x103 ex103 => ?_)
            obtain rfl : x103 = (nI 0) := ex103
            refine zJ_iload_n dX9_readsPerson_104 rfl ?_
            refine zJ_if_ne (tgt := 117) dX9_readsPerson_105 (by decide) (fun _ => ?_) (fun h9 => False.elim (by revert h9; decide))
            refine zJ_iload_n dX9_readsPerson_117 rfl ?_
            refine zJ_iconst (v := 2) dX9_readsPerson_118 (by decide) ?_
            refine zJ_icmp_ne (tgt := 131) dX9_readsPerson_119 (by decide) (fun _ => ?_) (fun h9 => False.elim (by revert h9; decide))
            refine zJ_iload_n dX9_readsPerson_131 rfl ?_
            refine zJ_iconst (v := 3) dX9_readsPerson_132 (by decide) ?_
            refine zJ_icmp_ne (tgt := 148) dX9_readsPerson_133 (by decide) (fun h9 => False.elim (by revert h9; decide)) (fun _ => ?_)
            refine zJ_aload_n dX9_readsPerson_136 rfl ?_
            refine zJ_bipush (v := 10) dX9_readsPerson_137 (by decide) ?_
            refine zJ_iconst (v := 0) dX9_readsPerson_139 (by decide) ?_
            refine zJ_sipush (v := 9999) dX9_readsPerson_140 (by decide) ?_
            refine zJ_iconst (v := 0) dX9_readsPerson_143 (by decide) ?_
            refine zJ_eV4 dX9_readsPerson_144 sX9_244 mfX9_perhaps (c_Mo_pr Δ g2 10 0 9999 0 (by decide) (by decide) (by decide)) (by first | exact hM.at (by decide) (by decide) | exact M1.at (by decide) (by decide) | exact M2.at (by decide) (by decide) | exact M3.at (by decide) (by decide) | exact M4.at (by decide) (by decide) | exact M5.at (by decide) (by decide) | exact M6.at (by decide) (by decide)) rfl (Nat.le_of_ble_eq_true rfl) (by decide) (by decide) (fun r c3 hP => ?_)
            cases hn : zrP tx n 6 0 9999 0 (ztk tx n (ztk tx n t.2.2.1).2.2.1) with
            | inl e =>
              rw [show zmw 10 = 6 from rfl, hn] at hP
              obtain ⟨hb, v, rfl⟩ := hP
              have M3 := hb.2.1.1
              have hz : zlP tx n S.1 t = .inl e := by rw [zlP, if_neg (by omega), hso]; simp [hn]
              refine zJ_istore_n (ls2 := fun x147f => [(2, .int x147f), (1, .int (nI 3)), (0, .ref 100)]) dX9_readsPerson_147 (by decide) (fun _ => rfl) (fun x147f ex147f => ?_)
              refine zJ_aload_n dX9_readsPerson_148 rfl ?_
              refine zJ_cV0 dX9_readsPerson_149 sX9_224 mfX9_isGood (c_Mo_igB Δ hb) (by first | rfl | assumption | exact hM.at (by decide) (by decide) | exact M1.at (by decide) (by decide) | exact M2.at (by decide) (by decide) | exact M3.at (by decide) (by decide) | exact M4.at (by decide) (by decide) | exact M5.at (by decide) (by decide) | exact M6.at (by decide) (by decide)) rfl (Nat.le_of_ble_eq_true rfl) (by decide) (by decide) ?_
              refine zJ_if_ne (tgt := 156) dX9_readsPerson_152 (by decide) (fun h9 => False.elim (by revert h9; decide)) (fun _ => ?_)
              exact zJ_vret dX9_readsPerson_155 rfl (by decide) (by decide) (hQ _ _ ⟨rfl, by rw [hz]; exact hb⟩)
            | inr q =>
              rw [show zmw 10 = 6 from rfl, hn] at hP
              obtain ⟨g3, rfl⟩ := hP
              have M3 := g3.2.1.1
              have hz : zlP tx n S.1 t = .inr (zTp S.1 3 q.1, q.2) := by rw [zlP, if_neg (by omega), hso]; simp [hn]
              refine zJ_istore_n (ls2 := fun x147g => [(2, .int x147g), (1, .int (nI 3)), (0, .ref 100)]) dX9_readsPerson_147 (by decide) (fun _ => rfl) (fun x147g ex147g => ?_)
              obtain rfl : x147g = (nI q.1) := ex147g
              exact K148 3 q.1 _ _ hP7 g3 hz
          | false =>
            refine zJ_aload_n dX9_readsPerson_65 rfl ?_
            refine zJ_bipush (v := 9) dX9_readsPerson_66 (by decide) ?_
            refine zJ_cV1 dX9_readsPerson_68 sX9_234 mfX9_is (c_Mo_isg Δ g1 9 (by decide) hw3) (by first | rfl | assumption | exact hM.at (by decide) (by decide) | exact M1.at (by decide) (by decide) | exact M2.at (by decide) (by decide) | exact M3.at (by decide) (by decide) | exact M4.at (by decide) (by decide) | exact M5.at (by decide) (by decide) | exact M6.at (by decide) (by decide)) rfl (Nat.le_of_ble_eq_true rfl) (by decide) (by decide) ?_
            refine zJ_if_eq (tgt := 78) dX9_readsPerson_71 (by decide) (fun _ => ?_) (fun h9 => False.elim (by revert h9; decide))
            have hso : zso tx (ztk tx n t.2.2.1) = none := by simp [zso, hw0, hw1, hw2, hw3]
            have hz : zlP tx n S.1 t = .inl (1, (ztk tx n t.2.2.1).2.1) := by rw [zlP, if_neg (by omega), hso]
            rw [hz] at hQ
            refine zJ_iconst (v := (-1)) dX9_readsPerson_78 (by decide) ?_
            refine zJ_istore_n (ls2 := fun x79u => [(1, .int x79u), (0, .ref 100)]) dX9_readsPerson_79 (by decide) (fun _ => rfl) (fun x79u ex79u => ?_)
            obtain rfl : x79u = (-1) := ex79u
            refine zJ_iload_n dX9_readsPerson_80 rfl ?_
            refine zJ_iconst (v := (-1)) dX9_readsPerson_81 (by decide) ?_
            refine zJ_icmp_ne (tgt := 90) dX9_readsPerson_82 (by decide) (fun h9 => False.elim (by revert h9; decide)) (fun _ => ?_)
            refine zJ_aload_n dX9_readsPerson_85 rfl ?_
            refine zJ_iconst (v := 1) dX9_readsPerson_86 (by decide) ?_
            refine zJ_eV1 dX9_readsPerson_87 sX9_231 mfX9_wrong (c_Mo_wr Δ g1 1 (by decide)) (by first | exact hM.at (by decide) (by decide) | exact M1.at (by decide) (by decide) | exact M2.at (by decide) (by decide) | exact M3.at (by decide) (by decide) | exact M4.at (by decide) (by decide) | exact M5.at (by decide) (by decide) | exact M6.at (by decide) (by decide)) rfl (Nat.le_of_ble_eq_true rfl) (by decide) (by decide) (fun r c2 hP => ?_)
            obtain ⟨rfl, hb⟩ := hP
            have M2 := hb.2.1.1
            refine zJ_aload_n dX9_readsPerson_90 rfl ?_
            refine zJ_cV0 dX9_readsPerson_91 sX9_224 mfX9_isGood (c_Mo_igB Δ hb) (by first | rfl | assumption | exact hM.at (by decide) (by decide) | exact M1.at (by decide) (by decide) | exact M2.at (by decide) (by decide) | exact M3.at (by decide) (by decide) | exact M4.at (by decide) (by decide) | exact M5.at (by decide) (by decide) | exact M6.at (by decide) (by decide)) rfl (Nat.le_of_ble_eq_true rfl) (by decide) (by decide) ?_
            refine zJ_if_ne (tgt := 98) dX9_readsPerson_94 (by decide) (fun h9 => False.elim (by revert h9; decide)) (fun _ => ?_)
            exact zJ_vret dX9_readsPerson_97 rfl (by decide) (by decide) (hQ _ _ ⟨rfl, hb⟩)
