/-! the model: credit -/
def zcm (o : Nat → Nat → Nat) (g r : Nat) : Nat := if o g r / 1000 < 1 then 1 else o g r / 1000
/-- CREDIT behind r ROWS -/
def zcr9 (t : Nat → Bool) (o : Nat → Nat → Nat) : Nat → Nat → Nat
  | 0 => fun _ => 1000000 / zcnt t 4
  | r + 1 => fun g => zcr9 t o r g * zcm o g r * 1000000 / fb_sm (fun g => if t g then zcr9 t o r g * zcm o g r else 0) 4
theorem zcm_le {o : Nat → Nat → Nat} {g r : Nat} (h : o g r ≤ 1000000000) : zcm o g r ≤ 1000000 := by
  simp only [zcm]; split <;> omega
theorem zcr9_le {t : Nat → Bool} {o : Nat → Nat → Nat} : ∀ r g, g < 4 → t g = true → zcr9 t o r g ≤ 1000000
  | 0, g, _, _ => by simp only [zcr9]; exact Nat.div_le_self _ _
  | r + 1, g, hg, ht => by
    simp only [zcr9]
    have h := fb_sm_part (fun g => if t g then zcr9 t o r g * zcm o g r else 0) hg
    simp only [ht, if_true] at h
    have h2 : zcr9 t o r g * zcm o g r ≤ fb_sm (fun g => if t g then zcr9 t o r g * zcm o g r else 0) 4 := by
      have : zcr9 t o r g * zcm o g r ≤ fb_sm (fun g => if t g = true then zcr9 t o r g * zcm o g r else 0) g + zcr9 t o r g * zcm o g r := Nat.le_add_left _ _
      omega
    generalize fb_sm (fun g => if t g then zcr9 t o r g * zcm o g r else 0) 4 = S at h2
    rcases Nat.eq_zero_or_pos S with h0 | h0
    · rw [h0, Nat.div_zero]; exact Nat.zero_le _
    · exact Nat.div_le_of_le_mul (Nat.mul_le_mul_right _ h2)
theorem zodds_le9 {T : zTo} (hT : zTok T) (f : Nat → Nat) (hf : ∀ i, f i < 8) (n : Nat) : zodds T f n ≤ 1000000000 := by
  simp only [zodds]
  split
  · exact Nat.zero_le _
  · exact zod_le hT f hf _ _ _ _
theorem zMKg {g : zW} {U : zTo} {G : zGt} {k : Nat} {K : List zKy} (h1 : zMq g U K) (h2 : zall U K) (h3 : ∀ (x : Nat) (k : zKy), K[x]? = some k → ∀ y, y < 8 → zNx U K (g.2.1 143) x k y) (hA : zMa g (zTg U G k)) : zMK g (zTg U G k) K := by
  have lk := zTg_lk U G k
  refine ⟨hA, ⟨h1.1, h1.2.1, h1.2.2.1, fun q hq => ?_⟩, ?_, fun x q hx y hy => ?_⟩
  · rw [lk.kok]; exact h1.2.2.2 q hq
  · rw [lk.all]; exact h2
  · have h9 := h3 x q hx y hy
    unfold zNx at *
    rw [lk.may, lk.bk]; exact h9
set_option maxRecDepth 100000 in
theorem zMo_crA (Δ : zD) (g : zW) (U : zTo) (hMu : zMu g U) (hU : zTok U) (G : zGt) (hGk : zGok U G) (hGi : zGi (g.2.1 162) (g.2.1 163) G) (k : Nat) (hk : k < 4) (v1 v2 : Int32) {QR : Option Value → zW → Prop} (kk : ∀ d, zFM [48, 49] g d → (∀ p, p < U.1 0 → d.2.1 148 p = nI ((zTg U G k).2.1 p) ∧ d.2.1 149 p = nI ((zTg U G k).2.2.1 p)) → zJ Δ mX9_credit (zRm 5 0 0) true g.1 QR (fun _ _ => False) 0 0 235 [(3, .int (nI k)), (2, .int v2), (0, .ref 100), (1, .int v1)] [] d) : ∀ j, j ≤ U.1 0 → ∀ d, zFM [48, 49] g d → (∀ p, p < j → d.2.1 148 p = nI ((zTg U G k).2.1 p) ∧ d.2.1 149 p = nI ((zTg U G k).2.2.1 p)) → zJ Δ mX9_credit (zRm 5 0 0) true g.1 QR (fun _ _ => False) 0 0 129 [(4, .int (nI j)), (3, .int (nI k)), (2, .int v2), (0, .ref 100), (1, .int v1)] [] d := by
  have hp8 := hU.1
  refine zup (fun j hj ih => ?_)
  intro d hf hr
  have hMd := hMu.fm hf (by decide)
  have hM := hMd.1
  have d1 := hMd.2.1
  by_cases hj0 : j = U.1 0
  · refine zJ_iload dX9_credit_129 rfl ?_
    refine zJ_aload_n dX9_credit_131 rfl ?_
    refine zJ_getiN dX9_credit_132 fX9_298 (by first | rfl | assumption | exact hM.at (by decide) (by decide)) rfl d1 ?_
    refine zJ_icmp_ge (tgt := 235) dX9_credit_135 (by decide) (fun h135 => ?_) (fun h9 => absurd ((nI_leI (by omega) (by omega)).mpr (by omega)) h9)
    refine zJ_ls [(3, .int (nI k)), (2, .int v2), (0, .ref 100), (1, .int v1)] (by simp) ?_
    exact kk d hf (fun p hp => hr p (by omega))
  · have hjp : j < U.1 0 := by omega
    have hlt0 : ¬ nI (U.1 0) ≤ nI j := fun h => absurd ((nI_leI (by omega) (by omega)).mp h) (by omega)
    have hq9 := hGi (k * 8 + j) (by omega)
    have s10 : d.2.1 110 j = nI (U.2.1 j) := hMd.2.2.2.2.2.2.2.2.2.2.1 j hjp
    have s11 : d.2.1 111 j = nI (U.2.2.1 j) := hMd.2.2.2.2.2.2.2.2.2.2.2.1 j hjp
    have f62 : ∀ i, d.2.1 162 i = g.2.1 162 i := fun i => hf.ar (k := 62) (by decide) (by decide)
    have f63 : ∀ i, d.2.1 163 i = g.2.1 163 i := fun i => hf.ar (k := 63) (by decide) (by decide)
    have hj8 : j < 8 := by omega
    have NX : ∀ a b : Int32, a = nI ((zTg U G k).2.1 j) → b = nI ((zTg U G k).2.2.1 j) → zJ Δ mX9_credit (zRm 5 0 0) true g.1 QR (fun _ _ => False) 0 0 129 [(4, .int (nI (j + 1))), (3, .int (nI k)), (2, .int v2), (0, .ref 100), (1, .int v1)] [] (zsi (zsi d 148 j a) 149 j b) := by
      intro a b ha hb
      refine ih (j + 1) (by omega) (by omega) _ ((hf.tr (zFM.i (Or.inr (by decide)))).tr (zFM.i (Or.inr (by decide)))) (fun p hp => ?_)
      by_cases hpj : p = j
      · subst hpj
        constructor
        · simp [zsi]; exact ha
        · simp [zsi]; exact hb
      · have := hr p (by omega)
        constructor
        · simp [zsi, hpj]; exact this.1
        · simp [zsi, hpj]; exact this.2
    cases hq : G (k * 8 + j) with
    | none =>
      rw [hq] at hq9
      have q1 : d.2.1 162 (k * 8 + j) = -1 := (f62 _).trans hq9
      refine zJ_iload dX9_credit_129 rfl ?_
      refine zJ_aload_n dX9_credit_131 rfl ?_
      refine zJ_getiN dX9_credit_132 fX9_298 (by first | rfl | assumption | exact hM.at (by decide) (by decide)) rfl d1 ?_
      refine zJ_icmp_ge (tgt := 235) dX9_credit_135 (by decide) (fun h9 => absurd h9 hlt0) (fun h135a => ?_)
      refine zJ_aload_n dX9_credit_138 rfl ?_
      refine zJ_getr (j := 162) dX9_credit_139 fX9_104 (by first | rfl | assumption | exact hM.at (by decide) (by decide)) rfl (by first | rfl | assumption | exact hM.rf (by decide) rfl) ?_
      refine zJ_bipush (v := 8) dX9_credit_142 (by decide) ?_
      refine zJ_iload_n dX9_credit_144 rfl ?_
      refine zJ_imul dX9_credit_145 ?_
      refine zJ_iload dX9_credit_146 rfl ?_
      refine zJ_iadd dX9_credit_148 ?_
      refine zJ_ialdN (i := (k * 8 + j)) (v := (-1)) dX9_credit_149 (by first | rfl | assumption | exact hM.at (by decide) (by decide)) (na_8 _ _) (by omega) (by decide) q1 ?_
      refine zJ_iconst (v := (-1)) dX9_credit_150 (by decide) ?_
      refine zJ_icmp_eq (tgt := 158) dX9_credit_151 (by decide) (fun _ => ?_) (fun h9 => False.elim (by revert h9; decide))
      refine zJ_iconst (v := 0) dX9_credit_158 (by decide) ?_
      refine zJ_istore (ls2 := fun x159a => [(5, .int x159a), (4, .int (nI j)), (3, .int (nI k)), (2, .int v2), (0, .ref 100), (1, .int v1)]) dX9_credit_159 (by decide) (fun _ => rfl) (fun x159a ex159a => ?_)
      obtain rfl : x159a = 0 := ex159a
      refine zJ_aload_n dX9_credit_161 rfl ?_
      refine zJ_getr (j := 148) dX9_credit_162 fX9_70 (by first | rfl | assumption | exact hM.at (by decide) (by decide)) rfl (by first | rfl | assumption | exact hM.rf (by decide) rfl) ?_
      refine zJ_iload dX9_credit_165 rfl ?_
      refine zJ_iload dX9_credit_167 rfl ?_
      refine zJ_if_eq (tgt := 187) dX9_credit_169 (by decide) (fun _ => ?_) (fun h9 => False.elim (by revert h9; decide))
      refine zJ_aload_n dX9_credit_187 rfl ?_
      refine zJ_getr (j := 110) dX9_credit_188 fX9_22 (by first | rfl | assumption | exact hM.at (by decide) (by decide)) rfl (by first | rfl | assumption | exact hM.rf (by decide) rfl) ?_
      refine zJ_iload dX9_credit_191 rfl ?_
      refine zJ_ialdN (i := j) (v := (nI (U.2.1 j))) dX9_credit_193 (by first | rfl | assumption | exact hM.at (by decide) (by decide)) rfl (by omega) (by decide) s10 ?_
      refine zJ_iastN (i := j) dX9_credit_194 (by first | rfl | assumption | exact hM.at (by decide) (by decide)) rfl (by omega) (by decide) ?_
      refine zJ_aload_n dX9_credit_195 rfl ?_
      refine zJ_getr (j := 149) dX9_credit_196 fX9_73 (by first | rfl | assumption | exact hM.at (by decide) (by decide)) rfl (by first | rfl | assumption | exact hM.rf (by decide) rfl) ?_
      refine zJ_iload dX9_credit_199 rfl ?_
      refine zJ_iload dX9_credit_201 rfl ?_
      refine zJ_if_eq (tgt := 221) dX9_credit_203 (by decide) (fun _ => ?_) (fun h9 => False.elim (by revert h9; decide))
      refine zJ_aload_n dX9_credit_221 rfl ?_
      refine zJ_getr (j := 111) dX9_credit_222 fX9_26 (by first | rfl | assumption | exact hM.at (by decide) (by decide)) rfl (by first | rfl | assumption | exact hM.rf (by decide) rfl) ?_
      refine zJ_iload dX9_credit_225 rfl ?_
      refine zJ_ialdN (i := j) (v := (nI (U.2.2.1 j))) dX9_credit_227 (by first | rfl | assumption | exact hM.at (by decide) (by decide)) rfl (by omega) (by decide) (by rw [zsi_o (by decide)]; exact s11) ?_
      refine zJ_iastN (i := j) dX9_credit_228 (by first | rfl | assumption | exact hM.at (by decide) (by decide)) rfl (by omega) (by decide) ?_
      refine zJ_iinc (ls2 := fun x229a => [(4, .int x229a), (5, .int 0), (3, .int (nI k)), (2, .int v2), (0, .ref 100), (1, .int v1)]) dX9_credit_229 rfl (by decide) (fun _ => rfl) (fun x229a ex229a => ?_)
      refine zJ_goto (tgt := 129) dX9_credit_232 (by decide) ?_
      refine zJ_ls [(4, .int x229a), (3, .int (nI k)), (2, .int v2), (0, .ref 100), (1, .int v1)] (by simp) ?_
      rw [ex229a, show nI j + Int32.ofInt 1 = nI (j + 1) from nI_1 _]
      exact NX _ _ (by simp [zTg, hj8, hq]) (by simp [zTg, hj8, hq])
    | some q =>
      rw [hq] at hq9
      have hb := hGk k j q hk hj8 hq
      have q1 : d.2.1 162 (k * 8 + j) = nI q.1 := (f62 _).trans hq9.1
      have q2 : d.2.1 163 (k * 8 + j) = nI q.2 := (f63 _).trans hq9.2
      have hne : ¬ nI q.1 = -1 := (by decide : ∀ s, s ≤ 3 → ¬ nI s = -1) q.1 hb.2.1
      refine zJ_iload dX9_credit_129 rfl ?_
      refine zJ_aload_n dX9_credit_131 rfl ?_
      refine zJ_getiN dX9_credit_132 fX9_298 (by first | rfl | assumption | exact hM.at (by decide) (by decide)) rfl d1 ?_
      refine zJ_icmp_ge (tgt := 235) dX9_credit_135 (by decide) (fun h9 => absurd h9 hlt0) (fun h135b => ?_)
      refine zJ_aload_n dX9_credit_138 rfl ?_
      refine zJ_getr (j := 162) dX9_credit_139 fX9_104 (by first | rfl | assumption | exact hM.at (by decide) (by decide)) rfl (by first | rfl | assumption | exact hM.rf (by decide) rfl) ?_
      refine zJ_bipush (v := 8) dX9_credit_142 (by decide) ?_
      refine zJ_iload_n dX9_credit_144 rfl ?_
      refine zJ_imul dX9_credit_145 ?_
      refine zJ_iload dX9_credit_146 rfl ?_
      refine zJ_iadd dX9_credit_148 ?_
      refine zJ_ialdN (i := (k * 8 + j)) (v := (nI q.1)) dX9_credit_149 (by first | rfl | assumption | exact hM.at (by decide) (by decide)) (na_8 _ _) (by omega) (by decide) q1 ?_
      refine zJ_iconst (v := (-1)) dX9_credit_150 (by decide) ?_
      refine zJ_icmp_eq (tgt := 158) dX9_credit_151 (by decide) (fun h9 => absurd h9 hne) (fun h151b => ?_)
      refine zJ_iconst (v := 1) dX9_credit_154 (by decide) ?_
      refine zJ_goto (tgt := 159) dX9_credit_155 (by decide) ?_
      refine zJ_istore (ls2 := fun x159b => [(5, .int x159b), (4, .int (nI j)), (3, .int (nI k)), (2, .int v2), (0, .ref 100), (1, .int v1)]) dX9_credit_159 (by decide) (fun _ => rfl) (fun x159b ex159b => ?_)
      obtain rfl : x159b = 1 := ex159b
      refine zJ_aload_n dX9_credit_161 rfl ?_
      refine zJ_getr (j := 148) dX9_credit_162 fX9_70 (by first | rfl | assumption | exact hM.at (by decide) (by decide)) rfl (by first | rfl | assumption | exact hM.rf (by decide) rfl) ?_
      refine zJ_iload dX9_credit_165 rfl ?_
      refine zJ_iload dX9_credit_167 rfl ?_
      refine zJ_if_eq (tgt := 187) dX9_credit_169 (by decide) (fun h9 => False.elim (by revert h9; decide)) (fun _ => ?_)
      refine zJ_aload_n dX9_credit_172 rfl ?_
      refine zJ_getr (j := 162) dX9_credit_173 fX9_104 (by first | rfl | assumption | exact hM.at (by decide) (by decide)) rfl (by first | rfl | assumption | exact hM.rf (by decide) rfl) ?_
      refine zJ_bipush (v := 8) dX9_credit_176 (by decide) ?_
      refine zJ_iload_n dX9_credit_178 rfl ?_
      refine zJ_imul dX9_credit_179 ?_
      refine zJ_iload dX9_credit_180 rfl ?_
      refine zJ_iadd dX9_credit_182 ?_
      refine zJ_ialdN (i := (k * 8 + j)) (v := (nI q.1)) dX9_credit_183 (by first | rfl | assumption | exact hM.at (by decide) (by decide)) (na_8 _ _) (by omega) (by decide) q1 ?_
      refine zJ_goto (tgt := 194) dX9_credit_184 (by decide) ?_
      refine zJ_iastN (i := j) dX9_credit_194 (by first | rfl | assumption | exact hM.at (by decide) (by decide)) rfl (by omega) (by decide) ?_
      refine zJ_aload_n dX9_credit_195 rfl ?_
      refine zJ_getr (j := 149) dX9_credit_196 fX9_73 (by first | rfl | assumption | exact hM.at (by decide) (by decide)) rfl (by first | rfl | assumption | exact hM.rf (by decide) rfl) ?_
      refine zJ_iload dX9_credit_199 rfl ?_
      refine zJ_iload dX9_credit_201 rfl ?_
      refine zJ_if_eq (tgt := 221) dX9_credit_203 (by decide) (fun h9 => False.elim (by revert h9; decide)) (fun _ => ?_)
      refine zJ_aload_n dX9_credit_206 rfl ?_
      refine zJ_getr (j := 163) dX9_credit_207 fX9_107 (by first | rfl | assumption | exact hM.at (by decide) (by decide)) rfl (by first | rfl | assumption | exact hM.rf (by decide) rfl) ?_
      refine zJ_bipush (v := 8) dX9_credit_210 (by decide) ?_
      refine zJ_iload_n dX9_credit_212 rfl ?_
      refine zJ_imul dX9_credit_213 ?_
      refine zJ_iload dX9_credit_214 rfl ?_
      refine zJ_iadd dX9_credit_216 ?_
      refine zJ_ialdN (i := (k * 8 + j)) (v := (nI q.2)) dX9_credit_217 (by first | rfl | assumption | exact hM.at (by decide) (by decide)) (na_8 _ _) (by omega) (by decide) (by rw [zsi_o (by decide)]; exact q2) ?_
      refine zJ_goto (tgt := 228) dX9_credit_218 (by decide) ?_
      refine zJ_iastN (i := j) dX9_credit_228 (by first | rfl | assumption | exact hM.at (by decide) (by decide)) rfl (by omega) (by decide) ?_
      refine zJ_iinc (ls2 := fun x229b => [(4, .int x229b), (5, .int 1), (3, .int (nI k)), (2, .int v2), (0, .ref 100), (1, .int v1)]) dX9_credit_229 rfl (by decide) (fun _ => rfl) (fun x229b ex229b => ?_)
      refine zJ_goto (tgt := 129) dX9_credit_232 (by decide) ?_
      refine zJ_ls [(4, .int x229b), (3, .int (nI k)), (2, .int v2), (0, .ref 100), (1, .int v1)] (by simp) ?_
      rw [ex229b, show nI j + Int32.ofInt 1 = nI (j + 1) from nI_1 _]
      exact NX _ _ (by simp [zTg, hj8, hq]) (by simp [zTg, hj8, hq])
set_option maxRecDepth 100000 in
theorem zMo_crR (Δ : zD) (g : zW) (T : zTo) (K : List zKy) (hT : zTok T) (v1 v2 v3 : Int32) {QR : Option Value → zW → Prop} (kk : ∀ c, zFM [50, 51, 52] g c → zMK c T K → zUm c T K 0 → zJ Δ mX9_credit (zRm 5 0 0) true g.1 QR (fun _ _ => False) 0 0 260 [(3, .int v3), (2, .int v2), (0, .ref 100), (1, .int v1)] [] c) : ∀ n, n ≤ K.length → ∀ c, zFM [50, 51, 52] g c → zMK c T K → zUm c T K n → zJ Δ mX9_credit (zRm 5 0 0) true g.1 QR (fun _ _ => False) 0 0 243 [(4, .int (nI n - 1)), (3, .int v3), (2, .int v2), (0, .ref 100), (1, .int v1)] [] c := by
  intro n
  induction n with
  | zero =>
    intro _ c hf hK hU
    have Mc : zMs c := hK.1.1
    refine zJ_iload dX9_credit_243 rfl ?_
    refine zJ_if_lt (tgt := 260) dX9_credit_245 (by decide) (fun h245 => ?_) (fun h9 => absurd (by decide : (nI 0 - 1 : Int32) < 0) h9)
    refine zJ_ls [(3, .int v3), (2, .int v2), (0, .ref 100), (1, .int v1)] (by simp) ?_
    exact kk c hf hK hU
  | succ n ih =>
    intro hn c hf hK hU
    have Mc : zMs c := hK.1.1
    have hKR := hK.2.1.2.2.1
    have em : nI (n + 1) - 1 = nI n := na_sub (b := 1) (by omega)
    rw [em]
    obtain ⟨k, hk⟩ : ∃ k, K[n]? = some k := ⟨_, List.getElem?_eq_getElem (show n < K.length by omega)⟩
    refine zJ_iload dX9_credit_243 rfl ?_
    refine zJ_if_lt (tgt := 260) dX9_credit_245 (by decide) (fun h9 => absurd h9 (fun h9 => absurd ((nI_ltI (b := 0) (by omega) (by decide)).mp h9) (by omega))) (fun h245 => ?_)
    refine zJ_aload_n dX9_credit_248 rfl ?_
    refine zJ_iload dX9_credit_249 rfl ?_
    refine zJ_eV1 dX9_credit_251 sX9_406 mfX9_reckons (c_Mo_reckons Δ c T K hK hT n k hk (hU.ch hK.2.2.1 hk)) (Mc.at (by decide) (by decide)) rfl (Nat.le_of_ble_eq_true rfl) (by decide) (by decide) (fun r d hP => ?_)
    obtain ⟨rfl, hr, h3⟩ := hP
    refine zJ_iinc (ls2 := fun x254 => [(4, .int x254), (3, .int v3), (2, .int v2), (0, .ref 100), (1, .int v1)]) dX9_credit_254 rfl (by decide) (fun _ => rfl) (fun x254 ex254 => ?_)
    refine zJ_goto (tgt := 243) dX9_credit_257 (by decide) ?_
    refine zJ_ls [(4, .int x254), (3, .int v3), (2, .int v2), (0, .ref 100), (1, .int v1)] (by simp) ?_
    rw [ex254, na_dec]
    exact ih (by omega) d (hf.tr (hr.1.1.mono (by decide))) (hK.r hr.1) (hr.1.up hU hT hk hr.2.1 hr.2.2 h3)
set_option maxRecDepth 100000 in
theorem zMo_crO (Δ : zD) (g : zW) (U T : zTo) (hMu : zMu g U) (hU : zTok U) (h13 : U.1 13 = 0) (hLk : zLk T U) (K : List zKy) (hK : zMK g T K) (hT : zTok T) (hB : zBm g T K) (e : Nat) (fr : Nat → Nat → Nat) (ln : Nat → Nat) (he : e ≤ 20) (h56 : g.2.1 100 56 = nI e) (hln : ∀ r, r < e → g.2.1 159 r = nI (ln r) ∧ ln r ≤ 20) (hfr : ∀ r i, r < e → i < ln r → g.2.1 158 (r * 20 + i) = nI (fr r i) ∧ fr r i < U.1 0) (k : Nat) (hk : k < 4) (v1 v2 : Int32) {QR : Option Value → zW → Prop} (kk : ∀ d, zFM [60, 61, 65] g d → (∀ r, r < e → d.2.2.1 165 (k * 20 + r) = lN (zodds T (fr r) (ln r))) → (∀ i, i < k * 20 → d.2.2.1 165 i = g.2.2.1 165 i) → zJ Δ mX9_credit (zRm 5 0 0) true g.1 QR (fun _ _ => False) 0 0 341 [(3, .int (nI k)), (2, .int v2), (0, .ref 100), (1, .int v1)] [] d) : ∀ r, r ≤ e → ∀ d, zFM [60, 61, 65] g d → (∀ r2, r2 < r → d.2.2.1 165 (k * 20 + r2) = lN (zodds T (fr r2) (ln r2))) → (∀ i, i < k * 20 → d.2.2.1 165 i = g.2.2.1 165 i) → zJ Δ mX9_credit (zRm 5 0 0) true g.1 QR (fun _ _ => False) 0 0 263 [(4, .int (nI r)), (3, .int (nI k)), (2, .int v2), (0, .ref 100), (1, .int v1)] [] d := by
  refine zup (fun r hr ih => ?_)
  intro d hf ho hlo
  have hMd := hMu.fm hf (by decide)
  have hM := hMd.1
  have d56 : d.2.1 100 56 = nI e := (hf.at (by decide)).trans h56
  by_cases hre : r = e
  · refine zJ_iload dX9_credit_263 rfl ?_
    refine zJ_aload_n dX9_credit_265 rfl ?_
    refine zJ_getiN dX9_credit_266 fX9_320 (by first | rfl | assumption | exact hM.at (by decide) (by decide)) rfl d56 ?_
    refine zJ_icmp_ge (tgt := 341) dX9_credit_269 (by decide) (fun h269 => ?_) (fun h9 => absurd ((nI_leI (by omega) (by omega)).mpr (by omega)) h9)
    refine zJ_ls [(3, .int (nI k)), (2, .int v2), (0, .ref 100), (1, .int v1)] (by simp) ?_
    exact kk d hf (fun r2 h2 => ho r2 (by omega)) hlo
  · have hr9 : r < e := by omega
    have hlt0 : ¬ nI e ≤ nI r := fun h => absurd ((nI_leI (by omega) (by omega)).mp h) (by omega)
    have d59 : d.2.1 159 r = nI (ln r) := (hf.ar (k := 59) (by decide) (by decide)).trans (hln r hr9).1
    have hl20 := (hln r hr9).2
    have hM1 : zMs (zsi d 100 61 (nI (ln r))) := hM
    have L : ∀ i, i ≤ 20 → ∀ c, zFM [60] (zsi d 100 61 (nI (ln r))) c → (∀ i2, i2 < i → c.2.1 160 i2 = d.2.1 158 (r * 20 + i2)) → zJ Δ mX9_credit (zRm 5 0 0) true g.1 QR (fun _ _ => False) 0 0 286 [(5, .int (nI i)), (4, .int (nI r)), (3, .int (nI k)), (2, .int v2), (0, .ref 100), (1, .int v1)] [] c := by
      refine zup (fun i hi ihi => ?_)
      intro c hc hcp
      have hM : zMs c := hM1.fm hc
      have c58 : ∀ j, c.2.1 158 j = d.2.1 158 j := fun j => (hc.ar (k := 58) (by decide) (by decide)).trans (zsi_o (by decide))
      by_cases hi20 : i = 20
      · refine zJ_iload dX9_credit_286 rfl ?_
        refine zJ_bipush (v := 20) dX9_credit_288 (by decide) ?_
        refine zJ_icmp_ge (tgt := 319) dX9_credit_290 (by decide) (fun h290 => ?_) (fun h9 => absurd (by rw [hi20]; decide) h9)
        have hgc : zFM [60, 61, 65] g c := (hf.tr ((zFM.i (l := [61]) (by decide)).mono (by decide))).tr (hc.mono (by decide))
        have hMuc := hMu.fm hgc (by decide)
        have hKc := hK.fm hgc (by decide)
        have hBc := hB.fm hgc (by decide)
        have hAq : zAq c U (ln r) (fr r) := ⟨(hc.at (by decide)).trans (by simp [zsi]), hl20, fun i2 h2 => ⟨by rw [hcp i2 (by omega), hf.ar (k := 58) (by decide) (by decide)]; exact (hfr r i2 hr9 h2).1, (hfr r i2 hr9 h2).2⟩⟩
        have ON := c_Mo_oddsNow Δ c U T hMuc hU h13 hLk K hKc hT hBc (ln r) (fr r) hAq
        refine zJ_aload_n dX9_credit_319 rfl ?_
        refine zJ_getr (j := 165) dX9_credit_320 fX9_113 (by first | rfl | assumption | exact hM.at (by decide) (by decide)) rfl (by first | rfl | assumption | exact hM.rf (by decide) rfl) ?_
        refine zJ_bipush (v := 20) dX9_credit_323 (by decide) ?_
        refine zJ_iload_n dX9_credit_325 rfl ?_
        refine zJ_imul dX9_credit_326 ?_
        refine zJ_iload dX9_credit_327 rfl ?_
        refine zJ_iadd dX9_credit_329 ?_
        refine zJ_aload_n dX9_credit_330 rfl ?_
        refine zJ_cV0 dX9_credit_331 sX9_451 mfX9_oddsNow ON (by first | rfl | assumption | exact hM.at (by decide) (by decide)) rfl (Nat.le_of_ble_eq_true rfl) (by decide) (by decide) ?_
        refine zJ_lastN (i := (k * 20 + r)) dX9_credit_334 (by first | rfl | assumption | exact hM.at (by decide) (by decide)) (by rw [show (20 : Int32) = nI 20 from rfl, na_mul, na_add, Nat.mul_comm]) (by omega) (by decide) ?_
        refine zJ_iinc (ls2 := fun x335 => [(4, .int x335), (5, .int (nI i)), (3, .int (nI k)), (2, .int v2), (0, .ref 100), (1, .int v1)]) dX9_credit_335 rfl (by decide) (fun _ => rfl) (fun x335 ex335 => ?_)
        refine zJ_goto (tgt := 263) dX9_credit_338 (by decide) ?_
        refine zJ_ls [(4, .int x335), (3, .int (nI k)), (2, .int v2), (0, .ref 100), (1, .int v1)] (by simp) ?_
        rw [ex335, show nI r + Int32.ofInt 1 = nI (r + 1) from nI_1 _]
        refine ih (r + 1) (by omega) (by omega) _ (hgc.tr (zFM.l (Or.inr (by decide)))) (fun r2 h2 => ?_) (fun i2 h2 => ?_)
        · by_cases hrr : r2 = r
          · subst hrr; simp [zsl]
          · have : ¬ k * 20 + r2 = k * 20 + r := by omega
            simp [zsl, hrr]
            rw [hc.al (k := 65) (by decide) (by decide)]
            exact ho r2 (by omega)
        · have : ¬ i2 = k * 20 + r := by omega
          simp [zsl, this]
          rw [hc.al (k := 65) (by decide) (by decide)]
          exact hlo i2 h2
      · have hlt1 : ¬ (20 : Int32) ≤ nI i := fun h => absurd ((nI_leI (a := 20) (by decide) (by omega)).mp h) (by omega)
        refine zJ_iload dX9_credit_286 rfl ?_
        refine zJ_bipush (v := 20) dX9_credit_288 (by decide) ?_
        refine zJ_icmp_ge (tgt := 319) dX9_credit_290 (by decide) (fun h9 => absurd h9 hlt1) (fun h290 => ?_)
        refine zJ_aload_n dX9_credit_293 rfl ?_
        refine zJ_getr (j := 160) dX9_credit_294 fX9_101 (by first | rfl | assumption | exact hM.at (by decide) (by decide)) rfl (by first | rfl | assumption | exact hM.rf (by decide) rfl) ?_
        refine zJ_iload dX9_credit_297 rfl ?_
        refine zJ_aload_n dX9_credit_299 rfl ?_
        refine zJ_getr (j := 158) dX9_credit_300 fX9_95 (by first | rfl | assumption | exact hM.at (by decide) (by decide)) rfl (by first | rfl | assumption | exact hM.rf (by decide) rfl) ?_
        refine zJ_bipush (v := 20) dX9_credit_303 (by decide) ?_
        refine zJ_iload dX9_credit_305 rfl ?_
        refine zJ_imul dX9_credit_307 ?_
        refine zJ_iload dX9_credit_308 rfl ?_
        refine zJ_iadd dX9_credit_310 ?_
        refine zJ_ialdN (i := (r * 20 + i)) (v := (d.2.1 158 (r * 20 + i))) dX9_credit_311 (by first | rfl | assumption | exact hM.at (by decide) (by decide)) (by rw [show (20 : Int32) = nI 20 from rfl, na_mul, na_add, Nat.mul_comm]) (by omega) (by decide) (c58 _) ?_
        refine zJ_iastN (i := i) dX9_credit_312 (by first | rfl | assumption | exact hM.at (by decide) (by decide)) rfl (by omega) (by decide) ?_
        refine zJ_iinc (ls2 := fun x313 => [(5, .int x313), (4, .int (nI r)), (3, .int (nI k)), (2, .int v2), (0, .ref 100), (1, .int v1)]) dX9_credit_313 rfl (by decide) (fun _ => rfl) (fun x313 ex313 => ?_)
        refine zJ_goto (tgt := 286) dX9_credit_316 (by decide) ?_
        refine zJ_ls [(5, .int x313), (4, .int (nI r)), (3, .int (nI k)), (2, .int v2), (0, .ref 100), (1, .int v1)] (by simp) ?_
        rw [ex313, show nI i + Int32.ofInt 1 = nI (i + 1) from nI_1 _]
        refine ihi (i + 1) (by omega) (by omega) _ (hc.tr (zFM.i (Or.inr (by decide)))) (fun i2 h2 => ?_)
        by_cases hii : i2 = i
        · subst hii; simp [zsi]
        · simp [zsi, hii]; exact hcp i2 (by omega)
    refine zJ_iload dX9_credit_263 rfl ?_
    refine zJ_aload_n dX9_credit_265 rfl ?_
    refine zJ_getiN dX9_credit_266 fX9_320 (by first | rfl | assumption | exact hM.at (by decide) (by decide)) rfl d56 ?_
    refine zJ_icmp_ge (tgt := 341) dX9_credit_269 (by decide) (fun h9 => absurd h9 hlt0) (fun h269q => ?_)
    refine zJ_aload_n dX9_credit_272 rfl ?_
    refine zJ_aload_n dX9_credit_273 rfl ?_
    refine zJ_getr (j := 159) dX9_credit_274 fX9_98 (by first | rfl | assumption | exact hM.at (by decide) (by decide)) rfl (by first | rfl | assumption | exact hM.rf (by decide) rfl) ?_
    refine zJ_iload dX9_credit_277 rfl ?_
    refine zJ_ialdN (i := r) (v := (nI (ln r))) dX9_credit_279 (by first | rfl | assumption | exact hM.at (by decide) (by decide)) rfl (by omega) (by decide) d59 ?_
    refine zJ_puti dX9_credit_280 fX9_435 (fun q h => by cases h; rfl) (by first | rfl | assumption | exact hM.at (by decide) (by decide)) rfl rfl rfl ?_
    refine zJ_iconst (v := 0) dX9_credit_283 (by decide) ?_
    refine zJ_istore (ls2 := fun x284q => [(5, .int x284q), (4, .int (nI r)), (3, .int (nI k)), (2, .int v2), (0, .ref 100), (1, .int v1)]) dX9_credit_284 (by decide) (fun _ => rfl) (fun x284q ex284q => ?_)
    obtain rfl : x284q = (nI 0) := ex284q
    exact L 0 (Nat.zero_le _) _ (zFM.rf _) (fun i2 h2 => absurd h2 (Nat.not_lt_zero i2))
