set_option maxRecDepth 100000 in
theorem zMo_onL (Δ : zD) (e : zW) (U : zTo) (hU0 : zTok U) (p to s wq : Nat) (hp : p < U.1 0) (hto : to ≤ 9999) (hs : 1 ≤ s) (hs2 : s < 2 ^ 31) (h60 : to / s < 60) (hwq : wq ≤ 1) (K : List zKy) (hL : K.length ≤ 20000) {QR : Option Value → zW → Prop} (hQ : ∀ c, zFM zScr e c → c.2.1 100 0 = 0 → QR (some (.long (if wq = 0 then lN (zbx (fun k => zgn U p (k * s)) (to / s) * s) else lZ (zgn U p (zbx (fun k => zgn U p (k * s)) (to / s) * s))))) c) : ∀ i, i ≤ to / s + 1 → ∀ g v, v ≤ 9999 → zFM zScr e g → g.2.1 100 0 = 0 → zMK g (zTon U p v) K → ∀ (i7 : Int32) (l5 : Int64), ((i = 0 ∧ i7 = -1) ∨ (0 < i ∧ i7 = nI (zbx (fun k => zgn U p (k * s)) (i - 1) * s) ∧ l5 = lZ (zgn U p (zbx (fun k => zgn U p (k * s)) (i - 1) * s)))) → zJ Δ mX9_one (zRm 5 0 0) true e.1 QR (fun _ _ => False) 0 0 129 [(8, .int (nI i)), (7, .int i7), (5, .long l5), (0, .ref 100), (1, .int (nI p)), (2, .int (nI to)), (3, .int (nI s)), (4, .int (nI wq))] [] g := by
  have hp8 := hU0.1
  have hms : to / s * s ≤ to := Nat.div_mul_le_self to s
  have hdv : nI to / nI s = nI (to / s) := nI_div (by omega) hs2
  generalize to / s = mm at h60 hms hdv hQ ⊢
  have hsn : ¬ nI s = 0 := fun h => absurd ((nI_eq (b := 0) hs2 (by decide)).mp h) (by omega)
  have hTv : ∀ v, v ≤ 9999 → zTok (zTon U p v) := fun v hv => hU0.q hp (by decide) hv (fun h => absurd h (by decide))
  have hgr : ∀ v, v ≤ 9999 → -420000000 ≤ zgn U p v ∧ zgn U p v ≤ 420000000 := fun v hv => (zvl_rng (hTv v hv) (zkok.fk (hTv v hv))).2 p
  refine zup (fun i hi ih => ?_)
  intro g v hv fg g0 hKg i7 l5 hst
  have Mg : zMs g := hKg.1.1
  by_cases hi0 : i = mm + 1
  · rcases hst with ⟨h9, -⟩ | ⟨-, rfl, rfl⟩
    · omega
    · have hb := zbx_le (fun k => zgn U p (k * s)) (i - 1)
      have hbm : zbx (fun k => zgn U p (k * s)) (i - 1) * s ≤ to := Nat.le_trans (Nat.mul_le_mul_right s (show zbx (fun k => zgn U p (k * s)) (i - 1) ≤ mm by omega)) hms
      have hQ9 := hQ g fg g0
      rw [show mm = i - 1 by omega] at hQ9
      rcases (by omega : wq = 0 ∨ wq = 1) with rfl | rfl
      · refine zJ_iload dX9_one_129 rfl ?_
        refine zJ_iload_n dX9_one_131 rfl ?_
        refine zJ_iload_n dX9_one_132 rfl ?_
        refine zJ_idiv dX9_one_133 hsn ?_
        rw [hdv]
        refine zJ_icmp_gt (tgt := 213) dX9_one_134 (by decide) (fun h134 => ?_) (fun h9 => absurd ((nI_ltI (by omega) (by omega)).mpr (by omega)) h9)
        refine zJ_iload dX9_one_213 rfl ?_
        refine zJ_if_ne (tgt := 224) dX9_one_215 (by decide) (fun h9 => False.elim (by revert h9; decide)) (fun _ => ?_)
        refine zJ_iload dX9_one_218 rfl ?_
        refine zJ_i2l dX9_one_220 ?_
        rw [nI_l (by omega)]
        refine zJ_goto (tgt := 226) dX9_one_221 (by decide) ?_
        exact zJ_lret dX9_one_226 rfl (by decide) (by decide) hQ9
      · refine zJ_iload dX9_one_129 rfl ?_
        refine zJ_iload_n dX9_one_131 rfl ?_
        refine zJ_iload_n dX9_one_132 rfl ?_
        refine zJ_idiv dX9_one_133 hsn ?_
        rw [hdv]
        refine zJ_icmp_gt (tgt := 213) dX9_one_134 (by decide) (fun h134 => ?_) (fun h9 => absurd ((nI_ltI (by omega) (by omega)).mpr (by omega)) h9)
        refine zJ_iload dX9_one_213 rfl ?_
        refine zJ_if_ne (tgt := 224) dX9_one_215 (by decide) (fun _ => ?_) (fun h9 => False.elim (by revert h9; decide))
        refine zJ_lload dX9_one_224 rfl ?_
        exact zJ_lret dX9_one_226 rfl (by decide) (by decide) hQ9
  · have hi9 : i ≤ mm := by omega
    have his : i * s ≤ to := Nat.le_trans (Nat.mul_le_mul_right s hi9) hms
    have hA1 : zMa (zsi g 149 p (nI (i * s))) (zTon U p (i * s)) := hKg.1.on
    have f1 : zFM [49] g (zsi g 149 p (nI (i * s))) := zFM.i (Or.inr (by decide))
    have M1 : zMs (zsi g 149 p (nI (i * s))) := hA1.1
    have h38 : (zsi g 149 p (nI (i * s))).2.1 100 38 = nI K.length := (f1.at (by decide)).trans hKg.2.1.2.1
    have hK1 : zMK (zsi g 149 p (nI (i * s))) (zTon U p (i * s)) K := by
      obtain ⟨a1, a2, a3, a4⟩ := hKg
      refine ⟨hA1, a2.fm f1 (by decide), by rw [(zLk.on U p (i * s)).all, ← (zLk.on U p v).all]; exact a3, fun x k hx y hy => ?_⟩
      have h9 := a4 x k hx y hy
      unfold zNx at *
      rw [zsi_o (by decide)]
      exact h9
    have hTi := hTv (i * s) (by omega)
    have hgi := hgr (i * s) (by omega)
    have kk : ∀ c, zFM [50, 51, 52] (zsi g 149 p (nI (i * s))) c → zMK c (zTon U p (i * s)) K → zUm c (zTon U p (i * s)) K 0 → zJ Δ mX9_one (zRm 5 0 0) true g.1 QR (fun _ _ => False) 0 0 172 [(9, .int (nI 0 - 1)), (8, .int (nI i)), (7, .int i7), (5, .long l5), (0, .ref 100), (1, .int (nI p)), (2, .int (nI to)), (3, .int (nI s)), (4, .int (nI wq))] [] c := by
      intro c fc hKc hUc
      have Mc : zMs c := hKc.1.1
      have c0 : c.2.1 100 0 = 0 := (fc.at (by decide)).trans ((f1.at (by decide)).trans g0)
      have fec : zFM zScr e c := (fg.tr (f1.mono (by decide))).tr (fc.mono (by decide))
      have hgp : c.2.2.1 150 p = lZ (zgn U p (i * s)) := by
        have := (hUc 0 _ (Nat.le_refl _) (zall_0 hKc.2.2.1)).2.1 p hp
        rwa [Nat.zero_mul, Nat.zero_add] at this
      rw [show g.1 = e.1 from fg.1]
      have nx := fun i7 l5 h => ih (i + 1) (by omega) (by omega) c (i * s) (by omega) fec c0 hKc i7 l5 (Or.inr h)
      rw [show i + 1 - 1 = i from rfl] at nx
      rcases hst with ⟨h9, rfl⟩ | ⟨hip, rfl, rfl⟩
      · have hbx : zbx (fun k => zgn U p (k * s)) i = i := by rw [h9]; rfl
        refine zJ_iload dX9_one_172 rfl ?_
        refine zJ_iconst (v := (-1)) dX9_one_174 (by decide) ?_
        refine zJ_icmp_eq (tgt := 193) dX9_one_175 (by decide) (fun _ => ?_) (fun h9 => False.elim (by revert h9; decide))
        refine zJ_iload dX9_one_193 rfl ?_
        refine zJ_iload_n dX9_one_195 rfl ?_
        refine zJ_imul dX9_one_196 ?_
        rw [na_mul]
        refine zJ_istore (ls2 := fun x197 => [(7, .int x197), (9, .int (nI 0 - 1)), (8, .int (nI i)), (5, .long l5), (0, .ref 100), (1, .int (nI p)), (2, .int (nI to)), (3, .int (nI s)), (4, .int (nI wq))]) dX9_one_197 (by decide) (fun _ => rfl) (fun x197 ex197 => ?_)
        refine zJ_aload_n dX9_one_199 rfl ?_
        refine zJ_getr (j := 150) dX9_one_200 fX9_76 (by first | rfl | assumption | exact Mc.at (by decide) (by decide)) rfl (by first | rfl | assumption | exact Mc.rf (by decide) rfl) ?_
        refine zJ_iload_n dX9_one_203 rfl ?_
        refine zJ_laldN (i := p) (v := (lZ (zgn U p (i * s)))) dX9_one_204 (by first | rfl | assumption | exact Mc.at (by decide) (by decide)) rfl (by omega) (by decide) hgp ?_
        refine zJ_lstore (ls2 := fun x205 => [(5, .long x205), (7, .int x197), (9, .int (nI 0 - 1)), (8, .int (nI i)), (0, .ref 100), (1, .int (nI p)), (2, .int (nI to)), (3, .int (nI s)), (4, .int (nI wq))]) dX9_one_205 (by decide) (fun _ => rfl) (fun x205 ex205 => ?_)
        refine zJ_iinc (ls2 := fun x207 => [(8, .int x207), (5, .long x205), (7, .int x197), (9, .int (nI 0 - 1)), (0, .ref 100), (1, .int (nI p)), (2, .int (nI to)), (3, .int (nI s)), (4, .int (nI wq))]) dX9_one_207 rfl (by decide) (fun _ => rfl) (fun x207 ex207 => ?_)
        refine zJ_goto (tgt := 129) dX9_one_210 (by decide) ?_
        refine zJ_ls [(8, .int x207), (7, .int x197), (5, .long x205), (0, .ref 100), (1, .int (nI p)), (2, .int (nI to)), (3, .int (nI s)), (4, .int (nI wq))] (by simp) ?_
        rw [ex207, ex205, ex197, show nI i + Int32.ofInt 1 = nI (i + 1) from nI_1 _]
        exact nx _ _ ⟨by omega, by rw [hbx], by rw [hbx]⟩
      · have hb := zbx_le (fun k => zgn U p (k * s)) (i - 1)
        have hbm : zbx (fun k => zgn U p (k * s)) (i - 1) * s ≤ to := Nat.le_trans (Nat.mul_le_mul_right s (show zbx (fun k => zgn U p (k * s)) (i - 1) ≤ mm by omega)) hms
        have hgb := hgr _ (Nat.le_trans hbm hto)
        have hbs : zbx (fun k => zgn U p (k * s)) i = if zgn U p (zbx (fun k => zgn U p (k * s)) (i - 1) * s) < zgn U p (i * s) then i else zbx (fun k => zgn U p (k * s)) (i - 1) := by
          obtain ⟨i2, rfl⟩ : ∃ i2, i = i2 + 1 := ⟨i - 1, by omega⟩
          rfl
        by_cases hlt : zgn U p (zbx (fun k => zgn U p (k * s)) (i - 1) * s) < zgn U p (i * s)
        · have hbx : zbx (fun k => zgn U p (k * s)) i = i := by rw [hbs, if_pos hlt]
          refine zJ_iload dX9_one_172 rfl ?_
          refine zJ_iconst (v := (-1)) dX9_one_174 (by decide) ?_
          refine zJ_icmp_eq (tgt := 193) dX9_one_175 (by decide) (fun h9 => absurd h9 (nI_m1 (by omega))) (fun h175 => ?_)
          refine zJ_aload_n dX9_one_178 rfl ?_
          refine zJ_getr (j := 150) dX9_one_179 fX9_76 (by first | rfl | assumption | exact Mc.at (by decide) (by decide)) rfl (by first | rfl | assumption | exact Mc.rf (by decide) rfl) ?_
          refine zJ_iload_n dX9_one_182 rfl ?_
          refine zJ_laldN (i := p) (v := (lZ (zgn U p (i * s)))) dX9_one_183 (by first | rfl | assumption | exact Mc.at (by decide) (by decide)) rfl (by omega) (by decide) hgp ?_
          refine zJ_lload dX9_one_184 rfl ?_
          refine zJ_lc_gt (tgt := 193) dX9_one_186 dX9_one_187 (by decide) (fun h187 => ?_) (fun h9 => absurd ((lZ_lt (by omega) (by omega) (by omega) (by omega)).mpr hlt) h9)
          refine zJ_iload dX9_one_193 rfl ?_
          refine zJ_iload_n dX9_one_195 rfl ?_
          refine zJ_imul dX9_one_196 ?_
          rw [na_mul]
          refine zJ_istore (ls2 := fun x197 => [(7, .int x197), (9, .int (nI 0 - 1)), (8, .int (nI i)), (5, .long (lZ (zgn U p (zbx (fun k => zgn U p (k * s)) (i - 1) * s)))), (0, .ref 100), (1, .int (nI p)), (2, .int (nI to)), (3, .int (nI s)), (4, .int (nI wq))]) dX9_one_197 (by decide) (fun _ => rfl) (fun x197 ex197 => ?_)
          refine zJ_aload_n dX9_one_199 rfl ?_
          refine zJ_getr (j := 150) dX9_one_200 fX9_76 (by first | rfl | assumption | exact Mc.at (by decide) (by decide)) rfl (by first | rfl | assumption | exact Mc.rf (by decide) rfl) ?_
          refine zJ_iload_n dX9_one_203 rfl ?_
          refine zJ_laldN (i := p) (v := (lZ (zgn U p (i * s)))) dX9_one_204 (by first | rfl | assumption | exact Mc.at (by decide) (by decide)) rfl (by omega) (by decide) hgp ?_
          refine zJ_lstore (ls2 := fun x205 => [(5, .long x205), (7, .int x197), (9, .int (nI 0 - 1)), (8, .int (nI i)), (0, .ref 100), (1, .int (nI p)), (2, .int (nI to)), (3, .int (nI s)), (4, .int (nI wq))]) dX9_one_205 (by decide) (fun _ => rfl) (fun x205 ex205 => ?_)
          refine zJ_iinc (ls2 := fun x207 => [(8, .int x207), (5, .long x205), (7, .int x197), (9, .int (nI 0 - 1)), (0, .ref 100), (1, .int (nI p)), (2, .int (nI to)), (3, .int (nI s)), (4, .int (nI wq))]) dX9_one_207 rfl (by decide) (fun _ => rfl) (fun x207 ex207 => ?_)
          refine zJ_goto (tgt := 129) dX9_one_210 (by decide) ?_
          refine zJ_ls [(8, .int x207), (7, .int x197), (5, .long x205), (0, .ref 100), (1, .int (nI p)), (2, .int (nI to)), (3, .int (nI s)), (4, .int (nI wq))] (by simp) ?_
          rw [ex207, ex205, ex197, show nI i + Int32.ofInt 1 = nI (i + 1) from nI_1 _]
          exact nx _ _ ⟨by omega, by rw [hbx], by rw [hbx]⟩
        · have hbx : zbx (fun k => zgn U p (k * s)) i = zbx (fun k => zgn U p (k * s)) (i - 1) := by rw [hbs, if_neg hlt]
          refine zJ_iload dX9_one_172 rfl ?_
          refine zJ_iconst (v := (-1)) dX9_one_174 (by decide) ?_
          refine zJ_icmp_eq (tgt := 193) dX9_one_175 (by decide) (fun h9 => absurd h9 (nI_m1 (by omega))) (fun h175 => ?_)
          refine zJ_aload_n dX9_one_178 rfl ?_
          refine zJ_getr (j := 150) dX9_one_179 fX9_76 (by first | rfl | assumption | exact Mc.at (by decide) (by decide)) rfl (by first | rfl | assumption | exact Mc.rf (by decide) rfl) ?_
          refine zJ_iload_n dX9_one_182 rfl ?_
          refine zJ_laldN (i := p) (v := (lZ (zgn U p (i * s)))) dX9_one_183 (by first | rfl | assumption | exact Mc.at (by decide) (by decide)) rfl (by omega) (by decide) hgp ?_
          refine zJ_lload dX9_one_184 rfl ?_
          refine zJ_lc_gt (tgt := 193) dX9_one_186 dX9_one_187 (by decide) (fun h9 => absurd h9 (fun h => hlt ((lZ_lt (by omega) (by omega) (by omega) (by omega)).mp h))) (fun h187 => ?_)
          refine zJ_goto (tgt := 207) dX9_one_190 (by decide) ?_
          refine zJ_iinc (ls2 := fun x207 => [(8, .int x207), (9, .int (nI 0 - 1)), (7, .int (nI (zbx (fun k => zgn U p (k * s)) (i - 1) * s))), (5, .long (lZ (zgn U p (zbx (fun k => zgn U p (k * s)) (i - 1) * s)))), (0, .ref 100), (1, .int (nI p)), (2, .int (nI to)), (3, .int (nI s)), (4, .int (nI wq))]) dX9_one_207 rfl (by decide) (fun _ => rfl) (fun x207 ex207 => ?_)
          refine zJ_goto (tgt := 129) dX9_one_210 (by decide) ?_
          refine zJ_ls [(8, .int x207), (7, .int (nI (zbx (fun k => zgn U p (k * s)) (i - 1) * s))), (5, .long (lZ (zgn U p (zbx (fun k => zgn U p (k * s)) (i - 1) * s)))), (0, .ref 100), (1, .int (nI p)), (2, .int (nI to)), (3, .int (nI s)), (4, .int (nI wq))] (by simp) ?_
          rw [ex207, show nI i + Int32.ofInt 1 = nI (i + 1) from nI_1 _]
          exact nx _ _ ⟨by omega, by rw [hbx], by rw [hbx]⟩
    have hlo := zMo_onR Δ (zsi g 149 p (nI (i * s))) (zTon U p (i * s)) K hTi (nI i) i7 l5 (nI p) (nI to) (nI s) (nI wq) (QR := QR) kk K.length (Nat.le_refl _) _ (zFM.rf _) hK1 (zUm.top (Nat.le_refl _))
    rw [show (zsi g 149 p (nI (i * s))).1 = e.1 from fg.1] at hlo
    refine zJ_iload dX9_one_129 rfl ?_
    refine zJ_iload_n dX9_one_131 rfl ?_
    refine zJ_iload_n dX9_one_132 rfl ?_
    refine zJ_idiv dX9_one_133 hsn ?_
    rw [hdv]
    refine zJ_icmp_gt (tgt := 213) dX9_one_134 (by decide) (fun h9 => absurd h9 (fun h => absurd ((nI_ltI (by omega) (by omega)).mp h) (by omega))) (fun h134 => ?_)
    refine zJ_aload_n dX9_one_137 rfl ?_
    refine zJ_getr (j := 149) dX9_one_138 fX9_73 (by first | rfl | assumption | exact Mg.at (by decide) (by decide)) rfl (by first | rfl | assumption | exact Mg.rf (by decide) rfl) ?_
    refine zJ_iload_n dX9_one_141 rfl ?_
    refine zJ_iload dX9_one_142 rfl ?_
    refine zJ_iload_n dX9_one_144 rfl ?_
    refine zJ_imul dX9_one_145 ?_
    rw [na_mul]
    refine zJ_iastN (i := p) dX9_one_146 (by first | rfl | assumption | exact Mg.at (by decide) (by decide)) rfl (by omega) (by decide) ?_
    refine zJ_aload_n dX9_one_147 rfl ?_
    refine zJ_getiN dX9_one_148 fX9_354 (by first | rfl | assumption | exact M1.at (by decide) (by decide)) rfl h38 ?_
    refine zJ_iconst (v := 1) dX9_one_151 (by decide) ?_
    refine zJ_isub dX9_one_152 ?_
    refine zJ_istore (ls2 := fun x153 => [(9, .int x153), (8, .int (nI i)), (7, .int i7), (5, .long l5), (0, .ref 100), (1, .int (nI p)), (2, .int (nI to)), (3, .int (nI s)), (4, .int (nI wq))]) dX9_one_153 (by decide) (fun _ => rfl) (fun x153 ex153 => ?_)
    refine zJ_ls [(9, .int x153), (8, .int (nI i)), (7, .int i7), (5, .long l5), (0, .ref 100), (1, .int (nI p)), (2, .int (nI to)), (3, .int (nI s)), (4, .int (nI wq))] (by simp) ?_
    rw [ex153]
    exact hlo
