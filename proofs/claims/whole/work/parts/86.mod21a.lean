/-! the model: two -/
def zTw2 (U : zTo) (q k : Nat) : zTo := zTs (zTs U 12 q) 13 (2 ^ k)
/-- how often both come to their end, the first k left out in turn -/
def ztw (U : zTo) (en : Nat → Nat) (q : Nat) : Nat → Nat
  | 0 => 0
  | k + 1 => if 0 < en k ∧ ¬ k = q then ztw U en q k + en k * (zvl (zTw2 U q k) (zfk (zTw2 U q k))).1 / 1000000000 else ztw U en q k
theorem zTok.w2 {U : zTo} (h : zTok U) {q k : Nat} (hq : q < U.1 0) (hk : k < 8) : zTok (zTw2 U q k) := by
  have h2 : 2 ^ k < 256 := Nat.lt_of_le_of_lt (Nat.pow_le_pow_right (by decide) (show k ≤ 7 by omega)) (by decide)
  exact (h.s (by omega)).s (by omega)
theorem ztw_le {U : zTo} (h : zTok U) {en : Nat → Nat} {q : Nat} (hq : q < U.1 0) (he : ∀ k, k < U.1 0 → en k ≤ 1000000000) : ∀ j, j ≤ U.1 0 → ztw U en q j ≤ j * 1000000000
  | 0, _ => Nat.zero_le _
  | j + 1, hj => by
    have ih := ztw_le h hq he j (by omega)
    have h8 := h.1
    simp only [ztw]
    split
    · have h1 := he j (by omega)
      have h2 := (zvl_rng (h.w2 hq (show j < 8 by omega)) (zkok.fk (h.w2 hq (show j < 8 by omega)))).1
      have h3 := Nat.mul_le_mul h1 h2
      omega
    · exact Nat.le_trans ih (Nat.mul_le_mul_right _ (Nat.le_succ j))
theorem zMa.l13 {g : zW} {U : zTo} {t t' q : Nat} (h : zMa g (zTs U 13 t)) : zMa (zsi g 100 47 (nI t')) (zTs (zTs U 12 q) 13 t') := by
  obtain ⟨h0, h1, h2, h3, h4, h5, h6, h7, h8, h9, h10, h11, h12⟩ := h
  refine ⟨h0, ?_, ?_, ?_, ?_, ?_, ?_, ?_, ?_, ?_, fun p hp => ?_, fun p hp => ?_, fun p q hp hq => ?_⟩
  · simpa [zsi, zTs] using h1
  · simpa [zsi, zTs] using h2
  · simpa [zsi, zTs] using h3
  · simpa [zsi, zTs] using h4
  · simpa [zsi, zTs] using h5
  · simpa [zsi, zTs] using h6
  · simpa [zsi, zTs] using h7
  · simpa [zsi, zTs] using h8
  · simp [zsi, zTs]
  · simpa [zsi, zTs] using h10 p (by simpa [zTs] using hp)
  · simpa [zsi, zTs] using h11 p (by simpa [zTs] using hp)
  · simpa [zsi, zTs] using h12 p q (by simpa [zTs] using hp) (by simpa [zTs] using hq)
set_option maxRecDepth 100000 in
theorem zMo_twT (Δ : zD) (e : zW) (U : zTo) (hU0 : zTok U) (hA : zMa e U) (en : Nat → Nat) (hE : ∀ k, k < U.1 0 → e.2.2.1 154 (k * 12 + (U.1 7 - 1)) = lN (en k) ∧ en k ≤ 1000000000) (q : Nat) (hq : q < U.1 0) (v1 : Int32) (e0 : e.2.1 100 0 = 0) {QR : Option Value → zW → Prop} (hQ1 : ∀ c k r, zFM zScr e c → k < U.1 0 → 0 < en k → ¬ k = q → ¬ zfit (zTw2 U q k) 20000 → c.2.1 100 0 = 2 → QR r c) (hQ2 : ∀ c, zFM zScr e c → (∀ k, k < U.1 0 → 0 < en k → ¬ k = q → zfit (zTw2 U q k) 20000) → c.2.1 100 0 = 0 → QR (some (.int (lN (ztw U en q (U.1 0))).toInt32)) c) : zJ Δ mX9_two (zRm 5 0 0) true e.1 QR (fun _ _ => False) 0 0 46 [(0, .ref 100), (1, .int v1), (2, .int (nI q))] [] e := by
  have hM := hA.1
  have hp8 := hU0.1
  have h7 := hU0.2.2.2.1
  have a1 : e.2.1 100 1 = nI (U.1 0) := hA.2.1
  have a5 : e.2.1 100 5 = nI (U.1 7) := hA.2.2.2.2.1
  have hpos : 0 < U.1 0 := by omega
  have L2 : ∀ j, j ≤ U.1 0 → ∀ g t, zFM zScr e g → zMa g (zTs U 13 t) → g.2.1 100 0 = 0 → (∀ k, k < U.1 0 → g.2.2.1 170 k = lN (en k)) → (∀ k, k < j → 0 < en k → ¬ k = q → zfit (zTw2 U q k) 20000) → zJ Δ mX9_two (zRm 5 0 0) true e.1 QR (fun _ _ => False) 0 0 89 [(5, .int (nI j)), (3, .long (lN (ztw U en q j))), (0, .ref 100), (1, .int v1), (2, .int (nI q))] [] g := by
    refine zup (fun j hj ih => ?_)
    intro g t fg hAg g0 h170 hft
    have Mg : zMs g := hAg.1
    have g1 : g.2.1 100 1 = nI (U.1 0) := hAg.2.1
    by_cases hj0 : j = U.1 0
    · refine zJ_iload dX9_two_89 rfl ?_
      refine zJ_aload_n dX9_two_91 rfl ?_
      refine zJ_getiN dX9_two_92 fX9_298 (by first | rfl | assumption | exact Mg.at (by decide) (by decide)) rfl g1 ?_
      refine zJ_icmp_ge (tgt := 169) dX9_two_95 (by decide) (fun h95 => ?_) (fun h9 => absurd ((nI_leI (by omega) (by omega)).mpr (by omega)) h9)
      refine zJ_lload_n dX9_two_169 rfl ?_
      refine zJ_l2i dX9_two_170 ?_
      exact zJ_iret dX9_two_171 rfl (by decide) (by decide) (by rw [hj0]; rw [hj0] at hft; exact hQ2 g fg hft g0)
    · have hj9 : j < U.1 0 := by omega
      have htl := ztw_le hU0 hq (fun k hk => (hE k hk).2) j hj
      have hej := (hE j hj9).2
      have hsk : ¬ (0 < en j ∧ ¬ j = q) → zJ Δ mX9_two (zRm 5 0 0) true e.1 QR (fun _ _ => False) 0 0 89 [(5, .int (nI (j + 1))), (3, .long (lN (ztw U en q j))), (0, .ref 100), (1, .int v1), (2, .int (nI q))] [] g := fun h => by
        have h9 : ztw U en q (j + 1) = ztw U en q j := by simp only [ztw]; rw [if_neg h]
        have := ih (j + 1) (by omega) (by omega) g t fg hAg g0 h170 (fun k hk h1 h2 => by
          by_cases hkj : k = j
          · subst hkj; exact absurd ⟨h1, h2⟩ h
          · exact hft k (by omega) h1 h2)
        rw [h9] at this
        exact this
      by_cases he0 : en j = 0
      · refine zJ_iload dX9_two_89 rfl ?_
        refine zJ_aload_n dX9_two_91 rfl ?_
        refine zJ_getiN dX9_two_92 fX9_298 (by first | rfl | assumption | exact Mg.at (by decide) (by decide)) rfl g1 ?_
        refine zJ_icmp_ge (tgt := 169) dX9_two_95 (by decide) (fun h9 => absurd h9 (fun h => absurd ((nI_leI (by omega) (by omega)).mp h) (by omega))) (fun h95 => ?_)
        refine zJ_aload_n dX9_two_98 rfl ?_
        refine zJ_getr (j := 170) dX9_two_99 fX9_125 (by first | rfl | assumption | exact Mg.at (by decide) (by decide)) rfl (by first | rfl | assumption | exact Mg.rf (by decide) rfl) ?_
        refine zJ_iload dX9_two_102 rfl ?_
        refine zJ_laldN (i := j) (v := (lN (en j))) dX9_two_104 (by first | rfl | assumption | exact Mg.at (by decide) (by decide)) rfl (by omega) (by decide) (h170 j hj9) ?_
        refine zJ_lconst (v := 0) dX9_two_105 (by decide) ?_
        refine zJ_lc_eq (tgt := 163) dX9_two_106 dX9_two_107 (by decide) (fun h107 => ?_) (fun h9 => absurd (by rw [he0]; rfl) h9)
        refine zJ_iinc (ls2 := fun x163 => [(5, .int x163), (3, .long (lN (ztw U en q j))), (0, .ref 100), (1, .int v1), (2, .int (nI q))]) dX9_two_163 rfl (by decide) (fun _ => rfl) (fun x163 ex163 => ?_)
        refine zJ_goto (tgt := 89) dX9_two_166 (by decide) ?_
        refine zJ_ls [(5, .int x163), (3, .long (lN (ztw U en q j))), (0, .ref 100), (1, .int v1), (2, .int (nI q))] (by simp) ?_
        rw [ex163, show nI j + Int32.ofInt 1 = nI (j + 1) from nI_1 _]
        exact hsk (fun h => by omega)
      · have hn0 : ¬ lN (en j) = 0 := fun h => he0 ((fb_lN_inj (b := 0) (by omega) (by decide)).mp h)
        by_cases hjq : j = q
        · refine zJ_iload dX9_two_89 rfl ?_
          refine zJ_aload_n dX9_two_91 rfl ?_
          refine zJ_getiN dX9_two_92 fX9_298 (by first | rfl | assumption | exact Mg.at (by decide) (by decide)) rfl g1 ?_
          refine zJ_icmp_ge (tgt := 169) dX9_two_95 (by decide) (fun h9 => absurd h9 (fun h => absurd ((nI_leI (by omega) (by omega)).mp h) (by omega))) (fun h95 => ?_)
          refine zJ_aload_n dX9_two_98 rfl ?_
          refine zJ_getr (j := 170) dX9_two_99 fX9_125 (by first | rfl | assumption | exact Mg.at (by decide) (by decide)) rfl (by first | rfl | assumption | exact Mg.rf (by decide) rfl) ?_
          refine zJ_iload dX9_two_102 rfl ?_
          refine zJ_laldN (i := j) (v := (lN (en j))) dX9_two_104 (by first | rfl | assumption | exact Mg.at (by decide) (by decide)) rfl (by omega) (by decide) (h170 j hj9) ?_
          refine zJ_lconst (v := 0) dX9_two_105 (by decide) ?_
          refine zJ_lc_eq (tgt := 163) dX9_two_106 dX9_two_107 (by decide) (fun h9 => absurd h9 hn0) (fun h107 => ?_)
          refine zJ_iload dX9_two_110 rfl ?_
          refine zJ_iload_n dX9_two_112 rfl ?_
          refine zJ_icmp_ne (tgt := 119) dX9_two_113 (by decide) (fun h9 => absurd h9 (fun h => h (by rw [hjq]))) (fun h113 => ?_)
          refine zJ_goto (tgt := 163) dX9_two_116 (by decide) ?_
          refine zJ_iinc (ls2 := fun x163 => [(5, .int x163), (3, .long (lN (ztw U en q j))), (0, .ref 100), (1, .int v1), (2, .int (nI q))]) dX9_two_163 rfl (by decide) (fun _ => rfl) (fun x163 ex163 => ?_)
          refine zJ_goto (tgt := 89) dX9_two_166 (by decide) ?_
          refine zJ_ls [(5, .int x163), (3, .long (lN (ztw U en q j))), (0, .ref 100), (1, .int v1), (2, .int (nI q))] (by simp) ?_
          rw [ex163, show nI j + Int32.ofInt 1 = nI (j + 1) from nI_1 _]
          exact hsk (fun h => h.2 hjq)
        · have hT9 := hU0.w2 hq (show j < 8 by omega)
          have hA2 : zMa (zsi g 100 47 (nI (2 ^ j))) (zTw2 U q j) := hAg.l13
          have Mg2 : zMs (zsi g 100 47 (nI (2 ^ j))) := Mg
          have fg2 : zFM [47] g (zsi g 100 47 (nI (2 ^ j))) := zFM.i (by decide)
          refine zJ_iload dX9_two_89 rfl ?_
          refine zJ_aload_n dX9_two_91 rfl ?_
          refine zJ_getiN dX9_two_92 fX9_298 (by first | rfl | assumption | exact Mg.at (by decide) (by decide)) rfl g1 ?_
          refine zJ_icmp_ge (tgt := 169) dX9_two_95 (by decide) (fun h9 => absurd h9 (fun h => absurd ((nI_leI (by omega) (by omega)).mp h) (by omega))) (fun h95 => ?_)
          refine zJ_aload_n dX9_two_98 rfl ?_
          refine zJ_getr (j := 170) dX9_two_99 fX9_125 (by first | rfl | assumption | exact Mg.at (by decide) (by decide)) rfl (by first | rfl | assumption | exact Mg.rf (by decide) rfl) ?_
          refine zJ_iload dX9_two_102 rfl ?_
          refine zJ_laldN (i := j) (v := (lN (en j))) dX9_two_104 (by first | rfl | assumption | exact Mg.at (by decide) (by decide)) rfl (by omega) (by decide) (h170 j hj9) ?_
          refine zJ_lconst (v := 0) dX9_two_105 (by decide) ?_
          refine zJ_lc_eq (tgt := 163) dX9_two_106 dX9_two_107 (by decide) (fun h9 => absurd h9 hn0) (fun h107 => ?_)
          refine zJ_iload dX9_two_110 rfl ?_
          refine zJ_iload_n dX9_two_112 rfl ?_
          refine zJ_icmp_ne (tgt := 119) dX9_two_113 (by decide) (fun h113 => ?_) (fun h9 => absurd h9 (fun h => hjq ((nI_eq (by omega) (by omega)).mp h)))
          refine zJ_aload_n dX9_two_119 rfl ?_
          refine zJ_iconst (v := 1) dX9_two_120 (by decide) ?_
          refine zJ_iload dX9_two_121 rfl ?_
          refine zJ_ishl dX9_two_123 ?_
          rw [na_shl j (by omega)]
          refine zJ_puti dX9_two_124 fX9_345 (fun q h => by cases h; rfl) (by first | rfl | assumption | exact Mg.at (by decide) (by decide)) rfl rfl rfl ?_
          refine zJ_aload_n dX9_two_127 rfl ?_
          refine zJ_aload_n dX9_two_128 rfl ?_
          refine zJ_iload_n dX9_two_129 rfl ?_
          refine zJ_eV1 dX9_two_130 sX9_416 mfX9_asks (c_Mo_asks Δ (zsi g 100 47 (nI (2 ^ j))) (zTw2 U q j) hA2 hT9 hpos) (Mg2.at (by decide) (by decide)) rfl (Nat.le_of_ble_eq_true rfl) (by decide) (by decide) (fun r d hP => ?_)
          obtain ⟨hfd, hP⟩ := hP
          have Md : zMs d := Mg2.fm hfd
          have d0 : d.2.1 100 0 = 0 := (hfd.at (by decide)).trans ((fg2.at (by decide)).trans g0)
          have fd : zFM zScr e d := (fg.tr (fg2.mono (by decide))).tr (hfd.mono (by decide))
          rcases hP with ⟨rfl, K, hKd, hUd⟩ | ⟨rfl, hno⟩
          · refine zJ_iconst (v := 2) dX9_two_133 (by decide) ?_
            refine zJ_cV2 dX9_two_134 sX9_291 mfX9_right (c_Mo_right1 Δ d Md d0 2) (by first | rfl | assumption | exact Md.at (by decide) (by decide)) rfl (Nat.le_of_ble_eq_true rfl) (by decide) (by decide) ?_
            refine zJ_if_ne (tgt := 142) dX9_two_137 (by decide) (fun _ => ?_) (fun h9 => False.elim (by revert h9; decide))
            have hd170 : ∀ k, k < U.1 0 → d.2.2.1 170 k = lN (en k) := fun k hk => by
              rw [show (170 : Nat) = 100 + 70 from rfl, hfd.al (by decide) (by decide), fg2.al (by decide) (by decide)]
              exact h170 k hk
            have hvr := (zvl_rng hT9 (zkok.fk hT9)).1
            have hmu := Nat.mul_le_mul hej hvr
            have hstep : ztw U en q (j + 1) = ztw U en q j + en j * (zvl (zTw2 U q j) (zfk (zTw2 U q j))).1 / 1000000000 := by
              simp only [ztw]; rw [if_pos ⟨by omega, hjq⟩]
            refine zJ_lload_n dX9_two_142 rfl ?_
            refine zJ_aload_n dX9_two_143 rfl ?_
            refine zJ_getr (j := 170) dX9_two_144 fX9_125 (by first | rfl | assumption | exact Md.at (by decide) (by decide)) rfl (by first | rfl | assumption | exact Md.rf (by decide) rfl) ?_
            refine zJ_iload dX9_two_147 rfl ?_
            refine zJ_laldN (i := j) (v := (lN (en j))) dX9_two_149 (by first | rfl | assumption | exact Md.at (by decide) (by decide)) rfl (by omega) (by decide) (hd170 j hj9) ?_
            refine zJ_aload_n dX9_two_150 rfl ?_
            refine zJ_getr (j := 151) dX9_two_151 fX9_80 (by first | rfl | assumption | exact Md.at (by decide) (by decide)) rfl (by first | rfl | assumption | exact Md.rf (by decide) rfl) ?_
            refine zJ_iconst (v := 0) dX9_two_154 (by decide) ?_
            refine zJ_laldN (i := 0) (v := (lN (zvl (zTw2 U q j) (zfk (zTw2 U q j))).1)) dX9_two_155 (by first | rfl | assumption | exact Md.at (by decide) (by decide)) rfl (by omega) (by decide) (hUd 0 _ (Nat.le_refl _) (zall_0 hKd.2.2.1)).1 ?_
            refine zJ_lmul dX9_two_156 ?_
            rw [lN_mul]
            refine zJ_ldc2 dX9_two_157 kX9_372 ?_
            refine zJ_ldiv dX9_two_160 (by decide) ?_
            rw [show (1000000000 : Int64) = lN 1000000000 from rfl, lN_div (by omega) (by decide)]
            refine zJ_ladd dX9_two_161 ?_
            rw [lN_add]
            refine zJ_lstore_n (ls2 := fun x162g => [(3, .long x162g), (5, .int (nI j)), (0, .ref 100), (1, .int v1), (2, .int (nI q))]) dX9_two_162 (by decide) (fun _ => rfl) (fun x162g ex162g => ?_)
            obtain rfl : x162g = (lN (ztw U en q (j + 1))) := (by rw [ex162g, hstep])
            refine zJ_iinc (ls2 := fun x163g => [(5, .int x163g), (3, .long (lN (ztw U en q (j + 1)))), (0, .ref 100), (1, .int v1), (2, .int (nI q))]) dX9_two_163 rfl (by decide) (fun _ => rfl) (fun x163g ex163g => ?_)
            refine zJ_goto (tgt := 89) dX9_two_166 (by decide) ?_
            refine zJ_ls [(5, .int x163g), (3, .long (lN (ztw U en q (j + 1)))), (0, .ref 100), (1, .int v1), (2, .int (nI q))] (by simp) ?_
            rw [ex163g, show nI j + Int32.ofInt 1 = nI (j + 1) from nI_1 _]
            exact ih (j + 1) (by omega) (by omega) d (2 ^ j) fd hKd.1 d0 hd170 (fun k hk h1 h2 => by
              by_cases hkj : k = j
              · subst hkj; exact ⟨K, hKd.2.2.1, hKd.2.1.2.2.1⟩
              · exact hft k (by omega) h1 h2)
          · refine zJ_iconst (v := 2) dX9_two_133 (by decide) ?_
            refine zJ_cV2 dX9_two_134 sX9_291 mfX9_right (c_Mo_right0 Δ d Md d0 2 (by decide)) (by first | rfl | assumption | exact Md.at (by decide) (by decide)) rfl (Nat.le_of_ble_eq_true rfl) (by decide) (by decide) ?_
            refine zJ_if_ne (tgt := 142) dX9_two_137 (by decide) (fun h9 => False.elim (by revert h9; decide)) (fun _ => ?_)
            refine zJ_iconst (v := 0) dX9_two_140 (by decide) ?_
            exact zJ_iret dX9_two_141 rfl (by decide) (by decide) (hQ1 _ j _ (fd.tr zFM.t0) hj9 (by omega) hjq hno (by simp [zsi]))
  have L : ∀ j, j ≤ U.1 0 → zJ Δ mX9_two (zRm 5 0 0) true e.1 QR (fun _ _ => False) 0 0 48 [(3, .int (nI j)), (0, .ref 100), (1, .int v1), (2, .int (nI q))] [] (zrol e 170 (fun i => if i < j then lN (en i) else e.2.2.1 170 i)) := by
    refine zup (fun j hj ih => ?_)
    have Mr : zMs (zrol e 170 (fun i => if i < j then lN (en i) else e.2.2.1 170 i)) := hM
    have r1 : (zrol e 170 (fun i => if i < j then lN (en i) else e.2.2.1 170 i)).2.1 100 1 = nI (U.1 0) := a1
    have r5 : (zrol e 170 (fun i => if i < j then lN (en i) else e.2.2.1 170 i)).2.1 100 5 = nI (U.1 7) := a5
    by_cases hj0 : j = U.1 0
    · refine zJ_iload_n dX9_two_48 rfl ?_
      refine zJ_aload_n dX9_two_49 rfl ?_
      refine zJ_getiN dX9_two_50 fX9_298 (by first | rfl | assumption | exact Mr.at (by decide) (by decide)) rfl r1 ?_
      refine zJ_icmp_ge (tgt := 84) dX9_two_53 (by decide) (fun h53 => ?_) (fun h9 => absurd ((nI_leI (by omega) (by omega)).mpr (by omega)) h9)
      refine zJ_lconst (v := 0) dX9_two_84 (by decide) ?_
      refine zJ_lstore_n (ls2 := fun x85 => [(3, .long x85), (0, .ref 100), (1, .int v1), (2, .int (nI q))]) dX9_two_85 (by decide) (fun _ => rfl) (fun x85 ex85 => ?_)
      refine zJ_iconst (v := 0) dX9_two_86 (by decide) ?_
      refine zJ_istore (ls2 := fun x87 => [(5, .int x87), (3, .long x85), (0, .ref 100), (1, .int v1), (2, .int (nI q))]) dX9_two_87 (by decide) (fun _ => rfl) (fun x87 ex87 => ?_)
      refine zJ_ls [(5, .int x87), (3, .long x85), (0, .ref 100), (1, .int v1), (2, .int (nI q))] (by simp) ?_
      rw [ex87, ex85]
      have fr : zFM zScr e (zrol e 170 (fun i => if i < j then lN (en i) else e.2.2.1 170 i)) := zFM.rol (by decide)
      have hA9 : zMa (zrol e 170 (fun i => if i < j then lN (en i) else e.2.2.1 170 i)) (zTs U 13 (U.1 13)) := hA.fm (l := [70]) (zFM.rol (by decide)) (by decide)
      exact L2 0 (Nat.zero_le _) _ (U.1 13) fr hA9 e0 (fun k hk => by rw [zrol_get, if_pos (by omega)]) (fun k hk => absurd hk (Nat.not_lt_zero k))
    · have hj9 : j < U.1 0 := by omega
      have hnx := ih (j + 1) (by omega) (by omega)
      refine zJ_iload_n dX9_two_48 rfl ?_
      refine zJ_aload_n dX9_two_49 rfl ?_
      refine zJ_getiN dX9_two_50 fX9_298 (by first | rfl | assumption | exact Mr.at (by decide) (by decide)) rfl r1 ?_
      refine zJ_icmp_ge (tgt := 84) dX9_two_53 (by decide) (fun h9 => absurd h9 (fun h => absurd ((nI_leI (by omega) (by omega)).mp h) (by omega))) (fun h53 => ?_)
      refine zJ_aload_n dX9_two_56 rfl ?_
      refine zJ_getr (j := 170) dX9_two_57 fX9_125 (by first | rfl | assumption | exact Mr.at (by decide) (by decide)) rfl (by first | rfl | assumption | exact Mr.rf (by decide) rfl) ?_
      refine zJ_iload_n dX9_two_60 rfl ?_
      refine zJ_aload_n dX9_two_61 rfl ?_
      refine zJ_getr (j := 154) dX9_two_62 fX9_89 (by first | rfl | assumption | exact Mr.at (by decide) (by decide)) rfl (by first | rfl | assumption | exact Mr.rf (by decide) rfl) ?_
      refine zJ_bipush (v := 12) dX9_two_65 (by decide) ?_
      refine zJ_iload_n dX9_two_67 rfl ?_
      refine zJ_imul dX9_two_68 ?_
      refine zJ_aload_n dX9_two_69 rfl ?_
      refine zJ_getiN dX9_two_70 fX9_16 (by first | rfl | assumption | exact Mr.at (by decide) (by decide)) rfl r5 ?_
      refine zJ_iadd dX9_two_73 ?_
      refine zJ_iconst (v := 1) dX9_two_74 (by decide) ?_
      refine zJ_isub dX9_two_75 ?_
      refine zJ_laldN (i := (j * 12 + (U.1 7 - 1))) (v := (lN (en j))) dX9_two_76 (by first | rfl | assumption | exact Mr.at (by decide) (by decide)) (na_12 _ _ h7.1) (by omega) (by decide) (hE j hj9).1 ?_
      refine zJ_lastN (i := j) dX9_two_77 (by first | rfl | assumption | exact Mr.at (by decide) (by decide)) rfl (by omega) (by decide) ?_
      refine zJ_iinc (ls2 := fun x78 => [(3, .int x78), (0, .ref 100), (1, .int v1), (2, .int (nI q))]) dX9_two_78 rfl (by decide) (fun _ => rfl) (fun x78 ex78 => ?_)
      refine zJ_goto (tgt := 48) dX9_two_81 (by decide) ?_
      refine zJ_ls [(3, .int x78), (0, .ref 100), (1, .int v1), (2, .int (nI q))] (by simp) ?_
      rw [ex78, show nI j + Int32.ofInt 1 = nI (j + 1) from nI_1 _]
      refine zJ_w ?_ hnx
      rw [zsl_row, zrol_get, zrol_rol]
      refine congrArg (zrol e 170) (funext fun i => ?_)
      by_cases h : i = j
      · subst h
        rw [if_pos rfl, if_pos (by omega)]
      · have c3 : (i < j + 1) = (i < j) := by simp only [eq_iff_iff]; omega
        simp only [h, if_false, c3]
  refine zJ_iconst (v := 0) dX9_two_46 (by decide) ?_
  refine zJ_istore_n (ls2 := fun x47 => [(3, .int x47), (0, .ref 100), (1, .int v1), (2, .int (nI q))]) dX9_two_47 (by decide) (fun _ => rfl) (fun x47 ex47 => ?_)
  refine zJ_ls [(3, .int x47), (0, .ref 100), (1, .int v1), (2, .int (nI q))] (by simp) ?_
  rw [ex47]
  refine zJ_w ?_ (L 0 (Nat.zero_le _))
  refine (zrol_self e 170).symm.trans (congrArg (zrol e 170) (funext fun i => ?_))
  rw [if_neg (Nat.not_lt_zero i)]
