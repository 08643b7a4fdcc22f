/-! the model: credit, its whole -/
theorem zits_ex {f : Nat → Int32} {g : Nat} : ∀ n, zits f g n = true → ∃ p, p < n ∧ ¬ f (g * 8 + p) = -1
  | 0, h => by simp [zits] at h
  | n + 1, h => by
    simp only [zits, Bool.or_eq_true, decide_eq_true_eq] at h
    rcases h with h | h
    · obtain ⟨p, h1, h2⟩ := zits_ex n h
      exact ⟨p, by omega, h2⟩
    · exact ⟨n, Nat.lt_succ_self n, h⟩
theorem zcnt_pos {t : Nat → Bool} : ∀ {n k : Nat}, k < n → t k = true → 0 < zcnt t n
  | n + 1, k, hk, h => by
    simp only [zcnt]
    by_cases hkn : k = n
    · subst hkn; rw [if_pos h]; omega
    · have := zcnt_pos (n := n) (k := k) (by omega) h
      split <;> omega
theorem zcnt_le9 (t : Nat → Bool) : ∀ n, zcnt t n ≤ n
  | 0 => Nat.le_refl _
  | n + 1 => by
    have := zcnt_le9 t n
    simp only [zcnt]; split <;> omega
set_option maxRecDepth 100000 in
theorem zMo_crB (Δ : zD) (e0 : zW) (U : zTo) (hMu : zMu e0 U) (hU : zTok U) (h13 : U.1 13 = 0) (hA : zMa e0 U) (K : List zKy) (hKK : zMK e0 U K) (G : zGt) (hGk : zGok U G) (hGi : zGi (e0.2.1 162) (e0.2.1 163) G) (e : Nat) (fr : Nat → Nat → Nat) (ln : Nat → Nat) (he : e ≤ 20) (h56 : e0.2.1 100 56 = nI e) (hln : ∀ r, r < e → e0.2.1 159 r = nI (ln r) ∧ ln r ≤ 20) (hfr : ∀ r i, r < e → i < ln r → e0.2.1 158 (r * 20 + i) = nI (fr r i) ∧ fr r i < U.1 0) (hf8 : ∀ r i, fr r i < 8) (t : Nat → Bool) (ht : ∀ g, g < 4 → zits (e0.2.1 162) g 8 = t g) (g0 : Nat) (hg0 : g0 < 4) (htg : t g0 = true) {QR : Option Value → zW → Prop} (hQ : ∀ c, zFM [48, 49, 50, 51, 52, 60, 61, 64, 65] e0 c → QR (some (.int (lN (zcr9 t (zog U G fr ln) e g0)).toInt32)) c) : ∀ k, k ≤ 4 → ∀ g, zFM [48, 49, 50, 51, 52, 60, 61, 64, 65] e0 g → (∀ i, i < k → g.2.2.1 164 i = lN (if t i then 1000000 / zcnt t 4 else 0)) → (∀ i r, i < k → t i = true → r < e → g.2.2.1 165 (i * 20 + r) = lN (zog U G fr ln i r)) → zJ Δ mX9_credit (zRm 5 0 0) true e0.1 QR (fun _ _ => False) 0 0 86 [(3, .int (nI k)), (2, .int (nI (zcnt t 4))), (0, .ref 100), (1, .int (nI g0))] [] g := by
  have hcp := zcnt_pos hg0 htg
  have hc4 := zcnt_le9 t 4
  have hp8 := hU.1
  refine zup (fun k hk ih => ?_)
  intro g hf hcr hod
  have hMg := hMu.fm hf (by decide)
  have hM := hMg.1
  have e62 : g.2.1 162 = e0.2.1 162 := by funext j; exact hf.ar (k := 62) (by decide) (by decide)
  have e63 : g.2.1 163 = e0.2.1 163 := by funext j; exact hf.ar (k := 63) (by decide) (by decide)
  by_cases hk4 : k = 4
  · refine zJ_iload_n dX9_credit_86 rfl ?_
    refine zJ_iconst (v := 4) dX9_credit_87 (by decide) ?_
    refine zJ_icmp_ge (tgt := 347) dX9_credit_88 (by decide) (fun h88z => ?_) (fun h9 => absurd (by rw [hk4]; decide) h9)
    refine zJ_iconst (v := 0) dX9_credit_347 (by decide) ?_
    refine zJ_istore_n (ls2 := fun x348z => [(3, .int x348z), (2, .int (nI (zcnt t 4))), (0, .ref 100), (1, .int (nI g0))]) dX9_credit_348 (by decide) (fun _ => rfl) (fun x348z ex348z => ?_)
    obtain rfl : x348z = (nI 0) := ex348z
    refine zJ_ls [(3, .int (nI 0)), (2, .int (nI (zcnt t 4))), (0, .ref 100), (1, .int (nI g0))] (by simp) ?_
    rw [show e0.1 = g.1 from hf.1.symm]
    refine zMo_crC Δ g hM e he ((hf.at (by decide)).trans h56) t (fun q hq => by rw [e62]; exact ht q hq) (zog U G fr ln) (fun q r hq hq2 hr => ⟨hod q r (by omega) hq2 hr, zodds_le9 (zTg_ok hU hGk hq) _ (hf8 r) _⟩) g0 hg0 htg _ (fun c hc => hQ c (hf.tr (hc.mono (by decide)))) 0 (Nat.zero_le _) g (zFM.rf g) (fun q hq => ?_)
    exact hcr q (by omega)
  · have hk3 : k < 4 := by omega
    have hlt1 : ¬ (4 : Int32) ≤ nI k := fun h => absurd ((nI_leI (a := 4) (by decide) (by omega)).mp h) (by omega)
    have IT := c_Mo_isTold Δ g hM k hk3
    rw [e62, ht k hk3] at IT
    have IT2 : ∀ v, zMd Δ 0 0 0 true yX9_isTold mX9_isTold [.ref 100, .int (nI k)] (zsl g 164 k v) (some (.int (if t k then 1 else 0))) (zsl g 164 k v) := fun v => by
      have h9 := c_Mo_isTold Δ (zsl g 164 k v) hM k hk3
      rw [show (zsl g 164 k v).2.1 162 = g.2.1 162 from rfl, e62, ht k hk3] at h9
      exact h9
    cases htk : t k with
    | false =>
      rw [htk] at IT
      simp only [htk] at IT2
      refine zJ_iload_n dX9_credit_86 rfl ?_
      refine zJ_iconst (v := 4) dX9_credit_87 (by decide) ?_
      refine zJ_icmp_ge (tgt := 347) dX9_credit_88 (by decide) (fun h9 => absurd h9 hlt1) (fun h88a => ?_)
      refine zJ_aload_n dX9_credit_91 rfl ?_
      refine zJ_getr (j := 164) dX9_credit_92 fX9_110 (by first | rfl | assumption | exact hM.at (by decide) (by decide)) rfl (by first | rfl | assumption | exact hM.rf (by decide) rfl) ?_
      refine zJ_iload_n dX9_credit_95 rfl ?_
      refine zJ_aload_n dX9_credit_96 rfl ?_
      refine zJ_iload_n dX9_credit_97 rfl ?_
      refine zJ_cV1 dX9_credit_98 sX9_454 mfX9_isTold IT (by first | rfl | assumption | exact hM.at (by decide) (by decide)) rfl (Nat.le_of_ble_eq_true rfl) (by decide) (by decide) ?_
      refine zJ_if_eq (tgt := 113) dX9_credit_101 (by decide) (fun _ => ?_) (fun h9 => False.elim (by revert h9; decide))
      refine zJ_lconst (v := 0) dX9_credit_113 (by decide) ?_
      refine zJ_lastN (i := k) dX9_credit_114 (by first | rfl | assumption | exact hM.at (by decide) (by decide)) rfl (by omega) (by decide) ?_
      refine zJ_aload_n dX9_credit_115 rfl ?_
      refine zJ_iload_n dX9_credit_116 rfl ?_
      refine zJ_cV1 dX9_credit_117 sX9_454 mfX9_isTold (IT2 _) (by first | rfl | assumption | exact hM.at (by decide) (by decide)) rfl (Nat.le_of_ble_eq_true rfl) (by decide) (by decide) ?_
      refine zJ_if_ne (tgt := 126) dX9_credit_120 (by decide) (fun h9 => False.elim (by revert h9; decide)) (fun _ => ?_)
      refine zJ_goto (tgt := 341) dX9_credit_123 (by decide) ?_
      refine zJ_iinc (ls2 := fun x341a => [(3, .int x341a), (2, .int (nI (zcnt t 4))), (0, .ref 100), (1, .int (nI g0))]) dX9_credit_341 rfl (by decide) (fun _ => rfl) (fun x341a ex341a => ?_)
      refine zJ_goto (tgt := 86) dX9_credit_344 (by decide) ?_
      refine zJ_ls [(3, .int x341a), (2, .int (nI (zcnt t 4))), (0, .ref 100), (1, .int (nI g0))] (by simp) ?_
      rw [ex341a, show nI k + Int32.ofInt 1 = nI (k + 1) from nI_1 _]
      refine ih (k + 1) (by omega) (by omega) _ (hf.tr (zFM.l (Or.inr (by decide)))) (fun i hi => ?_) (fun i r hi h1 h2 => ?_)
      · by_cases hik : i = k
        · subst hik; simp [zsl, htk]; rfl
        · simp [zsl, hik]; exact hcr i (by omega)
      · by_cases hik : i = k
        · rw [hik, htk] at h1; exact absurd h1 (by decide)
        · simp [zsl]; exact hod i r (by omega) h1 h2
    | true =>
      rw [htk] at IT
      simp only [htk, if_true] at IT2
      have hcn : ¬ lN (zcnt t 4) = 0 := fun h => absurd ((fb_lN_inj (b := 0) (by omega) (by decide)).mp h) (by omega)
      have hdv : (1000000 : Int64) / lN (zcnt t 4) = lN (1000000 / zcnt t 4) := by rw [show (1000000 : Int64) = lN 1000000 from rfl, lN_div (by decide) (by omega)]
      have hf1 : zFM [48, 49, 50, 51, 52, 60, 61, 64, 65] e0 (zsl g 164 k (lN (1000000 / zcnt t 4))) := hf.tr (zFM.l (Or.inr (by decide)))
      have hMu1 : zMu (zsl g 164 k (lN (1000000 / zcnt t 4))) U := hMu.fm hf1 (by decide)
      have hTok := zTg_ok hU hGk hk3
      have fin : ∀ d, zFM [48, 49, 50, 51, 52, 60, 61, 64, 65] (zsl g 164 k (lN (1000000 / zcnt t 4))) d → (∀ r, r < e → d.2.2.1 165 (k * 20 + r) = lN (zodds (zTg U G k) (fr r) (ln r))) → (∀ i, i < k * 20 → d.2.2.1 165 i = g.2.2.1 165 i) → d.2.2.1 164 = (zsl g 164 k (lN (1000000 / zcnt t 4))).2.2.1 164 → zJ Δ mX9_credit (zRm 5 0 0) true e0.1 QR (fun _ _ => False) 0 0 341 [(3, .int (nI k)), (2, .int (nI (zcnt t 4))), (0, .ref 100), (1, .int (nI g0))] [] d := by
        intro d h1 h2 h3 h4
        refine zJ_iinc (ls2 := fun x341f => [(3, .int x341f), (2, .int (nI (zcnt t 4))), (0, .ref 100), (1, .int (nI g0))]) dX9_credit_341 rfl (by decide) (fun _ => rfl) (fun x341f ex341f => ?_)
        refine zJ_goto (tgt := 86) dX9_credit_344 (by decide) ?_
        refine zJ_ls [(3, .int x341f), (2, .int (nI (zcnt t 4))), (0, .ref 100), (1, .int (nI g0))] (by simp) ?_
        rw [ex341f, show nI k + Int32.ofInt 1 = nI (k + 1) from nI_1 _]
        refine ih (k + 1) (by omega) (by omega) d (hf1.tr h1) (fun i hi => ?_) (fun i r hi h5 h6 => ?_)
        · rw [h4]
          by_cases hik : i = k
          · subst hik; simp [zsl, htk]
          · simp [zsl, hik]; exact hcr i (by omega)
        · by_cases hik : i = k
          · rw [hik]; exact h2 r h6
          · rw [h3 _ (by omega)]; exact hod i r (by omega) h5 h6
      have K235 : ∀ d, zFM [48, 49] (zsl g 164 k (lN (1000000 / zcnt t 4))) d → (∀ p, p < U.1 0 → d.2.1 148 p = nI ((zTg U G k).2.1 p) ∧ d.2.1 149 p = nI ((zTg U G k).2.2.1 p)) → zJ Δ mX9_credit (zRm 5 0 0) true e0.1 QR (fun _ _ => False) 0 0 235 [(3, .int (nI k)), (2, .int (nI (zcnt t 4))), (0, .ref 100), (1, .int (nI g0))] [] d := by
        intro d hfd hrw
        have hM := (hMu1.fm hfd (by decide)).1
        have hfe : zFM [48, 49, 50, 51, 52, 60, 61, 64, 65] e0 d := hf1.tr (hfd.mono (by decide))
        have hMd := hMu.fm hfe (by decide)
        have hAd : zMa d (zTg U G k) := ⟨hMd.1, hMd.2.1, hMd.2.2.2.1, hMd.2.2.2.2.1, hMd.2.2.2.2.2.1, hMd.2.2.2.2.2.2.1, hMd.2.2.2.2.2.2.2.1, (hfe.at (by decide)).trans hA.2.2.2.2.2.2.2.1, hMd.2.2.2.2.2.2.2.2.2.1, (hfe.at (by decide)).trans hA.2.2.2.2.2.2.2.2.2.1, fun p hp => (hrw p hp).1, fun p hp => (hrw p hp).2, hMd.2.2.2.2.2.2.2.2.2.2.2.2⟩
        have hKd : zMK d (zTg U G k) K := zMKg (hKK.2.1.fm hfe (by decide)) hKK.2.2.1 (fun x q hx y hy => by
          have h9 := hKK.2.2.2 x q hx y hy
          rw [show d.2.1 143 = e0.2.1 143 from by funext j; exact hfe.ar (k := 43) (by decide) (by decide)]
          exact h9) hAd
        have d38 : d.2.1 100 38 = nI K.length := hKd.2.1.2.1
        refine zJ_aload_n dX9_credit_235 rfl ?_
        refine zJ_getiN dX9_credit_236 fX9_354 (by first | rfl | assumption | exact hM.at (by decide) (by decide)) rfl d38 ?_
        refine zJ_iconst (v := 1) dX9_credit_239 (by decide) ?_
        refine zJ_isub dX9_credit_240 ?_
        refine zJ_istore (ls2 := fun x241g => [(4, .int x241g), (3, .int (nI k)), (2, .int (nI (zcnt t 4))), (0, .ref 100), (1, .int (nI g0))]) dX9_credit_241 (by decide) (fun _ => rfl) (fun x241g ex241g => ?_)
        obtain rfl : x241g = (nI K.length - 1) := ex241g
        refine zJ_ls [(4, .int (nI K.length - 1)), (3, .int (nI k)), (2, .int (nI (zcnt t 4))), (0, .ref 100), (1, .int (nI g0))] (by simp) ?_
        rw [show e0.1 = d.1 from (hfd.1.trans hf1.1).symm]
        refine zMo_crR Δ d (zTg U G k) K hTok _ _ _ (fun c hcr2 hKc hUc => ?_) K.length (Nat.le_refl _) d (zFM.rf d) hKd (zUm.top (Nat.le_refl _))
        rw [show d.1 = e0.1 from hfd.1.trans hf1.1]
        refine zJ_iconst (v := 0) dX9_credit_260 (by decide) ?_
        refine zJ_istore (ls2 := fun x261h => [(4, .int x261h), (3, .int (nI k)), (2, .int (nI (zcnt t 4))), (0, .ref 100), (1, .int (nI g0))]) dX9_credit_261 (by decide) (fun _ => rfl) (fun x261h ex261h => ?_)
        obtain rfl : x261h = (nI 0) := ex261h
        refine zJ_ls [(4, .int (nI 0)), (3, .int (nI k)), (2, .int (nI (zcnt t 4))), (0, .ref 100), (1, .int (nI g0))] (by simp) ?_
        rw [show e0.1 = c.1 from ((hcr2.1.trans hfd.1).trans hf1.1).symm]
        have hfc : zFM [48, 49, 50, 51, 52, 60, 61, 64, 65] e0 c := (hf1.tr (hfd.mono (by decide))).tr (hcr2.mono (by decide))
        have hgc : zFM [48, 49, 50, 51, 52] (zsl g 164 k (lN (1000000 / zcnt t 4))) c := (hfd.mono (by decide)).tr (hcr2.mono (by decide))
        refine zMo_crO Δ c U (zTg U G k) (hMu.fm hfc (by decide)) hU h13 (zTg_lk U G k) K hKc hTok (hUc.bm hTok hKc) e fr ln he ((hfc.at (by decide)).trans h56) (fun r hr => ⟨(hfc.ar (k := 59) (by decide) (by decide)).trans (hln r hr).1, (hln r hr).2⟩) (fun r i hr hi => ⟨(hfc.ar (k := 58) (by decide) (by decide)).trans (hfr r i hr hi).1, (hfr r i hr hi).2⟩) k hk3 _ _ (fun d2 h1 h2 h3 => ?_) 0 (Nat.zero_le _) c (zFM.rf c) (fun r2 h2 => absurd h2 (Nat.not_lt_zero r2)) (fun i _ => rfl)
        rw [show c.1 = e0.1 from (hcr2.1.trans hfd.1).trans hf1.1]
        exact fin d2 ((hgc.mono (by decide)).tr (h1.mono (by decide))) h2 (fun i hi => (h3 i hi).trans ((hgc.al (k := 65) (by decide) (by decide)).trans (by simp [zsl]))) (by funext i; exact (h1.al (k := 64) (by decide) (by decide)).trans (hgc.al (k := 64) (by decide) (by decide)))
      refine zJ_iload_n dX9_credit_86 rfl ?_
      refine zJ_iconst (v := 4) dX9_credit_87 (by decide) ?_
      refine zJ_icmp_ge (tgt := 347) dX9_credit_88 (by decide) (fun h9 => absurd h9 hlt1) (fun h88b => ?_)
      refine zJ_aload_n dX9_credit_91 rfl ?_
      refine zJ_getr (j := 164) dX9_credit_92 fX9_110 (by first | rfl | assumption | exact hM.at (by decide) (by decide)) rfl (by first | rfl | assumption | exact hM.rf (by decide) rfl) ?_
      refine zJ_iload_n dX9_credit_95 rfl ?_
      refine zJ_aload_n dX9_credit_96 rfl ?_
      refine zJ_iload_n dX9_credit_97 rfl ?_
      refine zJ_cV1 dX9_credit_98 sX9_454 mfX9_isTold IT (by first | rfl | assumption | exact hM.at (by decide) (by decide)) rfl (Nat.le_of_ble_eq_true rfl) (by decide) (by decide) ?_
      refine zJ_if_eq (tgt := 113) dX9_credit_101 (by decide) (fun h9 => False.elim (by revert h9; decide)) (fun _ => ?_)
      refine zJ_ldc2 dX9_credit_104 kX9_457 ?_
      refine zJ_iload_n dX9_credit_107 rfl ?_
      refine zJ_i2l dX9_credit_108 ?_
      rw [nI_l (by omega)]
      refine zJ_ldiv dX9_credit_109 hcn ?_
      rw [hdv]
      refine zJ_goto (tgt := 114) dX9_credit_110 (by decide) ?_
      refine zJ_lastN (i := k) dX9_credit_114 (by first | rfl | assumption | exact hM.at (by decide) (by decide)) rfl (by omega) (by decide) ?_
      refine zJ_aload_n dX9_credit_115 rfl ?_
      refine zJ_iload_n dX9_credit_116 rfl ?_
      refine zJ_cV1 dX9_credit_117 sX9_454 mfX9_isTold (IT2 _) (by first | rfl | assumption | exact hM.at (by decide) (by decide)) rfl (Nat.le_of_ble_eq_true rfl) (by decide) (by decide) ?_
      refine zJ_if_ne (tgt := 126) dX9_credit_120 (by decide) (fun _ => ?_) (fun h9 => False.elim (by revert h9; decide))
      refine zJ_iconst (v := 0) dX9_credit_126 (by decide) ?_
      refine zJ_istore (ls2 := fun x127b => [(4, .int x127b), (3, .int (nI k)), (2, .int (nI (zcnt t 4))), (0, .ref 100), (1, .int (nI g0))]) dX9_credit_127 (by decide) (fun _ => rfl) (fun x127b ex127b => ?_)
      obtain rfl : x127b = (nI 0) := ex127b
      refine zJ_ls [(4, .int (nI 0)), (3, .int (nI k)), (2, .int (nI (zcnt t 4))), (0, .ref 100), (1, .int (nI g0))] (by simp) ?_
      rw [show e0.1 = (zsl g 164 k (lN (1000000 / zcnt t 4))).1 from hf1.1.symm]
      refine zMo_crA Δ (zsl g 164 k (lN (1000000 / zcnt t 4))) U hMu1 hU G hGk (by rw [show (zsl g 164 k (lN (1000000 / zcnt t 4))).2.1 162 = g.2.1 162 from rfl, show (zsl g 164 k (lN (1000000 / zcnt t 4))).2.1 163 = g.2.1 163 from rfl, e62, e63]; exact hGi) k hk3 _ _ (fun d hfd hrw => ?_) 0 (Nat.zero_le _) (zsl g 164 k (lN (1000000 / zcnt t 4))) (zFM.rf _) (fun p hp => absurd hp (Nat.not_lt_zero p))
      rw [show (zsl g 164 k (lN (1000000 / zcnt t 4))).1 = e0.1 from hf1.1]
      exact K235 d hfd hrw
