set_option maxRecDepth 100000 in
theorem zMo_crC (Δ : zD) (w : zW) (hM0 : zMs w) (e : Nat) (he : e ≤ 20) (h56 : w.2.1 100 56 = nI e) (t : Nat → Bool) (ht : ∀ g, g < 4 → zits (w.2.1 162) g 8 = t g) (o : Nat → Nat → Nat) (ho : ∀ g r, g < 4 → t g = true → r < e → w.2.2.1 165 (g * 20 + r) = lN (o g r) ∧ o g r ≤ 1000000000) (g0 : Nat) (hg0 : g0 < 4) (htg : t g0 = true) (v2 : Int32) {QR : Option Value → zW → Prop} (hQ : ∀ c, zFM [64] w c → QR (some (.int (lN (zcr9 t o e g0)).toInt32)) c) : ∀ r, r ≤ e → ∀ c, zFM [64] w c → (∀ g, g < 4 → c.2.2.1 164 g = lN (if t g then zcr9 t o r g else 0)) → zJ Δ mX9_credit (zRm 5 0 0) true w.1 QR (fun _ _ => False) 0 0 349 [(3, .int (nI r)), (2, .int v2), (0, .ref 100), (1, .int (nI g0))] [] c := by
  refine zup (fun r hr ih => ?_)
  intro c hf hcr
  have hM := hM0.fm hf
  have c56 : c.2.1 100 56 = nI e := (hf.at (by decide)).trans h56
  by_cases hre : r = e
  · have hv := hcr g0 hg0
    rw [if_pos htg] at hv
    refine zJ_iload_n dX9_credit_349 rfl ?_
    refine zJ_aload_n dX9_credit_350 rfl ?_
    refine zJ_getiN dX9_credit_351 fX9_320 (by first | rfl | assumption | exact hM.at (by decide) (by decide)) rfl c56 ?_
    refine zJ_icmp_ge (tgt := 490) dX9_credit_354 (by decide) (fun h354 => ?_) (fun h9 => absurd ((nI_leI (by omega) (by omega)).mpr (by omega)) h9)
    refine zJ_aload_n dX9_credit_490 rfl ?_
    refine zJ_getr (j := 164) dX9_credit_491 fX9_110 (by first | rfl | assumption | exact hM.at (by decide) (by decide)) rfl (by first | rfl | assumption | exact hM.rf (by decide) rfl) ?_
    refine zJ_iload_n dX9_credit_494 rfl ?_
    refine zJ_laldN (i := g0) (v := (lN (zcr9 t o r g0))) dX9_credit_495 (by first | rfl | assumption | exact hM.at (by decide) (by decide)) rfl (by omega) (by decide) hv ?_
    refine zJ_l2i dX9_credit_496 ?_
    exact zJ_iret dX9_credit_497 rfl (by decide) (by decide) (by rw [hre]; exact hQ c hf)
  · have hr9 : r < e := by omega
    have hlt0 : ¬ nI e ≤ nI r := fun h => absurd ((nI_leI (by omega) (by omega)).mp h) (by omega)
    have hP : ∀ g, g < 4 → t g = true → (zcr9 t o r g * zcm o g r) ≤ 1000000000000 := fun g hg h9 => by
      have h1 := zcr9_le (t := t) (o := o) r g hg h9
      have h2 := zcm_le (ho g r hg h9 hr9).2
      have := Nat.mul_le_mul h1 h2
      omega
    have hSb : (fb_sm (fun g => if t g then zcr9 t o r g * zcm o g r else 0) 4) ≤ 4 * 1000000000000 := fb_sm_bound (fun g hg => by
      by_cases h9 : t g = true
      · rw [if_pos h9]; exact hP g hg h9
      · rw [if_neg h9]; exact Nat.zero_le _)
    obtain ⟨S, hS⟩ : ∃ S, S = (fb_sm (fun g => if t g then zcr9 t o r g * zcm o g r else 0) 4) := ⟨_, rfl⟩
    rw [← hS] at hSb
    have L2 : ∀ k, k ≤ 4 → ∀ d, zFM [64] w d → (∀ g, g < 4 → d.2.2.1 164 g = lN (if t g then (if g < k then zcr9 t o (r + 1) g else (zcr9 t o r g * zcm o g r)) else 0)) → zJ Δ mX9_credit (zRm 5 0 0) true w.1 QR (fun _ _ => False) 0 0 440 [(6, .int (nI k)), (4, .long (lN S)), (3, .int (nI r)), (2, .int v2), (0, .ref 100), (1, .int (nI g0))] [] d := by
      refine zup (fun k hk ihk => ?_)
      intro d hfd hd
      have hM := hM0.fm hfd
      by_cases hk4 : k = 4
      · skip
        refine zJ_iload dX9_credit_440 rfl ?_
        refine zJ_iconst (v := 4) dX9_credit_442 (by decide) ?_
        refine zJ_icmp_ge (tgt := 484) dX9_credit_443 (by decide) (fun h443a => ?_) (fun h9 => absurd (by rw [hk4]; decide) h9)
        refine zJ_iinc (ls2 := fun x484a => [(3, .int x484a), (6, .int (nI k)), (4, .long (lN S)), (2, .int v2), (0, .ref 100), (1, .int (nI g0))]) dX9_credit_484 rfl (by decide) (fun _ => rfl) (fun x484a ex484a => ?_)
        refine zJ_goto (tgt := 349) dX9_credit_487 (by decide) ?_
        refine zJ_ls [(3, .int x484a), (2, .int v2), (0, .ref 100), (1, .int (nI g0))] (by simp) ?_
        rw [ex484a, show nI r + Int32.ofInt 1 = nI (r + 1) from nI_1 _]
        refine ih (r + 1) (by omega) (by omega) d hfd (fun g hg => ?_)
        rw [hd g hg, if_pos (show g < k by omega)]
      · have hk3 : k < 4 := by omega
        have hlt1 : ¬ (4 : Int32) ≤ nI k := fun h => absurd ((nI_leI (a := 4) (by decide) (by omega)).mp h) (by omega)
        have hdk := hd k hk3
        rw [if_neg (Nat.lt_irrefl k)] at hdk
        have NX : ∀ v : Int64, v = lN (if t k then zcr9 t o (r + 1) k else 0) → zJ Δ mX9_credit (zRm 5 0 0) true w.1 QR (fun _ _ => False) 0 0 440 [(6, .int (nI (k + 1))), (4, .long (lN S)), (3, .int (nI r)), (2, .int v2), (0, .ref 100), (1, .int (nI g0))] [] (zsl d 164 k v) := by
          intro v hv
          refine ihk (k + 1) (by omega) (by omega) _ (hfd.tr (zFM.l (Or.inr (by decide)))) (fun g hg => ?_)
          by_cases hgk : g = k
          · subst hgk
            rw [if_pos (Nat.lt_succ_self g)]
            simp [zsl]; exact hv
          · have e1 : (g < k + 1) = (g < k) := by simp only [eq_iff_iff]; omega
            simp only [e1]
            simp [zsl, hgk]
            exact hd g hg
        have hc1 : zcr9 t o (r + 1) k = (zcr9 t o r k * zcm o k r) * 1000000 / S := by rw [hS]; rfl
        by_cases hS0 : S = 0
        · have hz : lN S = 0 := by rw [hS0]; rfl
          refine zJ_iload dX9_credit_440 rfl ?_
          refine zJ_iconst (v := 4) dX9_credit_442 (by decide) ?_
          refine zJ_icmp_ge (tgt := 484) dX9_credit_443 (by decide) (fun h9 => absurd h9 hlt1) (fun h443b => ?_)
          refine zJ_aload_n dX9_credit_446 rfl ?_
          refine zJ_getr (j := 164) dX9_credit_447 fX9_110 (by first | rfl | assumption | exact hM.at (by decide) (by decide)) rfl (by first | rfl | assumption | exact hM.rf (by decide) rfl) ?_
          refine zJ_iload dX9_credit_450 rfl ?_
          refine zJ_lload dX9_credit_452 rfl ?_
          refine zJ_lconst (v := 0) dX9_credit_454 (by decide) ?_
          refine zJ_lc_ne (tgt := 463) dX9_credit_455 dX9_credit_456 (by decide) (fun h9 => absurd h9 (fun h => h hz)) (fun h456b => ?_)
          refine zJ_lconst (v := 0) dX9_credit_459 (by decide) ?_
          refine zJ_goto (tgt := 477) dX9_credit_460 (by decide) ?_
          refine zJ_lastN (i := k) dX9_credit_477 (by first | rfl | assumption | exact hM.at (by decide) (by decide)) rfl (by omega) (by decide) ?_
          refine zJ_iinc (ls2 := fun x478b => [(6, .int x478b), (4, .long (lN S)), (3, .int (nI r)), (2, .int v2), (0, .ref 100), (1, .int (nI g0))]) dX9_credit_478 rfl (by decide) (fun _ => rfl) (fun x478b ex478b => ?_)
          refine zJ_goto (tgt := 440) dX9_credit_481 (by decide) ?_
          refine zJ_ls [(6, .int x478b), (4, .long (lN S)), (3, .int (nI r)), (2, .int v2), (0, .ref 100), (1, .int (nI g0))] (by simp) ?_
          rw [ex478b, show nI k + Int32.ofInt 1 = nI (k + 1) from nI_1 _]
          exact NX _ (by rw [hc1, hS0, Nat.div_zero]; split <;> rfl)
        · have hz : ¬ lN S = 0 := fun h => hS0 ((fb_lN_inj (b := 0) (by omega) (by decide)).mp h)
          have hval : lN (if t k then (zcr9 t o r k * zcm o k r) else 0) * 1000000 / lN S = lN (if t k then zcr9 t o (r + 1) k else 0) := by
            rw [show (1000000 : Int64) = lN 1000000 from rfl, lN_mul]
            by_cases h9 : t k = true
            · have := hP k hk3 h9
              simp only [h9, if_true]
              rw [lN_div (by omega) (by omega), hc1]
            · simp only [h9]
              rw [if_neg (by decide), if_neg (by decide), Nat.zero_mul, lN_div (by decide) (by omega), Nat.zero_div]
          refine zJ_iload dX9_credit_440 rfl ?_
          refine zJ_iconst (v := 4) dX9_credit_442 (by decide) ?_
          refine zJ_icmp_ge (tgt := 484) dX9_credit_443 (by decide) (fun h9 => absurd h9 hlt1) (fun h443c => ?_)
          refine zJ_aload_n dX9_credit_446 rfl ?_
          refine zJ_getr (j := 164) dX9_credit_447 fX9_110 (by first | rfl | assumption | exact hM.at (by decide) (by decide)) rfl (by first | rfl | assumption | exact hM.rf (by decide) rfl) ?_
          refine zJ_iload dX9_credit_450 rfl ?_
          refine zJ_lload dX9_credit_452 rfl ?_
          refine zJ_lconst (v := 0) dX9_credit_454 (by decide) ?_
          refine zJ_lc_ne (tgt := 463) dX9_credit_455 dX9_credit_456 (by decide) (fun h456c => ?_) (fun h9 => absurd h9 hz)
          refine zJ_aload_n dX9_credit_463 rfl ?_
          refine zJ_getr (j := 164) dX9_credit_464 fX9_110 (by first | rfl | assumption | exact hM.at (by decide) (by decide)) rfl (by first | rfl | assumption | exact hM.rf (by decide) rfl) ?_
          refine zJ_iload dX9_credit_467 rfl ?_
          refine zJ_laldN (i := k) (v := (lN (if t k then (zcr9 t o r k * zcm o k r) else 0))) dX9_credit_469 (by first | rfl | assumption | exact hM.at (by decide) (by decide)) rfl (by omega) (by decide) hdk ?_
          refine zJ_ldc2 dX9_credit_470 kX9_457 ?_
          refine zJ_lmul dX9_credit_473 ?_
          refine zJ_lload dX9_credit_474 rfl ?_
          refine zJ_ldiv dX9_credit_476 hz ?_
          refine zJ_lastN (i := k) dX9_credit_477 (by first | rfl | assumption | exact hM.at (by decide) (by decide)) rfl (by omega) (by decide) ?_
          refine zJ_iinc (ls2 := fun x478c => [(6, .int x478c), (4, .long (lN S)), (3, .int (nI r)), (2, .int v2), (0, .ref 100), (1, .int (nI g0))]) dX9_credit_478 rfl (by decide) (fun _ => rfl) (fun x478c ex478c => ?_)
          refine zJ_goto (tgt := 440) dX9_credit_481 (by decide) ?_
          refine zJ_ls [(6, .int x478c), (4, .long (lN S)), (3, .int (nI r)), (2, .int v2), (0, .ref 100), (1, .int (nI g0))] (by simp) ?_
          rw [ex478c, show nI k + Int32.ofInt 1 = nI (k + 1) from nI_1 _]
          exact NX _ hval
    have L1 : ∀ k, k ≤ 4 → ∀ d, zFM [64] w d → (∀ g, g < 4 → d.2.2.1 164 g = lN (if t g then (if g < k then (zcr9 t o r g * zcm o g r) else zcr9 t o r g) else 0)) → zJ Δ mX9_credit (zRm 5 0 0) true w.1 QR (fun _ _ => False) 0 0 363 [(6, .int (nI k)), (4, .long (lN (fb_sm (fun g => if t g then zcr9 t o r g * zcm o g r else 0) k))), (3, .int (nI r)), (2, .int v2), (0, .ref 100), (1, .int (nI g0))] [] d := by
      refine zup (fun k hk ihk => ?_)
      intro d hfd hd
      have hM := hM0.fm hfd
      by_cases hk4 : k = 4
      · have hSk : (fb_sm (fun g => if t g then zcr9 t o r g * zcm o g r else 0) k) = S := by rw [hk4, hS]
        rw [hSk]
        refine zJ_iload dX9_credit_363 rfl ?_
        refine zJ_iconst (v := 4) dX9_credit_365 (by decide) ?_
        refine zJ_icmp_ge (tgt := 437) dX9_credit_366 (by decide) (fun h366d => ?_) (fun h9 => absurd (by rw [hk4]; decide) h9)
        refine zJ_iconst (v := 0) dX9_credit_437 (by decide) ?_
        refine zJ_istore (ls2 := fun x438d => [(6, .int x438d), (4, .long (lN S)), (3, .int (nI r)), (2, .int v2), (0, .ref 100), (1, .int (nI g0))]) dX9_credit_438 (by decide) (fun _ => rfl) (fun x438d ex438d => ?_)
        obtain rfl : x438d = (nI 0) := ex438d
        refine zJ_ls [(6, .int (nI 0)), (4, .long (lN S)), (3, .int (nI r)), (2, .int v2), (0, .ref 100), (1, .int (nI g0))] (by simp) ?_
        exact L2 0 (Nat.zero_le _) d hfd (fun g hg => by rw [hd g hg, if_pos (show g < k by omega), if_neg (Nat.not_lt_zero g)])
      · have hk3 : k < 4 := by omega
        have hlt1 : ¬ (4 : Int32) ≤ nI k := fun h => absurd ((nI_leI (a := 4) (by decide) (by omega)).mp h) (by omega)
        have hdk := hd k hk3
        rw [if_neg (Nat.lt_irrefl k)] at hdk
        have IT := c_Mo_isTold Δ d hM k hk3
        have e62 : d.2.1 162 = w.2.1 162 := by funext j; exact hfd.ar (k := 62) (by decide) (by decide)
        have hSs : (fb_sm (fun g => if t g then zcr9 t o r g * zcm o g r else 0) (k + 1)) = (fb_sm (fun g => if t g then zcr9 t o r g * zcm o g r else 0) k) + (if t k then (zcr9 t o r k * zcm o k r) else 0) := rfl
        rw [e62, ht k hk3] at IT
        have NX : ∀ d2, zFM [64] w d2 → (∀ g, g < 4 → ¬ g = k → d2.2.2.1 164 g = d.2.2.1 164 g) → d2.2.2.1 164 k = lN (if t k then (zcr9 t o r k * zcm o k r) else 0) → zJ Δ mX9_credit (zRm 5 0 0) true w.1 QR (fun _ _ => False) 0 0 363 [(6, .int (nI (k + 1))), (4, .long (lN (fb_sm (fun g => if t g then zcr9 t o r g * zcm o g r else 0) (k + 1)))), (3, .int (nI r)), (2, .int v2), (0, .ref 100), (1, .int (nI g0))] [] d2 := by
          intro d2 hf2 h1 h2
          refine ihk (k + 1) (by omega) (by omega) d2 hf2 (fun g hg => ?_)
          by_cases hgk : g = k
          · subst hgk
            rw [if_pos (Nat.lt_succ_self g)]; exact h2
          · have e1 : (g < k + 1) = (g < k) := by simp only [eq_iff_iff]; omega
            simp only [e1]
            rw [h1 g hg hgk]; exact hd g hg
        cases htk : t k with
        | false =>
          rw [htk] at IT hdk hSs
          simp only [htk] at NX
          refine zJ_iload dX9_credit_363 rfl ?_
          refine zJ_iconst (v := 4) dX9_credit_365 (by decide) ?_
          refine zJ_icmp_ge (tgt := 437) dX9_credit_366 (by decide) (fun h9 => absurd h9 hlt1) (fun h366e => ?_)
          refine zJ_aload_n dX9_credit_369 rfl ?_
          refine zJ_getr (j := 165) dX9_credit_370 fX9_113 (by first | rfl | assumption | exact hM.at (by decide) (by decide)) rfl (by first | rfl | assumption | exact hM.rf (by decide) rfl) ?_
          refine zJ_bipush (v := 20) dX9_credit_373 (by decide) ?_
          refine zJ_iload dX9_credit_375 rfl ?_
          refine zJ_imul dX9_credit_377 ?_
          refine zJ_iload_n dX9_credit_378 rfl ?_
          refine zJ_iadd dX9_credit_379 ?_
          refine zJ_laldN (i := (k * 20 + r)) dX9_credit_380 (by first | rfl | assumption | exact hM.at (by decide) (by decide)) (by rw [show (20 : Int32) = nI 20 from rfl, na_mul, na_add, Nat.mul_comm]) (by omega) (by decide) rfl ?_
          refine zJ_ldc2 dX9_credit_381 kX9_370 ?_
          refine zJ_ldiv dX9_credit_384 (by decide) ?_
          refine zJ_lstore (ls2 := fun x385e => [(7, .long x385e), (6, .int (nI k)), (4, .long (lN (fb_sm (fun g => if t g then zcr9 t o r g * zcm o g r else 0) k))), (3, .int (nI r)), (2, .int v2), (0, .ref 100), (1, .int (nI g0))]) dX9_credit_385 (by decide) (fun _ => rfl) (fun x385e ex385e => ?_)
          refine zJ_aload_n dX9_credit_387 rfl ?_
          refine zJ_iload dX9_credit_388 rfl ?_
          refine zJ_cV1 dX9_credit_390 sX9_454 mfX9_isTold IT (by first | rfl | assumption | exact hM.at (by decide) (by decide)) rfl (Nat.le_of_ble_eq_true rfl) (by decide) (by decide) ?_
          refine zJ_if_eq (tgt := 419) dX9_credit_393 (by decide) (fun _ => ?_) (fun h9 => False.elim (by revert h9; decide))
          refine zJ_lload dX9_credit_419 rfl ?_
          refine zJ_aload_n dX9_credit_421 rfl ?_
          refine zJ_getr (j := 164) dX9_credit_422 fX9_110 (by first | rfl | assumption | exact hM.at (by decide) (by decide)) rfl (by first | rfl | assumption | exact hM.rf (by decide) rfl) ?_
          refine zJ_iload dX9_credit_425 rfl ?_
          refine zJ_laldN (i := k) (v := (lN 0)) dX9_credit_427 (by first | rfl | assumption | exact hM.at (by decide) (by decide)) rfl (by omega) (by decide) hdk ?_
          refine zJ_ladd dX9_credit_428 ?_
          rw [lN_add]
          refine zJ_lstore (ls2 := fun x429e => [(4, .long x429e), (7, .long x385e), (6, .int (nI k)), (3, .int (nI r)), (2, .int v2), (0, .ref 100), (1, .int (nI g0))]) dX9_credit_429 (by decide) (fun _ => rfl) (fun x429e ex429e => ?_)
          obtain rfl : x429e = (lN (fb_sm (fun g => if t g then zcr9 t o r g * zcm o g r else 0) (k + 1))) := (by rw [ex429e, hSs]; rfl)
          refine zJ_iinc (ls2 := fun x431e => [(6, .int x431e), (4, .long (lN (fb_sm (fun g => if t g then zcr9 t o r g * zcm o g r else 0) (k + 1)))), (7, .long x385e), (3, .int (nI r)), (2, .int v2), (0, .ref 100), (1, .int (nI g0))]) dX9_credit_431 rfl (by decide) (fun _ => rfl) (fun x431e ex431e => ?_)
          refine zJ_goto (tgt := 363) dX9_credit_434 (by decide) ?_
          refine zJ_ls [(6, .int x431e), (4, .long (lN (fb_sm (fun g => if t g then zcr9 t o r g * zcm o g r else 0) (k + 1)))), (3, .int (nI r)), (2, .int v2), (0, .ref 100), (1, .int (nI g0))] (by simp) ?_
          rw [ex431e, show nI k + Int32.ofInt 1 = nI (k + 1) from nI_1 _]
          exact NX d hfd (fun g _ _ => rfl) hdk
        | true =>
          have hok := ho k r hk3 htk hr9
          have d65 : d.2.2.1 165 (k * 20 + r) = lN (o k r) := (hfd.al (k := 65) (by decide) (by decide)).trans hok.1
          rw [htk] at IT hdk hSs
          simp only [htk, if_true] at NX hdk hSs
          have hdv : lN (o k r) / 1000 = lN (o k r / 1000) := by rw [show (1000 : Int64) = lN 1000 from rfl, lN_div (by omega) (by decide)]
          by_cases h1 : o k r / 1000 < 1
          · have hcm : zcm o k r = 1 := by simp only [zcm]; rw [if_pos h1]
            have hlt : ¬ (1 : Int64) ≤ lN (o k r / 1000) := fun h => absurd ((lZ_le (a := 1) (b := ((o k r / 1000 : Nat) : Int)) (by decide) (by decide) (by omega) (by omega)).mp h) (by omega)
            refine zJ_iload dX9_credit_363 rfl ?_
            refine zJ_iconst (v := 4) dX9_credit_365 (by decide) ?_
            refine zJ_icmp_ge (tgt := 437) dX9_credit_366 (by decide) (fun h9 => absurd h9 hlt1) (fun h366f => ?_)
            refine zJ_aload_n dX9_credit_369 rfl ?_
            refine zJ_getr (j := 165) dX9_credit_370 fX9_113 (by first | rfl | assumption | exact hM.at (by decide) (by decide)) rfl (by first | rfl | assumption | exact hM.rf (by decide) rfl) ?_
            refine zJ_bipush (v := 20) dX9_credit_373 (by decide) ?_
            refine zJ_iload dX9_credit_375 rfl ?_
            refine zJ_imul dX9_credit_377 ?_
            refine zJ_iload_n dX9_credit_378 rfl ?_
            refine zJ_iadd dX9_credit_379 ?_
            refine zJ_laldN (i := (k * 20 + r)) (v := (lN (o k r))) dX9_credit_380 (by first | rfl | assumption | exact hM.at (by decide) (by decide)) (by rw [show (20 : Int32) = nI 20 from rfl, na_mul, na_add, Nat.mul_comm]) (by omega) (by decide) d65 ?_
            refine zJ_ldc2 dX9_credit_381 kX9_370 ?_
            refine zJ_ldiv dX9_credit_384 (by decide) ?_
            rw [hdv]
            refine zJ_lstore (ls2 := fun x385f => [(7, .long x385f), (6, .int (nI k)), (4, .long (lN (fb_sm (fun g => if t g then zcr9 t o r g * zcm o g r else 0) k))), (3, .int (nI r)), (2, .int v2), (0, .ref 100), (1, .int (nI g0))]) dX9_credit_385 (by decide) (fun _ => rfl) (fun x385f ex385f => ?_)
            obtain rfl : x385f = (lN (o k r / 1000)) := ex385f
            refine zJ_aload_n dX9_credit_387 rfl ?_
            refine zJ_iload dX9_credit_388 rfl ?_
            refine zJ_cV1 dX9_credit_390 sX9_454 mfX9_isTold IT (by first | rfl | assumption | exact hM.at (by decide) (by decide)) rfl (Nat.le_of_ble_eq_true rfl) (by decide) (by decide) ?_
            refine zJ_if_eq (tgt := 419) dX9_credit_393 (by decide) (fun h9 => False.elim (by revert h9; decide)) (fun _ => ?_)
            refine zJ_aload_n dX9_credit_396 rfl ?_
            refine zJ_getr (j := 164) dX9_credit_397 fX9_110 (by first | rfl | assumption | exact hM.at (by decide) (by decide)) rfl (by first | rfl | assumption | exact hM.rf (by decide) rfl) ?_
            refine zJ_iload dX9_credit_400 rfl ?_
            refine zJ_dup2_11 dX9_credit_402 rfl rfl ?_
            refine zJ_laldN (i := k) (v := (lN (zcr9 t o r k))) dX9_credit_403 (by first | rfl | assumption | exact hM.at (by decide) (by decide)) rfl (by omega) (by decide) hdk ?_
            refine zJ_lload dX9_credit_404 rfl ?_
            refine zJ_lconst (v := 1) dX9_credit_406 (by decide) ?_
            refine zJ_lc_ge (tgt := 415) dX9_credit_407 dX9_credit_408 (by decide) (fun h9 => absurd h9 hlt) (fun h408f => ?_)
            refine zJ_lconst (v := 1) dX9_credit_411 (by decide) ?_
            refine zJ_goto (tgt := 417) dX9_credit_412 (by decide) ?_
            refine zJ_lmul dX9_credit_417 ?_
            rw [show lN (zcr9 t o r k) * 1 = lN (zcr9 t o r k * zcm o k r) by rw [hcm, show (1 : Int64) = lN 1 from rfl, lN_mul]]
            refine zJ_lastN (i := k) dX9_credit_418 (by first | rfl | assumption | exact hM.at (by decide) (by decide)) rfl (by omega) (by decide) ?_
            refine zJ_lload dX9_credit_419 rfl ?_
            refine zJ_aload_n dX9_credit_421 rfl ?_
            refine zJ_getr (j := 164) dX9_credit_422 fX9_110 (by first | rfl | assumption | exact hM.at (by decide) (by decide)) rfl (by first | rfl | assumption | exact hM.rf (by decide) rfl) ?_
            refine zJ_iload dX9_credit_425 rfl ?_
            refine zJ_laldN (i := k) (v := (lN (zcr9 t o r k * zcm o k r))) dX9_credit_427 (by first | rfl | assumption | exact hM.at (by decide) (by decide)) rfl (by omega) (by decide) (by simp [zsl]) ?_
            refine zJ_ladd dX9_credit_428 ?_
            rw [lN_add]
            refine zJ_lstore (ls2 := fun x429f => [(4, .long x429f), (7, .long (lN (o k r / 1000))), (6, .int (nI k)), (3, .int (nI r)), (2, .int v2), (0, .ref 100), (1, .int (nI g0))]) dX9_credit_429 (by decide) (fun _ => rfl) (fun x429f ex429f => ?_)
            obtain rfl : x429f = (lN (fb_sm (fun g => if t g then zcr9 t o r g * zcm o g r else 0) (k + 1))) := (by rw [ex429f, hSs])
            refine zJ_iinc (ls2 := fun x431f => [(6, .int x431f), (4, .long (lN (fb_sm (fun g => if t g then zcr9 t o r g * zcm o g r else 0) (k + 1)))), (7, .long (lN (o k r / 1000))), (3, .int (nI r)), (2, .int v2), (0, .ref 100), (1, .int (nI g0))]) dX9_credit_431 rfl (by decide) (fun _ => rfl) (fun x431f ex431f => ?_)
            refine zJ_goto (tgt := 363) dX9_credit_434 (by decide) ?_
            refine zJ_ls [(6, .int x431f), (4, .long (lN (fb_sm (fun g => if t g then zcr9 t o r g * zcm o g r else 0) (k + 1)))), (3, .int (nI r)), (2, .int v2), (0, .ref 100), (1, .int (nI g0))] (by simp) ?_
            rw [ex431f, show nI k + Int32.ofInt 1 = nI (k + 1) from nI_1 _]
            refine NX _ (hfd.tr (zFM.l (Or.inr (by decide)))) (fun g _ hgk => by simp [zsl, hgk]) (by simp [zsl])
          · have hcm : zcm o k r = o k r / 1000 := by simp only [zcm]; rw [if_neg h1]
            have hge : (1 : Int64) ≤ lN (o k r / 1000) := (lZ_le (a := 1) (b := ((o k r / 1000 : Nat) : Int)) (by decide) (by decide) (by omega) (by omega)).mpr (by omega)
            refine zJ_iload dX9_credit_363 rfl ?_
            refine zJ_iconst (v := 4) dX9_credit_365 (by decide) ?_
            refine zJ_icmp_ge (tgt := 437) dX9_credit_366 (by decide) (fun h9 => absurd h9 hlt1) (fun h366g => ?_)
            refine zJ_aload_n dX9_credit_369 rfl ?_
            refine zJ_getr (j := 165) dX9_credit_370 fX9_113 (by first | rfl | assumption | exact hM.at (by decide) (by decide)) rfl (by first | rfl | assumption | exact hM.rf (by decide) rfl) ?_
            refine zJ_bipush (v := 20) dX9_credit_373 (by decide) ?_
            refine zJ_iload dX9_credit_375 rfl ?_
            refine zJ_imul dX9_credit_377 ?_
            refine zJ_iload_n dX9_credit_378 rfl ?_
            refine zJ_iadd dX9_credit_379 ?_
            refine zJ_laldN (i := (k * 20 + r)) (v := (lN (o k r))) dX9_credit_380 (by first | rfl | assumption | exact hM.at (by decide) (by decide)) (by rw [show (20 : Int32) = nI 20 from rfl, na_mul, na_add, Nat.mul_comm]) (by omega) (by decide) d65 ?_
            refine zJ_ldc2 dX9_credit_381 kX9_370 ?_
            refine zJ_ldiv dX9_credit_384 (by decide) ?_
            rw [hdv]
            refine zJ_lstore (ls2 := fun x385g => [(7, .long x385g), (6, .int (nI k)), (4, .long (lN (fb_sm (fun g => if t g then zcr9 t o r g * zcm o g r else 0) k))), (3, .int (nI r)), (2, .int v2), (0, .ref 100), (1, .int (nI g0))]) dX9_credit_385 (by decide) (fun _ => rfl) (fun x385g ex385g => ?_)
            obtain rfl : x385g = (lN (o k r / 1000)) := ex385g
            refine zJ_aload_n dX9_credit_387 rfl ?_
            refine zJ_iload dX9_credit_388 rfl ?_
            refine zJ_cV1 dX9_credit_390 sX9_454 mfX9_isTold IT (by first | rfl | assumption | exact hM.at (by decide) (by decide)) rfl (Nat.le_of_ble_eq_true rfl) (by decide) (by decide) ?_
            refine zJ_if_eq (tgt := 419) dX9_credit_393 (by decide) (fun h9 => False.elim (by revert h9; decide)) (fun _ => ?_)
            refine zJ_aload_n dX9_credit_396 rfl ?_
            refine zJ_getr (j := 164) dX9_credit_397 fX9_110 (by first | rfl | assumption | exact hM.at (by decide) (by decide)) rfl (by first | rfl | assumption | exact hM.rf (by decide) rfl) ?_
            refine zJ_iload dX9_credit_400 rfl ?_
            refine zJ_dup2_11 dX9_credit_402 rfl rfl ?_
            refine zJ_laldN (i := k) (v := (lN (zcr9 t o r k))) dX9_credit_403 (by first | rfl | assumption | exact hM.at (by decide) (by decide)) rfl (by omega) (by decide) hdk ?_
            refine zJ_lload dX9_credit_404 rfl ?_
            refine zJ_lconst (v := 1) dX9_credit_406 (by decide) ?_
            refine zJ_lc_ge (tgt := 415) dX9_credit_407 dX9_credit_408 (by decide) (fun h408g => ?_) (fun h9 => absurd hge h9)
            refine zJ_lload dX9_credit_415 rfl ?_
            refine zJ_lmul dX9_credit_417 ?_
            rw [show lN (zcr9 t o r k) * lN (o k r / 1000) = lN (zcr9 t o r k * zcm o k r) by rw [hcm, lN_mul]]
            refine zJ_lastN (i := k) dX9_credit_418 (by first | rfl | assumption | exact hM.at (by decide) (by decide)) rfl (by omega) (by decide) ?_
            refine zJ_lload dX9_credit_419 rfl ?_
            refine zJ_aload_n dX9_credit_421 rfl ?_
            refine zJ_getr (j := 164) dX9_credit_422 fX9_110 (by first | rfl | assumption | exact hM.at (by decide) (by decide)) rfl (by first | rfl | assumption | exact hM.rf (by decide) rfl) ?_
            refine zJ_iload dX9_credit_425 rfl ?_
            refine zJ_laldN (i := k) (v := (lN (zcr9 t o r k * zcm o k r))) dX9_credit_427 (by first | rfl | assumption | exact hM.at (by decide) (by decide)) rfl (by omega) (by decide) (by simp [zsl]) ?_
            refine zJ_ladd dX9_credit_428 ?_
            rw [lN_add]
            refine zJ_lstore (ls2 := fun x429g => [(4, .long x429g), (7, .long (lN (o k r / 1000))), (6, .int (nI k)), (3, .int (nI r)), (2, .int v2), (0, .ref 100), (1, .int (nI g0))]) dX9_credit_429 (by decide) (fun _ => rfl) (fun x429g ex429g => ?_)
            obtain rfl : x429g = (lN (fb_sm (fun g => if t g then zcr9 t o r g * zcm o g r else 0) (k + 1))) := (by rw [ex429g, hSs])
            refine zJ_iinc (ls2 := fun x431g => [(6, .int x431g), (4, .long (lN (fb_sm (fun g => if t g then zcr9 t o r g * zcm o g r else 0) (k + 1)))), (7, .long (lN (o k r / 1000))), (3, .int (nI r)), (2, .int v2), (0, .ref 100), (1, .int (nI g0))]) dX9_credit_431 rfl (by decide) (fun _ => rfl) (fun x431g ex431g => ?_)
            refine zJ_goto (tgt := 363) dX9_credit_434 (by decide) ?_
            refine zJ_ls [(6, .int x431g), (4, .long (lN (fb_sm (fun g => if t g then zcr9 t o r g * zcm o g r else 0) (k + 1)))), (3, .int (nI r)), (2, .int v2), (0, .ref 100), (1, .int (nI g0))] (by simp) ?_
            rw [ex431g, show nI k + Int32.ofInt 1 = nI (k + 1) from nI_1 _]
            refine NX _ (hfd.tr (zFM.l (Or.inr (by decide)))) (fun g _ hgk => by simp [zsl, hgk]) (by simp [zsl])
    refine zJ_iload_n dX9_credit_349 rfl ?_
    refine zJ_aload_n dX9_credit_350 rfl ?_
    refine zJ_getiN dX9_credit_351 fX9_320 (by first | rfl | assumption | exact hM.at (by decide) (by decide)) rfl c56 ?_
    refine zJ_icmp_ge (tgt := 490) dX9_credit_354 (by decide) (fun h9 => absurd h9 hlt0) (fun h354q => ?_)
    refine zJ_lconst (v := 0) dX9_credit_357 (by decide) ?_
    refine zJ_lstore (ls2 := fun x358q => [(4, .long x358q), (3, .int (nI r)), (2, .int v2), (0, .ref 100), (1, .int (nI g0))]) dX9_credit_358 (by decide) (fun _ => rfl) (fun x358q ex358q => ?_)
    obtain rfl : x358q = (lN 0) := ex358q
    refine zJ_iconst (v := 0) dX9_credit_360 (by decide) ?_
    refine zJ_istore (ls2 := fun x361q => [(6, .int x361q), (4, .long (lN 0)), (3, .int (nI r)), (2, .int v2), (0, .ref 100), (1, .int (nI g0))]) dX9_credit_361 (by decide) (fun _ => rfl) (fun x361q ex361q => ?_)
    obtain rfl : x361q = (nI 0) := ex361q
    refine zJ_ls [(6, .int (nI 0)), (4, .long (lN 0)), (3, .int (nI r)), (2, .int v2), (0, .ref 100), (1, .int (nI g0))] (by simp) ?_
    exact L1 0 (Nat.zero_le _) c hf (fun g hg => by rw [hcr g hg, if_neg (Nat.not_lt_zero g)])
