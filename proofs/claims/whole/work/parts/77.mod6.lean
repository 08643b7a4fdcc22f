/-! the model: reckons, asks -/
theorem mulc {u : Nat} {z c : Int} (hu : u ≤ 1000) (hc : 0 ≤ c) (h1 : -c ≤ z) (h2 : z ≤ c) : -(1000 * c) ≤ (u : Int) * z ∧ (u : Int) * z ≤ 1000 * c := by
  have a1 : (u : Int) * z ≤ (u : Int) * c := Int.mul_le_mul_of_nonneg_left h2 (by omega)
  have a2 : (u : Int) * -c ≤ (u : Int) * z := Int.mul_le_mul_of_nonneg_left h1 (by omega)
  have a3 : (u : Int) * c ≤ 1000 * c := Int.mul_le_mul_of_nonneg_right (by omega) hc
  rw [Int.mul_neg] at a2
  omega
theorem zwS_0 {T : zTo} {k : zKy} (h : zmb T k = 0) : zwS T k = 0 := sm_zero (fun y hy => by
  have : zmay T k y = false := by rw [← zmb_tb T k hy, h]; simp
  simp [this])
/-- the model's way to what is BEST -/
def zbm (T : zTo) (k : zKy) (e : Nat → Nat) (g : Nat → Nat → Int) : Nat → Option Nat
  | 0 => none
  | n + 1 => if zmay T k n = true ∧ (match zbm T k e g n with | none => 1000 * (zpe T k.2.1 : Int) | some q => zwo T k e g q) < zwo T k e g n then some n else zbm T k e g n
def zmm (T : zTo) (k : zKy) (e : Nat → Nat) (g : Nat → Nat → Int) (n : Nat) : Int := match zbm T k e g n with | none => 1000 * (zpe T k.2.1 : Int) | some q => zwo T k e g q
theorem zbm_li (T : zTo) (k : zKy) (e : Nat → Nat) (g : Nat → Nat → Int) : ∀ n, zbm T k e g n = match zli T k e g n with | none => none | some q => if 1000 * (zpe T k.2.1 : Int) < zwo T k e g q then some q else none
  | 0 => rfl
  | n + 1 => by
    have ih := zbm_li T k e g n
    simp only [zbm, zli]
    cases hm : zmay T k n with
    | false => simp only [Bool.false_eq_true, false_and, if_false]; exact ih
    | true =>
      simp only [true_and, if_true]
      cases hl : zli T k e g n with
      | none =>
        rw [hl] at ih
        simp only at ih
        rw [ih]
      | some q =>
        rw [hl] at ih
        simp only at ih
        by_cases h1 : 1000 * (zpe T k.2.1 : Int) < zwo T k e g q
        · rw [if_pos h1] at ih
          rw [ih]
          simp only
          by_cases h2 : zwo T k e g q < zwo T k e g n
          · rw [if_pos h2]
            simp only
            rw [if_pos (by omega)]
          · rw [if_neg h2]
            simp only
            rw [if_pos h1]
        · rw [if_neg h1] at ih
          rw [ih]
          simp only
          by_cases h2 : zwo T k e g q < zwo T k e g n
          · rw [if_pos h2]
          · rw [if_neg h2]
            simp only
            rw [if_neg h1, if_neg (by omega)]
theorem zbm_ch {T : zTo} (hT : zTok T) {k : zKy} (hk : k.1 < 8) (e : Nat → Nat) (g : Nat → Nat → Int) : zbm T k e g (T.1 0) = zch T k e g := by
  have h8 : zbm T k e g 8 = zch T k e g := by
    rw [zbm_li]; rfl
  rw [← h8]
  have h0 := hT.1
  have : ∀ d, T.1 0 + d ≤ 8 → zbm T k e g (T.1 0 + d) = zbm T k e g (T.1 0) := by
    intro d
    induction d with
    | zero => intro _; rfl
    | succ d ih =>
      intro hd
      rw [← ih (by omega), show T.1 0 + (d + 1) = (T.1 0 + d) + 1 by omega]
      simp only [zbm, zmay_no hT hk (show T.1 0 ≤ T.1 0 + d by omega) (by omega), Bool.false_eq_true, false_and, if_false]
  have := this (8 - T.1 0) (by omega)
  rw [show T.1 0 + (8 - T.1 0) = 8 by omega] at this
  exact this.symm
theorem zbm_s (T : zTo) (k : zKy) (e : Nat → Nat) (g : Nat → Nat → Int) (n : Nat) : zbm T k e g (n + 1) = if zmay T k n = true ∧ zmm T k e g n < zwo T k e g n then some n else zbm T k e g n := rfl
theorem zbm_may {T : zTo} {k : zKy} {e : Nat → Nat} {g : Nat → Nat → Int} : ∀ {n q : Nat}, zbm T k e g n = some q → q < n ∧ zmay T k q = true
  | 0, q, h => by cases h
  | n + 1, q, h => by
    rw [zbm_s] at h
    by_cases h1 : zmay T k n = true ∧ zmm T k e g n < zwo T k e g n
    · rw [if_pos h1] at h; cases h; exact ⟨by omega, h1.1⟩
    · rw [if_neg h1] at h
      have := zbm_may h; exact ⟨by omega, this.2⟩
theorem zmm_rng {T : zTo} (hT : zTok T) {k : zKy} (hk : zkok T k) {n : Nat} (hn : n ≤ 8) : -1000000000 ≤ zmm T k (zce T k) (zcg T k) n ∧ zmm T k (zce T k) (zcg T k) n ≤ 1000000000 := by
  simp only [zmm]
  cases hz : zbm T k (zce T k) (zcg T k) n with
  | none =>
    have h1 := hk.2.1.2
    have h2 := hT.2.2.2.1.2
    have := zpe_le hT (show k.2.1 ≤ 13 by omega)
    simp only; omega
  | some q =>
    obtain ⟨h1, h2⟩ := zbm_may hz
    exact zwo_rng hT (zce_le hT hk (by omega) h2) (zcg_rng hT hk (by omega) h2)
/-- the HANDS from n on are reckoned -/
def zUm (w : zW) (T : zTo) (K : List zKy) (n : Nat) : Prop := ∀ (x : Nat) (k : zKy), n ≤ x → K[x]? = some k → w.2.2.1 151 x = lN (zvl T k).1 ∧ (∀ p, p < T.1 0 → w.2.2.1 150 (x * 8 + p) = lZ ((zvl T k).2.1 p)) ∧ w.2.1 152 x = zoi (zvl T k).2.2
theorem zUm.ch {w : zW} {T : zTo} {K : List zKy} {x : Nat} {k : zKy} (h : zUm w T K (x + 1)) (hK : zall T K) (hx : K[x]? = some k) : zMC w T K k := fun y _ _ c hc => by
  have := zall_up hK hx hc
  have := h c _ (by omega) hc
  exact ⟨this.1, this.2.1⟩
theorem zFR.up {w c : zW} {T : zTo} {K : List zKy} {x : Nat} {k : zKy} (hf : zFR x w c) (h : zUm w T K (x + 1)) (hT : zTok T) (hx : K[x]? = some k) (h1 : c.2.2.1 151 x = lN (zvl T k).1) (h2 : ∀ p, p < T.1 0 → c.2.2.1 150 (x * 8 + p) = lZ ((zvl T k).2.1 p)) (h3 : c.2.1 152 x = zoi (zvl T k).2.2) : zUm c T K x := fun z q hz hq => by
  have h0 := hT.1
  by_cases hzx : z = x
  · subst hzx
    rw [hx] at hq; cases hq
    exact ⟨h1, h2, h3⟩
  · obtain ⟨a, b, d⟩ := h z q (by omega) hq
    exact ⟨(hf.2.1 z hzx).trans a, fun p hp => (hf.2.2.1 _ (by omega)).trans (b p hp), (hf.2.2.2 z hzx).trans d⟩
set_option maxRecDepth 100000 in
theorem c_Mo_reckons (Δ : zD) (w : zW) (T : zTo) (K : List zKy) (hK : zMK w T K) (hT : zTok T) (x : Nat) (k : zKy) (hx : K[x]? = some k) (hC : zMC w T K k) : zMp Δ 3 yX9_reckons mX9_reckons [.ref 100, .int (nI x)] w (fun r c => r = none ∧ zMr w c T x (zvl T k).1 (zvl T k).2.1 ∧ c.2.1 152 x = zoi (zvl T k).2.2) := by
  refine zMp.of mfX9_reckons (Nat.le_of_ble_eq_true rfl) (fun QR hQ => ?_)
  have hK0 := hK
  obtain ⟨hA, hN, hall, hch⟩ := hK
  have hA0 := hA
  obtain ⟨hM, m1, m3, m4, m5, m6, m7, m46, m9, m47, mso, mnu, mwt⟩ := hA
  have hT0 := hT
  obtain ⟨hp0, hp5, hp6, hp7, hp8, hp9, hp10, hp11, hp12, hp13, hpp, hpw⟩ := hT
  have hxK : x < K.length := (List.getElem?_eq_some_iff.mp hx).1
  have hKR := hN.2.2.1
  obtain ⟨hk, hkp⟩ := hN.2.2.2 k (List.mem_iff_getElem?.mpr ⟨x, hx⟩)
  obtain ⟨y1, y2, y3, y4⟩ := hN.1 x k hx
  have hk1 := hk.1
  have hk2 := hk.2.1
  have hv := zvl_e hT0 hk
  have hso := (hpp k.1).1
  have hpe := zpe_le hT0 (show k.2.1 ≤ 13 by omega)
  have hwb : zwS T k ≤ 8 * 99 := fb_sm_bound (fun y hy => by
    try simp only
    split
    · exact (hpw k.1 y hk1 (by omega)).1
    · omega)
  have fin : ∀ (wa c : zW) (e : Nat) (g : Nat → Int) (r : Option Nat), zFR x w wa → zMr wa c T x e g → c.2.1 152 x = zoi r → zRk T k (zce T k) (zcg T k) = (e, g, r) → QR none c := by
    intro wa c e g r h1 h2 h3 h4
    refine hQ _ _ ⟨rfl, ?_, ?_⟩
    · rw [hv, h4]; exact ⟨h1.tr h2.1, h2.2⟩
    · rw [hv, h4]; exact h3
  have J250 : ¬ zmb T k = 0 → ¬ T.2.1 k.1 = 3 → ¬ (T.2.1 k.1 = 0 ∧ T.2.2.1 k.1 ≤ zfl T k.2.1) → zJ Δ mX9_reckons (zRm 3 0 0) true w.1 QR (fun _ _ => False) 0 0 250 [(3, .int (nI (zwS T k))), (2, .int (nI k.1)), (0, .ref 100), (1, .int (nI x))] [] (zsi w 152 x (-1)) := by
    intro hmb hn3 hn0
    have hK1 := hK0.r (zFR.b (x := x) (v := -1))
    have hC1 := hC.r hK0 hx hT0 (zFR.b (x := x) (v := -1))
    have hM1 : zMs (zsi w 152 x (-1)) := hM
    refine zJ_aload_n dX9_reckons_250 rfl ?_
    refine zJ_iload_n dX9_reckons_251 rfl ?_
    refine zJ_iload_n dX9_reckons_252 rfl ?_
    refine zJ_eV2 dX9_reckons_253 sX9_399 mfX9_sends (c_Mo_sends Δ (zsi w 152 x (-1)) T K hK1 hT0 x k hx hC1 (zwS_pos hmb)) (hM1.at (by decide) (by decide)) rfl (Nat.le_of_ble_eq_true rfl) (by decide) (by decide) (fun r c hP => ?_)
    obtain ⟨rfl, hci, hr⟩ := hP
    have hfc : zFM [50, 51, 52] w c := (zFR.b.tr hr.1).1
    have M_c : zMs c := hM.fm hfc
    have hAc : zMa c T := hA0.fm hfc (by decide)
    have hKc := hK1.r hr.1
    obtain ⟨-, m1_c, m3_c, m4_c, m5_c, m6_c, m7_c, m46_c, m9_c, m47_c, mso_c, mnu_c, mwt_c⟩ := hAc
    obtain ⟨z1, z2, z3, z4⟩ := hKc.2.1.1 x k hx
    have h152 : c.2.1 152 x = zoi none := by rw [hci]; simp [zsi, zoi]
    have LL : T.2.1 k.1 = 2 → ∀ j, j ≤ T.1 0 → zJ Δ mX9_reckons (zRm 3 0 0) true w.1 QR (fun _ _ => False) 0 0 278 [(5, .int (nI j)), (4, .int (nI (T.2.2.1 k.1))), (3, .int (nI (zwS T k))), (2, .int (nI k.1)), (0, .ref 100), (1, .int (nI x))] [] (zgw c x (fun p => lZ ((zsG T k (zce T k) (zcg T k) p * (1000 - (T.2.2.1 k.1 : Int)) + (if p = k.1 then 1000 * (zpe T k.2.1 : Int) * (T.2.2.1 k.1 : Int) else 0)) / 1000)) j) := by
      intro h2
      have hn1 := (hpp k.1).2.2.1 h2
      have hsg : ∀ p, -340560000000 ≤ zsG T k (zce T k) (zcg T k) p ∧ zsG T k (zce T k) (zcg T k) p ≤ 340560000000 := fun p => by
        have h1 := fb_si_bound (f := zGf T k p) (c := 42570000000) (by decide) (n := 8) (fun y hy => zGf_rng hT0 hk (by omega))
        exact ediv_rng (a := fb_si (zGf T k p) 8) (b := (zwS T k : Int)) (c := 340560000000) (by omega) (by omega) (by have := zwS_pos hmb; omega) (by decide)
      refine zup (fun j hj ih => ?_)
      have hA2 : zMa (zgw c x (fun p => lZ ((zsG T k (zce T k) (zcg T k) p * (1000 - (T.2.2.1 k.1 : Int)) + (if p = k.1 then 1000 * (zpe T k.2.1 : Int) * (T.2.2.1 k.1 : Int) else 0)) / 1000)) j) T := (hA0.fm hfc (by decide)).fm (zgw_r (by omega)).1 (by decide)
      refine zJ_iload dX9_reckons_278 rfl ?_
      refine zJ_aload_n dX9_reckons_280 rfl ?_
      refine zJ_getiN dX9_reckons_281 fX9_298 (by first | rfl | assumption | exact M_c.at (by decide) (by decide)) rfl m1_c ?_
      refine zJ_icmp_ge (tgt := 361) dX9_reckons_284 (by decide) (fun h284 => ?_) (fun h284 => ?_)
      · have hj9 : j = T.1 0 := Nat.le_antisymm hj ((nI_leI (by omega) (by omega)).mp h284)
        subst hj9
        refine zJ_aload_n dX9_reckons_361 rfl ?_
        refine zJ_getr (j := 151) dX9_reckons_362 fX9_80 (by first | rfl | assumption | exact M_c.at (by decide) (by decide)) rfl (by first | rfl | assumption | exact M_c.rf (by decide) rfl) ?_
        refine zJ_iload_n dX9_reckons_365 rfl ?_
        refine zJ_sipush (v := 1000) dX9_reckons_366 (by decide) ?_
        refine zJ_iload dX9_reckons_369 rfl ?_
        refine zJ_isub dX9_reckons_371 ?_
        rw [show (1000 : Int32) - nI (T.2.2.1 k.1) = nI (1000 - T.2.2.1 k.1) from na_sub (by omega)]
        refine zJ_i2l dX9_reckons_372 ?_
        rw [nI_l (show 1000 - T.2.2.1 k.1 < 2 ^ 31 by omega)]
        refine zJ_aload_n dX9_reckons_373 rfl ?_
        refine zJ_getr (j := 151) dX9_reckons_374 fX9_80 (by first | rfl | assumption | exact M_c.at (by decide) (by decide)) rfl (by first | rfl | assumption | exact M_c.rf (by decide) rfl) ?_
        refine zJ_iload_n dX9_reckons_377 rfl ?_
        refine zJ_laldN (i := x) (v := (lN (zsE T k (zce T k)))) dX9_reckons_378 (by first | rfl | assumption | exact M_c.at (by decide) (by decide)) rfl (by omega) (by decide) (by rw [show (zgw c x (fun p => lZ ((zsG T k (zce T k) (zcg T k) p * (1000 - (T.2.2.1 k.1 : Int)) + (if p = k.1 then 1000 * (zpe T k.2.1 : Int) * (T.2.2.1 k.1 : Int) else 0)) / 1000)) (T.1 0)).2.2.1 151 x = c.2.2.1 151 x by simp [zgw, zrol]]; exact hr.2.1) ?_
        refine zJ_lmul dX9_reckons_379 ?_
        rw [lN_mul, Nat.mul_comm]
        have hze : zsE T k (zce T k) ≤ 8 * 99000000000 := Nat.le_trans (Nat.div_le_self _ _) (fb_sm_bound (f := zEf T k) (c := 99000000000) (fun y hy => zEf_le hT0 hk (by omega)))
        have hze2 : zsE T k (zce T k) * (1000 - T.2.2.1 k.1) ≤ 8 * 99000000000 * 1000 := Nat.mul_le_mul hze (by omega)
        refine zJ_ldc2 dX9_reckons_380 kX9_370 ?_
        refine zJ_ldiv dX9_reckons_383 (by decide) ?_
        rw [show (1000 : Int64) = lN 1000 from rfl, lN_div (by omega) (by decide)]
        refine zJ_lastN (i := x) dX9_reckons_384 (by first | rfl | assumption | exact M_c.at (by decide) (by decide)) rfl (by omega) (by decide) ?_
        refine zJ_vret dX9_reckons_385 rfl (by decide) (by decide) (fin _ _ (zsE T k (zce T k) * (1000 - T.2.2.1 k.1) / 1000) (fun p => (zsG T k (zce T k) (zcg T k) p * (1000 - (T.2.2.1 k.1 : Int)) + (if p = k.1 then 1000 * (zpe T k.2.1 : Int) * (T.2.2.1 k.1 : Int) else 0)) / 1000) none (zFR.b.tr hr.1) ⟨(zgw_r hp0).tr zFR.e, by simp [zsl], fun p hp => ?_⟩ ?_ ?_)
        · rw [show (zsl (zgw c x (fun p => lZ ((zsG T k (zce T k) (zcg T k) p * (1000 - (T.2.2.1 k.1 : Int)) + (if p = k.1 then 1000 * (zpe T k.2.1 : Int) * (T.2.2.1 k.1 : Int) else 0)) / 1000)) (T.1 0)) 151 x (lN (zsE T k (zce T k) * (1000 - T.2.2.1 k.1) / 1000))).2.2.1 150 (x * 8 + p) = (zgw c x (fun p => lZ ((zsG T k (zce T k) (zcg T k) p * (1000 - (T.2.2.1 k.1 : Int)) + (if p = k.1 then 1000 * (zpe T k.2.1 : Int) * (T.2.2.1 k.1 : Int) else 0)) / 1000)) (T.1 0)).2.2.1 150 (x * 8 + p) by simp [zsl], zgw_at hp]
        · exact h152
        · rw [zRk, if_neg hmb, if_neg hn3, if_neg hn0, if_pos h2]
      · have hj9 : j < T.1 0 := Nat.lt_of_not_le fun hq9 => h284 ((nI_leI (by omega) (by omega)).mpr hq9)
        refine zJ_aload_n dX9_reckons_287 rfl ?_
        refine zJ_getr (j := 150) dX9_reckons_288 fX9_76 (by first | rfl | assumption | exact M_c.at (by decide) (by decide)) rfl (by first | rfl | assumption | exact M_c.rf (by decide) rfl) ?_
        refine zJ_bipush (v := 8) dX9_reckons_291 (by decide) ?_
        refine zJ_iload_n dX9_reckons_293 rfl ?_
        refine zJ_imul dX9_reckons_294 ?_
        refine zJ_iload dX9_reckons_295 rfl ?_
        refine zJ_iadd dX9_reckons_297 ?_
        refine zJ_sipush (v := 1000) dX9_reckons_298 (by decide) ?_
        refine zJ_iload dX9_reckons_301 rfl ?_
        refine zJ_isub dX9_reckons_303 ?_
        rw [show (1000 : Int32) - nI (T.2.2.1 k.1) = nI (1000 - T.2.2.1 k.1) from na_sub (by omega)]
        refine zJ_i2l dX9_reckons_304 ?_
        rw [nI_l (show 1000 - T.2.2.1 k.1 < 2 ^ 31 by omega)]
        refine zJ_aload_n dX9_reckons_305 rfl ?_
        refine zJ_getr (j := 150) dX9_reckons_306 fX9_76 (by first | rfl | assumption | exact M_c.at (by decide) (by decide)) rfl (by first | rfl | assumption | exact M_c.rf (by decide) rfl) ?_
        refine zJ_bipush (v := 8) dX9_reckons_309 (by decide) ?_
        refine zJ_iload_n dX9_reckons_311 rfl ?_
        refine zJ_imul dX9_reckons_312 ?_
        refine zJ_iload dX9_reckons_313 rfl ?_
        refine zJ_iadd dX9_reckons_315 ?_
        refine zJ_laldN (i := (x * 8 + j)) (v := (lZ (zsG T k (zce T k) (zcg T k) j))) dX9_reckons_316 (by first | rfl | assumption | exact M_c.at (by decide) (by decide)) (na_8 _ _) (by omega) (by decide) ((zgw_no (by omega)).trans (hr.2.2 j hj9)) ?_
        refine zJ_lmul dX9_reckons_317 ?_
        rw [lZ_n, lZ_mul]
        refine zJ_iload dX9_reckons_318 rfl ?_
        refine zJ_iload_n dX9_reckons_320 rfl ?_
        refine zJ_icmp_ne (tgt := 346) dX9_reckons_321 (by decide) (fun h321 => ?_) (fun h321 => ?_)
        · have hjk : ¬ j = k.1 := fun h => h321 (by rw [h])
          refine zJ_lconst (v := 0) dX9_reckons_346 (by decide) ?_
          rw [show (0 : Int64) = lZ 0 from rfl]
          refine zJ_ladd dX9_reckons_347 ?_
          rw [lZ_add]
          refine zJ_ldc2 dX9_reckons_348 kX9_370 ?_
          have hb1 := mulc (u := 1000 - T.2.2.1 k.1) (z := zsG T k (zce T k) (zcg T k) j) (c := 340560000000) (by omega) (by decide) (hsg j).1 (hsg j).2
          have hb2 := mulc (u := T.2.2.1 k.1) (z := 1000 * (zpe T k.2.1 : Int)) (c := 11187000) (by omega) (by decide) (by omega) (by omega)
          rw [Int.mul_comm (T.2.2.1 k.1 : Int)] at hb2
          refine zJ_cS2 dX9_reckons_351 sX9_382 mfX9_floor (c_Mo_floor Δ _ (((1000 - T.2.2.1 k.1 : Nat) : Int) * zsG T k (zce T k) (zcg T k) j + 0) 1000 (by omega) (by omega) (by decide) (by decide)) (Nat.le_of_ble_eq_true rfl) (by decide) (by decide) ?_
          refine zJ_lastN (i := x * 8 + j) dX9_reckons_354 (M_c.at (by decide) (by decide)) (na_8 _ _) (by omega) (by decide) ?_
          refine zJ_iinc (ls2 := fun x355 => [(5, .int x355), (4, .int (nI (T.2.2.1 k.1))), (3, .int (nI (zwS T k))), (2, .int (nI k.1)), (0, .ref 100), (1, .int (nI x))]) dX9_reckons_355 rfl (by decide) (fun _ => rfl) (fun x355 ex355 => ?_)
          refine zJ_goto (tgt := 278) dX9_reckons_358 (by decide) ?_
          rw [ex355, show nI j + Int32.ofInt 1 = nI (j + 1) from nI_1 _]
          refine zJ_w ?_ (ih (j + 1) (by omega) (by omega))
          refine (congrArg (zsl (zgw c x (fun p => lZ ((zsG T k (zce T k) (zcg T k) p * (1000 - (T.2.2.1 k.1 : Int)) + (if p = k.1 then 1000 * (zpe T k.2.1 : Int) * (T.2.2.1 k.1 : Int) else 0)) / 1000)) j) 150 (x * 8 + j)) ?_).trans zgw_s
          simp only [hjk, if_false]
          rw [Int.mul_comm, show ((1000 - T.2.2.1 k.1 : Nat) : Int) = 1000 - (T.2.2.1 k.1 : Int) by omega]
        · have hjk : j = k.1 := (nI_eq (by omega) (by omega)).mp h321
          refine zJ_iload dX9_reckons_324 rfl ?_
          refine zJ_i2l dX9_reckons_326 ?_
          refine zJ_ldc2 dX9_reckons_327 kX9_370 ?_
          refine zJ_lmul dX9_reckons_330 ?_
          refine zJ_aload_n dX9_reckons_331 rfl ?_
          refine zJ_aload_n dX9_reckons_332 rfl ?_
          refine zJ_getr (j := 140) dX9_reckons_333 fX9_53 (by first | rfl | assumption | exact M_c.at (by decide) (by decide)) rfl (by first | rfl | assumption | exact M_c.rf (by decide) rfl) ?_
          refine zJ_iload_n dX9_reckons_336 rfl ?_
          refine zJ_ialdN (i := x) (v := (nI k.2.1)) dX9_reckons_337 (by first | rfl | assumption | exact M_c.at (by decide) (by decide)) rfl (by omega) (by decide) z2 ?_
          refine zJ_cV1 dX9_reckons_338 sX9_367 mfX9_pence (c_Mo_pence Δ _ T hA2 k.2.1 hk2.1) (by first | rfl | assumption | exact M_c.at (by decide) (by decide)) rfl (Nat.le_of_ble_eq_true rfl) (by decide) (by decide) ?_
          refine zJ_i2l dX9_reckons_341 ?_
          refine zJ_lmul dX9_reckons_342 ?_
          refine zJ_goto (tgt := 347) dX9_reckons_343 (by decide) ?_
          rw [nI_l (show zpe T k.2.1 < 2 ^ 31 by omega), nI_l (show T.2.2.1 k.1 < 2 ^ 31 by omega), lZ_n, lZ_n, show (1000 : Int64) = lZ 1000 from rfl, lZ_mul, lZ_mul, show (T.2.2.1 k.1 : Int) * 1000 * (zpe T k.2.1 : Int) = 1000 * (zpe T k.2.1 : Int) * (T.2.2.1 k.1 : Int) by rw [Int.mul_comm (T.2.2.1 k.1 : Int) 1000, Int.mul_assoc, Int.mul_comm (T.2.2.1 k.1 : Int), ← Int.mul_assoc]]
          refine zJ_ladd dX9_reckons_347 ?_
          rw [lZ_add]
          refine zJ_ldc2 dX9_reckons_348 kX9_370 ?_
          have hb1 := mulc (u := 1000 - T.2.2.1 k.1) (z := zsG T k (zce T k) (zcg T k) j) (c := 340560000000) (by omega) (by decide) (hsg j).1 (hsg j).2
          have hb2 := mulc (u := T.2.2.1 k.1) (z := 1000 * (zpe T k.2.1 : Int)) (c := 11187000) (by omega) (by decide) (by omega) (by omega)
          rw [Int.mul_comm (T.2.2.1 k.1 : Int)] at hb2
          refine zJ_cS2 dX9_reckons_351 sX9_382 mfX9_floor (c_Mo_floor Δ _ (((1000 - T.2.2.1 k.1 : Nat) : Int) * zsG T k (zce T k) (zcg T k) j + (1000 * (zpe T k.2.1 : Int) * (T.2.2.1 k.1 : Int))) 1000 (by omega) (by omega) (by decide) (by decide)) (Nat.le_of_ble_eq_true rfl) (by decide) (by decide) ?_
          refine zJ_lastN (i := x * 8 + j) dX9_reckons_354 (M_c.at (by decide) (by decide)) (na_8 _ _) (by omega) (by decide) ?_
          refine zJ_iinc (ls2 := fun x355 => [(5, .int x355), (4, .int (nI (T.2.2.1 k.1))), (3, .int (nI (zwS T k))), (2, .int (nI k.1)), (0, .ref 100), (1, .int (nI x))]) dX9_reckons_355 rfl (by decide) (fun _ => rfl) (fun x355 ex355 => ?_)
          refine zJ_goto (tgt := 278) dX9_reckons_358 (by decide) ?_
          rw [ex355, show nI j + Int32.ofInt 1 = nI (j + 1) from nI_1 _]
          refine zJ_w ?_ (ih (j + 1) (by omega) (by omega))
          refine (congrArg (zsl (zgw c x (fun p => lZ ((zsG T k (zce T k) (zcg T k) p * (1000 - (T.2.2.1 k.1 : Int)) + (if p = k.1 then 1000 * (zpe T k.2.1 : Int) * (T.2.2.1 k.1 : Int) else 0)) / 1000)) j) 150 (x * 8 + j)) ?_).trans zgw_s
          simp only [hjk, if_true]
          rw [Int.mul_comm, show ((1000 - T.2.2.1 k.1 : Nat) : Int) = 1000 - (T.2.2.1 k.1 : Int) by omega]
    refine zJ_aload_n dX9_reckons_256 rfl ?_
    refine zJ_getr (j := 148) dX9_reckons_257 fX9_70 (by first | rfl | assumption | exact M_c.at (by decide) (by decide)) rfl (by first | rfl | assumption | exact M_c.rf (by decide) rfl) ?_
    refine zJ_iload_n dX9_reckons_260 rfl ?_
    refine zJ_ialdN (i := k.1) (v := (nI (T.2.1 k.1))) dX9_reckons_261 (by first | rfl | assumption | exact M_c.at (by decide) (by decide)) rfl (by omega) (by decide) (mso_c k.1 hkp) ?_
    refine zJ_iconst (v := 2) dX9_reckons_262 (by decide) ?_
    refine zJ_icmp_eq (tgt := 267) dX9_reckons_263 (by decide) (fun h263 => ?_) (fun h263 => ?_)
    · refine zJ_aload_n dX9_reckons_267 rfl ?_
      refine zJ_getr (j := 149) dX9_reckons_268 fX9_73 (by first | rfl | assumption | exact M_c.at (by decide) (by decide)) rfl (by first | rfl | assumption | exact M_c.rf (by decide) rfl) ?_
      refine zJ_iload_n dX9_reckons_271 rfl ?_
      refine zJ_ialdN (i := k.1) (v := (nI (T.2.2.1 k.1))) dX9_reckons_272 (by first | rfl | assumption | exact M_c.at (by decide) (by decide)) rfl (by omega) (by decide) (mnu_c k.1 hkp) ?_
      refine zJ_istore (ls2 := fun x273 => [(4, .int x273), (3, .int (nI (zwS T k))), (2, .int (nI k.1)), (0, .ref 100), (1, .int (nI x))]) dX9_reckons_273 (by decide) (fun _ => rfl) (fun x273 ex273 => ?_)
      obtain rfl : x273 = (nI (T.2.2.1 k.1)) := ex273
      refine zJ_iconst (v := 0) dX9_reckons_275 (by decide) ?_
      refine zJ_istore (ls2 := fun x276 => [(5, .int x276), (4, .int (nI (T.2.2.1 k.1))), (3, .int (nI (zwS T k))), (2, .int (nI k.1)), (0, .ref 100), (1, .int (nI x))]) dX9_reckons_276 (by decide) (fun _ => rfl) (fun x276 ex276 => ?_)
      obtain rfl : x276 = (nI 0) := ex276
      exact zJ_w zgw_0.symm (LL ((nI_eq (b := 2) (by omega) (by decide)).mp h263) 0 (Nat.zero_le _))
    · exact zJ_vret dX9_reckons_266 rfl (by decide) (by decide) (fin _ _ _ _ none zFR.b hr h152 (by simp only [zRk, hmb, hn3, hn0, if_false]; rw [if_neg (fun h => h263 (by rw [h]; rfl))]))
  have JB : ¬ zmb T k = 0 → T.2.1 k.1 = 3 → zJ Δ mX9_reckons (zRm 3 0 0) true w.1 QR (fun _ _ => False) 0 0 42 [(3, .int (nI (zwS T k))), (2, .int (nI k.1)), (0, .ref 100), (1, .int (nI x))] [] (zsi w 152 x (zoi none)) := by
    intro hmb hs3
    have h1k : T.2.1 k.1 = 3 := hs3
    have LB : ∀ j, j ≤ T.1 0 → zJ Δ mX9_reckons (zRm 3 0 0) true w.1 QR (fun _ _ => False) 0 0 62 [(6, .int (nI j)), (4, .long (lZ (zmm T k (zce T k) (zcg T k) j))), (3, .int (nI (zwS T k))), (2, .int (nI k.1)), (0, .ref 100), (1, .int (nI x))] [] (zsi w 152 x (zoi (zbm T k (zce T k) (zcg T k) j))) := by
      refine zup (fun j hj ih => ?_)
      have hK1 := hK0.r (zFR.b (x := x) (v := zoi (zbm T k (zce T k) (zcg T k) j)))
      have hC1 := hC.r hK0 hx hT0 (zFR.b (x := x) (v := zoi (zbm T k (zce T k) (zcg T k) j)))
      have hmr := zmm_rng hT0 hk (show j ≤ 8 by omega)
      refine zJ_iload dX9_reckons_62 rfl ?_
      refine zJ_aload_n dX9_reckons_64 rfl ?_
      refine zJ_getiN dX9_reckons_65 fX9_298 (by first | rfl | assumption | exact hM.at (by decide) (by decide)) rfl m1 ?_
      refine zJ_icmp_ge (tgt := 126) dX9_reckons_68 (by decide) (fun h68 => ?_) (fun h68 => ?_)
      · have hj9 : j = T.1 0 := Nat.le_antisymm hj ((nI_leI (by omega) (by omega)).mp h68)
        subst hj9
        rw [zbm_ch hT0 hk1] at *
        refine zJ_aload_n dX9_reckons_126 rfl ?_
        refine zJ_iload_n dX9_reckons_127 rfl ?_
        refine zJ_eV1 dX9_reckons_128 sX9_389 mfX9_opens (c_Mo_opens Δ _ T K hK1 hT0 x k hx) (hM.at (by decide) (by decide)) rfl (Nat.le_of_ble_eq_true rfl) (by decide) (by decide) (fun r c hP => ?_)
        obtain ⟨rfl, hci, hr⟩ := hP
        have hfc : zFM [50, 51, 52] w c := (zFR.b.tr hr.1).1
        have M_c : zMs c := hM.fm hfc
        have hAc : zMa c T := hA0.fm hfc (by decide)
        have hKc := hK1.r hr.1
        have hCc := hC1.r hK1 hx hT0 hr.1
        obtain ⟨-, m1_c, m3_c, m4_c, m5_c, m6_c, m7_c, m46_c, m9_c, m47_c, mso_c, mnu_c, mwt_c⟩ := hAc
        have h152 : c.2.1 152 x = zoi (zch T k (zce T k) (zcg T k)) := by rw [hci]; simp [zsi]
        cases hz : zch T k (zce T k) (zcg T k) with
        | none =>
          rw [hz] at h152
          refine zJ_aload_n dX9_reckons_131 rfl ?_
          refine zJ_getr (j := 152) dX9_reckons_132 fX9_83 (by first | rfl | assumption | exact M_c.at (by decide) (by decide)) rfl (by first | rfl | assumption | exact M_c.rf (by decide) rfl) ?_
          refine zJ_iload_n dX9_reckons_135 rfl ?_
          refine zJ_ialdN (i := x) (v := (-1)) dX9_reckons_136 (by first | rfl | assumption | exact M_c.at (by decide) (by decide)) rfl (by omega) (by decide) h152 ?_
          refine zJ_iconst (v := (-1)) dX9_reckons_137 (by decide) ?_
          refine zJ_icmp_ne (tgt := 142) dX9_reckons_138 (by decide) (fun h9 => False.elim (by revert h9; decide)) (fun _ => ?_)
          exact zJ_vret dX9_reckons_141 rfl (by decide) (by decide) (fin _ _ _ _ none zFR.b hr h152 (by simp only [zRk, hmb, hs3, hz, if_false, if_true]))
        | some q =>
          rw [hz] at h152
          obtain ⟨hq8, hqm⟩ := zch_may hz
          obtain ⟨c9, hc1, hc2, hc3, hc4, hc5⟩ := hKc.c hx hq8 hqm
          have LG : ∀ j, j ≤ T.1 0 → zJ Δ mX9_reckons (zRm 3 0 0) true w.1 QR (fun _ _ => False) 0 0 163 [(7, .int (nI j)), (6, .int (nI c9)), (4, .long (lZ (zmm T k (zce T k) (zcg T k) (T.1 0)))), (3, .int (nI (zwS T k))), (2, .int (nI k.1)), (0, .ref 100), (1, .int (nI x))] [] (zgw c x (fun p => lZ (zbs T k (zce T k) (zcg T k) q p)) j) := by
            refine zup (fun j hj ih => ?_)
            have hK2 := hKc.r (zgw_r (x := x) (v := (fun p => lZ (zbs T k (zce T k) (zcg T k) q p))) (j := j) (by omega))
            have hC2 := hCc.r hKc hx hT0 (zgw_r (x := x) (v := (fun p => lZ (zbs T k (zce T k) (zcg T k) q p))) (j := j) (by omega))
            refine zJ_iload dX9_reckons_163 rfl ?_
            refine zJ_aload_n dX9_reckons_165 rfl ?_
            refine zJ_getiN dX9_reckons_166 fX9_298 (by first | rfl | assumption | exact M_c.at (by decide) (by decide)) rfl m1_c ?_
            refine zJ_icmp_ge (tgt := 203) dX9_reckons_169 (by decide) (fun h169s => ?_) (fun h169s => ?_)
            · have hj9 : j = T.1 0 := Nat.le_antisymm hj ((nI_leI (by omega) (by omega)).mp h169s)
              subst hj9
              refine zJ_aload_n dX9_reckons_203 rfl ?_
              refine zJ_getr (j := 151) dX9_reckons_204 fX9_80 (by first | rfl | assumption | exact M_c.at (by decide) (by decide)) rfl (by first | rfl | assumption | exact M_c.rf (by decide) rfl) ?_
              refine zJ_iload_n dX9_reckons_207 rfl ?_
              refine zJ_aload_n dX9_reckons_208 rfl ?_
              refine zJ_getr (j := 151) dX9_reckons_209 fX9_80 (by first | rfl | assumption | exact M_c.at (by decide) (by decide)) rfl (by first | rfl | assumption | exact M_c.rf (by decide) rfl) ?_
              refine zJ_iload dX9_reckons_212 rfl ?_
              refine zJ_laldN (i := c9) (v := (lN (zce T k q))) dX9_reckons_214 (by first | rfl | assumption | exact M_c.at (by decide) (by decide)) rfl (by omega) (by decide) (hC2 q hq8 hqm c9 hc1).1 ?_
              refine zJ_lastN (i := x) dX9_reckons_215 (by first | rfl | assumption | exact M_c.at (by decide) (by decide)) rfl (by omega) (by decide) ?_
              refine zJ_goto (tgt := 385) dX9_reckons_216 (by decide) ?_
              refine zJ_vret dX9_reckons_385 rfl (by decide) (by decide) (fin _ _ (zce T k q) (zbs T k (zce T k) (zcg T k) q) (some q) (zFR.b.tr hr.1) ⟨(zgw_r hp0).tr zFR.e, by simp [zsl], fun p hp => ?_⟩ h152 (by simp only [zRk, hmb, hs3, hz, if_false, if_true]))
              rw [show (zsl (zgw c x (fun p => lZ (zbs T k (zce T k) (zcg T k) q p)) (T.1 0)) 151 x (lN (zce T k q))).2.2.1 150 (x * 8 + p) = (zgw c x (fun p => lZ (zbs T k (zce T k) (zcg T k) q p)) (T.1 0)).2.2.1 150 (x * 8 + p) by simp [zsl], zgw_at hp]
            · have hj9 : j < T.1 0 := Nat.lt_of_not_le fun hq9 => h169s ((nI_leI (by omega) (by omega)).mpr hq9)
              refine zJ_aload_n dX9_reckons_172 rfl ?_
              refine zJ_getr (j := 150) dX9_reckons_173 fX9_76 (by first | rfl | assumption | exact M_c.at (by decide) (by decide)) rfl (by first | rfl | assumption | exact M_c.rf (by decide) rfl) ?_
              refine zJ_bipush (v := 8) dX9_reckons_176 (by decide) ?_
              refine zJ_iload_n dX9_reckons_178 rfl ?_
              refine zJ_imul dX9_reckons_179 ?_
              refine zJ_iload dX9_reckons_180 rfl ?_
              refine zJ_iadd dX9_reckons_182 ?_
              refine zJ_aload_n dX9_reckons_183 rfl ?_
              refine zJ_iload_n dX9_reckons_184 rfl ?_
              refine zJ_aload_n dX9_reckons_185 rfl ?_
              refine zJ_getr (j := 152) dX9_reckons_186 fX9_83 (by first | rfl | assumption | exact M_c.at (by decide) (by decide)) rfl (by first | rfl | assumption | exact M_c.rf (by decide) rfl) ?_
              refine zJ_iload_n dX9_reckons_189 rfl ?_
              refine zJ_ialdN (i := x) (v := (nI q)) dX9_reckons_190 (by first | rfl | assumption | exact M_c.at (by decide) (by decide)) rfl (by omega) (by decide) h152 ?_
              refine zJ_iload dX9_reckons_191 rfl ?_
              refine zJ_cV3 dX9_reckons_193 sX9_378 mfX9_bySending (c_Mo_bySending Δ _ T K hK2 hT0 x k hx hC2 q j hq8 hqm hj9) (by first | rfl | assumption | exact M_c.at (by decide) (by decide)) rfl (Nat.le_of_ble_eq_true rfl) (by decide) (by decide) ?_
              refine zJ_lastN (i := (x * 8 + j)) dX9_reckons_196 (by first | rfl | assumption | exact M_c.at (by decide) (by decide)) (na_8 _ _) (by omega) (by decide) ?_
              refine zJ_iinc (ls2 := fun x197s => [(7, .int x197s), (6, .int (nI c9)), (4, .long (lZ (zmm T k (zce T k) (zcg T k) (T.1 0)))), (3, .int (nI (zwS T k))), (2, .int (nI k.1)), (0, .ref 100), (1, .int (nI x))]) dX9_reckons_197 rfl (by decide) (fun _ => rfl) (fun x197s ex197s => ?_)
              refine zJ_goto (tgt := 163) dX9_reckons_200 (by decide) ?_
              refine zJ_ls [(7, .int x197s), (6, .int (nI c9)), (4, .long (lZ (zmm T k (zce T k) (zcg T k) (T.1 0)))), (3, .int (nI (zwS T k))), (2, .int (nI k.1)), (0, .ref 100), (1, .int (nI x))] (by simp) ?_
              rw [ex197s, show nI j + Int32.ofInt 1 = nI (j + 1) from nI_1 _]
              exact zJ_w (zgw_s (v := (fun p => lZ (zbs T k (zce T k) (zcg T k) q p)))) (ih (j + 1) (by omega) (by omega))
          refine zJ_aload_n dX9_reckons_131 rfl ?_
          refine zJ_getr (j := 152) dX9_reckons_132 fX9_83 (by first | rfl | assumption | exact M_c.at (by decide) (by decide)) rfl (by first | rfl | assumption | exact M_c.rf (by decide) rfl) ?_
          refine zJ_iload_n dX9_reckons_135 rfl ?_
          refine zJ_ialdN (i := x) (v := (nI q)) dX9_reckons_136 (by first | rfl | assumption | exact M_c.at (by decide) (by decide)) rfl (by omega) (by decide) h152 ?_
          refine zJ_iconst (v := (-1)) dX9_reckons_137 (by decide) ?_
          refine zJ_icmp_ne (tgt := 142) dX9_reckons_138 (by decide) (fun h138u => ?_) (fun h9 => absurd h9 (nI_m1 (show q < 2 ^ 31 by omega)))
          refine zJ_aload_n dX9_reckons_142 rfl ?_
          refine zJ_getr (j := 143) dX9_reckons_143 fX9_63 (by first | rfl | assumption | exact M_c.at (by decide) (by decide)) rfl (by first | rfl | assumption | exact M_c.rf (by decide) rfl) ?_
          refine zJ_bipush (v := 8) dX9_reckons_146 (by decide) ?_
          refine zJ_iload_n dX9_reckons_148 rfl ?_
          refine zJ_imul dX9_reckons_149 ?_
          refine zJ_aload_n dX9_reckons_150 rfl ?_
          refine zJ_getr (j := 152) dX9_reckons_151 fX9_83 (by first | rfl | assumption | exact M_c.at (by decide) (by decide)) rfl (by first | rfl | assumption | exact M_c.rf (by decide) rfl) ?_
          refine zJ_iload_n dX9_reckons_154 rfl ?_
          refine zJ_ialdN (i := x) (v := (nI q)) dX9_reckons_155 (by first | rfl | assumption | exact M_c.at (by decide) (by decide)) rfl (by omega) (by decide) h152 ?_
          refine zJ_iadd dX9_reckons_156 ?_
          refine zJ_ialdN (i := (x * 8 + q)) (v := (nI c9)) dX9_reckons_157 (by first | rfl | assumption | exact M_c.at (by decide) (by decide)) (na_8 _ _) (by omega) (by decide) hc2 ?_
          refine zJ_istore (ls2 := fun x158u => [(6, .int x158u), (4, .long (lZ (zmm T k (zce T k) (zcg T k) (T.1 0)))), (3, .int (nI (zwS T k))), (2, .int (nI k.1)), (0, .ref 100), (1, .int (nI x))]) dX9_reckons_158 (by decide) (fun _ => rfl) (fun x158u ex158u => ?_)
          obtain rfl : x158u = (nI c9) := ex158u
          refine zJ_iconst (v := 0) dX9_reckons_160 (by decide) ?_
          refine zJ_istore (ls2 := fun x161u => [(7, .int x161u), (6, .int (nI c9)), (4, .long (lZ (zmm T k (zce T k) (zcg T k) (T.1 0)))), (3, .int (nI (zwS T k))), (2, .int (nI k.1)), (0, .ref 100), (1, .int (nI x))]) dX9_reckons_161 (by decide) (fun _ => rfl) (fun x161u ex161u => ?_)
          obtain rfl : x161u = (nI 0) := ex161u
          exact zJ_w zgw_0.symm (LG 0 (Nat.zero_le _))
      · have hj9 : j < T.1 0 := Nat.lt_of_not_le fun hq9 => h68 ((nI_leI (by omega) (by omega)).mpr hq9)
        cases hmy : zmay T k j with
        | true =>
          obtain ⟨c, hc1, hc2, hc3, hc4, hc5⟩ := hK1.c hx (by omega) hmy
          have hwr := zwo_rng hT0 (k := k) (zce_le hT0 hk (show j < 8 by omega) hmy) (zcg_rng hT0 hk (p := k.1) (show j < 8 by omega) hmy)
          refine zJ_aload_n dX9_reckons_71 rfl ?_
          refine zJ_getr (j := 143) dX9_reckons_72 fX9_63 (by first | rfl | assumption | exact hM.at (by decide) (by decide)) rfl (by first | rfl | assumption | exact hM.rf (by decide) rfl) ?_
          refine zJ_bipush (v := 8) dX9_reckons_75 (by decide) ?_
          refine zJ_iload_n dX9_reckons_77 rfl ?_
          refine zJ_imul dX9_reckons_78 ?_
          refine zJ_iload dX9_reckons_79 rfl ?_
          refine zJ_iadd dX9_reckons_81 ?_
          refine zJ_ialdN (i := (x * 8 + j)) (v := (nI c)) dX9_reckons_82 (by first | rfl | assumption | exact hM.at (by decide) (by decide)) (na_8 _ _) (by omega) (by decide) hc2 ?_
          refine zJ_iconst (v := (-1)) dX9_reckons_83 (by decide) ?_
          refine zJ_icmp_eq (tgt := 120) dX9_reckons_84 (by decide) (fun h9 => absurd h9 (nI_m1 (by omega))) (fun h84t => ?_)
          refine zJ_aload_n dX9_reckons_87 rfl ?_
          refine zJ_iload_n dX9_reckons_88 rfl ?_
          refine zJ_iload dX9_reckons_89 rfl ?_
          refine zJ_cV2 dX9_reckons_91 sX9_392 mfX9_worth (c_Mo_worth Δ _ T K hK1 hT0 x k hx hC1 j (by omega) hmy) (by first | rfl | assumption | exact hM.at (by decide) (by decide)) rfl (Nat.le_of_ble_eq_true rfl) (by decide) (by decide) ?_
          refine zJ_lload dX9_reckons_94 rfl ?_
          refine zJ_lc_gt (tgt := 103) dX9_reckons_96 dX9_reckons_97 (by decide) (fun h97t => ?_) (fun h97t => ?_)
          · have hlt : zmm T k (zce T k) (zcg T k) j < zwo T k (zce T k) (zcg T k) j := (lZ_lt (by omega) (by omega) (by omega) (by omega)).mp h97t
            refine zJ_aload_n dX9_reckons_103 rfl ?_
            refine zJ_iload_n dX9_reckons_104 rfl ?_
            refine zJ_iload dX9_reckons_105 rfl ?_
            refine zJ_cV2 dX9_reckons_107 sX9_392 mfX9_worth (c_Mo_worth Δ _ T K hK1 hT0 x k hx hC1 j (by omega) hmy) (by first | rfl | assumption | exact hM.at (by decide) (by decide)) rfl (Nat.le_of_ble_eq_true rfl) (by decide) (by decide) ?_
            refine zJ_lstore (ls2 := fun x110t => [(4, .long x110t), (6, .int (nI j)), (3, .int (nI (zwS T k))), (2, .int (nI k.1)), (0, .ref 100), (1, .int (nI x))]) dX9_reckons_110 (by decide) (fun _ => rfl) (fun x110t ex110t => ?_)
            refine zJ_aload_n dX9_reckons_112 rfl ?_
            refine zJ_getr (j := 152) dX9_reckons_113 fX9_83 (by first | rfl | assumption | exact hM.at (by decide) (by decide)) rfl (by first | rfl | assumption | exact hM.rf (by decide) rfl) ?_
            refine zJ_iload_n dX9_reckons_116 rfl ?_
            refine zJ_iload dX9_reckons_117 rfl ?_
            refine zJ_iastN (i := x) dX9_reckons_119 (by first | rfl | assumption | exact hM.at (by decide) (by decide)) rfl (by omega) (by decide) ?_
            refine zJ_ls [(6, .int (nI j)), (4, .long x110t), (3, .int (nI (zwS T k))), (2, .int (nI k.1)), (0, .ref 100), (1, .int (nI x))] (by simp) ?_
            refine zJ_iinc (ls2 := fun x120 => [(6, .int x120), (4, .long x110t), (3, .int (nI (zwS T k))), (2, .int (nI k.1)), (0, .ref 100), (1, .int (nI x))]) dX9_reckons_120 rfl (by decide) (fun _ => rfl) (fun x120 ex120 => ?_)
            refine zJ_goto (tgt := 62) dX9_reckons_123 (by decide) ?_
            rw [ex120, show nI j + Int32.ofInt 1 = nI (j + 1) from nI_1 _]
            have e : zbm T k (zce T k) (zcg T k) (j + 1) = some j := by rw [zbm_s, if_pos ⟨hmy, hlt⟩]
            rw [ex110t, show lZ (zwo T k (zce T k) (zcg T k) j) = lZ (zmm T k (zce T k) (zcg T k) (j + 1)) by simp only [zmm, e]]
            refine zJ_w ?_ (ih (j + 1) (by omega) (by omega))
            rw [zsi_si, e]; rfl
          · have hnlt : ¬ zmm T k (zce T k) (zcg T k) j < zwo T k (zce T k) (zcg T k) j := fun h => h97t ((lZ_lt (by omega) (by omega) (by omega) (by omega)).mpr h)
            refine zJ_goto (tgt := 120) dX9_reckons_100 (by decide) ?_
            refine zJ_ls [(6, .int (nI j)), (4, .long (lZ (zmm T k (zce T k) (zcg T k) j))), (3, .int (nI (zwS T k))), (2, .int (nI k.1)), (0, .ref 100), (1, .int (nI x))] (by simp) ?_
            refine zJ_iinc (ls2 := fun x120 => [(6, .int x120), (4, .long (lZ (zmm T k (zce T k) (zcg T k) j))), (3, .int (nI (zwS T k))), (2, .int (nI k.1)), (0, .ref 100), (1, .int (nI x))]) dX9_reckons_120 rfl (by decide) (fun _ => rfl) (fun x120 ex120 => ?_)
            refine zJ_goto (tgt := 62) dX9_reckons_123 (by decide) ?_
            rw [ex120, show nI j + Int32.ofInt 1 = nI (j + 1) from nI_1 _]
            have e : zbm T k (zce T k) (zcg T k) (j + 1) = zbm T k (zce T k) (zcg T k) j := by rw [zbm_s, if_neg (fun h => hnlt h.2)]
            rw [show zmm T k (zce T k) (zcg T k) j = zmm T k (zce T k) (zcg T k) (j + 1) by simp only [zmm, e], ← e]
            exact ih (j + 1) (by omega) (by omega)
        | false =>
          refine zJ_aload_n dX9_reckons_71 rfl ?_
          refine zJ_getr (j := 143) dX9_reckons_72 fX9_63 (by first | rfl | assumption | exact hM.at (by decide) (by decide)) rfl (by first | rfl | assumption | exact hM.rf (by decide) rfl) ?_
          refine zJ_bipush (v := 8) dX9_reckons_75 (by decide) ?_
          refine zJ_iload_n dX9_reckons_77 rfl ?_
          refine zJ_imul dX9_reckons_78 ?_
          refine zJ_iload dX9_reckons_79 rfl ?_
          refine zJ_iadd dX9_reckons_81 ?_
          refine zJ_ialdN (i := (x * 8 + j)) (v := (-1)) dX9_reckons_82 (by first | rfl | assumption | exact hM.at (by decide) (by decide)) (na_8 _ _) (by omega) (by decide) (hK1.n hx (by omega) hmy) ?_
          refine zJ_iconst (v := (-1)) dX9_reckons_83 (by decide) ?_
          refine zJ_icmp_eq (tgt := 120) dX9_reckons_84 (by decide) (fun _ => ?_) (fun h9 => False.elim (by revert h9; decide))
          refine zJ_ls [(6, .int (nI j)), (4, .long (lZ (zmm T k (zce T k) (zcg T k) j))), (3, .int (nI (zwS T k))), (2, .int (nI k.1)), (0, .ref 100), (1, .int (nI x))] (by simp) ?_
          refine zJ_iinc (ls2 := fun x120 => [(6, .int x120), (4, .long (lZ (zmm T k (zce T k) (zcg T k) j))), (3, .int (nI (zwS T k))), (2, .int (nI k.1)), (0, .ref 100), (1, .int (nI x))]) dX9_reckons_120 rfl (by decide) (fun _ => rfl) (fun x120 ex120 => ?_)
          refine zJ_goto (tgt := 62) dX9_reckons_123 (by decide) ?_
          rw [ex120, show nI j + Int32.ofInt 1 = nI (j + 1) from nI_1 _]
          have e : zbm T k (zce T k) (zcg T k) (j + 1) = zbm T k (zce T k) (zcg T k) j := by rw [zbm_s, if_neg (fun h => by rw [hmy] at h; cases h.1)]
          rw [show zmm T k (zce T k) (zcg T k) j = zmm T k (zce T k) (zcg T k) (j + 1) by simp only [zmm, e], ← e]
          exact ih (j + 1) (by omega) (by omega)
    refine zJ_ldc2 dX9_reckons_42 kX9_370 ?_
    refine zJ_aload_n dX9_reckons_45 rfl ?_
    refine zJ_aload_n dX9_reckons_46 rfl ?_
    refine zJ_getr (j := 140) dX9_reckons_47 fX9_53 (by first | rfl | assumption | exact hM.at (by decide) (by decide)) rfl (by first | rfl | assumption | exact hM.rf (by decide) rfl) ?_
    refine zJ_iload_n dX9_reckons_50 rfl ?_
    refine zJ_ialdN (i := x) (v := (nI k.2.1)) dX9_reckons_51 (by first | rfl | assumption | exact hM.at (by decide) (by decide)) rfl (by omega) (by decide) y2 ?_
    refine zJ_cV1 dX9_reckons_52 sX9_367 mfX9_pence (c_Mo_pence Δ _ T (hA0.fm (zFR.b (x := x) (v := zoi none)).1 (by decide)) k.2.1 hk2.1) (by first | rfl | assumption | exact hM.at (by decide) (by decide)) rfl (Nat.le_of_ble_eq_true rfl) (by decide) (by decide) ?_
    refine zJ_i2l dX9_reckons_55 ?_
    rw [nI_l (show zpe T k.2.1 < 2 ^ 31 by omega)]
    refine zJ_lmul dX9_reckons_56 ?_
    refine zJ_lstore (ls2 := fun x57 => [(4, .long x57), (3, .int (nI (zwS T k))), (2, .int (nI k.1)), (0, .ref 100), (1, .int (nI x))]) dX9_reckons_57 (by decide) (fun _ => rfl) (fun x57 ex57 => ?_)
    obtain rfl : x57 = (lZ (zmm T k (zce T k) (zcg T k) 0)) := (by rw [ex57, lZ_n, show (1000 : Int64) = lZ 1000 from rfl, lZ_mul]; rfl)
    refine zJ_iconst (v := 0) dX9_reckons_59 (by decide) ?_
    refine zJ_istore (ls2 := fun x60 => [(6, .int x60), (4, .long (lZ (zmm T k (zce T k) (zcg T k) 0))), (3, .int (nI (zwS T k))), (2, .int (nI k.1)), (0, .ref 100), (1, .int (nI x))]) dX9_reckons_60 (by decide) (fun _ => rfl) (fun x60 ex60 => ?_)
    obtain rfl : x60 = (nI 0) := ex60
    exact LB 0 (Nat.zero_le _)
  refine zJ_aload_n dX9_reckons_0 rfl ?_
  refine zJ_getr (j := 139) dX9_reckons_1 fX9_50 (by first | rfl | assumption | exact hM.at (by decide) (by decide)) rfl (by first | rfl | assumption | exact hM.rf (by decide) rfl) ?_
  refine zJ_iload_n dX9_reckons_4 rfl ?_
  refine zJ_ialdN (i := x) (v := (nI k.1)) dX9_reckons_5 (by first | rfl | assumption | exact hM.at (by decide) (by decide)) rfl (by omega) (by decide) y1 ?_
  refine zJ_istore_n (ls2 := fun x6 => [(2, .int x6), (0, .ref 100), (1, .int (nI x))]) dX9_reckons_6 (by decide) (fun _ => rfl) (fun x6 ex6 => ?_)
  obtain rfl : x6 = (nI k.1) := ex6
  refine zJ_aload_n dX9_reckons_7 rfl ?_
  refine zJ_iload_n dX9_reckons_8 rfl ?_
  refine zJ_cV1 dX9_reckons_9 sX9_386 mfX9_weightsOf (c_Mo_weightsOf Δ w T K hK0 hT0 x k hx) (by first | rfl | assumption | exact hM.at (by decide) (by decide)) rfl (Nat.le_of_ble_eq_true rfl) (by decide) (by decide) ?_
  refine zJ_istore_n (ls2 := fun x12 => [(3, .int x12), (2, .int (nI k.1)), (0, .ref 100), (1, .int (nI x))]) dX9_reckons_12 (by decide) (fun _ => rfl) (fun x12 ex12 => ?_)
  obtain rfl : x12 = (nI (zwS T k)) := ex12
  refine zJ_aload_n dX9_reckons_13 rfl ?_
  refine zJ_getr (j := 152) dX9_reckons_14 fX9_83 (by first | rfl | assumption | exact hM.at (by decide) (by decide)) rfl (by first | rfl | assumption | exact hM.rf (by decide) rfl) ?_
  refine zJ_iload_n dX9_reckons_17 rfl ?_
  refine zJ_iconst (v := (-1)) dX9_reckons_18 (by decide) ?_
  refine zJ_iastN (i := x) dX9_reckons_19 (by first | rfl | assumption | exact hM.at (by decide) (by decide)) rfl (by omega) (by decide) ?_
  refine zJ_iload_n dX9_reckons_20 rfl ?_
  refine zJ_if_ne (tgt := 32) dX9_reckons_21 (by decide) (fun h21 => ?_) (fun h21 => ?_)
  · have hmb : ¬ zmb T k = 0 := fun h => h21 (by rw [zwS_0 h]; rfl)
    refine zJ_aload_n dX9_reckons_32 rfl ?_
    refine zJ_getr (j := 148) dX9_reckons_33 fX9_70 (by first | rfl | assumption | exact hM.at (by decide) (by decide)) rfl (by first | rfl | assumption | exact hM.rf (by decide) rfl) ?_
    refine zJ_iload_n dX9_reckons_36 rfl ?_
    refine zJ_ialdN (i := k.1) (v := (nI (T.2.1 k.1))) dX9_reckons_37 (by first | rfl | assumption | exact hM.at (by decide) (by decide)) rfl (by omega) (by decide) (mso k.1 hkp) ?_
    refine zJ_iconst (v := 3) dX9_reckons_38 (by decide) ?_
    refine zJ_icmp_ne (tgt := 219) dX9_reckons_39 (by decide) (fun h39 => ?_) (fun h39 => ?_)
    · have hn3 : ¬ T.2.1 k.1 = 3 := fun h => h39 (by rw [h]; rfl)
      refine zJ_aload_n dX9_reckons_219 rfl ?_
      refine zJ_getr (j := 148) dX9_reckons_220 fX9_70 (by first | rfl | assumption | exact hM.at (by decide) (by decide)) rfl (by first | rfl | assumption | exact hM.rf (by decide) rfl) ?_
      refine zJ_iload_n dX9_reckons_223 rfl ?_
      refine zJ_ialdN (i := k.1) (v := (nI (T.2.1 k.1))) dX9_reckons_224 (by first | rfl | assumption | exact hM.at (by decide) (by decide)) rfl (by omega) (by decide) (mso k.1 hkp) ?_
      refine zJ_if_ne (tgt := 250) dX9_reckons_225 (by decide) (fun h225 => ?_) (fun h225 => ?_)
      · exact J250 hmb hn3 (fun h => h225 (by rw [h.1]; rfl))
      · have h0s : T.2.1 k.1 = 0 := (nI_eq (b := 0) (by omega) (by decide)).mp h225
        refine zJ_aload_n dX9_reckons_228 rfl ?_
        refine zJ_iload_n dX9_reckons_229 rfl ?_
        refine zJ_aload_n dX9_reckons_230 rfl ?_
        refine zJ_getr (j := 140) dX9_reckons_231 fX9_53 (by first | rfl | assumption | exact hM.at (by decide) (by decide)) rfl (by first | rfl | assumption | exact hM.rf (by decide) rfl) ?_
        refine zJ_iload_n dX9_reckons_234 rfl ?_
        refine zJ_ialdN (i := x) (v := (nI k.2.1)) dX9_reckons_235 (by first | rfl | assumption | exact hM.at (by decide) (by decide)) rfl (by omega) (by decide) y2 ?_
        refine zJ_cV2 dX9_reckons_236 sX9_396 mfX9_isOpenedAt (c_Mo_isOpenedAt Δ _ T (hA0.fm (zFR.b (x := x) (v := -1)).1 (by decide)) hT0 k.1 k.2.1 hkp ⟨hk2.1, by omega⟩) (by first | rfl | assumption | exact hM.at (by decide) (by decide)) rfl (Nat.le_of_ble_eq_true rfl) (by decide) (by decide) ?_
        refine zJ_if_eq (tgt := 250) dX9_reckons_239 (by decide) (fun h239 => ?_) (fun h239 => ?_)
        · exact J250 hmb hn3 (fun h => by rw [if_pos h.2] at h239; exact absurd h239 (by decide))
        · have hop : T.2.2.1 k.1 ≤ zfl T k.2.1 := Classical.byContradiction fun h => h239 (by rw [if_neg h])
          refine zJ_aload_n dX9_reckons_242 rfl ?_
          refine zJ_iload_n dX9_reckons_243 rfl ?_
          refine zJ_eV1 dX9_reckons_244 sX9_389 mfX9_opens (c_Mo_opens Δ _ T K (hK0.r (zFR.b (x := x) (v := -1))) hT0 x k hx) (hM.at (by decide) (by decide)) rfl (Nat.le_of_ble_eq_true rfl) (by decide) (by decide) (fun r c hP => ?_)
          obtain ⟨rfl, hci, hr⟩ := hP
          refine zJ_goto (tgt := 385) dX9_reckons_247 (by decide) ?_
          exact zJ_vret dX9_reckons_385 rfl (by decide) (by decide) (fin _ _ _ _ none zFR.b hr (by rw [hci]; simp [zsi, zoi]) (by simp only [zRk, hmb, hn3, if_false]; rw [if_pos ⟨h0s, hop⟩]))
    · exact JB hmb ((nI_eq (b := 3) (by omega) (by decide)).mp h39)
  · have hmb : zmb T k = 0 := Classical.byContradiction fun h => by
      have h1 := zwS_pos h
      have := (nI_eq (b := 0) (by omega) (by decide)).mp h21
      omega
    refine zJ_aload_n dX9_reckons_24 rfl ?_
    refine zJ_iload_n dX9_reckons_25 rfl ?_
    refine zJ_eV1 dX9_reckons_26 sX9_389 mfX9_opens (c_Mo_opens Δ _ T K (hK0.r (zFR.b (x := x) (v := -1))) hT0 x k hx) (hM.at (by decide) (by decide)) rfl (Nat.le_of_ble_eq_true rfl) (by decide) (by decide) (fun r c hP => ?_)
    obtain ⟨rfl, hci, hr⟩ := hP
    refine zJ_goto (tgt := 385) dX9_reckons_29 (by decide) ?_
    exact zJ_vret dX9_reckons_385 rfl (by decide) (by decide) (fin _ _ _ _ none zFR.b hr (by rw [hci]; simp [zsi, zoi]) (by simp only [zRk, hmb, if_true]))
theorem zUm.top {w : zW} {T : zTo} {K : List zKy} {n : Nat} (h : K.length ≤ n) : zUm w T K n := fun x k hx hk => absurd (List.getElem?_eq_some_iff.mp hk).1 (by omega)
set_option maxRecDepth 100000 in
theorem c_Mo_asks (Δ : zD) (w : zW) (T : zTo) (hA : zMa w T) (hT : zTok T) (hpos : 0 < T.1 0) : zMp Δ 4 yX9_asks mX9_asks [.ref 100, .int (nI (T.1 12))] w (fun a c => zFM [38, 39, 40, 41, 42, 43, 44, 45, 50, 51, 52] w c ∧ ((a = some (.int 1) ∧ ∃ K, zMK c T K ∧ zUm c T K 0) ∨ (a = some (.int 0) ∧ ¬ zfit T 20000))) := by
  refine zMp.of mfX9_asks (Nat.le_of_ble_eq_true rfl) (fun QR hQ => ?_)
  have hM := hA.1
  have L : ∀ (K : List zKy) n, n ≤ K.length → ∀ c, zFM [38, 39, 40, 41, 42, 43, 44, 45, 50, 51, 52] w c → zMK c T K → zUm c T K n → zJ Δ mX9_asks (zRm 4 0 0) true w.1 QR (fun _ _ => False) 0 0 17 [(2, .int (nI n - 1)), (0, .ref 100), (1, .int (nI (T.1 12)))] [] c := by
    intro K n
    induction n with
    | zero =>
      intro _ c hf hK hU
      refine zJ_iload_n dX9_asks_17 rfl ?_
      refine zJ_if_lt (tgt := 32) dX9_asks_18 (by decide) (fun _ => ?_) (fun h9 => absurd (by decide : (nI 0 - 1 : Int32) < 0) h9)
      refine zJ_iconst (v := 1) dX9_asks_32 (by decide) ?_
      exact zJ_zret dX9_asks_33 rfl rfl (by decide) (by decide) (hQ _ _ ⟨hf, Or.inl ⟨rfl, K, hK, hU⟩⟩)
    | succ n ih =>
      intro hn c hf hK hU
      have hKR := hK.2.1.2.2.1
      have em : nI (n + 1) - 1 = nI n := na_sub (b := 1) (by omega)
      rw [em]
      obtain ⟨k, hk⟩ : ∃ k, K[n]? = some k := ⟨_, List.getElem?_eq_getElem (show n < K.length by omega)⟩
      refine zJ_iload_n dX9_asks_17 rfl ?_
      refine zJ_if_lt (tgt := 32) dX9_asks_18 (by decide) (fun h9 => absurd ((nI_ltI (b := 0) (by omega) (by decide)).mp h9) (by omega)) (fun _ => ?_)
      refine zJ_aload_n dX9_asks_21 rfl ?_
      refine zJ_iload_n dX9_asks_22 rfl ?_
      refine zJ_eV1 dX9_asks_23 sX9_406 mfX9_reckons (c_Mo_reckons Δ c T K hK hT n k hk (hU.ch hK.2.2.1 hk)) (hK.1.1.at (by decide) (by decide)) rfl (Nat.le_of_ble_eq_true rfl) (by decide) (by decide) (fun r d hP => ?_)
      obtain ⟨rfl, hr, h3⟩ := hP
      refine zJ_iinc (ls2 := fun x26 => [(2, .int x26), (0, .ref 100), (1, .int (nI (T.1 12)))]) dX9_asks_26 rfl (by decide) (fun _ => rfl) (fun x26 ex26 => ?_)
      refine zJ_goto (tgt := 17) dX9_asks_29 (by decide) ?_
      rw [ex26, na_dec]
      exact ih (by omega) d (hf.tr (hr.1.1.mono (by decide))) (hK.r hr.1) (hr.1.up hU hT hk hr.2.1 hr.2.2 h3)
  refine zJ_aload_n dX9_asks_0 rfl ?_
  refine zJ_iload_n dX9_asks_1 rfl ?_
  refine zJ_eV1 dX9_asks_2 sX9_403 mfX9_builds (c_Mo_builds Δ w T hA hT hpos) (hM.at (by decide) (by decide)) rfl (Nat.le_of_ble_eq_true rfl) (by decide) (by decide) (fun r c hP => ?_)
  obtain ⟨hf, ⟨rfl, K, hK⟩ | ⟨rfl, hno⟩⟩ := hP
  · refine zJ_if_ne (tgt := 10) dX9_asks_5 (by decide) (fun _ => ?_) (fun h9 => False.elim (by revert h9; decide))
    refine zJ_aload_n dX9_asks_10 rfl ?_
    refine zJ_getiN dX9_asks_11 fX9_354 (hK.1.1.at (by decide) (by decide)) rfl hK.2.1.2.1 ?_
    refine zJ_iconst (v := 1) dX9_asks_14 (by decide) ?_
    refine zJ_isub dX9_asks_15 ?_
    refine zJ_istore_n (ls2 := fun x16 => [(2, .int x16), (0, .ref 100), (1, .int (nI (T.1 12)))]) dX9_asks_16 (by decide) (fun _ => rfl) (fun x16 ex16 => ?_)
    rw [ex16]
    exact L K K.length (Nat.le_refl _) c (hf.mono (by decide)) hK (zUm.top (Nat.le_refl _))
  · refine zJ_if_ne (tgt := 10) dX9_asks_5 (by decide) (fun h9 => absurd rfl h9) (fun _ => ?_)
    refine zJ_iconst (v := 0) dX9_asks_8 (by decide) ?_
    exact zJ_zret dX9_asks_9 rfl rfl (by decide) (by decide) (hQ _ _ ⟨hf.mono (by decide), Or.inr ⟨rfl, hno⟩⟩)
