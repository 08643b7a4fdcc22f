/-! the model: what is reckoned: leaves -/
theorem nI_m1 {c : Nat} (h : c < 2 ^ 31) : ¬ nI c = -1 := fun e => by
  have := congrArg Int32.toInt e
  rw [nI_toInt h] at this
  have h2 : (-1 : Int32).toInt = -1 := rfl
  omega
theorem zMK.c {w : zW} {T : zTo} {K : List zKy} (h : zMK w T K) {x : Nat} {k : zKy} (hx : K[x]? = some k) {y : Nat} (hy : y < 8) (hm : zmay T k y = true) : ∃ c : Nat, K[c]? = some (zbk T k y) ∧ w.2.1 143 (x * 8 + y) = nI c ∧ c < K.length ∧ c < 20000 ∧ x < c := by
  obtain ⟨c, h1, h2⟩ := (h.2.2.2 x k hx y hy).1 hm
  have h3 := (List.getElem?_eq_some_iff.mp h1).1
  have h4 := h.2.1.2.2.1
  exact ⟨c, h1, h2, h3, by omega, zall_up h.2.2.1 hx h1⟩
theorem zMK.n {w : zW} {T : zTo} {K : List zKy} (h : zMK w T K) {x : Nat} {k : zKy} (hx : K[x]? = some k) {y : Nat} (hy : y < 8) (hm : zmay T k y = false) : w.2.1 143 (x * 8 + y) = -1 := (h.2.2.2 x k hx y hy).2 hm
theorem zMK.fm {w c : zW} {T : zTo} {K : List zKy} {l : List Nat} (h : zMK w T K) (hf : zFM l w c) (hd : ∀ k ∈ ([1, 3, 4, 5, 6, 7, 9, 12, 38, 39, 40, 41, 42, 43, 46, 47, 48, 49] : List Nat), k ∉ l) : zMK c T K := by
  refine ⟨h.1.fm hf (fun k hk => hd k ((by decide : ∀ k ∈ ([1, 3, 4, 5, 6, 7, 9, 12, 46, 47, 48, 49] : List Nat), k ∈ ([1, 3, 4, 5, 6, 7, 9, 12, 38, 39, 40, 41, 42, 43, 46, 47, 48, 49] : List Nat)) k hk)), h.2.1.fm hf (fun k hk => hd k ((by decide : ∀ k ∈ ([38, 39, 40, 41, 42] : List Nat), k ∈ ([1, 3, 4, 5, 6, 7, 9, 12, 38, 39, 40, 41, 42, 43, 46, 47, 48, 49] : List Nat)) k hk)), h.2.2.1, fun x k hx y hy => ?_⟩
  have h1 := h.2.2.2 x k hx y hy
  have h2 : c.2.1 143 (x * 8 + y) = w.2.1 143 (x * 8 + y) := hf.ar (k := 43) (hd 43 (by decide)) (by decide)
  unfold zNx at *
  rw [h2]; exact h1
theorem sm_pp {f : Nat → Nat} {p : Nat} (hp : p ≤ 8) (h : ∀ y, p ≤ y → y < 8 → f y = 0) : fb_sm f p = fb_sm f 8 := by
  have := fb_sm_split f p (8 - p)
  rw [show p + (8 - p) = 8 by omega] at this
  rw [this, sm_zero (u := fun k => f (p + k)) (fun y hy => h _ (by omega) (by omega)), Nat.add_zero]
theorem si_zero {u : Nat → Int} : ∀ {n : Nat}, (∀ y, y < n → u y = 0) → fb_si u n = 0
  | 0, _ => rfl
  | n + 1, h => by rw [fb_si_succ, si_zero (fun y hy => h y (by omega)), h n (by omega)]; rfl
theorem si_pp {f : Nat → Int} {p : Nat} (hp : p ≤ 8) (h : ∀ y, p ≤ y → y < 8 → f y = 0) : fb_si f p = fb_si f 8 := by
  have := fb_si_split f p (8 - p)
  rw [show p + (8 - p) = 8 by omega] at this
  rw [this, si_zero (u := fun k => f (p + k)) (fun y hy => h _ (by omega) (by omega)), Int.add_zero]
theorem zgr_s0 {T : zTo} (h : zcs T = false) : ∀ n, ∀ q ∈ zgr T n, q.2.2.2 = 0
  | 0, q, hq => by
    have : q = zfk T := by simpa [zgr] using hq
    rw [this]; rfl
  | n + 1, q, hq => by
    simp only [zgr] at hq
    split at hq
    · exact zgr_s0 h n q hq
    · rename_i k hk
      have : ∀ y, ∀ q ∈ zgx T k (zgr T n) y, q.2.2.2 = 0 := by
        intro y
        induction y with
        | zero => intro q hq; exact zgr_s0 h n q hq
        | succ y ih =>
          intro q hq
          simp only [zgx] at hq
          split at hq
          · unfold zins at hq
            split at hq
            · exact ih q hq
            · rcases List.mem_append.mp hq with h9 | h9
              · exact ih q h9
              · rw [List.mem_singleton.mp h9]; simp [zbk, h]
          · exact ih q hq
      exact this 8 q hq
theorem zMK.s0 {w : zW} {T : zTo} {K : List zKy} (h : zMK w T K) (h0 : T.1 10 = 0) {k : zKy} (hk : k ∈ K) : k.2.2.2 = 0 := by
  obtain ⟨n, rfl, -⟩ := h.2.2.1
  exact zgr_s0 (by simp [zcs, h0]) n k hk
theorem zsent {a s : Nat} (ha : a < 2 ^ 32) (hs : s ≤ 28) : nI a >>> (nI s &&& 31) &&& 15 = nI (a / 2 ^ s % 16) := by
  have e : nI s &&& 31 = nI s := by
    rw [show (31 : Int32) = nI (2 ^ 5 - 1) from rfl, fa_mask, Nat.mod_eq_of_lt (by omega)]
  have h2 : ((nI s).toBitVec.smod 32).toNat = s := (by decide : ∀ k, k ≤ 28 → ((nI k).toBitVec.smod 32).toNat = k) s hs
  apply Int32.toBitVec_inj.mp
  rw [e, Int32.toBitVec_and, Int32.toBitVec_shiftRight, BitVec.sshiftRight_eq', h2]
  apply BitVec.eq_of_getLsbD_eq
  intro i hi
  rw [show (nI a).toBitVec = BitVec.ofNat 32 a from rfl, show (nI (a / 2 ^ s % 16)).toBitVec = BitVec.ofNat 32 (a / 2 ^ s % 2 ^ 4) from rfl, show (15 : Int32).toBitVec = BitVec.ofNat 32 (2 ^ 4 - 1) from rfl]
  simp only [BitVec.getLsbD_and, BitVec.getLsbD_sshiftRight, BitVec.getLsbD_ofNat, Nat.testBit_two_pow_sub_one, Nat.testBit_mod_two_pow, Nat.testBit_div_two_pow]
  by_cases h4 : i < 4
  · have a2 : s + i < 32 := by omega
    have a3 : ¬ 32 ≤ i := by omega
    simp [h4, hi, a2, a3, Nat.add_comm]
  · simp [h4]
set_option maxRecDepth 100000 in
theorem c_Mo_floor (Δ : zD) (w : zW) (a b : Int) (ha1 : -4611686018427387904 ≤ a) (ha2 : a < 4611686018427387904) (hb : 0 < b) (hb2 : b < 4611686018427387904) : zMd Δ 0 0 0 true yX9_floor mX9_floor [.long (lZ a), .long (lZ b)] w (some (.long (lZ (a / b)))) w := by
  refine zMd.of mfX9_floor (Nat.le_of_ble_eq_true rfl) (fun QR hQ => ?_)
  have h5 := tdiv_rng (b := b) ha1 ha2
  have hb0 : ¬ lZ b = 0 := fun e => by
    have := congrArg Int64.toInt e
    rw [lZ_toInt (by omega) (by omega)] at this
    have h9 : (0 : Int64).toInt = 0 := rfl
    omega
  have hmod := Int.tdiv_mul_add_tmod a b
  have hm6 : (a.tdiv b * b).natAbs ≤ a.natAbs := by
    rw [Int.natAbs_mul, Int.natAbs_tdiv]; exact Nat.div_mul_le_self _ _
  have hz : ∀ z : Int, -9223372036854775808 ≤ z → z < 9223372036854775808 → (lZ z = 0 ↔ z = 0) := fun z h1 h2 => by
    constructor
    · intro e
      have := congrArg Int64.toInt e
      rw [lZ_toInt h1 h2] at this
      exact this
    · intro e; rw [e]; rfl
  have hfl := tdiv_floor (a := a) hb
  refine zJ_lload_n dX9_floor_0 rfl ?_
  refine zJ_lload_n dX9_floor_1 rfl ?_
  refine zJ_ldiv dX9_floor_2 hb0 ?_
  rw [lZ_div ha1 ha2 (by omega) hb2]
  refine zJ_lstore (ls2 := fun x3 => [(4, .long x3), (0, .long (lZ a)), (2, .long (lZ b))]) dX9_floor_3 (by decide) (fun _ => rfl) (fun x3 ex3 => ?_)
  obtain rfl : x3 = (lZ (a.tdiv b)) := ex3
  refine zJ_lload_n dX9_floor_5 rfl ?_
  refine zJ_lload_n dX9_floor_6 rfl ?_
  refine zJ_lrem dX9_floor_7 hb0 ?_
  rw [lZ_div ha1 ha2 (by omega) hb2, lZ_mul, lZ_sub]
  refine zJ_lconst (v := 0) dX9_floor_8 (by decide) ?_
  refine zJ_lc_eq (tgt := 45) dX9_floor_9 dX9_floor_10 (by decide) (fun h10 => ?_) (fun h10 => ?_)
  · have e0 := (hz _ (by omega) (by omega)).mp h10
    rw [show a / b = a.tdiv b by
      rw [hfl]
      split
      · rfl
      · rw [if_pos (by omega)]] at hQ
    refine zJ_lload dX9_floor_45 rfl ?_
    exact zJ_lret dX9_floor_47 rfl (by decide) (by decide) hQ
  · refine zJ_lload_n dX9_floor_13 rfl ?_
    refine zJ_lconst (v := 0) dX9_floor_14 (by decide) ?_
    refine zJ_lc_ge (tgt := 23) dX9_floor_15 dX9_floor_16 (by decide) (fun h16 => ?_) (fun h16 => ?_)
    · refine zJ_iconst (v := 0) dX9_floor_23 (by decide) ?_
      refine zJ_lload_n dX9_floor_24 rfl ?_
      refine zJ_lconst (v := 0) dX9_floor_25 (by decide) ?_
      refine zJ_lc_ge (tgt := 34) dX9_floor_26 dX9_floor_27 (by decide) (fun h27 => ?_) (fun h27 => ?_)
      · refine zJ_iconst (v := 0) dX9_floor_34 (by decide) ?_
        refine zJ_icmp_eq (tgt := 45) dX9_floor_35 (by decide) (fun _ => ?_) (fun h9 => False.elim (by revert h9; decide))
        have hpos : 0 ≤ a := (lZ_le (by decide) (by decide) (by omega) (by omega)).mp h16
        rw [show a / b = a.tdiv b by rw [hfl, if_pos hpos]] at hQ
        refine zJ_lload dX9_floor_45 rfl ?_
        exact zJ_lret dX9_floor_47 rfl (by decide) (by decide) hQ
      · exact absurd ((lZ_le (a := 0) (by decide) (by decide) (by omega) (by omega)).mpr (by omega)) h27
    · refine zJ_iconst (v := 1) dX9_floor_19 (by decide) ?_
      refine zJ_goto (tgt := 24) dX9_floor_20 (by decide) ?_
      refine zJ_lload_n dX9_floor_24 rfl ?_
      refine zJ_lconst (v := 0) dX9_floor_25 (by decide) ?_
      refine zJ_lc_ge (tgt := 34) dX9_floor_26 dX9_floor_27 (by decide) (fun h27 => ?_) (fun h27 => ?_)
      · refine zJ_iconst (v := 0) dX9_floor_34 (by decide) ?_
        refine zJ_icmp_eq (tgt := 45) dX9_floor_35 (by decide) (fun h9 => False.elim (by revert h9; decide)) (fun _ => ?_)
        have hneg : ¬ 0 ≤ a := fun h => h16 ((lZ_le (a := 0) (by decide) (by decide) (by omega) (by omega)).mpr h)
        have e0 : ¬ a - a.tdiv b * b = 0 := fun h => h10 ((hz _ (by omega) (by omega)).mpr h)
        rw [show a / b = a.tdiv b - 1 by rw [hfl, if_neg hneg, if_neg (by omega)]] at hQ
        refine zJ_lload dX9_floor_38 rfl ?_
        refine zJ_lconst (v := 1) dX9_floor_40 (by decide) ?_
        refine zJ_lsub dX9_floor_41 ?_
        refine zJ_goto (tgt := 47) dX9_floor_42 (by decide) ?_
        rw [show (1 : Int64) = lZ 1 from rfl, lZ_sub]
        exact zJ_lret dX9_floor_47 rfl (by decide) (by decide) hQ
      · exact absurd ((lZ_le (a := 0) (by decide) (by decide) (by omega) (by omega)).mpr (by omega)) h27
set_option maxRecDepth 100000 in
theorem c_Mo_pence (Δ : zD) (w : zW) (T : zTo) (hA : zMa w T) (h : Nat) (hh : 1 ≤ h) : zMd Δ 0 0 0 true yX9_pence mX9_pence [.ref 100, .int (nI h)] w (some (.int (nI (zpe T h)))) w := by
  refine zMd.of mfX9_pence (Nat.le_of_ble_eq_true rfl) (fun QR hQ => ?_)
  obtain ⟨hM, m1, m3, m4, m5, m6, m7, m46, m9, m47, mso, mnu, mwt⟩ := hA
  refine zJ_aload_n dX9_pence_0 rfl ?_
  refine zJ_getiN dX9_pence_1 fX9_7 (by first | rfl | assumption | exact hM.at (by decide) (by decide)) rfl m3 ?_
  refine zJ_aload_n dX9_pence_4 rfl ?_
  refine zJ_getiN dX9_pence_5 fX9_13 (by first | rfl | assumption | exact hM.at (by decide) (by decide)) rfl m4 ?_
  refine zJ_iload_n dX9_pence_8 rfl ?_
  refine zJ_iconst (v := 1) dX9_pence_9 (by decide) ?_
  refine zJ_isub dX9_pence_10 ?_
  refine zJ_imul dX9_pence_11 ?_
  refine zJ_iadd dX9_pence_12 ?_
  rw [show nI h - 1 = nI (h - 1) from na_sub (b := 1) hh, na_mul, na_add]
  exact zJ_iret dX9_pence_13 rfl (by decide) (by decide) hQ
set_option maxRecDepth 100000 in
theorem c_Mo_isOpenedAt (Δ : zD) (w : zW) (T : zTo) (hA : zMa w T) (hT : zTok T) (p h : Nat) (hp : p < T.1 0) (hh : 1 ≤ h ∧ h ≤ 13) : zMd Δ 1 0 0 true yX9_isOpenedAt mX9_isOpenedAt [.ref 100, .int (nI p), .int (nI h)] w (some (.int (if T.2.2.1 p ≤ zfl T h then 1 else 0))) w := by
  refine zMd.of mfX9_isOpenedAt (Nat.le_of_ble_eq_true rfl) (fun QR hQ => ?_)
  have hA0 := hA
  obtain ⟨hM, m1, m3, m4, m5, m6, m7, m46, m9, m47, mso, mnu, mwt⟩ := hA
  have hT0 := hT
  obtain ⟨hp0, hp5, hp6, hp7, hp8, hp9, hp10, hp11, hp12, hp13, hpp, hpw⟩ := hT
  have hpe := zpe_le hT0 hh.2
  have hnp := (hpp p).2.1
  have hml : zpe T h % T.1 11 ≤ zpe T h := Nat.mod_le _ _
  refine zJ_aload_n dX9_isOpenedAt_0 rfl ?_
  refine zJ_iload_n dX9_isOpenedAt_1 rfl ?_
  refine zJ_cV1 dX9_isOpenedAt_2 sX9_367 mfX9_pence (c_Mo_pence Δ w T hA0 h hh.1) (by first | rfl | assumption | exact hM.at (by decide) (by decide)) rfl (Nat.le_of_ble_eq_true rfl) (by decide) (by decide) ?_
  refine zJ_aload_n dX9_isOpenedAt_5 rfl ?_
  refine zJ_iload_n dX9_isOpenedAt_6 rfl ?_
  refine zJ_cV1 dX9_isOpenedAt_7 sX9_367 mfX9_pence (c_Mo_pence Δ w T hA0 h hh.1) (by first | rfl | assumption | exact hM.at (by decide) (by decide)) rfl (Nat.le_of_ble_eq_true rfl) (by decide) (by decide) ?_
  refine zJ_aload_n dX9_isOpenedAt_10 rfl ?_
  refine zJ_getiN dX9_isOpenedAt_11 fX9_19 (by first | rfl | assumption | exact hM.at (by decide) (by decide)) rfl m9 ?_
  refine zJ_irem dX9_isOpenedAt_14 (fun e => absurd ((nI_eq (b := 0) (by omega) (by decide)).mp e) (by omega)) ?_
  rw [nI_rem (by omega) (by omega)]
  refine zJ_isub dX9_isOpenedAt_15 ?_
  rw [na_sub hml]
  refine zJ_aload_n dX9_isOpenedAt_16 rfl ?_
  refine zJ_getr (j := 149) dX9_isOpenedAt_17 fX9_73 (by first | rfl | assumption | exact hM.at (by decide) (by decide)) rfl (by first | rfl | assumption | exact hM.rf (by decide) rfl) ?_
  refine zJ_iload_n dX9_isOpenedAt_20 rfl ?_
  refine zJ_ialdN (i := p) (v := (nI (T.2.2.1 p))) dX9_isOpenedAt_21 (by first | rfl | assumption | exact hM.at (by decide) (by decide)) rfl (by omega) (by decide) (mnu p hp) ?_
  refine zJ_icmp_lt (tgt := 29) dX9_isOpenedAt_22 (by decide) (fun h22 => ?_) (fun h22 => ?_)
  · rw [if_neg (show ¬ T.2.2.1 p ≤ zfl T h from fun h9 => absurd ((nI_ltI (by omega) (by omega)).mp h22) (by simp only [zfl] at h9; omega))] at hQ
    refine zJ_iconst (v := 0) dX9_isOpenedAt_29 (by decide) ?_
    exact zJ_zret dX9_isOpenedAt_30 rfl rfl (by decide) (by decide) hQ
  · rw [if_pos (show T.2.2.1 p ≤ zfl T h from (nI_leI (by omega) (by simp only [zfl] at *; omega)).mp (Int32.not_lt.mp h22))] at hQ
    refine zJ_iconst (v := 1) dX9_isOpenedAt_25 (by decide) ?_
    refine zJ_goto (tgt := 30) dX9_isOpenedAt_26 (by decide) ?_
    exact zJ_zret dX9_isOpenedAt_30 rfl rfl (by decide) (by decide) hQ
set_option maxRecDepth 100000 in
theorem c_Mo_weightsOf (Δ : zD) (w : zW) (T : zTo) (K : List zKy) (hK : zMK w T K) (hT : zTok T) (x : Nat) (k : zKy) (hx : K[x]? = some k) : zMd Δ 0 0 0 true yX9_weightsOf mX9_weightsOf [.ref 100, .int (nI x)] w (some (.int (nI (zwS T k)))) w := by
  refine zMd.of mfX9_weightsOf (Nat.le_of_ble_eq_true rfl) (fun QR hQ => ?_)
  have hK0 := hK
  obtain ⟨hA, hN, hall, hch⟩ := hK
  have hA0 := hA
  obtain ⟨hM, m1, m3, m4, m5, m6, m7, m46, m9, m47, mso, mnu, mwt⟩ := hA
  have hT0 := hT
  obtain ⟨hp0, hp5, hp6, hp7, hp8, hp9, hp10, hp11, hp12, hp13, hpp, hpw⟩ := hT
  have hxK : x < K.length := (List.getElem?_eq_some_iff.mp hx).1
  have hKR := hN.2.2.1
  obtain ⟨hk, hkp⟩ := hN.2.2.2 k (List.mem_iff_getElem?.mpr ⟨x, hx⟩)
  obtain ⟨y1, y2, y3, y4⟩ := hN.1 x k hx
  have hk1 := hk.1
  have hk2 := hk.2.1
  have hb : ∀ n, n ≤ 8 → fb_sm (fun y => if zmay T k y then zwx T k y else 0) n ≤ n * 99 := fun n hn => fb_sm_bound (fun y hy => by
    try simp only
    split
    · exact (hpw k.1 y hk1 (by omega)).1
    · omega)
  have L : ∀ j, j ≤ T.1 0 → zJ Δ mX9_weightsOf (zRm 0 0 0) true w.1 QR (fun _ _ => False) 0 0 4 [(3, .int (nI j)), (2, .int (nI (fb_sm (fun y => if zmay T k y then zwx T k y else 0) j))), (0, .ref 100), (1, .int (nI x))] [] w := by
    refine zup (fun j hj ih => ?_)
    have hbj := hb j (by omega)
    refine zJ_iload_n dX9_weightsOf_4 rfl ?_
    refine zJ_aload_n dX9_weightsOf_5 rfl ?_
    refine zJ_getiN dX9_weightsOf_6 fX9_298 (by first | rfl | assumption | exact hM.at (by decide) (by decide)) rfl m1 ?_
    refine zJ_icmp_ge (tgt := 52) dX9_weightsOf_9 (by decide) (fun h9 => ?_) (fun h9 => ?_)
    · have hj9 : j = T.1 0 := Nat.le_antisymm hj ((nI_leI (by omega) (by omega)).mp h9)
      subst hj9
      rw [sm_pp hp0 (fun y h1 h2 => by simp only [zmay_no hT0 hk1 h1 h2]; rfl)]
      refine zJ_iload_n dX9_weightsOf_52 rfl ?_
      exact zJ_iret dX9_weightsOf_53 rfl (by decide) (by decide) hQ
    · have hj9 : j < T.1 0 := Nat.lt_of_not_le fun hq9 => h9 ((nI_leI (by omega) (by omega)).mpr hq9)
      cases hmy : zmay T k j with
      | true =>
        obtain ⟨c, hc1, hc2, hc3, hc4, hc5⟩ := hK0.c hx (by omega) hmy
        refine zJ_aload_n dX9_weightsOf_12 rfl ?_
        refine zJ_getr (j := 143) dX9_weightsOf_13 fX9_63 (by first | rfl | assumption | exact hM.at (by decide) (by decide)) rfl (by first | rfl | assumption | exact hM.rf (by decide) rfl) ?_
        refine zJ_bipush (v := 8) dX9_weightsOf_16 (by decide) ?_
        refine zJ_iload_n dX9_weightsOf_18 rfl ?_
        refine zJ_imul dX9_weightsOf_19 ?_
        refine zJ_iload_n dX9_weightsOf_20 rfl ?_
        refine zJ_iadd dX9_weightsOf_21 ?_
        refine zJ_ialdN (i := (x * 8 + j)) (v := (nI c)) dX9_weightsOf_22 (by first | rfl | assumption | exact hM.at (by decide) (by decide)) (na_8 _ _) (by omega) (by decide) hc2 ?_
        refine zJ_iconst (v := (-1)) dX9_weightsOf_23 (by decide) ?_
        refine zJ_icmp_eq (tgt := 46) dX9_weightsOf_24 (by decide) (fun h9 => absurd h9 (nI_m1 (by omega))) (fun h24t => ?_)
        refine zJ_iload_n dX9_weightsOf_27 rfl ?_
        refine zJ_aload_n dX9_weightsOf_28 rfl ?_
        refine zJ_getr (j := 112) dX9_weightsOf_29 fX9_29 (by first | rfl | assumption | exact hM.at (by decide) (by decide)) rfl (by first | rfl | assumption | exact hM.rf (by decide) rfl) ?_
        refine zJ_bipush (v := 8) dX9_weightsOf_32 (by decide) ?_
        refine zJ_aload_n dX9_weightsOf_34 rfl ?_
        refine zJ_getr (j := 139) dX9_weightsOf_35 fX9_50 (by first | rfl | assumption | exact hM.at (by decide) (by decide)) rfl (by first | rfl | assumption | exact hM.rf (by decide) rfl) ?_
        refine zJ_iload_n dX9_weightsOf_38 rfl ?_
        refine zJ_ialdN (i := x) (v := (nI k.1)) dX9_weightsOf_39 (by first | rfl | assumption | exact hM.at (by decide) (by decide)) rfl (by omega) (by decide) y1 ?_
        refine zJ_imul dX9_weightsOf_40 ?_
        refine zJ_iload_n dX9_weightsOf_41 rfl ?_
        refine zJ_iadd dX9_weightsOf_42 ?_
        refine zJ_ialdN (i := (k.1 * 8 + j)) (v := (nI (T.2.2.2 (k.1 * 8 + j)))) dX9_weightsOf_43 (by first | rfl | assumption | exact hM.at (by decide) (by decide)) (na_8 _ _) (by omega) (by decide) (mwt k.1 j hkp hj9) ?_
        refine zJ_iadd dX9_weightsOf_44 ?_
        refine zJ_istore_n (ls2 := fun x45t => [(2, .int x45t), (3, .int (nI j)), (0, .ref 100), (1, .int (nI x))]) dX9_weightsOf_45 (by decide) (fun _ => rfl) (fun x45t ex45t => ?_)
        refine zJ_iinc (ls2 := fun x46t => [(3, .int x46t), (2, .int x45t), (0, .ref 100), (1, .int (nI x))]) dX9_weightsOf_46 rfl (by decide) (fun _ => rfl) (fun x46t ex46t => ?_)
        refine zJ_goto (tgt := 4) dX9_weightsOf_49 (by decide) ?_
        refine zJ_ls [(3, .int x46t), (2, .int x45t), (0, .ref 100), (1, .int (nI x))] (by simp) ?_
        rw [ex46t, show nI j + Int32.ofInt 1 = nI (j + 1) from nI_1 _]
        rw [ex45t, na_add, show fb_sm (fun y => if zmay T k y then zwx T k y else 0) j + T.2.2.2 (k.1 * 8 + j) = fb_sm (fun y => if zmay T k y then zwx T k y else 0) (j + 1) by rw [fb_sm_succ]; simp [hmy, zwx]]
        exact ih (j + 1) (by omega) (by omega)
      | false =>
        refine zJ_aload_n dX9_weightsOf_12 rfl ?_
        refine zJ_getr (j := 143) dX9_weightsOf_13 fX9_63 (by first | rfl | assumption | exact hM.at (by decide) (by decide)) rfl (by first | rfl | assumption | exact hM.rf (by decide) rfl) ?_
        refine zJ_bipush (v := 8) dX9_weightsOf_16 (by decide) ?_
        refine zJ_iload_n dX9_weightsOf_18 rfl ?_
        refine zJ_imul dX9_weightsOf_19 ?_
        refine zJ_iload_n dX9_weightsOf_20 rfl ?_
        refine zJ_iadd dX9_weightsOf_21 ?_
        refine zJ_ialdN (i := (x * 8 + j)) (v := (-1)) dX9_weightsOf_22 (by first | rfl | assumption | exact hM.at (by decide) (by decide)) (na_8 _ _) (by omega) (by decide) (hK0.n hx (by omega) hmy) ?_
        refine zJ_iconst (v := (-1)) dX9_weightsOf_23 (by decide) ?_
        refine zJ_icmp_eq (tgt := 46) dX9_weightsOf_24 (by decide) (fun _ => ?_) (fun h9 => False.elim (by revert h9; decide))
        refine zJ_iinc (ls2 := fun x46f => [(3, .int x46f), (2, .int (nI (fb_sm (fun y => if zmay T k y then zwx T k y else 0) j))), (0, .ref 100), (1, .int (nI x))]) dX9_weightsOf_46 rfl (by decide) (fun _ => rfl) (fun x46f ex46f => ?_)
        refine zJ_goto (tgt := 4) dX9_weightsOf_49 (by decide) ?_
        refine zJ_ls [(3, .int x46f), (2, .int (nI (fb_sm (fun y => if zmay T k y then zwx T k y else 0) j))), (0, .ref 100), (1, .int (nI x))] (by simp) ?_
        rw [ex46f, show nI j + Int32.ofInt 1 = nI (j + 1) from nI_1 _]
        rw [show fb_sm (fun y => if zmay T k y then zwx T k y else 0) j = fb_sm (fun y => if zmay T k y then zwx T k y else 0) (j + 1) by rw [fb_sm_succ]; simp [hmy]]
        exact ih (j + 1) (by omega) (by omega)
  refine zJ_iconst (v := 0) dX9_weightsOf_0 (by decide) ?_
  refine zJ_istore_n (ls2 := fun x1 => [(2, .int x1), (0, .ref 100), (1, .int (nI x))]) dX9_weightsOf_1 (by decide) (fun _ => rfl) (fun x1 ex1 => ?_)
  obtain rfl : x1 = (nI (fb_sm (fun y => if zmay T k y then zwx T k y else 0) 0)) := ex1
  refine zJ_iconst (v := 0) dX9_weightsOf_2 (by decide) ?_
  refine zJ_istore_n (ls2 := fun x3 => [(3, .int x3), (2, .int (nI (fb_sm (fun y => if zmay T k y then zwx T k y else 0) 0))), (0, .ref 100), (1, .int (nI x))]) dX9_weightsOf_3 (by decide) (fun _ => rfl) (fun x3 ex3 => ?_)
  obtain rfl : x3 = (nI 0) := ex3
  exact L 0 (Nat.zero_le _)
set_option maxRecDepth 100000 in
theorem c_Mo_paid (Δ : zD) (w : zW) (T : zTo) (hA : zMa w T) (hT : zTok T) (e : Nat) (he : e ≤ 1000000000) : zMd Δ 0 0 0 true yX9_paid mX9_paid [.ref 100, .long (lN e)] w (some (.long (lN (zpay T e)))) w := by
  refine zMd.of mfX9_paid (Nat.le_of_ble_eq_true rfl) (fun QR hQ => ?_)
  obtain ⟨hM, m1, m3, m4, m5, m6, m7, m46, m9, m47, mso, mnu, mwt⟩ := hA
  have hT0 := hT
  obtain ⟨hp0, hp5, hp6, hp7, hp8, hp9, hp10, hp11, hp12, hp13, hpp, hpw⟩ := hT
  have h1 : 1000 * T.1 9 * e ≤ 9999000 * 1000000000 := Nat.mul_le_mul (by omega) he
  refine zJ_ldc2 dX9_paid_0 kX9_370 ?_
  refine zJ_aload_n dX9_paid_3 rfl ?_
  refine zJ_getiN dX9_paid_4 fX9_307 (by first | rfl | assumption | exact hM.at (by decide) (by decide)) rfl m7 ?_
  refine zJ_i2l dX9_paid_7 ?_
  rw [nI_l (show T.1 9 < 2 ^ 31 by omega)]
  refine zJ_lmul dX9_paid_8 ?_
  rw [show (1000 : Int64) = lN 1000 from rfl, lN_mul]
  refine zJ_lload_n dX9_paid_9 rfl ?_
  refine zJ_lmul dX9_paid_10 ?_
  rw [lN_mul]
  refine zJ_ldc2 dX9_paid_11 kX9_372 ?_
  refine zJ_ldiv dX9_paid_14 (by decide) ?_
  rw [show (1000000000 : Int64) = lN 1000000000 from rfl, lN_div (by omega) (by decide)]
  exact zJ_lret dX9_paid_15 rfl (by decide) (by decide) hQ
/-- what stands of the HANDS behind k -/
def zMC (w : zW) (T : zTo) (K : List zKy) (k : zKy) : Prop := ∀ y, y < 8 → zmay T k y = true → ∀ c : Nat, K[c]? = some (zbk T k y) → w.2.2.1 151 c = lN (zce T k y) ∧ ∀ p, p < T.1 0 → w.2.2.1 150 (c * 8 + p) = lZ (zcg T k y p)
set_option maxRecDepth 100000 in
theorem c_Mo_bySending (Δ : zD) (w : zW) (T : zTo) (K : List zKy) (hK : zMK w T K) (hT : zTok T) (x : Nat) (k : zKy) (hx : K[x]? = some k) (hC : zMC w T K k) (y p : Nat) (hy : y < 8) (hmy : zmay T k y = true) (hp : p < T.1 0) : zMd Δ 1 0 0 true yX9_bySending mX9_bySending [.ref 100, .int (nI x), .int (nI y), .int (nI p)] w (some (.long (lZ (zbs T k (zce T k) (zcg T k) y p)))) w := by
  refine zMd.of mfX9_bySending (Nat.le_of_ble_eq_true rfl) (fun QR hQ => ?_)
  have hK0 := hK
  obtain ⟨hA, hN, hall, hch⟩ := hK
  have hA0 := hA
  obtain ⟨hM, m1, m3, m4, m5, m6, m7, m46, m9, m47, mso, mnu, mwt⟩ := hA
  have hT0 := hT
  obtain ⟨hp0, hp5, hp6, hp7, hp8, hp9, hp10, hp11, hp12, hp13, hpp, hpw⟩ := hT
  have hxK : x < K.length := (List.getElem?_eq_some_iff.mp hx).1
  have hKR := hN.2.2.1
  obtain ⟨hk, hkp⟩ := hN.2.2.2 k (List.mem_iff_getElem?.mpr ⟨x, hx⟩)
  obtain ⟨y1, y2, y3, y4⟩ := hN.1 x k hx
  have hk1 := hk.1
  have hk2 := hk.2.1
  obtain ⟨c, hc1, hc2, hc3, hc4, hc5⟩ := hK0.c hx hy hmy
  obtain ⟨v1, v2⟩ := hC y hy hmy c hc1
  have hce := zce_le hT0 hk hy hmy
  refine zJ_aload_n dX9_bySending_0 rfl ?_
  refine zJ_getr (j := 143) dX9_bySending_1 fX9_63 (by first | rfl | assumption | exact hM.at (by decide) (by decide)) rfl (by first | rfl | assumption | exact hM.rf (by decide) rfl) ?_
  refine zJ_bipush (v := 8) dX9_bySending_4 (by decide) ?_
  refine zJ_iload_n dX9_bySending_6 rfl ?_
  refine zJ_imul dX9_bySending_7 ?_
  refine zJ_iload_n dX9_bySending_8 rfl ?_
  refine zJ_iadd dX9_bySending_9 ?_
  refine zJ_ialdN (i := (x * 8 + y)) (v := (nI c)) dX9_bySending_10 (by first | rfl | assumption | exact hM.at (by decide) (by decide)) (na_8 _ _) (by omega) (by decide) hc2 ?_
  refine zJ_istore (ls2 := fun x11 => [(4, .int x11), (0, .ref 100), (1, .int (nI x)), (2, .int (nI y)), (3, .int (nI p))]) dX9_bySending_11 (by decide) (fun _ => rfl) (fun x11 ex11 => ?_)
  obtain rfl : x11 = (nI c) := ex11
  refine zJ_aload_n dX9_bySending_13 rfl ?_
  refine zJ_getr (j := 150) dX9_bySending_14 fX9_76 (by first | rfl | assumption | exact hM.at (by decide) (by decide)) rfl (by first | rfl | assumption | exact hM.rf (by decide) rfl) ?_
  refine zJ_bipush (v := 8) dX9_bySending_17 (by decide) ?_
  refine zJ_iload dX9_bySending_19 rfl ?_
  refine zJ_imul dX9_bySending_21 ?_
  refine zJ_iload_n dX9_bySending_22 rfl ?_
  refine zJ_iadd dX9_bySending_23 ?_
  refine zJ_laldN (i := (c * 8 + p)) (v := (lZ (zcg T k y p))) dX9_bySending_24 (by first | rfl | assumption | exact hM.at (by decide) (by decide)) (na_8 _ _) (by omega) (by decide) (v2 p hp) ?_
  refine zJ_iload_n dX9_bySending_25 rfl ?_
  refine zJ_aload_n dX9_bySending_26 rfl ?_
  refine zJ_getr (j := 139) dX9_bySending_27 fX9_50 (by first | rfl | assumption | exact hM.at (by decide) (by decide)) rfl (by first | rfl | assumption | exact hM.rf (by decide) rfl) ?_
  refine zJ_iload_n dX9_bySending_30 rfl ?_
  refine zJ_ialdN (i := x) (v := (nI k.1)) dX9_bySending_31 (by first | rfl | assumption | exact hM.at (by decide) (by decide)) rfl (by omega) (by decide) y1 ?_
  refine zJ_icmp_ne (tgt := 59) dX9_bySending_32 (by decide) (fun h32 => ?_) (fun h32 => ?_)
  · have hpk : ¬ p = k.1 := fun h => h32 (by rw [h])
    refine zJ_lconst (v := 0) dX9_bySending_59 (by decide) ?_
    rw [show (0 : Int64) = lZ 0 from rfl]
    refine zJ_ladd dX9_bySending_60 ?_
    rw [lZ_add]
    rw [show zbs T k (zce T k) (zcg T k) y p = zcg T k y p + 0 by simp only [zbs, hpk, if_false]] at hQ
    exact zJ_lret dX9_bySending_61 rfl (by decide) (by decide) hQ
  · have hpk : p = k.1 := (nI_eq (by omega) (by omega)).mp h32
    refine zJ_aload_n dX9_bySending_35 rfl ?_
    refine zJ_aload_n dX9_bySending_36 rfl ?_
    refine zJ_getr (j := 151) dX9_bySending_37 fX9_80 (by first | rfl | assumption | exact hM.at (by decide) (by decide)) rfl (by first | rfl | assumption | exact hM.rf (by decide) rfl) ?_
    refine zJ_iload dX9_bySending_40 rfl ?_
    refine zJ_laldN (i := c) (v := (lN (zce T k y))) dX9_bySending_42 (by first | rfl | assumption | exact hM.at (by decide) (by decide)) rfl (by omega) (by decide) v1 ?_
    refine zJ_cV1 dX9_bySending_43 sX9_374 mfX9_paid (c_Mo_paid Δ w T hA0 hT0 (zce T k y) hce) (by first | rfl | assumption | exact hM.at (by decide) (by decide)) rfl (Nat.le_of_ble_eq_true rfl) (by decide) (by decide) ?_
    refine zJ_ldc2 dX9_bySending_46 kX9_370 ?_
    refine zJ_aload_n dX9_bySending_49 rfl ?_
    refine zJ_getiN dX9_bySending_50 fX9_13 (by first | rfl | assumption | exact hM.at (by decide) (by decide)) rfl m4 ?_
    refine zJ_i2l dX9_bySending_53 ?_
    rw [nI_l (show T.1 6 < 2 ^ 31 by omega)]
    refine zJ_lmul dX9_bySending_54 ?_
    refine zJ_lsub dX9_bySending_55 ?_
    refine zJ_goto (tgt := 60) dX9_bySending_56 (by decide) ?_
    rw [show (1000 : Int64) = lZ 1000 from rfl, lZ_n (T.1 6), lZ_mul, lZ_n (zpay T (zce T k y)), lZ_sub]
    refine zJ_ladd dX9_bySending_60 ?_
    rw [lZ_add]
    rw [show zbs T k (zce T k) (zcg T k) y p = zcg T k y p + ((zpay T (zce T k y) : Int) - 1000 * (T.1 6 : Int)) by simp only [zbs, hpk, if_true]] at hQ
    exact zJ_lret dX9_bySending_61 rfl (by decide) (by decide) hQ
set_option maxRecDepth 100000 in
theorem c_Mo_worth (Δ : zD) (w : zW) (T : zTo) (K : List zKy) (hK : zMK w T K) (hT : zTok T) (x : Nat) (k : zKy) (hx : K[x]? = some k) (hC : zMC w T K k) (y : Nat) (hy : y < 8) (hmy : zmay T k y = true) : zMd Δ 2 0 0 true yX9_worth mX9_worth [.ref 100, .int (nI x), .int (nI y)] w (some (.long (lZ (zwo T k (zce T k) (zcg T k) y)))) w := by
  refine zMd.of mfX9_worth (Nat.le_of_ble_eq_true rfl) (fun QR hQ => ?_)
  have hK0 := hK
  obtain ⟨hA, hN, hall, hch⟩ := hK
  have hA0 := hA
  obtain ⟨hM, m1, m3, m4, m5, m6, m7, m46, m9, m47, mso, mnu, mwt⟩ := hA
  have hT0 := hT
  obtain ⟨hp0, hp5, hp6, hp7, hp8, hp9, hp10, hp11, hp12, hp13, hpp, hpw⟩ := hT
  have hxK : x < K.length := (List.getElem?_eq_some_iff.mp hx).1
  have hKR := hN.2.2.1
  obtain ⟨hk, hkp⟩ := hN.2.2.2 k (List.mem_iff_getElem?.mpr ⟨x, hx⟩)
  obtain ⟨y1, y2, y3, y4⟩ := hN.1 x k hx
  have hk1 := hk.1
  have hk2 := hk.2.1
  obtain ⟨c, hc1, hc2, hc3, hc4, hc5⟩ := hK0.c hx hy hmy
  obtain ⟨v1, v2⟩ := hC y hy hmy c hc1
  have hce := zce_le hT0 hk hy hmy
  have hof := zoft_lt k
  have hnk := (hpp k.1).2.1
  have J33 : zJ Δ mX9_worth (zRm 2 0 0) true w.1 QR (fun _ _ => False) 0 0 33 [(4, .int (nI (zoft k))), (3, .int (nI k.1)), (0, .ref 100), (1, .int (nI x)), (2, .int (nI y))] [] w := by
    refine zJ_aload_n dX9_worth_33 rfl ?_
    refine zJ_iload_n dX9_worth_34 rfl ?_
    refine zJ_iload_n dX9_worth_35 rfl ?_
    refine zJ_iload_n dX9_worth_36 rfl ?_
    refine zJ_cV3 dX9_worth_37 sX9_378 mfX9_bySending (c_Mo_bySending Δ w T K hK0 hT0 x k hx hC y k.1 hy hmy hkp) (by first | rfl | assumption | exact hM.at (by decide) (by decide)) rfl (Nat.le_of_ble_eq_true rfl) (by decide) (by decide) ?_
    refine zJ_iload dX9_worth_40 rfl ?_
    refine zJ_i2l dX9_worth_42 ?_
    rw [nI_l (show zoft k < 2 ^ 31 by omega)]
    refine zJ_aload_n dX9_worth_43 rfl ?_
    refine zJ_aload_n dX9_worth_44 rfl ?_
    refine zJ_getr (j := 151) dX9_worth_45 fX9_80 (by first | rfl | assumption | exact hM.at (by decide) (by decide)) rfl (by first | rfl | assumption | exact hM.rf (by decide) rfl) ?_
    refine zJ_aload_n dX9_worth_48 rfl ?_
    refine zJ_getr (j := 143) dX9_worth_49 fX9_63 (by first | rfl | assumption | exact hM.at (by decide) (by decide)) rfl (by first | rfl | assumption | exact hM.rf (by decide) rfl) ?_
    refine zJ_bipush (v := 8) dX9_worth_52 (by decide) ?_
    refine zJ_iload_n dX9_worth_54 rfl ?_
    refine zJ_imul dX9_worth_55 ?_
    refine zJ_iload_n dX9_worth_56 rfl ?_
    refine zJ_iadd dX9_worth_57 ?_
    refine zJ_ialdN (i := (x * 8 + y)) (v := (nI c)) dX9_worth_58 (by first | rfl | assumption | exact hM.at (by decide) (by decide)) (na_8 _ _) (by omega) (by decide) hc2 ?_
    refine zJ_laldN (i := c) (v := (lN (zce T k y))) dX9_worth_59 (by first | rfl | assumption | exact hM.at (by decide) (by decide)) rfl (by omega) (by decide) v1 ?_
    refine zJ_cV1 dX9_worth_60 sX9_374 mfX9_paid (c_Mo_paid Δ w T hA0 hT0 (zce T k y) hce) (by first | rfl | assumption | exact hM.at (by decide) (by decide)) rfl (Nat.le_of_ble_eq_true rfl) (by decide) (by decide) ?_
    refine zJ_lmul dX9_worth_63 ?_
    rw [lN_mul, lZ_n]
    refine zJ_ladd dX9_worth_64 ?_
    rw [lZ_add]
    refine zJ_ldc2 dX9_worth_65 kX9_370 ?_
    refine zJ_aload_n dX9_worth_68 rfl ?_
    refine zJ_getr (j := 149) dX9_worth_69 fX9_73 (by first | rfl | assumption | exact hM.at (by decide) (by decide)) rfl (by first | rfl | assumption | exact hM.rf (by decide) rfl) ?_
    refine zJ_iload_n dX9_worth_72 rfl ?_
    refine zJ_ialdN (i := k.1) (v := (nI (T.2.2.1 k.1))) dX9_worth_73 (by first | rfl | assumption | exact hM.at (by decide) (by decide)) rfl (by omega) (by decide) (mnu k.1 hkp) ?_
    refine zJ_i2l dX9_worth_74 ?_
    rw [nI_l (show T.2.2.1 k.1 < 2 ^ 31 by omega)]
    refine zJ_lmul dX9_worth_75 ?_
    rw [show (1000 : Int64) = lZ 1000 from rfl, lZ_n, lZ_mul]
    refine zJ_ladd dX9_worth_76 ?_
    rw [lZ_add]
    rw [show zwo T k (zce T k) (zcg T k) y = zbs T k (zce T k) (zcg T k) y k.1 + ((zoft k * zpay T (zce T k y) : Nat) : Int) + 1000 * (T.2.2.1 k.1 : Int) by
      simp only [zwo, zbs, if_true, Nat.add_mul, Nat.one_mul, Int.natCast_add]; omega] at hQ
    exact zJ_lret dX9_worth_77 rfl (by decide) (by decide) hQ
  refine zJ_aload_n dX9_worth_0 rfl ?_
  refine zJ_getr (j := 139) dX9_worth_1 fX9_50 (by first | rfl | assumption | exact hM.at (by decide) (by decide)) rfl (by first | rfl | assumption | exact hM.rf (by decide) rfl) ?_
  refine zJ_iload_n dX9_worth_4 rfl ?_
  refine zJ_ialdN (i := x) (v := (nI k.1)) dX9_worth_5 (by first | rfl | assumption | exact hM.at (by decide) (by decide)) rfl (by omega) (by decide) y1 ?_
  refine zJ_istore_n (ls2 := fun x6 => [(3, .int x6), (0, .ref 100), (1, .int (nI x)), (2, .int (nI y))]) dX9_worth_6 (by decide) (fun _ => rfl) (fun x6 ex6 => ?_)
  obtain rfl : x6 = (nI k.1) := ex6
  refine zJ_aload_n dX9_worth_7 rfl ?_
  refine zJ_getiN dX9_worth_8 fX9_342 (by first | rfl | assumption | exact hM.at (by decide) (by decide)) rfl m46 ?_
  refine zJ_if_ne (tgt := 18) dX9_worth_11 (by decide) (fun h11 => ?_) (fun h11 => ?_)
  · refine zJ_aload_n dX9_worth_18 rfl ?_
    refine zJ_getr (j := 142) dX9_worth_19 fX9_59 (by first | rfl | assumption | exact hM.at (by decide) (by decide)) rfl (by first | rfl | assumption | exact hM.rf (by decide) rfl) ?_
    refine zJ_iload_n dX9_worth_22 rfl ?_
    refine zJ_ialdN (i := x) (v := (nI k.2.2.2)) dX9_worth_23 (by first | rfl | assumption | exact hM.at (by decide) (by decide)) rfl (by omega) (by decide) y4 ?_
    refine zJ_iconst (v := 4) dX9_worth_24 (by decide) ?_
    refine zJ_iload_n dX9_worth_25 rfl ?_
    refine zJ_imul dX9_worth_26 ?_
    refine zJ_ishr dX9_worth_27 ?_
    refine zJ_bipush (v := 15) dX9_worth_28 (by decide) ?_
    refine zJ_iand dX9_worth_30 ?_
    refine zJ_istore (ls2 := fun x31 => [(4, .int x31), (3, .int (nI k.1)), (0, .ref 100), (1, .int (nI x)), (2, .int (nI y))]) dX9_worth_31 (by decide) (fun _ => rfl) (fun x31 ex31 => ?_)
    obtain rfl : x31 = (nI (zoft k)) := (by rw [ex31, show (4 : Int32) * nI k.1 = nI (4 * k.1) from na_mul 4 k.1, zsent (hk.s32 hT0) (by omega)]; rfl)
    exact J33
  · have hl0 : T.1 10 = 0 := (nI_eq (b := 0) (by omega) (by decide)).mp h11
    refine zJ_iconst (v := 0) dX9_worth_14 (by decide) ?_
    refine zJ_goto (tgt := 31) dX9_worth_15 (by decide) ?_
    refine zJ_istore (ls2 := fun x31 => [(4, .int x31), (3, .int (nI k.1)), (0, .ref 100), (1, .int (nI x)), (2, .int (nI y))]) dX9_worth_31 (by decide) (fun _ => rfl) (fun x31 ex31 => ?_)
    obtain rfl : x31 = (nI (zoft k)) := (by rw [ex31]; simp only [zoft, hK0.s0 hl0 (List.mem_iff_getElem?.mpr ⟨x, hx⟩), Nat.zero_div, Nat.zero_mod]; rfl)
    exact J33
