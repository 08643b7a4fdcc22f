/-! the model: told towns; opened, goes, gets, feeling -/
/-- what a call may leave behind anyhow -/
abbrev zScr : List Nat := [0, 38, 39, 40, 41, 42, 43, 44, 45, 46, 47, 48, 49, 50, 51, 52, 53, 54, 60, 61, 64, 65, 68, 69, 70, 74, 75]
def zMu (w : zW) (U : zTo) : Prop := zMs w ∧ w.2.1 100 1 = nI (U.1 0) ∧ w.2.1 100 2 = nI (U.1 12) ∧ w.2.1 100 3 = nI (U.1 5) ∧ w.2.1 100 4 = nI (U.1 6) ∧ w.2.1 100 5 = nI (U.1 7) ∧ w.2.1 100 6 = nI (U.1 8) ∧ w.2.1 100 7 = nI (U.1 9) ∧ w.2.1 100 8 = nI (U.1 10) ∧ w.2.1 100 9 = nI (U.1 11) ∧ (∀ p, p < U.1 0 → w.2.1 110 p = nI (U.2.1 p)) ∧ (∀ p, p < U.1 0 → w.2.1 111 p = nI (U.2.2.1 p)) ∧ (∀ p q, p < U.1 0 → q < U.1 0 → w.2.1 112 (p * 8 + q) = nI (U.2.2.2 (p * 8 + q)))
theorem zMu.fm {w c : zW} {U : zTo} {l : List Nat} (h : zMu w U) (hf : zFM l w c) (hd : ∀ k ∈ ([1, 2, 3, 4, 5, 6, 7, 8, 9, 10, 11, 12] : List Nat), k ∉ l) : zMu c U := by
  obtain ⟨h0, h1, h2, h3, h4, h5, h6, h7, h8, h9, h10, h11, h12⟩ := h
  refine ⟨h0.fm hf, ?_, ?_, ?_, ?_, ?_, ?_, ?_, ?_, ?_, fun p hp => ?_, fun p hp => ?_, fun p q hp hq => ?_⟩
  · rw [hf.at (hd 1 (by decide))]; exact h1
  · rw [hf.at (hd 2 (by decide))]; exact h2
  · rw [hf.at (hd 3 (by decide))]; exact h3
  · rw [hf.at (hd 4 (by decide))]; exact h4
  · rw [hf.at (hd 5 (by decide))]; exact h5
  · rw [hf.at (hd 6 (by decide))]; exact h6
  · rw [hf.at (hd 7 (by decide))]; exact h7
  · rw [hf.at (hd 8 (by decide))]; exact h8
  · rw [hf.at (hd 9 (by decide))]; exact h9
  · rw [show (110 : Nat) = 100 + 10 from rfl, hf.ar (hd 10 (by decide)) (by decide)]; exact h10 p hp
  · rw [show (111 : Nat) = 100 + 11 from rfl, hf.ar (hd 11 (by decide)) (by decide)]; exact h11 p hp
  · rw [show (112 : Nat) = 100 + 12 from rfl, hf.ar (hd 12 (by decide)) (by decide)]; exact h12 p q hp hq
theorem zMa.c12 {w : zW} {T : zTo} {v : Nat} (h : zMa w T) : zMa w (zTs T 12 v) := h
theorem zFM.t0 {w : zW} {v : Int32} : zFM zScr w (zsi w 100 0 v) := zFM.i (by decide)
theorem sm_ext {f : Nat → Nat} {p n : Nat} (hp : p ≤ n) (h : ∀ y, p ≤ y → y < n → f y = 0) : fb_sm f p = fb_sm f n := by
  have := fb_sm_split f p (n - p)
  rw [show p + (n - p) = n by omega] at this
  rw [this, sm_zero (u := fun k => f (p + k)) (fun y hy => h _ (by omega) (by omega)), Nat.add_zero]
theorem sm_swap {f : Nat → Nat → Nat} {m : Nat} : ∀ n, fb_sm (fun p => fb_sm (fun h => f p h) m) n = fb_sm (fun h => fb_sm (fun p => f p h) n) m
  | 0 => by
    simp only [fb_sm]
    exact (sm_zero (fun _ _ => rfl)).symm
  | n + 1 => by
    rw [fb_sm_succ, sm_swap n, ← fb_sm_add]
    exact fb_sm_cong (fun h _ => (fb_sm_succ (fun p => f p h) n).symm)
theorem sm_mul {f : Nat → Nat} {c : Nat} : ∀ n, fb_sm (fun p => c * f p) n = c * fb_sm f n
  | 0 => by simp [fb_sm]
  | n + 1 => by rw [fb_sm_succ, fb_sm_succ, sm_mul n, Nat.mul_add]
theorem zcas_0 {T : zTo} {K : List zKy} {P H : Nat} (hK : ∀ k ∈ K, k.1 < P ∧ 1 ≤ k.2.1 ∧ k.2.1 ≤ H) (hH : H ≤ 12) {p h : Nat} (hh : h < 12) (ho : P ≤ p ∨ H ≤ h) : zcas T K (p * 12 + h) = 0 := by
  have : ∀ n, (zsn T K n).2 (p * 12 + h) = 0 := by
    intro n
    induction n with
    | zero => rfl
    | succ n ih =>
      simp only [zsn]
      cases hk : K[n]? with
      | none => exact ih
      | some k =>
        have h1 := hK k (List.mem_iff_getElem?.mpr ⟨n, hk⟩)
        have h2 : ¬ p * 12 + h = k.1 * 12 + (k.2.1 - 1) := by omega
        simp only [zsp, h2, if_false]
        exact ih
  exact this K.length
theorem zMK.kk {w : zW} {T : zTo} {K : List zKy} (h : zMK w T K) : ∀ k ∈ K, k.1 < T.1 0 ∧ 1 ≤ k.2.1 ∧ k.2.1 ≤ T.1 7 := fun k hk => ⟨(h.2.1.2.2.2 k hk).2, (h.2.1.2.2.2 k hk).1.2.1.1, (h.2.1.2.2.2 k hk).1.2.1.2⟩
set_option maxRecDepth 100000 in
theorem c_Mo_asTold (Δ : zD) (w : zW) (U : zTo) (hMu : zMu w U) (hU : zTok U) (h13 : U.1 13 = 0) : zMp Δ 1 yX9_asTold mX9_asTold [.ref 100] w (fun r c => r = none ∧ zFM [46, 47, 48, 49] w c ∧ zMa c U) := by
  refine zMp.of mfX9_asTold (Nat.le_of_ble_eq_true rfl) (fun QR hQ => ?_)
  have hMu0 := hMu
  obtain ⟨hM, u1, u2, u3, u4, u5, u6, u7, u8, u9, uso, unu, uwt⟩ := hMu
  have hp8 := hU.1
  have hU0 := hU
  refine zJ_aload_n dX9_asTold_0 rfl ?_
  refine zJ_aload_n dX9_asTold_1 rfl ?_
  refine zJ_getr (j := 110) dX9_asTold_2 fX9_22 (by first | rfl | assumption | exact hM.at (by decide) (by decide)) rfl (by first | rfl | assumption | exact hM.rf (by decide) rfl) ?_
  refine zJ_aload_n dX9_asTold_5 rfl ?_
  refine zJ_getr (j := 148) dX9_asTold_6 fX9_70 (by first | rfl | assumption | exact hM.at (by decide) (by decide)) rfl (by first | rfl | assumption | exact hM.rf (by decide) rfl) ?_
  refine zJ_cV2 dX9_asTold_9 sX9_313 mfX9_copies (c_Mo_copies Δ w 110 148 8 8 (by decide) (by decide) (by decide) (by decide) (hM.at (by decide) (by decide)) (hM.at (by decide) (by decide))) (by first | rfl | assumption | exact hM.at (by decide) (by decide)) rfl (Nat.le_of_ble_eq_true rfl) (by decide) (by decide) ?_
  refine zJ_aload_n dX9_asTold_12 rfl ?_
  refine zJ_aload_n dX9_asTold_13 rfl ?_
  refine zJ_getr (j := 111) dX9_asTold_14 fX9_26 (by first | rfl | assumption | exact hM.at (by decide) (by decide)) rfl (by first | rfl | assumption | exact hM.rf (by decide) rfl) ?_
  refine zJ_aload_n dX9_asTold_17 rfl ?_
  refine zJ_getr (j := 149) dX9_asTold_18 fX9_73 (by first | rfl | assumption | exact hM.at (by decide) (by decide)) rfl (by first | rfl | assumption | exact hM.rf (by decide) rfl) ?_
  refine zJ_cV2 dX9_asTold_21 sX9_313 mfX9_copies (c_Mo_copies Δ (zrow w 148 (fun j => if j < 8 then w.2.1 110 j else w.2.1 148 j)) 111 149 8 8 (by decide) (by decide) (by decide) (by decide) (hM.at (by decide) (by decide)) (hM.at (by decide) (by decide))) (by first | rfl | assumption | exact hM.at (by decide) (by decide)) rfl (Nat.le_of_ble_eq_true rfl) (by decide) (by decide) ?_
  refine zJ_aload_n dX9_asTold_24 rfl ?_
  refine zJ_aload_n dX9_asTold_25 rfl ?_
  refine zJ_geti dX9_asTold_26 fX9_310 (by first | rfl | assumption | exact hM.at (by decide) (by decide)) rfl ?_
  rw [show (zrow (zrow w 148 (fun j => if j < 8 then w.2.1 110 j else w.2.1 148 j)) 149 (fun j => if j < 8 then (zrow w 148 (fun j => if j < 8 then w.2.1 110 j else w.2.1 148 j)).2.1 111 j else (zrow w 148 (fun j => if j < 8 then w.2.1 110 j else w.2.1 148 j)).2.1 149 j)).2.1 100 8 = nI (U.1 10) by simp [zrow, u8]]
  refine zJ_puti dX9_asTold_29 fX9_342 (fun q h => by cases h; rfl) (by first | rfl | assumption | exact hM.at (by decide) (by decide)) rfl rfl rfl ?_
  refine zJ_aload_n dX9_asTold_32 rfl ?_
  refine zJ_iconst (v := 0) dX9_asTold_33 (by decide) ?_
  refine zJ_puti dX9_asTold_34 fX9_345 (fun q h => by cases h; rfl) (by first | rfl | assumption | exact hM.at (by decide) (by decide)) rfl rfl rfl ?_
  refine zJ_vret dX9_asTold_37 rfl (by decide) (by decide) (hQ _ _ ⟨rfl, (((zFM.row (by decide)).tr (zFM.row (by decide))).tr (zFM.i (by decide))).tr (zFM.i (by decide)), hM, ?_⟩)
  refine ⟨by simp [zsi, zrow, u1], by simp [zsi, zrow, u3], by simp [zsi, zrow, u4], by simp [zsi, zrow, u5], by simp [zsi, zrow, u6], by simp [zsi, zrow, u7], by simp [zsi, zrow], by simp [zsi, zrow, u9], by simp [zsi, zrow, h13]; rfl, fun p hp => ?_, fun p hp => ?_, fun p q hp hq => ?_⟩
  · have h8 : p < 8 := by omega
    simp [zsi, zrow, h8, uso p hp]
  · have h8 : p < 8 := by omega
    simp [zsi, zrow, h8, unu p hp]
  · simp [zsi, zrow, uwt p q hp hq]
set_option maxRecDepth 100000 in
theorem c_Mo_endAll (Δ : zD) (w : zW) (T : zTo) (hA : zMa w T) (hT : zTok T) (f : Nat → Nat) (hC : zCm w f) : zMd Δ 0 0 0 true yX9_endAll mX9_endAll [.ref 100] w (some (.long (lN (zca f (T.1 7) (T.1 0))))) w := by
  refine zMd.of mfX9_endAll (Nat.le_of_ble_eq_true rfl) (fun QR hQ => ?_)
  obtain ⟨hM, m1, m3, m4, m5, m6, m7, m46, m9, m47, mso, mnu, mwt⟩ := hA
  have hT0 := hT
  obtain ⟨hp0, hp5, hp6, hp7, hp8, hp9, hp10, hp11, hp12, hp13, hpp, hpw⟩ := hT
  have L : ∀ j, j ≤ T.1 0 → zJ Δ mX9_endAll (zRm 0 0 0) true w.1 QR (fun _ _ => False) 0 0 4 [(3, .int (nI j)), (1, .long (lN (zca f (T.1 7) j))), (0, .ref 100)] [] w := by
    refine zup (fun j hj ih => ?_)
    refine zJ_iload_n dX9_endAll_4 rfl ?_
    refine zJ_aload_n dX9_endAll_5 rfl ?_
    refine zJ_getiN dX9_endAll_6 fX9_298 (by first | rfl | assumption | exact hM.at (by decide) (by decide)) rfl m1 ?_
    refine zJ_icmp_ge (tgt := 37) dX9_endAll_9 (by decide) (fun h9 => ?_) (fun h9 => ?_)
    · have hj9 : j = T.1 0 := Nat.le_antisymm hj ((nI_leI (by omega) (by omega)).mp h9)
      subst hj9
      refine zJ_lload_n dX9_endAll_37 rfl ?_
      exact zJ_lret dX9_endAll_38 rfl (by decide) (by decide) hQ
    · have hj9 : j < T.1 0 := Nat.lt_of_not_le fun hq9 => h9 ((nI_leI (by omega) (by omega)).mpr hq9)
      refine zJ_lload_n dX9_endAll_12 rfl ?_
      refine zJ_aload_n dX9_endAll_13 rfl ?_
      refine zJ_getr (j := 154) dX9_endAll_14 fX9_89 (by first | rfl | assumption | exact hM.at (by decide) (by decide)) rfl (by first | rfl | assumption | exact hM.rf (by decide) rfl) ?_
      refine zJ_bipush (v := 12) dX9_endAll_17 (by decide) ?_
      refine zJ_iload_n dX9_endAll_19 rfl ?_
      refine zJ_imul dX9_endAll_20 ?_
      refine zJ_aload_n dX9_endAll_21 rfl ?_
      refine zJ_getiN dX9_endAll_22 fX9_16 (by first | rfl | assumption | exact hM.at (by decide) (by decide)) rfl m5 ?_
      refine zJ_iadd dX9_endAll_25 ?_
      refine zJ_iconst (v := 1) dX9_endAll_26 (by decide) ?_
      refine zJ_isub dX9_endAll_27 ?_
      refine zJ_laldN (i := (j * 12 + (T.1 7 - 1))) (v := (lN (f (j * 12 + (T.1 7 - 1))))) dX9_endAll_28 (by first | rfl | assumption | exact hM.at (by decide) (by decide)) (na_12 _ _ hp7.1) (by omega) (by decide) (hC _ (by omega)) ?_
      refine zJ_ladd dX9_endAll_29 ?_
      refine zJ_lstore_n (ls2 := fun x30 => [(1, .long x30), (3, .int (nI j)), (0, .ref 100)]) dX9_endAll_30 (by decide) (fun _ => rfl) (fun x30 ex30 => ?_)
      refine zJ_iinc (ls2 := fun x31 => [(3, .int x31), (1, .long x30), (0, .ref 100)]) dX9_endAll_31 rfl (by decide) (fun _ => rfl) (fun x31 ex31 => ?_)
      refine zJ_goto (tgt := 4) dX9_endAll_34 (by decide) ?_
      refine zJ_ls [(3, .int x31), (1, .long x30), (0, .ref 100)] (by simp) ?_
      rw [ex31, show nI j + Int32.ofInt 1 = nI (j + 1) from nI_1 _]
      rw [ex30, lN_add]
      exact ih (j + 1) (by omega) (by omega)
  refine zJ_lconst (v := 0) dX9_endAll_0 (by decide) ?_
  refine zJ_lstore_n (ls2 := fun x1 => [(1, .long x1), (0, .ref 100)]) dX9_endAll_1 (by decide) (fun _ => rfl) (fun x1 ex1 => ?_)
  obtain rfl : x1 = (lN (zca f (T.1 7) 0)) := ex1
  refine zJ_iconst (v := 0) dX9_endAll_2 (by decide) ?_
  refine zJ_istore_n (ls2 := fun x3 => [(3, .int x3), (1, .long (lN (zca f (T.1 7) 0))), (0, .ref 100)]) dX9_endAll_3 (by decide) (fun _ => rfl) (fun x3 ex3 => ?_)
  obtain rfl : x3 = (nI 0) := ex3
  exact L 0 (Nat.zero_le _)
set_option maxRecDepth 100000 in
theorem c_Mo_goesAll (Δ : zD) (w : zW) (T : zTo) (hA : zMa w T) (hT : zTok T) (f : Nat → Nat) (hC : zCm w f) : zMd Δ 0 0 0 true yX9_goesAll mX9_goesAll [.ref 100] w (some (.long (lN (fb_sm (fun p => fb_sm (fun h => (h + 1) * f (p * 12 + h)) (T.1 7)) (T.1 0))))) w := by
  refine zMd.of mfX9_goesAll (Nat.le_of_ble_eq_true rfl) (fun QR hQ => ?_)
  obtain ⟨hM, m1, m3, m4, m5, m6, m7, m46, m9, m47, mso, mnu, mwt⟩ := hA
  have hT0 := hT
  obtain ⟨hp0, hp5, hp6, hp7, hp8, hp9, hp10, hp11, hp12, hp13, hpp, hpw⟩ := hT
  have L : ∀ j, j ≤ T.1 0 → zJ Δ mX9_goesAll (zRm 0 0 0) true w.1 QR (fun _ _ => False) 0 0 4 [(3, .int (nI j)), (1, .long (lN (fb_sm (fun p => fb_sm (fun h => (h + 1) * f (p * 12 + h)) (T.1 7)) j))), (0, .ref 100)] [] w := by
    refine zup (fun j hj ih => ?_)
    have LI : j < T.1 0 → ∀ i, i ≤ T.1 7 → zJ Δ mX9_goesAll (zRm 0 0 0) true w.1 QR (fun _ _ => False) 0 0 15 [(4, .int (nI (i + 1))), (1, .long (lN ((fb_sm (fun p => fb_sm (fun h => (h + 1) * f (p * 12 + h)) (T.1 7)) j) + (fb_sm (fun h => (h + 1) * f (j * 12 + h)) i)))), (3, .int (nI j)), (0, .ref 100)] [] w := by
      intro hj9
      refine zup (fun i hi ihi => ?_)
      refine zJ_iload dX9_goesAll_15 rfl ?_
      refine zJ_aload_n dX9_goesAll_17 rfl ?_
      refine zJ_getiN dX9_goesAll_18 fX9_16 (by first | rfl | assumption | exact hM.at (by decide) (by decide)) rfl m5 ?_
      refine zJ_icmp_gt (tgt := 51) dX9_goesAll_21 (by decide) (fun h21 => ?_) (fun h21 => ?_)
      · have hi9 : i = T.1 7 := by
          have := (nI_ltI (b := i + 1) (by omega) (by omega)).mp h21
          omega
        refine zJ_iinc (ls2 := fun x51 => [(3, .int x51), (4, .int (nI (i + 1))), (1, .long (lN ((fb_sm (fun p => fb_sm (fun h => (h + 1) * f (p * 12 + h)) (T.1 7)) j) + (fb_sm (fun h => (h + 1) * f (j * 12 + h)) i)))), (0, .ref 100)]) dX9_goesAll_51 rfl (by decide) (fun _ => rfl) (fun x51 ex51 => ?_)
        refine zJ_goto (tgt := 4) dX9_goesAll_54 (by decide) ?_
        refine zJ_ls [(3, .int x51), (1, .long (lN ((fb_sm (fun p => fb_sm (fun h => (h + 1) * f (p * 12 + h)) (T.1 7)) j) + (fb_sm (fun h => (h + 1) * f (j * 12 + h)) i)))), (0, .ref 100)] (by simp) ?_
        rw [ex51, show nI j + Int32.ofInt 1 = nI (j + 1) from nI_1 _]
        rw [hi9]
        exact ih (j + 1) (by omega) (by omega)
      · have hi9 : i < T.1 7 := by
          have := (nI_leI (a := i + 1) (by omega) (by omega)).mp (Int32.not_lt.mp h21)
          omega
        refine zJ_lload_n dX9_goesAll_24 rfl ?_
        refine zJ_iload dX9_goesAll_25 rfl ?_
        refine zJ_i2l dX9_goesAll_27 ?_
        rw [nI_l (show i + 1 < 2 ^ 31 by omega)]
        refine zJ_aload_n dX9_goesAll_28 rfl ?_
        refine zJ_getr (j := 154) dX9_goesAll_29 fX9_89 (by first | rfl | assumption | exact hM.at (by decide) (by decide)) rfl (by first | rfl | assumption | exact hM.rf (by decide) rfl) ?_
        refine zJ_bipush (v := 12) dX9_goesAll_32 (by decide) ?_
        refine zJ_iload_n dX9_goesAll_34 rfl ?_
        refine zJ_imul dX9_goesAll_35 ?_
        refine zJ_iload dX9_goesAll_36 rfl ?_
        refine zJ_iadd dX9_goesAll_38 ?_
        refine zJ_iconst (v := 1) dX9_goesAll_39 (by decide) ?_
        refine zJ_isub dX9_goesAll_40 ?_
        refine zJ_laldN (i := (j * 12 + i)) (v := (lN (f (j * 12 + i)))) dX9_goesAll_41 (by first | rfl | assumption | exact hM.at (by decide) (by decide)) (na_12 j (i + 1) (by omega)) (by omega) (by decide) (hC _ (by omega)) ?_
        refine zJ_lmul dX9_goesAll_42 ?_
        rw [lN_mul]
        refine zJ_ladd dX9_goesAll_43 ?_
        rw [lN_add]
        refine zJ_lstore_n (ls2 := fun x44 => [(1, .long x44), (4, .int (nI (i + 1))), (3, .int (nI j)), (0, .ref 100)]) dX9_goesAll_44 (by decide) (fun _ => rfl) (fun x44 ex44 => ?_)
        refine zJ_iinc (ls2 := fun x45 => [(4, .int x45), (1, .long x44), (3, .int (nI j)), (0, .ref 100)]) dX9_goesAll_45 rfl (by decide) (fun _ => rfl) (fun x45 ex45 => ?_)
        refine zJ_goto (tgt := 15) dX9_goesAll_48 (by decide) ?_
        refine zJ_ls [(4, .int x45), (1, .long x44), (3, .int (nI j)), (0, .ref 100)] (by simp) ?_
        rw [ex45, show nI (i + 1) + Int32.ofInt 1 = nI (i + 1 + 1) from nI_1 _, ex44, show (fb_sm (fun p => fb_sm (fun h => (h + 1) * f (p * 12 + h)) (T.1 7)) j) + (fb_sm (fun h => (h + 1) * f (j * 12 + h)) i) + (i + 1) * f (j * 12 + i) = (fb_sm (fun p => fb_sm (fun h => (h + 1) * f (p * 12 + h)) (T.1 7)) j) + (fb_sm (fun h => (h + 1) * f (j * 12 + h)) (i + 1)) from Nat.add_assoc _ _ _]
        exact ihi (i + 1) (by omega) (by omega)
    refine zJ_iload_n dX9_goesAll_4 rfl ?_
    refine zJ_aload_n dX9_goesAll_5 rfl ?_
    refine zJ_getiN dX9_goesAll_6 fX9_298 (by first | rfl | assumption | exact hM.at (by decide) (by decide)) rfl m1 ?_
    refine zJ_icmp_ge (tgt := 57) dX9_goesAll_9 (by decide) (fun h9 => ?_) (fun h9 => ?_)
    · have hj9 : j = T.1 0 := Nat.le_antisymm hj ((nI_leI (by omega) (by omega)).mp h9)
      subst hj9
      refine zJ_lload_n dX9_goesAll_57 rfl ?_
      exact zJ_lret dX9_goesAll_58 rfl (by decide) (by decide) hQ
    · refine zJ_iconst (v := 1) dX9_goesAll_12 (by decide) ?_
      refine zJ_istore (ls2 := fun x13 => [(4, .int x13), (3, .int (nI j)), (1, .long (lN (fb_sm (fun p => fb_sm (fun h => (h + 1) * f (p * 12 + h)) (T.1 7)) j))), (0, .ref 100)]) dX9_goesAll_13 (by decide) (fun _ => rfl) (fun x13 ex13 => ?_)
      obtain rfl : x13 = (nI (0 + 1)) := ex13
      refine zJ_ls [(4, .int (nI (0 + 1))), (1, .long (lN (fb_sm (fun p => fb_sm (fun h => (h + 1) * f (p * 12 + h)) (T.1 7)) j))), (3, .int (nI j)), (0, .ref 100)] (by simp) ?_
      exact LI (Nat.lt_of_not_le fun hq9 => h9 ((nI_leI (by omega) (by omega)).mpr hq9)) 0 (Nat.zero_le _)
  refine zJ_lconst (v := 0) dX9_goesAll_0 (by decide) ?_
  refine zJ_lstore_n (ls2 := fun x1 => [(1, .long x1), (0, .ref 100)]) dX9_goesAll_1 (by decide) (fun _ => rfl) (fun x1 ex1 => ?_)
  obtain rfl : x1 = (lN (fb_sm (fun p => fb_sm (fun h => (h + 1) * f (p * 12 + h)) (T.1 7)) 0)) := ex1
  refine zJ_iconst (v := 0) dX9_goesAll_2 (by decide) ?_
  refine zJ_istore_n (ls2 := fun x3 => [(3, .int x3), (1, .long (lN (fb_sm (fun p => fb_sm (fun h => (h + 1) * f (p * 12 + h)) (T.1 7)) 0))), (0, .ref 100)]) dX9_goesAll_3 (by decide) (fun _ => rfl) (fun x3 ex3 => ?_)
  obtain rfl : x3 = (nI 0) := ex3
  exact L 0 (Nat.zero_le _)
theorem zca_pp {T : zTo} {K : List zKy} (hT : zTok T) {w : zW} (hK : zMK w T K) : zca (zcas T K) (T.1 7) (T.1 0) = zca (zcas T K) (T.1 7) 8 := by
  have h7 := hT.2.2.2.1
  exact sm_ext hT.1 (fun y h1 h2 => zcas_0 hK.kk h7.2 (by omega) (Or.inl h1))
theorem zla_pp {T : zTo} {K : List zKy} (hT : zTok T) {w : zW} (hK : zMK w T K) : fb_sm (fun p => fb_sm (fun h => (h + 1) * zcas T K (p * 12 + h)) (T.1 7)) (T.1 0) = zla (zcas T K) 12 := by
  have h7 := hT.2.2.2.1
  have e1 : ∀ p, fb_sm (fun h => (h + 1) * zcas T K (p * 12 + h)) (T.1 7) = fb_sm (fun h => (h + 1) * zcas T K (p * 12 + h)) 12 := fun p => sm_ext h7.2 (fun h a b => by rw [zcas_0 hK.kk h7.2 b (Or.inr a), Nat.mul_zero])
  rw [fb_sm_cong (fun p _ => e1 p), sm_ext (f := fun p => fb_sm (fun h => (h + 1) * zcas T K (p * 12 + h)) 12) hT.1 (fun p a b => sm_zero (fun h hh => by rw [zcas_0 hK.kk h7.2 hh (Or.inl a), Nat.mul_zero])), sm_swap]
  simp only [zla, zca]
  exact fb_sm_cong (fun h _ => by rw [sm_mul]; rfl)
