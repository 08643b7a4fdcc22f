/-! Guesses.noteOdds, creditOf; Rows.firstWrong -/
theorem zCs.rl {w : zW} (h : zCs w) {a : Nat} {f : Nat → Int64} : zCs (zrol w a f) := h
theorem zCs.i {w : zW} (h : zCs w) {a j : Nat} {x : Int32} : zCs (zsi w a j x) := h
theorem zCs.l {w : zW} (h : zCs w) {a j : Nat} {x : Int64} : zCs (zsl w a j x) := h
set_option maxRecDepth 100000 in
theorem c_Guesses_noteOdds (Δ : zD) (w : zW) (b R m : Nat) (T : zTo) (K : List zKy) (hG : zGr w b R m T K) (hcs : zChs w b T K) (hC : zCs w) (hb45 : b + 18 < 38 ∨ 60 < b) (g e : Nat) (fr : Nat → Nat → Nat) (ln : Nat → Nat) (hg : g < 4) (he : e ≤ 20) (h4 : w.2.1 38 4 = nI e) (hln : ∀ r, r < e → w.2.1 41 r = nI (ln r) ∧ ln r ≤ 20) (hfr : ∀ r i, r < e → i < ln r → w.2.1 40 (r * 20 + i) = nI (fr r i)) (hf8 : ∀ r i, fr r i < 8) : zMd Δ 5 0 0 true yX0_noteOdds mX0_noteOdds [.ref 42, .int (nI g), .ref b, .ref 38] w none (zrol w 45 (fun i => if g * 20 ≤ i ∧ i < g * 20 + e then lN (zodds T (fr (i - g * 20)) (ln (i - g * 20))) else w.2.2.1 45 i)) := by
  refine zMd.of mfX0_noteOdds (Nat.le_of_ble_eq_true rfl) (fun QR hQ => ?_)
  have hpb := hG.1.1
  have L : ∀ j, j ≤ e → zJ Δ mX0_noteOdds (zRm 5 0 0) true w.1 QR (fun _ _ => False) 0 0 3 [(4, .int (nI j)), (0, .ref 42), (1, .int (nI g)), (2, .ref b), (3, .ref 38)] [] (zrol w 45 (fun i => if g * 20 ≤ i ∧ i < g * 20 + j then lN (zodds T (fr (i - g * 20)) (ln (i - g * 20))) else w.2.2.1 45 i)) := by
    refine zup (fun j hj ih => ?_)
    have hGj : zGr (zrol w 45 (fun i => if g * 20 ≤ i ∧ i < g * 20 + j then lN (zodds T (fr (i - g * 20)) (ln (i - g * 20))) else w.2.2.1 45 i)) b R m T K := hG.eq rfl rfl (fun _ _ _ _ => rfl) (fun a i h1 h2 => by
      have : ¬ a = 45 := by omega
      simp [zrol, this])
    have hCj : zCs (zrol w 45 (fun i => if g * 20 ≤ i ∧ i < g * 20 + j then lN (zodds T (fr (i - g * 20)) (ln (i - g * 20))) else w.2.2.1 45 i)) := hC
    have e0 : nI g * 20 + nI j = nI (g * 20 + j) := by rw [show nI g * 20 = nI (g * 20) from na_mul g 20, na_add]
    refine zJ_iload dX0_noteOdds_3 rfl ?_
    refine zJ_aload_n dX0_noteOdds_5 rfl ?_
    refine zJ_geti dX0_noteOdds_6 fX0_45 (by first | rfl | assumption | exact hCj.1 _ (by decide)) rfl ?_
    rw [show (zrol w 45 (fun i => if g * 20 ≤ i ∧ i < g * 20 + j then lN (zodds T (fr (i - g * 20)) (ln (i - g * 20))) else w.2.2.1 45 i)).2.1 38 4 = nI e from h4]
    refine zJ_icmp_ge (tgt := 50) dX0_noteOdds_9 (by decide) (fun h9 => ?_) (fun h9 => ?_)
    · have hj9 : j = e := by exact Nat.le_antisymm hj ((nI_leI (a := e) (b := j) (by omega) (by omega)).mp h9)
      subst hj9
      exact zJ_vret dX0_noteOdds_50 rfl (by decide) (by decide) hQ
    · have hj9 : j < e := Nat.lt_of_not_le fun hq9 => h9 (by exact (nI_leI (a := e) (b := j) (by omega) (by omega)).mpr hq9)
      obtain ⟨hl1, hl2⟩ := hln j hj9
      refine zJ_aload_n dX0_noteOdds_12 rfl ?_
      refine zJ_getr dX0_noteOdds_13 fX0_20 (by first | rfl | assumption | exact hCj.1 _ (by decide)) rfl (by first | rfl | assumption | exact hCj.2 _ _ rfl) ?_
      refine zJ_iload_n dX0_noteOdds_16 rfl ?_
      refine zJ_bipush (v := 20) dX0_noteOdds_17 (by decide) ?_
      refine zJ_imul dX0_noteOdds_19 ?_
      refine zJ_iload dX0_noteOdds_20 rfl ?_
      refine zJ_iadd dX0_noteOdds_22 ?_
      rw [e0]
      refine zJ_aload_n dX0_noteOdds_23 rfl ?_
      refine zJ_aload_n dX0_noteOdds_24 rfl ?_
      refine zJ_getr dX0_noteOdds_25 fX0_48 (by first | rfl | assumption | exact hCj.1 _ (by decide)) rfl (by first | rfl | assumption | exact hCj.2 _ _ rfl) ?_
      refine zJ_iload dX0_noteOdds_28 rfl ?_
      refine zJ_bipush (v := 20) dX0_noteOdds_30 (by decide) ?_
      refine zJ_imul dX0_noteOdds_32 ?_
      rw [show nI j * 20 = nI (j * 20) from na_mul j 20]
      refine zJ_aload_n dX0_noteOdds_33 rfl ?_
      refine zJ_getr dX0_noteOdds_34 fX0_51 (by first | rfl | assumption | exact hCj.1 _ (by decide)) rfl (by first | rfl | assumption | exact hCj.2 _ _ rfl) ?_
      refine zJ_iload dX0_noteOdds_37 rfl ?_
      refine zJ_iald dX0_noteOdds_39 (by first | rfl | assumption | exact hCj.1 _ (by decide)) (vp_in_nI (by omega) (by omega)) ?_
      rw [nI_clamp (show j < 2 ^ 31 by omega), show (zrol w 45 (fun i => if g * 20 ≤ i ∧ i < g * 20 + j then lN (zodds T (fr (i - g * 20)) (ln (i - g * 20))) else w.2.2.1 45 i)).2.1 41 j = nI (ln j) from hl1]
      refine zJ_cV3 dX0_noteOdds_40 sX0_54 mfX1_oddsOf (c_Play_oddsOf Δ (zrol w 45 (fun i => if g * 20 ≤ i ∧ i < g * 20 + j then lN (zodds T (fr (i - g * 20)) (ln (i - g * 20))) else w.2.2.1 45 i)) b R m T K hGj hcs 40 (j * 20) (ln j) 400 (fr j) (by first | rfl | assumption | exact hCj.1 _ (by decide)) (by decide) (by omega) (fun i hi => hfr j i hj9 hi) (hf8 j)) (by first | rfl | assumption | exact hCj.1 _ (by decide)) rfl (Nat.le_of_ble_eq_true rfl) (by decide) (by decide) ?_
      refine zJ_last dX0_noteOdds_43 (by first | rfl | assumption | exact hCj.1 _ (by decide)) (vp_in_nI (by omega) (by omega)) ?_
      refine zJ_iinc (ls2 := fun x44 => [(4, .int x44), (0, .ref 42), (1, .int (nI g)), (2, .ref b), (3, .ref 38)]) dX0_noteOdds_44 rfl (by decide) (fun _ => rfl) (fun x44 ex44 => ?_)
      refine zJ_goto (tgt := 3) dX0_noteOdds_47 (by decide) ?_
      refine zJ_ls [(4, .int x44), (0, .ref 42), (1, .int (nI g)), (2, .ref b), (3, .ref 38)] (by simp) ?_
      rw [ex44, show nI j + Int32.ofInt 1 = nI (j + 1) from nI_1 _]
      refine zJ_w (w2 := zrol w 45 (fun i => if g * 20 ≤ i ∧ i < g * 20 + (j + 1) then lN (zodds T (fr (i - g * 20)) (ln (i - g * 20))) else w.2.2.1 45 i)) ?_ (ih (j + 1) (by omega) (by omega))
      rw [nI_clamp (show g * 20 + j < 2 ^ 31 by omega), zsl_row, zrol_get, zrol_rol]
      refine congrArg (zrol w 45) (funext fun i => ?_)
      by_cases c : i = g * 20 + j
      · subst c
        have h1 : g * 20 ≤ g * 20 + j ∧ g * 20 + j < g * 20 + (j + 1) := by omega
        simp [h1]
      · have c3 : (g * 20 ≤ i ∧ i < g * 20 + (j + 1)) = (g * 20 ≤ i ∧ i < g * 20 + j) := by simp only [eq_iff_iff]; omega
        simp only [c, if_false, c3]
  refine zJ_iconst (v := 0) dX0_noteOdds_0 (by decide) ?_
  refine zJ_istore (ls2 := fun x1 => [(4, .int x1), (0, .ref 42), (1, .int (nI g)), (2, .ref b), (3, .ref 38)]) dX0_noteOdds_1 (by decide) (fun _ => rfl) (fun x1 ex1 => ?_)
  obtain rfl : x1 = (nI 0) := ex1
  refine zJ_w (w2 := zrol w 45 (fun i => if g * 20 ≤ i ∧ i < g * 20 + 0 then lN (zodds T (fr (i - g * 20)) (ln (i - g * 20))) else w.2.2.1 45 i)) ?_ (L 0 (Nat.zero_le _))
  refine (zrol_self w 45).symm.trans (congrArg (zrol w 45) (funext fun i => ?_))
  have : ¬ (g * 20 ≤ i ∧ i < g * 20 + 0) := by omega
  simp only [this, if_false]
/-- the shares of the GUESSES behind so many rows -/
def zcv (tb : Nat) (o : Nat → Int64) : Nat → Nat → Int64
  | 0 => fun _ => lN (1000000 / zpop tb)
  | r + 1 => fun g => zw2 tb (zcv tb o r) (fun g => o (g * 20 + r)) g
theorem zw2_cong {tb : Nat} {v v2 o o2 : Nat → Int64} (h1 : ∀ g, g < 4 → v g = v2 g) (h2 : ∀ g, g < 4 → o g = o2 g) {g : Nat} (hg : g < 4) : zw2 tb v o g = zw2 tb v2 o2 g := by
  have e1 : ∀ g, g < 4 → zw1 tb v o g = zw1 tb v2 o2 g := fun g hg => by simp only [zw1, h1 g hg, h2 g hg]
  have e2 : ∀ n, n ≤ 4 → ztg tb (zw1 tb v o) n = ztg tb (zw1 tb v2 o2) n := by
    intro n
    induction n with
    | zero => intro _; rfl
    | succ n ih => intro hn; simp only [ztg, ih (by omega), e1 n (by omega)]
  simp only [zw2, e1 g hg, e2 4 (Nat.le_refl 4)]
theorem zpop_le {b : Nat} (hb : b < 256) : zpop b ≤ 8 := (by decide +kernel : ∀ b, b < 256 → zpop b ≤ 8) b hb
set_option maxRecDepth 100000 in
theorem c_Guesses_creditOf (Δ : zD) (w : zW) (hC : zCs w) (tb g e : Nat) (h2 : w.2.1 42 2 = nI tb) (ht : tb < 16) (hp : 0 < zpop tb) (hg : g < 4) (he : e ≤ 20) : zMd Δ 2 0 0 true yX0_creditOf mX0_creditOf [.ref 42, .int (nI g), .int (nI e)] w (some (.int (zcv tb (w.2.2.1 45) e g).toInt32)) (zrol w 46 (fun g => if g < 4 then zcv tb (w.2.2.1 45) e g else w.2.2.1 46 g)) := by
  refine zMd.of mfX0_creditOf (Nat.le_of_ble_eq_true rfl) (fun QR hQ => ?_)
  have hpl : zpop tb ≤ 8 := zpop_le (by omega)
  have L : ∀ j, j ≤ e → zJ Δ mX0_creditOf (zRm 2 0 0) true w.1 QR (fun _ _ => False) 0 0 29 [(4, .int (nI j)), (3, .int (nI (zpop tb))), (0, .ref 42), (1, .int (nI g)), (2, .int (nI e))] [] (zrol w 46 (fun g => if g < 4 then zcv tb (w.2.2.1 45) j g else w.2.2.1 46 g)) := by
    refine zup (fun j hj ih => ?_)
    have hCj : zCs (zrol w 46 (fun g => if g < 4 then zcv tb (w.2.2.1 45) j g else w.2.2.1 46 g)) := hC
    refine zJ_iload dX0_creditOf_29 rfl ?_
    refine zJ_iload_n dX0_creditOf_31 rfl ?_
    refine zJ_icmp_ge (tgt := 47) dX0_creditOf_32 (by decide) (fun h32 => ?_) (fun h32 => ?_)
    · have hj9 : j = e := by exact Nat.le_antisymm hj ((nI_leI (a := e) (b := j) (by omega) (by omega)).mp h32)
      subst hj9
      refine zJ_aload_n dX0_creditOf_47 rfl ?_
      refine zJ_getr dX0_creditOf_48 fX0_24 (by first | rfl | assumption | exact hCj.1 _ (by decide)) rfl (by first | rfl | assumption | exact hCj.2 _ _ rfl) ?_
      refine zJ_iload_n dX0_creditOf_51 rfl ?_
      refine zJ_lald dX0_creditOf_52 (by first | rfl | assumption | exact hCj.1 _ (by decide)) (vp_in_nI (by omega) (by omega)) ?_
      rw [nI_clamp (show g < 2 ^ 31 by omega), show (zrol w 46 (fun g => if g < 4 then zcv tb (w.2.2.1 45) j g else w.2.2.1 46 g)).2.2.1 46 g = zcv tb (w.2.2.1 45) j g by simp [zrol, hg]]
      refine zJ_l2i dX0_creditOf_53 ?_
      exact zJ_iret dX0_creditOf_54 rfl (by decide) (by decide) hQ
    · have hj9 : j < e := Nat.lt_of_not_le fun hq9 => h32 (by exact (nI_leI (a := e) (b := j) (by omega) (by omega)).mpr hq9)
      refine zJ_aload_n dX0_creditOf_35 rfl ?_
      refine zJ_iload dX0_creditOf_36 rfl ?_
      refine zJ_cV1 dX0_creditOf_38 sX0_70 mfX0_weighBy (c_Guesses_weighBy Δ (zrol w 46 (fun g => if g < 4 then zcv tb (w.2.2.1 45) j g else w.2.2.1 46 g)) hCj tb j h2 ht (by omega)) (by first | rfl | assumption | exact hCj.1 _ (by decide)) rfl (Nat.le_of_ble_eq_true rfl) (by decide) (by decide) ?_
      refine zJ_iinc (ls2 := fun x41 => [(4, .int x41), (3, .int (nI (zpop tb))), (0, .ref 42), (1, .int (nI g)), (2, .int (nI e))]) dX0_creditOf_41 rfl (by decide) (fun _ => rfl) (fun x41 ex41 => ?_)
      refine zJ_goto (tgt := 29) dX0_creditOf_44 (by decide) ?_
      refine zJ_ls [(4, .int x41), (3, .int (nI (zpop tb))), (0, .ref 42), (1, .int (nI g)), (2, .int (nI e))] (by simp) ?_
      rw [ex41, show nI j + Int32.ofInt 1 = nI (j + 1) from nI_1 _]
      refine zJ_w (w2 := zrol w 46 (fun g => if g < 4 then zcv tb (w.2.2.1 45) (j + 1) g else w.2.2.1 46 g)) ?_ (ih (j + 1) (by omega) (by omega))
      rw [zrol_rol]
      refine congrArg (zrol w 46) (funext fun i => ?_)
      by_cases c : i < 4
      · simp only [c, if_true, zcv]
        refine zw2_cong (fun g hg => ?_) (fun g hg => ?_) c
        · simp [zrol, hg]
        · simp [zrol]
      · simp only [c, if_false]; simp [zrol, c]
  refine zJ_aload_n dX0_creditOf_0 rfl ?_
  refine zJ_geti dX0_creditOf_1 fX0_33 (by first | rfl | assumption | exact hC.1 _ (by decide)) rfl ?_
  rw [h2]
  refine zJ_cS1 dX0_creditOf_4 sX0_60 mfJ6_bitCount_0f7a4 (c_bitCount Δ w tb (by omega)) (Nat.le_of_ble_eq_true rfl) (by decide) (by decide) ?_
  refine zJ_istore_n (ls2 := fun x7 => [(3, .int x7), (0, .ref 42), (1, .int (nI g)), (2, .int (nI e))]) dX0_creditOf_7 (by decide) (fun _ => rfl) (fun x7 ex7 => ?_)
  obtain rfl : x7 = (nI (zpop tb)) := ex7
  refine zJ_iload_n dX0_creditOf_8 rfl ?_
  refine zJ_if_ne (tgt := 14) dX0_creditOf_9 (by decide) (fun h9 => ?_) (fun h9 => ?_)
  · refine zJ_aload_n dX0_creditOf_14 rfl ?_
    refine zJ_getr dX0_creditOf_15 fX0_24 (by first | rfl | assumption | exact hC.1 _ (by decide)) rfl (by first | rfl | assumption | exact hC.2 _ _ rfl) ?_
    refine zJ_ldc dX0_creditOf_18 kX0_66 ?_
    refine zJ_iload_n dX0_creditOf_20 rfl ?_
    refine zJ_idiv dX0_creditOf_21 (fun h => absurd ((nI_eq (b := 0) (by omega) (by decide)).mp h) (by omega)) ?_
    rw [show (1000000 : Int32) = nI 1000000 from rfl, nI_div (by decide) (by omega)]
    refine zJ_i2l dX0_creditOf_22 ?_
    rw [nI_l (by have := Nat.div_le_self 1000000 (zpop tb); omega)]
    refine zJ_cS2 dX0_creditOf_23 sX0_67 mfJ7_fill_d0a16 (c_fill_l Δ w 46 4 _ (by decide) (by first | rfl | assumption | exact hC.1 _ (by decide))) (Nat.le_of_ble_eq_true rfl) (by decide) (by decide) ?_
    refine zJ_iconst (v := 0) dX0_creditOf_26 (by decide) ?_
    refine zJ_istore (ls2 := fun x27 => [(4, .int x27), (3, .int (nI (zpop tb))), (0, .ref 42), (1, .int (nI g)), (2, .int (nI e))]) dX0_creditOf_27 (by decide) (fun _ => rfl) (fun x27 ex27 => ?_)
    obtain rfl : x27 = (nI 0) := ex27
    exact L 0 (Nat.zero_le _)
  · exact absurd ((nI_eq (b := 0) (by omega) (by decide)).mp h9) (by omega)
