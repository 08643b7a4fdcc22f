/-! the model: goesTo, week0, on -/
theorem zneg {a b : Nat} (h : a < b) (hb : b < 2 ^ 31) : ¬ (0 : Int32) ≤ nI a - nI b := fun h9 => by
  obtain ⟨i, hi, e⟩ := nI_of (Int32.not_lt.mpr h9)
  have e2 : nI a = nI (i + b) := by rw [← na_add, ← e, Int32.sub_add_cancel]
  have e3 := congrArg (fun z : Int32 => z.toBitVec.toNat) e2
  have e4 : a % 2 ^ 32 = (i + b) % 2 ^ 32 := e3
  omega
theorem zgp_0 {T : zTo} {k : zKy} {O : Nat → Bool} {s : Int32} (h : fb_sm (zgU T k O) 8 = 0) : zgp T k O s = (none, s) := by simp only [zgp, h, if_true]
theorem zgp_1 {T : zTo} {k : zKy} {O : Nat → Bool} {s : Int32} (h : 0 < fb_sm (zgU T k O) 8) : zgp T k O s = (zpk (zgU T k O) (zd15 (zdr s) % fb_sm (zgU T k O) 8) 8, zdr s) := by
  simp only [zgp]
  rw [if_neg (by omega)]
theorem zOt.fm {w c : zW} {ot : Nat → Nat} {l : List Nat} (h : zOt w ot) (hf : zFM l w c) (hl : 79 ∉ l) : zOt c ot := fun p hp => ⟨by rw [show (179 : Nat) = 100 + 79 from rfl, hf.ar hl (by decide)]; exact (h p hp).1, (h p hp).2⟩
set_option maxRecDepth 100000 in
theorem zMo_goT (Δ : zD) (w : zW) (T : zTo) (K : List zKy) (hK : zMK w T K) (hT : zTok T) (x : Nat) (k : zKy) (hx : K[x]? = some k) (ot : Nat → Nat) (ho : zOt w ot) (t : Nat) (ht : t ≤ 100) (O : Nat → Bool) (hO : ∀ p, p < 8 → O p = decide (t < ot p)) {QR : Option Value → zW → Prop} (hQ : QR (some (.int (zoi (zgp T k O (w.2.1 178 0)).1))) (zsi w 178 0 (zgp T k O (w.2.1 178 0)).2)) : zJ Δ mX9_goesTo (zRm 2 0 0) true w.1 QR (fun _ _ => False) 0 0 115 [(3, .int (nI k.1)), (0, .ref 100), (1, .int (nI x)), (2, .int (nI t))] [] w := by
  have hK0 := hK
  obtain ⟨hA, hN, hall, hch⟩ := hK
  have hA0 := hA
  obtain ⟨hM, m1, m3, m4, m5, m6, m7, m46, m9, m47, mso, mnu, mwt⟩ := hA
  have hT0 := hT
  obtain ⟨hp0, hp5, hp6, hp7, hp8, hp9, hp10, hp11, hp12, hp13, hpp, hpw⟩ := hT
  have hxK : x < K.length := (List.getElem?_eq_some_iff.mp hx).1
  have hKR := hN.2.2.1
  obtain ⟨hk, hkp⟩ := hN.2.2.2 k (List.mem_iff_getElem?.mpr ⟨x, hx⟩)
  obtain ⟨y1, y2, y3, y4⟩ := hN.1 x k hx
  have hk1 := hk.1
  have hk2 := hk.2.1
  have hU99 : ∀ y, y < 8 → zgU T k O y ≤ 99 := fun y hy => by
    simp only [zgU]
    split
    · exact (hpw k.1 y hk1 hy).1
    · omega
  have hUb : ∀ n, n ≤ 8 → fb_sm (zgU T k O) n ≤ n * 99 := fun n hn => fb_sm_bound (fun y hy => hU99 y (by omega))
  have hS8 := hUb 8 (Nat.le_refl _)
  have hSe : fb_sm (zgU T k O) (T.1 0) = fb_sm (zgU T k O) 8 := sm_ext hp0 (fun y h1 h2 => by
    simp only [zgU]
    rw [zmay_no hT0 hk1 h1 h2]
    rfl)
  have hUn : ∀ y, zmay T k y = false → zgU T k O y = 0 := fun y h => by simp only [zgU, h]; rfl
  have hUo : ∀ y, O y = true → zgU T k O y = 0 := fun y h => by simp [zgU, h]
  have hUy : ∀ y, zmay T k y = true → O y = false → zgU T k O y = T.2.2.2 (k.1 * 8 + y) := fun y h1 h2 => by simp [zgU, h1, h2]
  have M1 : zMs (zsi w 178 0 (zdr (w.2.1 178 0))) := hM
  have f1 : zFM [78] w (zsi w 178 0 (zdr (w.2.1 178 0))) := zFM.i (by decide)
  have hK1 : zMK (zsi w 178 0 (zdr (w.2.1 178 0))) T K := hK0.fm f1 (by decide)
  have ho1 : zOt (zsi w 178 0 (zdr (w.2.1 178 0))) ot := ho.fm f1 (by decide)
  have n1 : (zsi w 178 0 (zdr (w.2.1 178 0))).2.1 100 1 = nI (T.1 0) := hK1.1.2.1
  have nwt : ∀ q, q < T.1 0 → (zsi w 178 0 (zdr (w.2.1 178 0))).2.1 112 (k.1 * 8 + q) = nI (T.2.2.2 (k.1 * 8 + q)) := fun q hq => hK1.1.2.2.2.2.2.2.2.2.2.2.2.2 k.1 q hkp hq
  have L2 : ∀ d, d < (fb_sm (zgU T k O) 8) → QR (some (.int (zoi (zpk (zgU T k O) d 8)))) (zsi w 178 0 (zdr (w.2.1 178 0))) → ∀ j, j ≤ T.1 0 → zpk (zgU T k O) d j = none → zJ Δ mX9_goesTo (zRm 2 0 0) true w.1 QR (fun _ _ => False) 0 0 201 [(6, .int (nI j)), (5, .int (nI (d - fb_sm (zgU T k O) j))), (4, .int (nI (fb_sm (zgU T k O) 8))), (3, .int (nI k.1)), (0, .ref 100), (1, .int (nI x)), (2, .int (nI t))] [] (zsi w 178 0 (zdr (w.2.1 178 0))) := by
    intro d hd hQ1
    refine zup (fun j hj ih hnn => ?_)
    have hle := zpk_none hnn
    have hUj := hUb j (by omega)
    have hj9 : j < T.1 0 := Nat.lt_of_le_of_ne hj fun e => by
      rw [e, hSe] at hle
      omega
    have hsk : zgU T k O j = 0 → zJ Δ mX9_goesTo (zRm 2 0 0) true w.1 QR (fun _ _ => False) 0 0 201 [(6, .int (nI (j + 1))), (5, .int (nI (d - fb_sm (zgU T k O) j))), (4, .int (nI (fb_sm (zgU T k O) 8))), (3, .int (nI k.1)), (0, .ref 100), (1, .int (nI x)), (2, .int (nI t))] [] (zsi w 178 0 (zdr (w.2.1 178 0))) := fun h => by
      have e1 : fb_sm (zgU T k O) (j + 1) = fb_sm (zgU T k O) j := by rw [fb_sm_succ, h]; rfl
      have := ih (j + 1) (by omega) (by omega) (by simp only [zpk, hnn]; rw [if_neg (by omega)])
      rw [e1] at this
      exact this
    cases hmy : zmay T k j with
    | false =>
      have hu9 := hUn j hmy
      refine zJ_iload dX9_goesTo_201 rfl ?_
      refine zJ_aload_n dX9_goesTo_203 rfl ?_
      refine zJ_getiN dX9_goesTo_204 fX9_298 (by first | rfl | assumption | exact M1.at (by decide) (by decide)) rfl n1 ?_
      refine zJ_icmp_ge (tgt := 270) dX9_goesTo_207 (by decide) (fun h9 => absurd h9 (fun h => absurd ((nI_leI (by omega) (by omega)).mp h) (by omega))) (fun h207 => ?_)
      refine zJ_aload_n dX9_goesTo_210 rfl ?_
      refine zJ_getr (j := 143) dX9_goesTo_211 fX9_63 (by first | rfl | assumption | exact M1.at (by decide) (by decide)) rfl (by first | rfl | assumption | exact M1.rf (by decide) rfl) ?_
      refine zJ_bipush (v := 8) dX9_goesTo_214 (by decide) ?_
      refine zJ_iload_n dX9_goesTo_216 rfl ?_
      refine zJ_imul dX9_goesTo_217 ?_
      refine zJ_iload dX9_goesTo_218 rfl ?_
      refine zJ_iadd dX9_goesTo_220 ?_
      refine zJ_ialdN (i := (x * 8 + j)) (v := (-1)) dX9_goesTo_221 (by first | rfl | assumption | exact M1.at (by decide) (by decide)) (na_8 _ _) (by omega) (by decide) (hK1.n hx (by omega) hmy) ?_
      refine zJ_iconst (v := (-1)) dX9_goesTo_222 (by decide) ?_
      refine zJ_icmp_eq (tgt := 264) dX9_goesTo_223 (by decide) (fun _ => ?_) (fun h9 => False.elim (by revert h9; decide))
      refine zJ_iinc (ls2 := fun x264 => [(6, .int x264), (5, .int (nI (d - fb_sm (zgU T k O) j))), (4, .int (nI (fb_sm (zgU T k O) 8))), (3, .int (nI k.1)), (0, .ref 100), (1, .int (nI x)), (2, .int (nI t))]) dX9_goesTo_264 rfl (by decide) (fun _ => rfl) (fun x264 ex264 => ?_)
      refine zJ_goto (tgt := 201) dX9_goesTo_267 (by decide) ?_
      refine zJ_ls [(6, .int x264), (5, .int (nI (d - fb_sm (zgU T k O) j))), (4, .int (nI (fb_sm (zgU T k O) 8))), (3, .int (nI k.1)), (0, .ref 100), (1, .int (nI x)), (2, .int (nI t))] (by simp) ?_
      rw [ex264, show nI j + Int32.ofInt 1 = nI (j + 1) from nI_1 _]
      exact hsk hu9
    | true =>
      obtain ⟨c9, hc1, hc2, hc3, hc4, hc5⟩ := hK1.c hx (by omega) hmy
      cases hoj : O j with
      | true =>
        have hu9 := hUo j hoj
        have hlt : t < ot j := of_decide_eq_true ((hO j (by omega)).symm.trans hoj)
        refine zJ_iload dX9_goesTo_201 rfl ?_
        refine zJ_aload_n dX9_goesTo_203 rfl ?_
        refine zJ_getiN dX9_goesTo_204 fX9_298 (by first | rfl | assumption | exact M1.at (by decide) (by decide)) rfl n1 ?_
        refine zJ_icmp_ge (tgt := 270) dX9_goesTo_207 (by decide) (fun h9 => absurd h9 (fun h => absurd ((nI_leI (by omega) (by omega)).mp h) (by omega))) (fun h207 => ?_)
        refine zJ_aload_n dX9_goesTo_210 rfl ?_
        refine zJ_getr (j := 143) dX9_goesTo_211 fX9_63 (by first | rfl | assumption | exact M1.at (by decide) (by decide)) rfl (by first | rfl | assumption | exact M1.rf (by decide) rfl) ?_
        refine zJ_bipush (v := 8) dX9_goesTo_214 (by decide) ?_
        refine zJ_iload_n dX9_goesTo_216 rfl ?_
        refine zJ_imul dX9_goesTo_217 ?_
        refine zJ_iload dX9_goesTo_218 rfl ?_
        refine zJ_iadd dX9_goesTo_220 ?_
        refine zJ_ialdN (i := (x * 8 + j)) (v := (nI c9)) dX9_goesTo_221 (by first | rfl | assumption | exact M1.at (by decide) (by decide)) (na_8 _ _) (by omega) (by decide) hc2 ?_
        refine zJ_iconst (v := (-1)) dX9_goesTo_222 (by decide) ?_
        refine zJ_icmp_eq (tgt := 264) dX9_goesTo_223 (by decide) (fun h9 => absurd h9 (nI_m1 (show c9 < 2 ^ 31 by omega))) (fun h223 => ?_)
        refine zJ_aload_n dX9_goesTo_226 rfl ?_
        refine zJ_iload dX9_goesTo_227 rfl ?_
        refine zJ_iload_n dX9_goesTo_229 rfl ?_
        refine zJ_cV2 dX9_goesTo_230 sX9_471 mfX9_isOut (c_Mo_isOut Δ (zsi w 178 0 (zdr (w.2.1 178 0))) M1 ot ho1 j t (by omega) ht) (by first | rfl | assumption | exact M1.at (by decide) (by decide)) rfl (Nat.le_of_ble_eq_true rfl) (by decide) (by decide) ?_
        rw [if_pos hlt]
        refine zJ_if_eq (tgt := 239) dX9_goesTo_233 (by decide) (fun h9 => False.elim (by revert h9; decide)) (fun _ => ?_)
        refine zJ_goto (tgt := 264) dX9_goesTo_236 (by decide) ?_
        refine zJ_iinc (ls2 := fun x264 => [(6, .int x264), (5, .int (nI (d - fb_sm (zgU T k O) j))), (4, .int (nI (fb_sm (zgU T k O) 8))), (3, .int (nI k.1)), (0, .ref 100), (1, .int (nI x)), (2, .int (nI t))]) dX9_goesTo_264 rfl (by decide) (fun _ => rfl) (fun x264 ex264 => ?_)
        refine zJ_goto (tgt := 201) dX9_goesTo_267 (by decide) ?_
        refine zJ_ls [(6, .int x264), (5, .int (nI (d - fb_sm (zgU T k O) j))), (4, .int (nI (fb_sm (zgU T k O) 8))), (3, .int (nI k.1)), (0, .ref 100), (1, .int (nI x)), (2, .int (nI t))] (by simp) ?_
        rw [ex264, show nI j + Int32.ofInt 1 = nI (j + 1) from nI_1 _]
        exact hsk hu9
      | false =>
        have hu9 := hUy j hmy hoj
        have hlt : ¬ t < ot j := of_decide_eq_false ((hO j (by omega)).symm.trans hoj)
        have hu99 := hU99 j (by omega)
        have e1 : fb_sm (zgU T k O) (j + 1) = fb_sm (zgU T k O) j + T.2.2.2 (k.1 * 8 + j) := by rw [fb_sm_succ, hu9]
        rw [hu9] at hu99
        by_cases hdj : d < fb_sm (zgU T k O) (j + 1)
        · have hz : zpk (zgU T k O) d (j + 1) = some j := by simp only [zpk, hnn]; rw [if_pos hdj]
          have hz8 := zpk_more hz (8 - (j + 1))
          rw [show j + 1 + (8 - (j + 1)) = 8 by omega] at hz8
          rw [hz8] at hQ1
          refine zJ_iload dX9_goesTo_201 rfl ?_
          refine zJ_aload_n dX9_goesTo_203 rfl ?_
          refine zJ_getiN dX9_goesTo_204 fX9_298 (by first | rfl | assumption | exact M1.at (by decide) (by decide)) rfl n1 ?_
          refine zJ_icmp_ge (tgt := 270) dX9_goesTo_207 (by decide) (fun h9 => absurd h9 (fun h => absurd ((nI_leI (by omega) (by omega)).mp h) (by omega))) (fun h207 => ?_)
          refine zJ_aload_n dX9_goesTo_210 rfl ?_
          refine zJ_getr (j := 143) dX9_goesTo_211 fX9_63 (by first | rfl | assumption | exact M1.at (by decide) (by decide)) rfl (by first | rfl | assumption | exact M1.rf (by decide) rfl) ?_
          refine zJ_bipush (v := 8) dX9_goesTo_214 (by decide) ?_
          refine zJ_iload_n dX9_goesTo_216 rfl ?_
          refine zJ_imul dX9_goesTo_217 ?_
          refine zJ_iload dX9_goesTo_218 rfl ?_
          refine zJ_iadd dX9_goesTo_220 ?_
          refine zJ_ialdN (i := (x * 8 + j)) (v := (nI c9)) dX9_goesTo_221 (by first | rfl | assumption | exact M1.at (by decide) (by decide)) (na_8 _ _) (by omega) (by decide) hc2 ?_
          refine zJ_iconst (v := (-1)) dX9_goesTo_222 (by decide) ?_
          refine zJ_icmp_eq (tgt := 264) dX9_goesTo_223 (by decide) (fun h9 => absurd h9 (nI_m1 (show c9 < 2 ^ 31 by omega))) (fun h223 => ?_)
          refine zJ_aload_n dX9_goesTo_226 rfl ?_
          refine zJ_iload dX9_goesTo_227 rfl ?_
          refine zJ_iload_n dX9_goesTo_229 rfl ?_
          refine zJ_cV2 dX9_goesTo_230 sX9_471 mfX9_isOut (c_Mo_isOut Δ (zsi w 178 0 (zdr (w.2.1 178 0))) M1 ot ho1 j t (by omega) ht) (by first | rfl | assumption | exact M1.at (by decide) (by decide)) rfl (Nat.le_of_ble_eq_true rfl) (by decide) (by decide) ?_
          rw [if_neg hlt]
          refine zJ_if_eq (tgt := 239) dX9_goesTo_233 (by decide) (fun _ => ?_) (fun h9 => False.elim (by revert h9; decide))
          refine zJ_iload dX9_goesTo_239 rfl ?_
          refine zJ_aload_n dX9_goesTo_241 rfl ?_
          refine zJ_getr (j := 112) dX9_goesTo_242 fX9_29 (by first | rfl | assumption | exact M1.at (by decide) (by decide)) rfl (by first | rfl | assumption | exact M1.rf (by decide) rfl) ?_
          refine zJ_bipush (v := 8) dX9_goesTo_245 (by decide) ?_
          refine zJ_iload_n dX9_goesTo_247 rfl ?_
          refine zJ_imul dX9_goesTo_248 ?_
          refine zJ_iload dX9_goesTo_249 rfl ?_
          refine zJ_iadd dX9_goesTo_251 ?_
          refine zJ_ialdN (i := (k.1 * 8 + j)) (v := (nI (T.2.2.2 (k.1 * 8 + j)))) dX9_goesTo_252 (by first | rfl | assumption | exact M1.at (by decide) (by decide)) (na_8 _ _) (by omega) (by decide) (nwt j hj9) ?_
          refine zJ_isub dX9_goesTo_253 ?_
          refine zJ_istore (ls2 := fun x254 => [(5, .int x254), (6, .int (nI j)), (4, .int (nI (fb_sm (zgU T k O) 8))), (3, .int (nI k.1)), (0, .ref 100), (1, .int (nI x)), (2, .int (nI t))]) dX9_goesTo_254 (by decide) (fun _ => rfl) (fun x254 ex254 => ?_)
          obtain rfl : x254 = (nI (d - fb_sm (zgU T k O) j) - nI (T.2.2.2 (k.1 * 8 + j))) := ex254
          refine zJ_iload dX9_goesTo_256 rfl ?_
          refine zJ_if_ge (tgt := 264) dX9_goesTo_258 (by decide) (fun h9 => absurd h9 (zneg (by omega) (by omega))) (fun h258 => ?_)
          refine zJ_iload dX9_goesTo_261 rfl ?_
          exact zJ_iret dX9_goesTo_263 rfl (by decide) (by decide) hQ1
        · have hz : zpk (zgU T k O) d (j + 1) = none := by simp only [zpk, hnn]; rw [if_neg hdj]
          refine zJ_iload dX9_goesTo_201 rfl ?_
          refine zJ_aload_n dX9_goesTo_203 rfl ?_
          refine zJ_getiN dX9_goesTo_204 fX9_298 (by first | rfl | assumption | exact M1.at (by decide) (by decide)) rfl n1 ?_
          refine zJ_icmp_ge (tgt := 270) dX9_goesTo_207 (by decide) (fun h9 => absurd h9 (fun h => absurd ((nI_leI (by omega) (by omega)).mp h) (by omega))) (fun h207 => ?_)
          refine zJ_aload_n dX9_goesTo_210 rfl ?_
          refine zJ_getr (j := 143) dX9_goesTo_211 fX9_63 (by first | rfl | assumption | exact M1.at (by decide) (by decide)) rfl (by first | rfl | assumption | exact M1.rf (by decide) rfl) ?_
          refine zJ_bipush (v := 8) dX9_goesTo_214 (by decide) ?_
          refine zJ_iload_n dX9_goesTo_216 rfl ?_
          refine zJ_imul dX9_goesTo_217 ?_
          refine zJ_iload dX9_goesTo_218 rfl ?_
          refine zJ_iadd dX9_goesTo_220 ?_
          refine zJ_ialdN (i := (x * 8 + j)) (v := (nI c9)) dX9_goesTo_221 (by first | rfl | assumption | exact M1.at (by decide) (by decide)) (na_8 _ _) (by omega) (by decide) hc2 ?_
          refine zJ_iconst (v := (-1)) dX9_goesTo_222 (by decide) ?_
          refine zJ_icmp_eq (tgt := 264) dX9_goesTo_223 (by decide) (fun h9 => absurd h9 (nI_m1 (show c9 < 2 ^ 31 by omega))) (fun h223 => ?_)
          refine zJ_aload_n dX9_goesTo_226 rfl ?_
          refine zJ_iload dX9_goesTo_227 rfl ?_
          refine zJ_iload_n dX9_goesTo_229 rfl ?_
          refine zJ_cV2 dX9_goesTo_230 sX9_471 mfX9_isOut (c_Mo_isOut Δ (zsi w 178 0 (zdr (w.2.1 178 0))) M1 ot ho1 j t (by omega) ht) (by first | rfl | assumption | exact M1.at (by decide) (by decide)) rfl (Nat.le_of_ble_eq_true rfl) (by decide) (by decide) ?_
          rw [if_neg hlt]
          refine zJ_if_eq (tgt := 239) dX9_goesTo_233 (by decide) (fun _ => ?_) (fun h9 => False.elim (by revert h9; decide))
          refine zJ_iload dX9_goesTo_239 rfl ?_
          refine zJ_aload_n dX9_goesTo_241 rfl ?_
          refine zJ_getr (j := 112) dX9_goesTo_242 fX9_29 (by first | rfl | assumption | exact M1.at (by decide) (by decide)) rfl (by first | rfl | assumption | exact M1.rf (by decide) rfl) ?_
          refine zJ_bipush (v := 8) dX9_goesTo_245 (by decide) ?_
          refine zJ_iload_n dX9_goesTo_247 rfl ?_
          refine zJ_imul dX9_goesTo_248 ?_
          refine zJ_iload dX9_goesTo_249 rfl ?_
          refine zJ_iadd dX9_goesTo_251 ?_
          refine zJ_ialdN (i := (k.1 * 8 + j)) (v := (nI (T.2.2.2 (k.1 * 8 + j)))) dX9_goesTo_252 (by first | rfl | assumption | exact M1.at (by decide) (by decide)) (na_8 _ _) (by omega) (by decide) (nwt j hj9) ?_
          refine zJ_isub dX9_goesTo_253 ?_
          refine zJ_istore (ls2 := fun x254 => [(5, .int x254), (6, .int (nI j)), (4, .int (nI (fb_sm (zgU T k O) 8))), (3, .int (nI k.1)), (0, .ref 100), (1, .int (nI x)), (2, .int (nI t))]) dX9_goesTo_254 (by decide) (fun _ => rfl) (fun x254 ex254 => ?_)
          obtain rfl : x254 = (nI (d - fb_sm (zgU T k O) (j + 1))) := (by rw [ex254, na_sub (by omega), e1, Nat.sub_sub])
          refine zJ_iload dX9_goesTo_256 rfl ?_
          refine zJ_if_ge (tgt := 264) dX9_goesTo_258 (by decide) (fun h258 => ?_) (fun h9 => absurd ((nI_leI (a := 0) (by decide) (by omega)).mpr (Nat.zero_le _)) h9)
          refine zJ_iinc (ls2 := fun x264 => [(6, .int x264), (5, .int (nI (d - fb_sm (zgU T k O) (j + 1)))), (4, .int (nI (fb_sm (zgU T k O) 8))), (3, .int (nI k.1)), (0, .ref 100), (1, .int (nI x)), (2, .int (nI t))]) dX9_goesTo_264 rfl (by decide) (fun _ => rfl) (fun x264 ex264 => ?_)
          refine zJ_goto (tgt := 201) dX9_goesTo_267 (by decide) ?_
          refine zJ_ls [(6, .int x264), (5, .int (nI (d - fb_sm (zgU T k O) (j + 1)))), (4, .int (nI (fb_sm (zgU T k O) 8))), (3, .int (nI k.1)), (0, .ref 100), (1, .int (nI x)), (2, .int (nI t))] (by simp) ?_
          rw [ex264, show nI j + Int32.ofInt 1 = nI (j + 1) from nI_1 _]
          exact ih (j + 1) (by omega) (by omega) hz
  have L183 : ∀ v : Int32, zJ Δ mX9_goesTo (zRm 2 0 0) true w.1 QR (fun _ _ => False) 0 0 183 [(5, .int v), (4, .int (nI (fb_sm (zgU T k O) 8))), (3, .int (nI k.1)), (0, .ref 100), (1, .int (nI x)), (2, .int (nI t))] [] w := by
    intro v
    refine zJ_iload dX9_goesTo_183 rfl ?_
    refine zJ_if_ne (tgt := 190) dX9_goesTo_185 (by decide) (fun h185 => ?_) (fun h185 => ?_)
    · have hpos9 : 0 < (fb_sm (zgU T k O) 8) := Nat.pos_of_ne_zero fun h => h185 (by rw [h]; rfl)
      rw [zgp_1 hpos9] at hQ
      refine zJ_aload_n dX9_goesTo_190 rfl ?_
      refine zJ_iload dX9_goesTo_191 rfl ?_
      refine zJ_cV1 dX9_goesTo_193 sX9_468 mfX9_draw (c_Mo_draw Δ w hM (fb_sm (zgU T k O) 8) hpos9 (by omega)) (by first | rfl | assumption | exact hM.at (by decide) (by decide)) rfl (Nat.le_of_ble_eq_true rfl) (by decide) (by decide) ?_
      refine zJ_istore (ls2 := fun x196 => [(5, .int x196), (4, .int (nI (fb_sm (zgU T k O) 8))), (3, .int (nI k.1)), (0, .ref 100), (1, .int (nI x)), (2, .int (nI t))]) dX9_goesTo_196 (by decide) (fun _ => rfl) (fun x196 ex196 => ?_)
      refine zJ_iconst (v := 0) dX9_goesTo_198 (by decide) ?_
      refine zJ_istore (ls2 := fun x199 => [(6, .int x199), (5, .int x196), (4, .int (nI (fb_sm (zgU T k O) 8))), (3, .int (nI k.1)), (0, .ref 100), (1, .int (nI x)), (2, .int (nI t))]) dX9_goesTo_199 (by decide) (fun _ => rfl) (fun x199 ex199 => ?_)
      refine zJ_ls [(6, .int x199), (5, .int x196), (4, .int (nI (fb_sm (zgU T k O) 8))), (3, .int (nI k.1)), (0, .ref 100), (1, .int (nI x)), (2, .int (nI t))] (by simp) ?_
      rw [ex199, ex196]
      have hdl := Nat.mod_lt (zd15 (zdr (w.2.1 178 0))) hpos9
      generalize (zd15 (zdr (w.2.1 178 0)) % fb_sm (zgU T k O) 8) = d at hQ hdl ⊢
      have h9 := L2 d hdl hQ 0 (Nat.zero_le _) rfl
      rw [show d - fb_sm (zgU T k O) 0 = d from Nat.sub_zero d] at h9
      exact h9
    · have h0 : (fb_sm (zgU T k O) 8) = 0 := (nI_eq (b := 0) (by omega) (by decide)).mp h185
      have hQ9 : QR (some (.int (-1))) w := by
        have h9 := hQ
        rw [zgp_0 h0] at h9
        rw [← zsi_self w 178 0]
        exact h9
      refine zJ_iconst (v := (-1)) dX9_goesTo_188 (by decide) ?_
      exact zJ_iret dX9_goesTo_189 rfl (by decide) (by decide) hQ9
  have L1 : ∀ j, j ≤ T.1 0 → zJ Δ mX9_goesTo (zRm 2 0 0) true w.1 QR (fun _ _ => False) 0 0 121 [(5, .int (nI j)), (4, .int (nI (fb_sm (zgU T k O) j))), (3, .int (nI k.1)), (0, .ref 100), (1, .int (nI x)), (2, .int (nI t))] [] w := by
    refine zup (fun j hj ih => ?_)
    have hUj := hUb j (by omega)
    by_cases hj0 : j = T.1 0
    · refine zJ_iload dX9_goesTo_121 rfl ?_
      refine zJ_aload_n dX9_goesTo_123 rfl ?_
      refine zJ_getiN dX9_goesTo_124 fX9_298 (by first | rfl | assumption | exact hM.at (by decide) (by decide)) rfl m1 ?_
      refine zJ_icmp_ge (tgt := 183) dX9_goesTo_127 (by decide) (fun h127 => ?_) (fun h9 => absurd ((nI_leI (by omega) (by omega)).mpr (by omega)) h9)
      rw [hj0, hSe]
      exact L183 _
    · have hj9 : j < T.1 0 := by omega
      cases hmy : zmay T k j with
      | false =>
        have e1 : fb_sm (zgU T k O) (j + 1) = fb_sm (zgU T k O) j := by rw [fb_sm_succ, hUn j hmy]; rfl
        refine zJ_iload dX9_goesTo_121 rfl ?_
        refine zJ_aload_n dX9_goesTo_123 rfl ?_
        refine zJ_getiN dX9_goesTo_124 fX9_298 (by first | rfl | assumption | exact hM.at (by decide) (by decide)) rfl m1 ?_
        refine zJ_icmp_ge (tgt := 183) dX9_goesTo_127 (by decide) (fun h9 => absurd h9 (fun h => absurd ((nI_leI (by omega) (by omega)).mp h) (by omega))) (fun h127 => ?_)
        refine zJ_iload dX9_goesTo_130 rfl ?_
        refine zJ_aload_n dX9_goesTo_132 rfl ?_
        refine zJ_getr (j := 143) dX9_goesTo_133 fX9_63 (by first | rfl | assumption | exact hM.at (by decide) (by decide)) rfl (by first | rfl | assumption | exact hM.rf (by decide) rfl) ?_
        refine zJ_bipush (v := 8) dX9_goesTo_136 (by decide) ?_
        refine zJ_iload_n dX9_goesTo_138 rfl ?_
        refine zJ_imul dX9_goesTo_139 ?_
        refine zJ_iload dX9_goesTo_140 rfl ?_
        refine zJ_iadd dX9_goesTo_142 ?_
        refine zJ_ialdN (i := (x * 8 + j)) (v := (-1)) dX9_goesTo_143 (by first | rfl | assumption | exact hM.at (by decide) (by decide)) (na_8 _ _) (by omega) (by decide) (hK0.n hx (by omega) hmy) ?_
        refine zJ_iconst (v := (-1)) dX9_goesTo_144 (by decide) ?_
        refine zJ_icmp_eq (tgt := 173) dX9_goesTo_145 (by decide) (fun _ => ?_) (fun h9 => False.elim (by revert h9; decide))
        refine zJ_iconst (v := 0) dX9_goesTo_173 (by decide) ?_
        refine zJ_iadd dX9_goesTo_174 ?_
        refine zJ_istore (ls2 := fun x175 => [(4, .int x175), (5, .int (nI j)), (3, .int (nI k.1)), (0, .ref 100), (1, .int (nI x)), (2, .int (nI t))]) dX9_goesTo_175 (by decide) (fun _ => rfl) (fun x175 ex175 => ?_)
        obtain rfl : x175 = (nI (fb_sm (zgU T k O) (j + 1))) := (by rw [ex175, e1]; exact Int32.add_zero _)
        refine zJ_iinc (ls2 := fun x177 => [(5, .int x177), (4, .int (nI (fb_sm (zgU T k O) (j + 1)))), (3, .int (nI k.1)), (0, .ref 100), (1, .int (nI x)), (2, .int (nI t))]) dX9_goesTo_177 rfl (by decide) (fun _ => rfl) (fun x177 ex177 => ?_)
        refine zJ_goto (tgt := 121) dX9_goesTo_180 (by decide) ?_
        refine zJ_ls [(5, .int x177), (4, .int (nI (fb_sm (zgU T k O) (j + 1)))), (3, .int (nI k.1)), (0, .ref 100), (1, .int (nI x)), (2, .int (nI t))] (by simp) ?_
        rw [ex177, show nI j + Int32.ofInt 1 = nI (j + 1) from nI_1 _]
        exact ih (j + 1) (by omega) (by omega)
      | true =>
        obtain ⟨c9, hc1, hc2, hc3, hc4, hc5⟩ := hK0.c hx (by omega) hmy
        cases hoj : O j with
        | true =>
          have e1 : fb_sm (zgU T k O) (j + 1) = fb_sm (zgU T k O) j := by rw [fb_sm_succ, hUo j hoj]; rfl
          have hlt : t < ot j := of_decide_eq_true ((hO j (by omega)).symm.trans hoj)
          refine zJ_iload dX9_goesTo_121 rfl ?_
          refine zJ_aload_n dX9_goesTo_123 rfl ?_
          refine zJ_getiN dX9_goesTo_124 fX9_298 (by first | rfl | assumption | exact hM.at (by decide) (by decide)) rfl m1 ?_
          refine zJ_icmp_ge (tgt := 183) dX9_goesTo_127 (by decide) (fun h9 => absurd h9 (fun h => absurd ((nI_leI (by omega) (by omega)).mp h) (by omega))) (fun h127 => ?_)
          refine zJ_iload dX9_goesTo_130 rfl ?_
          refine zJ_aload_n dX9_goesTo_132 rfl ?_
          refine zJ_getr (j := 143) dX9_goesTo_133 fX9_63 (by first | rfl | assumption | exact hM.at (by decide) (by decide)) rfl (by first | rfl | assumption | exact hM.rf (by decide) rfl) ?_
          refine zJ_bipush (v := 8) dX9_goesTo_136 (by decide) ?_
          refine zJ_iload_n dX9_goesTo_138 rfl ?_
          refine zJ_imul dX9_goesTo_139 ?_
          refine zJ_iload dX9_goesTo_140 rfl ?_
          refine zJ_iadd dX9_goesTo_142 ?_
          refine zJ_ialdN (i := (x * 8 + j)) (v := (nI c9)) dX9_goesTo_143 (by first | rfl | assumption | exact hM.at (by decide) (by decide)) (na_8 _ _) (by omega) (by decide) hc2 ?_
          refine zJ_iconst (v := (-1)) dX9_goesTo_144 (by decide) ?_
          refine zJ_icmp_eq (tgt := 173) dX9_goesTo_145 (by decide) (fun h9 => absurd h9 (nI_m1 (show c9 < 2 ^ 31 by omega))) (fun h145 => ?_)
          refine zJ_aload_n dX9_goesTo_148 rfl ?_
          refine zJ_iload dX9_goesTo_149 rfl ?_
          refine zJ_iload_n dX9_goesTo_151 rfl ?_
          refine zJ_cV2 dX9_goesTo_152 sX9_471 mfX9_isOut (c_Mo_isOut Δ w hM ot ho j t (by omega) ht) (by first | rfl | assumption | exact hM.at (by decide) (by decide)) rfl (Nat.le_of_ble_eq_true rfl) (by decide) (by decide) ?_
          rw [if_pos hlt]
          refine zJ_if_ne (tgt := 173) dX9_goesTo_155 (by decide) (fun _ => ?_) (fun h9 => False.elim (by revert h9; decide))
          refine zJ_iconst (v := 0) dX9_goesTo_173 (by decide) ?_
          refine zJ_iadd dX9_goesTo_174 ?_
          refine zJ_istore (ls2 := fun x175 => [(4, .int x175), (5, .int (nI j)), (3, .int (nI k.1)), (0, .ref 100), (1, .int (nI x)), (2, .int (nI t))]) dX9_goesTo_175 (by decide) (fun _ => rfl) (fun x175 ex175 => ?_)
          obtain rfl : x175 = (nI (fb_sm (zgU T k O) (j + 1))) := (by rw [ex175, e1]; exact Int32.add_zero _)
          refine zJ_iinc (ls2 := fun x177 => [(5, .int x177), (4, .int (nI (fb_sm (zgU T k O) (j + 1)))), (3, .int (nI k.1)), (0, .ref 100), (1, .int (nI x)), (2, .int (nI t))]) dX9_goesTo_177 rfl (by decide) (fun _ => rfl) (fun x177 ex177 => ?_)
          refine zJ_goto (tgt := 121) dX9_goesTo_180 (by decide) ?_
          refine zJ_ls [(5, .int x177), (4, .int (nI (fb_sm (zgU T k O) (j + 1)))), (3, .int (nI k.1)), (0, .ref 100), (1, .int (nI x)), (2, .int (nI t))] (by simp) ?_
          rw [ex177, show nI j + Int32.ofInt 1 = nI (j + 1) from nI_1 _]
          exact ih (j + 1) (by omega) (by omega)
        | false =>
          have e1 : fb_sm (zgU T k O) (j + 1) = fb_sm (zgU T k O) j + T.2.2.2 (k.1 * 8 + j) := by rw [fb_sm_succ, hUy j hmy hoj]
          have hlt : ¬ t < ot j := of_decide_eq_false ((hO j (by omega)).symm.trans hoj)
          refine zJ_iload dX9_goesTo_121 rfl ?_
          refine zJ_aload_n dX9_goesTo_123 rfl ?_
          refine zJ_getiN dX9_goesTo_124 fX9_298 (by first | rfl | assumption | exact hM.at (by decide) (by decide)) rfl m1 ?_
          refine zJ_icmp_ge (tgt := 183) dX9_goesTo_127 (by decide) (fun h9 => absurd h9 (fun h => absurd ((nI_leI (by omega) (by omega)).mp h) (by omega))) (fun h127 => ?_)
          refine zJ_iload dX9_goesTo_130 rfl ?_
          refine zJ_aload_n dX9_goesTo_132 rfl ?_
          refine zJ_getr (j := 143) dX9_goesTo_133 fX9_63 (by first | rfl | assumption | exact hM.at (by decide) (by decide)) rfl (by first | rfl | assumption | exact hM.rf (by decide) rfl) ?_
          refine zJ_bipush (v := 8) dX9_goesTo_136 (by decide) ?_
          refine zJ_iload_n dX9_goesTo_138 rfl ?_
          refine zJ_imul dX9_goesTo_139 ?_
          refine zJ_iload dX9_goesTo_140 rfl ?_
          refine zJ_iadd dX9_goesTo_142 ?_
          refine zJ_ialdN (i := (x * 8 + j)) (v := (nI c9)) dX9_goesTo_143 (by first | rfl | assumption | exact hM.at (by decide) (by decide)) (na_8 _ _) (by omega) (by decide) hc2 ?_
          refine zJ_iconst (v := (-1)) dX9_goesTo_144 (by decide) ?_
          refine zJ_icmp_eq (tgt := 173) dX9_goesTo_145 (by decide) (fun h9 => absurd h9 (nI_m1 (show c9 < 2 ^ 31 by omega))) (fun h145 => ?_)
          refine zJ_aload_n dX9_goesTo_148 rfl ?_
          refine zJ_iload dX9_goesTo_149 rfl ?_
          refine zJ_iload_n dX9_goesTo_151 rfl ?_
          refine zJ_cV2 dX9_goesTo_152 sX9_471 mfX9_isOut (c_Mo_isOut Δ w hM ot ho j t (by omega) ht) (by first | rfl | assumption | exact hM.at (by decide) (by decide)) rfl (Nat.le_of_ble_eq_true rfl) (by decide) (by decide) ?_
          rw [if_neg hlt]
          refine zJ_if_ne (tgt := 173) dX9_goesTo_155 (by decide) (fun h9 => False.elim (by revert h9; decide)) (fun _ => ?_)
          refine zJ_aload_n dX9_goesTo_158 rfl ?_
          refine zJ_getr (j := 112) dX9_goesTo_159 fX9_29 (by first | rfl | assumption | exact hM.at (by decide) (by decide)) rfl (by first | rfl | assumption | exact hM.rf (by decide) rfl) ?_
          refine zJ_bipush (v := 8) dX9_goesTo_162 (by decide) ?_
          refine zJ_iload_n dX9_goesTo_164 rfl ?_
          refine zJ_imul dX9_goesTo_165 ?_
          refine zJ_iload dX9_goesTo_166 rfl ?_
          refine zJ_iadd dX9_goesTo_168 ?_
          refine zJ_ialdN (i := (k.1 * 8 + j)) (v := (nI (T.2.2.2 (k.1 * 8 + j)))) dX9_goesTo_169 (by first | rfl | assumption | exact hM.at (by decide) (by decide)) (na_8 _ _) (by omega) (by decide) (mwt k.1 j hkp hj9) ?_
          refine zJ_goto (tgt := 174) dX9_goesTo_170 (by decide) ?_
          refine zJ_iadd dX9_goesTo_174 ?_
          refine zJ_istore (ls2 := fun x175 => [(4, .int x175), (5, .int (nI j)), (3, .int (nI k.1)), (0, .ref 100), (1, .int (nI x)), (2, .int (nI t))]) dX9_goesTo_175 (by decide) (fun _ => rfl) (fun x175 ex175 => ?_)
          obtain rfl : x175 = (nI (fb_sm (zgU T k O) (j + 1))) := (by rw [ex175, na_add, e1])
          refine zJ_iinc (ls2 := fun x177 => [(5, .int x177), (4, .int (nI (fb_sm (zgU T k O) (j + 1)))), (3, .int (nI k.1)), (0, .ref 100), (1, .int (nI x)), (2, .int (nI t))]) dX9_goesTo_177 rfl (by decide) (fun _ => rfl) (fun x177 ex177 => ?_)
          refine zJ_goto (tgt := 121) dX9_goesTo_180 (by decide) ?_
          refine zJ_ls [(5, .int x177), (4, .int (nI (fb_sm (zgU T k O) (j + 1)))), (3, .int (nI k.1)), (0, .ref 100), (1, .int (nI x)), (2, .int (nI t))] (by simp) ?_
          rw [ex177, show nI j + Int32.ofInt 1 = nI (j + 1) from nI_1 _]
          exact ih (j + 1) (by omega) (by omega)
  refine zJ_iconst (v := 0) dX9_goesTo_115 (by decide) ?_
  refine zJ_istore (ls2 := fun x116 => [(4, .int x116), (3, .int (nI k.1)), (0, .ref 100), (1, .int (nI x)), (2, .int (nI t))]) dX9_goesTo_116 (by decide) (fun _ => rfl) (fun x116 ex116 => ?_)
  refine zJ_iconst (v := 0) dX9_goesTo_118 (by decide) ?_
  refine zJ_istore (ls2 := fun x119 => [(5, .int x119), (4, .int x116), (3, .int (nI k.1)), (0, .ref 100), (1, .int (nI x)), (2, .int (nI t))]) dX9_goesTo_119 (by decide) (fun _ => rfl) (fun x119 ex119 => ?_)
  refine zJ_ls [(5, .int x119), (4, .int x116), (3, .int (nI k.1)), (0, .ref 100), (1, .int (nI x)), (2, .int (nI t))] (by simp) ?_
  rw [ex119, ex116]
  exact L1 0 (Nat.zero_le _)
