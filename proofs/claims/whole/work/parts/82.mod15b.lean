theorem zd15_s (s : Int32) : s >>> ((16 : Int32) &&& 31) &&& 32767 = nI (zd15 s) := by
  rw [← zd15_u]
  apply Int32.toBitVec_inj.mp
  apply BitVec.eq_of_getLsbD_eq
  intro i hi
  rw [Int32.toBitVec_and, Int32.toBitVec_and, BitVec.getLsbD_and, BitVec.getLsbD_and, show (32767 : Int32).toBitVec = BitVec.ofNat 32 (2 ^ 15 - 1) from rfl, BitVec.getLsbD_ofNat, Nat.testBit_two_pow_sub_one]
  by_cases h : i < 15
  · congr 1
    rw [Int32.toBitVec_shiftRight, BitVec.sshiftRight_eq', show (((16 : Int32) &&& 31).toBitVec.smod 32).toNat = 16 from rfl, BitVec.getLsbD_sshiftRight]
    have e : (s.toUInt32 >>> (Int32.toUInt32 16 &&& Int32.toUInt32 31)).toInt32.toBitVec = s.toBitVec >>> 16 := rfl
    rw [e, BitVec.getLsbD_ushiftRight]
    have a2 : 16 + i < 32 := by omega
    have a3 : ¬ 32 ≤ i := by omega
    simp [a2, a3]
  · simp [h]
set_option maxRecDepth 100000 in
theorem c_Mo_draw (Δ : zD) (w : zW) (hM : zMs w) (n : Nat) (hn : 0 < n) (hn2 : n < 2 ^ 31) : zMd Δ 0 0 0 true yX9_draw mX9_draw [.ref 100, .int (nI n)] w (some (.int (nI (zd15 (zdr (w.2.1 178 0)) % n)))) (zsi w 178 0 (zdr (w.2.1 178 0))) := by
  refine zMd.of mfX9_draw (Nat.le_of_ble_eq_true rfl) (fun QR hQ => ?_)
  have hd := zd15_lt (zdr (w.2.1 178 0))
  refine zJ_aload_n dX9_draw_0 rfl ?_
  refine zJ_getr (j := 178) dX9_draw_1 fX9_140 (by first | rfl | assumption | exact hM.at (by decide) (by decide)) rfl (by first | rfl | assumption | exact hM.rf (by decide) rfl) ?_
  refine zJ_iconst (v := 0) dX9_draw_4 (by decide) ?_
  refine zJ_aload_n dX9_draw_5 rfl ?_
  refine zJ_getr (j := 178) dX9_draw_6 fX9_140 (by first | rfl | assumption | exact hM.at (by decide) (by decide)) rfl (by first | rfl | assumption | exact hM.rf (by decide) rfl) ?_
  refine zJ_iconst (v := 0) dX9_draw_9 (by decide) ?_
  refine zJ_ialdN (i := 0) dX9_draw_10 (by first | rfl | assumption | exact hM.at (by decide) (by decide)) rfl (by omega) (by decide) rfl ?_
  refine zJ_ldc_w dX9_draw_11 kX9_467 ?_
  refine zJ_imul dX9_draw_14 ?_
  refine zJ_sipush (v := 12345) dX9_draw_15 (by decide) ?_
  refine zJ_iadd dX9_draw_18 ?_
  refine zJ_iastN (i := 0) dX9_draw_19 (by first | rfl | assumption | exact hM.at (by decide) (by decide)) rfl (by omega) (by decide) ?_
  refine zJ_aload_n dX9_draw_20 rfl ?_
  refine zJ_getr (j := 178) dX9_draw_21 fX9_140 (by first | rfl | assumption | exact hM.at (by decide) (by decide)) rfl (by first | rfl | assumption | exact hM.rf (by decide) rfl) ?_
  refine zJ_iconst (v := 0) dX9_draw_24 (by decide) ?_
  refine zJ_ialdN (i := 0) (v := (zdr (w.2.1 178 0))) dX9_draw_25 (by first | rfl | assumption | exact hM.at (by decide) (by decide)) rfl (by omega) (by decide) (by simp [zsi]; rfl) ?_
  refine zJ_bipush (v := 16) dX9_draw_26 (by decide) ?_
  refine zJ_ishr dX9_draw_28 ?_
  refine zJ_sipush (v := 32767) dX9_draw_29 (by decide) ?_
  refine zJ_iand dX9_draw_32 ?_
  rw [zd15_s]
  refine zJ_iload_n dX9_draw_33 rfl ?_
  refine zJ_irem dX9_draw_34 (fun e => absurd ((nI_eq (b := 0) (by omega) (by decide)).mp e) (by omega)) ?_
  rw [nI_rem (by omega) (by omega)]
  exact zJ_iret dX9_draw_35 rfl (by decide) (by decide) hQ
/-- till when each is out -/
def zOt (w : zW) (ot : Nat → Nat) : Prop := ∀ p, p < 8 → w.2.1 179 p = nI (ot p) ∧ ot p ≤ 200
set_option maxRecDepth 100000 in
theorem c_Mo_isOut (Δ : zD) (w : zW) (hM : zMs w) (ot : Nat → Nat) (ho : zOt w ot) (p t : Nat) (hp : p < 8) (ht : t ≤ 100) : zMd Δ 0 0 0 true yX9_isOut mX9_isOut [.ref 100, .int (nI p), .int (nI t)] w (some (.int (if t < ot p then 1 else 0))) w := by
  refine zMd.of mfX9_isOut (Nat.le_of_ble_eq_true rfl) (fun QR hQ => ?_)
  have hop := (ho p hp).2
  refine zJ_iload_n dX9_isOut_0 rfl ?_
  refine zJ_aload_n dX9_isOut_1 rfl ?_
  refine zJ_getr (j := 179) dX9_isOut_2 fX9_143 (by first | rfl | assumption | exact hM.at (by decide) (by decide)) rfl (by first | rfl | assumption | exact hM.rf (by decide) rfl) ?_
  refine zJ_iload_n dX9_isOut_5 rfl ?_
  refine zJ_ialdN (i := p) (v := (nI (ot p))) dX9_isOut_6 (by first | rfl | assumption | exact hM.at (by decide) (by decide)) rfl (by omega) (by decide) (ho p hp).1 ?_
  refine zJ_icmp_ge (tgt := 14) dX9_isOut_7 (by decide) (fun h7 => ?_) (fun h7 => ?_)
  · rw [if_neg (show ¬ t < ot p from fun hq9 => absurd ((nI_leI (by omega) (by omega)).mp h7) (by omega))] at hQ
    refine zJ_iconst (v := 0) dX9_isOut_14 (by decide) ?_
    exact zJ_zret dX9_isOut_15 rfl rfl (by decide) (by decide) hQ
  · rw [if_pos (show t < ot p from Nat.lt_of_not_le fun hq9 => h7 ((nI_leI (by omega) (by omega)).mpr hq9))] at hQ
    refine zJ_iconst (v := 1) dX9_isOut_10 (by decide) ?_
    refine zJ_goto (tgt := 15) dX9_isOut_11 (by decide) ?_
    exact zJ_zret dX9_isOut_15 rfl rfl (by decide) (by decide) hQ
