/-! the model: line -/
theorem c_Mo_nd (Δ : zD) {w0 w : zW} {tx : Nat → Nat} {n : Nat} {S : zTo × Nat} {t : zTkn} (h : zGd w0 w tx n S t) : zMp Δ 2 yX9_need mX9_need [.ref 100, .int 1] w (fun r c => r = none ∧ zGd w0 c tx n S (ztk tx n t.2.2.1)) := by
  refine (c_Mo_need Δ w tx n t.2.2.1 h.2.1 h.2.2.2.1.1.2 h.2.2.1.1 0 (by decide) h.2.2.2.2.1 1 (Or.inr rfl)).mono (fun r c hp => ⟨hp.1, ?_⟩)
  rcases hp.2 with hp | hp | hp
  · exact absurd rfl hp.1
  · exact h.step hp.2.2.1 hp.2.2.2 (ztk_q h.2.2.2.1.1.2)
  · exact absurd hp.2.1 (by decide)
theorem c_Mo_nd0 (Δ : zD) {w0 w : zW} {tx : Nat → Nat} {n : Nat} {S : zTo × Nat} {t : zTkn} (h : zGd w0 w tx n S t) : zMp Δ 2 yX9_need mX9_need [.ref 100, .int 0] w (fun r c => r = none ∧ zBd w0 c tx n (1, t.2.1)) := by
  refine (c_Mo_need Δ w tx n t.2.2.1 h.2.1 h.2.2.2.1.1.2 h.2.2.1.1 0 (by decide) h.2.2.2.2.1 0 (Or.inl rfl)).mono (fun r c hp => ⟨hp.1, ?_⟩)
  rcases hp.2 with hp | hp | hp
  · exact absurd rfl hp.1
  · exact absurd hp.2.1 (by decide)
  · rw [hp.2.2, h.2.2.1.2.2.1]
    exact h.bad (e := (1, t.2.1)) ⟨Nat.le_refl _, by simp⟩
def zSx (w0 c : zW) (tx : Nat → Nat) (n B : Nat) (x : zLX) : Prop := match x with
  | .inl e => zBd w0 c tx n e
  | .inr q => zGd w0 c tx n (q.1, B) q.2
set_option maxRecDepth 100000 in
theorem c_Mo_line (Δ : zD) {w0 w : zW} {tx : Nat → Nat} {n : Nat} {S : zTo × Nat} {t : zTkn} (h : zGd w0 w tx n S t) (hS : zPk S) : zMp Δ 5 yX9_line mX9_line [.ref 100] w (fun r c => r = none ∧ match zln tx n S t with | .inl e => zBd w0 c tx n e | .inr q => zGd w0 c tx n q.1 (ztk tx n q.2)) := by
  refine zMp.of mfX9_line (Nat.le_of_ble_eq_true rfl) (fun QR hQ => ?_)
  have hM := h.2.1.1
  have hT := hS.1
  have hB := hS.2.2.2.1
  have K254 : ∀ (c : zW) (B : Nat) (x : zLX), c.1 = w.1 → zSx w0 c tx n B x → zln tx n S t = zmB B (zcl x) → zJ Δ mX9_line (zRm 5 0 0) true w.1 QR (fun _ _ => False) 0 0 254 [(0, .ref 100)] [] c := by
    intro c B x hcw hx hz
    cases x with
    | inl e =>
      have hb : zBd w0 c tx n e := hx
      have M1 := hb.2.1.1
      have hz : zln tx n S t = .inl e := hz
      rw [hz] at hQ
      refine zJ_aload_n dX9_line_254 rfl ?_
      refine zJ_aload_n dX9_line_255 rfl ?_
      refine zJ_geti dX9_line_256 fX9_200 (by first | rfl | assumption | exact hM.at (by decide) (by decide) | exact M1.at (by decide) (by decide) | exact M2.at (by decide) (by decide) | exact M3.at (by decide) (by decide) | exact M4.at (by decide) (by decide) | exact M5.at (by decide) (by decide) | exact M6.at (by decide) (by decide)) rfl ?_
      refine zJ_iconst (v := 3) dX9_line_259 (by decide) ?_
      refine zJ_icmp_ne (tgt := 267) dX9_line_260 (by decide) (fun h260b => ?_) (fun h260b => ?_)
      · refine zJ_iconst (v := 0) dX9_line_267 (by decide) ?_
        refine zJ_cV1 dX9_line_268 sX9_281 mfX9_need (c_Mo_ndB Δ hb _) (by first | rfl | assumption | exact hM.at (by decide) (by decide) | exact M1.at (by decide) (by decide) | exact M2.at (by decide) (by decide) | exact M3.at (by decide) (by decide) | exact M4.at (by decide) (by decide) | exact M5.at (by decide) (by decide) | exact M6.at (by decide) (by decide)) rfl (Nat.le_of_ble_eq_true rfl) (by decide) (by decide) ?_
        exact zJ_vret dX9_line_271 rfl (by decide) (by decide) (hQ _ _ ⟨rfl, hb⟩)
      · refine zJ_iconst (v := 1) dX9_line_263 (by decide) ?_
        refine zJ_goto (tgt := 268) dX9_line_264 (by decide) ?_
        refine zJ_cV1 dX9_line_268 sX9_281 mfX9_need (c_Mo_ndB Δ hb _) (by first | rfl | assumption | exact hM.at (by decide) (by decide) | exact M1.at (by decide) (by decide) | exact M2.at (by decide) (by decide) | exact M3.at (by decide) (by decide) | exact M4.at (by decide) (by decide) | exact M5.at (by decide) (by decide) | exact M6.at (by decide) (by decide)) rfl (Nat.le_of_ble_eq_true rfl) (by decide) (by decide) ?_
        exact zJ_vret dX9_line_271 rfl (by decide) (by decide) (hQ _ _ ⟨rfl, hb⟩)
    | inr q =>
      have hg : zGd w0 c tx n (q.1, B) q.2 := hx
      have M1 := hg.2.1.1
      have f20 := hg.2.2.1.2.1
      have hk4 := hg.2.2.2.1.2.1.1
      by_cases h3 : q.2.1 = 3
      · have hz : zln tx n S t = .inr ((q.1, B), q.2.2.2.1) := by rw [hz]; simp only [zcl]; rw [if_pos h3]; rfl
        rw [hz] at hQ
        refine zJ_aload_n dX9_line_254 rfl ?_
        refine zJ_aload_n dX9_line_255 rfl ?_
        refine zJ_getiN dX9_line_256 fX9_200 (by first | rfl | assumption | exact hM.at (by decide) (by decide) | exact M1.at (by decide) (by decide) | exact M2.at (by decide) (by decide) | exact M3.at (by decide) (by decide) | exact M4.at (by decide) (by decide) | exact M5.at (by decide) (by decide) | exact M6.at (by decide) (by decide)) rfl f20 ?_
        refine zJ_iconst (v := 3) dX9_line_259 (by decide) ?_
        refine zJ_icmp_ne (tgt := 267) dX9_line_260 (by decide) (fun h9 => absurd h9 (fun h => h (by rw [h3]; rfl))) (fun h260c => ?_)
        refine zJ_iconst (v := 1) dX9_line_263 (by decide) ?_
        refine zJ_goto (tgt := 268) dX9_line_264 (by decide) ?_
        refine zJ_eV1 dX9_line_268 sX9_281 mfX9_need (c_Mo_nd Δ hg) (by first | exact hM.at (by decide) (by decide) | exact M1.at (by decide) (by decide) | exact M2.at (by decide) (by decide) | exact M3.at (by decide) (by decide) | exact M4.at (by decide) (by decide) | exact M5.at (by decide) (by decide) | exact M6.at (by decide) (by decide)) rfl (Nat.le_of_ble_eq_true rfl) (by decide) (by decide) (fun r d hP => ?_)
        obtain ⟨rfl, hd⟩ := hP
        exact zJ_vret dX9_line_271 rfl (by decide) (by decide) (hQ _ _ ⟨rfl, hd⟩)
      · have hz : zln tx n S t = .inl (1, q.2.2.1) := by rw [hz]; simp only [zcl]; rw [if_neg h3]; rfl
        rw [hz] at hQ
        refine zJ_aload_n dX9_line_254 rfl ?_
        refine zJ_aload_n dX9_line_255 rfl ?_
        refine zJ_getiN dX9_line_256 fX9_200 (by first | rfl | assumption | exact hM.at (by decide) (by decide) | exact M1.at (by decide) (by decide) | exact M2.at (by decide) (by decide) | exact M3.at (by decide) (by decide) | exact M4.at (by decide) (by decide) | exact M5.at (by decide) (by decide) | exact M6.at (by decide) (by decide)) rfl f20 ?_
        refine zJ_iconst (v := 3) dX9_line_259 (by decide) ?_
        refine zJ_icmp_ne (tgt := 267) dX9_line_260 (by decide) (fun h260d => ?_) (fun h9 => absurd h9 (fun h => h3 ((nI_eq (b := 3) (by omega) (by decide)).mp h)))
        refine zJ_iconst (v := 0) dX9_line_267 (by decide) ?_
        refine zJ_eV1 dX9_line_268 sX9_281 mfX9_need (c_Mo_nd0 Δ hg) (by first | exact hM.at (by decide) (by decide) | exact M1.at (by decide) (by decide) | exact M2.at (by decide) (by decide) | exact M3.at (by decide) (by decide) | exact M4.at (by decide) (by decide) | exact M5.at (by decide) (by decide) | exact M6.at (by decide) (by decide)) rfl (Nat.le_of_ble_eq_true rfl) (by decide) (by decide) (fun r d hP => ?_)
        obtain ⟨rfl, hd⟩ := hP
        exact zJ_vret dX9_line_271 rfl (by decide) (by decide) (hQ _ _ ⟨rfl, hd⟩)
  cases hw0 : zwd tx t 0 with
  | true =>
    refine zJ_aload_n dX9_line_0 rfl ?_
    refine zJ_iconst (v := 0) dX9_line_1 (by decide) ?_
    refine zJ_cV1 dX9_line_2 sX9_234 mfX9_is (c_Mo_isg Δ h 0 (by decide) hw0) (by first | rfl | assumption | exact hM.at (by decide) (by decide) | exact M1.at (by decide) (by decide) | exact M2.at (by decide) (by decide) | exact M3.at (by decide) (by decide) | exact M4.at (by decide) (by decide) | exact M5.at (by decide) (by decide) | exact M6.at (by decide) (by decide)) rfl (Nat.le_of_ble_eq_true rfl) (by decide) (by decide) ?_
    refine zJ_if_eq (tgt := 15) dX9_line_5 (by decide) (fun h9 => False.elim (by revert h9; decide)) (fun _ => ?_)
    refine zJ_aload_n dX9_line_8 rfl ?_
    refine zJ_eV0 dX9_line_9 sX9_266 mfX9_readsPerson (c_Mo_readsPerson Δ h hT) (by first | exact hM.at (by decide) (by decide) | exact M1.at (by decide) (by decide) | exact M2.at (by decide) (by decide) | exact M3.at (by decide) (by decide) | exact M4.at (by decide) (by decide) | exact M5.at (by decide) (by decide) | exact M6.at (by decide) (by decide)) rfl (Nat.le_of_ble_eq_true rfl) (by decide) (by decide) (fun r c2 hP => ?_)
    obtain ⟨rfl, hx⟩ := hP
    have hx : zSx w0 c2 tx n S.2 (zlP tx n S.1 t) := hx
    have hcw : c2.1 = w.1 := by
      cases hq : zlP tx n S.1 t with
      | inl e => rw [hq] at hx; exact (show zBd w0 c2 tx n e from hx).1.1.trans h.1.1.symm
      | inr q => rw [hq] at hx; exact (show zGd w0 c2 tx n (q.1, S.2) q.2 from hx).1.1.trans h.1.1.symm
    refine zJ_goto (tgt := 254) dX9_line_12 (by decide) ?_
    exact K254 _ S.2 _ hcw hx (by simp [zln, hw0])
  | false =>
    refine zJ_aload_n dX9_line_0 rfl ?_
    refine zJ_iconst (v := 0) dX9_line_1 (by decide) ?_
    refine zJ_cV1 dX9_line_2 sX9_234 mfX9_is (c_Mo_isg Δ h 0 (by decide) hw0) (by first | rfl | assumption | exact hM.at (by decide) (by decide) | exact M1.at (by decide) (by decide) | exact M2.at (by decide) (by decide) | exact M3.at (by decide) (by decide) | exact M4.at (by decide) (by decide) | exact M5.at (by decide) (by decide) | exact M6.at (by decide) (by decide)) rfl (Nat.le_of_ble_eq_true rfl) (by decide) (by decide) ?_
    refine zJ_if_eq (tgt := 15) dX9_line_5 (by decide) (fun _ => ?_) (fun h9 => False.elim (by revert h9; decide))
    cases hw1 : zwd tx t 1 with
    | true =>
      refine zJ_aload_n dX9_line_15 rfl ?_
      refine zJ_iconst (v := 1) dX9_line_16 (by decide) ?_
      refine zJ_cV1 dX9_line_17 sX9_234 mfX9_is (c_Mo_isg Δ h 1 (by decide) hw1) (by first | rfl | assumption | exact hM.at (by decide) (by decide) | exact M1.at (by decide) (by decide) | exact M2.at (by decide) (by decide) | exact M3.at (by decide) (by decide) | exact M4.at (by decide) (by decide) | exact M5.at (by decide) (by decide) | exact M6.at (by decide) (by decide)) rfl (Nat.le_of_ble_eq_true rfl) (by decide) (by decide) ?_
      refine zJ_if_eq (tgt := 30) dX9_line_20 (by decide) (fun h9 => False.elim (by revert h9; decide)) (fun _ => ?_)
      refine zJ_aload_n dX9_line_23 rfl ?_
      refine zJ_eV0 dX9_line_24 sX9_269 mfX9_readsKnows (c_Mo_readsKnows Δ h hT.1 (fun p q hp hq => (hT.2.2.2.2.2.2.2.2.2.2.2 p q hp hq).1)) (by first | exact hM.at (by decide) (by decide) | exact M1.at (by decide) (by decide) | exact M2.at (by decide) (by decide) | exact M3.at (by decide) (by decide) | exact M4.at (by decide) (by decide) | exact M5.at (by decide) (by decide) | exact M6.at (by decide) (by decide)) rfl (Nat.le_of_ble_eq_true rfl) (by decide) (by decide) (fun r c2 hP => ?_)
      obtain ⟨rfl, hx⟩ := hP
      have hx : zSx w0 c2 tx n S.2 (zlK tx n S.1 t) := hx
      have hcw : c2.1 = w.1 := by
        cases hq : zlK tx n S.1 t with
        | inl e => rw [hq] at hx; exact (show zBd w0 c2 tx n e from hx).1.1.trans h.1.1.symm
        | inr q => rw [hq] at hx; exact (show zGd w0 c2 tx n (q.1, S.2) q.2 from hx).1.1.trans h.1.1.symm
      refine zJ_goto (tgt := 254) dX9_line_27 (by decide) ?_
      exact K254 _ S.2 _ hcw hx (by simp [zln, hw0, hw1])
    | false =>
      refine zJ_aload_n dX9_line_15 rfl ?_
      refine zJ_iconst (v := 1) dX9_line_16 (by decide) ?_
      refine zJ_cV1 dX9_line_17 sX9_234 mfX9_is (c_Mo_isg Δ h 1 (by decide) hw1) (by first | rfl | assumption | exact hM.at (by decide) (by decide) | exact M1.at (by decide) (by decide) | exact M2.at (by decide) (by decide) | exact M3.at (by decide) (by decide) | exact M4.at (by decide) (by decide) | exact M5.at (by decide) (by decide) | exact M6.at (by decide) (by decide)) rfl (Nat.le_of_ble_eq_true rfl) (by decide) (by decide) ?_
      refine zJ_if_eq (tgt := 30) dX9_line_20 (by decide) (fun _ => ?_) (fun h9 => False.elim (by revert h9; decide))
      cases hw2 : zwd tx t 2 with
      | true =>
        refine zJ_aload_n dX9_line_30 rfl ?_
        refine zJ_iconst (v := 2) dX9_line_31 (by decide) ?_
        refine zJ_cV1 dX9_line_32 sX9_234 mfX9_is (c_Mo_isg Δ h 2 (by decide) hw2) (by first | rfl | assumption | exact hM.at (by decide) (by decide) | exact M1.at (by decide) (by decide) | exact M2.at (by decide) (by decide) | exact M3.at (by decide) (by decide) | exact M4.at (by decide) (by decide) | exact M5.at (by decide) (by decide) | exact M6.at (by decide) (by decide)) rfl (Nat.le_of_ble_eq_true rfl) (by decide) (by decide) ?_
        refine zJ_if_eq (tgt := 42) dX9_line_35 (by decide) (fun h9 => False.elim (by revert h9; decide)) (fun _ => ?_)
        refine zJ_iconst (v := 0) dX9_line_38 (by decide) ?_
        refine zJ_goto (tgt := 79) dX9_line_39 (by decide) ?_
        have e34 := h.2.2.2.2.2.2.2.2.2.2.2.2.2.2.2.1
        cases hbt : S.2.testBit 0 with
        | true =>
          have hz : zln tx n S t = .inl (5, t.2.1) := by simp [zln, zon, hbt, hw0, hw1, hw2]
          rw [hz] at hQ
          have hb1 : S.2 / 2 ^ 0 % 2 = 1 := by rw [Nat.testBit_eq_decide_div_mod_eq] at hbt; exact of_decide_eq_true hbt
          refine zJ_istore_n (ls2 := fun x79x => [(1, .int x79x), (0, .ref 100)]) dX9_line_79 (by decide) (fun _ => rfl) (fun x79x ex79x => ?_)
          obtain rfl : x79x = (nI 0) := ex79x
          refine zJ_iload_n dX9_line_80 rfl ?_
          refine zJ_iconst (v := (-1)) dX9_line_81 (by decide) ?_
          refine zJ_icmp_ne (tgt := 93) dX9_line_82 (by decide) (fun _ => ?_) (fun h9 => False.elim (by revert h9; decide))
          refine zJ_aload_n dX9_line_93 rfl ?_
          refine zJ_getiN dX9_line_94 fX9_272 (by first | rfl | assumption | exact hM.at (by decide) (by decide) | exact M1.at (by decide) (by decide) | exact M2.at (by decide) (by decide) | exact M3.at (by decide) (by decide) | exact M4.at (by decide) (by decide) | exact M5.at (by decide) (by decide) | exact M6.at (by decide) (by decide)) rfl e34 ?_
          refine zJ_iload_n dX9_line_97 rfl ?_
          refine zJ_ishr dX9_line_98 ?_
          refine zJ_iconst (v := 1) dX9_line_99 (by decide) ?_
          refine zJ_iand dX9_line_100 ?_
          rw [show nI S.2 >>> (nI 0 &&& 31) &&& 1 = nI (S.2 / 2 ^ 0 % 2) from nI_bit (by omega) (by decide), hb1]
          refine zJ_iconst (v := 1) dX9_line_101 (by decide) ?_
          refine zJ_icmp_ne (tgt := 110) dX9_line_102 (by decide) (fun h9 => False.elim (by revert h9; decide)) (fun _ => ?_)
          refine zJ_aload_n dX9_line_105 rfl ?_
          refine zJ_iconst (v := 5) dX9_line_106 (by decide) ?_
          refine zJ_eV1 dX9_line_107 sX9_231 mfX9_wrong (c_Mo_wr Δ h 5 (by decide)) (by first | exact hM.at (by decide) (by decide) | exact M1.at (by decide) (by decide) | exact M2.at (by decide) (by decide) | exact M3.at (by decide) (by decide) | exact M4.at (by decide) (by decide) | exact M5.at (by decide) (by decide) | exact M6.at (by decide) (by decide)) rfl (Nat.le_of_ble_eq_true rfl) (by decide) (by decide) (fun r c1 hP => ?_)
          obtain ⟨rfl, hb⟩ := hP
          have M1 := hb.2.1.1
          refine zJ_aload_n dX9_line_110 rfl ?_
          refine zJ_cV0 dX9_line_111 sX9_224 mfX9_isGood (c_Mo_igB Δ hb) (by first | rfl | assumption | exact hM.at (by decide) (by decide) | exact M1.at (by decide) (by decide) | exact M2.at (by decide) (by decide) | exact M3.at (by decide) (by decide) | exact M4.at (by decide) (by decide) | exact M5.at (by decide) (by decide) | exact M6.at (by decide) (by decide)) rfl (Nat.le_of_ble_eq_true rfl) (by decide) (by decide) ?_
          refine zJ_if_ne (tgt := 118) dX9_line_114 (by decide) (fun h9 => False.elim (by revert h9; decide)) (fun _ => ?_)
          exact zJ_vret dX9_line_117 rfl (by decide) (by decide) (hQ _ _ ⟨rfl, hb⟩)
        | false =>
          have hz : ∀ x, x = (zlL tx n S.1 t) → zln tx n S t = zmB (S.2 ||| 2 ^ 0) (zcl x) := by intro x hx; rw [hx]; simp [zln, zon, hbt, hw0, hw1, hw2]
          have hb1 : S.2 / 2 ^ 0 % 2 = 0 := by rw [Nat.testBit_eq_decide_div_mod_eq] at hbt; have := of_decide_eq_false hbt; omega
          refine zJ_istore_n (ls2 := fun x79y => [(1, .int x79y), (0, .ref 100)]) dX9_line_79 (by decide) (fun _ => rfl) (fun x79y ex79y => ?_)
          obtain rfl : x79y = (nI 0) := ex79y
          refine zJ_iload_n dX9_line_80 rfl ?_
          refine zJ_iconst (v := (-1)) dX9_line_81 (by decide) ?_
          refine zJ_icmp_ne (tgt := 93) dX9_line_82 (by decide) (fun _ => ?_) (fun h9 => False.elim (by revert h9; decide))
          refine zJ_aload_n dX9_line_93 rfl ?_
          refine zJ_getiN dX9_line_94 fX9_272 (by first | rfl | assumption | exact hM.at (by decide) (by decide) | exact M1.at (by decide) (by decide) | exact M2.at (by decide) (by decide) | exact M3.at (by decide) (by decide) | exact M4.at (by decide) (by decide) | exact M5.at (by decide) (by decide) | exact M6.at (by decide) (by decide)) rfl e34 ?_
          refine zJ_iload_n dX9_line_97 rfl ?_
          refine zJ_ishr dX9_line_98 ?_
          refine zJ_iconst (v := 1) dX9_line_99 (by decide) ?_
          refine zJ_iand dX9_line_100 ?_
          rw [show nI S.2 >>> (nI 0 &&& 31) &&& 1 = nI (S.2 / 2 ^ 0 % 2) from nI_bit (by omega) (by decide), hb1]
          refine zJ_iconst (v := 1) dX9_line_101 (by decide) ?_
          refine zJ_icmp_ne (tgt := 110) dX9_line_102 (by decide) (fun _ => ?_) (fun h9 => False.elim (by revert h9; decide))
          refine zJ_aload_n dX9_line_110 rfl ?_
          refine zJ_cV0 dX9_line_111 sX9_224 mfX9_isGood (c_Mo_ig Δ h) (by first | rfl | assumption | exact hM.at (by decide) (by decide) | exact M1.at (by decide) (by decide) | exact M2.at (by decide) (by decide) | exact M3.at (by decide) (by decide) | exact M4.at (by decide) (by decide) | exact M5.at (by decide) (by decide) | exact M6.at (by decide) (by decide)) rfl (Nat.le_of_ble_eq_true rfl) (by decide) (by decide) ?_
          refine zJ_if_ne (tgt := 118) dX9_line_114 (by decide) (fun _ => ?_) (fun h9 => False.elim (by revert h9; decide))
          refine zJ_aload_n dX9_line_118 rfl ?_
          refine zJ_dup dX9_line_119 rfl ?_
          refine zJ_getiN dX9_line_120 fX9_272 (by first | rfl | assumption | exact hM.at (by decide) (by decide) | exact M1.at (by decide) (by decide) | exact M2.at (by decide) (by decide) | exact M3.at (by decide) (by decide) | exact M4.at (by decide) (by decide) | exact M5.at (by decide) (by decide) | exact M6.at (by decide) (by decide)) rfl e34 ?_
          refine zJ_iconst (v := 1) dX9_line_123 (by decide) ?_
          refine zJ_iload_n dX9_line_124 rfl ?_
          refine zJ_ishl dX9_line_125 ?_
          rw [show (1 : Int32) <<< (nI 0 &&& 31) = nI (2 ^ 0) from by decide]
          refine zJ_ior dX9_line_126 ?_
          rw [na_or]
          refine zJ_puti dX9_line_127 fX9_272 (fun q h => by cases h; rfl) (by first | rfl | assumption | exact hM.at (by decide) (by decide) | exact M1.at (by decide) (by decide) | exact M2.at (by decide) (by decide) | exact M3.at (by decide) (by decide) | exact M4.at (by decide) (by decide) | exact M5.at (by decide) (by decide) | exact M6.at (by decide) (by decide)) rfl rfl rfl ?_
          have g0 := h.p34 (S.2 ||| 2 ^ 0)
          have M1 : zMs (zsi w 100 34 (nI (S.2 ||| 2 ^ 0))) := g0.2.1.1
          refine zJ_aload_n dX9_line_130 rfl ?_
          refine zJ_eV0 dX9_line_131 sX9_228 mfX9_steps (c_Mo_st Δ g0) (by first | exact hM.at (by decide) (by decide) | exact M1.at (by decide) (by decide) | exact M2.at (by decide) (by decide) | exact M3.at (by decide) (by decide) | exact M4.at (by decide) (by decide) | exact M5.at (by decide) (by decide) | exact M6.at (by decide) (by decide)) rfl (Nat.le_of_ble_eq_true rfl) (by decide) (by decide) (fun r c1 hP => ?_)
          obtain ⟨rfl, g1⟩ := hP
          have M2 := g1.2.1.1
          refine zJ_iload_n dX9_line_134 rfl ?_
          refine zJ_if_ne (tgt := 142) dX9_line_135 (by decide) (fun h9 => False.elim (by revert h9; decide)) (fun _ => ?_)
          refine zJ_aload_n dX9_line_138 rfl ?_
          refine zJ_eV0 dX9_line_139 sX9_275 mfX9_readsLetter (c_Mo_readsLetter Δ g1) (by first | exact hM.at (by decide) (by decide) | exact M1.at (by decide) (by decide) | exact M2.at (by decide) (by decide) | exact M3.at (by decide) (by decide) | exact M4.at (by decide) (by decide) | exact M5.at (by decide) (by decide) | exact M6.at (by decide) (by decide)) rfl (Nat.le_of_ble_eq_true rfl) (by decide) (by decide) (fun r c2 hP => ?_)
          obtain ⟨rfl, hx⟩ := hP
          have hx : zSx w0 c2 tx n (S.2 ||| 2 ^ 0) (zlL tx n S.1 t) := hx
          have hcw : c2.1 = w.1 := by
            cases hq : zlL tx n S.1 t with
            | inl e => rw [hq] at hx; exact (show zBd w0 c2 tx n e from hx).1.1.trans h.1.1.symm
            | inr q => rw [hq] at hx; exact (show zGd w0 c2 tx n (q.1, S.2 ||| 2 ^ 0) q.2 from hx).1.1.trans h.1.1.symm
          refine zJ_iload_n dX9_line_142 rfl ?_
          refine zJ_iconst (v := 1) dX9_line_143 (by decide) ?_
          refine zJ_icmp_ne (tgt := 214) dX9_line_144 (by decide) (fun _ => ?_) (fun h9 => False.elim (by revert h9; decide))
          refine zJ_iload_n dX9_line_214 rfl ?_
          refine zJ_iconst (v := 2) dX9_line_215 (by decide) ?_
          refine zJ_icmp_ne (tgt := 230) dX9_line_216 (by decide) (fun _ => ?_) (fun h9 => False.elim (by revert h9; decide))
          refine zJ_iload_n dX9_line_230 rfl ?_
          refine zJ_iconst (v := 3) dX9_line_231 (by decide) ?_
          refine zJ_icmp_ne (tgt := 254) dX9_line_232 (by decide) (fun _ => ?_) (fun h9 => False.elim (by revert h9; decide))
          refine zJ_ls [(0, .ref 100)] (by simp) ?_
          exact K254 _ (S.2 ||| 2 ^ 0) _ hcw hx (hz _ rfl)
      | false =>
        refine zJ_aload_n dX9_line_30 rfl ?_
        refine zJ_iconst (v := 2) dX9_line_31 (by decide) ?_
        refine zJ_cV1 dX9_line_32 sX9_234 mfX9_is (c_Mo_isg Δ h 2 (by decide) hw2) (by first | rfl | assumption | exact hM.at (by decide) (by decide) | exact M1.at (by decide) (by decide) | exact M2.at (by decide) (by decide) | exact M3.at (by decide) (by decide) | exact M4.at (by decide) (by decide) | exact M5.at (by decide) (by decide) | exact M6.at (by decide) (by decide)) rfl (Nat.le_of_ble_eq_true rfl) (by decide) (by decide) ?_
        refine zJ_if_eq (tgt := 42) dX9_line_35 (by decide) (fun _ => ?_) (fun h9 => False.elim (by revert h9; decide))
        cases hw3 : zwd tx t 3 with
        | true =>
          refine zJ_aload_n dX9_line_42 rfl ?_
          refine zJ_iconst (v := 3) dX9_line_43 (by decide) ?_
          refine zJ_cV1 dX9_line_44 sX9_234 mfX9_is (c_Mo_isg Δ h 3 (by decide) hw3) (by first | rfl | assumption | exact hM.at (by decide) (by decide) | exact M1.at (by decide) (by decide) | exact M2.at (by decide) (by decide) | exact M3.at (by decide) (by decide) | exact M4.at (by decide) (by decide) | exact M5.at (by decide) (by decide) | exact M6.at (by decide) (by decide)) rfl (Nat.le_of_ble_eq_true rfl) (by decide) (by decide) ?_
          refine zJ_if_eq (tgt := 54) dX9_line_47 (by decide) (fun h9 => False.elim (by revert h9; decide)) (fun _ => ?_)
          refine zJ_iconst (v := 1) dX9_line_50 (by decide) ?_
          refine zJ_goto (tgt := 79) dX9_line_51 (by decide) ?_
          have e34 := h.2.2.2.2.2.2.2.2.2.2.2.2.2.2.2.1
          cases hbt : S.2.testBit 1 with
          | true =>
            have hz : zln tx n S t = .inl (5, t.2.1) := by simp [zln, zon, hbt, hw0, hw1, hw2, hw3]
            rw [hz] at hQ
            have hb1 : S.2 / 2 ^ 1 % 2 = 1 := by rw [Nat.testBit_eq_decide_div_mod_eq] at hbt; exact of_decide_eq_true hbt
            refine zJ_istore_n (ls2 := fun x79x => [(1, .int x79x), (0, .ref 100)]) dX9_line_79 (by decide) (fun _ => rfl) (fun x79x ex79x => ?_)
            obtain rfl : x79x = (nI 1) := ex79x
            refine zJ_iload_n dX9_line_80 rfl ?_
            refine zJ_iconst (v := (-1)) dX9_line_81 (by decide) ?_
            refine zJ_icmp_ne (tgt := 93) dX9_line_82 (by decide) (fun _ => ?_) (fun h9 => False.elim (by revert h9; decide))
            refine zJ_aload_n dX9_line_93 rfl ?_
            refine zJ_getiN dX9_line_94 fX9_272 (by first | rfl | assumption | exact hM.at (by decide) (by decide) | exact M1.at (by decide) (by decide) | exact M2.at (by decide) (by decide) | exact M3.at (by decide) (by decide) | exact M4.at (by decide) (by decide) | exact M5.at (by decide) (by decide) | exact M6.at (by decide) (by decide)) rfl e34 ?_
            refine zJ_iload_n dX9_line_97 rfl ?_
            refine zJ_ishr dX9_line_98 ?_
            refine zJ_iconst (v := 1) dX9_line_99 (by decide) ?_
            refine zJ_iand dX9_line_100 ?_
            rw [show nI S.2 >>> (nI 1 &&& 31) &&& 1 = nI (S.2 / 2 ^ 1 % 2) from nI_bit (by omega) (by decide), hb1]
            refine zJ_iconst (v := 1) dX9_line_101 (by decide) ?_
            refine zJ_icmp_ne (tgt := 110) dX9_line_102 (by decide) (fun h9 => False.elim (by revert h9; decide)) (fun _ => ?_)
            refine zJ_aload_n dX9_line_105 rfl ?_
            refine zJ_iconst (v := 5) dX9_line_106 (by decide) ?_
            refine zJ_eV1 dX9_line_107 sX9_231 mfX9_wrong (c_Mo_wr Δ h 5 (by decide)) (by first | exact hM.at (by decide) (by decide) | exact M1.at (by decide) (by decide) | exact M2.at (by decide) (by decide) | exact M3.at (by decide) (by decide) | exact M4.at (by decide) (by decide) | exact M5.at (by decide) (by decide) | exact M6.at (by decide) (by decide)) rfl (Nat.le_of_ble_eq_true rfl) (by decide) (by decide) (fun r c1 hP => ?_)
            obtain ⟨rfl, hb⟩ := hP
            have M1 := hb.2.1.1
            refine zJ_aload_n dX9_line_110 rfl ?_
            refine zJ_cV0 dX9_line_111 sX9_224 mfX9_isGood (c_Mo_igB Δ hb) (by first | rfl | assumption | exact hM.at (by decide) (by decide) | exact M1.at (by decide) (by decide) | exact M2.at (by decide) (by decide) | exact M3.at (by decide) (by decide) | exact M4.at (by decide) (by decide) | exact M5.at (by decide) (by decide) | exact M6.at (by decide) (by decide)) rfl (Nat.le_of_ble_eq_true rfl) (by decide) (by decide) ?_
            refine zJ_if_ne (tgt := 118) dX9_line_114 (by decide) (fun h9 => False.elim (by revert h9; decide)) (fun _ => ?_)
            exact zJ_vret dX9_line_117 rfl (by decide) (by decide) (hQ _ _ ⟨rfl, hb⟩)
          | false =>
            have hz : ∀ x, x = (zlW tx n S.1 t) → zln tx n S t = zmB (S.2 ||| 2 ^ 1) (zcl x) := by intro x hx; rw [hx]; simp [zln, zon, hbt, hw0, hw1, hw2, hw3]
            have hb1 : S.2 / 2 ^ 1 % 2 = 0 := by rw [Nat.testBit_eq_decide_div_mod_eq] at hbt; have := of_decide_eq_false hbt; omega
            refine zJ_istore_n (ls2 := fun x79y => [(1, .int x79y), (0, .ref 100)]) dX9_line_79 (by decide) (fun _ => rfl) (fun x79y ex79y => ?_)
            obtain rfl : x79y = (nI 1) := ex79y
            refine zJ_iload_n dX9_line_80 rfl ?_
            refine zJ_iconst (v := (-1)) dX9_line_81 (by decide) ?_
            refine zJ_icmp_ne (tgt := 93) dX9_line_82 (by decide) (fun _ => ?_) (fun h9 => False.elim (by revert h9; decide))
            refine zJ_aload_n dX9_line_93 rfl ?_
            refine zJ_getiN dX9_line_94 fX9_272 (by first | rfl | assumption | exact hM.at (by decide) (by decide) | exact M1.at (by decide) (by decide) | exact M2.at (by decide) (by decide) | exact M3.at (by decide) (by decide) | exact M4.at (by decide) (by decide) | exact M5.at (by decide) (by decide) | exact M6.at (by decide) (by decide)) rfl e34 ?_
            refine zJ_iload_n dX9_line_97 rfl ?_
            refine zJ_ishr dX9_line_98 ?_
            refine zJ_iconst (v := 1) dX9_line_99 (by decide) ?_
            refine zJ_iand dX9_line_100 ?_
            rw [show nI S.2 >>> (nI 1 &&& 31) &&& 1 = nI (S.2 / 2 ^ 1 % 2) from nI_bit (by omega) (by decide), hb1]
            refine zJ_iconst (v := 1) dX9_line_101 (by decide) ?_
            refine zJ_icmp_ne (tgt := 110) dX9_line_102 (by decide) (fun _ => ?_) (fun h9 => False.elim (by revert h9; decide))
            refine zJ_aload_n dX9_line_110 rfl ?_
            refine zJ_cV0 dX9_line_111 sX9_224 mfX9_isGood (c_Mo_ig Δ h) (by first | rfl | assumption | exact hM.at (by decide) (by decide) | exact M1.at (by decide) (by decide) | exact M2.at (by decide) (by decide) | exact M3.at (by decide) (by decide) | exact M4.at (by decide) (by decide) | exact M5.at (by decide) (by decide) | exact M6.at (by decide) (by decide)) rfl (Nat.le_of_ble_eq_true rfl) (by decide) (by decide) ?_
            refine zJ_if_ne (tgt := 118) dX9_line_114 (by decide) (fun _ => ?_) (fun h9 => False.elim (by revert h9; decide))
            refine zJ_aload_n dX9_line_118 rfl ?_
            refine zJ_dup dX9_line_119 rfl ?_
            refine zJ_getiN dX9_line_120 fX9_272 (by first | rfl | assumption | exact hM.at (by decide) (by decide) | exact M1.at (by decide) (by decide) | exact M2.at (by decide) (by decide) | exact M3.at (by decide) (by decide) | exact M4.at (by decide) (by decide) | exact M5.at (by decide) (by decide) | exact M6.at (by decide) (by decide)) rfl e34 ?_
            refine zJ_iconst (v := 1) dX9_line_123 (by decide) ?_
            refine zJ_iload_n dX9_line_124 rfl ?_
            refine zJ_ishl dX9_line_125 ?_
            rw [show (1 : Int32) <<< (nI 1 &&& 31) = nI (2 ^ 1) from by decide]
            refine zJ_ior dX9_line_126 ?_
            rw [na_or]
            refine zJ_puti dX9_line_127 fX9_272 (fun q h => by cases h; rfl) (by first | rfl | assumption | exact hM.at (by decide) (by decide) | exact M1.at (by decide) (by decide) | exact M2.at (by decide) (by decide) | exact M3.at (by decide) (by decide) | exact M4.at (by decide) (by decide) | exact M5.at (by decide) (by decide) | exact M6.at (by decide) (by decide)) rfl rfl rfl ?_
            have g0 := h.p34 (S.2 ||| 2 ^ 1)
            have M1 : zMs (zsi w 100 34 (nI (S.2 ||| 2 ^ 1))) := g0.2.1.1
            refine zJ_aload_n dX9_line_130 rfl ?_
            refine zJ_eV0 dX9_line_131 sX9_228 mfX9_steps (c_Mo_st Δ g0) (by first | exact hM.at (by decide) (by decide) | exact M1.at (by decide) (by decide) | exact M2.at (by decide) (by decide) | exact M3.at (by decide) (by decide) | exact M4.at (by decide) (by decide) | exact M5.at (by decide) (by decide) | exact M6.at (by decide) (by decide)) rfl (Nat.le_of_ble_eq_true rfl) (by decide) (by decide) (fun r c1 hP => ?_)
            obtain ⟨rfl, g1⟩ := hP
            have M2 := g1.2.1.1
            cases hv0 : zwd tx (ztk tx n t.2.2.1) 14 with
            | true =>
              refine zJ_iload_n dX9_line_134 rfl ?_
              refine zJ_if_ne (tgt := 142) dX9_line_135 (by decide) (fun _ => ?_) (fun h9 => False.elim (by revert h9; decide))
              refine zJ_iload_n dX9_line_142 rfl ?_
              refine zJ_iconst (v := 1) dX9_line_143 (by decide) ?_
              refine zJ_icmp_ne (tgt := 214) dX9_line_144 (by decide) (fun h9 => False.elim (by revert h9; decide)) (fun _ => ?_)
              refine zJ_aload_n dX9_line_147 rfl ?_
              refine zJ_aload_n dX9_line_148 rfl ?_
              refine zJ_bipush (v := 14) dX9_line_149 (by decide) ?_
              refine zJ_cV1 dX9_line_151 sX9_234 mfX9_is (c_Mo_isg Δ g1 14 (by decide) hv0) (by first | rfl | assumption | exact hM.at (by decide) (by decide) | exact M1.at (by decide) (by decide) | exact M2.at (by decide) (by decide) | exact M3.at (by decide) (by decide) | exact M4.at (by decide) (by decide) | exact M5.at (by decide) (by decide) | exact M6.at (by decide) (by decide)) rfl (Nat.le_of_ble_eq_true rfl) (by decide) (by decide) ?_
              refine zJ_if_eq (tgt := 161) dX9_line_154 (by decide) (fun h9 => False.elim (by revert h9; decide)) (fun _ => ?_)
              refine zJ_iconst (v := 0) dX9_line_157 (by decide) ?_
              refine zJ_goto (tgt := 175) dX9_line_158 (by decide) ?_
              refine zJ_puti dX9_line_175 fX9_278 (fun q h => by cases h; rfl) (by first | rfl | assumption | exact hM.at (by decide) (by decide) | exact M1.at (by decide) (by decide) | exact M2.at (by decide) (by decide) | exact M3.at (by decide) (by decide) | exact M4.at (by decide) (by decide) | exact M5.at (by decide) (by decide) | exact M6.at (by decide) (by decide)) rfl rfl rfl ?_
              have g2 := g1.p32 0
              have M3 : zMs (zsi c1 100 32 (nI 0)) := g2.2.1.1
              refine zJ_aload_n dX9_line_178 rfl ?_
              refine zJ_aload_n dX9_line_179 rfl ?_
              refine zJ_bipush (v := 14) dX9_line_180 (by decide) ?_
              refine zJ_cV1 dX9_line_182 sX9_234 mfX9_is (c_Mo_isg Δ g2 14 (by decide) hv0) (by first | rfl | assumption | exact hM.at (by decide) (by decide) | exact M1.at (by decide) (by decide) | exact M2.at (by decide) (by decide) | exact M3.at (by decide) (by decide) | exact M4.at (by decide) (by decide) | exact M5.at (by decide) (by decide) | exact M6.at (by decide) (by decide)) rfl (Nat.le_of_ble_eq_true rfl) (by decide) (by decide) ?_
              refine zJ_if_ne (tgt := 206) dX9_line_185 (by decide) (fun _ => ?_) (fun h9 => False.elim (by revert h9; decide))
              refine zJ_iconst (v := 1) dX9_line_206 (by decide) ?_
              refine zJ_goto (tgt := 211) dX9_line_207 (by decide) ?_
              refine zJ_eV1 dX9_line_211 sX9_281 mfX9_need (c_Mo_nd Δ g2) (by first | exact hM.at (by decide) (by decide) | exact M1.at (by decide) (by decide) | exact M2.at (by decide) (by decide) | exact M3.at (by decide) (by decide) | exact M4.at (by decide) (by decide) | exact M5.at (by decide) (by decide) | exact M6.at (by decide) (by decide)) rfl (Nat.le_of_ble_eq_true rfl) (by decide) (by decide) (fun r c2 hP => ?_)
              obtain ⟨rfl, g3⟩ := hP
              have hx : zSx w0 c2 tx n (S.2 ||| 2 ^ 1) (.inr (zTs S.1 10 0, ztk tx n (ztk tx n t.2.2.1).2.2.1)) := g3
              refine zJ_iload_n dX9_line_214 rfl ?_
              refine zJ_iconst (v := 2) dX9_line_215 (by decide) ?_
              refine zJ_icmp_ne (tgt := 230) dX9_line_216 (by decide) (fun _ => ?_) (fun h9 => False.elim (by revert h9; decide))
              refine zJ_iload_n dX9_line_230 rfl ?_
              refine zJ_iconst (v := 3) dX9_line_231 (by decide) ?_
              refine zJ_icmp_ne (tgt := 254) dX9_line_232 (by decide) (fun _ => ?_) (fun h9 => False.elim (by revert h9; decide))
              refine zJ_ls [(0, .ref 100)] (by simp) ?_
              exact K254 _ (S.2 ||| 2 ^ 1) _ (g3.1.1.trans h.1.1.symm) hx (hz _ (by simp only [zlW]; rw [if_pos hv0]))
            | false =>
              cases hv1 : zwd tx (ztk tx n t.2.2.1) 15 with
              | true =>
                refine zJ_iload_n dX9_line_134 rfl ?_
                refine zJ_if_ne (tgt := 142) dX9_line_135 (by decide) (fun _ => ?_) (fun h9 => False.elim (by revert h9; decide))
                refine zJ_iload_n dX9_line_142 rfl ?_
                refine zJ_iconst (v := 1) dX9_line_143 (by decide) ?_
                refine zJ_icmp_ne (tgt := 214) dX9_line_144 (by decide) (fun h9 => False.elim (by revert h9; decide)) (fun _ => ?_)
                refine zJ_aload_n dX9_line_147 rfl ?_
                refine zJ_aload_n dX9_line_148 rfl ?_
                refine zJ_bipush (v := 14) dX9_line_149 (by decide) ?_
                refine zJ_cV1 dX9_line_151 sX9_234 mfX9_is (c_Mo_isg Δ g1 14 (by decide) hv0) (by first | rfl | assumption | exact hM.at (by decide) (by decide) | exact M1.at (by decide) (by decide) | exact M2.at (by decide) (by decide) | exact M3.at (by decide) (by decide) | exact M4.at (by decide) (by decide) | exact M5.at (by decide) (by decide) | exact M6.at (by decide) (by decide)) rfl (Nat.le_of_ble_eq_true rfl) (by decide) (by decide) ?_
                refine zJ_if_eq (tgt := 161) dX9_line_154 (by decide) (fun _ => ?_) (fun h9 => False.elim (by revert h9; decide))
                refine zJ_aload_n dX9_line_161 rfl ?_
                refine zJ_bipush (v := 15) dX9_line_162 (by decide) ?_
                refine zJ_cV1 dX9_line_164 sX9_234 mfX9_is (c_Mo_isg Δ g1 15 (by decide) hv1) (by first | rfl | assumption | exact hM.at (by decide) (by decide) | exact M1.at (by decide) (by decide) | exact M2.at (by decide) (by decide) | exact M3.at (by decide) (by decide) | exact M4.at (by decide) (by decide) | exact M5.at (by decide) (by decide) | exact M6.at (by decide) (by decide)) rfl (Nat.le_of_ble_eq_true rfl) (by decide) (by decide) ?_
                refine zJ_if_eq (tgt := 174) dX9_line_167 (by decide) (fun h9 => False.elim (by revert h9; decide)) (fun _ => ?_)
                refine zJ_iconst (v := 1) dX9_line_170 (by decide) ?_
                refine zJ_goto (tgt := 175) dX9_line_171 (by decide) ?_
                refine zJ_puti dX9_line_175 fX9_278 (fun q h => by cases h; rfl) (by first | rfl | assumption | exact hM.at (by decide) (by decide) | exact M1.at (by decide) (by decide) | exact M2.at (by decide) (by decide) | exact M3.at (by decide) (by decide) | exact M4.at (by decide) (by decide) | exact M5.at (by decide) (by decide) | exact M6.at (by decide) (by decide)) rfl rfl rfl ?_
                have g2 := g1.p32 1
                have M3 : zMs (zsi c1 100 32 (nI 1)) := g2.2.1.1
                refine zJ_aload_n dX9_line_178 rfl ?_
                refine zJ_aload_n dX9_line_179 rfl ?_
                refine zJ_bipush (v := 14) dX9_line_180 (by decide) ?_
                refine zJ_cV1 dX9_line_182 sX9_234 mfX9_is (c_Mo_isg Δ g2 14 (by decide) hv0) (by first | rfl | assumption | exact hM.at (by decide) (by decide) | exact M1.at (by decide) (by decide) | exact M2.at (by decide) (by decide) | exact M3.at (by decide) (by decide) | exact M4.at (by decide) (by decide) | exact M5.at (by decide) (by decide) | exact M6.at (by decide) (by decide)) rfl (Nat.le_of_ble_eq_true rfl) (by decide) (by decide) ?_
                refine zJ_if_ne (tgt := 206) dX9_line_185 (by decide) (fun h9 => False.elim (by revert h9; decide)) (fun _ => ?_)
                refine zJ_aload_n dX9_line_188 rfl ?_
                refine zJ_bipush (v := 15) dX9_line_189 (by decide) ?_
                refine zJ_cV1 dX9_line_191 sX9_234 mfX9_is (c_Mo_isg Δ g2 15 (by decide) hv1) (by first | rfl | assumption | exact hM.at (by decide) (by decide) | exact M1.at (by decide) (by decide) | exact M2.at (by decide) (by decide) | exact M3.at (by decide) (by decide) | exact M4.at (by decide) (by decide) | exact M5.at (by decide) (by decide) | exact M6.at (by decide) (by decide)) rfl (Nat.le_of_ble_eq_true rfl) (by decide) (by decide) ?_
                refine zJ_if_ne (tgt := 206) dX9_line_194 (by decide) (fun _ => ?_) (fun h9 => False.elim (by revert h9; decide))
                refine zJ_iconst (v := 1) dX9_line_206 (by decide) ?_
                refine zJ_goto (tgt := 211) dX9_line_207 (by decide) ?_
                refine zJ_eV1 dX9_line_211 sX9_281 mfX9_need (c_Mo_nd Δ g2) (by first | exact hM.at (by decide) (by decide) | exact M1.at (by decide) (by decide) | exact M2.at (by decide) (by decide) | exact M3.at (by decide) (by decide) | exact M4.at (by decide) (by decide) | exact M5.at (by decide) (by decide) | exact M6.at (by decide) (by decide)) rfl (Nat.le_of_ble_eq_true rfl) (by decide) (by decide) (fun r c2 hP => ?_)
                obtain ⟨rfl, g3⟩ := hP
                have hx : zSx w0 c2 tx n (S.2 ||| 2 ^ 1) (.inr (zTs S.1 10 1, ztk tx n (ztk tx n t.2.2.1).2.2.1)) := g3
                refine zJ_iload_n dX9_line_214 rfl ?_
                refine zJ_iconst (v := 2) dX9_line_215 (by decide) ?_
                refine zJ_icmp_ne (tgt := 230) dX9_line_216 (by decide) (fun _ => ?_) (fun h9 => False.elim (by revert h9; decide))
                refine zJ_iload_n dX9_line_230 rfl ?_
                refine zJ_iconst (v := 3) dX9_line_231 (by decide) ?_
                refine zJ_icmp_ne (tgt := 254) dX9_line_232 (by decide) (fun _ => ?_) (fun h9 => False.elim (by revert h9; decide))
                refine zJ_ls [(0, .ref 100)] (by simp) ?_
                exact K254 _ (S.2 ||| 2 ^ 1) _ (g3.1.1.trans h.1.1.symm) hx (hz _ (by simp only [zlW]; rw [if_neg (by rw [hv0]; decide), if_pos hv1]))
              | false =>
                cases hv2 : zwd tx (ztk tx n t.2.2.1) 16 with
                | true =>
                  refine zJ_iload_n dX9_line_134 rfl ?_
                  refine zJ_if_ne (tgt := 142) dX9_line_135 (by decide) (fun _ => ?_) (fun h9 => False.elim (by revert h9; decide))
                  refine zJ_iload_n dX9_line_142 rfl ?_
                  refine zJ_iconst (v := 1) dX9_line_143 (by decide) ?_
                  refine zJ_icmp_ne (tgt := 214) dX9_line_144 (by decide) (fun h9 => False.elim (by revert h9; decide)) (fun _ => ?_)
                  refine zJ_aload_n dX9_line_147 rfl ?_
                  refine zJ_aload_n dX9_line_148 rfl ?_
                  refine zJ_bipush (v := 14) dX9_line_149 (by decide) ?_
                  refine zJ_cV1 dX9_line_151 sX9_234 mfX9_is (c_Mo_isg Δ g1 14 (by decide) hv0) (by first | rfl | assumption | exact hM.at (by decide) (by decide) | exact M1.at (by decide) (by decide) | exact M2.at (by decide) (by decide) | exact M3.at (by decide) (by decide) | exact M4.at (by decide) (by decide) | exact M5.at (by decide) (by decide) | exact M6.at (by decide) (by decide)) rfl (Nat.le_of_ble_eq_true rfl) (by decide) (by decide) ?_
                  refine zJ_if_eq (tgt := 161) dX9_line_154 (by decide) (fun _ => ?_) (fun h9 => False.elim (by revert h9; decide))
                  refine zJ_aload_n dX9_line_161 rfl ?_
                  refine zJ_bipush (v := 15) dX9_line_162 (by decide) ?_
                  refine zJ_cV1 dX9_line_164 sX9_234 mfX9_is (c_Mo_isg Δ g1 15 (by decide) hv1) (by first | rfl | assumption | exact hM.at (by decide) (by decide) | exact M1.at (by decide) (by decide) | exact M2.at (by decide) (by decide) | exact M3.at (by decide) (by decide) | exact M4.at (by decide) (by decide) | exact M5.at (by decide) (by decide) | exact M6.at (by decide) (by decide)) rfl (Nat.le_of_ble_eq_true rfl) (by decide) (by decide) ?_
                  refine zJ_if_eq (tgt := 174) dX9_line_167 (by decide) (fun _ => ?_) (fun h9 => False.elim (by revert h9; decide))
                  refine zJ_iconst (v := 2) dX9_line_174 (by decide) ?_
                  refine zJ_puti dX9_line_175 fX9_278 (fun q h => by cases h; rfl) (by first | rfl | assumption | exact hM.at (by decide) (by decide) | exact M1.at (by decide) (by decide) | exact M2.at (by decide) (by decide) | exact M3.at (by decide) (by decide) | exact M4.at (by decide) (by decide) | exact M5.at (by decide) (by decide) | exact M6.at (by decide) (by decide)) rfl rfl rfl ?_
                  have g2 := g1.p32 2
                  have M3 : zMs (zsi c1 100 32 (nI 2)) := g2.2.1.1
                  refine zJ_aload_n dX9_line_178 rfl ?_
                  refine zJ_aload_n dX9_line_179 rfl ?_
                  refine zJ_bipush (v := 14) dX9_line_180 (by decide) ?_
                  refine zJ_cV1 dX9_line_182 sX9_234 mfX9_is (c_Mo_isg Δ g2 14 (by decide) hv0) (by first | rfl | assumption | exact hM.at (by decide) (by decide) | exact M1.at (by decide) (by decide) | exact M2.at (by decide) (by decide) | exact M3.at (by decide) (by decide) | exact M4.at (by decide) (by decide) | exact M5.at (by decide) (by decide) | exact M6.at (by decide) (by decide)) rfl (Nat.le_of_ble_eq_true rfl) (by decide) (by decide) ?_
                  refine zJ_if_ne (tgt := 206) dX9_line_185 (by decide) (fun h9 => False.elim (by revert h9; decide)) (fun _ => ?_)
                  refine zJ_aload_n dX9_line_188 rfl ?_
                  refine zJ_bipush (v := 15) dX9_line_189 (by decide) ?_
                  refine zJ_cV1 dX9_line_191 sX9_234 mfX9_is (c_Mo_isg Δ g2 15 (by decide) hv1) (by first | rfl | assumption | exact hM.at (by decide) (by decide) | exact M1.at (by decide) (by decide) | exact M2.at (by decide) (by decide) | exact M3.at (by decide) (by decide) | exact M4.at (by decide) (by decide) | exact M5.at (by decide) (by decide) | exact M6.at (by decide) (by decide)) rfl (Nat.le_of_ble_eq_true rfl) (by decide) (by decide) ?_
                  refine zJ_if_ne (tgt := 206) dX9_line_194 (by decide) (fun h9 => False.elim (by revert h9; decide)) (fun _ => ?_)
                  refine zJ_aload_n dX9_line_197 rfl ?_
                  refine zJ_bipush (v := 16) dX9_line_198 (by decide) ?_
                  refine zJ_cV1 dX9_line_200 sX9_234 mfX9_is (c_Mo_isg Δ g2 16 (by decide) hv2) (by first | rfl | assumption | exact hM.at (by decide) (by decide) | exact M1.at (by decide) (by decide) | exact M2.at (by decide) (by decide) | exact M3.at (by decide) (by decide) | exact M4.at (by decide) (by decide) | exact M5.at (by decide) (by decide) | exact M6.at (by decide) (by decide)) rfl (Nat.le_of_ble_eq_true rfl) (by decide) (by decide) ?_
                  refine zJ_if_eq (tgt := 210) dX9_line_203 (by decide) (fun h9 => False.elim (by revert h9; decide)) (fun _ => ?_)
                  refine zJ_iconst (v := 1) dX9_line_206 (by decide) ?_
                  refine zJ_goto (tgt := 211) dX9_line_207 (by decide) ?_
                  refine zJ_eV1 dX9_line_211 sX9_281 mfX9_need (c_Mo_nd Δ g2) (by first | exact hM.at (by decide) (by decide) | exact M1.at (by decide) (by decide) | exact M2.at (by decide) (by decide) | exact M3.at (by decide) (by decide) | exact M4.at (by decide) (by decide) | exact M5.at (by decide) (by decide) | exact M6.at (by decide) (by decide)) rfl (Nat.le_of_ble_eq_true rfl) (by decide) (by decide) (fun r c2 hP => ?_)
                  obtain ⟨rfl, g3⟩ := hP
                  have hx : zSx w0 c2 tx n (S.2 ||| 2 ^ 1) (.inr (zTs S.1 10 2, ztk tx n (ztk tx n t.2.2.1).2.2.1)) := g3
                  refine zJ_iload_n dX9_line_214 rfl ?_
                  refine zJ_iconst (v := 2) dX9_line_215 (by decide) ?_
                  refine zJ_icmp_ne (tgt := 230) dX9_line_216 (by decide) (fun _ => ?_) (fun h9 => False.elim (by revert h9; decide))
                  refine zJ_iload_n dX9_line_230 rfl ?_
                  refine zJ_iconst (v := 3) dX9_line_231 (by decide) ?_
                  refine zJ_icmp_ne (tgt := 254) dX9_line_232 (by decide) (fun _ => ?_) (fun h9 => False.elim (by revert h9; decide))
                  refine zJ_ls [(0, .ref 100)] (by simp) ?_
                  exact K254 _ (S.2 ||| 2 ^ 1) _ (g3.1.1.trans h.1.1.symm) hx (hz _ (by simp only [zlW]; rw [if_neg (by rw [hv0]; decide), if_neg (by rw [hv1]; decide), if_pos hv2]))
                | false =>
                  refine zJ_iload_n dX9_line_134 rfl ?_
                  refine zJ_if_ne (tgt := 142) dX9_line_135 (by decide) (fun _ => ?_) (fun h9 => False.elim (by revert h9; decide))
                  refine zJ_iload_n dX9_line_142 rfl ?_
                  refine zJ_iconst (v := 1) dX9_line_143 (by decide) ?_
                  refine zJ_icmp_ne (tgt := 214) dX9_line_144 (by decide) (fun h9 => False.elim (by revert h9; decide)) (fun _ => ?_)
                  refine zJ_aload_n dX9_line_147 rfl ?_
                  refine zJ_aload_n dX9_line_148 rfl ?_
                  refine zJ_bipush (v := 14) dX9_line_149 (by decide) ?_
                  refine zJ_cV1 dX9_line_151 sX9_234 mfX9_is (c_Mo_isg Δ g1 14 (by decide) hv0) (by first | rfl | assumption | exact hM.at (by decide) (by decide) | exact M1.at (by decide) (by decide) | exact M2.at (by decide) (by decide) | exact M3.at (by decide) (by decide) | exact M4.at (by decide) (by decide) | exact M5.at (by decide) (by decide) | exact M6.at (by decide) (by decide)) rfl (Nat.le_of_ble_eq_true rfl) (by decide) (by decide) ?_
                  refine zJ_if_eq (tgt := 161) dX9_line_154 (by decide) (fun _ => ?_) (fun h9 => False.elim (by revert h9; decide))
                  refine zJ_aload_n dX9_line_161 rfl ?_
                  refine zJ_bipush (v := 15) dX9_line_162 (by decide) ?_
                  refine zJ_cV1 dX9_line_164 sX9_234 mfX9_is (c_Mo_isg Δ g1 15 (by decide) hv1) (by first | rfl | assumption | exact hM.at (by decide) (by decide) | exact M1.at (by decide) (by decide) | exact M2.at (by decide) (by decide) | exact M3.at (by decide) (by decide) | exact M4.at (by decide) (by decide) | exact M5.at (by decide) (by decide) | exact M6.at (by decide) (by decide)) rfl (Nat.le_of_ble_eq_true rfl) (by decide) (by decide) ?_
                  refine zJ_if_eq (tgt := 174) dX9_line_167 (by decide) (fun _ => ?_) (fun h9 => False.elim (by revert h9; decide))
                  refine zJ_iconst (v := 2) dX9_line_174 (by decide) ?_
                  refine zJ_puti dX9_line_175 fX9_278 (fun q h => by cases h; rfl) (by first | rfl | assumption | exact hM.at (by decide) (by decide) | exact M1.at (by decide) (by decide) | exact M2.at (by decide) (by decide) | exact M3.at (by decide) (by decide) | exact M4.at (by decide) (by decide) | exact M5.at (by decide) (by decide) | exact M6.at (by decide) (by decide)) rfl rfl rfl ?_
                  have g2 := g1.p32 2
                  have M3 : zMs (zsi c1 100 32 (nI 2)) := g2.2.1.1
                  refine zJ_aload_n dX9_line_178 rfl ?_
                  refine zJ_aload_n dX9_line_179 rfl ?_
                  refine zJ_bipush (v := 14) dX9_line_180 (by decide) ?_
                  refine zJ_cV1 dX9_line_182 sX9_234 mfX9_is (c_Mo_isg Δ g2 14 (by decide) hv0) (by first | rfl | assumption | exact hM.at (by decide) (by decide) | exact M1.at (by decide) (by decide) | exact M2.at (by decide) (by decide) | exact M3.at (by decide) (by decide) | exact M4.at (by decide) (by decide) | exact M5.at (by decide) (by decide) | exact M6.at (by decide) (by decide)) rfl (Nat.le_of_ble_eq_true rfl) (by decide) (by decide) ?_
                  refine zJ_if_ne (tgt := 206) dX9_line_185 (by decide) (fun h9 => False.elim (by revert h9; decide)) (fun _ => ?_)
                  refine zJ_aload_n dX9_line_188 rfl ?_
                  refine zJ_bipush (v := 15) dX9_line_189 (by decide) ?_
                  refine zJ_cV1 dX9_line_191 sX9_234 mfX9_is (c_Mo_isg Δ g2 15 (by decide) hv1) (by first | rfl | assumption | exact hM.at (by decide) (by decide) | exact M1.at (by decide) (by decide) | exact M2.at (by decide) (by decide) | exact M3.at (by decide) (by decide) | exact M4.at (by decide) (by decide) | exact M5.at (by decide) (by decide) | exact M6.at (by decide) (by decide)) rfl (Nat.le_of_ble_eq_true rfl) (by decide) (by decide) ?_
                  refine zJ_if_ne (tgt := 206) dX9_line_194 (by decide) (fun h9 => False.elim (by revert h9; decide)) (fun _ => ?_)
                  refine zJ_aload_n dX9_line_197 rfl ?_
                  refine zJ_bipush (v := 16) dX9_line_198 (by decide) ?_
                  refine zJ_cV1 dX9_line_200 sX9_234 mfX9_is (c_Mo_isg Δ g2 16 (by decide) hv2) (by first | rfl | assumption | exact hM.at (by decide) (by decide) | exact M1.at (by decide) (by decide) | exact M2.at (by decide) (by decide) | exact M3.at (by decide) (by decide) | exact M4.at (by decide) (by decide) | exact M5.at (by decide) (by decide) | exact M6.at (by decide) (by decide)) rfl (Nat.le_of_ble_eq_true rfl) (by decide) (by decide) ?_
                  refine zJ_if_eq (tgt := 210) dX9_line_203 (by decide) (fun _ => ?_) (fun h9 => False.elim (by revert h9; decide))
                  refine zJ_iconst (v := 0) dX9_line_210 (by decide) ?_
                  refine zJ_eV1 dX9_line_211 sX9_281 mfX9_need (c_Mo_nd0 Δ g2) (by first | exact hM.at (by decide) (by decide) | exact M1.at (by decide) (by decide) | exact M2.at (by decide) (by decide) | exact M3.at (by decide) (by decide) | exact M4.at (by decide) (by decide) | exact M5.at (by decide) (by decide) | exact M6.at (by decide) (by decide)) rfl (Nat.le_of_ble_eq_true rfl) (by decide) (by decide) (fun r c2 hP => ?_)
                  obtain ⟨rfl, g3⟩ := hP
                  have hx : zSx w0 c2 tx n (S.2 ||| 2 ^ 1) (.inl (1, (ztk tx n t.2.2.1).2.1)) := g3
                  refine zJ_iload_n dX9_line_214 rfl ?_
                  refine zJ_iconst (v := 2) dX9_line_215 (by decide) ?_
                  refine zJ_icmp_ne (tgt := 230) dX9_line_216 (by decide) (fun _ => ?_) (fun h9 => False.elim (by revert h9; decide))
                  refine zJ_iload_n dX9_line_230 rfl ?_
                  refine zJ_iconst (v := 3) dX9_line_231 (by decide) ?_
                  refine zJ_icmp_ne (tgt := 254) dX9_line_232 (by decide) (fun _ => ?_) (fun h9 => False.elim (by revert h9; decide))
                  refine zJ_ls [(0, .ref 100)] (by simp) ?_
                  exact K254 _ (S.2 ||| 2 ^ 1) _ (g3.1.1.trans h.1.1.symm) hx (hz _ (by simp only [zlW]; rw [if_neg (by rw [hv0]; decide), if_neg (by rw [hv1]; decide), if_neg (by rw [hv2]; decide)]))
        | false =>
          refine zJ_aload_n dX9_line_42 rfl ?_
          refine zJ_iconst (v := 3) dX9_line_43 (by decide) ?_
          refine zJ_cV1 dX9_line_44 sX9_234 mfX9_is (c_Mo_isg Δ h 3 (by decide) hw3) (by first | rfl | assumption | exact hM.at (by decide) (by decide) | exact M1.at (by decide) (by decide) | exact M2.at (by decide) (by decide) | exact M3.at (by decide) (by decide) | exact M4.at (by decide) (by decide) | exact M5.at (by decide) (by decide) | exact M6.at (by decide) (by decide)) rfl (Nat.le_of_ble_eq_true rfl) (by decide) (by decide) ?_
          refine zJ_if_eq (tgt := 54) dX9_line_47 (by decide) (fun _ => ?_) (fun h9 => False.elim (by revert h9; decide))
          cases hw4 : zwd tx t 4 with
          | true =>
            refine zJ_aload_n dX9_line_54 rfl ?_
            refine zJ_iconst (v := 4) dX9_line_55 (by decide) ?_
            refine zJ_cV1 dX9_line_56 sX9_234 mfX9_is (c_Mo_isg Δ h 4 (by decide) hw4) (by first | rfl | assumption | exact hM.at (by decide) (by decide) | exact M1.at (by decide) (by decide) | exact M2.at (by decide) (by decide) | exact M3.at (by decide) (by decide) | exact M4.at (by decide) (by decide) | exact M5.at (by decide) (by decide) | exact M6.at (by decide) (by decide)) rfl (Nat.le_of_ble_eq_true rfl) (by decide) (by decide) ?_
            refine zJ_if_eq (tgt := 66) dX9_line_59 (by decide) (fun h9 => False.elim (by revert h9; decide)) (fun _ => ?_)
            refine zJ_iconst (v := 2) dX9_line_62 (by decide) ?_
            refine zJ_goto (tgt := 79) dX9_line_63 (by decide) ?_
            have e34 := h.2.2.2.2.2.2.2.2.2.2.2.2.2.2.2.1
            cases hbt : S.2.testBit 2 with
            | true =>
              have hz : zln tx n S t = .inl (5, t.2.1) := by simp [zln, zon, hbt, hw0, hw1, hw2, hw3, hw4]
              rw [hz] at hQ
              have hb1 : S.2 / 2 ^ 2 % 2 = 1 := by rw [Nat.testBit_eq_decide_div_mod_eq] at hbt; exact of_decide_eq_true hbt
              refine zJ_istore_n (ls2 := fun x79x => [(1, .int x79x), (0, .ref 100)]) dX9_line_79 (by decide) (fun _ => rfl) (fun x79x ex79x => ?_)
              obtain rfl : x79x = (nI 2) := ex79x
              refine zJ_iload_n dX9_line_80 rfl ?_
              refine zJ_iconst (v := (-1)) dX9_line_81 (by decide) ?_
              refine zJ_icmp_ne (tgt := 93) dX9_line_82 (by decide) (fun _ => ?_) (fun h9 => False.elim (by revert h9; decide))
              refine zJ_aload_n dX9_line_93 rfl ?_
              refine zJ_getiN dX9_line_94 fX9_272 (by first | rfl | assumption | exact hM.at (by decide) (by decide) | exact M1.at (by decide) (by decide) | exact M2.at (by decide) (by decide) | exact M3.at (by decide) (by decide) | exact M4.at (by decide) (by decide) | exact M5.at (by decide) (by decide) | exact M6.at (by decide) (by decide)) rfl e34 ?_
              refine zJ_iload_n dX9_line_97 rfl ?_
              refine zJ_ishr dX9_line_98 ?_
              refine zJ_iconst (v := 1) dX9_line_99 (by decide) ?_
              refine zJ_iand dX9_line_100 ?_
              rw [show nI S.2 >>> (nI 2 &&& 31) &&& 1 = nI (S.2 / 2 ^ 2 % 2) from nI_bit (by omega) (by decide), hb1]
              refine zJ_iconst (v := 1) dX9_line_101 (by decide) ?_
              refine zJ_icmp_ne (tgt := 110) dX9_line_102 (by decide) (fun h9 => False.elim (by revert h9; decide)) (fun _ => ?_)
              refine zJ_aload_n dX9_line_105 rfl ?_
              refine zJ_iconst (v := 5) dX9_line_106 (by decide) ?_
              refine zJ_eV1 dX9_line_107 sX9_231 mfX9_wrong (c_Mo_wr Δ h 5 (by decide)) (by first | exact hM.at (by decide) (by decide) | exact M1.at (by decide) (by decide) | exact M2.at (by decide) (by decide) | exact M3.at (by decide) (by decide) | exact M4.at (by decide) (by decide) | exact M5.at (by decide) (by decide) | exact M6.at (by decide) (by decide)) rfl (Nat.le_of_ble_eq_true rfl) (by decide) (by decide) (fun r c1 hP => ?_)
              obtain ⟨rfl, hb⟩ := hP
              have M1 := hb.2.1.1
              refine zJ_aload_n dX9_line_110 rfl ?_
              refine zJ_cV0 dX9_line_111 sX9_224 mfX9_isGood (c_Mo_igB Δ hb) (by first | rfl | assumption | exact hM.at (by decide) (by decide) | exact M1.at (by decide) (by decide) | exact M2.at (by decide) (by decide) | exact M3.at (by decide) (by decide) | exact M4.at (by decide) (by decide) | exact M5.at (by decide) (by decide) | exact M6.at (by decide) (by decide)) rfl (Nat.le_of_ble_eq_true rfl) (by decide) (by decide) ?_
              refine zJ_if_ne (tgt := 118) dX9_line_114 (by decide) (fun h9 => False.elim (by revert h9; decide)) (fun _ => ?_)
              exact zJ_vret dX9_line_117 rfl (by decide) (by decide) (hQ _ _ ⟨rfl, hb⟩)
            | false =>
              have hz : ∀ x, x = (zlX tx n S.1 t) → zln tx n S t = zmB (S.2 ||| 2 ^ 2) (zcl x) := by intro x hx; rw [hx]; simp [zln, zon, hbt, hw0, hw1, hw2, hw3, hw4]
              have hb1 : S.2 / 2 ^ 2 % 2 = 0 := by rw [Nat.testBit_eq_decide_div_mod_eq] at hbt; have := of_decide_eq_false hbt; omega
              refine zJ_istore_n (ls2 := fun x79y => [(1, .int x79y), (0, .ref 100)]) dX9_line_79 (by decide) (fun _ => rfl) (fun x79y ex79y => ?_)
              obtain rfl : x79y = (nI 2) := ex79y
              refine zJ_iload_n dX9_line_80 rfl ?_
              refine zJ_iconst (v := (-1)) dX9_line_81 (by decide) ?_
              refine zJ_icmp_ne (tgt := 93) dX9_line_82 (by decide) (fun _ => ?_) (fun h9 => False.elim (by revert h9; decide))
              refine zJ_aload_n dX9_line_93 rfl ?_
              refine zJ_getiN dX9_line_94 fX9_272 (by first | rfl | assumption | exact hM.at (by decide) (by decide) | exact M1.at (by decide) (by decide) | exact M2.at (by decide) (by decide) | exact M3.at (by decide) (by decide) | exact M4.at (by decide) (by decide) | exact M5.at (by decide) (by decide) | exact M6.at (by decide) (by decide)) rfl e34 ?_
              refine zJ_iload_n dX9_line_97 rfl ?_
              refine zJ_ishr dX9_line_98 ?_
              refine zJ_iconst (v := 1) dX9_line_99 (by decide) ?_
              refine zJ_iand dX9_line_100 ?_
              rw [show nI S.2 >>> (nI 2 &&& 31) &&& 1 = nI (S.2 / 2 ^ 2 % 2) from nI_bit (by omega) (by decide), hb1]
              refine zJ_iconst (v := 1) dX9_line_101 (by decide) ?_
              refine zJ_icmp_ne (tgt := 110) dX9_line_102 (by decide) (fun _ => ?_) (fun h9 => False.elim (by revert h9; decide))
              refine zJ_aload_n dX9_line_110 rfl ?_
              refine zJ_cV0 dX9_line_111 sX9_224 mfX9_isGood (c_Mo_ig Δ h) (by first | rfl | assumption | exact hM.at (by decide) (by decide) | exact M1.at (by decide) (by decide) | exact M2.at (by decide) (by decide) | exact M3.at (by decide) (by decide) | exact M4.at (by decide) (by decide) | exact M5.at (by decide) (by decide) | exact M6.at (by decide) (by decide)) rfl (Nat.le_of_ble_eq_true rfl) (by decide) (by decide) ?_
              refine zJ_if_ne (tgt := 118) dX9_line_114 (by decide) (fun _ => ?_) (fun h9 => False.elim (by revert h9; decide))
              refine zJ_aload_n dX9_line_118 rfl ?_
              refine zJ_dup dX9_line_119 rfl ?_
              refine zJ_getiN dX9_line_120 fX9_272 (by first | rfl | assumption | exact hM.at (by decide) (by decide) | exact M1.at (by decide) (by decide) | exact M2.at (by decide) (by decide) | exact M3.at (by decide) (by decide) | exact M4.at (by decide) (by decide) | exact M5.at (by decide) (by decide) | exact M6.at (by decide) (by decide)) rfl e34 ?_
              refine zJ_iconst (v := 1) dX9_line_123 (by decide) ?_
              refine zJ_iload_n dX9_line_124 rfl ?_
              refine zJ_ishl dX9_line_125 ?_
              rw [show (1 : Int32) <<< (nI 2 &&& 31) = nI (2 ^ 2) from by decide]
              refine zJ_ior dX9_line_126 ?_
              rw [na_or]
              refine zJ_puti dX9_line_127 fX9_272 (fun q h => by cases h; rfl) (by first | rfl | assumption | exact hM.at (by decide) (by decide) | exact M1.at (by decide) (by decide) | exact M2.at (by decide) (by decide) | exact M3.at (by decide) (by decide) | exact M4.at (by decide) (by decide) | exact M5.at (by decide) (by decide) | exact M6.at (by decide) (by decide)) rfl rfl rfl ?_
              have g0 := h.p34 (S.2 ||| 2 ^ 2)
              have M1 : zMs (zsi w 100 34 (nI (S.2 ||| 2 ^ 2))) := g0.2.1.1
              refine zJ_aload_n dX9_line_130 rfl ?_
              refine zJ_eV0 dX9_line_131 sX9_228 mfX9_steps (c_Mo_st Δ g0) (by first | exact hM.at (by decide) (by decide) | exact M1.at (by decide) (by decide) | exact M2.at (by decide) (by decide) | exact M3.at (by decide) (by decide) | exact M4.at (by decide) (by decide) | exact M5.at (by decide) (by decide) | exact M6.at (by decide) (by decide)) rfl (Nat.le_of_ble_eq_true rfl) (by decide) (by decide) (fun r c1 hP => ?_)
              obtain ⟨rfl, g1⟩ := hP
              have M2 := g1.2.1.1
              refine zJ_iload_n dX9_line_134 rfl ?_
              refine zJ_if_ne (tgt := 142) dX9_line_135 (by decide) (fun _ => ?_) (fun h9 => False.elim (by revert h9; decide))
              refine zJ_iload_n dX9_line_142 rfl ?_
              refine zJ_iconst (v := 1) dX9_line_143 (by decide) ?_
              refine zJ_icmp_ne (tgt := 214) dX9_line_144 (by decide) (fun _ => ?_) (fun h9 => False.elim (by revert h9; decide))
              refine zJ_iload_n dX9_line_214 rfl ?_
              refine zJ_iconst (v := 2) dX9_line_215 (by decide) ?_
              refine zJ_icmp_ne (tgt := 230) dX9_line_216 (by decide) (fun h9 => False.elim (by revert h9; decide)) (fun _ => ?_)
              refine zJ_aload_n dX9_line_219 rfl ?_
              refine zJ_aload_n dX9_line_220 rfl ?_
              refine zJ_iconst (v := 1) dX9_line_221 (by decide) ?_
              refine zJ_bipush (v := 99) dX9_line_222 (by decide) ?_
              refine zJ_eV2 dX9_line_224 sX9_237 mfX9_number (c_Mo_nm Δ g1 1 99 (by decide) (by decide)) (by first | exact hM.at (by decide) (by decide) | exact M1.at (by decide) (by decide) | exact M2.at (by decide) (by decide) | exact M3.at (by decide) (by decide) | exact M4.at (by decide) (by decide) | exact M5.at (by decide) (by decide) | exact M6.at (by decide) (by decide)) rfl (Nat.le_of_ble_eq_true rfl) (by decide) (by decide) (fun r c2 hP => ?_)
              cases hn : zrN 1 99 (ztk tx n t.2.2.1) with
              | inl e =>
                rw [hn] at hP
                obtain ⟨hb, v, rfl⟩ := hP
                have M3 := hb.2.1.1
                refine zJ_puti dX9_line_227 fX9_285 (fun q h => by cases h; rfl) (by first | rfl | assumption | exact hM.at (by decide) (by decide) | exact M1.at (by decide) (by decide) | exact M2.at (by decide) (by decide) | exact M3.at (by decide) (by decide) | exact M4.at (by decide) (by decide) | exact M5.at (by decide) (by decide) | exact M6.at (by decide) (by decide)) rfl rfl rfl ?_
                refine zJ_iload_n dX9_line_230 rfl ?_
                refine zJ_iconst (v := 3) dX9_line_231 (by decide) ?_
                refine zJ_icmp_ne (tgt := 254) dX9_line_232 (by decide) (fun _ => ?_) (fun h9 => False.elim (by revert h9; decide))
                refine zJ_ls [(0, .ref 100)] (by simp) ?_
                exact K254 _ (S.2 ||| 2 ^ 2) _ (hb.1.1.trans h.1.1.symm) (show zSx w0 _ tx n (S.2 ||| 2 ^ 2) (.inl e) from hb.fm (zFM.i (l := [33]) (by decide)) (by decide) (by decide)) (hz _ (by simp only [zlX, hn]))
              | inr v =>
                rw [hn] at hP
                obtain ⟨g2, rfl⟩ := hP
                have M3 := g2.2.1.1
                refine zJ_puti dX9_line_227 fX9_285 (fun q h => by cases h; rfl) (by first | rfl | assumption | exact hM.at (by decide) (by decide) | exact M1.at (by decide) (by decide) | exact M2.at (by decide) (by decide) | exact M3.at (by decide) (by decide) | exact M4.at (by decide) (by decide) | exact M5.at (by decide) (by decide) | exact M6.at (by decide) (by decide)) rfl rfl rfl ?_
                refine zJ_iload_n dX9_line_230 rfl ?_
                refine zJ_iconst (v := 3) dX9_line_231 (by decide) ?_
                refine zJ_icmp_ne (tgt := 254) dX9_line_232 (by decide) (fun _ => ?_) (fun h9 => False.elim (by revert h9; decide))
                refine zJ_ls [(0, .ref 100)] (by simp) ?_
                exact K254 _ (S.2 ||| 2 ^ 2) _ (g2.1.1.trans h.1.1.symm) (show zSx w0 _ tx n (S.2 ||| 2 ^ 2) (.inr (zTs S.1 11 v, ztk tx n (ztk tx n t.2.2.1).2.2.1)) from g2.p33 v) (hz _ (by simp only [zlX, hn]))
          | false =>
            refine zJ_aload_n dX9_line_54 rfl ?_
            refine zJ_iconst (v := 4) dX9_line_55 (by decide) ?_
            refine zJ_cV1 dX9_line_56 sX9_234 mfX9_is (c_Mo_isg Δ h 4 (by decide) hw4) (by first | rfl | assumption | exact hM.at (by decide) (by decide) | exact M1.at (by decide) (by decide) | exact M2.at (by decide) (by decide) | exact M3.at (by decide) (by decide) | exact M4.at (by decide) (by decide) | exact M5.at (by decide) (by decide) | exact M6.at (by decide) (by decide)) rfl (Nat.le_of_ble_eq_true rfl) (by decide) (by decide) ?_
            refine zJ_if_eq (tgt := 66) dX9_line_59 (by decide) (fun _ => ?_) (fun h9 => False.elim (by revert h9; decide))
            cases hw5 : zwd tx t 5 with
            | true =>
              refine zJ_aload_n dX9_line_66 rfl ?_
              refine zJ_iconst (v := 5) dX9_line_67 (by decide) ?_
              refine zJ_cV1 dX9_line_68 sX9_234 mfX9_is (c_Mo_isg Δ h 5 (by decide) hw5) (by first | rfl | assumption | exact hM.at (by decide) (by decide) | exact M1.at (by decide) (by decide) | exact M2.at (by decide) (by decide) | exact M3.at (by decide) (by decide) | exact M4.at (by decide) (by decide) | exact M5.at (by decide) (by decide) | exact M6.at (by decide) (by decide)) rfl (Nat.le_of_ble_eq_true rfl) (by decide) (by decide) ?_
              refine zJ_if_eq (tgt := 78) dX9_line_71 (by decide) (fun h9 => False.elim (by revert h9; decide)) (fun _ => ?_)
              refine zJ_iconst (v := 3) dX9_line_74 (by decide) ?_
              refine zJ_goto (tgt := 79) dX9_line_75 (by decide) ?_
              have e34 := h.2.2.2.2.2.2.2.2.2.2.2.2.2.2.2.1
              cases hbt : S.2.testBit 3 with
              | true =>
                have hz : zln tx n S t = .inl (5, t.2.1) := by simp [zln, zon, hbt, hw0, hw1, hw2, hw3, hw4, hw5]
                rw [hz] at hQ
                have hb1 : S.2 / 2 ^ 3 % 2 = 1 := by rw [Nat.testBit_eq_decide_div_mod_eq] at hbt; exact of_decide_eq_true hbt
                refine zJ_istore_n (ls2 := fun x79x => [(1, .int x79x), (0, .ref 100)]) dX9_line_79 (by decide) (fun _ => rfl) (fun x79x ex79x => ?_)
                obtain rfl : x79x = (nI 3) := ex79x
                refine zJ_iload_n dX9_line_80 rfl ?_
                refine zJ_iconst (v := (-1)) dX9_line_81 (by decide) ?_
                refine zJ_icmp_ne (tgt := 93) dX9_line_82 (by decide) (fun _ => ?_) (fun h9 => False.elim (by revert h9; decide))
                refine zJ_aload_n dX9_line_93 rfl ?_
                refine zJ_getiN dX9_line_94 fX9_272 (by first | rfl | assumption | exact hM.at (by decide) (by decide) | exact M1.at (by decide) (by decide) | exact M2.at (by decide) (by decide) | exact M3.at (by decide) (by decide) | exact M4.at (by decide) (by decide) | exact M5.at (by decide) (by decide) | exact M6.at (by decide) (by decide)) rfl e34 ?_
                refine zJ_iload_n dX9_line_97 rfl ?_
                refine zJ_ishr dX9_line_98 ?_
                refine zJ_iconst (v := 1) dX9_line_99 (by decide) ?_
                refine zJ_iand dX9_line_100 ?_
                rw [show nI S.2 >>> (nI 3 &&& 31) &&& 1 = nI (S.2 / 2 ^ 3 % 2) from nI_bit (by omega) (by decide), hb1]
                refine zJ_iconst (v := 1) dX9_line_101 (by decide) ?_
                refine zJ_icmp_ne (tgt := 110) dX9_line_102 (by decide) (fun h9 => False.elim (by revert h9; decide)) (fun _ => ?_)
                refine zJ_aload_n dX9_line_105 rfl ?_
                refine zJ_iconst (v := 5) dX9_line_106 (by decide) ?_
                refine zJ_eV1 dX9_line_107 sX9_231 mfX9_wrong (c_Mo_wr Δ h 5 (by decide)) (by first | exact hM.at (by decide) (by decide) | exact M1.at (by decide) (by decide) | exact M2.at (by decide) (by decide) | exact M3.at (by decide) (by decide) | exact M4.at (by decide) (by decide) | exact M5.at (by decide) (by decide) | exact M6.at (by decide) (by decide)) rfl (Nat.le_of_ble_eq_true rfl) (by decide) (by decide) (fun r c1 hP => ?_)
                obtain ⟨rfl, hb⟩ := hP
                have M1 := hb.2.1.1
                refine zJ_aload_n dX9_line_110 rfl ?_
                refine zJ_cV0 dX9_line_111 sX9_224 mfX9_isGood (c_Mo_igB Δ hb) (by first | rfl | assumption | exact hM.at (by decide) (by decide) | exact M1.at (by decide) (by decide) | exact M2.at (by decide) (by decide) | exact M3.at (by decide) (by decide) | exact M4.at (by decide) (by decide) | exact M5.at (by decide) (by decide) | exact M6.at (by decide) (by decide)) rfl (Nat.le_of_ble_eq_true rfl) (by decide) (by decide) ?_
                refine zJ_if_ne (tgt := 118) dX9_line_114 (by decide) (fun h9 => False.elim (by revert h9; decide)) (fun _ => ?_)
                exact zJ_vret dX9_line_117 rfl (by decide) (by decide) (hQ _ _ ⟨rfl, hb⟩)
              | false =>
                have hz : ∀ x, x = (zlF tx n S.1 t) → zln tx n S t = zmB (S.2 ||| 2 ^ 3) (zcl x) := by intro x hx; rw [hx]; simp [zln, zon, hbt, hw0, hw1, hw2, hw3, hw4, hw5]
                have hb1 : S.2 / 2 ^ 3 % 2 = 0 := by rw [Nat.testBit_eq_decide_div_mod_eq] at hbt; have := of_decide_eq_false hbt; omega
                refine zJ_istore_n (ls2 := fun x79y => [(1, .int x79y), (0, .ref 100)]) dX9_line_79 (by decide) (fun _ => rfl) (fun x79y ex79y => ?_)
                obtain rfl : x79y = (nI 3) := ex79y
                refine zJ_iload_n dX9_line_80 rfl ?_
                refine zJ_iconst (v := (-1)) dX9_line_81 (by decide) ?_
                refine zJ_icmp_ne (tgt := 93) dX9_line_82 (by decide) (fun _ => ?_) (fun h9 => False.elim (by revert h9; decide))
                refine zJ_aload_n dX9_line_93 rfl ?_
                refine zJ_getiN dX9_line_94 fX9_272 (by first | rfl | assumption | exact hM.at (by decide) (by decide) | exact M1.at (by decide) (by decide) | exact M2.at (by decide) (by decide) | exact M3.at (by decide) (by decide) | exact M4.at (by decide) (by decide) | exact M5.at (by decide) (by decide) | exact M6.at (by decide) (by decide)) rfl e34 ?_
                refine zJ_iload_n dX9_line_97 rfl ?_
                refine zJ_ishr dX9_line_98 ?_
                refine zJ_iconst (v := 1) dX9_line_99 (by decide) ?_
                refine zJ_iand dX9_line_100 ?_
                rw [show nI S.2 >>> (nI 3 &&& 31) &&& 1 = nI (S.2 / 2 ^ 3 % 2) from nI_bit (by omega) (by decide), hb1]
                refine zJ_iconst (v := 1) dX9_line_101 (by decide) ?_
                refine zJ_icmp_ne (tgt := 110) dX9_line_102 (by decide) (fun _ => ?_) (fun h9 => False.elim (by revert h9; decide))
                refine zJ_aload_n dX9_line_110 rfl ?_
                refine zJ_cV0 dX9_line_111 sX9_224 mfX9_isGood (c_Mo_ig Δ h) (by first | rfl | assumption | exact hM.at (by decide) (by decide) | exact M1.at (by decide) (by decide) | exact M2.at (by decide) (by decide) | exact M3.at (by decide) (by decide) | exact M4.at (by decide) (by decide) | exact M5.at (by decide) (by decide) | exact M6.at (by decide) (by decide)) rfl (Nat.le_of_ble_eq_true rfl) (by decide) (by decide) ?_
                refine zJ_if_ne (tgt := 118) dX9_line_114 (by decide) (fun _ => ?_) (fun h9 => False.elim (by revert h9; decide))
                refine zJ_aload_n dX9_line_118 rfl ?_
                refine zJ_dup dX9_line_119 rfl ?_
                refine zJ_getiN dX9_line_120 fX9_272 (by first | rfl | assumption | exact hM.at (by decide) (by decide) | exact M1.at (by decide) (by decide) | exact M2.at (by decide) (by decide) | exact M3.at (by decide) (by decide) | exact M4.at (by decide) (by decide) | exact M5.at (by decide) (by decide) | exact M6.at (by decide) (by decide)) rfl e34 ?_
                refine zJ_iconst (v := 1) dX9_line_123 (by decide) ?_
                refine zJ_iload_n dX9_line_124 rfl ?_
                refine zJ_ishl dX9_line_125 ?_
                rw [show (1 : Int32) <<< (nI 3 &&& 31) = nI (2 ^ 3) from by decide]
                refine zJ_ior dX9_line_126 ?_
                rw [na_or]
                refine zJ_puti dX9_line_127 fX9_272 (fun q h => by cases h; rfl) (by first | rfl | assumption | exact hM.at (by decide) (by decide) | exact M1.at (by decide) (by decide) | exact M2.at (by decide) (by decide) | exact M3.at (by decide) (by decide) | exact M4.at (by decide) (by decide) | exact M5.at (by decide) (by decide) | exact M6.at (by decide) (by decide)) rfl rfl rfl ?_
                have g0 := h.p34 (S.2 ||| 2 ^ 3)
                have M1 : zMs (zsi w 100 34 (nI (S.2 ||| 2 ^ 3))) := g0.2.1.1
                refine zJ_aload_n dX9_line_130 rfl ?_
                refine zJ_eV0 dX9_line_131 sX9_228 mfX9_steps (c_Mo_st Δ g0) (by first | exact hM.at (by decide) (by decide) | exact M1.at (by decide) (by decide) | exact M2.at (by decide) (by decide) | exact M3.at (by decide) (by decide) | exact M4.at (by decide) (by decide) | exact M5.at (by decide) (by decide) | exact M6.at (by decide) (by decide)) rfl (Nat.le_of_ble_eq_true rfl) (by decide) (by decide) (fun r c1 hP => ?_)
                obtain ⟨rfl, g1⟩ := hP
                have M2 := g1.2.1.1
                refine zJ_iload_n dX9_line_134 rfl ?_
                refine zJ_if_ne (tgt := 142) dX9_line_135 (by decide) (fun _ => ?_) (fun h9 => False.elim (by revert h9; decide))
                refine zJ_iload_n dX9_line_142 rfl ?_
                refine zJ_iconst (v := 1) dX9_line_143 (by decide) ?_
                refine zJ_icmp_ne (tgt := 214) dX9_line_144 (by decide) (fun _ => ?_) (fun h9 => False.elim (by revert h9; decide))
                refine zJ_iload_n dX9_line_214 rfl ?_
                refine zJ_iconst (v := 2) dX9_line_215 (by decide) ?_
                refine zJ_icmp_ne (tgt := 230) dX9_line_216 (by decide) (fun _ => ?_) (fun h9 => False.elim (by revert h9; decide))
                refine zJ_iload_n dX9_line_230 rfl ?_
                refine zJ_iconst (v := 3) dX9_line_231 (by decide) ?_
                refine zJ_icmp_ne (tgt := 254) dX9_line_232 (by decide) (fun h9 => False.elim (by revert h9; decide)) (fun _ => ?_)
                refine zJ_aload_n dX9_line_235 rfl ?_
                refine zJ_eV0 dX9_line_236 sX9_248 mfX9_personHere (c_Mo_ph Δ g1 hT.1) (by first | exact hM.at (by decide) (by decide) | exact M1.at (by decide) (by decide) | exact M2.at (by decide) (by decide) | exact M3.at (by decide) (by decide) | exact M4.at (by decide) (by decide) | exact M5.at (by decide) (by decide) | exact M6.at (by decide) (by decide)) rfl (Nat.le_of_ble_eq_true rfl) (by decide) (by decide) (fun r c2 hP => ?_)
                cases hn : zrK (S.1.1 0) (ztk tx n t.2.2.1) with
                | inl e =>
                  rw [hn] at hP
                  obtain ⟨hb, rfl⟩ := hP
                  have M3 := hb.2.1.1
                  refine zJ_if_eq (tgt := 254) dX9_line_239 (by decide) (fun _ => ?_) (fun h9 => False.elim (by revert h9; decide))
                  refine zJ_ls [(0, .ref 100)] (by simp) ?_
                  exact K254 _ (S.2 ||| 2 ^ 3) _ (hb.1.1.trans h.1.1.symm) (show zSx w0 _ tx n (S.2 ||| 2 ^ 3) (.inl e) from hb) (hz _ (by simp only [zlF, hn]))
                | inr v =>
                  rw [hn] at hP
                  obtain ⟨rfl, rfl, f23⟩ := hP
                  refine zJ_if_eq (tgt := 254) dX9_line_239 (by decide) (fun h9 => False.elim (by revert h9; decide)) (fun _ => ?_)
                  refine zJ_aload_n dX9_line_242 rfl ?_
                  refine zJ_aload_n dX9_line_243 rfl ?_
                  refine zJ_getiN dX9_line_244 fX9_197 (by first | rfl | assumption | exact hM.at (by decide) (by decide) | exact M1.at (by decide) (by decide) | exact M2.at (by decide) (by decide) | exact M3.at (by decide) (by decide) | exact M4.at (by decide) (by decide) | exact M5.at (by decide) (by decide) | exact M6.at (by decide) (by decide)) rfl f23 ?_
                  refine zJ_puti dX9_line_247 fX9_288 (fun q h => by cases h; rfl) (by first | rfl | assumption | exact hM.at (by decide) (by decide) | exact M1.at (by decide) (by decide) | exact M2.at (by decide) (by decide) | exact M3.at (by decide) (by decide) | exact M4.at (by decide) (by decide) | exact M5.at (by decide) (by decide) | exact M6.at (by decide) (by decide)) rfl rfl rfl ?_
                  have g2 := g1.p26 v
                  have M3 := g2.2.1.1
                  refine zJ_aload_n dX9_line_250 rfl ?_
                  refine zJ_eV0 dX9_line_251 sX9_228 mfX9_steps (c_Mo_st Δ g2) (by first | exact hM.at (by decide) (by decide) | exact M1.at (by decide) (by decide) | exact M2.at (by decide) (by decide) | exact M3.at (by decide) (by decide) | exact M4.at (by decide) (by decide) | exact M5.at (by decide) (by decide) | exact M6.at (by decide) (by decide)) rfl (Nat.le_of_ble_eq_true rfl) (by decide) (by decide) (fun r c3 hP => ?_)
                  obtain ⟨rfl, g3⟩ := hP
                  refine zJ_ls [(0, .ref 100)] (by simp) ?_
                  exact K254 _ (S.2 ||| 2 ^ 3) _ (g3.1.1.trans h.1.1.symm) (show zSx w0 _ tx n (S.2 ||| 2 ^ 3) (.inr (zTs S.1 12 v, ztk tx n (ztk tx n t.2.2.1).2.2.1)) from g3) (hz _ (by simp only [zlF, hn]))
            | false =>
              refine zJ_aload_n dX9_line_66 rfl ?_
              refine zJ_iconst (v := 5) dX9_line_67 (by decide) ?_
              refine zJ_cV1 dX9_line_68 sX9_234 mfX9_is (c_Mo_isg Δ h 5 (by decide) hw5) (by first | rfl | assumption | exact hM.at (by decide) (by decide) | exact M1.at (by decide) (by decide) | exact M2.at (by decide) (by decide) | exact M3.at (by decide) (by decide) | exact M4.at (by decide) (by decide) | exact M5.at (by decide) (by decide) | exact M6.at (by decide) (by decide)) rfl (Nat.le_of_ble_eq_true rfl) (by decide) (by decide) ?_
              refine zJ_if_eq (tgt := 78) dX9_line_71 (by decide) (fun _ => ?_) (fun h9 => False.elim (by revert h9; decide))
              have hz : zln tx n S t = .inl (1, t.2.1) := by simp [zln, hw0, hw1, hw2, hw3, hw4, hw5]
              rw [hz] at hQ
              refine zJ_iconst (v := (-1)) dX9_line_78 (by decide) ?_
              refine zJ_istore_n (ls2 := fun x79u => [(1, .int x79u), (0, .ref 100)]) dX9_line_79 (by decide) (fun _ => rfl) (fun x79u ex79u => ?_)
              obtain rfl : x79u = (-1) := ex79u
              refine zJ_iload_n dX9_line_80 rfl ?_
              refine zJ_iconst (v := (-1)) dX9_line_81 (by decide) ?_
              refine zJ_icmp_ne (tgt := 93) dX9_line_82 (by decide) (fun h9 => False.elim (by revert h9; decide)) (fun _ => ?_)
              refine zJ_aload_n dX9_line_85 rfl ?_
              refine zJ_iconst (v := 1) dX9_line_86 (by decide) ?_
              refine zJ_eV1 dX9_line_87 sX9_231 mfX9_wrong (c_Mo_wr Δ h 1 (by decide)) (by first | exact hM.at (by decide) (by decide) | exact M1.at (by decide) (by decide) | exact M2.at (by decide) (by decide) | exact M3.at (by decide) (by decide) | exact M4.at (by decide) (by decide) | exact M5.at (by decide) (by decide) | exact M6.at (by decide) (by decide)) rfl (Nat.le_of_ble_eq_true rfl) (by decide) (by decide) (fun r c2 hP => ?_)
              obtain ⟨rfl, hb⟩ := hP
              have M2 := hb.2.1.1
              refine zJ_goto (tgt := 110) dX9_line_90 (by decide) ?_
              refine zJ_aload_n dX9_line_110 rfl ?_
              refine zJ_cV0 dX9_line_111 sX9_224 mfX9_isGood (c_Mo_igB Δ hb) (by first | rfl | assumption | exact hM.at (by decide) (by decide) | exact M1.at (by decide) (by decide) | exact M2.at (by decide) (by decide) | exact M3.at (by decide) (by decide) | exact M4.at (by decide) (by decide) | exact M5.at (by decide) (by decide) | exact M6.at (by decide) (by decide)) rfl (Nat.le_of_ble_eq_true rfl) (by decide) (by decide) ?_
              refine zJ_if_ne (tgt := 118) dX9_line_114 (by decide) (fun h9 => False.elim (by revert h9; decide)) (fun _ => ?_)
              exact zJ_vret dX9_line_117 rfl (by decide) (by decide) (hQ _ _ ⟨rfl, hb⟩)
