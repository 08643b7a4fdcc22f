/-! LetterTown: goes, opened, gets, feeling -/
def zSL : Nat := 473005
/-- the room of a call: little, and a large Play where one is made -/
def zRo (w : zW) (big : Prop) (mc ms : Nat) : Prop := (100 ≤ mc ∧ 600 ≤ ms) ∧ (big → w.2.2.2 0 8 = none → 200 ≤ mc ∧ 600000 ≤ ms)
def zLf (w d : zW) (T : zTo) : Prop := (zfit T 640 → d.2.2.2 0 8 = w.2.2.2 0 8) ∧ (¬ zfit T 640 → d.2.2.2 0 8 = some 61)
/-- refused, for there are too many HANDS -/
def zSp (w : zW) (U T : zTo) (E : String) (d : zW) : Prop := E = "java/lang/IllegalArgumentException" ∧ ¬ zfit T 20000 ∧ zFb w d ∧ zB d U ∧ d.2.2.2 0 8 = some 61
theorem zXp.sp {w c d : zW} {U T : zTo} {E : String} (ha : zAs w c U T) (h : zXp c U T E d) : zSp w U T E d := ⟨h.1, h.2.2.1, ha.1.tr h.2.1.b, (ha.2.2.1).fb h.2.1.b h.2.2.2.1, h.2.2.2.2⟩
theorem zfin {w c d e : zW} {U T : zTo} {b R m : Nat} {K : List zKy} (ha : zAs w c U T) (hF : zFa c d) (hf : zFf d e b) (hO : zPO e b R m U T K) (hx : zPx d b U) (hR : (b = 19 ∧ R = 640 ∧ m = 10) ∨ (b = 61 ∧ R = 20000 ∧ m = 15)) : zFb w e ∧ zB e U := by
  have h1 : zFb c e := hF.b.tr (hf.a hx.b).b
  exact ⟨ha.1.tr h1, ha.2.2.1.fb h1 (hO.py (hx.ff hf) hR)⟩
theorem zlf {w c d e : zW} {U T : zTo} {b : Nat} (ha : zAs w c U T) (h1 : zfit T 640 → d.2.2.2 0 8 = c.2.2.2 0 8) (h2 : ¬ zfit T 640 → d.2.2.2 0 8 = some 61) (hf : zFf d e b) : zLf w e T := ⟨fun h => by rw [hf.2.1, h1 h, ha.2.1], fun h => by rw [hf.2.1]; exact h2 h⟩
set_option maxRecDepth 100000 in
theorem c_goes (Δ : zD) (w : zW) (U : zTo) (hB : zB w U) (x : Int32) (mc ms : Nat) (hm : zRo w (¬ zfit U 640) mc ms) : zM Δ 8 mc ms false yX8_goes mX8_goes [.ref 0, .int x] w (fun r d => zFb w d ∧ zB d U ∧ zLf w d U ∧ zfit U 20000 ∧ 0 < U.1 0 ∧ ∃ q, q ≤ 1 ∧ x = nI q ∧ ∃ K, zall U K ∧ r = some (.long (lN (if q = 0 then zca (zcas U K) (U.1 7) 8 else zla (zcas U K) 12)))) (fun E d => (E = zNS ∧ d = w ∧ ¬ (0 < U.1 0 ∧ ∃ q, q ≤ 1 ∧ x = nI q)) ∨ ((0 < U.1 0 ∧ ∃ q, q ≤ 1 ∧ x = nI q) ∧ zSp w U U E d)) := by
  refine zM.of mfX8_goes (Nat.le_of_ble_eq_true rfl) ?_
  obtain ⟨⟨hm1, hm2⟩, hm3⟩ := hm
  have hC := hB.1
  have hU := hB.2.2.1.1
  have hcU := hB.2.2.1.2.1
  have h13 := hB.2.2.1.2.2
  have hp0 := hB.2.1.2.1 0 (by decide) (by decide)
  have hp8 := hU.1
  have hk0 := hC.1 0 (by decide)
  refine zJ_aload_n dX8_goes_0 rfl ?_
  refine zJ_iload_n dX8_goes_1 rfl ?_
  refine zJ_iconst (v := 1) dX8_goes_2 (by decide) ?_
  refine zJ_xV2 dX8_goes_3 sX8_161 pX8_161 mfX8_needWhat (c_needWhat Δ w hC x 1 (by decide)) rfl hk0 rfl (Nat.le_of_ble_eq_true rfl) ⟨Nat.le_of_ble_eq_true rfl, Nat.le_of_ble_eq_true rfl⟩ ⟨by show _ ≤ mc; omega, by show _ ≤ ms; omega⟩ (fun r c9 hP => ?_) (fun E c9 hX => Or.inl ⟨hX.1, hX.2.1, fun h => hX.2.2 h.2⟩)
  obtain ⟨rfl, hw9, hP⟩ := hP
  obtain rfl := hw9.symm
  obtain ⟨q, hq, rfl⟩ := hP
  refine zJ_aload_n dX8_goes_6 rfl ?_
  refine zJ_xV0 dX8_goes_7 sX8_189 pX8_189 mfX8_needPeople (c_needPeople Δ w hC (U.1 0) hp0 hp8) rfl hk0 rfl (Nat.le_of_ble_eq_true rfl) ⟨Nat.le_of_ble_eq_true rfl, Nat.le_of_ble_eq_true rfl⟩ ⟨by show _ ≤ mc; omega, by show _ ≤ ms; omega⟩ (fun r c9 hP => ?_) (fun E c9 hX => Or.inl ⟨hX.1, hX.2.1, fun h => hX.2.2 h.1⟩)
  obtain ⟨rfl, hw9, hP⟩ := hP
  obtain rfl := hw9.symm
  have hpos := hP
  refine zJ_aload_n dX8_goes_10 rfl ?_
  refine zJ_getr dX8_goes_11 fX8_36 (by first | rfl | assumption | exact hC.1 _ (by decide) | exact hAs.2.2.1.1.1 _ (by decide) | exact (zfin hAs hFa hf hO2 hx hR).2.1.1 _ (by decide)) rfl (by first | rfl | assumption | exact hC.2 _ _ rfl | exact hAs.2.2.1.1.2 _ _ rfl | exact (zfin hAs hFa hf hO2 hx hR).2.1.2 _ _ rfl) ?_
  refine zJ_aload_n dX8_goes_14 rfl ?_
  refine zJ_getr dX8_goes_15 fX8_32 (by first | rfl | assumption | exact hC.1 _ (by decide) | exact hAs.2.2.1.1.1 _ (by decide) | exact (zfin hAs hFa hf hO2 hx hR).2.1.1 _ (by decide)) rfl (by first | rfl | assumption | exact hC.2 _ _ rfl | exact hAs.2.2.1.1.2 _ _ rfl | exact (zfin hAs hFa hf hO2 hx hR).2.1.2 _ _ rfl) ?_
  refine zJ_cV1 dX8_goes_18 sX8_110 mfX5_copy (c_Town_copy Δ w 14 9 (zTn14 hC) hB.2.1.1 (by decide)) (hC.1 14 (by decide)) rfl (Nat.le_of_ble_eq_true rfl) ⟨Nat.le_of_ble_eq_true rfl, Nat.le_of_ble_eq_true rfl⟩ ⟨by show _ ≤ mc; omega, by show _ ≤ ms; omega⟩ ?_
  refine zJ_aload_n dX8_goes_21 rfl ?_
  have hAs := (zAs.copy hB)
  have hk1 : (ztowc w 14 9).1 0 = some (.inl 8) := hAs.2.2.1.1.1 0 (by decide)
  refine zJ_yV0 dX8_goes_22 sX8_178 pX8_178 mfX8_playAsked (c_playAsked Δ (ztowc w 14 9) U U hAs.2.2.1.1 hAs.2.2.1.2.2.2 hAs.2.2.2 hU hcU (zsame.rf U) (mc - 10) (ms - 60) (by omega) (fun h1 h2 => by have := hm3 h1 (by rw [← hAs.2.1]; exact h2); omega)) rfl hk1 rfl ⟨rfl, by simp [zokv, zpush], by simp [lv_args, Value.category, zokv, hk1]⟩ (Nat.le_of_ble_eq_true rfl) ⟨Nat.le_of_ble_eq_true rfl, Nat.le_of_ble_eq_true rfl⟩ ⟨by show _ ≤ mc; omega, by show _ ≤ ms; omega⟩ (fun r d hP9 => ?_) (fun E d hX => Or.inr ⟨⟨hpos, q, hq, rfl⟩, hX.sp hAs⟩)
  obtain ⟨hFa, hfit, b, R, m, K, rfl, hO, hx, hR, hl1, hl2⟩ := hP9
  refine zJ_astore_n (ls2 := fun q9 => [(2, .ref q9), (0, .ref 0), (1, .int (nI q))]) dX8_goes_25 (by decide) (fun _ => rfl) (fun q9 eq9 => ?_)
  obtain rfl := eq9.symm
  refine zJ_aload_n dX8_goes_26 rfl ?_
  refine zJ_eV0 dX8_goes_27 sX8_182 mfX1_countCases (o_countCases Δ d b R m U U K hO) hO.1.1.1 rfl (Nat.le_of_ble_eq_true rfl) ⟨Nat.le_of_ble_eq_true rfl, Nat.le_of_ble_eq_true rfl⟩ ⟨by show _ ≤ mc; omega, by show _ ≤ ms; omega⟩ (fun r e hP9 => ?_)
  obtain ⟨rfl, hf, hO2, hcc⟩ := hP9
  refine zJ_iload_n dX8_goes_30 rfl ?_
  refine zJ_if_ne (tgt := 48) dX8_goes_31 (by decide) (fun h31 => ?_) (fun h31 => ?_)
  · refine zJ_aload_n dX8_goes_48 rfl ?_
    refine zJ_cV0 dX8_goes_49 sX8_196 mfX1_lengthOfAll (c_Play_lengthOfAll Δ e b R m hO2.1.1 (zcas U K) hcc) hO2.1.1.1 rfl (Nat.le_of_ble_eq_true rfl) ⟨Nat.le_of_ble_eq_true rfl, Nat.le_of_ble_eq_true rfl⟩ ⟨by show _ ≤ mc; omega, by show _ ≤ ms; omega⟩ ?_
    have hq1 : ¬ q = 0 := fun h => h31 (by rw [h]; rfl)
    obtain ⟨g1, g2⟩ := zfin hAs hFa hf hO2 hx hR
    exact zJ_lret dX8_goes_52 rfl (by show _ ≤ mc; omega) (by show _ ≤ ms; omega) ⟨g1, g2, zlf hAs hl1 hl2 hf, hfit, hpos, q, hq, rfl, K, hO2.1.2.2.2.1, by simp [hq1]⟩
  · refine zJ_aload_n dX8_goes_34 rfl ?_
    refine zJ_aload_n dX8_goes_35 rfl ?_
    refine zJ_getr dX8_goes_36 fX8_32 (by first | rfl | assumption | exact hC.1 _ (by decide) | exact hAs.2.2.1.1.1 _ (by decide) | exact (zfin hAs hFa hf hO2 hx hR).2.1.1 _ (by decide)) rfl (by first | rfl | assumption | exact hC.2 _ _ rfl | exact hAs.2.2.1.1.2 _ _ rfl | exact (zfin hAs hFa hf hO2 hx hR).2.1.2 _ _ rfl) ?_
    refine zJ_geti dX8_goes_39 fX8_126 (by first | rfl | assumption | exact hC.1 _ (by decide) | exact hAs.2.2.1.1.1 _ (by decide) | exact (zfin hAs hFa hf hO2 hx hR).2.1.1 _ (by decide)) rfl ?_
    rw [(zfin hAs hFa hf hO2 hx hR).2.2.1.2.1 7 (by decide) (by decide)]
    refine zJ_cV1 dX8_goes_42 sX8_192 mfX1_casesAt (c_Play_casesAt Δ e b R m hO2.1.1 (zcas U K) hcc (U.1 7) (by have := hU.2.2.2.1; omega)) hO2.1.1.1 rfl (Nat.le_of_ble_eq_true rfl) ⟨Nat.le_of_ble_eq_true rfl, Nat.le_of_ble_eq_true rfl⟩ ⟨by show _ ≤ mc; omega, by show _ ≤ ms; omega⟩ ?_
    refine zJ_goto (tgt := 52) dX8_goes_45 (by decide) ?_
    have hq1 : q = 0 := (nI_eq (b := 0) (by omega) (by decide)).mp h31
    obtain ⟨g1, g2⟩ := zfin hAs hFa hf hO2 hx hR
    exact zJ_lret dX8_goes_52 rfl (by show _ ≤ mc; omega) (by show _ ≤ ms; omega) ⟨g1, g2, zlf hAs hl1 hl2 hf, hfit, hpos, q, hq, rfl, K, hO2.1.2.2.2.1, by simp [hq1]⟩
