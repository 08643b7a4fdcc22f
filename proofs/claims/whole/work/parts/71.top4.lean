/-! LetterTown: opened, gets, feeling, lastHandOfAll, all -/
theorem zTi.setg {w : zW} {t : Nat} {T : zTo} (h : zTi w t T) {k v : Nat} (hk : k < 14) (hk2 : k = 0 ∨ 5 ≤ k) : zTi (zsi w t k (nI v)) t (zTs T k v) := by
  obtain ⟨h0, h1, h2, h3, h4, h5⟩ := h
  refine ⟨h0, fun j a b => ?_, fun p a => ?_, fun p a => ?_, fun p a => ?_, fun p a => ?_⟩
  · by_cases hj : j = k
    · subst hj; simp [zsi, zTs]
    · simp [zsi, zTs, hj]; exact h1 j a b
  · rw [zsi_o (by omega)]; exact h2 p a
  · rw [zsi_o (by omega)]; exact h3 p a
  · rw [zsi_o (by omega)]; exact h4 p a
  · rw [zsi_o (by omega)]; exact h5 p a
theorem zAs.set {w c : zW} {U T : zTo} (h : zAs w c U T) {k v : Nat} (hk : k < 14) (hk2 : k = 0 ∨ 5 ≤ k) : zAs w (zsi c 14 k (nI v)) U (zTs T k v) :=
  h.tr (zAs.of h.2.2.1 rfl rfl (fun a j ha => zsi_o (by omega)) (h.2.2.2.setg hk hk2))
def zTq (T : zTo) (p s : Nat) : zTo := (T.1, fun q => if q = p then s else T.2.1 q, T.2.2.1, T.2.2.2)
def zTn1 (T : zTo) (p v : Nat) : zTo := (T.1, T.2.1, fun q => if q = p then v else T.2.2.1 q, T.2.2.2)
theorem zAs.sort {w c : zW} {U T : zTo} (h : zAs w c U T) {p s : Nat} : zAs w (zsi c 15 p (nI s)) U (zTq T p s) := by
  refine h.tr (zAs.of h.2.2.1 rfl rfl (fun a j ha => zsi_o (by omega)) ?_)
  obtain ⟨h0, h1, h2, h3, h4, h5⟩ := h.2.2.2
  refine ⟨h0, fun j a b => ?_, fun q a => ?_, fun q a => ?_, fun q a => ?_, fun q a => ?_⟩
  · rw [zsi_o (by omega)]; exact h1 j a b
  · by_cases hq : q = p
    · subst hq; simp [zsi, zTq]
    · simp [zsi, zTq, hq]; exact h2 q a
  · rw [zsi_o (by omega)]; exact h3 q a
  · rw [zsi_o (by omega)]; exact h4 q a
  · rw [zsi_o (by omega)]; exact h5 q a
theorem zAs.num {w c : zW} {U T : zTo} (h : zAs w c U T) {p v : Nat} : zAs w (zsi c 16 p (nI v)) U (zTn1 T p v) := by
  refine h.tr (zAs.of h.2.2.1 rfl rfl (fun a j ha => zsi_o (by omega)) ?_)
  obtain ⟨h0, h1, h2, h3, h4, h5⟩ := h.2.2.2
  refine ⟨h0, fun j a b => ?_, fun q a => ?_, fun q a => ?_, fun q a => ?_, fun q a => ?_⟩
  · rw [zsi_o (by omega)]; exact h1 j a b
  · rw [zsi_o (by omega)]; exact h2 q a
  · by_cases hq : q = p
    · subst hq; simp [zsi, zTn1]
    · simp [zsi, zTn1, hq]; exact h3 q a
  · rw [zsi_o (by omega)]; exact h4 q a
  · rw [zsi_o (by omega)]; exact h5 q a
theorem zsame.s {U T : zTo} (h : zsame U T) {k v : Nat} (hk : 8 ≤ k) : zsame U (zTs T k v) := by
  obtain ⟨a, b, c, d, e⟩ := h
  refine ⟨?_, ?_, ?_, ?_, e⟩ <;> simp only [zTs] <;> rw [if_neg (by omega)] <;> assumption
theorem zgr_pp {T : zTo} (hT : zTok T) (hp : 0 < T.1 0) : ∀ n, ∀ q ∈ zgr T n, q.1 < T.1 0
  | 0, q, hq => by
    have : q = zfk T := by simpa [zgr] using hq
    rw [this]; exact hT.2.2.2.2.2.2.2.2.1.2 hp
  | n + 1, q, hq => by
    simp only [zgr] at hq
    split at hq
    · exact zgr_pp hT hp n q hq
    · rename_i k hk
      have hkok := zgr_ok hT n k (List.mem_iff_getElem?.mpr ⟨n, hk⟩)
      have : ∀ y, y ≤ 8 → ∀ q ∈ zgx T k (zgr T n) y, q.1 < T.1 0 := by
        intro y
        induction y with
        | zero => intro _ q hq; exact zgr_pp hT hp n q hq
        | succ y ih =>
          intro hy q hq
          simp only [zgx] at hq
          split at hq
          · rename_i hm
            unfold zins at hq
            split at hq
            · exact ih (by omega) q hq
            · rcases List.mem_append.mp hq with h | h
              · exact ih (by omega) q h
              · rw [List.mem_singleton.mp h]
                have h9 := zmay_wt hm
                exact ((hT.2.2.2.2.2.2.2.2.2.2.2 k.1 y hkok.1 (by omega)).2 (by omega)).2
          · exact ih (by omega) q hq
      exact this 8 (Nat.le_refl 8) q hq
theorem zall_pp {T : zTo} (hT : zTok T) (hp : 0 < T.1 0) {K : List zKy} (hK : zall T K) : ∀ q ∈ K, q.1 < T.1 0 := by
  obtain ⟨n, rfl, -⟩ := hK; exact zgr_pp hT hp n
set_option maxRecDepth 100000 in
theorem c_opened (Δ : zD) (w : zW) (U : zTo) (hB : zB w U) (x y : Int32) (mc ms : Nat) (hm : zRo w (¬ zfit U 640) mc ms) : zM Δ 8 mc ms false yX8_opened mX8_opened [.ref 0, .int x, .int y] w (fun r d => zFb w d ∧ zB d U ∧ zLf w d U ∧ zfit U 20000 ∧ ∃ p h, p < U.1 0 ∧ x = nI p ∧ (1 ≤ h ∧ h ≤ U.1 7) ∧ y = nI h ∧ ∃ K, zall U K ∧ r = some (.int (lN (zcas U K (p * 12 + (h - 1)))).toInt32)) (fun E d => (E = zNS ∧ d = w ∧ ¬ ((∃ p, p < U.1 0 ∧ x = nI p) ∧ ∃ h, (1 ≤ h ∧ h ≤ U.1 7) ∧ y = nI h)) ∨ (((∃ p, p < U.1 0 ∧ x = nI p) ∧ ∃ h, (1 ≤ h ∧ h ≤ U.1 7) ∧ y = nI h) ∧ zSp w U U E d)) := by
  refine zM.of mfX8_opened (Nat.le_of_ble_eq_true rfl) ?_
  obtain ⟨⟨hm1, hm2⟩, hm3⟩ := hm
  have hC := hB.1
  have hU := hB.2.2.1.1
  have hcU := hB.2.2.1.2.1
  have h13 := hB.2.2.1.2.2
  have hp0 := hB.2.1.2.1 0 (by decide) (by decide)
  have hp8 := hU.1
  have hk0 := hC.1 0 (by decide)
  refine zJ_aload_n dX8_opened_0 rfl ?_
  refine zJ_iload_n dX8_opened_1 rfl ?_
  refine zJ_xV1 dX8_opened_2 sX8_158 pX8_158 mfX8_needPerson (c_needPerson Δ w hC x (U.1 0) hp0 hp8) rfl hk0 rfl (Nat.le_of_ble_eq_true rfl) ⟨Nat.le_of_ble_eq_true rfl, Nat.le_of_ble_eq_true rfl⟩ ⟨by show _ ≤ mc; omega, by show _ ≤ ms; omega⟩ (fun r c9 hP => ?_) (fun E c9 hX => Or.inl ⟨hX.1, hX.2.1, fun h => hX.2.2 h.1⟩)
  obtain ⟨rfl, hw9, hP⟩ := hP
  obtain rfl := hw9.symm
  obtain ⟨p, hp, rfl⟩ := hP
  have hU7 := hU.2.2.2.1
  refine zJ_iload_n dX8_opened_5 rfl ?_
  refine zJ_iconst (v := 1) dX8_opened_6 (by decide) ?_
  refine zJ_icmp_lt (tgt := 21) dX8_opened_7 (by decide) (fun h7 => ?_) (fun h7 => ?_)
  · have hno : ¬ ∃ h, (1 ≤ h ∧ h ≤ U.1 7) ∧ y = nI h := fun ⟨h, h1, h2⟩ => by
      rw [h2] at h7
      exact absurd ((nI_ltI (b := 1) (by omega) (by decide)).mp h7) (by omega)
    exact zJ_throwN (text := "no such hand") (j := 19) dX8_opened_21 dX8_opened_24 dX8_opened_25 dX8_opened_27 dX8_opened_30 rfl rfl (by decide +kernel) (Nat.le_of_ble_eq_true rfl) (Nat.le_of_ble_eq_true rfl) (by show _ ≤ mc; omega) (by show _ ≤ ms; omega) (Or.inl ⟨rfl, rfl, fun h => hno h.2⟩)
  · refine zJ_iload_n dX8_opened_10 rfl ?_
    refine zJ_aload_n dX8_opened_11 rfl ?_
    refine zJ_getr dX8_opened_12 fX8_32 (by first | rfl | assumption | exact hC.1 _ (by decide) | exact hAs.2.2.1.1.1 _ (by decide) | exact (zfin hAs hFa hf hO2 hx hR).2.1.1 _ (by decide)) rfl (by first | rfl | assumption | exact hC.2 _ _ rfl | exact hAs.2.2.1.1.2 _ _ rfl | exact (zfin hAs hFa hf hO2 hx hR).2.1.2 _ _ rfl) ?_
    refine zJ_geti dX8_opened_15 fX8_126 (by first | rfl | assumption | exact hC.1 _ (by decide) | exact hAs.2.2.1.1.1 _ (by decide) | exact (zfin hAs hFa hf hO2 hx hR).2.1.1 _ (by decide)) rfl ?_
    rw [hB.2.1.2.1 7 (by decide) (by decide)]
    refine zJ_icmp_le (tgt := 31) dX8_opened_18 (by decide) (fun h18 => ?_) (fun h18 => ?_)
    · have h1y : ¬ y < 0 := fun h => h7 (Int32.lt_trans h (by decide))
      obtain ⟨h, hh31, rfl⟩ := nI_of h1y
      have hh : 1 ≤ h ∧ h ≤ U.1 7 := ⟨(nI_leI (a := 1) (by decide) (by omega)).mp (Int32.not_lt.mp h7), (nI_leI (by omega) (by omega)).mp h18⟩
      refine zJ_aload_n dX8_opened_31 rfl ?_
      refine zJ_getr dX8_opened_32 fX8_36 (by first | rfl | assumption | exact hC.1 _ (by decide) | exact hAs.2.2.1.1.1 _ (by decide) | exact (zfin hAs hFa hf hO2 hx hR).2.1.1 _ (by decide)) rfl (by first | rfl | assumption | exact hC.2 _ _ rfl | exact hAs.2.2.1.1.2 _ _ rfl | exact (zfin hAs hFa hf hO2 hx hR).2.1.2 _ _ rfl) ?_
      refine zJ_aload_n dX8_opened_35 rfl ?_
      refine zJ_getr dX8_opened_36 fX8_32 (by first | rfl | assumption | exact hC.1 _ (by decide) | exact hAs.2.2.1.1.1 _ (by decide) | exact (zfin hAs hFa hf hO2 hx hR).2.1.1 _ (by decide)) rfl (by first | rfl | assumption | exact hC.2 _ _ rfl | exact hAs.2.2.1.1.2 _ _ rfl | exact (zfin hAs hFa hf hO2 hx hR).2.1.2 _ _ rfl) ?_
      refine zJ_cV1 dX8_opened_39 sX8_110 mfX5_copy (c_Town_copy Δ w 14 9 (zTn14 hC) hB.2.1.1 (by decide)) (hC.1 14 (by decide)) rfl (Nat.le_of_ble_eq_true rfl) ⟨Nat.le_of_ble_eq_true rfl, Nat.le_of_ble_eq_true rfl⟩ ⟨by show _ ≤ mc; omega, by show _ ≤ ms; omega⟩ ?_
      refine zJ_aload_n dX8_opened_42 rfl ?_
      have hAs := (zAs.copy hB)
      have hk1 : (ztowc w 14 9).1 0 = some (.inl 8) := hAs.2.2.1.1.1 0 (by decide)
      refine zJ_yV0 dX8_opened_43 sX8_178 pX8_178 mfX8_playAsked (c_playAsked Δ (ztowc w 14 9) U U hAs.2.2.1.1 hAs.2.2.1.2.2.2 hAs.2.2.2 hU hcU (zsame.rf U) (mc - 10) (ms - 60) (by omega) (fun h1 h2 => by have := hm3 h1 (by rw [← hAs.2.1]; exact h2); omega)) rfl hk1 rfl ⟨rfl, by simp [zokv, zpush], by simp [lv_args, Value.category, zokv, hk1]⟩ (Nat.le_of_ble_eq_true rfl) ⟨Nat.le_of_ble_eq_true rfl, Nat.le_of_ble_eq_true rfl⟩ ⟨by show _ ≤ mc; omega, by show _ ≤ ms; omega⟩ (fun r d hP9 => ?_) (fun E d hX => Or.inr ⟨⟨⟨p, hp, rfl⟩, h, hh, rfl⟩, hX.sp hAs⟩)
      obtain ⟨hFa, hfit, b, R, m, K, rfl, hO, hx, hR, hl1, hl2⟩ := hP9
      refine zJ_astore_n (ls2 := fun q9 => [(3, .ref q9), (0, .ref 0), (1, .int (nI p)), (2, .int (nI h))]) dX8_opened_46 (by decide) (fun _ => rfl) (fun q9 eq9 => ?_)
      obtain rfl := eq9.symm
      refine zJ_aload_n dX8_opened_47 rfl ?_
      refine zJ_eV0 dX8_opened_48 sX8_182 mfX1_countCases (o_countCases Δ d b R m U U K hO) hO.1.1.1 rfl (Nat.le_of_ble_eq_true rfl) ⟨Nat.le_of_ble_eq_true rfl, Nat.le_of_ble_eq_true rfl⟩ ⟨by show _ ≤ mc; omega, by show _ ≤ ms; omega⟩ (fun r e hP9 => ?_)
      obtain ⟨rfl, hf, hO2, hcc⟩ := hP9
      refine zJ_aload_n dX8_opened_51 rfl ?_
      refine zJ_iload_n dX8_opened_52 rfl ?_
      refine zJ_iload_n dX8_opened_53 rfl ?_
      refine zJ_cV2 dX8_opened_54 sX8_185 mfX1_casesOf (c_Play_casesOf Δ e b R m hO2.1.1 (zcas U K) hcc p h (by omega) (by omega)) hO2.1.1.1 rfl (Nat.le_of_ble_eq_true rfl) ⟨Nat.le_of_ble_eq_true rfl, Nat.le_of_ble_eq_true rfl⟩ ⟨by show _ ≤ mc; omega, by show _ ≤ ms; omega⟩ ?_
      refine zJ_l2i dX8_opened_57 ?_
      exact zJ_iret dX8_opened_58 rfl (by show _ ≤ mc; omega) (by show _ ≤ ms; omega) (by obtain ⟨g1, g2⟩ := zfin hAs hFa hf hO2 hx hR; exact ⟨g1, g2, zlf hAs hl1 hl2 hf, hfit, p, h, hp, rfl, hh, rfl, K, hO2.1.2.2.2.1, rfl⟩)
    · have hno : ¬ ∃ h, (1 ≤ h ∧ h ≤ U.1 7) ∧ y = nI h := fun ⟨h, h1, h2⟩ => by
        rw [h2] at h18
        exact h18 ((nI_leI (by omega) (by omega)).mpr h1.2)
      exact zJ_throwN (text := "no such hand") (j := 19) dX8_opened_21 dX8_opened_24 dX8_opened_25 dX8_opened_27 dX8_opened_30 rfl rfl (by decide +kernel) (Nat.le_of_ble_eq_true rfl) (Nat.le_of_ble_eq_true rfl) (by show _ ≤ mc; omega) (by show _ ≤ ms; omega) (Or.inl ⟨rfl, rfl, fun h => hno h.2⟩)
theorem tb255 {p : Nat} (h : p < 8) : (255 : Nat).testBit p = true := (by decide : ∀ p, p < 8 → (255 : Nat).testBit p = true) p h
set_option maxRecDepth 100000 in
theorem c_gets (Δ : zD) (w : zW) (U : zTo) (hB : zB w U) (x : Int32) (mc ms : Nat) (hm : zRo w (¬ zfit U 640) mc ms) : zM Δ 8 mc ms false yX8_gets mX8_gets [.ref 0, .int x] w (fun r d => zFb w d ∧ zB d U ∧ zLf w d U ∧ zfit U 20000 ∧ ∃ p, p < U.1 0 ∧ x = nI p ∧ r = some (.long (lZ ((zvl U (zfk U)).2.1 p)))) (fun E d => (E = zNS ∧ d = w ∧ ¬ (∃ p, p < U.1 0 ∧ x = nI p)) ∨ ((∃ p, p < U.1 0 ∧ x = nI p) ∧ zSp w U U E d)) := by
  refine zM.of mfX8_gets (Nat.le_of_ble_eq_true rfl) ?_
  obtain ⟨⟨hm1, hm2⟩, hm3⟩ := hm
  have hC := hB.1
  have hU := hB.2.2.1.1
  have hcU := hB.2.2.1.2.1
  have h13 := hB.2.2.1.2.2
  have hp0 := hB.2.1.2.1 0 (by decide) (by decide)
  have hp8 := hU.1
  have hk0 := hC.1 0 (by decide)
  refine zJ_aload_n dX8_gets_0 rfl ?_
  refine zJ_iload_n dX8_gets_1 rfl ?_
  refine zJ_xV1 dX8_gets_2 sX8_158 pX8_158 mfX8_needPerson (c_needPerson Δ w hC x (U.1 0) hp0 hp8) rfl hk0 rfl (Nat.le_of_ble_eq_true rfl) ⟨Nat.le_of_ble_eq_true rfl, Nat.le_of_ble_eq_true rfl⟩ ⟨by show _ ≤ mc; omega, by show _ ≤ ms; omega⟩ (fun r c9 hP => ?_) (fun E c9 hX => Or.inl ⟨hX.1, hX.2.1, hX.2.2⟩)
  obtain ⟨rfl, hw9, hP⟩ := hP
  obtain rfl := hw9.symm
  obtain ⟨p, hp, rfl⟩ := hP
  refine zJ_aload_n dX8_gets_5 rfl ?_
  refine zJ_getr dX8_gets_6 fX8_36 (by first | rfl | assumption | exact hC.1 _ (by decide) | exact hAs.2.2.1.1.1 _ (by decide) | exact (zfin hAs hFa hf hO2 hx hR).2.1.1 _ (by decide)) rfl (by first | rfl | assumption | exact hC.2 _ _ rfl | exact hAs.2.2.1.1.2 _ _ rfl | exact (zfin hAs hFa hf hO2 hx hR).2.1.2 _ _ rfl) ?_
  refine zJ_aload_n dX8_gets_9 rfl ?_
  refine zJ_getr dX8_gets_10 fX8_32 (by first | rfl | assumption | exact hC.1 _ (by decide) | exact hAs.2.2.1.1.1 _ (by decide) | exact (zfin hAs hFa hf hO2 hx hR).2.1.1 _ (by decide)) rfl (by first | rfl | assumption | exact hC.2 _ _ rfl | exact hAs.2.2.1.1.2 _ _ rfl | exact (zfin hAs hFa hf hO2 hx hR).2.1.2 _ _ rfl) ?_
  refine zJ_cV1 dX8_gets_13 sX8_110 mfX5_copy (c_Town_copy Δ w 14 9 (zTn14 hC) hB.2.1.1 (by decide)) (hC.1 14 (by decide)) rfl (Nat.le_of_ble_eq_true rfl) ⟨Nat.le_of_ble_eq_true rfl, Nat.le_of_ble_eq_true rfl⟩ ⟨by show _ ≤ mc; omega, by show _ ≤ ms; omega⟩ ?_
  refine zJ_aload_n dX8_gets_16 rfl ?_
  have hAs := (zAs.copy hB)
  have hk1 : (ztowc w 14 9).1 0 = some (.inl 8) := hAs.2.2.1.1.1 0 (by decide)
  refine zJ_yV0 dX8_gets_17 sX8_178 pX8_178 mfX8_playAsked (c_playAsked Δ (ztowc w 14 9) U U hAs.2.2.1.1 hAs.2.2.1.2.2.2 hAs.2.2.2 hU hcU (zsame.rf U) (mc - 10) (ms - 60) (by omega) (fun h1 h2 => by have := hm3 h1 (by rw [← hAs.2.1]; exact h2); omega)) rfl hk1 rfl ⟨rfl, by simp [zokv, zpush], by simp [lv_args, Value.category, zokv, hk1]⟩ (Nat.le_of_ble_eq_true rfl) ⟨Nat.le_of_ble_eq_true rfl, Nat.le_of_ble_eq_true rfl⟩ ⟨by show _ ≤ mc; omega, by show _ ≤ ms; omega⟩ (fun r d hP9 => ?_) (fun E d hX => Or.inr ⟨⟨p, hp, rfl⟩, hX.sp hAs⟩)
  obtain ⟨hFa, hfit, b, R, m, K, rfl, hO, hx, hR, hl1, hl2⟩ := hP9
  refine zJ_astore_n (ls2 := fun q9 => [(2, .ref q9), (0, .ref 0), (1, .int (nI p))]) dX8_gets_20 (by decide) (fun _ => rfl) (fun q9 eq9 => ?_)
  obtain rfl := eq9.symm
  refine zJ_aload_n dX8_gets_21 rfl ?_
  refine zJ_sipush (v := 255) dX8_gets_22 (by decide) ?_
  refine zJ_st (st2 := [.int (nI 255), .ref b]) rfl ?_
  refine zJ_eV1 dX8_gets_25 sX8_200 mfX1_reckon (o_reckon Δ d b R m U U K hO 255 (by decide)) hO.1.1.1 rfl (Nat.le_of_ble_eq_true rfl) ⟨Nat.le_of_ble_eq_true rfl, Nat.le_of_ble_eq_true rfl⟩ ⟨by show _ ≤ mc; omega, by show _ ≤ ms; omega⟩ (fun r e hP9 => ?_)
  obtain ⟨rfl, hf, hO2, hcs, W, hW3, hWP, hup⟩ := hP9
  have hPS := hO2.1.1
  obtain ⟨p0, q0, q1, q2, q3, q4, q5, q6, q7, q8, q9, s11, s12, s13, s14, s15, s16, s17, s18, hSw⟩ := hPS
  have hRb : 1 ≤ R := by rcases hR with ⟨-, rfl, -⟩ | ⟨-, rfl, -⟩ <;> decide
  have hRb2 : R ≤ 20000 := by rcases hR with ⟨-, rfl, -⟩ | ⟨-, rfl, -⟩ <;> decide
  have hWp := hWP p hp (tb255 (by omega))
  have hg := (hup 0 (zfk U) (Nat.le_refl _) (zall_0 hO2.1.2.2.2.1)).2.1 p (by omega) hWp
  rw [Nat.zero_mul, Nat.zero_add] at hg
  refine zJ_aload_n dX8_gets_28 rfl ?_
  refine zJ_getr dX8_gets_29 fX8_203 (by first | rfl | assumption | exact hC.1 _ (by decide) | exact hAs.2.2.1.1.1 _ (by decide) | exact (zfin hAs hFa hf hO2 hx hR).2.1.1 _ (by decide)) rfl (by first | rfl | assumption | exact hC.2 _ _ rfl | exact hAs.2.2.1.1.2 _ _ rfl | exact (zfin hAs hFa hf hO2 hx hR).2.1.2 _ _ rfl) ?_
  refine zJ_iload_n dX8_gets_32 rfl ?_
  refine zJ_lald dX8_gets_33 (by first | rfl | assumption | exact hC.1 _ (by decide) | exact hAs.2.2.1.1.1 _ (by decide) | exact (zfin hAs hFa hf hO2 hx hR).2.1.1 _ (by decide)) (vp_in_nI (by omega) (by omega)) ?_
  rw [nI_clamp (show p < 2 ^ 31 by omega), hg]
  exact zJ_lret dX8_gets_34 rfl (by show _ ≤ mc; omega) (by show _ ≤ ms; omega) (by obtain ⟨g1, g2⟩ := zfin hAs hFa hf hO2 hx hR; exact ⟨g1, g2, zlf hAs hl1 hl2 hf, hfit, p, hp, rfl, rfl⟩)
set_option maxRecDepth 100000 in
theorem c_feeling (Δ : zD) (w : zW) (U : zTo) (hB : zB w U) (x : Int32) (mc ms : Nat) (hm : zRo w (∃ q, x = nI q ∧ ¬ zfit (zTs U 11 q) 640) mc ms) : zM Δ 8 mc ms false yX8_feeling mX8_feeling [.ref 0, .int x] w (fun r d => zFb w d ∧ zB d U ∧ 0 < U.1 0 ∧ ∃ q, (1 ≤ q ∧ q ≤ 99) ∧ x = nI q ∧ zfit (zTs U 11 q) 20000 ∧ zLf w d (zTs U 11 q) ∧ ∃ K, zall (zTs U 11 q) K ∧ r = some (.long (lN (zla (zcas (zTs U 11 q) K) 12)))) (fun E d => (E = zNS ∧ d = w ∧ ¬ 0 < U.1 0) ∨ (0 < U.1 0 ∧ E = "java/lang/IllegalArgumentException" ∧ d = w ∧ ¬ ∃ q, (1 ≤ q ∧ q ≤ 99) ∧ x = nI q) ∨ (0 < U.1 0 ∧ ∃ q, (1 ≤ q ∧ q ≤ 99) ∧ x = nI q ∧ zSp w U (zTs U 11 q) E d)) := by
  refine zM.of mfX8_feeling (Nat.le_of_ble_eq_true rfl) ?_
  obtain ⟨⟨hm1, hm2⟩, hm3⟩ := hm
  have hC := hB.1
  have hU := hB.2.2.1.1
  have hcU := hB.2.2.1.2.1
  have h13 := hB.2.2.1.2.2
  have hp0 := hB.2.1.2.1 0 (by decide) (by decide)
  have hp8 := hU.1
  have hk0 := hC.1 0 (by decide)
  refine zJ_aload_n dX8_feeling_0 rfl ?_
  refine zJ_xV0 dX8_feeling_1 sX8_189 pX8_189 mfX8_needPeople (c_needPeople Δ w hC (U.1 0) hp0 hp8) rfl hk0 rfl (Nat.le_of_ble_eq_true rfl) ⟨Nat.le_of_ble_eq_true rfl, Nat.le_of_ble_eq_true rfl⟩ ⟨by show _ ≤ mc; omega, by show _ ≤ ms; omega⟩ (fun r c9 hP => ?_) (fun E c9 hX => Or.inl ⟨hX.1, hX.2.1, hX.2.2⟩)
  obtain ⟨rfl, hw9, hP⟩ := hP
  obtain rfl := hw9.symm
  have hpos := hP
  refine zJ_iload_n dX8_feeling_4 rfl ?_
  refine zJ_iconst (v := 1) dX8_feeling_5 (by decide) ?_
  refine zJ_icmp_lt (tgt := 15) dX8_feeling_6 (by decide) (fun h6 => ?_) (fun h6 => ?_)
  · have hno : ¬ ∃ q, (1 ≤ q ∧ q ≤ 99) ∧ x = nI q := fun ⟨h, h1, h2⟩ => by
      rw [h2] at h6
      exact absurd ((nI_ltI (b := 1) (by omega) (by decide)).mp h6) (by omega)
    exact zJ_throwIW (text := "no such WAX") (j := 23) dX8_feeling_15 dX8_feeling_18 dX8_feeling_19 dX8_feeling_22 dX8_feeling_25 rfl rfl (by decide +kernel) (Nat.le_of_ble_eq_true rfl) (Nat.le_of_ble_eq_true rfl) (by show _ ≤ mc; omega) (by show _ ≤ ms; omega) (Or.inr (Or.inl ⟨hpos, rfl, rfl, hno⟩))
  · refine zJ_iload_n dX8_feeling_9 rfl ?_
    refine zJ_bipush (v := 99) dX8_feeling_10 (by decide) ?_
    refine zJ_icmp_le (tgt := 26) dX8_feeling_12 (by decide) (fun h12 => ?_) (fun h12 => ?_)
    · have h1y : ¬ x < 0 := fun h => h6 (Int32.lt_trans h (by decide))
      obtain ⟨q, hq31, rfl⟩ := nI_of h1y
      have hq : 1 ≤ q ∧ q ≤ 99 := ⟨(nI_leI (a := 1) (by decide) (by omega)).mp (Int32.not_lt.mp h6), (nI_leI (b := 99) (by omega) (by decide)).mp h12⟩
      refine zJ_aload_n dX8_feeling_26 rfl ?_
      refine zJ_getr dX8_feeling_27 fX8_36 (by first | rfl | assumption | exact hC.1 _ (by decide) | exact hAs.2.2.1.1.1 _ (by decide) | exact (zfin hAs hFa hf hO2 hx hR).2.1.1 _ (by decide)) rfl (by first | rfl | assumption | exact hC.2 _ _ rfl | exact hAs.2.2.1.1.2 _ _ rfl | exact (zfin hAs hFa hf hO2 hx hR).2.1.2 _ _ rfl) ?_
      refine zJ_aload_n dX8_feeling_30 rfl ?_
      refine zJ_getr dX8_feeling_31 fX8_32 (by first | rfl | assumption | exact hC.1 _ (by decide) | exact hAs.2.2.1.1.1 _ (by decide) | exact (zfin hAs hFa hf hO2 hx hR).2.1.1 _ (by decide)) rfl (by first | rfl | assumption | exact hC.2 _ _ rfl | exact hAs.2.2.1.1.2 _ _ rfl | exact (zfin hAs hFa hf hO2 hx hR).2.1.2 _ _ rfl) ?_
      refine zJ_cV1 dX8_feeling_34 sX8_110 mfX5_copy (c_Town_copy Δ w 14 9 (zTn14 hC) hB.2.1.1 (by decide)) (hC.1 14 (by decide)) rfl (Nat.le_of_ble_eq_true rfl) ⟨Nat.le_of_ble_eq_true rfl, Nat.le_of_ble_eq_true rfl⟩ ⟨by show _ ≤ mc; omega, by show _ ≤ ms; omega⟩ ?_
      refine zJ_aload_n dX8_feeling_37 rfl ?_
      refine zJ_getr dX8_feeling_38 fX8_36 (by first | rfl | assumption | exact hC.1 _ (by decide) | exact hAs.2.2.1.1.1 _ (by decide) | exact (zfin hAs hFa hf hO2 hx hR).2.1.1 _ (by decide)) rfl (by first | rfl | assumption | exact hC.2 _ _ rfl | exact hAs.2.2.1.1.2 _ _ rfl | exact (zfin hAs hFa hf hO2 hx hR).2.1.2 _ _ rfl) ?_
      refine zJ_iload_n dX8_feeling_41 rfl ?_
      refine zJ_puti dX8_feeling_42 fX8_138 (fun q h => by cases h; rfl) (by first | rfl | assumption | exact hC.1 _ (by decide) | exact hAs.2.2.1.1.1 _ (by decide) | exact (zfin hAs hFa hf hO2 hx hR).2.1.1 _ (by decide)) rfl rfl rfl ?_
      refine zJ_aload_n dX8_feeling_45 rfl ?_
      have hAs := ((zAs.copy hB).set (k := 11) (v := q) (by decide) (by decide))
      have hk1 : (zsi (ztowc w 14 9) 14 11 (nI q)).1 0 = some (.inl 8) := hAs.2.2.1.1.1 0 (by decide)
      refine zJ_yV0 dX8_feeling_46 sX8_178 pX8_178 mfX8_playAsked (c_playAsked Δ (zsi (ztowc w 14 9) 14 11 (nI q)) U (zTs U 11 q) hAs.2.2.1.1 hAs.2.2.1.2.2.2 hAs.2.2.2 (hU.s (by omega)) (hcU.s (by decide)) ((zsame.rf U).s (by decide)) (mc - 10) (ms - 60) (by omega) (fun h1 h2 => by have := hm3 ⟨q, rfl, h1⟩ (by rw [← hAs.2.1]; exact h2); omega)) rfl hk1 rfl ⟨rfl, by simp [zokv, zpush], by simp [lv_args, Value.category, zokv, hk1]⟩ (Nat.le_of_ble_eq_true rfl) ⟨Nat.le_of_ble_eq_true rfl, Nat.le_of_ble_eq_true rfl⟩ ⟨by show _ ≤ mc; omega, by show _ ≤ ms; omega⟩ (fun r d hP9 => ?_) (fun E d hX => Or.inr (Or.inr ⟨hpos, q, hq, rfl, hX.sp hAs⟩))
      obtain ⟨hFa, hfit, b, R, m, K, rfl, hO, hx, hR, hl1, hl2⟩ := hP9
      refine zJ_astore_n (ls2 := fun q9 => [(2, .ref q9), (0, .ref 0), (1, .int (nI q))]) dX8_feeling_49 (by decide) (fun _ => rfl) (fun q9 eq9 => ?_)
      obtain rfl := eq9.symm
      refine zJ_aload_n dX8_feeling_50 rfl ?_
      refine zJ_eV0 dX8_feeling_51 sX8_182 mfX1_countCases (o_countCases Δ d b R m U (zTs U 11 q) K hO) hO.1.1.1 rfl (Nat.le_of_ble_eq_true rfl) ⟨Nat.le_of_ble_eq_true rfl, Nat.le_of_ble_eq_true rfl⟩ ⟨by show _ ≤ mc; omega, by show _ ≤ ms; omega⟩ (fun r e hP9 => ?_)
      obtain ⟨rfl, hf, hO2, hcc⟩ := hP9
      refine zJ_aload_n dX8_feeling_54 rfl ?_
      refine zJ_cV0 dX8_feeling_55 sX8_196 mfX1_lengthOfAll (c_Play_lengthOfAll Δ e b R m hO2.1.1 (zcas (zTs U 11 q) K) hcc) hO2.1.1.1 rfl (Nat.le_of_ble_eq_true rfl) ⟨Nat.le_of_ble_eq_true rfl, Nat.le_of_ble_eq_true rfl⟩ ⟨by show _ ≤ mc; omega, by show _ ≤ ms; omega⟩ ?_
      exact zJ_lret dX8_feeling_58 rfl (by show _ ≤ mc; omega) (by show _ ≤ ms; omega) (by obtain ⟨g1, g2⟩ := zfin hAs hFa hf hO2 hx hR; exact ⟨g1, g2, hpos, q, hq, rfl, hfit, zlf hAs hl1 hl2 hf, K, hO2.1.2.2.2.1, rfl⟩)
    · have hno : ¬ ∃ q, (1 ≤ q ∧ q ≤ 99) ∧ x = nI q := fun ⟨h, h1, h2⟩ => by
        rw [h2] at h12
        exact h12 ((nI_leI (b := 99) (by omega) (by decide)).mpr h1.2)
      exact zJ_throwIW (text := "no such WAX") (j := 23) dX8_feeling_15 dX8_feeling_18 dX8_feeling_19 dX8_feeling_22 dX8_feeling_25 rfl rfl (by decide +kernel) (Nat.le_of_ble_eq_true rfl) (Nat.le_of_ble_eq_true rfl) (by show _ ≤ mc; omega) (by show _ ≤ ms; omega) (Or.inr (Or.inl ⟨hpos, rfl, rfl, hno⟩))
set_option maxRecDepth 100000 in
theorem c_lastHandOfAll (Δ : zD) (w : zW) (U T : zTo) (hB : zB w U) (hi : zTi w 14 T) (hT : zTok T) (hcan : zcan T) (hs : zsame U T) (h3 : ∀ p, p < T.1 0 → T.2.1 p = 3) (hpos : 0 < T.1 0) (mc ms : Nat) (hm1 : 1 ≤ mc) (hm2 : 6 ≤ ms) (hm3 : ¬ zfit T 640 → w.2.2.2 0 8 = none → 20 ≤ mc ∧ 580000 ≤ ms) : zM Δ 7 mc ms false yX8_lastHandOfAll mX8_lastHandOfAll [.ref 0] w (fun r d => zFb w d ∧ zB d U ∧ zTi d 14 T ∧ zLf w d T ∧ zfit T 20000 ∧ r = some (.long (lN (zenc T (zlst T 11 (zfk T)))))) (zSp w U T) := by
  refine zM.of mfX8_lastHandOfAll (Nat.le_of_ble_eq_true rfl) ?_
  have hC := hB.1
  have hk0 := hC.1 0 (by decide)
  have hAs0 : zAs w w U T := ⟨zFb.rf w, rfl, hB, hi⟩
  refine zJ_aload_n dX8_lastHandOfAll_0 rfl ?_
  have hAs := hAs0
  have hk1 : w.1 0 = some (.inl 8) := hAs.2.2.1.1.1 0 (by decide)
  refine zJ_yV0 dX8_lastHandOfAll_1 sX8_178 pX8_178 mfX8_playAsked (c_playAsked Δ w U T hAs.2.2.1.1 hAs.2.2.1.2.2.2 hAs.2.2.2 hT hcan hs (mc - 0) (ms - 0) (by omega) (fun h1 h2 => by have := hm3 h1 (by rw [← hAs.2.1]; exact h2); omega)) rfl hk1 rfl ⟨rfl, by simp [zokv, zpush], by simp [lv_args, Value.category, zokv, hk1]⟩ (Nat.le_of_ble_eq_true rfl) ⟨Nat.le_of_ble_eq_true rfl, Nat.le_of_ble_eq_true rfl⟩ ⟨by show _ ≤ mc; omega, by show _ ≤ ms; omega⟩ (fun r d hP9 => ?_) (fun E d hX => hX.sp hAs)
  obtain ⟨hFa, hfit, b, R, m, K, rfl, hO, hx, hR, hl1, hl2⟩ := hP9
  refine zJ_astore_n (ls2 := fun q9 => [(1, .ref q9), (0, .ref 0)]) dX8_lastHandOfAll_4 (by decide) (fun _ => rfl) (fun q9 eq9 => ?_)
  obtain rfl := eq9.symm
  refine zJ_aload_n dX8_lastHandOfAll_5 rfl ?_
  refine zJ_iconst (v := 0) dX8_lastHandOfAll_6 (by decide) ?_
  refine zJ_st (st2 := [.int (nI 0), .ref b]) rfl ?_
  refine zJ_eV1 dX8_lastHandOfAll_7 sX8_200 mfX1_reckon (o_reckon Δ d b R m U T K hO 0 (by decide)) hO.1.1.1 rfl (Nat.le_of_ble_eq_true rfl) ⟨Nat.le_of_ble_eq_true rfl, Nat.le_of_ble_eq_true rfl⟩ ⟨by show _ ≤ mc; omega, by show _ ≤ ms; omega⟩ (fun r e hP9 => ?_)
  obtain ⟨rfl, hf, hO2, hcs, W, hW3, hWP, hup⟩ := hP9
  refine zJ_aload_n dX8_lastHandOfAll_10 rfl ?_
  refine zJ_cV0 dX8_lastHandOfAll_11 sX8_403 mfX1_lastByChoice (c_Play_lastByChoice Δ e b R m T K hO2.1 hcs (fun k hk => h3 k.1 (zall_pp hT hpos hO2.1.2.2.2.1 k hk))) hO2.1.1.1 rfl (Nat.le_of_ble_eq_true rfl) ⟨Nat.le_of_ble_eq_true rfl, Nat.le_of_ble_eq_true rfl⟩ ⟨by show _ ≤ mc; omega, by show _ ≤ ms; omega⟩ ?_
  exact zJ_lret dX8_lastHandOfAll_14 rfl (by show _ ≤ mc; omega) (by show _ ≤ ms; omega) (by obtain ⟨g1, g2⟩ := zfin hAs hFa hf hO2 hx hR; have hF9 : zFa w e := hFa.tr (hf.a hx.b); exact ⟨g1, g2, (hi.eq (hi.1.ff2 (fun a ha => (hF9.1 _ (by omega))) (fun j _ => hF9.2.2 14 j (by omega) (by omega))) (fun a j ha => (hF9.2.1 (14 + a) j (by omega)).1)), zlf hAs hl1 hl2 hf, hfit, rfl⟩)
set_option maxRecDepth 100000 in
theorem c_gainAsked (Δ : zD) (w : zW) (U T : zTo) (hB : zB w U) (hi : zTi w 14 T) (hT : zTok T) (hcan : zcan T) (hs : zsame U T) (p : Nat) (hp : p < T.1 0) (mc ms : Nat) (hm1 : 1 ≤ mc) (hm2 : 6 ≤ ms) (hm3 : ¬ zfit T 640 → w.2.2.2 0 8 = none → 20 ≤ mc ∧ 580000 ≤ ms) : zM Δ 7 mc ms false yX8_gainAsked mX8_gainAsked [.ref 0, .int (nI p)] w (fun r d => zFb w d ∧ zB d U ∧ zTi d 14 T ∧ zLf w d T ∧ zfit T 20000 ∧ r = some (.long (lZ ((zvl T (zfk T)).2.1 p)))) (zSp w U T) := by
  refine zM.of mfX8_gainAsked (Nat.le_of_ble_eq_true rfl) ?_
  have hC := hB.1
  have hk0 := hC.1 0 (by decide)
  have hAs0 : zAs w w U T := ⟨zFb.rf w, rfl, hB, hi⟩
  have hp8 := hT.1
  have hpw : 2 ^ p < 256 := Nat.pow_lt_pow_right (a := 2) (m := p) (n := 8) (by decide) (by omega)
  refine zJ_aload_n dX8_gainAsked_0 rfl ?_
  have hAs := hAs0
  have hk1 : w.1 0 = some (.inl 8) := hAs.2.2.1.1.1 0 (by decide)
  refine zJ_yV0 dX8_gainAsked_1 sX8_178 pX8_178 mfX8_playAsked (c_playAsked Δ w U T hAs.2.2.1.1 hAs.2.2.1.2.2.2 hAs.2.2.2 hT hcan hs (mc - 0) (ms - 0) (by omega) (fun h1 h2 => by have := hm3 h1 (by rw [← hAs.2.1]; exact h2); omega)) rfl hk1 rfl ⟨rfl, by simp [zokv, zpush], by simp [lv_args, Value.category, zokv, hk1]⟩ (Nat.le_of_ble_eq_true rfl) ⟨Nat.le_of_ble_eq_true rfl, Nat.le_of_ble_eq_true rfl⟩ ⟨by show _ ≤ mc; omega, by show _ ≤ ms; omega⟩ (fun r d hP9 => ?_) (fun E d hX => hX.sp hAs)
  obtain ⟨hFa, hfit, b, R, m, K, rfl, hO, hx, hR, hl1, hl2⟩ := hP9
  refine zJ_astore_n (ls2 := fun q9 => [(2, .ref q9), (0, .ref 0), (1, .int (nI p))]) dX8_gainAsked_4 (by decide) (fun _ => rfl) (fun q9 eq9 => ?_)
  obtain rfl := eq9.symm
  refine zJ_aload_n dX8_gainAsked_5 rfl ?_
  refine zJ_iconst (v := 1) dX8_gainAsked_6 (by decide) ?_
  refine zJ_iload_n dX8_gainAsked_7 rfl ?_
  refine zJ_ishl dX8_gainAsked_8 ?_
  rw [na_shl p (by omega)]
  refine zJ_eV1 dX8_gainAsked_9 sX8_200 mfX1_reckon (o_reckon Δ d b R m U T K hO (2 ^ p) hpw) hO.1.1.1 rfl (Nat.le_of_ble_eq_true rfl) ⟨Nat.le_of_ble_eq_true rfl, Nat.le_of_ble_eq_true rfl⟩ ⟨by show _ ≤ mc; omega, by show _ ≤ ms; omega⟩ (fun r e hP9 => ?_)
  obtain ⟨rfl, hf, hO2, hcs, W, hW3, hWP, hup⟩ := hP9
  have hPS := hO2.1.1
  obtain ⟨p0, q0, q1, q2, q3, q4, q5, q6, q7, q8, q9, s11, s12, s13, s14, s15, s16, s17, s18, hSw⟩ := hPS
  have hRb : 1 ≤ R := by rcases hR with ⟨-, rfl, -⟩ | ⟨-, rfl, -⟩ <;> decide
  have hRb2 : R ≤ 20000 := by rcases hR with ⟨-, rfl, -⟩ | ⟨-, rfl, -⟩ <;> decide
  have hWp := hWP p hp (Nat.testBit_two_pow_self)
  have hg := (hup 0 (zfk T) (Nat.le_refl _) (zall_0 hO2.1.2.2.2.1)).2.1 p (by omega) hWp
  rw [Nat.zero_mul, Nat.zero_add] at hg
  refine zJ_aload_n dX8_gainAsked_12 rfl ?_
  refine zJ_getr dX8_gainAsked_13 fX8_203 (by first | rfl | assumption | exact hC.1 _ (by decide) | exact hAs.2.2.1.1.1 _ (by decide) | exact (zfin hAs hFa hf hO2 hx hR).2.1.1 _ (by decide)) rfl (by first | rfl | assumption | exact hC.2 _ _ rfl | exact hAs.2.2.1.1.2 _ _ rfl | exact (zfin hAs hFa hf hO2 hx hR).2.1.2 _ _ rfl) ?_
  refine zJ_iload_n dX8_gainAsked_16 rfl ?_
  refine zJ_lald dX8_gainAsked_17 (by first | rfl | assumption | exact hC.1 _ (by decide) | exact hAs.2.2.1.1.1 _ (by decide) | exact (zfin hAs hFa hf hO2 hx hR).2.1.1 _ (by decide)) (vp_in_nI (by omega) (by omega)) ?_
  rw [nI_clamp (show p < 2 ^ 31 by omega), hg]
  exact zJ_lret dX8_gainAsked_18 rfl (by show _ ≤ mc; omega) (by show _ ≤ ms; omega) (by obtain ⟨g1, g2⟩ := zfin hAs hFa hf hO2 hx hR; have hF9 : zFa w e := hFa.tr (hf.a hx.b); exact ⟨g1, g2, (hi.eq (hi.1.ff2 (fun a ha => (hF9.1 _ (by omega))) (fun j _ => hF9.2.2 14 j (by omega) (by omega))) (fun a j ha => (hF9.2.1 (14 + a) j (by omega)).1)), zlf hAs hl1 hl2 hf, hfit, rfl⟩)
