theorem zrP_1 {tx : Nat → Nat} {n i hi v : Nat} {t q : zTkn} (h : zrP tx n i 1 hi 1 t = .inr (v, q)) : v ≠ 0 := by
  simp only [zrP] at h
  split at h
  · split at h
    · cases h
    · rename_i v2 h2
      cases h
      simp only [zrN] at h2
      split at h2
      · cases h2
      · split at h2
        · cases h2
        · cases h2; omega
  · cases h; decide
theorem zso_4 {tx : Nat → Nat} {t : zTkn} {s : Nat} (h : zso tx t = some s) : s = 0 ∨ s = 1 ∨ s = 2 ∨ s = 3 := by
  simp only [zso] at h
  split at h
  · cases h; simp
  · split at h
    · cases h; simp
    · split at h
      · cases h; simp
      · split at h
        · cases h; simp
        · cases h
/-! LetterTown$Reader: person, knows -/
set_option maxRecDepth 100000 in
theorem c_Rd_readPerson (Δ : zD) (w : zW) (tx : Nat → Nat) (n : Nat) (t : zTkn) (T : zTo) (hR : zRe w tx n) (hi : zTi w 4 T) (hT : zTok T) (ht : zRp w t) (hle : t.2.2.1 ≤ n) : zMp Δ 6 yX2_readPerson mX2_readPerson [.ref 3] w (fun r c => zLr w c n r (zcl (zlP tx n T t))) := by
  refine zMp.of mfX2_readPerson (Nat.le_of_ble_eq_true rfl) (fun QR hQ => ?_)
  have hC := hR.1
  have hp0 := hi.2.1 0 (by decide) (by decide)
  have hp8 := hT.1
  refine zJ_aload_n dX2_readPerson_0 rfl ?_
  refine zJ_getr dX2_readPerson_1 fX2_12 (by first | rfl | assumption | exact hC.1 _ (by decide)) rfl (by first | rfl | assumption | exact hC.2 _ _ rfl) ?_
  refine zJ_geti dX2_readPerson_4 fX2_126 (by first | rfl | assumption | exact hC.1 _ (by decide)) rfl ?_
  rw [hp0]
  refine zJ_bipush (v := 8) dX2_readPerson_7 (by decide) ?_
  refine zJ_icmp_lt (tgt := 18) dX2_readPerson_9 (by decide) (fun h9 => ?_) (fun h9 => ?_)
  · have hlt9 : T.1 0 < 8 := (nI_ltI (b := 8) (by omega) (by decide)).mp h9
    have hn9 : ¬ 8 ≤ T.1 0 := by omega
    refine zJ_aload_n dX2_readPerson_18 rfl ?_
    refine zJ_eV0 dX2_readPerson_19 sX2_47 mfX2_takeToken (c_Rd_takeToken Δ w tx n _ hR hle ht.1) (hC.1 _ (by decide)) rfl (Nat.le_of_ble_eq_true rfl) (by decide) (by decide) (fun r c hP => ?_)
    obtain ⟨rfl, c1, c2⟩ := hP
    have hcC := hC.fk c1.1 c1.2.1
    refine zJ_aload_n dX2_readPerson_22 rfl ?_
    refine zJ_cV0 dX2_readPerson_23 sX2_129 mfX2_sortOfWord (c_Rd_sortOfWord Δ c tx n (ztk tx n t.2.2.1) (hR.fk c1) c2.p ztk_k.1 ⟨(ztk_le (tx := tx) hle).2.1, (ztk_le (tx := tx) hle).2.2⟩) (by first | rfl | assumption | exact hcC.1 _ (by decide)) rfl (Nat.le_of_ble_eq_true rfl) (by decide) (by decide) ?_
    refine zJ_istore_n (ls2 := fun x26 => [(1, .int x26), (0, .ref 3)]) dX2_readPerson_26 (by decide) (fun _ => rfl) (fun x26 ex26 => ?_)
    have hp1 : c.2.1 4 0 = nI (T.1 0) := (c1.2.2 4 0 (by omega)).trans hp0
    cases hso : zso tx (ztk tx n t.2.2.1) with
    | none =>
      rw [hso] at ex26
      obtain rfl : x26 = -1 := ex26
      refine zJ_iload_n dX2_readPerson_27 rfl ?_
      refine zJ_if_ge (tgt := 37) dX2_readPerson_28 (by decide) (fun h9 => False.elim (by revert h9; decide)) (fun _ => ?_)
      refine zJ_aload_n dX2_readPerson_31 rfl ?_
      refine zJ_iconst (v := 1) dX2_readPerson_32 (by decide) ?_
      refine zJ_cV1 dX2_readPerson_33 sX2_119 mfX2_refuse (c_Rd_refuse Δ c hcC 1) (by first | rfl | assumption | exact hcC.1 _ (by decide)) rfl (Nat.le_of_ble_eq_true rfl) (by decide) (by decide) ?_
      exact zJ_zret dX2_readPerson_36 rfl rfl (by decide) (by decide) (hQ _ _ (zLr.er (e := (1, (ztk tx n t.2.2.1).2.1)) (by simp [zlP, hn9, hso]) (zEr.pre c1.d (zEr.of c2.2.2.1))))
    | some sv =>
      rw [hso] at ex26
      obtain rfl : x26 = nI sv := ex26
      rcases zso_4 hso with rfl | rfl | rfl | rfl
      · refine zJ_iload_n dX2_readPerson_27 rfl ?_
        refine zJ_if_ge (tgt := 37) dX2_readPerson_28 (by decide) (fun _ => ?_) (fun h9 => False.elim (by revert h9; decide))
        refine zJ_iconst (v := 0) dX2_readPerson_37 (by decide) ?_
        refine zJ_istore_n (ls2 := fun x38n0 => [(2, .int x38n0), (1, .int (nI 0)), (0, .ref 3)]) dX2_readPerson_38 (by decide) (fun _ => rfl) (fun x38n0 ex38n0 => ?_)
        obtain rfl : x38n0 = (nI 0) := ex38n0
        refine zJ_iload_n dX2_readPerson_39 rfl ?_
        refine zJ_if_eq (tgt := 48) dX2_readPerson_40 (by decide) (fun _ => ?_) (fun h9 => False.elim (by revert h9; decide))
        refine zJ_aload_n dX2_readPerson_48 rfl ?_
        refine zJ_iconst (v := 0) dX2_readPerson_49 (by decide) ?_
        refine zJ_iload_n dX2_readPerson_50 rfl ?_
        refine zJ_iconst (v := 2) dX2_readPerson_51 (by decide) ?_
        refine zJ_icmp_ne (tgt := 61) dX2_readPerson_52 (by decide) (fun _ => ?_) (fun h9 => False.elim (by revert h9; decide))
        refine zJ_sipush (v := 9999) dX2_readPerson_61 (by decide) ?_
        refine zJ_eV2 dX2_readPerson_64 sX2_122 mfX2_readNumber (c_Rd_readNumber Δ c tx n _ 0 9999 (hR.fk c1) (ztk_le (tx := tx) hle).2.2 c2.1 (by decide) (by decide)) (hcC.1 _ (by decide)) rfl (Nat.le_of_ble_eq_true rfl) (by decide) (by decide) (fun r c2 hP => ?_)
        rcases hP with ⟨v, e1, rfl, e2, e3, e4⟩ | ⟨e, e1, rfl, e2⟩
        · have heC := hcC.fk e2.1 e2.2.1
          refine zJ_if_ne (tgt := 72) dX2_readPerson_67 (by decide) (fun _ => ?_) (fun h9 => False.elim (by revert h9; decide))
          refine zJ_aload_n dX2_readPerson_72 rfl ?_
          refine zJ_geti dX2_readPerson_73 fX2_67 (by first | rfl | assumption | exact heC.1 _ (by decide)) rfl ?_
          refine zJ_istore_n (ls2 := fun x76e0 => [(2, .int x76e0), (1, .int (nI 0)), (0, .ref 3)]) dX2_readPerson_76 (by decide) (fun _ => rfl) (fun x76e0 ex76e0 => ?_)
          obtain rfl : x76e0 = (nI v) := by rw [ex76e0, e4]
          refine zJ_aload_n dX2_readPerson_77 rfl ?_
          refine zJ_eV0 dX2_readPerson_78 sX2_47 mfX2_takeToken (c_Rd_takeToken Δ c2 tx n _ ((hR.fk c1).fk e2) (ztk_le (tx := tx) ((ztk_le (tx := tx) hle).2.2)).2.2 e3.1) (heC.1 _ (by decide)) rfl (Nat.le_of_ble_eq_true rfl) (by decide) (by decide) (fun r f hP => ?_)
          obtain ⟨rfl, f1, f2⟩ := hP
          have hfC := heC.fk f1.1 f1.2.1
          have hp3 : f.2.1 4 0 = nI (T.1 0) := (f1.2.2 4 0 (by omega)).trans ((e2.2.2 4 0 (by omega)).trans hp1)
          refine zJ_iload_n dX2_readPerson_81 rfl ?_
          refine zJ_iconst (v := 3) dX2_readPerson_82 (by decide) ?_
          refine zJ_icmp_ne (tgt := 107) dX2_readPerson_83 (by decide) (fun _ => ?_) (fun h9 => False.elim (by revert h9; decide))
          refine zJ_aload_n dX2_readPerson_107 rfl ?_
          refine zJ_getr dX2_readPerson_108 fX2_12 (by first | rfl | assumption | exact hfC.1 _ (by decide)) rfl (by first | rfl | assumption | exact hfC.2 _ _ rfl) ?_
          refine zJ_getr dX2_readPerson_111 fX2_138 (by first | rfl | assumption | exact hfC.1 _ (by decide)) rfl (by first | rfl | assumption | exact hfC.2 _ _ rfl) ?_
          refine zJ_aload_n dX2_readPerson_114 rfl ?_
          refine zJ_getr dX2_readPerson_115 fX2_12 (by first | rfl | assumption | exact hfC.1 _ (by decide)) rfl (by first | rfl | assumption | exact hfC.2 _ _ rfl) ?_
          refine zJ_geti dX2_readPerson_118 fX2_126 (by first | rfl | assumption | exact hfC.1 _ (by decide)) rfl ?_
          rw [hp3]
          refine zJ_iload_n dX2_readPerson_121 rfl ?_
          refine zJ_iast dX2_readPerson_122 (by first | rfl | assumption | exact hfC.1 _ (by decide)) (vp_in_nI (by omega) (by omega)) ?_
          rw [nI_clamp (show T.1 0 < 2 ^ 31 by omega)]
          refine zJ_w (w2 := (zsi f 5 (T.1 0) (nI 0))) rfl ?_
          refine zJ_aload_n dX2_readPerson_123 rfl ?_
          refine zJ_getr dX2_readPerson_124 fX2_12 (by first | rfl | assumption | exact hfC.1 _ (by decide)) rfl (by first | rfl | assumption | exact hfC.2 _ _ rfl) ?_
          refine zJ_getr dX2_readPerson_127 fX2_141 (by first | rfl | assumption | exact hfC.1 _ (by decide)) rfl (by first | rfl | assumption | exact hfC.2 _ _ rfl) ?_
          refine zJ_aload_n dX2_readPerson_130 rfl ?_
          refine zJ_getr dX2_readPerson_131 fX2_12 (by first | rfl | assumption | exact hfC.1 _ (by decide)) rfl (by first | rfl | assumption | exact hfC.2 _ _ rfl) ?_
          refine zJ_geti dX2_readPerson_134 fX2_126 (by first | rfl | assumption | exact hfC.1 _ (by decide)) rfl ?_
          rw [show (zsi f 5 (T.1 0) (nI 0)).2.1 4 0 = nI (T.1 0) by rw [← hp3]; simp [zsi]]
          refine zJ_iload_n dX2_readPerson_137 rfl ?_
          refine zJ_iast dX2_readPerson_138 (by first | rfl | assumption | exact hfC.1 _ (by decide)) (vp_in_nI (by omega) (by omega)) ?_
          rw [nI_clamp (show T.1 0 < 2 ^ 31 by omega)]
          refine zJ_w (w2 := (zsi (zsi f 5 (T.1 0) (nI 0)) 6 (T.1 0) (nI v))) rfl ?_
          refine zJ_aload_n dX2_readPerson_139 rfl ?_
          refine zJ_getr dX2_readPerson_140 fX2_12 (by first | rfl | assumption | exact hfC.1 _ (by decide)) rfl (by first | rfl | assumption | exact hfC.2 _ _ rfl) ?_
          refine zJ_dup dX2_readPerson_143 rfl ?_
          refine zJ_geti dX2_readPerson_144 fX2_126 (by first | rfl | assumption | exact hfC.1 _ (by decide)) rfl ?_
          rw [show (zsi (zsi f 5 (T.1 0) (nI 0)) 6 (T.1 0) (nI v)).2.1 4 0 = nI (T.1 0) by rw [← hp3]; simp [zsi]]
          refine zJ_iconst (v := 1) dX2_readPerson_147 (by decide) ?_
          refine zJ_iadd dX2_readPerson_148 ?_
          rw [show nI (T.1 0) + 1 = nI (T.1 0 + 1) from nI_1 _]
          refine zJ_puti dX2_readPerson_149 fX2_126 (fun q h => by cases h; rfl) (by first | rfl | assumption | exact hfC.1 _ (by decide)) rfl rfl rfl ?_
          have hx : zlP tx n T t = .inr (zTp T 0 v, (ztk tx n (ztk tx n (ztk tx n t.2.2.1).2.2.1).2.2.1)) := by simp [zlP, hn9, hso, e1]
          refine zJ_aload_n dX2_readPerson_152 rfl ?_
          refine zJ_eV0 dX2_readPerson_153 sX2_144 mfX2_isClosed (c_Rd_isClosed Δ (zsi (zsi (zsi f 5 (T.1 0) (nI 0)) 6 (T.1 0) (nI v)) 4 0 (nI (T.1 0 + 1))) hfC (ztk tx n (ztk tx n (ztk tx n t.2.2.1).2.2.1).2.2.1) ⟨by simp [zsi, f2.p.1], by simp [zsi, f2.p.2.1], by simp [zsi, f2.p.2.2]⟩ ztk_k.1) (hfC.1 _ (by decide)) rfl (Nat.le_of_ble_eq_true rfl) (by decide) (by decide) (fun r z hP => ?_)
          rcases hP with ⟨k1, rfl, rfl⟩ | ⟨k1, rfl, k2⟩
          · exact zJ_zret dX2_readPerson_156 rfl rfl (by decide) (by decide) (hQ _ _ (zLr.ok hx ((((c1.n.tr (e2.n.tr f1.n)).tr (zFn.i (by omega))).tr (zFn.i (by omega))).tr (zFn.i (by omega))) ((hi.fk c1).fk e2 |>.fk f1).add ⟨by simp [zsi, f2.p.1], by simp [zsi, f2.p.2.1], by simp [zsi, f2.p.2.2]⟩ (ztk_le (tx := tx) ((ztk_le (tx := tx) ((ztk_le (tx := tx) hle).2.2)).2.2)).2.2 k1))
          · exact zJ_zret dX2_readPerson_156 rfl rfl (by decide) (by decide) (hQ _ _ (zLr.no hx ((((c1.n.tr (e2.n.tr f1.n)).tr (zFn.i (by omega))).tr (zFn.i (by omega))).tr (zFn.i (by omega))) k1 k2))
        · have heC := hcC.fk e2.1.1 e2.1.2.1
          refine zJ_if_ne (tgt := 72) dX2_readPerson_67 (by decide) (fun h9 => False.elim (by revert h9; decide)) (fun _ => ?_)
          refine zJ_iconst (v := 0) dX2_readPerson_70 (by decide) ?_
          exact zJ_zret dX2_readPerson_71 rfl rfl (by decide) (by decide) (hQ _ _ (zLr.er (e := e) (by simp [zlP, hn9, hso, e1]) (e2.pre c1.d)))
      · refine zJ_iload_n dX2_readPerson_27 rfl ?_
        refine zJ_if_ge (tgt := 37) dX2_readPerson_28 (by decide) (fun _ => ?_) (fun h9 => False.elim (by revert h9; decide))
        refine zJ_iconst (v := 0) dX2_readPerson_37 (by decide) ?_
        refine zJ_istore_n (ls2 := fun x38p1 => [(2, .int x38p1), (1, .int (nI 1)), (0, .ref 3)]) dX2_readPerson_38 (by decide) (fun _ => rfl) (fun x38p1 ex38p1 => ?_)
        obtain rfl : x38p1 = (nI 0) := ex38p1
        refine zJ_iload_n dX2_readPerson_39 rfl ?_
        refine zJ_if_eq (tgt := 48) dX2_readPerson_40 (by decide) (fun h9 => False.elim (by revert h9; decide)) (fun _ => ?_)
        refine zJ_iload_n dX2_readPerson_43 rfl ?_
        refine zJ_iconst (v := 2) dX2_readPerson_44 (by decide) ?_
        refine zJ_icmp_ne (tgt := 77) dX2_readPerson_45 (by decide) (fun _ => ?_) (fun h9 => False.elim (by revert h9; decide))
        refine zJ_aload_n dX2_readPerson_77 rfl ?_
        refine zJ_eV0 dX2_readPerson_78 sX2_47 mfX2_takeToken (c_Rd_takeToken Δ c tx n _ (hR.fk c1) (ztk_le (tx := tx) hle).2.2 c2.1) (hcC.1 _ (by decide)) rfl (Nat.le_of_ble_eq_true rfl) (by decide) (by decide) (fun r f hP => ?_)
        obtain ⟨rfl, f1, f2⟩ := hP
        have hfC := hcC.fk f1.1 f1.2.1
        have hp3 : f.2.1 4 0 = nI (T.1 0) := (f1.2.2 4 0 (by omega)).trans hp1
        refine zJ_iload_n dX2_readPerson_81 rfl ?_
        refine zJ_iconst (v := 3) dX2_readPerson_82 (by decide) ?_
        refine zJ_icmp_ne (tgt := 107) dX2_readPerson_83 (by decide) (fun _ => ?_) (fun h9 => False.elim (by revert h9; decide))
        refine zJ_aload_n dX2_readPerson_107 rfl ?_
        refine zJ_getr dX2_readPerson_108 fX2_12 (by first | rfl | assumption | exact hfC.1 _ (by decide)) rfl (by first | rfl | assumption | exact hfC.2 _ _ rfl) ?_
        refine zJ_getr dX2_readPerson_111 fX2_138 (by first | rfl | assumption | exact hfC.1 _ (by decide)) rfl (by first | rfl | assumption | exact hfC.2 _ _ rfl) ?_
        refine zJ_aload_n dX2_readPerson_114 rfl ?_
        refine zJ_getr dX2_readPerson_115 fX2_12 (by first | rfl | assumption | exact hfC.1 _ (by decide)) rfl (by first | rfl | assumption | exact hfC.2 _ _ rfl) ?_
        refine zJ_geti dX2_readPerson_118 fX2_126 (by first | rfl | assumption | exact hfC.1 _ (by decide)) rfl ?_
        rw [hp3]
        refine zJ_iload_n dX2_readPerson_121 rfl ?_
        refine zJ_iast dX2_readPerson_122 (by first | rfl | assumption | exact hfC.1 _ (by decide)) (vp_in_nI (by omega) (by omega)) ?_
        rw [nI_clamp (show T.1 0 < 2 ^ 31 by omega)]
        refine zJ_w (w2 := (zsi f 5 (T.1 0) (nI 1))) rfl ?_
        refine zJ_aload_n dX2_readPerson_123 rfl ?_
        refine zJ_getr dX2_readPerson_124 fX2_12 (by first | rfl | assumption | exact hfC.1 _ (by decide)) rfl (by first | rfl | assumption | exact hfC.2 _ _ rfl) ?_
        refine zJ_getr dX2_readPerson_127 fX2_141 (by first | rfl | assumption | exact hfC.1 _ (by decide)) rfl (by first | rfl | assumption | exact hfC.2 _ _ rfl) ?_
        refine zJ_aload_n dX2_readPerson_130 rfl ?_
        refine zJ_getr dX2_readPerson_131 fX2_12 (by first | rfl | assumption | exact hfC.1 _ (by decide)) rfl (by first | rfl | assumption | exact hfC.2 _ _ rfl) ?_
        refine zJ_geti dX2_readPerson_134 fX2_126 (by first | rfl | assumption | exact hfC.1 _ (by decide)) rfl ?_
        rw [show (zsi f 5 (T.1 0) (nI 1)).2.1 4 0 = nI (T.1 0) by rw [← hp3]; simp [zsi]]
        refine zJ_iload_n dX2_readPerson_137 rfl ?_
        refine zJ_iast dX2_readPerson_138 (by first | rfl | assumption | exact hfC.1 _ (by decide)) (vp_in_nI (by omega) (by omega)) ?_
        rw [nI_clamp (show T.1 0 < 2 ^ 31 by omega)]
        refine zJ_w (w2 := (zsi (zsi f 5 (T.1 0) (nI 1)) 6 (T.1 0) (nI 0))) rfl ?_
        refine zJ_aload_n dX2_readPerson_139 rfl ?_
        refine zJ_getr dX2_readPerson_140 fX2_12 (by first | rfl | assumption | exact hfC.1 _ (by decide)) rfl (by first | rfl | assumption | exact hfC.2 _ _ rfl) ?_
        refine zJ_dup dX2_readPerson_143 rfl ?_
        refine zJ_geti dX2_readPerson_144 fX2_126 (by first | rfl | assumption | exact hfC.1 _ (by decide)) rfl ?_
        rw [show (zsi (zsi f 5 (T.1 0) (nI 1)) 6 (T.1 0) (nI 0)).2.1 4 0 = nI (T.1 0) by rw [← hp3]; simp [zsi]]
        refine zJ_iconst (v := 1) dX2_readPerson_147 (by decide) ?_
        refine zJ_iadd dX2_readPerson_148 ?_
        rw [show nI (T.1 0) + 1 = nI (T.1 0 + 1) from nI_1 _]
        refine zJ_puti dX2_readPerson_149 fX2_126 (fun q h => by cases h; rfl) (by first | rfl | assumption | exact hfC.1 _ (by decide)) rfl rfl rfl ?_
        have hx : zlP tx n T t = .inr (zTp T 1 0, (ztk tx n (ztk tx n t.2.2.1).2.2.1)) := by simp [zlP, hn9, hso]
        refine zJ_aload_n dX2_readPerson_152 rfl ?_
        refine zJ_eV0 dX2_readPerson_153 sX2_144 mfX2_isClosed (c_Rd_isClosed Δ (zsi (zsi (zsi f 5 (T.1 0) (nI 1)) 6 (T.1 0) (nI 0)) 4 0 (nI (T.1 0 + 1))) hfC (ztk tx n (ztk tx n t.2.2.1).2.2.1) ⟨by simp [zsi, f2.p.1], by simp [zsi, f2.p.2.1], by simp [zsi, f2.p.2.2]⟩ ztk_k.1) (hfC.1 _ (by decide)) rfl (Nat.le_of_ble_eq_true rfl) (by decide) (by decide) (fun r z hP => ?_)
        rcases hP with ⟨k1, rfl, rfl⟩ | ⟨k1, rfl, k2⟩
        · exact zJ_zret dX2_readPerson_156 rfl rfl (by decide) (by decide) (hQ _ _ (zLr.ok hx ((((c1.n.tr f1.n).tr (zFn.i (by omega))).tr (zFn.i (by omega))).tr (zFn.i (by omega))) ((hi.fk c1).fk f1).add ⟨by simp [zsi, f2.p.1], by simp [zsi, f2.p.2.1], by simp [zsi, f2.p.2.2]⟩ (ztk_le (tx := tx) ((ztk_le (tx := tx) hle).2.2)).2.2 k1))
        · exact zJ_zret dX2_readPerson_156 rfl rfl (by decide) (by decide) (hQ _ _ (zLr.no hx ((((c1.n.tr f1.n).tr (zFn.i (by omega))).tr (zFn.i (by omega))).tr (zFn.i (by omega))) k1 k2))
      · refine zJ_iload_n dX2_readPerson_27 rfl ?_
        refine zJ_if_ge (tgt := 37) dX2_readPerson_28 (by decide) (fun _ => ?_) (fun h9 => False.elim (by revert h9; decide))
        refine zJ_iconst (v := 0) dX2_readPerson_37 (by decide) ?_
        refine zJ_istore_n (ls2 := fun x38n2 => [(2, .int x38n2), (1, .int (nI 2)), (0, .ref 3)]) dX2_readPerson_38 (by decide) (fun _ => rfl) (fun x38n2 ex38n2 => ?_)
        obtain rfl : x38n2 = (nI 0) := ex38n2
        refine zJ_iload_n dX2_readPerson_39 rfl ?_
        refine zJ_if_eq (tgt := 48) dX2_readPerson_40 (by decide) (fun h9 => False.elim (by revert h9; decide)) (fun _ => ?_)
        refine zJ_iload_n dX2_readPerson_43 rfl ?_
        refine zJ_iconst (v := 2) dX2_readPerson_44 (by decide) ?_
        refine zJ_icmp_ne (tgt := 77) dX2_readPerson_45 (by decide) (fun h9 => False.elim (by revert h9; decide)) (fun _ => ?_)
        refine zJ_aload_n dX2_readPerson_48 rfl ?_
        refine zJ_iconst (v := 0) dX2_readPerson_49 (by decide) ?_
        refine zJ_iload_n dX2_readPerson_50 rfl ?_
        refine zJ_iconst (v := 2) dX2_readPerson_51 (by decide) ?_
        refine zJ_icmp_ne (tgt := 61) dX2_readPerson_52 (by decide) (fun h9 => False.elim (by revert h9; decide)) (fun _ => ?_)
        refine zJ_sipush (v := 1000) dX2_readPerson_55 (by decide) ?_
        refine zJ_goto (tgt := 64) dX2_readPerson_58 (by decide) ?_
        refine zJ_eV2 dX2_readPerson_64 sX2_122 mfX2_readNumber (c_Rd_readNumber Δ c tx n _ 0 1000 (hR.fk c1) (ztk_le (tx := tx) hle).2.2 c2.1 (by decide) (by decide)) (hcC.1 _ (by decide)) rfl (Nat.le_of_ble_eq_true rfl) (by decide) (by decide) (fun r c2 hP => ?_)
        rcases hP with ⟨v, e1, rfl, e2, e3, e4⟩ | ⟨e, e1, rfl, e2⟩
        · have heC := hcC.fk e2.1 e2.2.1
          refine zJ_if_ne (tgt := 72) dX2_readPerson_67 (by decide) (fun _ => ?_) (fun h9 => False.elim (by revert h9; decide))
          refine zJ_aload_n dX2_readPerson_72 rfl ?_
          refine zJ_geti dX2_readPerson_73 fX2_67 (by first | rfl | assumption | exact heC.1 _ (by decide)) rfl ?_
          refine zJ_istore_n (ls2 := fun x76e2 => [(2, .int x76e2), (1, .int (nI 2)), (0, .ref 3)]) dX2_readPerson_76 (by decide) (fun _ => rfl) (fun x76e2 ex76e2 => ?_)
          obtain rfl : x76e2 = (nI v) := by rw [ex76e2, e4]
          refine zJ_aload_n dX2_readPerson_77 rfl ?_
          refine zJ_eV0 dX2_readPerson_78 sX2_47 mfX2_takeToken (c_Rd_takeToken Δ c2 tx n _ ((hR.fk c1).fk e2) (ztk_le (tx := tx) ((ztk_le (tx := tx) hle).2.2)).2.2 e3.1) (heC.1 _ (by decide)) rfl (Nat.le_of_ble_eq_true rfl) (by decide) (by decide) (fun r f hP => ?_)
          obtain ⟨rfl, f1, f2⟩ := hP
          have hfC := heC.fk f1.1 f1.2.1
          have hp3 : f.2.1 4 0 = nI (T.1 0) := (f1.2.2 4 0 (by omega)).trans ((e2.2.2 4 0 (by omega)).trans hp1)
          refine zJ_iload_n dX2_readPerson_81 rfl ?_
          refine zJ_iconst (v := 3) dX2_readPerson_82 (by decide) ?_
          refine zJ_icmp_ne (tgt := 107) dX2_readPerson_83 (by decide) (fun _ => ?_) (fun h9 => False.elim (by revert h9; decide))
          refine zJ_aload_n dX2_readPerson_107 rfl ?_
          refine zJ_getr dX2_readPerson_108 fX2_12 (by first | rfl | assumption | exact hfC.1 _ (by decide)) rfl (by first | rfl | assumption | exact hfC.2 _ _ rfl) ?_
          refine zJ_getr dX2_readPerson_111 fX2_138 (by first | rfl | assumption | exact hfC.1 _ (by decide)) rfl (by first | rfl | assumption | exact hfC.2 _ _ rfl) ?_
          refine zJ_aload_n dX2_readPerson_114 rfl ?_
          refine zJ_getr dX2_readPerson_115 fX2_12 (by first | rfl | assumption | exact hfC.1 _ (by decide)) rfl (by first | rfl | assumption | exact hfC.2 _ _ rfl) ?_
          refine zJ_geti dX2_readPerson_118 fX2_126 (by first | rfl | assumption | exact hfC.1 _ (by decide)) rfl ?_
          rw [hp3]
          refine zJ_iload_n dX2_readPerson_121 rfl ?_
          refine zJ_iast dX2_readPerson_122 (by first | rfl | assumption | exact hfC.1 _ (by decide)) (vp_in_nI (by omega) (by omega)) ?_
          rw [nI_clamp (show T.1 0 < 2 ^ 31 by omega)]
          refine zJ_w (w2 := (zsi f 5 (T.1 0) (nI 2))) rfl ?_
          refine zJ_aload_n dX2_readPerson_123 rfl ?_
          refine zJ_getr dX2_readPerson_124 fX2_12 (by first | rfl | assumption | exact hfC.1 _ (by decide)) rfl (by first | rfl | assumption | exact hfC.2 _ _ rfl) ?_
          refine zJ_getr dX2_readPerson_127 fX2_141 (by first | rfl | assumption | exact hfC.1 _ (by decide)) rfl (by first | rfl | assumption | exact hfC.2 _ _ rfl) ?_
          refine zJ_aload_n dX2_readPerson_130 rfl ?_
          refine zJ_getr dX2_readPerson_131 fX2_12 (by first | rfl | assumption | exact hfC.1 _ (by decide)) rfl (by first | rfl | assumption | exact hfC.2 _ _ rfl) ?_
          refine zJ_geti dX2_readPerson_134 fX2_126 (by first | rfl | assumption | exact hfC.1 _ (by decide)) rfl ?_
          rw [show (zsi f 5 (T.1 0) (nI 2)).2.1 4 0 = nI (T.1 0) by rw [← hp3]; simp [zsi]]
          refine zJ_iload_n dX2_readPerson_137 rfl ?_
          refine zJ_iast dX2_readPerson_138 (by first | rfl | assumption | exact hfC.1 _ (by decide)) (vp_in_nI (by omega) (by omega)) ?_
          rw [nI_clamp (show T.1 0 < 2 ^ 31 by omega)]
          refine zJ_w (w2 := (zsi (zsi f 5 (T.1 0) (nI 2)) 6 (T.1 0) (nI v))) rfl ?_
          refine zJ_aload_n dX2_readPerson_139 rfl ?_
          refine zJ_getr dX2_readPerson_140 fX2_12 (by first | rfl | assumption | exact hfC.1 _ (by decide)) rfl (by first | rfl | assumption | exact hfC.2 _ _ rfl) ?_
          refine zJ_dup dX2_readPerson_143 rfl ?_
          refine zJ_geti dX2_readPerson_144 fX2_126 (by first | rfl | assumption | exact hfC.1 _ (by decide)) rfl ?_
          rw [show (zsi (zsi f 5 (T.1 0) (nI 2)) 6 (T.1 0) (nI v)).2.1 4 0 = nI (T.1 0) by rw [← hp3]; simp [zsi]]
          refine zJ_iconst (v := 1) dX2_readPerson_147 (by decide) ?_
          refine zJ_iadd dX2_readPerson_148 ?_
          rw [show nI (T.1 0) + 1 = nI (T.1 0 + 1) from nI_1 _]
          refine zJ_puti dX2_readPerson_149 fX2_126 (fun q h => by cases h; rfl) (by first | rfl | assumption | exact hfC.1 _ (by decide)) rfl rfl rfl ?_
          have hx : zlP tx n T t = .inr (zTp T 2 v, (ztk tx n (ztk tx n (ztk tx n t.2.2.1).2.2.1).2.2.1)) := by simp [zlP, hn9, hso, e1]
          refine zJ_aload_n dX2_readPerson_152 rfl ?_
          refine zJ_eV0 dX2_readPerson_153 sX2_144 mfX2_isClosed (c_Rd_isClosed Δ (zsi (zsi (zsi f 5 (T.1 0) (nI 2)) 6 (T.1 0) (nI v)) 4 0 (nI (T.1 0 + 1))) hfC (ztk tx n (ztk tx n (ztk tx n t.2.2.1).2.2.1).2.2.1) ⟨by simp [zsi, f2.p.1], by simp [zsi, f2.p.2.1], by simp [zsi, f2.p.2.2]⟩ ztk_k.1) (hfC.1 _ (by decide)) rfl (Nat.le_of_ble_eq_true rfl) (by decide) (by decide) (fun r z hP => ?_)
          rcases hP with ⟨k1, rfl, rfl⟩ | ⟨k1, rfl, k2⟩
          · exact zJ_zret dX2_readPerson_156 rfl rfl (by decide) (by decide) (hQ _ _ (zLr.ok hx ((((c1.n.tr (e2.n.tr f1.n)).tr (zFn.i (by omega))).tr (zFn.i (by omega))).tr (zFn.i (by omega))) ((hi.fk c1).fk e2 |>.fk f1).add ⟨by simp [zsi, f2.p.1], by simp [zsi, f2.p.2.1], by simp [zsi, f2.p.2.2]⟩ (ztk_le (tx := tx) ((ztk_le (tx := tx) ((ztk_le (tx := tx) hle).2.2)).2.2)).2.2 k1))
          · exact zJ_zret dX2_readPerson_156 rfl rfl (by decide) (by decide) (hQ _ _ (zLr.no hx ((((c1.n.tr (e2.n.tr f1.n)).tr (zFn.i (by omega))).tr (zFn.i (by omega))).tr (zFn.i (by omega))) k1 k2))
        · have heC := hcC.fk e2.1.1 e2.1.2.1
          refine zJ_if_ne (tgt := 72) dX2_readPerson_67 (by decide) (fun h9 => False.elim (by revert h9; decide)) (fun _ => ?_)
          refine zJ_iconst (v := 0) dX2_readPerson_70 (by decide) ?_
          exact zJ_zret dX2_readPerson_71 rfl rfl (by decide) (by decide) (hQ _ _ (zLr.er (e := e) (by simp [zlP, hn9, hso, e1]) (e2.pre c1.d)))
      · refine zJ_iload_n dX2_readPerson_27 rfl ?_
        refine zJ_if_ge (tgt := 37) dX2_readPerson_28 (by decide) (fun _ => ?_) (fun h9 => False.elim (by revert h9; decide))
        refine zJ_iconst (v := 0) dX2_readPerson_37 (by decide) ?_
        refine zJ_istore_n (ls2 := fun x38q1 => [(2, .int x38q1), (1, .int (nI 3)), (0, .ref 3)]) dX2_readPerson_38 (by decide) (fun _ => rfl) (fun x38q1 ex38q1 => ?_)
        obtain rfl : x38q1 = (nI 0) := ex38q1
        refine zJ_iload_n dX2_readPerson_39 rfl ?_
        refine zJ_if_eq (tgt := 48) dX2_readPerson_40 (by decide) (fun h9 => False.elim (by revert h9; decide)) (fun _ => ?_)
        refine zJ_iload_n dX2_readPerson_43 rfl ?_
        refine zJ_iconst (v := 2) dX2_readPerson_44 (by decide) ?_
        refine zJ_icmp_ne (tgt := 77) dX2_readPerson_45 (by decide) (fun _ => ?_) (fun h9 => False.elim (by revert h9; decide))
        refine zJ_aload_n dX2_readPerson_77 rfl ?_
        refine zJ_eV0 dX2_readPerson_78 sX2_47 mfX2_takeToken (c_Rd_takeToken Δ c tx n _ (hR.fk c1) (ztk_le (tx := tx) hle).2.2 c2.1) (hcC.1 _ (by decide)) rfl (Nat.le_of_ble_eq_true rfl) (by decide) (by decide) (fun r f hP => ?_)
        obtain ⟨rfl, f1, f2⟩ := hP
        have hfC := hcC.fk f1.1 f1.2.1
        refine zJ_iload_n dX2_readPerson_81 rfl ?_
        refine zJ_iconst (v := 3) dX2_readPerson_82 (by decide) ?_
        refine zJ_icmp_ne (tgt := 107) dX2_readPerson_83 (by decide) (fun h9 => False.elim (by revert h9; decide)) (fun _ => ?_)
        refine zJ_aload_n dX2_readPerson_86 rfl ?_
        refine zJ_ldcS (j := 6) (tx := "name") dX2_readPerson_87 (by decide +kernel) ?_
        refine zJ_iconst (v := 0) dX2_readPerson_89 (by decide) ?_
        refine zJ_sipush (v := 9999) dX2_readPerson_90 (by decide) ?_
        refine zJ_iconst (v := 0) dX2_readPerson_93 (by decide) ?_
        refine zJ_eV4 dX2_readPerson_94 sX2_134 mfX2_readPerhaps (c_Rd_readPerhaps Δ f tx n 6 0 9999 0 (ztk tx n (ztk tx n t.2.2.1).2.2.1) ((hR.fk c1).fk f1) (by decide) f2.p ztk_k.1 ⟨(ztk_le (tx := tx) ((ztk_le (tx := tx) hle).2.2)).2.1, (ztk_le (tx := tx) ((ztk_le (tx := tx) hle).2.2)).2.2⟩ (by decide) (by decide)) (hfC.1 _ (by decide)) rfl (Nat.le_of_ble_eq_true rfl) (by decide) (by decide) (fun r g hP => ?_)
        rcases hP with ⟨v, q, g1, rfl, g2, g3, g4⟩ | ⟨e, g1, rfl, g2⟩
        · have hgC := hfC.fk g2.1 g2.2.1
          refine zJ_if_ne (tgt := 102) dX2_readPerson_97 (by decide) (fun _ => ?_) (fun h9 => False.elim (by revert h9; decide))
          refine zJ_aload_n dX2_readPerson_102 rfl ?_
          refine zJ_geti dX2_readPerson_103 fX2_67 (by first | rfl | assumption | exact hgC.1 _ (by decide)) rfl ?_
          refine zJ_istore_n (ls2 := fun x106k1 => [(2, .int x106k1), (1, .int (nI 3)), (0, .ref 3)]) dX2_readPerson_106 (by decide) (fun _ => rfl) (fun x106k1 ex106k1 => ?_)
          obtain rfl : x106k1 = (nI v) := by rw [ex106k1, g4]
          have hp3 : g.2.1 4 0 = nI (T.1 0) := (g2.2.2 4 0 (by omega)).trans ((f1.2.2 4 0 (by omega)).trans hp1)
          have hq5 := zrP_ok ((ztk_le (tx := tx) hle).2.2) g1
          refine zJ_aload_n dX2_readPerson_107 rfl ?_
          refine zJ_getr dX2_readPerson_108 fX2_12 (by first | rfl | assumption | exact hgC.1 _ (by decide)) rfl (by first | rfl | assumption | exact hgC.2 _ _ rfl) ?_
          refine zJ_getr dX2_readPerson_111 fX2_138 (by first | rfl | assumption | exact hgC.1 _ (by decide)) rfl (by first | rfl | assumption | exact hgC.2 _ _ rfl) ?_
          refine zJ_aload_n dX2_readPerson_114 rfl ?_
          refine zJ_getr dX2_readPerson_115 fX2_12 (by first | rfl | assumption | exact hgC.1 _ (by decide)) rfl (by first | rfl | assumption | exact hgC.2 _ _ rfl) ?_
          refine zJ_geti dX2_readPerson_118 fX2_126 (by first | rfl | assumption | exact hgC.1 _ (by decide)) rfl ?_
          rw [hp3]
          refine zJ_iload_n dX2_readPerson_121 rfl ?_
          refine zJ_iast dX2_readPerson_122 (by first | rfl | assumption | exact hgC.1 _ (by decide)) (vp_in_nI (by omega) (by omega)) ?_
          rw [nI_clamp (show T.1 0 < 2 ^ 31 by omega)]
          refine zJ_w (w2 := (zsi g 5 (T.1 0) (nI 3))) rfl ?_
          refine zJ_aload_n dX2_readPerson_123 rfl ?_
          refine zJ_getr dX2_readPerson_124 fX2_12 (by first | rfl | assumption | exact hgC.1 _ (by decide)) rfl (by first | rfl | assumption | exact hgC.2 _ _ rfl) ?_
          refine zJ_getr dX2_readPerson_127 fX2_141 (by first | rfl | assumption | exact hgC.1 _ (by decide)) rfl (by first | rfl | assumption | exact hgC.2 _ _ rfl) ?_
          refine zJ_aload_n dX2_readPerson_130 rfl ?_
          refine zJ_getr dX2_readPerson_131 fX2_12 (by first | rfl | assumption | exact hgC.1 _ (by decide)) rfl (by first | rfl | assumption | exact hgC.2 _ _ rfl) ?_
          refine zJ_geti dX2_readPerson_134 fX2_126 (by first | rfl | assumption | exact hgC.1 _ (by decide)) rfl ?_
          rw [show (zsi g 5 (T.1 0) (nI 3)).2.1 4 0 = nI (T.1 0) by rw [← hp3]; simp [zsi]]
          refine zJ_iload_n dX2_readPerson_137 rfl ?_
          refine zJ_iast dX2_readPerson_138 (by first | rfl | assumption | exact hgC.1 _ (by decide)) (vp_in_nI (by omega) (by omega)) ?_
          rw [nI_clamp (show T.1 0 < 2 ^ 31 by omega)]
          refine zJ_w (w2 := (zsi (zsi g 5 (T.1 0) (nI 3)) 6 (T.1 0) (nI v))) rfl ?_
          refine zJ_aload_n dX2_readPerson_139 rfl ?_
          refine zJ_getr dX2_readPerson_140 fX2_12 (by first | rfl | assumption | exact hgC.1 _ (by decide)) rfl (by first | rfl | assumption | exact hgC.2 _ _ rfl) ?_
          refine zJ_dup dX2_readPerson_143 rfl ?_
          refine zJ_geti dX2_readPerson_144 fX2_126 (by first | rfl | assumption | exact hgC.1 _ (by decide)) rfl ?_
          rw [show (zsi (zsi g 5 (T.1 0) (nI 3)) 6 (T.1 0) (nI v)).2.1 4 0 = nI (T.1 0) by rw [← hp3]; simp [zsi]]
          refine zJ_iconst (v := 1) dX2_readPerson_147 (by decide) ?_
          refine zJ_iadd dX2_readPerson_148 ?_
          rw [show nI (T.1 0) + 1 = nI (T.1 0 + 1) from nI_1 _]
          refine zJ_puti dX2_readPerson_149 fX2_126 (fun q h => by cases h; rfl) (by first | rfl | assumption | exact hgC.1 _ (by decide)) rfl rfl rfl ?_
          have hx : zlP tx n T t = .inr (zTp T 3 v, q) := by simp [zlP, hn9, hso, g1]
          refine zJ_aload_n dX2_readPerson_152 rfl ?_
          refine zJ_eV0 dX2_readPerson_153 sX2_144 mfX2_isClosed (c_Rd_isClosed Δ (zsi (zsi (zsi g 5 (T.1 0) (nI 3)) 6 (T.1 0) (nI v)) 4 0 (nI (T.1 0 + 1))) hgC q ⟨by simp [zsi, g3.1], by simp [zsi, g3.2.1], by simp [zsi, g3.2.2]⟩ hq5.1) (hgC.1 _ (by decide)) rfl (Nat.le_of_ble_eq_true rfl) (by decide) (by decide) (fun r z hP => ?_)
          rcases hP with ⟨k1, rfl, rfl⟩ | ⟨k1, rfl, k2⟩
          · exact zJ_zret dX2_readPerson_156 rfl rfl (by decide) (by decide) (hQ _ _ (zLr.ok hx ((((c1.n.tr (f1.n.tr g2.n)).tr (zFn.i (by omega))).tr (zFn.i (by omega))).tr (zFn.i (by omega))) ((hi.fk c1).fk f1 |>.fk g2).add ⟨by simp [zsi, g3.1], by simp [zsi, g3.2.1], by simp [zsi, g3.2.2]⟩ hq5.2.2 k1))
          · exact zJ_zret dX2_readPerson_156 rfl rfl (by decide) (by decide) (hQ _ _ (zLr.no hx ((((c1.n.tr (f1.n.tr g2.n)).tr (zFn.i (by omega))).tr (zFn.i (by omega))).tr (zFn.i (by omega))) k1 k2))
        · have hgC := hfC.fk g2.1.1 g2.1.2.1
          refine zJ_if_ne (tgt := 102) dX2_readPerson_97 (by decide) (fun h9 => False.elim (by revert h9; decide)) (fun _ => ?_)
          refine zJ_iconst (v := 0) dX2_readPerson_100 (by decide) ?_
          exact zJ_zret dX2_readPerson_101 rfl rfl (by decide) (by decide) (hQ _ _ (zLr.er (e := e) (by simp [zlP, hn9, hso, g1]) (g2.pre (c1.d.tr f1.d))))
  · have hge9 : 8 ≤ T.1 0 := (nI_leI (a := 8) (by decide) (by omega)).mp (Int32.not_lt.mp h9)
    refine zJ_aload_n dX2_readPerson_12 rfl ?_
    refine zJ_iconst (v := 2) dX2_readPerson_13 (by decide) ?_
    refine zJ_cV1 dX2_readPerson_14 sX2_119 mfX2_refuse (c_Rd_refuse Δ w hC 2) (by first | rfl | assumption | exact hC.1 _ (by decide)) rfl (Nat.le_of_ble_eq_true rfl) (by decide) (by decide) ?_
    exact zJ_zret dX2_readPerson_17 rfl rfl (by decide) (by decide) (hQ _ _ (zLr.er (e := (2, t.2.1)) (by simp [zlP, hge9]) (zEr.of ht.2.2)))
set_option maxRecDepth 100000 in
theorem c_Rd_readKnows (Δ : zD) (w : zW) (tx : Nat → Nat) (n : Nat) (t : zTkn) (T : zTo) (hR : zRe w tx n) (hi : zTi w 4 T) (hT : zTok T) (ht : zRp w t) (hle : t.2.2.1 ≤ n) : zMp Δ 6 yX2_readKnows mX2_readKnows [.ref 3] w (fun r c => zLr w c n r (zcl (zlK tx n T t))) := by
  refine zMp.of mfX2_readKnows (Nat.le_of_ble_eq_true rfl) (fun QR hQ => ?_)
  have hC := hR.1
  have hp0 := hi.2.1 0 (by decide) (by decide)
  have hp8 := hT.1
  refine zJ_aload_n dX2_readKnows_0 rfl ?_
  refine zJ_eV0 dX2_readKnows_1 sX2_155 mfX2_readKnown (c_Rd_readKnown Δ w tx n _ (T.1 0) hR hle ht.1 hp0 hp8) (hC.1 _ (by decide)) rfl (Nat.le_of_ble_eq_true rfl) (by decide) (by decide) (fun r ca hP => ?_)
  rcases hP with ⟨a, a1, hap, rfl, a2, a3, a4⟩ | ⟨e, a1, rfl, a2⟩
  · have haC := hC.fk a2.1 a2.2.1
    refine zJ_if_ne (tgt := 9) dX2_readKnows_4 (by decide) (fun _ => ?_) (fun h9 => False.elim (by revert h9; decide))
    refine zJ_aload_n dX2_readKnows_9 rfl ?_
    refine zJ_geti dX2_readKnows_10 fX2_67 (by first | rfl | assumption | exact haC.1 _ (by decide)) rfl ?_
    refine zJ_istore_n (ls2 := fun x13a => [(1, .int x13a), (0, .ref 3)]) dX2_readKnows_13 (by decide) (fun _ => rfl) (fun x13a ex13a => ?_)
    obtain rfl : x13a = (nI a) := by rw [ex13a, a4]
    refine zJ_aload_n dX2_readKnows_14 rfl ?_
    refine zJ_eV0 dX2_readKnows_15 sX2_155 mfX2_readKnown (c_Rd_readKnown Δ ca tx n _ (T.1 0) (hR.fk a2) (ztk_le (tx := tx) hle).2.2 a3.1 ((a2.2.2 4 0 (by omega)).trans hp0) hp8) (haC.1 _ (by decide)) rfl (Nat.le_of_ble_eq_true rfl) (by decide) (by decide) (fun r cb hP => ?_)
    rcases hP with ⟨o, b1, hop, rfl, b2, b3, b4⟩ | ⟨e, b1, rfl, b2⟩
    · have hbC := haC.fk b2.1 b2.2.1
      refine zJ_if_ne (tgt := 23) dX2_readKnows_18 (by decide) (fun _ => ?_) (fun h9 => False.elim (by revert h9; decide))
      refine zJ_aload_n dX2_readKnows_23 rfl ?_
      refine zJ_geti dX2_readKnows_24 fX2_67 (by first | rfl | assumption | exact hbC.1 _ (by decide)) rfl ?_
      refine zJ_istore_n (ls2 := fun x27b => [(2, .int x27b), (1, .int (nI a)), (0, .ref 3)]) dX2_readKnows_27 (by decide) (fun _ => rfl) (fun x27b ex27b => ?_)
      obtain rfl : x27b = (nI o) := by rw [ex27b, b4]
      have hknb : cb.2.1 7 a = nI (zkn T a) := ((hi.fk a2).fk b2).2.2.2.2.1 a (by omega)
      have hkl : zkn T a < 256 := zbits_lt _ 8
      have hkt : (zkn T a).testBit o = decide (T.2.2.2 (a * 8 + o) ≠ 0) := by
        simp only [zkn]; rw [zbits_tb]
        have : o < 8 := by omega
        simp [this]
      refine zJ_iload_n dX2_readKnows_28 rfl ?_
      refine zJ_iload_n dX2_readKnows_29 rfl ?_
      refine zJ_icmp_eq (tgt := 49) dX2_readKnows_30 (by decide) (fun h30b => ?_) (fun h30b => ?_)
      · have hbad : a = o ∨ T.2.2.2 (a * 8 + o) ≠ 0 := Or.inl ((nI_eq (by omega) (by omega)).mp h30b)
        refine zJ_aload_n dX2_readKnows_49 rfl ?_
        refine zJ_iconst (v := 4) dX2_readKnows_50 (by decide) ?_
        refine zJ_cV1 dX2_readKnows_51 sX2_119 mfX2_refuse (c_Rd_refuse Δ cb hbC 4) (by first | rfl | assumption | exact hbC.1 _ (by decide)) rfl (Nat.le_of_ble_eq_true rfl) (by decide) (by decide) ?_
        exact zJ_zret dX2_readKnows_54 rfl rfl (by decide) (by decide) (hQ _ _ (zLr.er (e := (4, (ztk tx n (ztk tx n t.2.2.1).2.2.1).2.1)) (by simp only [zlK, a1, b1]; rw [if_pos hbad]) (zEr.pre (a2.d.tr b2.d) (zEr.of b3.2.2))))
      · have hne : ¬ a = o := fun h => h30b (by rw [h])
        refine zJ_aload_n dX2_readKnows_33 rfl ?_
        refine zJ_getr dX2_readKnows_34 fX2_12 (by first | rfl | assumption | exact hbC.1 _ (by decide)) rfl (by first | rfl | assumption | exact hbC.2 _ _ rfl) ?_
        refine zJ_getr dX2_readKnows_37 fX2_158 (by first | rfl | assumption | exact hbC.1 _ (by decide)) rfl (by first | rfl | assumption | exact hbC.2 _ _ rfl) ?_
        refine zJ_iload_n dX2_readKnows_40 rfl ?_
        refine zJ_iald dX2_readKnows_41 (by first | rfl | assumption | exact hbC.1 _ (by decide)) (vp_in_nI (by omega) (by omega)) ?_
        rw [nI_clamp (show a < 2 ^ 31 by omega), hknb]
        refine zJ_iload_n dX2_readKnows_42 rfl ?_
        refine zJ_ishr dX2_readKnows_43 ?_
        refine zJ_iconst (v := 1) dX2_readKnows_44 (by decide) ?_
        refine zJ_iand dX2_readKnows_45 ?_
        rw [nI_bit (by omega) (by omega)]
        refine zJ_if_eq (tgt := 55) dX2_readKnows_46 (by decide) (fun h46b => ?_) (fun h46b => ?_)
        · have hgood : ¬ (a = o ∨ T.2.2.2 (a * 8 + o) ≠ 0) := fun h => h.elim hne (fun h => by
            rw [decide_eq_true h] at hkt
            rw [tb_of.mp hkt] at h46b
            exact absurd h46b (by decide))
          refine zJ_aload_n dX2_readKnows_55 rfl ?_
          refine zJ_eV0 dX2_readKnows_56 sX2_47 mfX2_takeToken (c_Rd_takeToken Δ cb tx n _ ((hR.fk a2).fk b2) (ztk_le (tx := tx) ((ztk_le (tx := tx) hle).2.2)).2.2 b3.1) (hbC.1 _ (by decide)) rfl (Nat.le_of_ble_eq_true rfl) (by decide) (by decide) (fun r d hP => ?_)
          obtain ⟨rfl, d1, d2⟩ := hP
          have hdC := hbC.fk d1.1 d1.2.1
          refine zJ_aload_n dX2_readKnows_59 rfl ?_
          refine zJ_ldcS (j := 11) (tx := "weight") dX2_readKnows_60 (by decide +kernel) ?_
          refine zJ_iconst (v := 1) dX2_readKnows_62 (by decide) ?_
          refine zJ_bipush (v := 99) dX2_readKnows_63 (by decide) ?_
          refine zJ_iconst (v := 1) dX2_readKnows_65 (by decide) ?_
          refine zJ_eV4 dX2_readKnows_66 sX2_134 mfX2_readPerhaps (c_Rd_readPerhaps Δ d tx n 11 1 99 1 (ztk tx n (ztk tx n (ztk tx n t.2.2.1).2.2.1).2.2.1) ((hR.fk a2).fk b2 |>.fk d1) (by decide) d2.p ztk_k.1 ⟨(ztk_le (tx := tx) ((ztk_le (tx := tx) ((ztk_le (tx := tx) hle).2.2)).2.2)).2.1, (ztk_le (tx := tx) ((ztk_le (tx := tx) ((ztk_le (tx := tx) hle).2.2)).2.2)).2.2⟩ (by decide) (by decide)) (hdC.1 _ (by decide)) rfl (Nat.le_of_ble_eq_true rfl) (by decide) (by decide) (fun r g hP => ?_)
          rcases hP with ⟨v, q, g1, rfl, g2, g3, g4⟩ | ⟨e, g1, rfl, g2⟩
          · have hgC := hdC.fk g2.1 g2.2.1
            have hq5 := zrP_ok ((ztk_le (tx := tx) ((ztk_le (tx := tx) hle).2.2)).2.2) g1
            have hkg : g.2.1 7 a = nI (zkn T a) := ((((hi.fk a2).fk b2).fk d1).fk g2).2.2.2.2.1 a (by omega)
            have hv0 : v ≠ 0 := zrP_1 g1
            refine zJ_if_ne (tgt := 74) dX2_readKnows_69 (by decide) (fun _ => ?_) (fun h9 => False.elim (by revert h9; decide))
            refine zJ_aload_n dX2_readKnows_74 rfl ?_
            refine zJ_getr dX2_readKnows_75 fX2_12 (by first | rfl | assumption | exact hgC.1 _ (by decide)) rfl (by first | rfl | assumption | exact hgC.2 _ _ rfl) ?_
            refine zJ_getr dX2_readKnows_78 fX2_158 (by first | rfl | assumption | exact hgC.1 _ (by decide)) rfl (by first | rfl | assumption | exact hgC.2 _ _ rfl) ?_
            refine zJ_iload_n dX2_readKnows_81 rfl ?_
            refine zJ_dup2_11 dX2_readKnows_82 rfl rfl ?_
            refine zJ_iald dX2_readKnows_83 (by first | rfl | assumption | exact hgC.1 _ (by decide)) (vp_in_nI (by omega) (by omega)) ?_
            rw [nI_clamp (show a < 2 ^ 31 by omega), hkg]
            refine zJ_iconst (v := 1) dX2_readKnows_84 (by decide) ?_
            refine zJ_iload_n dX2_readKnows_85 rfl ?_
            refine zJ_ishl dX2_readKnows_86 ?_
            rw [na_shl o (by omega)]
            refine zJ_ior dX2_readKnows_87 ?_
            rw [na_or]
            refine zJ_iast dX2_readKnows_88 (by first | rfl | assumption | exact hgC.1 _ (by decide)) (vp_in_nI (by omega) (by omega)) ?_
            rw [nI_clamp (show a < 2 ^ 31 by omega)]
            refine zJ_w (w2 := (zsi g 7 a (nI (zkn T a ||| 2 ^ o)))) rfl ?_
            refine zJ_aload_n dX2_readKnows_89 rfl ?_
            refine zJ_getr dX2_readKnows_90 fX2_12 (by first | rfl | assumption | exact hgC.1 _ (by decide)) rfl (by first | rfl | assumption | exact hgC.2 _ _ rfl) ?_
            refine zJ_getr dX2_readKnows_93 fX2_162 (by first | rfl | assumption | exact hgC.1 _ (by decide)) rfl (by first | rfl | assumption | exact hgC.2 _ _ rfl) ?_
            refine zJ_iload_n dX2_readKnows_96 rfl ?_
            refine zJ_bipush (v := 8) dX2_readKnows_97 (by decide) ?_
            refine zJ_imul dX2_readKnows_99 ?_
            refine zJ_iload_n dX2_readKnows_100 rfl ?_
            refine zJ_iadd dX2_readKnows_101 ?_
            rw [show nI a * 8 = nI (a * 8) from na_mul a 8, na_add]
            refine zJ_aload_n dX2_readKnows_102 rfl ?_
            refine zJ_geti dX2_readKnows_103 fX2_67 (by first | rfl | assumption | exact hgC.1 _ (by decide)) rfl ?_
            rw [show (zsi g 7 a (nI (zkn T a ||| 2 ^ o))).2.1 3 6 = nI v by rw [← g4]; simp [zsi]]
            refine zJ_iast dX2_readKnows_106 (by first | rfl | assumption | exact hgC.1 _ (by decide)) (vp_in_nI (by omega) (by omega)) ?_
            rw [nI_clamp (show a * 8 + o < 2 ^ 31 by omega)]
            refine zJ_w (w2 := zsi (zsi g 7 a (nI (zkn T a ||| 2 ^ o))) 8 (a * 8 + o) (nI v)) rfl ?_
            have hx : zlK tx n T t = .inr (zTe T a o v, q) := by simp only [zlK, a1, b1]; rw [if_neg hgood]; simp only [g1]
            refine zJ_aload_n dX2_readKnows_107 rfl ?_
            refine zJ_eV0 dX2_readKnows_108 sX2_144 mfX2_isClosed (c_Rd_isClosed Δ (zsi (zsi g 7 a (nI (zkn T a ||| 2 ^ o))) 8 (a * 8 + o) (nI v)) hgC _ ⟨by simp [zsi, g3.1], by simp [zsi, g3.2.1], by simp [zsi, g3.2.2]⟩ hq5.1) (hgC.1 _ (by decide)) rfl (Nat.le_of_ble_eq_true rfl) (by decide) (by decide) (fun r z hP => ?_)
            rcases hP with ⟨k1, rfl, rfl⟩ | ⟨k1, rfl, k2⟩
            · exact zJ_zret dX2_readKnows_111 rfl rfl (by decide) (by decide) (hQ _ _ (zLr.ok hx (((a2.n.tr b2.n).tr (d1.n.tr g2.n)).tr ((zFn.i (by omega)).tr (zFn.i (by omega)))) (((((hi.fk a2).fk b2).fk d1).fk g2).know (by omega) (by omega) hv0) ⟨by simp [zsi, g3.1], by simp [zsi, g3.2.1], by simp [zsi, g3.2.2]⟩ hq5.2.2 k1))
            · exact zJ_zret dX2_readKnows_111 rfl rfl (by decide) (by decide) (hQ _ _ (zLr.no hx (((a2.n.tr b2.n).tr (d1.n.tr g2.n)).tr ((zFn.i (by omega)).tr (zFn.i (by omega)))) k1 k2))
          · have hgC := hdC.fk g2.1.1 g2.1.2.1
            refine zJ_if_ne (tgt := 74) dX2_readKnows_69 (by decide) (fun h9 => False.elim (by revert h9; decide)) (fun _ => ?_)
            refine zJ_iconst (v := 0) dX2_readKnows_72 (by decide) ?_
            exact zJ_zret dX2_readKnows_73 rfl rfl (by decide) (by decide) (hQ _ _ (zLr.er (e := e) (by simp only [zlK, a1, b1]; rw [if_neg hgood]; simp only [g1]) (g2.pre (a2.d.tr (b2.d.tr d1.d)))))
        · have hbad : a = o ∨ T.2.2.2 (a * 8 + o) ≠ 0 := Or.inr (by
            have h1 : zkn T a / 2 ^ o % 2 = 1 := by
              have : ¬ zkn T a / 2 ^ o % 2 = 0 := fun h => h46b (by rw [h]; rfl)
              omega
            rw [tb_of.mpr h1] at hkt
            exact of_decide_eq_true hkt.symm)
          refine zJ_aload_n dX2_readKnows_49 rfl ?_
          refine zJ_iconst (v := 4) dX2_readKnows_50 (by decide) ?_
          refine zJ_cV1 dX2_readKnows_51 sX2_119 mfX2_refuse (c_Rd_refuse Δ cb hbC 4) (by first | rfl | assumption | exact hbC.1 _ (by decide)) rfl (Nat.le_of_ble_eq_true rfl) (by decide) (by decide) ?_
          exact zJ_zret dX2_readKnows_54 rfl rfl (by decide) (by decide) (hQ _ _ (zLr.er (e := (4, (ztk tx n (ztk tx n t.2.2.1).2.2.1).2.1)) (by simp only [zlK, a1, b1]; rw [if_pos hbad]) (zEr.pre (a2.d.tr b2.d) (zEr.of b3.2.2))))
    · have hbC := haC.fk b2.1.1 b2.1.2.1
      refine zJ_if_ne (tgt := 23) dX2_readKnows_18 (by decide) (fun h9 => False.elim (by revert h9; decide)) (fun _ => ?_)
      refine zJ_iconst (v := 0) dX2_readKnows_21 (by decide) ?_
      exact zJ_zret dX2_readKnows_22 rfl rfl (by decide) (by decide) (hQ _ _ (zLr.er (e := e) (by simp only [zlK, a1, b1]) (b2.pre a2.d)))
  · have haC := hC.fk a2.1.1 a2.1.2.1
    refine zJ_if_ne (tgt := 9) dX2_readKnows_4 (by decide) (fun h9 => False.elim (by revert h9; decide)) (fun _ => ?_)
    refine zJ_iconst (v := 0) dX2_readKnows_7 (by decide) ?_
    exact zJ_zret dX2_readKnows_8 rfl rfl (by decide) (by decide) (hQ _ _ (zLr.er (e := e) (by simp only [zlK, a1]) a2))
