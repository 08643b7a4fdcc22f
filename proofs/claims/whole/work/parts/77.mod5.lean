/-! the model: opens, sends -/
/-- only what is reckoned of the HAND x has changed -/
def zFR (x : Nat) (w c : zW) : Prop := zFM [50, 51, 52] w c ∧ (∀ j, j ≠ x → c.2.2.1 151 j = w.2.2.1 151 j) ∧ (∀ j, (j < x * 8 ∨ x * 8 + 8 ≤ j) → c.2.2.1 150 j = w.2.2.1 150 j) ∧ (∀ j, j ≠ x → c.2.1 152 j = w.2.1 152 j)
theorem zFR.rf (x : Nat) (w : zW) : zFR x w w := ⟨zFM.rf w, fun _ _ => rfl, fun _ _ => rfl, fun _ _ => rfl⟩
theorem zFR.tr {x : Nat} {w c d : zW} (h1 : zFR x w c) (h2 : zFR x c d) : zFR x w d := ⟨h1.1.tr h2.1, fun j h => (h2.2.1 j h).trans (h1.2.1 j h), fun j h => (h2.2.2.1 j h).trans (h1.2.2.1 j h), fun j h => (h2.2.2.2 j h).trans (h1.2.2.2 j h)⟩
theorem zFR.b {x : Nat} {w : zW} {v : Int32} : zFR x w (zsi w 152 x v) := ⟨zFM.i (by first | decide | exact Or.inr (by decide)), fun _ _ => rfl, fun _ _ => rfl, fun j h => by simp [zsi, h]⟩
theorem zFR.e {x : Nat} {w : zW} {v : Int64} : zFR x w (zsl w 151 x v) := ⟨zFM.l (by first | decide | exact Or.inr (by decide)), fun j h => by simp [zsl, h], fun _ _ => by simp [zsl], fun _ _ => rfl⟩
theorem zFR.g {x : Nat} {w : zW} {f : Nat → Int64} (h : ∀ j, (j < x * 8 ∨ x * 8 + 8 ≤ j) → f j = w.2.2.1 150 j) : zFR x w (zrol w 150 f) := ⟨zFM.rol (by decide), fun _ _ => by simp [zrol], fun j hj => by rw [zrol_get]; exact h j hj, fun _ _ => rfl⟩
theorem zMK.r {x : Nat} {w c : zW} {T : zTo} {K : List zKy} (h : zMK w T K) (hf : zFR x w c) : zMK c T K := h.fm hf.1 (by decide)
theorem zMC.r {w c : zW} {T : zTo} {K : List zKy} {x : Nat} {k : zKy} (hC : zMC w T K k) (h : zMK w T K) (hx : K[x]? = some k) (hT : zTok T) (hf : zFR x w c) : zMC c T K k := by
  intro y hy hm c2 hc
  have hlt := zall_up h.2.2.1 hx hc
  obtain ⟨h1, h2⟩ := hC y hy hm c2 hc
  have h0 := hT.1
  refine ⟨(hf.2.1 c2 (by omega)).trans h1, fun p hp => (hf.2.2.1 _ (by omega)).trans (h2 p hp)⟩
def zgw (w : zW) (x : Nat) (v : Nat → Int64) (j : Nat) : zW := zrol w 150 (fun i => if x * 8 ≤ i ∧ i < x * 8 + j then v (i - x * 8) else w.2.2.1 150 i)
theorem zgw_s {w : zW} {x : Nat} {v : Nat → Int64} {j : Nat} : zsl (zgw w x v j) 150 (x * 8 + j) (v j) = zgw w x v (j + 1) := by
  simp only [zgw]
  rw [zsl_row, zrol_get, zrol_rol]
  refine congrArg (zrol w 150) (funext fun i => ?_)
  by_cases h : i = x * 8 + j
  · subst h
    rw [if_pos rfl, if_pos (by omega), show x * 8 + j - x * 8 = j by omega]
  · rw [if_neg h]
    by_cases h2 : x * 8 ≤ i ∧ i < x * 8 + j
    · rw [if_pos h2, if_pos (by omega)]
    · rw [if_neg h2, if_neg (by omega)]
theorem zgw_0 {w : zW} {x : Nat} {v : Nat → Int64} : zgw w x v 0 = w := by
  refine (congrArg (zrol w 150) (funext fun i => ?_)).trans (zrol_self w 150)
  rw [if_neg (by omega)]
theorem zgw_r {w : zW} {x : Nat} {v : Nat → Int64} {j : Nat} (hj : j ≤ 8) : zFR x w (zgw w x v j) := zFR.g (fun i hi => if_neg (by omega))
theorem zgw_at {w : zW} {x : Nat} {v : Nat → Int64} {j p : Nat} (hp : p < j) : (zgw w x v j).2.2.1 150 (x * 8 + p) = v p := by
  simp only [zgw]
  rw [zrol_get, if_pos (by omega), show x * 8 + p - x * 8 = p by omega]
theorem zgw_no {w : zW} {x : Nat} {v : Nat → Int64} {j i : Nat} (h : ¬ (x * 8 ≤ i ∧ i < x * 8 + j)) : (zgw w x v j).2.2.1 150 i = w.2.2.1 150 i := by
  simp only [zgw]
  rw [zrol_get, if_neg h]
def zMr (w c : zW) (T : zTo) (x : Nat) (e : Nat) (g : Nat → Int) : Prop := zFR x w c ∧ c.2.2.1 151 x = lN e ∧ ∀ p, p < T.1 0 → c.2.2.1 150 (x * 8 + p) = lZ (g p)
set_option maxRecDepth 100000 in
theorem c_Mo_opens (Δ : zD) (w : zW) (T : zTo) (K : List zKy) (hK : zMK w T K) (hT : zTok T) (x : Nat) (k : zKy) (hx : K[x]? = some k) : zMp Δ 1 yX9_opens mX9_opens [.ref 100, .int (nI x)] w (fun r c => r = none ∧ c.2.1 = w.2.1 ∧ zMr w c T x (zoE T k) (zoG T k)) := by
  refine zMp.of mfX9_opens (Nat.le_of_ble_eq_true rfl) (fun QR hQ => ?_)
  have hK0 := hK
  obtain ⟨hA, hN, hall, hch⟩ := hK
  have hA0 := hA
  obtain ⟨hM, m1, m3, m4, m5, m6, m7, m46, m9, m47, mso, mnu, mwt⟩ := hA
  have hT0 := hT
  obtain ⟨hp0, hp5, hp6, hp7, hp8, hp9, hp10, hp11, hp12, hp13, hpp, hpw⟩ := hT
  have hxK : x < K.length := (List.getElem?_eq_some_iff.mp hx).1
  have hKR := hN.2.2.1
  obtain ⟨hk, hkp⟩ := hN.2.2.2 k (List.mem_iff_getElem?.mpr ⟨x, hx⟩)
  obtain ⟨y1, y2, y3, y4⟩ := hN.1 x k hx
  have hk1 := hk.1
  have hk2 := hk.2.1
  have hpe := zpe_le hT0 (show k.2.1 ≤ 13 by omega)
  have hend : ∀ c : zW, c = zsl (zgw w x (fun p => lZ (zoG T k p)) (T.1 0)) 151 x (lN (zoE T k)) → c.2.1 = w.2.1 ∧ zMr w c T x (zoE T k) (zoG T k) := by
    intro c hc
    subst hc
    exact ⟨rfl, (zgw_r hp0).tr zFR.e, by simp [zsl], fun p hp => by
      rw [show (zsl (zgw w x (fun p => lZ (zoG T k p)) (T.1 0)) 151 x (lN (zoE T k))).2.2.1 150 (x * 8 + p) = (zgw w x (fun p => lZ (zoG T k p)) (T.1 0)).2.2.1 150 (x * 8 + p) by simp [zsl], zgw_at hp]⟩
  have L : ∀ j, j ≤ T.1 0 → zJ Δ mX9_opens (zRm 1 0 0) true w.1 QR (fun _ _ => False) 0 0 2 [(2, .int (nI j)), (0, .ref 100), (1, .int (nI x))] [] (zgw w x (fun p => lZ (zoG T k p)) j) := by
    refine zup (fun j hj ih => ?_)
    have hA1 : zMa (zgw w x (fun p => lZ (zoG T k p)) j) T := hA0.fm (zgw_r (by omega)).1 (by decide)
    refine zJ_iload_n dX9_opens_2 rfl ?_
    refine zJ_aload_n dX9_opens_3 rfl ?_
    refine zJ_getiN dX9_opens_4 fX9_298 (by first | rfl | assumption | exact hM.at (by decide) (by decide)) rfl m1 ?_
    refine zJ_icmp_ge (tgt := 78) dX9_opens_7 (by decide) (fun h7 => ?_) (fun h7 => ?_)
    · refine zJ_aload_n dX9_opens_78 rfl ?_
      refine zJ_getr (j := 151) dX9_opens_79 fX9_80 (by first | rfl | assumption | exact hM.at (by decide) (by decide)) rfl (by first | rfl | assumption | exact hM.rf (by decide) rfl) ?_
      refine zJ_iload_n dX9_opens_82 rfl ?_
      refine zJ_aload_n dX9_opens_83 rfl ?_
      refine zJ_getr (j := 140) dX9_opens_84 fX9_53 (by first | rfl | assumption | exact hM.at (by decide) (by decide)) rfl (by first | rfl | assumption | exact hM.rf (by decide) rfl) ?_
      refine zJ_iload_n dX9_opens_87 rfl ?_
      refine zJ_ialdN (i := x) (v := (nI k.2.1)) dX9_opens_88 (by first | rfl | assumption | exact hM.at (by decide) (by decide)) rfl (by omega) (by decide) y2 ?_
      refine zJ_aload_n dX9_opens_89 rfl ?_
      refine zJ_getiN dX9_opens_90 fX9_16 (by first | rfl | assumption | exact hM.at (by decide) (by decide)) rfl m5 ?_
      refine zJ_icmp_ne (tgt := 102) dX9_opens_93 (by decide) (fun h93 => ?_) (fun h93 => ?_)
      · refine zJ_lconst (v := 0) dX9_opens_102 (by decide) ?_
        have hj9 : j = T.1 0 := Nat.le_antisymm hj ((nI_leI (by omega) (by omega)).mp h7)
        subst hj9
        refine zJ_st (st2 := [.long (lN (zoE T k)), .int (nI x), .ref 151]) (congrArg (fun z => Value.long z :: _) (by simp only [zoE]; rw [if_neg (fun h => h93 (by rw [h]))]; rfl)) ?_
        refine zJ_lastN (i := x) dX9_opens_103 (hM.at (by decide) (by decide)) rfl (by omega) (by decide) ?_
        exact zJ_vret dX9_opens_104 rfl (by decide) (by decide) (hQ _ _ ⟨rfl, hend _ rfl⟩)
      · refine zJ_ldc2 dX9_opens_96 kX9_372 ?_
        refine zJ_goto (tgt := 103) dX9_opens_99 (by decide) ?_
        have hj9 : j = T.1 0 := Nat.le_antisymm hj ((nI_leI (by omega) (by omega)).mp h7)
        subst hj9
        refine zJ_st (st2 := [.long (lN (zoE T k)), .int (nI x), .ref 151]) (congrArg (fun z => Value.long z :: _) (by simp only [zoE]; rw [if_pos ((nI_eq (by omega) (by omega)).mp h93)]; rfl)) ?_
        refine zJ_lastN (i := x) dX9_opens_103 (hM.at (by decide) (by decide)) rfl (by omega) (by decide) ?_
        exact zJ_vret dX9_opens_104 rfl (by decide) (by decide) (hQ _ _ ⟨rfl, hend _ rfl⟩)
    · have hj9 : j < T.1 0 := Nat.lt_of_not_le fun hq9 => h7 ((nI_leI (by omega) (by omega)).mpr hq9)
      refine zJ_aload_n dX9_opens_10 rfl ?_
      refine zJ_getr (j := 150) dX9_opens_11 fX9_76 (by first | rfl | assumption | exact hM.at (by decide) (by decide)) rfl (by first | rfl | assumption | exact hM.rf (by decide) rfl) ?_
      refine zJ_bipush (v := 8) dX9_opens_14 (by decide) ?_
      refine zJ_iload_n dX9_opens_16 rfl ?_
      refine zJ_imul dX9_opens_17 ?_
      refine zJ_iload_n dX9_opens_18 rfl ?_
      refine zJ_iadd dX9_opens_19 ?_
      refine zJ_iload_n dX9_opens_20 rfl ?_
      refine zJ_aload_n dX9_opens_21 rfl ?_
      refine zJ_getr (j := 139) dX9_opens_22 fX9_50 (by first | rfl | assumption | exact hM.at (by decide) (by decide)) rfl (by first | rfl | assumption | exact hM.rf (by decide) rfl) ?_
      refine zJ_iload_n dX9_opens_25 rfl ?_
      refine zJ_ialdN (i := x) (v := (nI k.1)) dX9_opens_26 (by first | rfl | assumption | exact hM.at (by decide) (by decide)) rfl (by omega) (by decide) y1 ?_
      refine zJ_icmp_ne (tgt := 70) dX9_opens_27 (by decide) (fun h27 => ?_) (fun h27 => ?_)
      · have hjk : ¬ j = k.1 := fun h => h27 (by rw [h])
        refine zJ_lconst (v := 0) dX9_opens_70 (by decide) ?_
        refine zJ_st (st2 := [.long (lZ (zoG T k j)), .int (8 * nI x + nI j), .ref 150]) (congrArg (fun z => Value.long z :: _) (by simp only [zoG]; rw [if_neg hjk]; rfl)) ?_
        refine zJ_lastN (i := x * 8 + j) dX9_opens_71 (hM.at (by decide) (by decide)) (na_8 _ _) (by omega) (by decide) ?_
        refine zJ_iinc (ls2 := fun x72 => [(2, .int x72), (0, .ref 100), (1, .int (nI x))]) dX9_opens_72 rfl (by decide) (fun _ => rfl) (fun x72 ex72 => ?_)
        refine zJ_goto (tgt := 2) dX9_opens_75 (by decide) ?_
        rw [ex72, show nI j + Int32.ofInt 1 = nI (j + 1) from nI_1 _]
        refine zJ_w (zgw_s (v := (fun p => lZ (zoG T k p)))) (ih (j + 1) (by omega) (by omega))
      · have hjk : j = k.1 := (nI_eq (by omega) (by omega)).mp h27
        refine zJ_ldc2 dX9_opens_30 kX9_370 ?_
        refine zJ_aload_n dX9_opens_33 rfl ?_
        refine zJ_aload_n dX9_opens_34 rfl ?_
        refine zJ_getr (j := 140) dX9_opens_35 fX9_53 (by first | rfl | assumption | exact hM.at (by decide) (by decide)) rfl (by first | rfl | assumption | exact hM.rf (by decide) rfl) ?_
        refine zJ_iload_n dX9_opens_38 rfl ?_
        refine zJ_ialdN (i := x) (v := (nI k.2.1)) dX9_opens_39 (by first | rfl | assumption | exact hM.at (by decide) (by decide)) rfl (by omega) (by decide) y2 ?_
        refine zJ_cV1 dX9_opens_40 sX9_367 mfX9_pence (c_Mo_pence Δ _ T hA1 k.2.1 hk2.1) (by first | rfl | assumption | exact hM.at (by decide) (by decide)) rfl (Nat.le_of_ble_eq_true rfl) (by decide) (by decide) ?_
        refine zJ_aload_n dX9_opens_43 rfl ?_
        refine zJ_getr (j := 140) dX9_opens_44 fX9_53 (by first | rfl | assumption | exact hM.at (by decide) (by decide)) rfl (by first | rfl | assumption | exact hM.rf (by decide) rfl) ?_
        refine zJ_iload_n dX9_opens_47 rfl ?_
        refine zJ_ialdN (i := x) (v := (nI k.2.1)) dX9_opens_48 (by first | rfl | assumption | exact hM.at (by decide) (by decide)) rfl (by omega) (by decide) y2 ?_
        refine zJ_aload_n dX9_opens_49 rfl ?_
        refine zJ_getiN dX9_opens_50 fX9_16 (by first | rfl | assumption | exact hM.at (by decide) (by decide)) rfl m5 ?_
        refine zJ_icmp_ne (tgt := 63) dX9_opens_53 (by decide) (fun h53 => ?_) (fun h53 => ?_)
        · have hhe : ¬ k.2.1 = T.1 7 := fun h => h53 (by rw [h])
          refine zJ_iconst (v := 0) dX9_opens_63 (by decide) ?_
          refine zJ_iadd dX9_opens_64 ?_
          refine zJ_i2l dX9_opens_65 ?_
          refine zJ_lmul dX9_opens_66 ?_
          refine zJ_goto (tgt := 71) dX9_opens_67 (by decide) ?_
          refine zJ_st (st2 := [.long (lZ (zoG T k j)), .int (8 * nI x + nI j), .ref 150]) (congrArg (fun z => Value.long z :: _) (by simp only [zoG]; rw [if_pos hjk, if_neg hhe, show (0 : Int32) = nI 0 from rfl, na_add, nI_l (by omega), lZ_n, show (1000 : Int64) = lZ 1000 from rfl, lZ_mul]; simp)) ?_
          refine zJ_lastN (i := x * 8 + j) dX9_opens_71 (hM.at (by decide) (by decide)) (na_8 _ _) (by omega) (by decide) ?_
          refine zJ_iinc (ls2 := fun x72 => [(2, .int x72), (0, .ref 100), (1, .int (nI x))]) dX9_opens_72 rfl (by decide) (fun _ => rfl) (fun x72 ex72 => ?_)
          refine zJ_goto (tgt := 2) dX9_opens_75 (by decide) ?_
          rw [ex72, show nI j + Int32.ofInt 1 = nI (j + 1) from nI_1 _]
          refine zJ_w (zgw_s (v := (fun p => lZ (zoG T k p)))) (ih (j + 1) (by omega) (by omega))
        · have hhe : k.2.1 = T.1 7 := (nI_eq (by omega) (by omega)).mp h53
          refine zJ_aload_n dX9_opens_56 rfl ?_
          refine zJ_getiN dX9_opens_57 fX9_304 (by first | rfl | assumption | exact hM.at (by decide) (by decide)) rfl m6 ?_
          refine zJ_goto (tgt := 64) dX9_opens_60 (by decide) ?_
          refine zJ_iadd dX9_opens_64 ?_
          refine zJ_i2l dX9_opens_65 ?_
          refine zJ_lmul dX9_opens_66 ?_
          refine zJ_goto (tgt := 71) dX9_opens_67 (by decide) ?_
          refine zJ_st (st2 := [.long (lZ (zoG T k j)), .int (8 * nI x + nI j), .ref 150]) (congrArg (fun z => Value.long z :: _) (by simp only [zoG]; rw [if_pos hjk, if_pos hhe, na_add, nI_l (by omega), lZ_n, show (1000 : Int64) = lZ 1000 from rfl, lZ_mul]; simp)) ?_
          refine zJ_lastN (i := x * 8 + j) dX9_opens_71 (hM.at (by decide) (by decide)) (na_8 _ _) (by omega) (by decide) ?_
          refine zJ_iinc (ls2 := fun x72 => [(2, .int x72), (0, .ref 100), (1, .int (nI x))]) dX9_opens_72 rfl (by decide) (fun _ => rfl) (fun x72 ex72 => ?_)
          refine zJ_goto (tgt := 2) dX9_opens_75 (by decide) ?_
          rw [ex72, show nI j + Int32.ofInt 1 = nI (j + 1) from nI_1 _]
          refine zJ_w (zgw_s (v := (fun p => lZ (zoG T k p)))) (ih (j + 1) (by omega) (by omega))
  refine zJ_iconst (v := 0) dX9_opens_0 (by decide) ?_
  refine zJ_istore_n (ls2 := fun x1 => [(2, .int x1), (0, .ref 100), (1, .int (nI x))]) dX9_opens_1 (by decide) (fun _ => rfl) (fun x1 ex1 => ?_)
  rw [ex1]
  exact zJ_w zgw_0.symm (L 0 (Nat.zero_le _))
theorem mulb {u : Nat} {z c : Int} (hu : u ≤ 99) (hc : 0 ≤ c) (h1 : -c ≤ z) (h2 : z ≤ c) : -(99 * c) ≤ (u : Int) * z ∧ (u : Int) * z ≤ 99 * c := by
  have a1 : (u : Int) * z ≤ (u : Int) * c := Int.mul_le_mul_of_nonneg_left h2 (by omega)
  have a2 : (u : Int) * -c ≤ (u : Int) * z := Int.mul_le_mul_of_nonneg_left h1 (by omega)
  have a3 : (u : Int) * c ≤ 99 * c := Int.mul_le_mul_of_nonneg_right (by omega) hc
  rw [Int.mul_neg] at a2
  omega
def zGf (T : zTo) (k : zKy) (p y : Nat) : Int := if zmay T k y then (zwx T k y : Int) * zbs T k (zce T k) (zcg T k) y p else 0
def zEf (T : zTo) (k : zKy) (y : Nat) : Nat := if zmay T k y then zwx T k y * zce T k y else 0
theorem zGf_rng {T : zTo} (hT : zTok T) {k : zKy} (hk : zkok T k) {p y : Nat} (hy : y < 8) : -42570000000 ≤ zGf T k p y ∧ zGf T k p y ≤ 42570000000 := by
  simp only [zGf]
  split
  · rename_i hm
    have h1 := zbs_rng hT (k := k) (p := p) (B := 420000000) (zce_le hT hk hy hm) (zcg_rng hT hk (p := p) hy hm)
    have h2 := mulb (u := zwx T k y) (z := zbs T k (zce T k) (zcg T k) y p) (c := 430000000) (hT.2.2.2.2.2.2.2.2.2.2.2 k.1 y hk.1 hy).1 (by decide) (by omega) (by omega)
    omega
  · omega
theorem zEf_le {T : zTo} (hT : zTok T) {k : zKy} (hk : zkok T k) {y : Nat} (hy : y < 8) : zEf T k y ≤ 99000000000 := by
  simp only [zEf]
  split
  · rename_i hm
    exact Nat.le_trans (Nat.mul_le_mul (hT.2.2.2.2.2.2.2.2.2.2.2 k.1 y hk.1 hy).1 (zce_le hT hk hy hm)) (by decide)
  · omega
set_option maxRecDepth 100000 in
theorem c_Mo_sends (Δ : zD) (w : zW) (T : zTo) (K : List zKy) (hK : zMK w T K) (hT : zTok T) (x : Nat) (k : zKy) (hx : K[x]? = some k) (hC : zMC w T K k) (hpos : 0 < zwS T k) : zMp Δ 2 yX9_sends mX9_sends [.ref 100, .int (nI x), .int (nI (zwS T k))] w (fun r c => r = none ∧ c.2.1 = w.2.1 ∧ zMr w c T x (zsE T k (zce T k)) (zsG T k (zce T k) (zcg T k))) := by
  refine zMp.of mfX9_sends (Nat.le_of_ble_eq_true rfl) (fun QR hQ => ?_)
  have hK0 := hK
  obtain ⟨hA, hN, hall, hch⟩ := hK
  have hA0 := hA
  obtain ⟨hM, m1, m3, m4, m5, m6, m7, m46, m9, m47, mso, mnu, mwt⟩ := hA
  have hT0 := hT
  obtain ⟨hp0, hp5, hp6, hp7, hp8, hp9, hp10, hp11, hp12, hp13, hpp, hpw⟩ := hT
  have hxK : x < K.length := (List.getElem?_eq_some_iff.mp hx).1
  have hKR := hN.2.2.1
  obtain ⟨hk, hkp⟩ := hN.2.2.2 k (List.mem_iff_getElem?.mpr ⟨x, hx⟩)
  obtain ⟨y1, y2, y3, y4⟩ := hN.1 x k hx
  have hk1 := hk.1
  have hk2 := hk.2.1
  have hwb : zwS T k ≤ 8 * 99 := fb_sm_bound (fun y hy => by
    try simp only
    split
    · exact (hpw k.1 y hk1 (by omega)).1
    · omega)
  have hsb : ∀ p n, n ≤ 8 → -(8 * 42570000000) ≤ fb_si (zGf T k p) n ∧ fb_si (zGf T k p) n ≤ 8 * 42570000000 := fun p n hn => by
    have := fb_si_bound (f := zGf T k p) (c := 42570000000) (by decide) (n := n) (fun y hy => zGf_rng hT0 hk (by omega))
    omega
  have heb : ∀ n, n ≤ 8 → fb_sm (zEf T k) n ≤ 8 * 99000000000 := fun n hn => Nat.le_trans (fb_sm_bound (f := zEf T k) (c := 99000000000) (fun y hy => zEf_le hT0 hk (by omega))) (Nat.mul_le_mul_right _ hn)
  have hend : ∀ c : zW, c = zsl (zgw w x (fun p => lZ (zsG T k (zce T k) (zcg T k) p)) (T.1 0)) 151 x (lN (zsE T k (zce T k))) → c.2.1 = w.2.1 ∧ zMr w c T x (zsE T k (zce T k)) (zsG T k (zce T k) (zcg T k)) := by
    intro c hc
    subst hc
    exact ⟨rfl, (zgw_r hp0).tr zFR.e, by simp [zsl], fun p hp => by
      rw [show (zsl (zgw w x (fun p => lZ (zsG T k (zce T k) (zcg T k) p)) (T.1 0)) 151 x (lN (zsE T k (zce T k)))).2.2.1 150 (x * 8 + p) = (zgw w x (fun p => lZ (zsG T k (zce T k) (zcg T k) p)) (T.1 0)).2.2.1 150 (x * 8 + p) by simp [zsl], zgw_at hp]⟩
  have hnz : ¬ lN (zwS T k) = 0 := fun e => by
    have := (fb_lN_inj (b := 0) (by omega) (by decide)).mp e
    omega
  have hA1 : zMa (zgw w x (fun p => lZ (zsG T k (zce T k) (zcg T k) p)) (T.1 0)) T := hA0.fm (zgw_r hp0).1 (by decide)
  have hK1 := hK0.r (zgw_r (x := x) (v := (fun p => lZ (zsG T k (zce T k) (zcg T k) p))) hp0)
  have hC1 : zMC (zgw w x (fun p => lZ (zsG T k (zce T k) (zcg T k) p)) (T.1 0)) T K k := hC.r hK0 hx hT0 (zgw_r hp0)
  have LE : ∀ j, j ≤ T.1 0 → zJ Δ mX9_sends (zRm 2 0 0) true w.1 QR (fun _ _ => False) 0 0 108 [(5, .int (nI j)), (3, .long (lN (fb_sm (zEf T k) j))), (0, .ref 100), (1, .int (nI x)), (2, .int (nI (zwS T k)))] [] (zgw w x (fun p => lZ (zsG T k (zce T k) (zcg T k) p)) (T.1 0)) := by
    refine zup (fun j hj ih => ?_)
    have hbj := heb j (by omega)
    refine zJ_iload dX9_sends_108 rfl ?_
    refine zJ_aload_n dX9_sends_110 rfl ?_
    refine zJ_getiN dX9_sends_111 fX9_298 (by first | rfl | assumption | exact hM.at (by decide) (by decide)) rfl m1 ?_
    refine zJ_icmp_ge (tgt := 178) dX9_sends_114 (by decide) (fun h114 => ?_) (fun h114 => ?_)
    · have hj9 : j = T.1 0 := Nat.le_antisymm hj ((nI_leI (by omega) (by omega)).mp h114)
      subst hj9
      rw [sm_pp hp0 (fun y h1 h2 => by simp only [zEf, zmay_no hT0 hk1 h1 h2]; rfl)]
      have hb8 := heb 8 (Nat.le_refl _)
      refine zJ_aload_n dX9_sends_178 rfl ?_
      refine zJ_getr (j := 151) dX9_sends_179 fX9_80 (by first | rfl | assumption | exact hM.at (by decide) (by decide)) rfl (by first | rfl | assumption | exact hM.rf (by decide) rfl) ?_
      refine zJ_iload_n dX9_sends_182 rfl ?_
      refine zJ_lload_n dX9_sends_183 rfl ?_
      refine zJ_iload_n dX9_sends_184 rfl ?_
      refine zJ_i2l dX9_sends_185 ?_
      rw [nI_l (show zwS T k < 2 ^ 31 by omega)]
      refine zJ_ldiv dX9_sends_186 hnz ?_
      rw [lN_div (by omega) (by omega), show fb_sm (zEf T k) 8 / zwS T k = zsE T k (zce T k) from rfl]
      refine zJ_lastN (i := x) dX9_sends_187 (by first | rfl | assumption | exact hM.at (by decide) (by decide)) rfl (by omega) (by decide) ?_
      exact zJ_vret dX9_sends_188 rfl (by decide) (by decide) (hQ _ _ ⟨rfl, hend _ rfl⟩)
    · have hj9 : j < T.1 0 := Nat.lt_of_not_le fun hq9 => h114 ((nI_leI (by omega) (by omega)).mpr hq9)
      cases hmy : zmay T k j with
      | true =>
        obtain ⟨c, hc1, hc2, hc3, hc4, hc5⟩ := hK1.c hx (by omega) hmy
        refine zJ_aload_n dX9_sends_117 rfl ?_
        refine zJ_getr (j := 143) dX9_sends_118 fX9_63 (by first | rfl | assumption | exact hM.at (by decide) (by decide)) rfl (by first | rfl | assumption | exact hM.rf (by decide) rfl) ?_
        refine zJ_bipush (v := 8) dX9_sends_121 (by decide) ?_
        refine zJ_iload_n dX9_sends_123 rfl ?_
        refine zJ_imul dX9_sends_124 ?_
        refine zJ_iload dX9_sends_125 rfl ?_
        refine zJ_iadd dX9_sends_127 ?_
        refine zJ_ialdN (i := (x * 8 + j)) (v := (nI c)) dX9_sends_128 (by first | rfl | assumption | exact hM.at (by decide) (by decide)) (na_8 _ _) (by omega) (by decide) hc2 ?_
        refine zJ_iconst (v := (-1)) dX9_sends_129 (by decide) ?_
        refine zJ_icmp_eq (tgt := 172) dX9_sends_130 (by decide) (fun h9 => absurd h9 (nI_m1 (by omega))) (fun h130t => ?_)
        refine zJ_lload_n dX9_sends_133 rfl ?_
        refine zJ_aload_n dX9_sends_134 rfl ?_
        refine zJ_getr (j := 112) dX9_sends_135 fX9_29 (by first | rfl | assumption | exact hM.at (by decide) (by decide)) rfl (by first | rfl | assumption | exact hM.rf (by decide) rfl) ?_
        refine zJ_bipush (v := 8) dX9_sends_138 (by decide) ?_
        refine zJ_aload_n dX9_sends_140 rfl ?_
        refine zJ_getr (j := 139) dX9_sends_141 fX9_50 (by first | rfl | assumption | exact hM.at (by decide) (by decide)) rfl (by first | rfl | assumption | exact hM.rf (by decide) rfl) ?_
        refine zJ_iload_n dX9_sends_144 rfl ?_
        refine zJ_ialdN (i := x) (v := (nI k.1)) dX9_sends_145 (by first | rfl | assumption | exact hM.at (by decide) (by decide)) rfl (by omega) (by decide) y1 ?_
        refine zJ_imul dX9_sends_146 ?_
        refine zJ_iload dX9_sends_147 rfl ?_
        refine zJ_iadd dX9_sends_149 ?_
        refine zJ_ialdN (i := (k.1 * 8 + j)) (v := (nI (T.2.2.2 (k.1 * 8 + j)))) dX9_sends_150 (by first | rfl | assumption | exact hM.at (by decide) (by decide)) (na_8 _ _) (by omega) (by decide) (mwt k.1 j hkp hj9) ?_
        refine zJ_i2l dX9_sends_151 ?_
        rw [nI_l (show T.2.2.2 (k.1 * 8 + j) < 2 ^ 31 by have := (hpw k.1 j hk1 (by omega)).1; omega)]
        refine zJ_aload_n dX9_sends_152 rfl ?_
        refine zJ_getr (j := 151) dX9_sends_153 fX9_80 (by first | rfl | assumption | exact hM.at (by decide) (by decide)) rfl (by first | rfl | assumption | exact hM.rf (by decide) rfl) ?_
        refine zJ_aload_n dX9_sends_156 rfl ?_
        refine zJ_getr (j := 143) dX9_sends_157 fX9_63 (by first | rfl | assumption | exact hM.at (by decide) (by decide)) rfl (by first | rfl | assumption | exact hM.rf (by decide) rfl) ?_
        refine zJ_bipush (v := 8) dX9_sends_160 (by decide) ?_
        refine zJ_iload_n dX9_sends_162 rfl ?_
        refine zJ_imul dX9_sends_163 ?_
        refine zJ_iload dX9_sends_164 rfl ?_
        refine zJ_iadd dX9_sends_166 ?_
        refine zJ_ialdN (i := (x * 8 + j)) (v := (nI c)) dX9_sends_167 (by first | rfl | assumption | exact hM.at (by decide) (by decide)) (na_8 _ _) (by omega) (by decide) hc2 ?_
        refine zJ_laldN (i := c) (v := (lN (zce T k j))) dX9_sends_168 (by first | rfl | assumption | exact hM.at (by decide) (by decide)) rfl (by omega) (by decide) (hC1 j (by omega) hmy c hc1).1 ?_
        refine zJ_lmul dX9_sends_169 ?_
        refine zJ_ladd dX9_sends_170 ?_
        refine zJ_lstore_n (ls2 := fun x171t => [(3, .long x171t), (5, .int (nI j)), (0, .ref 100), (1, .int (nI x)), (2, .int (nI (zwS T k)))]) dX9_sends_171 (by decide) (fun _ => rfl) (fun x171t ex171t => ?_)
        refine zJ_iinc (ls2 := fun x172t => [(5, .int x172t), (3, .long x171t), (0, .ref 100), (1, .int (nI x)), (2, .int (nI (zwS T k)))]) dX9_sends_172 rfl (by decide) (fun _ => rfl) (fun x172t ex172t => ?_)
        refine zJ_goto (tgt := 108) dX9_sends_175 (by decide) ?_
        refine zJ_ls [(5, .int x172t), (3, .long x171t), (0, .ref 100), (1, .int (nI x)), (2, .int (nI (zwS T k)))] (by simp) ?_
        rw [ex172t, show nI j + Int32.ofInt 1 = nI (j + 1) from nI_1 _]
        rw [ex171t, lN_mul, lN_add, show fb_sm (zEf T k) j + T.2.2.2 (k.1 * 8 + j) * zce T k j = fb_sm (zEf T k) (j + 1) by rw [fb_sm_succ]; simp only [zEf, hmy, if_true, zwx]]
        exact ih (j + 1) (by omega) (by omega)
      | false =>
        refine zJ_aload_n dX9_sends_117 rfl ?_
        refine zJ_getr (j := 143) dX9_sends_118 fX9_63 (by first | rfl | assumption | exact hM.at (by decide) (by decide)) rfl (by first | rfl | assumption | exact hM.rf (by decide) rfl) ?_
        refine zJ_bipush (v := 8) dX9_sends_121 (by decide) ?_
        refine zJ_iload_n dX9_sends_123 rfl ?_
        refine zJ_imul dX9_sends_124 ?_
        refine zJ_iload dX9_sends_125 rfl ?_
        refine zJ_iadd dX9_sends_127 ?_
        refine zJ_ialdN (i := (x * 8 + j)) (v := (-1)) dX9_sends_128 (by first | rfl | assumption | exact hM.at (by decide) (by decide)) (na_8 _ _) (by omega) (by decide) (hK1.n hx (by omega) hmy) ?_
        refine zJ_iconst (v := (-1)) dX9_sends_129 (by decide) ?_
        refine zJ_icmp_eq (tgt := 172) dX9_sends_130 (by decide) (fun _ => ?_) (fun h9 => False.elim (by revert h9; decide))
        refine zJ_iinc (ls2 := fun x172f => [(5, .int x172f), (3, .long (lN (fb_sm (zEf T k) j))), (0, .ref 100), (1, .int (nI x)), (2, .int (nI (zwS T k)))]) dX9_sends_172 rfl (by decide) (fun _ => rfl) (fun x172f ex172f => ?_)
        refine zJ_goto (tgt := 108) dX9_sends_175 (by decide) ?_
        refine zJ_ls [(5, .int x172f), (3, .long (lN (fb_sm (zEf T k) j))), (0, .ref 100), (1, .int (nI x)), (2, .int (nI (zwS T k)))] (by simp) ?_
        rw [ex172f, show nI j + Int32.ofInt 1 = nI (j + 1) from nI_1 _]
        rw [show fb_sm (zEf T k) j = fb_sm (zEf T k) (j + 1) by rw [fb_sm_succ]; simp [zEf, hmy]]
        exact ih (j + 1) (by omega) (by omega)
  have LO : ∀ q, q ≤ T.1 0 → zJ Δ mX9_sends (zRm 2 0 0) true w.1 QR (fun _ _ => False) 0 0 2 [(3, .int (nI q)), (0, .ref 100), (1, .int (nI x)), (2, .int (nI (zwS T k)))] [] (zgw w x (fun p => lZ (zsG T k (zce T k) (zcg T k) p)) q) := by
    refine zup (fun q hq ihq => ?_)
    have hA2 : zMa (zgw w x (fun p => lZ (zsG T k (zce T k) (zcg T k) p)) q) T := hA0.fm (zgw_r (by omega)).1 (by decide)
    have hK2 := hK0.r (zgw_r (x := x) (v := (fun p => lZ (zsG T k (zce T k) (zcg T k) p))) (j := q) (by omega))
    have hC2 : zMC (zgw w x (fun p => lZ (zsG T k (zce T k) (zcg T k) p)) q) T K k := hC.r hK0 hx hT0 (zgw_r (by omega))
    have LI : q < T.1 0 → ∀ j, j ≤ T.1 0 → zJ Δ mX9_sends (zRm 2 0 0) true w.1 QR (fun _ _ => False) 0 0 16 [(6, .int (nI j)), (4, .long (lZ (fb_si (zGf T k q) j))), (3, .int (nI q)), (0, .ref 100), (1, .int (nI x)), (2, .int (nI (zwS T k)))] [] (zgw w x (fun p => lZ (zsG T k (zce T k) (zcg T k) p)) q) := by
      intro hq9
      refine zup (fun j hj ih => ?_)
      have hbj := hsb q j (by omega)
      refine zJ_iload dX9_sends_16 rfl ?_
      refine zJ_aload_n dX9_sends_18 rfl ?_
      refine zJ_getiN dX9_sends_19 fX9_298 (by first | rfl | assumption | exact hM.at (by decide) (by decide)) rfl m1 ?_
      refine zJ_icmp_ge (tgt := 79) dX9_sends_22 (by decide) (fun h22 => ?_) (fun h22 => ?_)
      · have hj9 : j = T.1 0 := Nat.le_antisymm hj ((nI_leI (by omega) (by omega)).mp h22)
        subst hj9
        rw [si_pp hp0 (fun y h1 h2 => by simp only [zGf, zmay_no hT0 hk1 h1 h2]; rfl)]
        have hb8 := hsb q 8 (Nat.le_refl _)
        refine zJ_aload_n dX9_sends_79 rfl ?_
        refine zJ_getr (j := 150) dX9_sends_80 fX9_76 (by first | rfl | assumption | exact hM.at (by decide) (by decide)) rfl (by first | rfl | assumption | exact hM.rf (by decide) rfl) ?_
        refine zJ_bipush (v := 8) dX9_sends_83 (by decide) ?_
        refine zJ_iload_n dX9_sends_85 rfl ?_
        refine zJ_imul dX9_sends_86 ?_
        refine zJ_iload_n dX9_sends_87 rfl ?_
        refine zJ_iadd dX9_sends_88 ?_
        refine zJ_lload dX9_sends_89 rfl ?_
        refine zJ_iload_n dX9_sends_91 rfl ?_
        refine zJ_i2l dX9_sends_92 ?_
        rw [nI_l (show zwS T k < 2 ^ 31 by omega), lZ_n (zwS T k)]
        refine zJ_cS2 dX9_sends_93 sX9_382 mfX9_floor (c_Mo_floor Δ _ (fb_si (zGf T k q) 8) (zwS T k) (by omega) (by omega) (by omega) (by omega)) (Nat.le_of_ble_eq_true rfl) (by decide) (by decide) ?_
        refine zJ_lastN (i := (x * 8 + q)) dX9_sends_96 (by first | rfl | assumption | exact hM.at (by decide) (by decide)) (na_8 _ _) (by omega) (by decide) ?_
        refine zJ_iinc (ls2 := fun x97 => [(3, .int x97), (6, .int (nI (T.1 0))), (4, .long (lZ (fb_si (zGf T k q) 8))), (0, .ref 100), (1, .int (nI x)), (2, .int (nI (zwS T k)))]) dX9_sends_97 rfl (by decide) (fun _ => rfl) (fun x97 ex97 => ?_)
        refine zJ_goto (tgt := 2) dX9_sends_100 (by decide) ?_
        refine zJ_ls [(3, .int x97), (0, .ref 100), (1, .int (nI x)), (2, .int (nI (zwS T k)))] (by simp) ?_
        rw [ex97, show nI q + Int32.ofInt 1 = nI (q + 1) from nI_1 _]
        exact zJ_w (zgw_s (v := (fun p => lZ (zsG T k (zce T k) (zcg T k) p)))) (ihq (q + 1) (by omega) (by omega))
      · have hj9 : j < T.1 0 := Nat.lt_of_not_le fun hq9 => h22 ((nI_leI (by omega) (by omega)).mpr hq9)
        cases hmy : zmay T k j with
        | true =>
          obtain ⟨c, hc1, hc2, hc3, hc4, hc5⟩ := hK2.c hx (by omega) hmy
          refine zJ_aload_n dX9_sends_25 rfl ?_
          refine zJ_getr (j := 143) dX9_sends_26 fX9_63 (by first | rfl | assumption | exact hM.at (by decide) (by decide)) rfl (by first | rfl | assumption | exact hM.rf (by decide) rfl) ?_
          refine zJ_bipush (v := 8) dX9_sends_29 (by decide) ?_
          refine zJ_iload_n dX9_sends_31 rfl ?_
          refine zJ_imul dX9_sends_32 ?_
          refine zJ_iload dX9_sends_33 rfl ?_
          refine zJ_iadd dX9_sends_35 ?_
          refine zJ_ialdN (i := (x * 8 + j)) (v := (nI c)) dX9_sends_36 (by first | rfl | assumption | exact hM.at (by decide) (by decide)) (na_8 _ _) (by omega) (by decide) hc2 ?_
          refine zJ_iconst (v := (-1)) dX9_sends_37 (by decide) ?_
          refine zJ_icmp_eq (tgt := 73) dX9_sends_38 (by decide) (fun h9 => absurd h9 (nI_m1 (by omega))) (fun h38t => ?_)
          refine zJ_lload dX9_sends_41 rfl ?_
          refine zJ_aload_n dX9_sends_43 rfl ?_
          refine zJ_getr (j := 112) dX9_sends_44 fX9_29 (by first | rfl | assumption | exact hM.at (by decide) (by decide)) rfl (by first | rfl | assumption | exact hM.rf (by decide) rfl) ?_
          refine zJ_bipush (v := 8) dX9_sends_47 (by decide) ?_
          refine zJ_aload_n dX9_sends_49 rfl ?_
          refine zJ_getr (j := 139) dX9_sends_50 fX9_50 (by first | rfl | assumption | exact hM.at (by decide) (by decide)) rfl (by first | rfl | assumption | exact hM.rf (by decide) rfl) ?_
          refine zJ_iload_n dX9_sends_53 rfl ?_
          refine zJ_ialdN (i := x) (v := (nI k.1)) dX9_sends_54 (by first | rfl | assumption | exact hM.at (by decide) (by decide)) rfl (by omega) (by decide) y1 ?_
          refine zJ_imul dX9_sends_55 ?_
          refine zJ_iload dX9_sends_56 rfl ?_
          refine zJ_iadd dX9_sends_58 ?_
          refine zJ_ialdN (i := (k.1 * 8 + j)) (v := (nI (T.2.2.2 (k.1 * 8 + j)))) dX9_sends_59 (by first | rfl | assumption | exact hM.at (by decide) (by decide)) (na_8 _ _) (by omega) (by decide) (mwt k.1 j hkp hj9) ?_
          refine zJ_i2l dX9_sends_60 ?_
          rw [nI_l (show T.2.2.2 (k.1 * 8 + j) < 2 ^ 31 by have := (hpw k.1 j hk1 (by omega)).1; omega)]
          refine zJ_aload_n dX9_sends_61 rfl ?_
          refine zJ_iload_n dX9_sends_62 rfl ?_
          refine zJ_iload dX9_sends_63 rfl ?_
          refine zJ_iload_n dX9_sends_65 rfl ?_
          refine zJ_cV3 dX9_sends_66 sX9_378 mfX9_bySending (c_Mo_bySending Δ _ T K hK2 hT0 x k hx hC2 j q (by omega) hmy hq9) (by first | rfl | assumption | exact hM.at (by decide) (by decide)) rfl (Nat.le_of_ble_eq_true rfl) (by decide) (by decide) ?_
          refine zJ_lmul dX9_sends_69 ?_
          refine zJ_ladd dX9_sends_70 ?_
          refine zJ_lstore (ls2 := fun x71t => [(4, .long x71t), (6, .int (nI j)), (3, .int (nI q)), (0, .ref 100), (1, .int (nI x)), (2, .int (nI (zwS T k)))]) dX9_sends_71 (by decide) (fun _ => rfl) (fun x71t ex71t => ?_)
          refine zJ_iinc (ls2 := fun x73t => [(6, .int x73t), (4, .long x71t), (3, .int (nI q)), (0, .ref 100), (1, .int (nI x)), (2, .int (nI (zwS T k)))]) dX9_sends_73 rfl (by decide) (fun _ => rfl) (fun x73t ex73t => ?_)
          refine zJ_goto (tgt := 16) dX9_sends_76 (by decide) ?_
          refine zJ_ls [(6, .int x73t), (4, .long x71t), (3, .int (nI q)), (0, .ref 100), (1, .int (nI x)), (2, .int (nI (zwS T k)))] (by simp) ?_
          rw [ex73t, show nI j + Int32.ofInt 1 = nI (j + 1) from nI_1 _]
          rw [ex71t, lZ_n, lZ_mul, lZ_add, show fb_si (zGf T k q) j + (T.2.2.2 (k.1 * 8 + j) : Int) * zbs T k (zce T k) (zcg T k) j q = fb_si (zGf T k q) (j + 1) by rw [fb_si_succ]; simp only [zGf, hmy, if_true, zwx]]
          exact ih (j + 1) (by omega) (by omega)
        | false =>
          refine zJ_aload_n dX9_sends_25 rfl ?_
          refine zJ_getr (j := 143) dX9_sends_26 fX9_63 (by first | rfl | assumption | exact hM.at (by decide) (by decide)) rfl (by first | rfl | assumption | exact hM.rf (by decide) rfl) ?_
          refine zJ_bipush (v := 8) dX9_sends_29 (by decide) ?_
          refine zJ_iload_n dX9_sends_31 rfl ?_
          refine zJ_imul dX9_sends_32 ?_
          refine zJ_iload dX9_sends_33 rfl ?_
          refine zJ_iadd dX9_sends_35 ?_
          refine zJ_ialdN (i := (x * 8 + j)) (v := (-1)) dX9_sends_36 (by first | rfl | assumption | exact hM.at (by decide) (by decide)) (na_8 _ _) (by omega) (by decide) (hK2.n hx (by omega) hmy) ?_
          refine zJ_iconst (v := (-1)) dX9_sends_37 (by decide) ?_
          refine zJ_icmp_eq (tgt := 73) dX9_sends_38 (by decide) (fun _ => ?_) (fun h9 => False.elim (by revert h9; decide))
          refine zJ_iinc (ls2 := fun x73f => [(6, .int x73f), (4, .long (lZ (fb_si (zGf T k q) j))), (3, .int (nI q)), (0, .ref 100), (1, .int (nI x)), (2, .int (nI (zwS T k)))]) dX9_sends_73 rfl (by decide) (fun _ => rfl) (fun x73f ex73f => ?_)
          refine zJ_goto (tgt := 16) dX9_sends_76 (by decide) ?_
          refine zJ_ls [(6, .int x73f), (4, .long (lZ (fb_si (zGf T k q) j))), (3, .int (nI q)), (0, .ref 100), (1, .int (nI x)), (2, .int (nI (zwS T k)))] (by simp) ?_
          rw [ex73f, show nI j + Int32.ofInt 1 = nI (j + 1) from nI_1 _]
          rw [show fb_si (zGf T k q) j = fb_si (zGf T k q) (j + 1) by rw [fb_si_succ]; simp [zGf, hmy]]
          exact ih (j + 1) (by omega) (by omega)
    refine zJ_iload_n dX9_sends_2 rfl ?_
    refine zJ_aload_n dX9_sends_3 rfl ?_
    refine zJ_getiN dX9_sends_4 fX9_298 (by first | rfl | assumption | exact hM.at (by decide) (by decide)) rfl m1 ?_
    refine zJ_icmp_ge (tgt := 103) dX9_sends_7 (by decide) (fun h7 => ?_) (fun h7 => ?_)
    · refine zJ_lconst (v := 0) dX9_sends_103 (by decide) ?_
      refine zJ_lstore_n (ls2 := fun x104 => [(3, .long x104), (0, .ref 100), (1, .int (nI x)), (2, .int (nI (zwS T k)))]) dX9_sends_104 (by decide) (fun _ => rfl) (fun x104 ex104 => ?_)
      obtain rfl : x104 = (lN (fb_sm (zEf T k) 0)) := ex104
      refine zJ_iconst (v := 0) dX9_sends_105 (by decide) ?_
      refine zJ_istore (ls2 := fun x106 => [(5, .int x106), (3, .long (lN (fb_sm (zEf T k) 0))), (0, .ref 100), (1, .int (nI x)), (2, .int (nI (zwS T k)))]) dX9_sends_106 (by decide) (fun _ => rfl) (fun x106 ex106 => ?_)
      obtain rfl : x106 = (nI 0) := ex106
      have hq9 : q = T.1 0 := Nat.le_antisymm hq ((nI_leI (by omega) (by omega)).mp h7)
      subst hq9
      exact zJ_ls [(5, .int (nI 0)), (3, .long (lN (fb_sm (zEf T k) 0))), (0, .ref 100), (1, .int (nI x)), (2, .int (nI (zwS T k)))] (by simp) (LE 0 (Nat.zero_le _))
    · refine zJ_lconst (v := 0) dX9_sends_10 (by decide) ?_
      refine zJ_lstore (ls2 := fun x11 => [(4, .long x11), (3, .int (nI q)), (0, .ref 100), (1, .int (nI x)), (2, .int (nI (zwS T k)))]) dX9_sends_11 (by decide) (fun _ => rfl) (fun x11 ex11 => ?_)
      obtain rfl : x11 = (lZ (fb_si (zGf T k q) 0)) := ex11
      refine zJ_iconst (v := 0) dX9_sends_13 (by decide) ?_
      refine zJ_istore (ls2 := fun x14 => [(6, .int x14), (4, .long (lZ (fb_si (zGf T k q) 0))), (3, .int (nI q)), (0, .ref 100), (1, .int (nI x)), (2, .int (nI (zwS T k)))]) dX9_sends_14 (by decide) (fun _ => rfl) (fun x14 ex14 => ?_)
      obtain rfl : x14 = (nI 0) := ex14
      exact LI (Nat.lt_of_not_le fun hq9 => h7 ((nI_leI (by omega) (by omega)).mpr hq9)) 0 (Nat.zero_le _)
  refine zJ_iconst (v := 0) dX9_sends_0 (by decide) ?_
  refine zJ_istore_n (ls2 := fun x1 => [(3, .int x1), (0, .ref 100), (1, .int (nI x)), (2, .int (nI (zwS T k)))]) dX9_sends_1 (by decide) (fun _ => rfl) (fun x1 ex1 => ?_)
  rw [ex1]
  exact zJ_w zgw_0.symm (LO 0 (Nat.zero_le _))
