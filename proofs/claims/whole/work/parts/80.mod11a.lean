/-! the model: rows -/
theorem zjg_od {T : zTo} {f : Nat → Nat} : ∀ {m i : Nat} {k : zKy} {v : Nat}, zjg T f m i k ≠ none → zod T f m i k v = 0
  | 0, _, _, _, h => absurd rfl h
  | m + 1, i, k, v, h => by
    simp only [zjg] at h
    simp only [zod]
    cases hm : zmay T k (f i) with
    | false => simp
    | true =>
      rw [hm] at h
      simp only [if_true] at h ⊢
      exact zjg_od h
theorem zodds_no {T : zTo} {f : Nat → Nat} {n : Nat} (h : n = 0 ∨ zjd T f n ≠ none) : zodds T f n = 0 := by
  simp only [zodds]
  by_cases h0 : n = 0 ∨ f 0 ≠ T.1 12
  · rw [if_pos h0]
  · rw [if_neg h0]
    have h1 : ¬ n = 0 := fun h => h0 (Or.inl h)
    have h2 := h.resolve_left h1
    simp only [zjd] at h2
    rw [if_neg h1, if_neg (fun h => h0 (Or.inr h))] at h2
    exact zjg_od h2
theorem zLk.jg {T S : zTo} (h : zLk T S) (f : Nat → Nat) : ∀ m i k, zjg T f m i k = zjg S f m i k
  | 0, _, _ => rfl
  | m + 1, i, k => by simp only [zjg, h.may, h.bk, zLk.jg h f m]
theorem zLk.jd {T S : zTo} (h : zLk T S) (f : Nat → Nat) (n : Nat) : zjd T f n = zjd S f n := by
  simp only [zjd, h.jg, h.fk, h.2.2.1]
set_option maxRecDepth 100000 in
theorem c_Mo_asksRow (Δ : zD) (w : zW) (hM : zMs w) : zMd Δ 1 0 0 true yX9_asksRow mX9_asksRow [.ref 100] w none (zrow (zsi w 100 61 (w.2.1 100 55)) 160 (fun j => if j < 20 then w.2.1 157 j else w.2.1 160 j)) := by
  refine zMd.of mfX9_asksRow (Nat.le_of_ble_eq_true rfl) (fun QR hQ => ?_)
  refine zJ_aload_n dX9_asksRow_0 rfl ?_
  refine zJ_aload_n dX9_asksRow_1 rfl ?_
  refine zJ_geti dX9_asksRow_2 fX9_317 (by first | rfl | assumption | exact hM.at (by decide) (by decide)) rfl ?_
  refine zJ_puti dX9_asksRow_5 fX9_435 (fun q h => by cases h; rfl) (by first | rfl | assumption | exact hM.at (by decide) (by decide)) rfl rfl rfl ?_
  refine zJ_aload_n dX9_asksRow_8 rfl ?_
  refine zJ_aload_n dX9_asksRow_9 rfl ?_
  refine zJ_getr (j := 157) dX9_asksRow_10 fX9_92 (by first | rfl | assumption | exact hM.at (by decide) (by decide)) rfl (by first | rfl | assumption | exact hM.rf (by decide) rfl) ?_
  refine zJ_aload_n dX9_asksRow_13 rfl ?_
  refine zJ_getr (j := 160) dX9_asksRow_14 fX9_101 (by first | rfl | assumption | exact hM.at (by decide) (by decide)) rfl (by first | rfl | assumption | exact hM.rf (by decide) rfl) ?_
  refine zJ_cV2 dX9_asksRow_17 sX9_313 mfX9_copies (c_Mo_copies Δ (zsi w 100 61 (w.2.1 100 55)) 157 160 20 20 (by decide) (by decide) (by decide) (by decide) (hM.at (by decide) (by decide)) (hM.at (by decide) (by decide))) (by first | rfl | assumption | exact hM.at (by decide) (by decide)) rfl (Nat.le_of_ble_eq_true rfl) (by decide) (by decide) ?_
  exact zJ_vret dX9_asksRow_20 rfl (by decide) (by decide) hQ
/-- the row that is told: n people -/
def zRo9 (w : zW) (U : zTo) (n : Nat) (f : Nat → Nat) : Prop := w.2.1 100 55 = nI n ∧ n ≤ 20 ∧ ∀ i, i < n → w.2.1 157 i = nI (f i) ∧ f i < U.1 0
theorem zRo9.q {w : zW} {U : zTo} {n : Nat} {f : Nat → Nat} (h : zRo9 w U n f) : zAq (zrow (zsi w 100 61 (w.2.1 100 55)) 160 (fun j => if j < 20 then w.2.1 157 j else w.2.1 160 j)) U n f := by
  obtain ⟨h1, h2, h3⟩ := h
  refine ⟨by simp [zrow, zsi, h1], h2, fun i hi => ⟨?_, (h3 i hi).2⟩⟩
  have : i < 20 := by omega
  simp [zrow, this, (h3 i hi).1]
theorem zRo9.fm {w c : zW} {U : zTo} {n : Nat} {f : Nat → Nat} {l : List Nat} (h : zRo9 w U n f) (hf : zFM l w c) (h1 : 55 ∉ l) (h2 : 57 ∉ l) : zRo9 c U n f := ⟨(hf.at h1).trans h.1, h.2.1, fun i hi => ⟨(hf.ar (k := 57) h2 (by decide)).trans (h.2.2 i hi).1, (h.2.2 i hi).2⟩⟩
theorem zAq.fm {w c : zW} {U : zTo} {n : Nat} {f : Nat → Nat} {l : List Nat} (h : zAq w U n f) (hf : zFM l w c) (h1 : 61 ∉ l) (h2 : 60 ∉ l) : zAq c U n f := ⟨(hf.at h1).trans h.1, h.2.1, fun i hi => ⟨(hf.ar (k := 60) h2 (by decide)).trans (h.2.2 i hi).1, (h.2.2 i hi).2⟩⟩
theorem zFM.ask {w : zW} {x : Int32} {f : Nat → Int32} : zFM [60, 61] w (zrow (zsi w 100 61 x) 160 f) := (zFM.i (by decide)).tr (zFM.row (by decide))
set_option maxRecDepth 100000 in
theorem c_Mo_judge (Δ : zD) (w : zW) (U : zTo) (hMu : zMu w U) (hU : zTok U) (h13 : U.1 13 = 0) (n : Nat) (f : Nat → Nat) (hr : zRo9 w U n f) : zMp Δ 2 yX9_judge mX9_judge [.ref 100] w (fun r c => zFM zScr w c ∧ c.2.1 100 0 = 0 ∧ r = some (.int (zji (zjd U f n)))) := by
  refine zMp.of mfX9_judge (Nat.le_of_ble_eq_true rfl) (fun QR hQ => ?_)
  have hMu0 := hMu
  obtain ⟨hM, u1, u2, u3, u4, u5, u6, u7, u8, u9, uso, unu, uwt⟩ := hMu
  have hp8 := hU.1
  have hU0 := hU
  have M0 : zMs (zsi w 100 0 0) := hM
  have z0 : (zsi w 100 0 0).2.1 100 0 = 0 := by simp [zsi]
  have hMu1 : zMu (zsi w 100 0 0) U := hMu0.fm (zFM.i (l := [0]) (by decide)) (by decide)
  have hp1 : (zsi w 100 0 0).2.1 100 1 = nI (U.1 0) := hMu1.2.1
  have hr0 : zRo9 (zsi w 100 0 0) U n f := hr.fm (zFM.i (l := [0]) (by decide)) (by decide) (by decide)
  refine zJ_aload_n dX9_judge_0 rfl ?_
  refine zJ_iconst (v := 0) dX9_judge_1 (by decide) ?_
  refine zJ_puti dX9_judge_2 fX9_170 (fun q h => by cases h; rfl) (by first | rfl | assumption | exact M0.at (by decide) (by decide)) rfl rfl rfl ?_
  refine zJ_aload_n dX9_judge_5 rfl ?_
  refine zJ_cV0 dX9_judge_6 sX9_438 mfX9_asksRow (c_Mo_asksRow Δ (zsi w 100 0 0) M0) (by first | rfl | assumption | exact M0.at (by decide) (by decide)) rfl (Nat.le_of_ble_eq_true rfl) (by decide) (by decide) ?_
  refine zJ_aload_n dX9_judge_9 rfl ?_
  refine zJ_cV0 dX9_judge_10 sX9_441 mfX9_firstWrong (c_Mo_firstWrong Δ (zrow (zsi (zsi w 100 0 0) 100 61 ((zsi w 100 0 0).2.1 100 55)) 160 (fun j => if j < 20 then (zsi w 100 0 0).2.1 157 j else (zsi w 100 0 0).2.1 160 j)) U (hMu1.fm zFM.ask (by decide)) hU0 h13 n f hr0.q) (by first | rfl | assumption | exact M0.at (by decide) (by decide)) rfl (Nat.le_of_ble_eq_true rfl) (by decide) (by decide) ?_
  exact zJ_iret dX9_judge_13 rfl (by decide) (by decide) (hQ _ _ ⟨zFM.t0.tr (zFM.ask.mono (by decide)), by simp [zrow, zsi], rfl⟩)
theorem zjg_lt {T : zTo} {f : Nat → Nat} : ∀ {m i : Nat} {k : zKy} {r : Nat}, zjg T f m i k = some r → r < i + m
  | 0, _, _, _, h => by cases h
  | m + 1, i, k, r, h => by
    simp only [zjg] at h
    split at h
    · have := zjg_lt h; omega
    · cases h; omega
theorem zjd_lt {T : zTo} {f : Nat → Nat} {n r N : Nat} (hn : n + 1 < N) (h : zjd T f n = some r) : r < N := by
  simp only [zjd] at h
  split at h
  · cases h
  · split at h
    · cases h; omega
    · have := zjg_lt h; omega
set_option maxRecDepth 100000 in
theorem c_Mo_oddsNow (Δ : zD) (w : zW) (U T : zTo) (hMu : zMu w U) (hU : zTok U) (h13 : U.1 13 = 0) (hLk : zLk T U) (K : List zKy) (hK : zMK w T K) (hT : zTok T) (hB : zBm w T K) (n : Nat) (f : Nat → Nat) (hq : zAq w U n f) : zMd Δ 4 0 0 true yX9_oddsNow mX9_oddsNow [.ref 100] w (some (.long (lN (zodds T f n)))) w := by
  refine zMd.of mfX9_oddsNow (Nat.le_of_ble_eq_true rfl) (fun QR hQ => ?_)
  have hM := hMu.1
  have h61 := hq.1
  have hn := hq.2.1
  have hf := hq.2.2
  have hU8 := hU.1
  have hKR := hK.2.1.2.2.1
  have hjT := hLk.jd f n
  have L : ∀ j, j + 1 ≤ n → ∀ x k v, K[x]? = some k → v ≤ 1000000000 → zjg T f (n - (j + 1)) (j + 1) k = none → zodds T f n = zod T f (n - (j + 1)) (j + 1) k v → zJ Δ mX9_oddsNow (zRm 4 0 0) true w.1 QR (fun _ _ => False) 0 0 26 [(4, .int (nI j)), (3, .int (nI x)), (1, .long (lN v)), (0, .ref 100)] [] w := by
    have L9 : ∀ i, i ≤ n → ∀ j, j + 1 = i → ∀ x k v, K[x]? = some k → v ≤ 1000000000 → zjg T f (n - (j + 1)) (j + 1) k = none → zodds T f n = zod T f (n - (j + 1)) (j + 1) k v → zJ Δ mX9_oddsNow (zRm 4 0 0) true w.1 QR (fun _ _ => False) 0 0 26 [(4, .int (nI j)), (3, .int (nI x)), (1, .long (lN v)), (0, .ref 100)] [] w := by
      refine zup (fun i hi ih j hji x k v hx hv hg ho => ?_)
      have hxK := (List.getElem?_eq_some_iff.mp hx).1
      refine zJ_iload dX9_oddsNow_26 rfl ?_
      refine zJ_iconst (v := 1) dX9_oddsNow_28 (by decide) ?_
      refine zJ_iadd dX9_oddsNow_29 ?_
      rw [show nI j + 1 = nI (j + 1) from nI_1 _]
      refine zJ_aload_n dX9_oddsNow_30 rfl ?_
      refine zJ_getiN dX9_oddsNow_31 fX9_435 (by first | rfl | assumption | exact hM.at (by decide) (by decide)) rfl h61 ?_
      refine zJ_icmp_ge (tgt := 79) dX9_oddsNow_34 (by decide) (fun h34 => ?_) (fun h34 => ?_)
      · have hj9 : j + 1 = n := Nat.le_antisymm (by omega) ((nI_leI (by omega) (by omega)).mp h34)
        rw [ho, hj9, Nat.sub_self] at hQ
        refine zJ_aload_n dX9_oddsNow_79 rfl ?_
        refine zJ_iload_n dX9_oddsNow_80 rfl ?_
        refine zJ_lload_n dX9_oddsNow_81 rfl ?_
        refine zJ_cV2 dX9_oddsNow_82 sX9_409 mfX9_openedOf (c_Mo_openedOf Δ w T K hK hT x k hx hB v hv) (by first | rfl | assumption | exact hM.at (by decide) (by decide)) rfl (Nat.le_of_ble_eq_true rfl) (by decide) (by decide) ?_
        exact zJ_lret dX9_oddsNow_85 rfl (by decide) (by decide) hQ
      · have hj9 : j + 1 < n := Nat.lt_of_not_le fun hq9 => h34 ((nI_leI (by omega) (by omega)).mpr hq9)
        have hfj := hf (j + 1) hj9
        have hfj8 : f (j + 1) < 8 := by omega
        rw [show n - (j + 1) = (n - (j + 2)) + 1 by omega] at hg ho
        have hmy : zmay T k (f (j + 1)) = true := by
          cases hm : zmay T k (f (j + 1)) with
          | true => rfl
          | false => simp only [zjg, hm] at hg; cases hg
        simp only [zjg, hmy, if_true] at hg
        simp only [zod, hmy, if_true] at ho
        have hle := zst1_le (T := T) k v hfj8
        obtain ⟨c9, hc1, hc2, hc3, hc4, hc5⟩ := hK.c hx hfj8 hmy
        refine zJ_aload_n dX9_oddsNow_37 rfl ?_
        refine zJ_iload_n dX9_oddsNow_38 rfl ?_
        refine zJ_aload_n dX9_oddsNow_39 rfl ?_
        refine zJ_getr (j := 160) dX9_oddsNow_40 fX9_101 (by first | rfl | assumption | exact hM.at (by decide) (by decide)) rfl (by first | rfl | assumption | exact hM.rf (by decide) rfl) ?_
        refine zJ_iload dX9_oddsNow_43 rfl ?_
        refine zJ_iconst (v := 1) dX9_oddsNow_45 (by decide) ?_
        refine zJ_iadd dX9_oddsNow_46 ?_
        refine zJ_ialdN (i := (j + 1)) (v := (nI (f (j + 1)))) dX9_oddsNow_47 (by first | rfl | assumption | exact hM.at (by decide) (by decide)) (nI_1 j) (by omega) (by decide) hfj.1 ?_
        refine zJ_lload_n dX9_oddsNow_48 rfl ?_
        refine zJ_cV3 dX9_oddsNow_49 sX9_447 mfX9_stepTo (c_Mo_stepTo Δ w T K hK hT x k hx hB (f (j + 1)) v hfj8 hv) (by first | rfl | assumption | exact hM.at (by decide) (by decide)) rfl (Nat.le_of_ble_eq_true rfl) (by decide) (by decide) ?_
        refine zJ_lstore_n (ls2 := fun x52 => [(1, .long x52), (4, .int (nI j)), (3, .int (nI x)), (0, .ref 100)]) dX9_oddsNow_52 (by decide) (fun _ => rfl) (fun x52 ex52 => ?_)
        obtain rfl : x52 = (lN (zst1 T k v (f (j + 1)))) := ex52
        refine zJ_aload_n dX9_oddsNow_53 rfl ?_
        refine zJ_getr (j := 143) dX9_oddsNow_54 fX9_63 (by first | rfl | assumption | exact hM.at (by decide) (by decide)) rfl (by first | rfl | assumption | exact hM.rf (by decide) rfl) ?_
        refine zJ_bipush (v := 8) dX9_oddsNow_57 (by decide) ?_
        refine zJ_iload_n dX9_oddsNow_59 rfl ?_
        refine zJ_imul dX9_oddsNow_60 ?_
        refine zJ_aload_n dX9_oddsNow_61 rfl ?_
        refine zJ_getr (j := 160) dX9_oddsNow_62 fX9_101 (by first | rfl | assumption | exact hM.at (by decide) (by decide)) rfl (by first | rfl | assumption | exact hM.rf (by decide) rfl) ?_
        refine zJ_iload dX9_oddsNow_65 rfl ?_
        refine zJ_iconst (v := 1) dX9_oddsNow_67 (by decide) ?_
        refine zJ_iadd dX9_oddsNow_68 ?_
        refine zJ_ialdN (i := (j + 1)) (v := (nI (f (j + 1)))) dX9_oddsNow_69 (by first | rfl | assumption | exact hM.at (by decide) (by decide)) (nI_1 j) (by omega) (by decide) hfj.1 ?_
        refine zJ_iadd dX9_oddsNow_70 ?_
        refine zJ_ialdN (i := (x * 8 + (f (j + 1)))) (v := (nI c9)) dX9_oddsNow_71 (by first | rfl | assumption | exact hM.at (by decide) (by decide)) (na_8 _ _) (by omega) (by decide) hc2 ?_
        refine zJ_istore_n (ls2 := fun x72 => [(3, .int x72), (1, .long (lN (zst1 T k v (f (j + 1))))), (4, .int (nI j)), (0, .ref 100)]) dX9_oddsNow_72 (by decide) (fun _ => rfl) (fun x72 ex72 => ?_)
        obtain rfl : x72 = (nI c9) := ex72
        refine zJ_iinc (ls2 := fun x73 => [(4, .int x73), (3, .int (nI c9)), (1, .long (lN (zst1 T k v (f (j + 1))))), (0, .ref 100)]) dX9_oddsNow_73 rfl (by decide) (fun _ => rfl) (fun x73 ex73 => ?_)
        refine zJ_goto (tgt := 26) dX9_oddsNow_76 (by decide) ?_
        refine zJ_ls [(4, .int x73), (3, .int (nI c9)), (1, .long (lN (zst1 T k v (f (j + 1))))), (0, .ref 100)] (by simp) ?_
        rw [ex73, show nI j + Int32.ofInt 1 = nI (j + 1) from nI_1 _]
        exact ih (j + 2) (by omega) (by omega) (j + 1) rfl c9 _ _ hc1 (by omega) hg ho
    exact fun j hj => L9 (j + 1) hj j rfl
  by_cases h0 : n = 0
  · rw [zodds_no (Or.inl h0)] at hQ
    refine zJ_aload_n dX9_oddsNow_0 rfl ?_
    refine zJ_getiN dX9_oddsNow_1 fX9_435 (by first | rfl | assumption | exact hM.at (by decide) (by decide)) rfl h61 ?_
    refine zJ_if_eq (tgt := 15) dX9_oddsNow_4 (by decide) (fun h4a => ?_) (fun h9 => absurd (by rw [h0]; rfl) h9)
    refine zJ_lconst (v := 0) dX9_oddsNow_15 (by decide) ?_
    exact zJ_lret dX9_oddsNow_16 rfl (by decide) (by decide) hQ
  · have h0i : ¬ nI n = 0 := fun h => h0 ((nI_eq (b := 0) (by omega) (by decide)).mp h)
    cases hz : zjd U f n with
    | some i =>
      have hi9 : ¬ zji (some i) = -1 := fun h => by
        have hi : i < 2 ^ 30 := zjd_lt (by omega) hz
        exact nI_m1 (by omega) h
      rw [zodds_no (Or.inr (by rw [hjT, hz]; exact fun h => by cases h))] at hQ
      refine zJ_aload_n dX9_oddsNow_0 rfl ?_
      refine zJ_getiN dX9_oddsNow_1 fX9_435 (by first | rfl | assumption | exact hM.at (by decide) (by decide)) rfl h61 ?_
      refine zJ_if_eq (tgt := 15) dX9_oddsNow_4 (by decide) (fun h9 => absurd h9 h0i) (fun h4b => ?_)
      refine zJ_aload_n dX9_oddsNow_7 rfl ?_
      refine zJ_cV0 dX9_oddsNow_8 sX9_441 mfX9_firstWrong (c_Mo_firstWrong Δ w U hMu hU h13 n f hq) (by first | rfl | assumption | exact hM.at (by decide) (by decide)) rfl (Nat.le_of_ble_eq_true rfl) (by decide) (by decide) ?_
      rw [hz]
      refine zJ_iconst (v := (-1)) dX9_oddsNow_11 (by decide) ?_
      refine zJ_icmp_eq (tgt := 17) dX9_oddsNow_12 (by decide) (fun h9 => absurd h9 hi9) (fun h12b => ?_)
      refine zJ_lconst (v := 0) dX9_oddsNow_15 (by decide) ?_
      exact zJ_lret dX9_oddsNow_16 rfl (by decide) (by decide) hQ
    | none =>
      have hz2 := hjT.trans hz
      simp only [zjd] at hz2
      rw [if_neg h0] at hz2
      have hf0 : f 0 = T.1 12 := Classical.byContradiction fun h => by rw [if_pos h] at hz2; cases hz2
      rw [if_neg (fun h => h hf0)] at hz2
      refine zJ_aload_n dX9_oddsNow_0 rfl ?_
      refine zJ_getiN dX9_oddsNow_1 fX9_435 (by first | rfl | assumption | exact hM.at (by decide) (by decide)) rfl h61 ?_
      refine zJ_if_eq (tgt := 15) dX9_oddsNow_4 (by decide) (fun h9 => absurd h9 h0i) (fun h4c => ?_)
      refine zJ_aload_n dX9_oddsNow_7 rfl ?_
      refine zJ_cV0 dX9_oddsNow_8 sX9_441 mfX9_firstWrong (c_Mo_firstWrong Δ w U hMu hU h13 n f hq) (by first | rfl | assumption | exact hM.at (by decide) (by decide)) rfl (Nat.le_of_ble_eq_true rfl) (by decide) (by decide) ?_
      rw [hz]
      refine zJ_iconst (v := (-1)) dX9_oddsNow_11 (by decide) ?_
      refine zJ_icmp_eq (tgt := 17) dX9_oddsNow_12 (by decide) (fun _ => ?_) (fun h9 => False.elim (by revert h9; decide))
      refine zJ_ldc2 dX9_oddsNow_17 kX9_372 ?_
      refine zJ_lstore_n (ls2 := fun x20c => [(1, .long x20c), (0, .ref 100)]) dX9_oddsNow_20 (by decide) (fun _ => rfl) (fun x20c ex20c => ?_)
      obtain rfl : x20c = (lN 1000000000) := ex20c
      refine zJ_iconst (v := 0) dX9_oddsNow_21 (by decide) ?_
      refine zJ_istore_n (ls2 := fun x22c => [(3, .int x22c), (1, .long (lN 1000000000)), (0, .ref 100)]) dX9_oddsNow_22 (by decide) (fun _ => rfl) (fun x22c ex22c => ?_)
      obtain rfl : x22c = (nI 0) := ex22c
      refine zJ_iconst (v := 0) dX9_oddsNow_23 (by decide) ?_
      refine zJ_istore (ls2 := fun x24c => [(4, .int x24c), (3, .int (nI 0)), (1, .long (lN 1000000000)), (0, .ref 100)]) dX9_oddsNow_24 (by decide) (fun _ => rfl) (fun x24c ex24c => ?_)
      obtain rfl : x24c = (nI 0) := ex24c
      exact L 0 (by omega) 0 _ _ (zall_0 hK.2.2.1) (Nat.le_refl _) hz2 (by simp only [zodds]; rw [if_neg (fun h => h.elim h0 (fun h => h hf0))])
set_option maxRecDepth 100000 in
theorem c_Mo_odds (Δ : zD) (w : zW) (U : zTo) (hMu : zMu w U) (hU : zTok U) (h13 : U.1 13 = 0) (n : Nat) (f : Nat → Nat) (hr : zRo9 w U n f) : zMp Δ 5 yX9_odds mX9_odds [.ref 100] w (fun r c => zFM zScr w c ∧ ((U.1 0 = 0 ∧ c.2.1 100 0 = 0 ∧ r = some (.int 0)) ∨ (0 < U.1 0 ∧ ¬ zfit U 20000 ∧ c.2.1 100 0 = 1) ∨ (0 < U.1 0 ∧ zfit U 20000 ∧ c.2.1 100 0 = 0 ∧ r = some (.int (lN (zodds U f n)).toInt32)))) := by
  refine zMp.of mfX9_odds (Nat.le_of_ble_eq_true rfl) (fun QR hQ => ?_)
  have hMu0 := hMu
  obtain ⟨hM, u1, u2, u3, u4, u5, u6, u7, u8, u9, uso, unu, uwt⟩ := hMu
  have hp8 := hU.1
  have hU0 := hU
  have M0 : zMs (zsi w 100 0 0) := hM
  have z0 : (zsi w 100 0 0).2.1 100 0 = 0 := by simp [zsi]
  have hMu1 : zMu (zsi w 100 0 0) U := hMu0.fm (zFM.i (l := [0]) (by decide)) (by decide)
  have hp1 : (zsi w 100 0 0).2.1 100 1 = nI (U.1 0) := hMu1.2.1
  have h21 : (zsi w 100 0 0).2.1 100 2 = nI (U.1 12) := hMu1.2.2.1
  have hr0 : zRo9 (zsi w 100 0 0) U n f := hr.fm (zFM.i (l := [0]) (by decide)) (by decide) (by decide)
  by_cases hpos : 0 < U.1 0
  · have hne : ¬ nI (U.1 0) = 0 := fun h => absurd ((nI_eq (b := 0) (by omega) (by decide)).mp h) (by omega)
    refine zJ_aload_n dX9_odds_0 rfl ?_
    refine zJ_iconst (v := 0) dX9_odds_1 (by decide) ?_
    refine zJ_puti dX9_odds_2 fX9_170 (fun q h => by cases h; rfl) (by first | rfl | assumption | exact M0.at (by decide) (by decide) | exact Mc.at (by decide) (by decide)) rfl rfl rfl ?_
    refine zJ_aload_n dX9_odds_5 rfl ?_
    refine zJ_geti dX9_odds_6 fX9_298 (by first | rfl | assumption | exact M0.at (by decide) (by decide) | exact Mc.at (by decide) (by decide)) rfl ?_
    rw [hp1]
    refine zJ_if_ne (tgt := 14) dX9_odds_9 (by decide) (fun h9 => ?_) (fun h9 => absurd h9 hne)
    refine zJ_aload_n dX9_odds_14 rfl ?_
    refine zJ_eV0 dX9_odds_15 sX9_413 mfX9_asTold (c_Mo_asTold Δ (zsi w 100 0 0) U hMu1 hU0 h13) (M0.at (by decide) (by decide)) rfl (Nat.le_of_ble_eq_true rfl) (by decide) (by decide) (fun r c hP => ?_)
    obtain ⟨rfl, hfc, hAc⟩ := hP
    have Mc : zMs c := hAc.1
    have c0 : c.2.1 100 0 = 0 := (hfc.at (by decide)).trans z0
    refine zJ_aload_n dX9_odds_18 rfl ?_
    refine zJ_aload_n dX9_odds_19 rfl ?_
    refine zJ_aload_n dX9_odds_20 rfl ?_
    refine zJ_geti dX9_odds_21 fX9_301 (by first | rfl | assumption | exact M0.at (by decide) (by decide) | exact Mc.at (by decide) (by decide)) rfl ?_
    rw [(hfc.at (by decide)).trans h21]
    refine zJ_eV1 dX9_odds_24 sX9_416 mfX9_asks (c_Mo_asks Δ c U hAc hU0 hpos) (Mc.at (by decide) (by decide)) rfl (Nat.le_of_ble_eq_true rfl) (by decide) (by decide) (fun r d hP => ?_)
    obtain ⟨hfd, hP⟩ := hP
    have Md : zMs d := Mc.fm hfd
    have d0 : d.2.1 100 0 = 0 := (hfd.at (by decide)).trans c0
    rcases hP with ⟨rfl, K, hKd, hUd⟩ | ⟨rfl, hno⟩
    · refine zJ_iconst (v := 1) dX9_odds_27 (by decide) ?_
      refine zJ_cV2 dX9_odds_28 sX9_291 mfX9_right (c_Mo_right1 Δ d Md d0 1) (by first | rfl | assumption | exact Md.at (by decide) (by decide)) rfl (Nat.le_of_ble_eq_true rfl) (by decide) (by decide) ?_
      refine zJ_if_ne (tgt := 36) dX9_odds_31 (by decide) (fun _ => ?_) (fun h9 => False.elim (by revert h9; decide))
      refine zJ_aload_n dX9_odds_36 rfl ?_
      refine zJ_cV0 dX9_odds_37 sX9_438 mfX9_asksRow (c_Mo_asksRow Δ d Md) (by first | rfl | assumption | exact Md.at (by decide) (by decide)) rfl (Nat.le_of_ble_eq_true rfl) (by decide) (by decide) ?_
      refine zJ_aload_n dX9_odds_40 rfl ?_
      refine zJ_cV0 dX9_odds_41 sX9_451 mfX9_oddsNow (c_Mo_oddsNow Δ (zrow (zsi d 100 61 (d.2.1 100 55)) 160 (fun j => if j < 20 then d.2.1 157 j else d.2.1 160 j)) U U (((hMu1.fm hfc (by decide)).fm hfd (by decide)).fm zFM.ask (by decide)) hU0 h13 ⟨rfl, rfl, rfl, rfl, rfl, rfl⟩ K (hKd.fm zFM.ask (by decide)) hU0 ((hUd.bm hU0 hKd).fm zFM.ask (by decide)) n f ((hr0.fm hfc (by decide) (by decide)).fm hfd (by decide) (by decide)).q) (by first | rfl | assumption | exact Md.at (by decide) (by decide)) rfl (Nat.le_of_ble_eq_true rfl) (by decide) (by decide) ?_
      refine zJ_l2i dX9_odds_44 ?_
      exact zJ_iret dX9_odds_45 rfl (by decide) (by decide) (hQ _ _ ⟨((zFM.t0.tr (hfc.mono (by decide))).tr (hfd.mono (by decide))).tr (zFM.ask.mono (by decide)), Or.inr (Or.inr ⟨hpos, ⟨K, hKd.2.2.1, hKd.2.1.2.2.1⟩, by simp [zrow, zsi, d0], rfl⟩)⟩)
    · refine zJ_iconst (v := 1) dX9_odds_27 (by decide) ?_
      refine zJ_cV2 dX9_odds_28 sX9_291 mfX9_right (c_Mo_right0 Δ d Md d0 1 (by decide)) (by first | rfl | assumption | exact Md.at (by decide) (by decide)) rfl (Nat.le_of_ble_eq_true rfl) (by decide) (by decide) ?_
      refine zJ_if_ne (tgt := 36) dX9_odds_31 (by decide) (fun h9 => False.elim (by revert h9; decide)) (fun _ => ?_)
      refine zJ_iconst (v := 0) dX9_odds_34 (by decide) ?_
      exact zJ_iret dX9_odds_35 rfl (by decide) (by decide) (hQ _ _ ⟨((zFM.t0.tr (hfc.mono (by decide))).tr (hfd.mono (by decide))).tr zFM.t0, Or.inr (Or.inl ⟨hpos, hno, by simp [zsi]⟩)⟩)
  · have hz0 : U.1 0 = 0 := by omega
    refine zJ_aload_n dX9_odds_0 rfl ?_
    refine zJ_iconst (v := 0) dX9_odds_1 (by decide) ?_
    refine zJ_puti dX9_odds_2 fX9_170 (fun q h => by cases h; rfl) (by first | rfl | assumption | exact M0.at (by decide) (by decide)) rfl rfl rfl ?_
    refine zJ_aload_n dX9_odds_5 rfl ?_
    refine zJ_geti dX9_odds_6 fX9_298 (by first | rfl | assumption | exact M0.at (by decide) (by decide)) rfl ?_
    rw [hp1]
    refine zJ_if_ne (tgt := 14) dX9_odds_9 (by decide) (fun h9 => absurd h9 (fun h => h (by rw [hz0]; rfl))) (fun h9 => ?_)
    refine zJ_iconst (v := 0) dX9_odds_12 (by decide) ?_
    exact zJ_iret dX9_odds_13 rfl (by decide) (by decide) (hQ _ _ ⟨zFM.t0, Or.inl ⟨hz0, z0, rfl⟩⟩)
