/-! the model: builds -/
theorem zgx_pp {T : zTo} (hT : zTok T) {k : zKy} (hk : k.1 < 8) {K : List zKy} : ∀ d, T.1 0 + d ≤ 8 → zgx T k K (T.1 0 + d) = zgx T k K (T.1 0)
  | 0, _ => rfl
  | d + 1, h => by
    have ih := zgx_pp hT hk (K := K) d (by omega)
    have hno : zmay T k (T.1 0 + d) = false := Bool.eq_false_iff.mpr fun h9 => by
      have h1 := (zmay_eq.mp h9).2.1
      have := ((hT.2.2.2.2.2.2.2.2.2.2.2 k.1 (T.1 0 + d) hk (by omega)).2 h1).2
      omega
    rw [show T.1 0 + (d + 1) = (T.1 0 + d) + 1 by omega]
    simp only [zgx, hno]
    exact ih
theorem zmay_no {T : zTo} (hT : zTok T) {k : zKy} (hk : k.1 < 8) {y : Nat} (hy : T.1 0 ≤ y) (hy8 : y < 8) : zmay T k y = false := Bool.eq_false_iff.mpr fun h9 => by
  have h1 := (zmay_eq.mp h9).2.1
  have := ((hT.2.2.2.2.2.2.2.2.2.2.2 k.1 y hk hy8).2 h1).2
  omega
/-- the inner loop: those below j told -/
def zBh (w1 w2 : zW) (n : Nat) (T : zTo) (k : zKy) (K : List zKy) (j : Nat) : Prop := zFM [38, 39, 40, 41, 42, 43, 44, 45] w1 w2 ∧ (∀ q, (q < n * 8 ∨ n * 8 + 8 ≤ q) → w2.2.1 143 q = w1.2.1 143 q) ∧ ((w2.2.1 100 45 = 0 ∧ zMq w2 T (zgx T k K j) ∧ zMh w2 (zgx T k K j) ∧ (∀ y, y < j → zNx T (zgx T k K j) (w2.2.1 143) n k y) ∧ ∀ y, j ≤ y → y < 8 → w2.2.1 143 (n * 8 + y) = -1) ∨ (w2.2.1 100 45 = 1 ∧ 20000 < (zgx T k K 8).length))
def zBy (w w1 : zW) (T : zTo) (n : Nat) : Prop := zFM [38, 39, 40, 41, 42, 43, 44, 45] w w1 ∧ ((w1.2.1 100 45 = 0 ∧ n ≤ (zgr T n).length ∧ zMq w1 T (zgr T n) ∧ zMh w1 (zgr T n) ∧ ∀ (x : Nat) (k : zKy), x < n → (zgr T n)[x]? = some k → ∀ y, y < 8 → zNx T (zgr T n) (w1.2.1 143) x k y) ∨ (w1.2.1 100 45 = 1 ∧ ¬ zfit T 20000))
/-- the HANDS are laid out -/
def zMK (w : zW) (T : zTo) (K : List zKy) : Prop := zMa w T ∧ zMq w T K ∧ zall T K ∧ ∀ (x : Nat) (k : zKy), K[x]? = some k → ∀ y, y < 8 → zNx T K (w.2.1 143) x k y
theorem zBh.end {w1 w2 : zW} {n : Nat} {T : zTo} {k : zKy} {K : List zKy} (hT : zTok T) (hk : k.1 < 8) (h : zBh w1 w2 n T k K (T.1 0)) : zFM [38, 39, 40, 41, 42, 43, 44, 45] w1 w2 ∧ (∀ q, (q < n * 8 ∨ n * 8 + 8 ≤ q) → w2.2.1 143 q = w1.2.1 143 q) ∧ ((w2.2.1 100 45 = 0 ∧ zMq w2 T (zgx T k K 8) ∧ zMh w2 (zgx T k K 8) ∧ (∀ y, y < 8 → zNx T (zgx T k K 8) (w2.2.1 143) n k y)) ∨ (w2.2.1 100 45 = 1 ∧ 20000 < (zgx T k K 8).length)) := by
  obtain ⟨h1, h2, h3⟩ := h
  refine ⟨h1, h2, h3.imp (fun ⟨a1, a2, a3, a4, a5⟩ => ?_) (fun h => h)⟩
  have e : zgx T k K 8 = zgx T k K (T.1 0) := by
    have h0 := hT.1
    have := zgx_pp hT hk (K := K) (8 - T.1 0) (by omega)
    rwa [show T.1 0 + (8 - T.1 0) = 8 by omega] at this
  rw [e]
  refine ⟨a1, a2, a3, fun y hy => ?_⟩
  by_cases hyp : y < T.1 0
  · exact a4 y hyp
  · have hno := zmay_no hT hk (Nat.le_of_not_lt hyp) hy
    exact ⟨fun h => (by rw [hno] at h; cases h), fun _ => a5 y (Nat.le_of_not_lt hyp) hy⟩
theorem zBy.step {w w1 w2 : zW} {n : Nat} {T : zTo} {k : zKy} (hT : zTok T) (hI : zBy w w1 T n) (hz : w1.2.1 100 45 = 0) (hk : (zgr T n)[n]? = some k) (hj : zBh w1 w2 n T k (zgr T n) (T.1 0)) (hk8 : k.1 < 8) : zBy w w2 T (n + 1) := by
  obtain ⟨h1, h2, h3⟩ := hj.end hT hk8
  have hgr : zgr T (n + 1) = zgx T k (zgr T n) 8 := by simp only [zgr]; rw [hk]
  refine ⟨hI.1.tr h1, h3.imp (fun ⟨a1, a2, a3, a4⟩ => ?_) (fun ⟨b1, b2⟩ => ⟨b1, zfit_no (n := n + 1) (by rw [hgr]; exact b2)⟩)⟩
  obtain ⟨i1, i2, i3, i4, i5⟩ := hI.2.resolve_right (fun h => by rw [hz] at h; exact absurd h.1 (by decide))
  have hnl := (List.getElem?_eq_some_iff.mp hk).1
  refine ⟨a1, ?_, by rw [hgr]; exact a2, by rw [hgr]; exact a3, fun x q hx hq y hy => ?_⟩
  · have := zgr_len T n 1
    omega
  · by_cases hxn : x = n
    · subst hxn
      have hqk : q = k := by
        rw [hgr, zgx_get hk 8] at hq; exact (Option.some.inj hq).symm
      subst hqk
      rw [hgr]; exact a4 y hy
    · obtain ⟨L2, hL2⟩ := zgr_pre T n 1
      have hq2 : (zgr T n)[x]? = some q := by
        rw [hL2, List.getElem?_append_left (by omega)] at hq; exact hq
      have h8 := (i5 x q (by omega) hq2 y hy).app hL2
      have h9 : w2.2.1 143 (x * 8 + y) = w1.2.1 143 (x * 8 + y) := h2 _ (by omega)
      unfold zNx at *
      rw [h9]; exact h8
theorem zBy.end {w w1 : zW} {T : zTo} {n : Nat} (hA : zMa w T) (hI : zBy w w1 T n) (hn : w1.2.1 100 45 = 0 → (zgr T n).length ≤ n) : (w1.2.1 100 45 = 0 ∧ ∃ K, zMK w1 T K) ∨ (w1.2.1 100 45 = 1 ∧ ¬ zfit T 20000) := by
  refine hI.2.imp (fun ⟨a1, a2, a3, a4, a5⟩ => ⟨a1, _, hA.fm hI.1 (by decide), a3, ⟨n, rfl, hn a1⟩, fun x k hx y hy => a5 x k (by have := (List.getElem?_eq_some_iff.mp hx).1; have := hn a1; omega) hx y hy⟩) (fun h => h)
set_option maxRecDepth 100000 in
theorem c_Mo_builds (Δ : zD) (w : zW) (T : zTo) (hA : zMa w T) (hT : zTok T) (hpos : 0 < T.1 0) : zMp Δ 2 yX9_builds mX9_builds [.ref 100, .int (nI (T.1 12))] w (fun a c => zFM [38, 39, 40, 41, 42, 43, 44, 45] w c ∧ ((a = some (.int 1) ∧ ∃ K, zMK c T K) ∨ (a = some (.int 0) ∧ ¬ zfit T 20000))) := by
  refine zMp.of mfX9_builds (Nat.le_of_ble_eq_true rfl) (fun QR hQ => ?_)
  have hA0 := hA
  obtain ⟨hM, m1, m3, m4, m5, m6, m7, m46, m9, m47, mso, mnu, mwt⟩ := hA
  have hT0 := hT
  obtain ⟨hp0, hp5, hp6, hp7, hp8, hp9, hp10, hp11, hp12, hp13, hpp, hpw⟩ := hT
  have LO : ∀ n, n ≤ 20001 → ∀ w1, zBy w w1 T n → zJ Δ mX9_builds (zRm 2 0 0) true w.1 QR (fun _ _ => False) 0 0 68 [(2, .int (nI n)), (0, .ref 100), (1, .int (nI (T.1 12)))] [] w1 := by
    refine zup (fun n hn ih w1 hI => ?_)
    have hA_w1 : zMa w1 T := hA0.fm hI.1 (by decide)
    obtain ⟨M_w1, m1_w1, m3_w1, m4_w1, m5_w1, m6_w1, m7_w1, m46_w1, m9_w1, m47_w1, mso_w1, mnu_w1, mwt_w1⟩ := hA_w1
    refine zJ_iload_n dX9_builds_68 rfl ?_
    refine zJ_aload_n dX9_builds_69 rfl ?_
    refine zJ_geti dX9_builds_70 fX9_354 (by first | rfl | assumption | exact M_w1.at (by decide) (by decide)) rfl ?_
    refine zJ_icmp_ge (tgt := 251) dX9_builds_73 (by decide) (fun h73 => ?_) (fun h73 => ?_)
    · have hend : w1.2.1 100 45 = 0 → (zgr T n).length ≤ n := fun h7 => by
        rcases hI.2 with ⟨-, -, h, -⟩ | h
        · have h8 := h.2.2.1
          rw [h.2.1] at h73
          exact (nI_leI (a := (zgr T n).length) (b := n) (by omega) (by omega)).mp h73
        · rw [h.1] at h7; exact absurd h7 (by decide)
      refine zJ_aload_n dX9_builds_251 rfl ?_
      refine zJ_geti dX9_builds_252 fX9_357 (by first | rfl | assumption | exact M_w1.at (by decide) (by decide)) rfl ?_
      refine zJ_if_ne (tgt := 262) dX9_builds_255 (by decide) (fun h255e1 => ?_) (fun h255e1 => ?_)
      · have h1 := (hI.end hA0 hend).resolve_left (fun h => h255e1 h.1)
        refine zJ_iconst (v := 0) dX9_builds_262 (by decide) ?_
        exact zJ_zret dX9_builds_263 rfl rfl (by decide) (by decide) (hQ _ _ ⟨hI.1, Or.inr ⟨rfl, h1.2⟩⟩)
      · have h1 := (hI.end hA0 hend).resolve_right (fun h => by rw [h.1] at h255e1; exact absurd h255e1 (by decide))
        refine zJ_iconst (v := 1) dX9_builds_258 (by decide) ?_
        refine zJ_goto (tgt := 263) dX9_builds_259 (by decide) ?_
        exact zJ_zret dX9_builds_263 rfl rfl (by decide) (by decide) (hQ _ _ ⟨hI.1, Or.inl ⟨rfl, h1.2⟩⟩)
    · refine zJ_aload_n dX9_builds_76 rfl ?_
      refine zJ_geti dX9_builds_77 fX9_357 (by first | rfl | assumption | exact M_w1.at (by decide) (by decide)) rfl ?_
      refine zJ_if_ne (tgt := 251) dX9_builds_80 (by decide) (fun h80 => ?_) (fun h80 => ?_)
      · have hend : w1.2.1 100 45 = 0 → (zgr T n).length ≤ n := fun h7 => absurd h7 h80
        refine zJ_aload_n dX9_builds_251 rfl ?_
        refine zJ_geti dX9_builds_252 fX9_357 (by first | rfl | assumption | exact M_w1.at (by decide) (by decide)) rfl ?_
        refine zJ_if_ne (tgt := 262) dX9_builds_255 (by decide) (fun h255e2 => ?_) (fun h255e2 => ?_)
        · have h1 := (hI.end hA0 hend).resolve_left (fun h => h255e2 h.1)
          refine zJ_iconst (v := 0) dX9_builds_262 (by decide) ?_
          exact zJ_zret dX9_builds_263 rfl rfl (by decide) (by decide) (hQ _ _ ⟨hI.1, Or.inr ⟨rfl, h1.2⟩⟩)
        · have h1 := (hI.end hA0 hend).resolve_right (fun h => by rw [h.1] at h255e2; exact absurd h255e2 (by decide))
          refine zJ_iconst (v := 1) dX9_builds_258 (by decide) ?_
          refine zJ_goto (tgt := 263) dX9_builds_259 (by decide) ?_
          exact zJ_zret dX9_builds_263 rfl rfl (by decide) (by decide) (hQ _ _ ⟨hI.1, Or.inl ⟨rfl, h1.2⟩⟩)
      · obtain ⟨i1, i2, i3, i4, i5⟩ := hI.2.resolve_right (fun h => by rw [h.1] at h80; exact absurd h80 (by decide))
        have hlR := i3.2.2.1
        have hnl : n < (zgr T n).length := Nat.lt_of_not_le fun h => h73 (by rw [i3.2.1]; exact (nI_leI (by omega) (by omega)).mpr h)
        obtain ⟨k, hk⟩ : ∃ k, (zgr T n)[n]? = some k := ⟨_, List.getElem?_eq_getElem hnl⟩
        obtain ⟨hkk, hkp⟩ := i3.2.2.2 k (List.mem_iff_getElem?.mpr ⟨n, hk⟩)
        have hk8 := hkk.1
        generalize hKe : zgr T n = K at i3 i4 hk hnl hlR
        have LI : ∀ j, j ≤ T.1 0 → ∀ w2, zBh w1 w2 n T k K j → zJ Δ mX9_builds (zRm 2 0 0) true w.1 QR (fun _ _ => False) 0 0 111 [(3, .int (nI j)), (2, .int (nI n)), (0, .ref 100), (1, .int (nI (T.1 12)))] [] w2 := by
          refine zup (fun j hj ihj w2 hJ => ?_)
          have hA_w2 : zMa w2 T := hA0.fm (hI.1.tr hJ.1) (by decide)
          obtain ⟨M_w2, m1_w2, m3_w2, m4_w2, m5_w2, m6_w2, m7_w2, m46_w2, m9_w2, m47_w2, mso_w2, mnu_w2, mwt_w2⟩ := hA_w2
          have J235 : j < T.1 0 → zmay T k j = true → w2.2.1 100 45 = 0 → zJ Δ mX9_builds (zRm 2 0 0) true w.1 QR (fun _ _ => False) 0 0 235 [(4, .int (nI (zbk T k j).2.2.1)), (3, .int (nI j)), (2, .int (nI n)), (0, .ref 100), (1, .int (nI (T.1 12)))] [.int (nI (zbk T k j).2.2.2), .int (nI (zbk T k j).2.2.1), .int (nI (zbk T k j).2.1), .int (nI (zbk T k j).1), .ref 100, .int (8 * nI n + nI j), .ref 143] w2 := by
            intro hj9 hyes hz2
            obtain ⟨j1, j2, j3, j4, j5⟩ := hJ.2.2.resolve_right (fun h => by rw [hz2] at h; exact absurd h.1 (by decide))
            have hgx : zgx T k K (j + 1) = zins (zgx T k K j) (zbk T k j) := by simp only [zgx, hyes, if_true]
            have hbok : zkok T (zbk T k j) := zkok.bk hkk (by omega) hyes
            have hjl := j2.2.2.1
            have hn20 : n * 8 + j < 160000 := by omega
            refine zJ_eV4 dX9_builds_235 sX9_360 mfX9_hand0 (c_Mo_hand0 Δ w2 T (zgx T k K j) (zbk T k j) M_w2 j2 j3 hT0 hbok hj9) (M_w2.at (by decide) (by decide)) rfl (Nat.le_of_ble_eq_true rfl) (by decide) (by decide) (fun r w3 hP => ?_)
            rcases hP with ⟨c, hc, rfl, hw3⟩ | ⟨hkn, hlt, rfl, hw2, hh2, hfr⟩ | ⟨hkn, hful, rfl, rfl⟩
            · obtain rfl := hw3.symm
              refine zJ_iastN (i := n * 8 + j) dX9_builds_238 (M_w2.at (a := 143) (by decide) (by decide)) (na_8 _ _) (by omega) (by decide) ?_
              refine zJ_ls [(3, .int (nI j)), (2, .int (nI n)), (0, .ref 100), (1, .int (nI (T.1 12)))] (by simp) ?_
              refine zJ_iinc (ls2 := fun x239 => [(3, .int x239), (2, .int (nI n)), (0, .ref 100), (1, .int (nI (T.1 12)))]) dX9_builds_239 rfl (by decide) (fun _ => rfl) (fun x239 ex239 => ?_)
              rw [ex239, show nI j + Int32.ofInt 1 = nI (j + 1) from nI_1 _]
              refine zJ_goto (tgt := 111) dX9_builds_242 (by decide) ?_
              refine ihj (j + 1) (by omega) (by omega) _ ?_
              have hmem : zbk T k j ∈ zgx T k K j := List.mem_iff_getElem?.mpr ⟨c, hc⟩
              have e : zgx T k K (j + 1) = zgx T k K j := by rw [hgx, zins, if_pos hmem]
              have hfm9 : zFM [43] w2 (zsi w2 143 (n * 8 + j) (nI c)) := zFM.i (by first | decide | exact Or.inr (by decide))
              have hfm : zFM [38, 39, 40, 41, 42, 43, 44, 45] w2 (zsi w2 143 (n * 8 + j) (nI c)) := zFM.i (by first | decide | exact Or.inr (by decide))
              refine ⟨hJ.1.tr hfm, fun q hq => ?_, Or.inl ?_⟩
              · have h1 : ¬ q = n * 8 + j := by omega
                rw [← hJ.2.1 q hq]; simp [zsi, h1]
              · rw [e]
                refine ⟨(hfm9.at (by decide)).trans j1, j2.fm hfm9 (by decide), j3.fm hfm9 (by decide), fun y hy => ?_, fun y h1 h2 => ?_⟩
                · by_cases hyj : y = j
                  · rw [hyj]
                    exact ⟨fun _ => ⟨c, hc, by simp [zsi]⟩, fun h => by rw [hyes] at h; cases h⟩
                  · have h5 : ¬ n * 8 + y = n * 8 + j := by omega
                    have h6 := j4 y (by omega)
                    unfold zNx at *
                    simp only [zsi, h5, and_false, if_false]
                    exact h6
                · have h5 : ¬ n * 8 + y = n * 8 + j := by omega
                  simp only [zsi, h5, and_false, if_false]
                  exact j5 y (by omega) h2
            · have M_w3 : zMs w3 := M_w2.fm hfr
              refine zJ_iastN (i := n * 8 + j) dX9_builds_238 (M_w3.at (a := 143) (by decide) (by decide)) (na_8 _ _) (by omega) (by decide) ?_
              refine zJ_ls [(3, .int (nI j)), (2, .int (nI n)), (0, .ref 100), (1, .int (nI (T.1 12)))] (by simp) ?_
              refine zJ_iinc (ls2 := fun x239 => [(3, .int x239), (2, .int (nI n)), (0, .ref 100), (1, .int (nI (T.1 12)))]) dX9_builds_239 rfl (by decide) (fun _ => rfl) (fun x239 ex239 => ?_)
              rw [ex239, show nI j + Int32.ofInt 1 = nI (j + 1) from nI_1 _]
              refine zJ_goto (tgt := 111) dX9_builds_242 (by decide) ?_
              refine ihj (j + 1) (by omega) (by omega) _ ?_
              have e : zgx T k K (j + 1) = zgx T k K j ++ [zbk T k j] := by rw [hgx, zins, if_neg hkn]
              have hfm9 : zFM [43] w3 (zsi w3 143 (n * 8 + j) (nI (zgx T k K j).length)) := zFM.i (by first | decide | exact Or.inr (by decide))
              have hfm : zFM [38, 39, 40, 41, 42, 43, 44, 45] w2 (zsi w3 143 (n * 8 + j) (nI (zgx T k K j).length)) := (hfr.mono (by decide)).tr (hfm9.mono (by decide))
              have e143 : ∀ q, w3.2.1 143 q = w2.2.1 143 q := fun q => hfr.ar (k := 43) (by decide) (by decide)
              refine ⟨hJ.1.tr hfm, fun q hq => ?_, Or.inl ?_⟩
              · have h1 : ¬ q = n * 8 + j := by omega
                rw [← hJ.2.1 q hq, ← e143]; simp [zsi, h1]
              · rw [e]
                refine ⟨(hfm9.at (by decide)).trans ((hfr.at (by decide)).trans j1), hw2.fm hfm9 (by decide), hh2.fm hfm9 (by decide), fun y hy => ?_, fun y h1 h2 => ?_⟩
                · by_cases hyj : y = j
                  · rw [hyj]
                    exact ⟨fun _ => ⟨(zgx T k K j).length, by simp, by simp [zsi]⟩, fun h => by rw [hyes] at h; cases h⟩
                  · have h5 : ¬ n * 8 + y = n * 8 + j := by omega
                    have h6 := (j4 y (by omega)).app (L := zgx T k K j ++ [zbk T k j]) rfl
                    unfold zNx at *
                    simp only [zsi, h5, and_false, if_false, e143]
                    exact h6
                · have h5 : ¬ n * 8 + y = n * 8 + j := by omega
                  simp only [zsi, h5, and_false, if_false, e143]
                  exact j5 y (by omega) h2
            · refine zJ_iastN (i := n * 8 + j) dX9_builds_238 (M_w2.at (a := 143) (by decide) (by decide)) (na_8 _ _) (by omega) (by decide) ?_
              refine zJ_ls [(3, .int (nI j)), (2, .int (nI n)), (0, .ref 100), (1, .int (nI (T.1 12)))] (by simp) ?_
              refine zJ_iinc (ls2 := fun x239 => [(3, .int x239), (2, .int (nI n)), (0, .ref 100), (1, .int (nI (T.1 12)))]) dX9_builds_239 rfl (by decide) (fun _ => rfl) (fun x239 ex239 => ?_)
              rw [ex239, show nI j + Int32.ofInt 1 = nI (j + 1) from nI_1 _]
              refine zJ_goto (tgt := 111) dX9_builds_242 (by decide) ?_
              refine ihj (j + 1) (by omega) (by omega) _ ?_
              have e : zgx T k K (j + 1) = zgx T k K j ++ [zbk T k j] := by rw [hgx, zins, if_neg hkn]
              have hfm : zFM [38, 39, 40, 41, 42, 43, 44, 45] w2 (zsi (zsi w2 100 45 1) 143 (n * 8 + j) (-1)) := (zFM.i (by first | decide | exact Or.inr (by decide))).tr (zFM.i (by first | decide | exact Or.inr (by decide)))
              refine ⟨hJ.1.tr hfm, fun q hq => ?_, Or.inr ⟨by simp [zsi], ?_⟩⟩
              · have h1 : ¬ q = n * 8 + j := by omega
                rw [← hJ.2.1 q hq]; simp [zsi, h1]
              · have h0 := zgx_len (T := T) (k := k) (K := K) (j := j + 1) (d := 8 - (j + 1))
                rw [show j + 1 + (8 - (j + 1)) = 8 by omega, e] at h0
                simp at h0; omega
          have J178 : j < T.1 0 → zmay T k j = true → w2.2.1 100 45 = 0 → zMq w2 T (zgx T k K j) → zJ Δ mX9_builds (zRm 2 0 0) true w.1 QR (fun _ _ => False) 0 0 178 [(4, .int (nI (zbk T k j).2.2.1)), (3, .int (nI j)), (2, .int (nI n)), (0, .ref 100), (1, .int (nI (T.1 12)))] [] w2 := by
            intro hj9 hyes hz2 hN2
            obtain ⟨y1, y2, y3, y4⟩ := hN2.1 n k (zgx_get hk j)
            refine zJ_aload_n dX9_builds_178 rfl ?_
            refine zJ_getr (j := 143) dX9_builds_179 fX9_63 (by first | rfl | assumption | exact M_w2.at (by decide) (by decide)) rfl (by first | rfl | assumption | exact M_w2.rf (by decide) rfl) ?_
            refine zJ_bipush (v := 8) dX9_builds_182 (by decide) ?_
            refine zJ_iload_n dX9_builds_184 rfl ?_
            refine zJ_imul dX9_builds_185 ?_
            refine zJ_iload_n dX9_builds_186 rfl ?_
            refine zJ_iadd dX9_builds_187 ?_
            refine zJ_aload_n dX9_builds_188 rfl ?_
            refine zJ_iload_n dX9_builds_189 rfl ?_
            refine zJ_aload_n dX9_builds_190 rfl ?_
            refine zJ_getr (j := 140) dX9_builds_191 fX9_53 (by first | rfl | assumption | exact M_w2.at (by decide) (by decide)) rfl (by first | rfl | assumption | exact M_w2.rf (by decide) rfl) ?_
            refine zJ_iload_n dX9_builds_194 rfl ?_
            refine zJ_ialdN (i := n) (v := (nI k.2.1)) dX9_builds_195 (by first | rfl | assumption | exact M_w2.at (by decide) (by decide)) rfl (by omega) (by decide) y2 ?_
            refine zJ_iconst (v := 1) dX9_builds_196 (by decide) ?_
            refine zJ_iadd dX9_builds_197 ?_
            refine zJ_iload dX9_builds_198 rfl ?_
            refine zJ_aload_n dX9_builds_200 rfl ?_
            refine zJ_getiN dX9_builds_201 fX9_342 (by first | rfl | assumption | exact M_w2.at (by decide) (by decide)) rfl m46_w2 ?_
            refine zJ_if_eq (tgt := 234) dX9_builds_204 (by decide) (fun h204 => ?_) (fun h204 => ?_)
            · have hl0 : T.1 10 = 0 := (nI_eq (b := 0) (by omega) (by decide)).mp h204
              refine zJ_iconst (v := 0) dX9_builds_234 (by decide) ?_
              refine zJ_st (st2 := [.int (nI (zbk T k j).2.2.2), .int (nI (zbk T k j).2.2.1), .int (nI (zbk T k j).2.1), .int (nI (zbk T k j).1), .ref 100, .int (8 * nI n + nI j), .ref 143]) ?_ (J235 hj9 hyes hz2)
              rw [show nI (zbk T k j).2.1 = nI k.2.1 + 1 from (nI_1 _).symm]
              refine congrArg (fun z => Value.int z :: _) (by simp only [zbk]; rw [show zcs T = false by simp [zcs, hl0]]; rfl)
            · refine zJ_aload_n dX9_builds_207 rfl ?_
              refine zJ_getiN dX9_builds_208 fX9_307 (by first | rfl | assumption | exact M_w2.at (by decide) (by decide)) rfl m7_w2 ?_
              refine zJ_if_le (tgt := 234) dX9_builds_211 (by decide) (fun h211 => ?_) (fun h211 => ?_)
              · have hl9 : ¬ 0 < T.1 9 := fun h => absurd ((nI_leI (b := 0) (by omega) (by decide)).mp h211) (by omega)
                refine zJ_iconst (v := 0) dX9_builds_234 (by decide) ?_
                refine zJ_st (st2 := [.int (nI (zbk T k j).2.2.2), .int (nI (zbk T k j).2.2.1), .int (nI (zbk T k j).2.1), .int (nI (zbk T k j).1), .ref 100, .int (8 * nI n + nI j), .ref 143]) ?_ (J235 hj9 hyes hz2)
                rw [show nI (zbk T k j).2.1 = nI k.2.1 + 1 from (nI_1 _).symm]
                refine congrArg (fun z => Value.int z :: _) (by simp only [zbk]; rw [show zcs T = false by simp [zcs, hl9]]; rfl)
              · have hl0 : ¬ T.1 10 = 0 := fun h => h204 (by rw [h]; rfl)
                have hl9 : 0 < T.1 9 := Nat.pos_of_ne_zero fun h => h211 (by rw [h]; exact Int32.le_refl _)
                refine zJ_aload_n dX9_builds_214 rfl ?_
                refine zJ_getr (j := 142) dX9_builds_215 fX9_59 (by first | rfl | assumption | exact M_w2.at (by decide) (by decide)) rfl (by first | rfl | assumption | exact M_w2.rf (by decide) rfl) ?_
                refine zJ_iload_n dX9_builds_218 rfl ?_
                refine zJ_ialdN (i := n) (v := (nI k.2.2.2)) dX9_builds_219 (by first | rfl | assumption | exact M_w2.at (by decide) (by decide)) rfl (by omega) (by decide) y4 ?_
                refine zJ_iconst (v := 1) dX9_builds_220 (by decide) ?_
                refine zJ_iconst (v := 4) dX9_builds_221 (by decide) ?_
                refine zJ_aload_n dX9_builds_222 rfl ?_
                refine zJ_getr (j := 139) dX9_builds_223 fX9_50 (by first | rfl | assumption | exact M_w2.at (by decide) (by decide)) rfl (by first | rfl | assumption | exact M_w2.rf (by decide) rfl) ?_
                refine zJ_iload_n dX9_builds_226 rfl ?_
                refine zJ_ialdN (i := n) (v := (nI k.1)) dX9_builds_227 (by first | rfl | assumption | exact M_w2.at (by decide) (by decide)) rfl (by omega) (by decide) y1 ?_
                refine zJ_imul dX9_builds_228 ?_
                refine zJ_ishl dX9_builds_229 ?_
                refine zJ_iadd dX9_builds_230 ?_
                refine zJ_goto (tgt := 235) dX9_builds_231 (by decide) ?_
                refine zJ_st (st2 := [.int (nI (zbk T k j).2.2.2), .int (nI (zbk T k j).2.2.1), .int (nI (zbk T k j).2.1), .int (nI (zbk T k j).1), .ref 100, .int (8 * nI n + nI j), .ref 143]) ?_ (J235 hj9 hyes hz2)
                rw [show nI (zbk T k j).2.1 = nI k.2.1 + 1 from (nI_1 _).symm]
                refine congrArg (fun z => Value.int z :: _) (by simp only [zbk]; rw [show zcs T = true by simp [zcs, hl0]; omega, if_pos rfl, ← na_add, ← na_shl _ (by omega), show nI (4 * k.1) = 4 * nI k.1 from (na_mul 4 k.1).symm])
          refine zJ_iload_n dX9_builds_111 rfl ?_
          refine zJ_aload_n dX9_builds_112 rfl ?_
          refine zJ_getiN dX9_builds_113 fX9_298 (by first | rfl | assumption | exact M_w2.at (by decide) (by decide)) rfl m1_w2 ?_
          refine zJ_icmp_ge (tgt := 245) dX9_builds_116 (by decide) (fun h116 => ?_) (fun h116 => ?_)
          · have hB2 : zBy w w2 T (n + 1) := hI.step hT0 i1 (by rw [hKe]; exact hk) (by rw [hKe]; have hj9 : j = T.1 0 := Nat.le_antisymm hj ((nI_leI (by omega) (by omega)).mp h116); rw [← hj9]; exact hJ) hk8
            refine zJ_iinc (ls2 := fun x245f1 => [(2, .int x245f1), (3, .int (nI j)), (0, .ref 100), (1, .int (nI (T.1 12)))]) dX9_builds_245 rfl (by decide) (fun _ => rfl) (fun x245f1 ex245f1 => ?_)
            refine zJ_goto (tgt := 68) dX9_builds_248 (by decide) ?_
            refine zJ_ls [(2, .int x245f1), (0, .ref 100), (1, .int (nI (T.1 12)))] (by simp) ?_
            rw [ex245f1, show nI n + Int32.ofInt 1 = nI (n + 1) from nI_1 _]
            exact ih (n + 1) (by omega) (by omega) w2 hB2
          · have hj9 : j < T.1 0 := Nat.lt_of_not_le fun hq9 => h116 ((nI_leI (by omega) (by omega)).mpr hq9)
            refine zJ_aload_n dX9_builds_119 rfl ?_
            refine zJ_geti dX9_builds_120 fX9_357 (by first | rfl | assumption | exact M_w2.at (by decide) (by decide)) rfl ?_
            refine zJ_if_ne (tgt := 245) dX9_builds_123 (by decide) (fun h123 => ?_) (fun h123 => ?_)
            · have hB2 : zBy w w2 T (n + 1) := hI.step hT0 i1 (by rw [hKe]; exact hk) (by rw [hKe]; exact ⟨hJ.1, hJ.2.1, Or.inr (hJ.2.2.resolve_left (fun h => h123 h.1))⟩) hk8
              refine zJ_iinc (ls2 := fun x245f2 => [(2, .int x245f2), (3, .int (nI j)), (0, .ref 100), (1, .int (nI (T.1 12)))]) dX9_builds_245 rfl (by decide) (fun _ => rfl) (fun x245f2 ex245f2 => ?_)
              refine zJ_goto (tgt := 68) dX9_builds_248 (by decide) ?_
              refine zJ_ls [(2, .int x245f2), (0, .ref 100), (1, .int (nI (T.1 12)))] (by simp) ?_
              rw [ex245f2, show nI n + Int32.ofInt 1 = nI (n + 1) from nI_1 _]
              exact ih (n + 1) (by omega) (by omega) w2 hB2
            · obtain ⟨j1, j2, j3, j4, j5⟩ := hJ.2.2.resolve_right (fun h => by rw [h.1] at h123; exact absurd h123 (by decide))
              refine zJ_aload_n dX9_builds_126 rfl ?_
              refine zJ_iload_n dX9_builds_127 rfl ?_
              refine zJ_iload_n dX9_builds_128 rfl ?_
              refine zJ_cV2 dX9_builds_129 sX9_363 mfX9_may (c_Mo_may Δ w2 T (zgx T k K j) (hA0.fm (hI.1.tr hJ.1) (by decide)) j2 hT0 n j k (zgx_get hk j) hj9) (by first | rfl | assumption | exact M_w2.at (by decide) (by decide)) rfl (Nat.le_of_ble_eq_true rfl) (by decide) (by decide) ?_
              refine zJ_if_ne (tgt := 138) dX9_builds_132 (by decide) (fun h132 => ?_) (fun h132 => ?_)
              · have hyes : zmay T k j = true := by
                  cases hz : zmay T k j with
                  | true => rfl
                  | false => rw [hz] at h132; exact absurd rfl h132
                obtain ⟨y1, y2, y3, y4⟩ := j2.1 n k (zgx_get hk j)
                refine zJ_aload_n dX9_builds_138 rfl ?_
                refine zJ_getiN dX9_builds_139 fX9_342 (by first | rfl | assumption | exact M_w2.at (by decide) (by decide)) rfl m46_w2 ?_
                refine zJ_if_ne (tgt := 158) dX9_builds_142 (by decide) (fun h142 => ?_) (fun h142 => ?_)
                · have hl0 : ¬ T.1 10 = 0 := fun h => h142 (by rw [h]; rfl)
                  refine zJ_aload_n dX9_builds_158 rfl ?_
                  refine zJ_getiN dX9_builds_159 fX9_342 (by first | rfl | assumption | exact M_w2.at (by decide) (by decide)) rfl m46_w2 ?_
                  refine zJ_iconst (v := 1) dX9_builds_162 (by decide) ?_
                  refine zJ_icmp_ne (tgt := 175) dX9_builds_163 (by decide) (fun h163 => ?_) (fun h163 => ?_)
                  · have hl1 : ¬ T.1 10 = 1 := fun h => h163 (by rw [h]; rfl)
                    refine zJ_iconst (v := 0) dX9_builds_175 (by decide) ?_
                    refine zJ_istore (ls2 := fun x176 => [(4, .int x176), (3, .int (nI j)), (2, .int (nI n)), (0, .ref 100), (1, .int (nI (T.1 12)))]) dX9_builds_176 (by decide) (fun _ => rfl) (fun x176 ex176 => ?_)
                    obtain rfl : x176 = nI (zbk T k j).2.2.1 := (by rw [ex176]; simp only [zbk]; rw [if_neg hl0, if_neg hl1]; rfl)
                    exact J178 hj9 hyes j1 j2
                  · have hl1 : T.1 10 = 1 := (nI_eq (b := 1) (by omega) (by decide)).mp h163
                    refine zJ_aload_n dX9_builds_166 rfl ?_
                    refine zJ_getr (j := 139) dX9_builds_167 fX9_50 (by first | rfl | assumption | exact M_w2.at (by decide) (by decide)) rfl (by first | rfl | assumption | exact M_w2.rf (by decide) rfl) ?_
                    refine zJ_iload_n dX9_builds_170 rfl ?_
                    refine zJ_ialdN (i := n) (v := (nI k.1)) dX9_builds_171 (by first | rfl | assumption | exact M_w2.at (by decide) (by decide)) rfl (by omega) (by decide) y1 ?_
                    refine zJ_goto (tgt := 176) dX9_builds_172 (by decide) ?_
                    refine zJ_istore (ls2 := fun x176 => [(4, .int x176), (3, .int (nI j)), (2, .int (nI n)), (0, .ref 100), (1, .int (nI (T.1 12)))]) dX9_builds_176 (by decide) (fun _ => rfl) (fun x176 ex176 => ?_)
                    obtain rfl : x176 = nI (zbk T k j).2.2.1 := (by rw [ex176]; simp only [zbk]; rw [if_neg hl0, if_pos hl1])
                    exact J178 hj9 hyes j1 j2
                · have hl0 : T.1 10 = 0 := (nI_eq (b := 0) (by omega) (by decide)).mp h142
                  refine zJ_aload_n dX9_builds_145 rfl ?_
                  refine zJ_getr (j := 141) dX9_builds_146 fX9_56 (by first | rfl | assumption | exact M_w2.at (by decide) (by decide)) rfl (by first | rfl | assumption | exact M_w2.rf (by decide) rfl) ?_
                  refine zJ_iload_n dX9_builds_149 rfl ?_
                  refine zJ_ialdN (i := n) (v := (nI k.2.2.1)) dX9_builds_150 (by first | rfl | assumption | exact M_w2.at (by decide) (by decide)) rfl (by omega) (by decide) y3 ?_
                  refine zJ_iconst (v := 1) dX9_builds_151 (by decide) ?_
                  refine zJ_iload_n dX9_builds_152 rfl ?_
                  refine zJ_ishl dX9_builds_153 ?_
                  refine zJ_ior dX9_builds_154 ?_
                  refine zJ_goto (tgt := 176) dX9_builds_155 (by decide) ?_
                  refine zJ_istore (ls2 := fun x176 => [(4, .int x176), (3, .int (nI j)), (2, .int (nI n)), (0, .ref 100), (1, .int (nI (T.1 12)))]) dX9_builds_176 (by decide) (fun _ => rfl) (fun x176 ex176 => ?_)
                  obtain rfl : x176 = nI (zbk T k j).2.2.1 := (by rw [ex176]; simp only [zbk]; rw [if_pos hl0, na_shl j (by omega), na_or])
                  exact J178 hj9 hyes j1 j2
              · refine zJ_goto (tgt := 239) dX9_builds_135 (by decide) ?_
                refine zJ_ls [(3, .int (nI j)), (2, .int (nI n)), (0, .ref 100), (1, .int (nI (T.1 12)))] (by simp) ?_
                refine zJ_iinc (ls2 := fun x239 => [(3, .int x239), (2, .int (nI n)), (0, .ref 100), (1, .int (nI (T.1 12)))]) dX9_builds_239 rfl (by decide) (fun _ => rfl) (fun x239 ex239 => ?_)
                rw [ex239, show nI j + Int32.ofInt 1 = nI (j + 1) from nI_1 _]
                refine zJ_goto (tgt := 111) dX9_builds_242 (by decide) ?_
                refine ihj (j + 1) (by omega) (by omega) _ ?_
                have hno : zmay T k j = false := by
                  cases hz : zmay T k j with
                  | false => rfl
                  | true => rw [hz] at h132; exact absurd h132 (by decide)
                have e : zgx T k K (j + 1) = zgx T k K j := by simp only [zgx, hno]; rfl
                refine ⟨hJ.1, hJ.2.1, Or.inl ?_⟩
                rw [e]
                refine ⟨j1, j2, j3, fun y hy => ?_, fun y h1 h2 => j5 y (by omega) h2⟩
                by_cases hyj : y = j
                · subst hyj
                  exact ⟨fun h => (by rw [hno] at h; cases h), fun _ => j5 y (Nat.le_refl _) (by omega)⟩
                · exact j4 y (by omega)
        have LC : ∀ j, j ≤ 8 → zJ Δ mX9_builds (zRm 2 0 0) true w.1 QR (fun _ _ => False) 0 0 85 [(3, .int (nI j)), (2, .int (nI n)), (0, .ref 100), (1, .int (nI (T.1 12)))] [] (zrow w1 143 (fun q => if n * 8 ≤ q ∧ q < n * 8 + j then -1 else w1.2.1 143 q)) := by
          refine zup (fun j hj ihj => ?_)
          have hn20 : n < 20000 := by omega
          refine zJ_iload_n dX9_builds_85 rfl ?_
          refine zJ_bipush (v := 8) dX9_builds_86 (by decide) ?_
          refine zJ_icmp_ge (tgt := 109) dX9_builds_88 (by decide) (fun h88 => ?_) (fun h88 => ?_)
          · have hj9 : j = 8 := by exact Nat.le_antisymm hj ((nI_leI (a := 8) (b := j) (by omega) (by omega)).mp h88)
            subst hj9
            refine zJ_iconst (v := 0) dX9_builds_109 (by decide) ?_
            refine zJ_istore_n (ls2 := fun x110 => [(3, .int x110), (2, .int (nI n)), (0, .ref 100), (1, .int (nI (T.1 12)))]) dX9_builds_110 (by decide) (fun _ => rfl) (fun x110 ex110 => ?_)
            rw [ex110]
            have hfr : zFM [43] w1 (zrow w1 143 (fun q => if n * 8 ≤ q ∧ q < n * 8 + 8 then -1 else w1.2.1 143 q)) := zFM.row (by decide)
            refine LI 0 (Nat.zero_le _) _ ⟨hfr.mono (by decide), fun q hq => ?_, Or.inl ⟨(hfr.at (by decide)).trans i1, i3.fm hfr (by decide), i4.fm hfr (by decide), fun y hy => absurd hy (Nat.not_lt_zero y), fun y _ hy => ?_⟩⟩
            · rw [zrow_get, if_neg (by omega)]
            · rw [zrow_get, if_pos (by omega)]
          · have hj9 : j < 8 := Nat.lt_of_not_le fun hq9 => h88 (by exact (nI_leI (a := 8) (b := j) (by omega) (by omega)).mpr hq9)
            refine zJ_aload_n dX9_builds_91 rfl ?_
            refine zJ_getr (j := 143) dX9_builds_92 fX9_63 (by first | rfl | assumption | exact M_w1.at (by decide) (by decide)) rfl (by first | rfl | assumption | exact M_w1.rf (by decide) rfl) ?_
            refine zJ_bipush (v := 8) dX9_builds_95 (by decide) ?_
            refine zJ_iload_n dX9_builds_97 rfl ?_
            refine zJ_imul dX9_builds_98 ?_
            refine zJ_iload_n dX9_builds_99 rfl ?_
            refine zJ_iadd dX9_builds_100 ?_
            refine zJ_iconst (v := (-1)) dX9_builds_101 (by decide) ?_
            refine zJ_iastN (i := (n * 8 + j)) dX9_builds_102 (by first | rfl | assumption | exact M_w1.at (by decide) (by decide)) (na_8 _ _) (by omega) (by decide) ?_
            refine zJ_iinc (ls2 := fun x103 => [(3, .int x103), (2, .int (nI n)), (0, .ref 100), (1, .int (nI (T.1 12)))]) dX9_builds_103 rfl (by decide) (fun _ => rfl) (fun x103 ex103 => ?_)
            refine zJ_goto (tgt := 85) dX9_builds_106 (by decide) ?_
            refine zJ_ls [(3, .int x103), (2, .int (nI n)), (0, .ref 100), (1, .int (nI (T.1 12)))] (by simp) ?_
            rw [ex103, show nI j + Int32.ofInt 1 = nI (j + 1) from nI_1 _]
            refine zJ_w ?_ (ihj (j + 1) (by omega) (by omega))
            rw [zsi_row, zrow_get, zrow_row]
            refine congrArg (zrow w1 143) (funext fun q => ?_)
            by_cases h : q = n * 8 + j
            · rw [if_pos h, if_pos (by omega)]
            · rw [if_neg h]
              by_cases h2 : n * 8 ≤ q ∧ q < n * 8 + j
              · rw [if_pos h2, if_pos (by omega)]
              · rw [if_neg h2, if_neg (by omega)]
        refine zJ_iconst (v := 0) dX9_builds_83 (by decide) ?_
        refine zJ_istore_n (ls2 := fun x84 => [(3, .int x84), (2, .int (nI n)), (0, .ref 100), (1, .int (nI (T.1 12)))]) dX9_builds_84 (by decide) (fun _ => rfl) (fun x84 ex84 => ?_)
        rw [ex84]
        refine zJ_w ?_ (LC 0 (Nat.zero_le _))
        refine (zrow_self w1 143).symm.trans (congrArg (zrow w1 143) (funext fun q => ?_))
        rw [if_neg (by omega)]
  have hfs : zFM [38, 39, 40, 41, 42, 43, 44, 45] w (zsi (zsi w 100 45 0) 100 38 0) := (zFM.i (by first | decide | exact Or.inr (by decide))).tr (zFM.i (by first | decide | exact Or.inr (by decide)))
  have J61 : ∀ wb : zW, zFM [38, 39, 40, 41, 42, 43, 44, 45] w wb → wb.2.1 100 45 = 0 → zMq wb T [] → zMh wb [] → zJ Δ mX9_builds (zRm 2 0 0) true w.1 QR (fun _ _ => False) 0 0 61 [(2, .int (nI 65536)), (0, .ref 100), (1, .int (nI (T.1 12)))] [.int (nI (zfk T).2.2.1), .int 1, .int (nI (T.1 12)), .ref 100] wb := by
    intro wb hfb hz hNb hHb
    have M_wb := hM.fm hfb
    refine zJ_iconst (v := 0) dX9_builds_61 (by decide) ?_
    refine zJ_st (st2 := [.int (nI (zfk T).2.2.2), .int (nI (zfk T).2.2.1), .int (nI (zfk T).2.1), .int (nI (zfk T).1), .ref 100]) rfl ?_
    refine zJ_eV4 dX9_builds_62 sX9_360 mfX9_hand0 (c_Mo_hand0 Δ wb T [] (zfk T) M_wb hNb hHb hT0 (zkok.fk hT0) (hp12.2 hpos)) (M_wb.at (by decide) (by decide)) rfl (Nat.le_of_ble_eq_true rfl) (by decide) (by decide) (fun r wc hP => ?_)
    obtain ⟨rfl, hw2, hh2, hfr⟩ : r = some (.int (nI 0)) ∧ zMq wc T [zfk T] ∧ zMh wc [zfk T] ∧ zFM [38, 39, 40, 41, 42, 44] wb wc := by
      rcases hP with ⟨c, hc, -, -⟩ | ⟨-, -, h1, h2, h3, h4⟩ | ⟨-, h1, -, -⟩
      · simp at hc
      · exact ⟨h1, h2, h3, h4⟩
      · simp at h1
    refine zJ_pop dX9_builds_65 rfl ?_
    refine zJ_iconst (v := 0) dX9_builds_66 (by decide) ?_
    refine zJ_istore_n (ls2 := fun x67 => [(2, .int x67), (0, .ref 100), (1, .int (nI (T.1 12)))]) dX9_builds_67 (by decide) (fun _ => rfl) (fun x67 ex67 => ?_)
    rw [ex67]
    exact LO 0 (Nat.zero_le _) wc ⟨hfb.tr (hfr.mono (by decide)), Or.inl ⟨(hfr.at (by decide)).trans hz, Nat.zero_le _, hw2, hh2, fun x k hx => absurd hx (Nat.not_lt_zero x)⟩⟩
  have LT : ∀ j, j ≤ 65536 → zJ Δ mX9_builds (zRm 2 0 0) true w.1 QR (fun _ _ => False) 0 0 12 [(2, .int (nI j)), (0, .ref 100), (1, .int (nI (T.1 12)))] [] (zrow (zsi (zsi w 100 45 0) 100 38 0) 144 (fun q => if q < j then 0 else w.2.1 144 q)) := by
    refine zup (fun j hj ih => ?_)
    refine zJ_iload_n dX9_builds_12 rfl ?_
    refine zJ_ldc dX9_builds_13 kX9_66 ?_
    refine zJ_icmp_ge (tgt := 31) dX9_builds_15 (by decide) (fun h15 => ?_) (fun h15 => ?_)
    · have hj9 : j = 65536 := by exact Nat.le_antisymm hj ((nI_leI (a := 65536) (b := j) (by omega) (by omega)).mp h15)
      subst hj9
      have hfb : zFM [38, 39, 40, 41, 42, 43, 44, 45] w (zrow (zsi (zsi w 100 45 0) 100 38 0) 144 (fun q => if q < 65536 then 0 else w.2.1 144 q)) := hfs.tr (zFM.row (by decide))
      have hzb : (zrow (zsi (zsi w 100 45 0) 100 38 0) 144 (fun q => if q < 65536 then 0 else w.2.1 144 q)).2.1 100 45 = 0 := by simp [zrow, zsi]
      have hNb : zMq (zrow (zsi (zsi w 100 45 0) 100 38 0) 144 (fun q => if q < 65536 then 0 else w.2.1 144 q)) T [] := ⟨fun x k h => by simp at h, by simp [zrow, zsi]; rfl, Nat.zero_le _, fun k h => by simp at h⟩
      have hHb : zMh (zrow (zsi (zsi w 100 45 0) 100 38 0) 144 (fun q => if q < 65536 then 0 else w.2.1 144 q)) [] := ⟨fun _ => none, fun s hs => by simp [zrow, hs, zti], zHt.nil _ _⟩
      generalize (zrow (zsi (zsi w 100 45 0) 100 38 0) 144 (fun q => if q < 65536 then 0 else w.2.1 144 q)) = wb at hfb hzb hNb hHb
      have hA_wb : zMa wb T := hA0.fm hfb (by decide)
      obtain ⟨M_wb, m1_wb, m3_wb, m4_wb, m5_wb, m6_wb, m7_wb, m46_wb, m9_wb, m47_wb, mso_wb, mnu_wb, mwt_wb⟩ := hA_wb
      refine zJ_aload_n dX9_builds_31 rfl ?_
      refine zJ_iload_n dX9_builds_32 rfl ?_
      refine zJ_iconst (v := 1) dX9_builds_33 (by decide) ?_
      refine zJ_aload_n dX9_builds_34 rfl ?_
      refine zJ_getiN dX9_builds_35 fX9_342 (by first | rfl | assumption | exact M_wb.at (by decide) (by decide)) rfl m46_wb ?_
      refine zJ_if_ne (tgt := 47) dX9_builds_38 (by decide) (fun h38 => ?_) (fun h38 => ?_)
      · have hl0 : ¬ T.1 10 = 0 := fun h => h38 (by rw [h]; rfl)
        refine zJ_aload_n dX9_builds_47 rfl ?_
        refine zJ_getiN dX9_builds_48 fX9_342 (by first | rfl | assumption | exact M_wb.at (by decide) (by decide)) rfl m46_wb ?_
        refine zJ_iconst (v := 1) dX9_builds_51 (by decide) ?_
        refine zJ_icmp_ne (tgt := 60) dX9_builds_52 (by decide) (fun h52 => ?_) (fun h52 => ?_)
        · have hl1 : ¬ T.1 10 = 1 := fun h => h52 (by rw [h]; rfl)
          refine zJ_iconst (v := 0) dX9_builds_60 (by decide) ?_
          refine zJ_st (st2 := [.int (nI (zfk T).2.2.1), .int 1, .int (nI (T.1 12)), .ref 100]) (congrArg (fun z => Value.int z :: _) (by simp only [zfk]; rw [if_neg hl0, if_neg hl1]; rfl)) (J61 wb hfb hzb hNb hHb)
        · have hl1 : T.1 10 = 1 := (nI_eq (b := 1) (by omega) (by decide)).mp h52
          refine zJ_bipush (v := 8) dX9_builds_55 (by decide) ?_
          refine zJ_goto (tgt := 61) dX9_builds_57 (by decide) ?_
          refine zJ_st (st2 := [.int (nI (zfk T).2.2.1), .int 1, .int (nI (T.1 12)), .ref 100]) (congrArg (fun z => Value.int z :: _) (by simp only [zfk]; rw [if_neg hl0, if_pos hl1]; rfl)) (J61 wb hfb hzb hNb hHb)
      · have hl0 : T.1 10 = 0 := (nI_eq (b := 0) (by omega) (by decide)).mp h38
        refine zJ_iconst (v := 1) dX9_builds_41 (by decide) ?_
        refine zJ_iload_n dX9_builds_42 rfl ?_
        refine zJ_ishl dX9_builds_43 ?_
        refine zJ_goto (tgt := 61) dX9_builds_44 (by decide) ?_
        refine zJ_st (st2 := [.int (nI (zfk T).2.2.1), .int 1, .int (nI (T.1 12)), .ref 100]) (congrArg (fun z => Value.int z :: _) (by simp only [zfk]; rw [if_pos hl0, na_shl _ (by omega)])) (J61 wb hfb hzb hNb hHb)
    · have hj9 : j < 65536 := Nat.lt_of_not_le fun hq9 => h15 (by exact (nI_leI (a := 65536) (b := j) (by omega) (by omega)).mpr hq9)
      refine zJ_aload_n dX9_builds_18 rfl ?_
      refine zJ_getr (j := 144) dX9_builds_19 fX9_67 (by first | rfl | assumption | exact hM.at (by decide) (by decide)) rfl (by first | rfl | assumption | exact hM.rf (by decide) rfl) ?_
      refine zJ_iload_n dX9_builds_22 rfl ?_
      refine zJ_iconst (v := 0) dX9_builds_23 (by decide) ?_
      refine zJ_iastN (i := j) dX9_builds_24 (by first | rfl | assumption | exact hM.at (by decide) (by decide)) rfl (by omega) (by decide) ?_
      refine zJ_iinc (ls2 := fun x25 => [(2, .int x25), (0, .ref 100), (1, .int (nI (T.1 12)))]) dX9_builds_25 rfl (by decide) (fun _ => rfl) (fun x25 ex25 => ?_)
      refine zJ_goto (tgt := 12) dX9_builds_28 (by decide) ?_
      refine zJ_ls [(2, .int x25), (0, .ref 100), (1, .int (nI (T.1 12)))] (by simp) ?_
      rw [ex25, show nI j + Int32.ofInt 1 = nI (j + 1) from nI_1 _]
      refine zJ_w ?_ (ih (j + 1) (by omega) (by omega))
      rw [zsi_row, zrow_get, zrow_row]
      refine congrArg (zrow (zsi (zsi w 100 45 0) 100 38 0) 144) (funext fun q => ?_)
      by_cases h : q = j
      · rw [if_pos h, if_pos (by omega)]
      · rw [if_neg h]
        by_cases h2 : q < j
        · rw [if_pos h2, if_pos (by omega)]
        · rw [if_neg h2, if_neg (by omega)]
  refine zJ_aload_n dX9_builds_0 rfl ?_
  refine zJ_iconst (v := 0) dX9_builds_1 (by decide) ?_
  refine zJ_puti dX9_builds_2 fX9_357 (fun q h => by cases h; rfl) (by first | rfl | assumption | exact hM.at (by decide) (by decide)) rfl rfl rfl ?_
  refine zJ_aload_n dX9_builds_5 rfl ?_
  refine zJ_iconst (v := 0) dX9_builds_6 (by decide) ?_
  refine zJ_puti dX9_builds_7 fX9_354 (fun q h => by cases h; rfl) (by first | rfl | assumption | exact hM.at (by decide) (by decide)) rfl rfl rfl ?_
  refine zJ_iconst (v := 0) dX9_builds_10 (by decide) ?_
  refine zJ_istore_n (ls2 := fun x11 => [(2, .int x11), (0, .ref 100), (1, .int (nI (T.1 12)))]) dX9_builds_11 (by decide) (fun _ => rfl) (fun x11 ex11 => ?_)
  rw [ex11]
  refine zJ_w ?_ (LT 0 (Nat.zero_le _))
  refine (zrow_self (zsi (zsi w 100 45 0) 100 38 0) 144).symm.trans (congrArg (zrow (zsi (zsi w 100 45 0) 100 38 0) 144) (funext fun q => ?_))
  rw [if_neg (by omega)]
  simp [zsi]
