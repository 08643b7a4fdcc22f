/-! the model: one -/
theorem zMK.lk {w : zW} {T S : zTo} {K : List zKy} (h : zMK w T K) (hl : zLk S T) (h0 : S.1 0 = T.1 0) (hA : zMa w S) : zMK w S K := by
  obtain ⟨h1, h2, h3, h4⟩ := h
  refine ⟨hA, ⟨h2.1, h2.2.1, h2.2.2.1, fun k hk => ?_⟩, ?_, fun x k hx y hy => ?_⟩
  · rw [hl.kok, h0]; exact h2.2.2.2 k hk
  · rw [hl.all]; exact h3
  · have h9 := h4 x k hx y hy
    unfold zNx at *
    rw [hl.may, hl.bk]; exact h9
theorem zMa.on0 {g : zW} {U : zTo} {p : Nat} (h : zMa g U) : zMa (zsi g 148 p 0) (zTon U p (U.2.2.1 p)) := by
  obtain ⟨h0, h1, h2, h3, h4, h5, h6, h7, h8, h9, h10, h11, h12⟩ := h
  refine ⟨h0, h1, h2, h3, h4, h5, h6, h7, h8, h9, fun q hq => ?_, fun q hq => ?_, fun a b ha hb => h12 a b ha hb⟩
  · simp only [zsi, zTon, zTn1, zTq, true_and]
    by_cases hqp : q = p
    · simp only [hqp, if_true]; rfl
    · simp only [hqp, if_false]
      exact h10 q hq
  · rw [zsi_o (by decide)]
    simp only [zTon, zTn1, zTq]
    by_cases hqp : q = p
    · simp only [hqp, if_true]; rw [← hqp]; exact h11 q hq
    · simp only [hqp, if_false]
      exact h11 q hq
theorem zMa.on {g : zW} {U : zTo} {p v v2 : Nat} (h : zMa g (zTon U p v)) : zMa (zsi g 149 p (nI v2)) (zTon U p v2) := by
  obtain ⟨h0, h1, h2, h3, h4, h5, h6, h7, h8, h9, h10, h11, h12⟩ := h
  refine ⟨h0, h1, h2, h3, h4, h5, h6, h7, h8, h9, fun q hq => ?_, fun q hq => ?_, fun a b ha hb => h12 a b ha hb⟩
  · rw [zsi_o (by decide)]; exact h10 q hq
  · have := h11 q hq
    simp only [zsi, zTon, zTn1, zTq, true_and] at this ⊢
    by_cases hqp : q = p
    · simp only [hqp, if_true]
    · simp only [hqp, if_false] at this ⊢
      exact this
set_option maxRecDepth 100000 in
theorem zMo_onR (Δ : zD) (g : zW) (T : zTo) (K : List zKy) (hT : zTok T) (i8 i7 : Int32) (l5 : Int64) (v1 v2 v3 v4 : Int32) {QR : Option Value → zW → Prop} (kk : ∀ c, zFM [50, 51, 52] g c → zMK c T K → zUm c T K 0 → zJ Δ mX9_one (zRm 5 0 0) true g.1 QR (fun _ _ => False) 0 0 172 [(9, .int (nI 0 - 1)), (8, .int i8), (7, .int i7), (5, .long l5), (0, .ref 100), (1, .int v1), (2, .int v2), (3, .int v3), (4, .int v4)] [] c) : ∀ n, n ≤ K.length → ∀ c, zFM [50, 51, 52] g c → zMK c T K → zUm c T K n → zJ Δ mX9_one (zRm 5 0 0) true g.1 QR (fun _ _ => False) 0 0 155 [(9, .int (nI n - 1)), (8, .int i8), (7, .int i7), (5, .long l5), (0, .ref 100), (1, .int v1), (2, .int v2), (3, .int v3), (4, .int v4)] [] c := by
  intro n
  induction n with
  | zero =>
    intro _ c hf hK hU
    have Mc : zMs c := hK.1.1
    refine zJ_iload dX9_one_155 rfl ?_
    refine zJ_if_lt (tgt := 172) dX9_one_157 (by decide) (fun h157 => ?_) (fun h9 => absurd (by decide : (nI 0 - 1 : Int32) < 0) h9)
    exact kk c hf hK hU
  | succ n ih =>
    intro hn c hf hK hU
    have Mc : zMs c := hK.1.1
    have hKR := hK.2.1.2.2.1
    have em : nI (n + 1) - 1 = nI n := na_sub (b := 1) (by omega)
    rw [em]
    obtain ⟨k, hk⟩ : ∃ k, K[n]? = some k := ⟨_, List.getElem?_eq_getElem (show n < K.length by omega)⟩
    refine zJ_iload dX9_one_155 rfl ?_
    refine zJ_if_lt (tgt := 172) dX9_one_157 (by decide) (fun h9 => absurd h9 (fun h9 => absurd ((nI_ltI (b := 0) (by omega) (by decide)).mp h9) (by omega))) (fun h157 => ?_)
    refine zJ_aload_n dX9_one_160 rfl ?_
    refine zJ_iload dX9_one_161 rfl ?_
    refine zJ_eV1 dX9_one_163 sX9_406 mfX9_reckons (c_Mo_reckons Δ c T K hK hT n k hk (hU.ch hK.2.2.1 hk)) (Mc.at (by decide) (by decide)) rfl (Nat.le_of_ble_eq_true rfl) (by decide) (by decide) (fun r d hP => ?_)
    obtain ⟨rfl, hr, h3⟩ := hP
    refine zJ_iinc (ls2 := fun x166 => [(9, .int x166), (8, .int i8), (7, .int i7), (5, .long l5), (0, .ref 100), (1, .int v1), (2, .int v2), (3, .int v3), (4, .int v4)]) dX9_one_166 rfl (by decide) (fun _ => rfl) (fun x166 ex166 => ?_)
    refine zJ_goto (tgt := 155) dX9_one_169 (by decide) ?_
    refine zJ_ls [(9, .int x166), (8, .int i8), (7, .int i7), (5, .long l5), (0, .ref 100), (1, .int v1), (2, .int v2), (3, .int v3), (4, .int v4)] (by simp) ?_
    rw [ex166, na_dec]
    exact ih (by omega) d (hf.tr (hr.1.1.mono (by decide))) (hK.r hr.1) (hr.1.up hU hT hk hr.2.1 hr.2.2 h3)
