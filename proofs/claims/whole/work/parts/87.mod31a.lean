/-! the model: is -/
theorem zwp_inj {a b : Nat → Nat} {f h : Nat} : ∀ d e, d ≤ 7 → e ≤ 7 → (∀ i, i < d → zlet (a (f + i)) = true) → (∀ i, i < e → zlet (b (h + i)) = true) → zwp a f d = zwp b h e → d = e ∧ ∀ i, i < d → a (f + i) = b (h + i)
  | 0, 0, _, _, _, _, _ => ⟨rfl, fun i hi => absurd hi (Nat.not_lt_zero i)⟩
  | 0, e + 1, _, he, _, hb, hh => by
    have h1 := hb e (by omega)
    simp only [zlet, Bool.and_eq_true, decide_eq_true_eq] at h1
    simp only [zwp] at hh
    rw [if_pos (by omega)] at hh
    omega
  | d + 1, 0, hd, _, ha, _, hh => by
    have h1 := ha d (by omega)
    simp only [zlet, Bool.and_eq_true, decide_eq_true_eq] at h1
    simp only [zwp] at hh
    rw [if_pos (by omega)] at hh
    omega
  | d + 1, e + 1, hd, he, ha, hb, hh => by
    have h1 := ha d (by omega)
    have h2 := hb e (by omega)
    simp only [zlet, Bool.and_eq_true, decide_eq_true_eq] at h1 h2
    simp only [zwp] at hh
    rw [if_pos (by omega), if_pos (by omega)] at hh
    obtain ⟨e1, e2⟩ := zwp_inj d e (by omega) (by omega) (fun i hi => ha i (by omega)) (fun i hi => hb i (by omega)) (by omega)
    refine ⟨by omega, fun i hi => ?_⟩
    by_cases hid : i = d
    · subst hid; rw [← e1] at hh h2; omega
    · exact e2 i (by omega)
theorem zwp_cg {a b : Nat → Nat} {f h : Nat} : ∀ d, (∀ i, i < d → a (f + i) = b (h + i)) → zwp a f d = zwp b h d
  | 0, _ => rfl
  | d + 1, hh => by
    simp only [zwp]
    rw [zwp_cg d (fun i hi => hh i (by omega)), hh d (by omega)]
theorem zmw_lt : ∀ k, k < 17 → zmw k < 17 := by decide
theorem zwc_wp : ∀ i, i < 17 → zwc (zwl.getD i []) = zwp (fun k => (zwl.getD i []).getD k 0) 0 (zwl.getD i []).length := by decide
theorem zwl_let : ∀ i, i < 17 → (zwl.getD i []).length ≤ 6 ∧ ∀ k, k < (zwl.getD i []).length → zlet ((zwl.getD i []).getD k 0) = true := by decide
theorem zwc_lt : ∀ i, i < 17 → zwc (zwl.getD i []) < 2 ^ 40 := by decide
set_option maxRecDepth 100000 in
theorem c_Mo_is (Δ : zD) (w : zW) (hM : zMs w) (tx : Nat → Nat) (t : zTkn) (hMk : zMk w tx t) (hle : t.2.1 ≤ t.2.2.1 ∧ t.2.2.1 ≤ 700) (hlet : t.1 = 1 → ∀ i, i < t.2.2.1 - t.2.1 → zlet (tx (t.2.1 + i)) = true) (ht4 : t.1 ≤ 4) (k : Nat) (hk : k < 17) : zMd Δ 2 0 0 true yX9_is mX9_is [.ref 100, .int (nI k)] w (some (.int (if zwd tx t (zmw k) then 1 else 0))) w := by
  refine zMd.of mfX9_is (Nat.le_of_ble_eq_true rfl) (fun QR hQ => ?_)
  obtain ⟨f19, f20, f21, f22, f23, f24⟩ := hMk
  have hz := zmw_lt k hk
  have hwp := zwc_wp _ hz
  have hwl := zwl_let _ hz
  have hwc := zwc_lt _ hz
  have CL := c_Mo_letters Δ w k hk
  unfold zwd at hQ
  generalize zwl.getD (zmw k) [] = wd at hQ hwp hwl hwc CL
  by_cases h1 : t.1 = 1
  · have i1 : ¬ ¬ nI t.1 = 1 := fun h => h (by rw [h1]; rfl)
    have f24 := f24 h1
    have hlet := hlet h1
    by_cases h7 : t.2.2.1 - t.2.1 < 7
    · have hlt := zwp_lt (tx := tx) (f := t.2.1) _ hlet
      have hp7 : 32 ^ min (t.2.2.1 - t.2.1) 7 ≤ 32 ^ 7 := Nat.pow_le_pow_right (by decide) (Nat.min_le_right _ _)
      by_cases heq : zwp tx t.2.1 (t.2.2.1 - t.2.1) = zwc wd
      · rw [if_pos (by
          obtain ⟨e1, e2⟩ := zwp_inj (b := fun k => wd.getD k 0) (h := 0) _ _ (by omega) (by omega) hlet (fun i hi => by rw [Nat.zero_add]; exact hwl.2 i hi) (heq.trans hwp)
          simp only [Bool.and_eq_true, decide_eq_true_eq]
          exact ⟨h1, e1, fun i hi => by have := e2 i (by omega); rwa [Nat.zero_add] at this⟩)] at hQ
        refine zJ_aload_n dX9_is_0 rfl ?_
        refine zJ_getiN dX9_is_1 fX9_200 (by first | rfl | assumption | exact hM.at (by decide) (by decide)) rfl f20 ?_
        refine zJ_iconst (v := 1) dX9_is_4 (by decide) ?_
        refine zJ_icmp_ne (tgt := 33) dX9_is_5 (by decide) (fun h9 => absurd h9 i1) (fun h5 => ?_)
        refine zJ_aload_n dX9_is_8 rfl ?_
        refine zJ_getiN dX9_is_9 fX9_210 (by first | rfl | assumption | exact hM.at (by decide) (by decide)) rfl f22 ?_
        refine zJ_bipush (v := 7) dX9_is_12 (by decide) ?_
        refine zJ_icmp_ge (tgt := 33) dX9_is_14 (by decide) (fun h9 => absurd h9 (fun h => absurd ((nI_leI (a := 7) (by decide) (by omega)).mp h) (by omega))) (fun h14 => ?_)
        refine zJ_aload_n dX9_is_17 rfl ?_
        refine zJ_getl dX9_is_18 fX9_193 (by first | rfl | assumption | exact hM.at (by decide) (by decide)) rfl ?_
        rw [f24]
        refine zJ_iload_n dX9_is_21 rfl ?_
        refine zJ_cS1 dX9_is_22 sX9_217 mfX9_letters CL (Nat.le_of_ble_eq_true rfl) (by decide) (by decide) ?_
        refine zJ_lc_ne (tgt := 33) dX9_is_25 dX9_is_26 (by decide) (fun h9 => absurd h9 (fun h => h (by rw [heq]))) (fun h26 => ?_)
        refine zJ_iconst (v := 1) dX9_is_29 (by decide) ?_
        refine zJ_goto (tgt := 34) dX9_is_30 (by decide) ?_
        exact zJ_zret dX9_is_34 rfl rfl (by decide) (by decide) hQ
      · rw [if_neg (by
          simp only [Bool.and_eq_true, decide_eq_true_eq]
          intro h
          refine heq (Eq.trans ?_ hwp.symm)
          rw [h.2.1]
          exact zwp_cg _ (fun i hi => by rw [Nat.zero_add]; exact h.2.2 i hi))] at hQ
        refine zJ_aload_n dX9_is_0 rfl ?_
        refine zJ_getiN dX9_is_1 fX9_200 (by first | rfl | assumption | exact hM.at (by decide) (by decide)) rfl f20 ?_
        refine zJ_iconst (v := 1) dX9_is_4 (by decide) ?_
        refine zJ_icmp_ne (tgt := 33) dX9_is_5 (by decide) (fun h9 => absurd h9 i1) (fun h5 => ?_)
        refine zJ_aload_n dX9_is_8 rfl ?_
        refine zJ_getiN dX9_is_9 fX9_210 (by first | rfl | assumption | exact hM.at (by decide) (by decide)) rfl f22 ?_
        refine zJ_bipush (v := 7) dX9_is_12 (by decide) ?_
        refine zJ_icmp_ge (tgt := 33) dX9_is_14 (by decide) (fun h9 => absurd h9 (fun h => absurd ((nI_leI (a := 7) (by decide) (by omega)).mp h) (by omega))) (fun h14 => ?_)
        refine zJ_aload_n dX9_is_17 rfl ?_
        refine zJ_getl dX9_is_18 fX9_193 (by first | rfl | assumption | exact hM.at (by decide) (by decide)) rfl ?_
        rw [f24]
        refine zJ_iload_n dX9_is_21 rfl ?_
        refine zJ_cS1 dX9_is_22 sX9_217 mfX9_letters CL (Nat.le_of_ble_eq_true rfl) (by decide) (by decide) ?_
        refine zJ_lc_ne (tgt := 33) dX9_is_25 dX9_is_26 (by decide) (fun h26 => ?_) (fun h9 => absurd h9 (fun h => heq ((fb_lN_inj (by omega) (by omega)).mp h)))
        refine zJ_iconst (v := 0) dX9_is_33 (by decide) ?_
        exact zJ_zret dX9_is_34 rfl rfl (by decide) (by decide) hQ
    · rw [if_neg (by
        simp only [Bool.and_eq_true, decide_eq_true_eq]
        intro h
        have := h.2.1
        omega)] at hQ
      refine zJ_aload_n dX9_is_0 rfl ?_
      refine zJ_getiN dX9_is_1 fX9_200 (by first | rfl | assumption | exact hM.at (by decide) (by decide)) rfl f20 ?_
      refine zJ_iconst (v := 1) dX9_is_4 (by decide) ?_
      refine zJ_icmp_ne (tgt := 33) dX9_is_5 (by decide) (fun h9 => absurd h9 i1) (fun h5 => ?_)
      refine zJ_aload_n dX9_is_8 rfl ?_
      refine zJ_getiN dX9_is_9 fX9_210 (by first | rfl | assumption | exact hM.at (by decide) (by decide)) rfl f22 ?_
      refine zJ_bipush (v := 7) dX9_is_12 (by decide) ?_
      refine zJ_icmp_ge (tgt := 33) dX9_is_14 (by decide) (fun h14 => ?_) (fun h9 => absurd ((nI_leI (a := 7) (by decide) (by omega)).mpr (by omega)) h9)
      refine zJ_iconst (v := 0) dX9_is_33 (by decide) ?_
      exact zJ_zret dX9_is_34 rfl rfl (by decide) (by decide) hQ
  · rw [if_neg (by
      simp only [Bool.and_eq_true, decide_eq_true_eq]
      exact fun h => h1 h.1)] at hQ
    refine zJ_aload_n dX9_is_0 rfl ?_
    refine zJ_getiN dX9_is_1 fX9_200 (by first | rfl | assumption | exact hM.at (by decide) (by decide)) rfl f20 ?_
    refine zJ_iconst (v := 1) dX9_is_4 (by decide) ?_
    refine zJ_icmp_ne (tgt := 33) dX9_is_5 (by decide) (fun h5 => ?_) (fun h9 => absurd h9 (fun h => h1 ((nI_eq (b := 1) (by omega) (by decide)).mp h)))
    refine zJ_iconst (v := 0) dX9_is_33 (by decide) ?_
    exact zJ_zret dX9_is_34 rfl rfl (by decide) (by decide) hQ
