/-! LetterTown$Theft, on -/
theorem na_bit : ∀ s, s < 256 → ∀ p, p < 8 → nI s >>> (nI p &&& 31) &&& 1 = nI (s / 2 ^ p % 2) := by decide +kernel
theorem na_add (a b : Nat) : nI a + nI b = nI (a + b) := by
  simp [nI, Int32.ofNat_add]
theorem zthw_get (w : zW) (i : Nat) (su po se fw : Int32) (wi : Nat → Int32) : (zthw w i su po se fw wi).2.1 i 3 = su ∧ (zthw w i su po se fw wi).2.1 i 4 = po ∧ (zthw w i su po se fw wi).2.1 i 5 = se ∧ (zthw w i su po se fw wi).2.1 i 6 = fw ∧ (zthw w i su po se fw wi).2.1 (i + 3) = wi := by
  refine ⟨by simp [zthw], by simp [zthw], by simp [zthw], by simp [zthw], ?_⟩
  funext p
  simp [zthw]
theorem zthw_thw (w : zW) (i : Nat) (su po se fw : Int32) (wi : Nat → Int32) (su2 po2 se2 fw2 : Int32) (wi2 : Nat → Int32) : zthw (zthw w i su po se fw wi) i su2 po2 se2 fw2 wi2 = zthw w i su2 po2 se2 fw2 wi2 := by
  refine Prod.ext rfl (Prod.ext (funext fun a => funext fun b => ?_) rfl)
  simp only [zthw]
  grind
theorem zthw_self (w : zW) (i : Nat) : zthw w i (w.2.1 i 3) (w.2.1 i 4) (w.2.1 i 5) (w.2.1 i 6) (w.2.1 (i + 3)) = w := by
  refine Prod.ext rfl (Prod.ext (funext fun a => funext fun b => ?_) rfl)
  simp only [zthw]
  grind
theorem zTh.thw {w : zW} {i : Nat} {su po se fw : Int32} {wi : Nat → Int32} (h : zTh w i) : zTh (zthw w i su po se fw wi) i := h
theorem zoi_neg {r : Option Nat} (h : ∀ q, r = some q → q < 256) : (zoi r < 0) ↔ r = none := by
  cases r with
  | none => simp [zoi]
  | some q =>
    have := h q rfl
    simp only [zoi, reduceCtorEq, iff_false]
    intro h9
    exact absurd ((nI_ltI (b := 0) (by omega) (by decide)).mp h9) (by omega)
theorem zthw_s (w : zW) (i : Nat) (su po se fw x : Int32) (wi : Nat → Int32) : zsi (zthw w i su po se fw wi) i 3 x = zthw w i x po se fw wi ∧ zsi (zthw w i su po se fw wi) i 4 x = zthw w i su x se fw wi ∧ zsi (zthw w i su po se fw wi) i 5 x = zthw w i su po x fw wi ∧ zsi (zthw w i su po se fw wi) i 6 x = zthw w i su po se x wi := by
  refine ⟨?_, ?_, ?_, ?_⟩ <;> refine Prod.ext rfl (Prod.ext (funext fun a => funext fun b => ?_) rfl) <;> simp only [zthw, zsi] <;> grind
theorem zthw_wi (w : zW) (i k : Nat) (su po se fw x : Int32) (wi : Nat → Int32) : zsi (zthw w i su po se fw wi) (i + 3) k x = zthw w i su po se fw (fun p => if p = k then x else wi p) := by
  refine Prod.ext rfl (Prod.ext (funext fun a => funext fun b => ?_) rfl)
  simp only [zthw, zsi]
  grind
theorem zthw_c {w : zW} {i : Nat} {su po se fw su2 po2 se2 fw2 : Int32} {wi wi2 : Nat → Int32} (h1 : su = su2) (h2 : po = po2) (h3 : se = se2) (h4 : fw = fw2) (h5 : wi = wi2) : zthw w i su po se fw wi = zthw w i su2 po2 se2 fw2 wi2 := by rw [h1, h2, h3, h4, h5]
def zfn (fw : Option Nat) (s : Nat) : Option Nat := match fw with | none => some s | some q => if zpop s < zpop q then some s else some q
set_option maxRecDepth 100000 in
theorem c_Theft_take (Δ : zD) (w : zW) (i np s su po se : Nat) (fw : Option Nat) (v : Nat → Nat) (hT : zTh w i) (hnp : np ≤ 8) (hs : s < 256) (hfw : ∀ q, fw = some q → q < 256) (h3 : w.2.1 i 3 = nI su) (h4 : w.2.1 i 4 = nI po) (h5 : w.2.1 i 5 = nI se) (h6 : w.2.1 i 6 = zoi fw) (h7 : ∀ p, p < 8 → w.2.1 (i + 3) p = nI (v p)) : zMd Δ 1 0 0 true yX4_take mX4_take [.ref i, .int (nI s), .int (nI np)] w none (zthw w i (nI (su &&& s)) (nI (po ||| s)) (nI (se + 1)) (zoi (zfn fw s)) (fun p => if p < np then nI (v p + s / 2 ^ p % 2) else w.2.1 (i + 3) p)) := by
  refine zM.of mfX4_take (Nat.le_of_ble_eq_true rfl) ?_
  obtain ⟨g0, r0, r1, r7, g1, g2, g3⟩ := hT
  have L : ∀ j, j ≤ np → zJ Δ mX4_take (zRm 1 0 0) true w.1 (fun a b => a = none ∧ b = (zthw w i (nI (su &&& s)) (nI (po ||| s)) (nI (se + 1)) (zoi (zfn fw s)) (fun p => if p < np then nI (v p + s / 2 ^ p % 2) else w.2.1 (i + 3) p))) (fun _ _ => False) 0 0 58 [(3, .int (nI j)), (0, .ref i), (1, .int (nI s)), (2, .int (nI np))] [] (zthw w i (nI (su &&& s)) (nI (po ||| s)) (nI (se + 1)) (zoi (zfn fw s)) (fun p => if p < j then nI (v p + s / 2 ^ p % 2) else w.2.1 (i + 3) p)) := by
    refine zup (fun j hj ih => ?_)
    refine zJ_iload_n dX4_take_58 rfl ?_
    refine zJ_iload_n dX4_take_59 rfl ?_
    refine zJ_icmp_ge (tgt := 83) dX4_take_60 (by decide) (fun h60 => ?_) (fun h60 => ?_)
    · have hj9 : j = np := by exact Nat.le_antisymm hj ((nI_leI (a := np) (b := j) (by omega) (by omega)).mp h60)
      exact zJ_vret dX4_take_83 rfl (by decide) (by decide) ⟨rfl, by rw [hj9]⟩
    · have hj9 : j < np := Nat.lt_of_not_le fun h9 => h60 (by exact (nI_leI (a := np) (b := j) (by omega) (by omega)).mpr h9)
      refine zJ_aload_n dX4_take_63 rfl ?_
      refine zJ_getr dX4_take_64 fX4_18 (by first | rfl | assumption) rfl (by first | rfl | assumption) ?_
      refine zJ_iload_n dX4_take_67 rfl ?_
      refine zJ_dup2_11 dX4_take_68 rfl rfl ?_
      refine zJ_iald dX4_take_69 (by first | rfl | assumption) (vp_in_nI (by omega) (by decide)) ?_
      rw [nI_clamp (show j < 2 ^ 31 by omega), (zthw_get _ _ _ _ _ _ _).2.2.2.2, if_neg (Nat.lt_irrefl j), h7 j (by omega)]
      refine zJ_st (st2 := [.int (nI (v j)), .int (nI j), .ref (i + 3)]) rfl ?_
      refine zJ_iload_n dX4_take_70 rfl ?_
      refine zJ_iload_n dX4_take_71 rfl ?_
      refine zJ_ishr dX4_take_72 ?_
      refine zJ_iconst (v := 1) dX4_take_73 (by decide) ?_
      refine zJ_iand dX4_take_74 ?_
      rw [na_bit s hs j (by omega)]
      refine zJ_iadd dX4_take_75 ?_
      rw [na_add]
      refine zJ_iast dX4_take_76 (by first | rfl | assumption) (vp_in_nI (by omega) (by decide)) ?_
      refine zJ_iinc (ls2 := fun x77 => [(3, .int x77), (0, .ref i), (1, .int (nI s)), (2, .int (nI np))]) dX4_take_77 rfl (by decide) (fun _ => rfl) (fun x77 ex77 => ?_)
      refine zJ_goto (tgt := 58) dX4_take_80 (by decide) ?_
      refine zJ_ls [(3, .int x77), (0, .ref i), (1, .int (nI s)), (2, .int (nI np))] (by simp) ?_
      rw [ex77, show nI j + Int32.ofInt 1 = nI (j + 1) from nI_1 _]
      refine zJ_w (w2 := (zthw w i (nI (su &&& s)) (nI (po ||| s)) (nI (se + 1)) (zoi (zfn fw s)) (fun p => if p < (j + 1) then nI (v p + s / 2 ^ p % 2) else w.2.1 (i + 3) p))) ?_ (ih (j + 1) (by omega) (by omega))
      rw [nI_clamp (show j < 2 ^ 31 by omega), zthw_wi]
      refine zthw_c rfl rfl rfl rfl (funext fun p => ?_)
      by_cases c1 : p = j
      · subst c1; simp
      · have c3 : (p < j + 1) = (p < j) := by simp only [eq_iff_iff]; omega
        simp [c1, c3]
  refine zJ_w (w2 := (zthw w i (nI su) (nI po) (nI se) (zoi fw) (w.2.1 (i + 3)))) ?_ ?_
  · rw [← h3, ← h4, ← h5, ← h6]; exact (zthw_self w i).symm
  refine zJ_aload_n dX4_take_0 rfl ?_
  refine zJ_dup dX4_take_1 rfl ?_
  refine zJ_geti dX4_take_2 fX4_31 (by first | rfl | assumption) rfl ?_
  refine zJ_iconst (v := 1) dX4_take_5 (by decide) ?_
  refine zJ_iadd dX4_take_6 ?_
  refine zJ_puti dX4_take_7 fX4_31 (fun q h => by cases h; rfl) (by first | rfl | assumption) rfl rfl rfl ?_
  rw [(zthw_s _ _ _ _ _ _ _ _).2.2.1, (zthw_get _ _ _ _ _ _ _).2.2.1, show nI se + 1 = nI (se + 1) from nI_1 se]
  refine zJ_aload_n dX4_take_10 rfl ?_
  refine zJ_dup dX4_take_11 rfl ?_
  refine zJ_geti dX4_take_12 fX4_34 (by first | rfl | assumption) rfl ?_
  refine zJ_iload_n dX4_take_15 rfl ?_
  refine zJ_iand dX4_take_16 ?_
  refine zJ_puti dX4_take_17 fX4_34 (fun q h => by cases h; rfl) (by first | rfl | assumption) rfl rfl rfl ?_
  rw [(zthw_s _ _ _ _ _ _ _ _).1, (zthw_get _ _ _ _ _ _ _).1, na_and]
  refine zJ_aload_n dX4_take_20 rfl ?_
  refine zJ_dup dX4_take_21 rfl ?_
  refine zJ_geti dX4_take_22 fX4_37 (by first | rfl | assumption) rfl ?_
  refine zJ_iload_n dX4_take_25 rfl ?_
  refine zJ_ior dX4_take_26 ?_
  refine zJ_puti dX4_take_27 fX4_37 (fun q h => by cases h; rfl) (by first | rfl | assumption) rfl rfl rfl ?_
  rw [(zthw_s _ _ _ _ _ _ _ _).2.1, (zthw_get _ _ _ _ _ _ _).2.1, na_or]
  refine zJ_aload_n dX4_take_30 rfl ?_
  refine zJ_geti dX4_take_31 fX4_40 (by first | rfl | assumption) rfl ?_
  rw [(zthw_get _ _ _ _ _ _ _).2.2.2.1]
  refine zJ_if_lt (tgt := 51) dX4_take_34 (by decide) (fun h34 => ?_) (fun h34 => ?_)
  · refine zJ_aload_n dX4_take_51 rfl ?_
    refine zJ_iload_n dX4_take_52 rfl ?_
    refine zJ_puti dX4_take_53 fX4_40 (fun q h => by cases h; rfl) (by first | rfl | assumption) rfl rfl rfl ?_
    refine zJ_iconst (v := 0) dX4_take_56 (by decide) ?_
    refine zJ_istore_n (ls2 := fun x57 => [(3, .int x57), (0, .ref i), (1, .int (nI s)), (2, .int (nI np))]) dX4_take_57 (by decide) (fun _ => rfl) (fun x57 ex57 => ?_)
    subst ex57
    refine zJ_w (w2 := (zthw w i (nI (su &&& s)) (nI (po ||| s)) (nI (se + 1)) (zoi (zfn fw s)) (fun p => if p < 0 then nI (v p + s / 2 ^ p % 2) else w.2.1 (i + 3) p))) ?_ (L 0 (Nat.zero_le _))
    rw [(zthw_s _ _ _ _ _ _ _ _).2.2.2]
    have h8 : fw = none := (zoi_neg hfw).mp h34
    subst h8
    exact zthw_c rfl rfl rfl rfl (funext fun p => by simp)
  · have hf : ∃ q, fw = some q ∧ q < 256 := by
      cases fw with
      | none => exact absurd (by decide) h34
      | some q => exact ⟨q, rfl, hfw q rfl⟩
    obtain ⟨q, hfq, hq⟩ := hf
    refine zJ_iload_n dX4_take_37 rfl ?_
    refine zJ_cS1 dX4_take_38 sX4_25 mfJ6_bitCount_0f7a4 (c_bitCount Δ _ s hs) (Nat.le_of_ble_eq_true rfl) (by decide) (by decide) ?_
    refine zJ_aload_n dX4_take_41 rfl ?_
    refine zJ_geti dX4_take_42 fX4_40 (by first | rfl | assumption) rfl ?_
    refine zJ_st (st2 := [.int (nI q), .int (nI (zpop s))]) (by rw [(zthw_get _ _ _ _ _ _ _).2.2.2.1, hfq]; rfl) ?_
    refine zJ_cS1 dX4_take_45 sX4_25 mfJ6_bitCount_0f7a4 (c_bitCount Δ _ q hq) (Nat.le_of_ble_eq_true rfl) (by decide) (by decide) ?_
    refine zJ_icmp_ge (tgt := 56) dX4_take_48 (by decide) (fun h48 => ?_) (fun h48 => ?_)
    · refine zJ_iconst (v := 0) dX4_take_56 (by decide) ?_
      refine zJ_istore_n (ls2 := fun x57 => [(3, .int x57), (0, .ref i), (1, .int (nI s)), (2, .int (nI np))]) dX4_take_57 (by decide) (fun _ => rfl) (fun x57 ex57 => ?_)
      subst ex57
      refine zJ_w (w2 := (zthw w i (nI (su &&& s)) (nI (po ||| s)) (nI (se + 1)) (zoi (zfn fw s)) (fun p => if p < 0 then nI (v p + s / 2 ^ p % 2) else w.2.1 (i + 3) p))) ?_ (L 0 (Nat.zero_le _))
      have h8 : ¬ zpop s < zpop q := fun h => absurd ((nI_leI (by have := zpop_lt q hq; omega) (by have := zpop_lt s hs; omega)).mp h48) (by omega)
      exact zthw_c rfl rfl rfl (by simp [hfq, zfn, h8]) (funext fun p => by simp)
    · refine zJ_aload_n dX4_take_51 rfl ?_
      refine zJ_iload_n dX4_take_52 rfl ?_
      refine zJ_puti dX4_take_53 fX4_40 (fun q h => by cases h; rfl) (by first | rfl | assumption) rfl rfl rfl ?_
      refine zJ_iconst (v := 0) dX4_take_56 (by decide) ?_
      refine zJ_istore_n (ls2 := fun x57 => [(3, .int x57), (0, .ref i), (1, .int (nI s)), (2, .int (nI np))]) dX4_take_57 (by decide) (fun _ => rfl) (fun x57 ex57 => ?_)
      subst ex57
      refine zJ_w (w2 := (zthw w i (nI (su &&& s)) (nI (po ||| s)) (nI (se + 1)) (zoi (zfn fw s)) (fun p => if p < 0 then nI (v p + s / 2 ^ p % 2) else w.2.1 (i + 3) p))) ?_ (L 0 (Nat.zero_le _))
      rw [(zthw_s _ _ _ _ _ _ _ _).2.2.2]
      have h8 : zpop s < zpop q := Nat.lt_of_not_le fun h => h48 ((nI_leI (by have := zpop_lt q hq; omega) (by have := zpop_lt s hs; omega)).mpr h)
      exact zthw_c rfl rfl rfl (by simp [hfq, zfn, h8, zoi]) (funext fun p => by simp)
