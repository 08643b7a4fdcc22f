/-! LetterTown$Theft, the end -/
theorem zMd.of {Δ : zD} {h mc ms n : Nat} {fx : Bool} {y : MethodName} {M : zMI} {as : List Value} {w w' : zW} {r : Option Value} (hf : zMf y M n) (hlen : (lg_sl as).length ≤ M.2.2.1)
    (body : ∀ QR : Option Value → zW → Prop, QR r w' → zJ Δ M (zRm h mc ms) fx w.1 QR (fun _ _ => False) 0 0 0 (lv_args 0 as) [] w) : zMd Δ h mc ms fx y M as w r w' := zM.of hf hlen (body _ ⟨rfl, rfl⟩)
theorem na_sub {a b : Nat} (h : b ≤ a) : nI a - nI b = nI (a - b) := by
  have h1 := na_add (a - b) b
  rw [Nat.sub_add_cancel h] at h1
  rw [← h1, Int32.add_sub_cancel]
theorem na_mul (a b : Nat) : nI a * nI b = nI (a * b) := by
  simp [nI, Int32.ofNat_mul]
/-- how many sets below s have p in them -/
def zwi (ex : Nat → Bool) (p s : Nat) : Nat := zcnt (fun q => ex q && decide (q / 2 ^ p % 2 = 1)) s
theorem zwi_1 (ex : Nat → Bool) (p s : Nat) (h : ex s = true) : zwi ex p (s + 1) = zwi ex p s + s / 2 ^ p % 2 := by
  simp only [zwi, zcnt, h, Bool.true_and]
  by_cases h1 : s / 2 ^ p % 2 = 1
  · simp [h1]
  · have : s / 2 ^ p % 2 = 0 := by omega
    simp [this]
theorem zwi_0 (ex : Nat → Bool) (p s : Nat) (h : ex s = false) : zwi ex p (s + 1) = zwi ex p s := by
  simp [zwi, zcnt, h]
theorem zthw_row (w : zW) (i : Nat) (su po se fw : Int32) (wi f : Nat → Int32) : zrow (zthw w i su po se fw wi) (i + 3) f = zthw w i su po se fw f := by
  refine Prod.ext rfl (Prod.ext (funext fun a => funext fun b => ?_) rfl)
  simp only [zthw, zrow]
  grind
def zweigh (w : zW) (i np : Nat) (ex : Nat → Bool) (s : Nat) : zW := zthw w i (nI (zsu ex (2 ^ np - 1) s)) (nI (zpo ex s)) (nI (zcnt ex s)) (zoi (zfw ex s)) (fun p => if p < 8 then nI (if p < np then zwi ex p s else 0) else w.2.1 (i + 3) p)
theorem zcnt_0 (f : Nat → Bool) : ∀ n, zcnt f n = 0 → ∀ k, k < n → f k = false
  | 0, _, k, h => absurd h (Nat.not_lt_zero k)
  | n + 1, h, k, hk => by
    simp only [zcnt] at h
    by_cases h1 : f n = true
    · simp [h1] at h
    · by_cases h2 : k = n
      · subst h2; exact Bool.eq_false_iff.mpr h1
      · simp [h1] at h
        exact zcnt_0 f n h k (by omega)
theorem zsu_lt (ex : Nat → Bool) (a : Nat) : ∀ s, zsu ex a s ≤ a
  | 0 => Nat.le_refl _
  | s + 1 => by
    simp only [zsu]
    split
    · exact Nat.le_trans Nat.and_le_left (zsu_lt ex a s)
    · exact zsu_lt ex a s
set_option maxRecDepth 100000 in
theorem c_Theft_weigh (Δ : zD) (w : zW) (i n np : Nat) (thr few : Nat → Nat) (hT : zTh w i) (h : w.2.1 i 2 = nI n) (hn : n ≤ 30) (hnp : np ≤ 8) (h1 : ∀ k, k < n → w.2.1 (i + 1) k = nI (thr k)) (h2 : ∀ k, k < n → w.2.1 (i + 2) k = nI (few k) ∧ few k ≤ 8) : zMd Δ 2 0 0 true yX4_weigh mX4_weigh [.ref i, .int (nI np)] w none (zthw w i (nI (if zcnt (fun s => zexp thr few s n) (2 ^ np) = 0 then 0 else zsu (fun s => zexp thr few s n) (2 ^ np - 1) (2 ^ np))) (nI (zpo (fun s => zexp thr few s n) (2 ^ np))) (nI (zcnt (fun s => zexp thr few s n) (2 ^ np))) (zoi (zfw (fun s => zexp thr few s n) (2 ^ np))) (fun p => if p < 8 then nI (if p < np then zwi (fun s => zexp thr few s n) p (2 ^ np) else 0) else w.2.1 (i + 3) p)) := by
  refine zMd.of mfX4_weigh (Nat.le_of_ble_eq_true rfl) (fun QR hQ => ?_)
  have hT0 := hT
  obtain ⟨g0, r0, r1, r7, g1, g2, g3⟩ := hT
  have hp8 : 2 ^ np ≤ 256 := Nat.pow_le_pow_right (n := 2) (by decide) hnp
  have hp0 : 0 < 2 ^ np := Nat.two_pow_pos np
  have hsh : (1 : Int32) <<< (nI np &&& 31) = nI (2 ^ np) := na_shl np (by omega)
  generalize hex : (fun s => zexp thr few s n) = ex at hQ
  have hE : ∀ s, zexp thr few s n = ex s := fun s => by rw [← hex]
  have L : ∀ j, j ≤ 2 ^ np → zJ Δ mX4_weigh (zRm 2 0 0) true w.1 QR (fun _ _ => False) 0 0 34 [(2, .int (nI j)), (0, .ref i), (1, .int (nI np))] [] (zweigh w i np ex j) := by
    refine zup (fun j hj ih => ?_)
    have hc1 : ∀ k, k < n → (zweigh w i np ex j).2.1 (i + 1) k = nI (thr k) := fun k hk => by rw [← h1 k hk]; simp [zweigh, zthw]
    have hc2 : ∀ k, k < n → (zweigh w i np ex j).2.1 (i + 2) k = nI (few k) ∧ few k ≤ 8 := fun k hk => by rw [← (h2 k hk).1]; simp [zweigh, zthw, (h2 k hk).2]
    have hc0 : (zweigh w i np ex j).2.1 i 2 = nI n := by rw [← h]; simp [zweigh, zthw]
    refine zJ_iload_n dX4_weigh_34 rfl ?_
    refine zJ_iconst (v := 1) dX4_weigh_35 (by decide) ?_
    refine zJ_iload_n dX4_weigh_36 rfl ?_
    refine zJ_ishl dX4_weigh_37 ?_
    rw [hsh]
    refine zJ_icmp_ge (tgt := 61) dX4_weigh_38 (by decide) (fun h38 => ?_) (fun h38 => ?_)
    · have hj9 : j = (2 ^ np) := by exact Nat.le_antisymm hj ((nI_leI (a := (2 ^ np)) (b := j) (by omega) (by omega)).mp h38)
      subst hj9
      refine zJ_aload_n dX4_weigh_61 rfl ?_
      refine zJ_geti dX4_weigh_62 fX4_31 (by first | rfl | assumption) rfl ?_
      rw [show (zweigh w i np ex (2 ^ np)).2.1 i 5 = nI (zcnt ex (2 ^ np)) from (zthw_get _ _ _ _ _ _ _).2.2.1]
      refine zJ_if_ne (tgt := 73) dX4_weigh_65 (by decide) (fun h65 => ?_) (fun h65 => ?_)
      · have hz : ¬ zcnt ex (2 ^ np) = 0 := fun h => h65 (by rw [h]; rfl)
        rw [if_neg hz] at hQ
        exact zJ_vret dX4_weigh_73 rfl (by decide) (by decide) hQ
      · refine zJ_aload_n dX4_weigh_68 rfl ?_
        refine zJ_iconst (v := 0) dX4_weigh_69 (by decide) ?_
        refine zJ_puti dX4_weigh_70 fX4_34 (fun q h => by cases h; rfl) (by first | rfl | assumption) rfl rfl rfl ?_
        have hz : zcnt ex (2 ^ np) = 0 := by
          have := zcnt_le ex (2 ^ np)
          exact (nI_eq (b := 0) (by omega) (by decide)).mp h65
        rw [if_pos hz] at hQ
        rw [zweigh, (zthw_s _ _ _ _ _ _ _ _).1]
        exact zJ_vret dX4_weigh_73 rfl (by decide) (by decide) hQ
    · have hj9 : j < (2 ^ np) := Nat.lt_of_not_le fun h9 => h38 (by exact (nI_leI (a := (2 ^ np)) (b := j) (by omega) (by omega)).mpr h9)
      refine zJ_aload_n dX4_weigh_41 rfl ?_
      refine zJ_iload_n dX4_weigh_42 rfl ?_
      refine zJ_cV1 dX4_weigh_43 sX4_49 mfX4_explains (c_Theft_explains Δ _ i n j thr few hT0 hc0 hn (by omega) hc1 hc2) (by first | rfl | assumption) rfl (Nat.le_of_ble_eq_true rfl) (by decide) (by decide) ?_
      refine zJ_if_eq (tgt := 55) dX4_weigh_46 (by decide) (fun h46 => ?_) (fun h46 => ?_)
      · refine zJ_iinc (ls2 := fun x55 => [(2, .int x55), (0, .ref i), (1, .int (nI np))]) dX4_weigh_55 rfl (by decide) (fun _ => rfl) (fun x55 ex55 => ?_)
        refine zJ_goto (tgt := 34) dX4_weigh_58 (by decide) ?_
        refine zJ_ls [(2, .int x55), (0, .ref i), (1, .int (nI np))] (by simp) ?_
        rw [ex55, show nI j + Int32.ofInt 1 = nI (j + 1) from nI_1 _]
        have hx : ex j = false := by
          rw [← hE]; cases hz : zexp thr few j n with
          | false => rfl
          | true => rw [hz] at h46; exact absurd h46 (by decide)
        refine zJ_w (w2 := zweigh w i np ex (j + 1)) ?_ (ih (j + 1) (by omega) (by omega))
        exact zthw_c (by simp [zsu, hx]) (by simp [zpo, hx]) (by simp [zcnt, hx]) (by simp [zfw, hx]) (funext fun p => by simp [zwi_0 ex p j hx])
      · refine zJ_aload_n dX4_weigh_49 rfl ?_
        refine zJ_iload_n dX4_weigh_50 rfl ?_
        refine zJ_iload_n dX4_weigh_51 rfl ?_
        refine zJ_cV2 dX4_weigh_52 sX4_53 mfX4_take (c_Theft_take Δ _ i np j _ _ _ _ (fun p => if p < np then zwi ex p j else 0) hT0 hnp (by omega) (fun q hq => Nat.lt_trans (zfw_lt ex j q hq) (by omega)) (zthw_get _ _ _ _ _ _ _).1 (zthw_get _ _ _ _ _ _ _).2.1 (zthw_get _ _ _ _ _ _ _).2.2.1 (zthw_get _ _ _ _ _ _ _).2.2.2.1 (fun p hp => by rw [zweigh, (zthw_get _ _ _ _ _ _ _).2.2.2.2, if_pos hp])) (by first | rfl | assumption) rfl (Nat.le_of_ble_eq_true rfl) (by decide) (by decide) ?_
        refine zJ_iinc (ls2 := fun x55 => [(2, .int x55), (0, .ref i), (1, .int (nI np))]) dX4_weigh_55 rfl (by decide) (fun _ => rfl) (fun x55 ex55 => ?_)
        refine zJ_goto (tgt := 34) dX4_weigh_58 (by decide) ?_
        refine zJ_ls [(2, .int x55), (0, .ref i), (1, .int (nI np))] (by simp) ?_
        rw [ex55, show nI j + Int32.ofInt 1 = nI (j + 1) from nI_1 _]
        have hx : ex j = true := by
          rw [← hE]; cases hz : zexp thr few j n with
          | true => rfl
          | false => rw [hz] at h46; exact absurd rfl h46
        refine zJ_w (w2 := zweigh w i np ex (j + 1)) ?_ (ih (j + 1) (by omega) (by omega))
        rw [zweigh, zthw_thw]
        refine zthw_c (by simp [zsu, hx]) (by simp [zpo, hx]) (by simp [zcnt, hx]) (by simp only [zfw, hx, zfn, if_true]; cases zfw ex j <;> rfl) (funext fun p => ?_)
        by_cases c1 : p < np
        · have c2 : p < 8 := by omega
          simp [c1, c2, zwi_1 ex p j hx]
        · simp [c1, (zthw_get _ _ _ _ _ _ _).2.2.2.2]
  refine zJ_w (zthw_self w i).symm ?_
  refine zJ_aload_n dX4_weigh_0 rfl ?_
  refine zJ_iconst (v := 0) dX4_weigh_1 (by decide) ?_
  refine zJ_puti dX4_weigh_2 fX4_31 (fun q h => by cases h; rfl) (by first | rfl | assumption) rfl rfl rfl ?_
  rw [(zthw_s _ _ _ _ _ _ _ _).2.2.1]
  refine zJ_aload_n dX4_weigh_5 rfl ?_
  refine zJ_iconst (v := 1) dX4_weigh_6 (by decide) ?_
  refine zJ_iload_n dX4_weigh_7 rfl ?_
  refine zJ_ishl dX4_weigh_8 ?_
  refine zJ_iconst (v := 1) dX4_weigh_9 (by decide) ?_
  refine zJ_isub dX4_weigh_10 ?_
  rw [hsh, show nI (2 ^ np) - 1 = nI (2 ^ np - 1) from na_sub hp0]
  refine zJ_puti dX4_weigh_11 fX4_34 (fun q h => by cases h; rfl) (by first | rfl | assumption) rfl rfl rfl ?_
  rw [(zthw_s _ _ _ _ _ _ _ _).1]
  refine zJ_aload_n dX4_weigh_14 rfl ?_
  refine zJ_iconst (v := 0) dX4_weigh_15 (by decide) ?_
  refine zJ_puti dX4_weigh_16 fX4_37 (fun q h => by cases h; rfl) (by first | rfl | assumption) rfl rfl rfl ?_
  rw [(zthw_s _ _ _ _ _ _ _ _).2.1]
  refine zJ_aload_n dX4_weigh_19 rfl ?_
  refine zJ_iconst (v := (-1)) dX4_weigh_20 (by decide) ?_
  refine zJ_puti dX4_weigh_21 fX4_40 (fun q h => by cases h; rfl) (by first | rfl | assumption) rfl rfl rfl ?_
  rw [(zthw_s _ _ _ _ _ _ _ _).2.2.2]
  refine zJ_aload_n dX4_weigh_24 rfl ?_
  refine zJ_getr dX4_weigh_25 fX4_18 (by first | rfl | assumption) rfl (by first | rfl | assumption) ?_
  refine zJ_iconst (v := 0) dX4_weigh_28 (by decide) ?_
  refine zJ_cS2 dX4_weigh_29 sX4_43 mfJ7_fill_53178 (c_fill_i Δ _ (i + 3) 8 0 (by decide) g3) (Nat.le_of_ble_eq_true rfl) (by decide) (by decide) ?_
  refine zJ_w (w2 := zweigh w i np ex 0) ?_ ?_
  · rw [zthw_row, (zthw_get _ _ _ _ _ _ _).2.2.2.2]
    exact zthw_c rfl rfl rfl rfl (funext fun p => by simp only [zwi, zcnt, ite_self]; rfl)
  refine zJ_iconst (v := 0) dX4_weigh_32 (by decide) ?_
  refine zJ_istore_n (ls2 := fun x33 => [(2, .int x33), (0, .ref i), (1, .int (nI np))]) dX4_weigh_33 (by decide) (fun _ => rfl) (fun x33 ex33 => ?_)
  subst ex33
  exact L 0 (Nat.zero_le _)
def zof (v : Nat → Nat) (se p : Nat) : Nat := if 2 * v p ≤ se then se - 2 * v p else 2 * v p - se
/-- the first of those below n with the least zof -/
def zwa (v : Nat → Nat) (se : Nat) : Nat → Option Nat
  | 0 => none
  | p + 1 => match zwa v se p with | none => some p | some q => if zof v se p < zof v se q then some p else some q
theorem zwa_lt (v : Nat → Nat) (se : Nat) : ∀ s q, zwa v se s = some q → q < s
  | 0, q, h => by cases h
  | s + 1, q, h => by
    have ih := zwa_lt v se s
    simp only [zwa] at h
    cases hz : zwa v se s with
    | none => rw [hz] at h; cases h; omega
    | some q' =>
      rw [hz] at h
      have := ih q' hz
      simp only at h
      split at h <;> cases h <;> omega
def zne (v : Nat → Nat) (se : Nat) (r : Option Nat) : Nat := match r with
  | none => 0
  | some q => zof v se q
theorem zabs (a b : Nat) (ha : a < 2 ^ 30) (hb : b < 2 ^ 30) : (if 0 ≤ nI a - nI b then nI a - nI b else -(nI a - nI b)) = nI (if a ≤ b then b - a else a - b) := by
  by_cases h : a ≤ b
  · have e1 : nI a - nI b = -(nI (b - a)) := by rw [← na_sub h, Int32.neg_sub]
    by_cases h2 : a = b
    · subst h2; simp; rfl
    · have h3 : ¬ (0 : Int32) ≤ nI a - nI b := by
        rw [e1, Int32.le_iff_toInt_le]
        have h4 : (nI (b - a)).toInt = ((b - a : Nat) : Int) := nI_toInt (by omega)
        rw [Int32.toInt_neg, h4]
        simp only [Int32.toInt_zero]
        rw [Int.bmod_def]
        omega
      rw [if_neg h3, if_pos h, e1, Int32.neg_neg]
  · rw [na_sub (by omega), if_neg h, if_pos]
    exact (nI_leI (a := 0) (by decide) (by omega)).mpr (Nat.zero_le _)
set_option maxRecDepth 100000 in
theorem c_Theft_whomToAsk (Δ : zD) (w : zW) (i np se : Nat) (v : Nat → Nat) (hT : zTh w i) (hnp : np ≤ 8) (hse : se ≤ 256) (hv : ∀ p, p < np → v p ≤ 256) (h5 : w.2.1 i 5 = nI se) (h7 : ∀ p, p < np → w.2.1 (i + 3) p = nI (v p)) : zMd Δ 1 0 0 true yX4_whomToAsk mX4_whomToAsk [.ref i, .int (nI np)] w (some (.int (if se = 0 then -1 else zoi (zwa v se np)))) w := by
  refine zMd.of mfX4_whomToAsk (Nat.le_of_ble_eq_true rfl) (fun QR hQ => ?_)
  obtain ⟨g0, r0, r1, r7, g1, g2, g3⟩ := hT
  have hne : ∀ j, j ≤ np → zne v se (zwa v se j) < 2 ^ 20 := fun j hj => by
    cases hz : zwa v se j with
    | none => simp [zne]
    | some q =>
      have h1 := hv q (Nat.lt_of_lt_of_le (zwa_lt v se j q hz) hj)
      simp only [zne, zof]; split <;> omega
  have L : ¬ se = 0 → ∀ j, j ≤ np → zJ Δ mX4_whomToAsk (zRm 1 0 0) true w.1 QR (fun _ _ => False) 0 0 16 [(4, .int (nI j)), (3, .int (nI (zne v se (zwa v se j)))), (2, .int (zoi (zwa v se j))), (0, .ref i), (1, .int (nI np))] [] w := by
    intro hse0
    refine zup (fun j hj ih => ?_)
    have hq : ∀ q, zwa v se j = some q → q < 256 := fun q h => by have := zwa_lt v se j q h; omega
    refine zJ_iload dX4_whomToAsk_16 rfl ?_
    refine zJ_iload_n dX4_whomToAsk_18 rfl ?_
    refine zJ_icmp_ge (tgt := 63) dX4_whomToAsk_19 (by decide) (fun h19 => ?_) (fun h19 => ?_)
    · have hj9 : j = np := by exact Nat.le_antisymm hj ((nI_leI (a := np) (b := j) (by omega) (by omega)).mp h19)
      subst hj9
      refine zJ_iload_n dX4_whomToAsk_63 rfl ?_
      exact zJ_iret dX4_whomToAsk_64 rfl (by decide) (by decide) (by rw [if_neg hse0] at hQ; exact hQ)
    · have hj9 : j < np := Nat.lt_of_not_le fun h9 => h19 (by exact (nI_leI (a := np) (b := j) (by omega) (by omega)).mpr h9)
      have ho : zof v se j < 2 ^ 20 := by
        have := hv j hj9
        simp only [zof]; split <;> omega
      refine zJ_iconst (v := 2) dX4_whomToAsk_22 (by decide) ?_
      refine zJ_aload_n dX4_whomToAsk_23 rfl ?_
      refine zJ_getr dX4_whomToAsk_24 fX4_18 (by first | rfl | assumption) rfl (by first | rfl | assumption) ?_
      refine zJ_iload dX4_whomToAsk_27 rfl ?_
      refine zJ_iald dX4_whomToAsk_29 (by first | rfl | assumption) (vp_in_nI (by omega) (by decide)) ?_
      rw [nI_clamp (show j < 2 ^ 31 by omega), h7 j hj9]
      refine zJ_imul dX4_whomToAsk_30 ?_
      rw [show (2 : Int32) * nI (v j) = nI (2 * v j) from na_mul 2 (v j)]
      refine zJ_aload_n dX4_whomToAsk_31 rfl ?_
      refine zJ_geti dX4_whomToAsk_32 fX4_31 (by first | rfl | assumption) rfl ?_
      rw [h5]
      refine zJ_isub dX4_whomToAsk_35 ?_
      refine zJ_cS1 dX4_whomToAsk_36 sX4_57 mfJ9_abs_0f7a4 (c_abs Δ w _) (Nat.le_of_ble_eq_true rfl) (by decide) (by decide) ?_
      rw [zabs (2 * v j) se (by have := hv j hj9; omega) (by omega), show (if 2 * v j ≤ se then se - 2 * v j else 2 * v j - se) = zof v se j from rfl]
      refine zJ_istore (ls2 := fun x39 => [(5, .int x39), (4, .int (nI j)), (3, .int (nI (zne v se (zwa v se j)))), (2, .int (zoi (zwa v se j))), (0, .ref i), (1, .int (nI np))]) dX4_whomToAsk_39 (by decide) (fun _ => rfl) (fun x39 ex39 => ?_)
      refine zJ_iload_n dX4_whomToAsk_41 rfl ?_
      refine zJ_if_lt (tgt := 51) dX4_whomToAsk_42 (by decide) (fun h42 => ?_) (fun h42 => ?_)
      · refine zJ_iload dX4_whomToAsk_51 rfl ?_
        refine zJ_istore_n (ls2 := fun x53 => [(2, .int x53), (5, .int x39), (4, .int (nI j)), (3, .int (nI (zne v se (zwa v se j)))), (0, .ref i), (1, .int (nI np))]) dX4_whomToAsk_53 (by decide) (fun _ => rfl) (fun x53 ex53 => ?_)
        refine zJ_iload dX4_whomToAsk_54 rfl ?_
        refine zJ_istore_n (ls2 := fun x56 => [(3, .int x56), (2, .int x53), (5, .int x39), (4, .int (nI j)), (0, .ref i), (1, .int (nI np))]) dX4_whomToAsk_56 (by decide) (fun _ => rfl) (fun x56 ex56 => ?_)
        refine zJ_iinc (ls2 := fun x57 => [(4, .int x57), (3, .int x56), (2, .int x53), (5, .int x39), (0, .ref i), (1, .int (nI np))]) dX4_whomToAsk_57 rfl (by decide) (fun _ => rfl) (fun x57 ex57 => ?_)
        refine zJ_goto (tgt := 16) dX4_whomToAsk_60 (by decide) ?_
        refine zJ_ls [(4, .int x57), (3, .int x56), (2, .int x53), (0, .ref i), (1, .int (nI np))] (by simp) ?_
        rw [ex57, show nI j + Int32.ofInt 1 = nI (j + 1) from nI_1 _]
        have ez : zwa v se (j + 1) = some j := by
          cases hz : zwa v se j with
          | none => simp [zwa, hz]
          | some q =>
            rw [hz] at h42
            exact absurd ((nI_ltI (a := q) (b := 0) (by have := hq q hz; omega) (by decide)).mp h42) (by omega)
        rw [ex53, ex56, ex39, show nI (zof v se j) = nI (zne v se (zwa v se (j + 1))) by rw [ez]; rfl, show nI j = zoi (zwa v se (j + 1)) by rw [ez]; rfl]
        exact ih (j + 1) (by omega) (by omega)
      · refine zJ_iload dX4_whomToAsk_45 rfl ?_
        refine zJ_iload_n dX4_whomToAsk_47 rfl ?_
        refine zJ_icmp_ge (tgt := 57) dX4_whomToAsk_48 (by decide) (fun h48 => ?_) (fun h48 => ?_)
        · refine zJ_iinc (ls2 := fun x57 => [(4, .int x57), (5, .int x39), (3, .int (nI (zne v se (zwa v se j)))), (2, .int (zoi (zwa v se j))), (0, .ref i), (1, .int (nI np))]) dX4_whomToAsk_57 rfl (by decide) (fun _ => rfl) (fun x57 ex57 => ?_)
          refine zJ_goto (tgt := 16) dX4_whomToAsk_60 (by decide) ?_
          refine zJ_ls [(4, .int x57), (3, .int (nI (zne v se (zwa v se j)))), (2, .int (zoi (zwa v se j))), (0, .ref i), (1, .int (nI np))] (by simp) ?_
          rw [ex57, show nI j + Int32.ofInt 1 = nI (j + 1) from nI_1 _]
          have ez : zwa v se (j + 1) = zwa v se j := by
            cases hz : zwa v se j with
            | none => rw [hz] at h42; exact absurd (by decide) h42
            | some q =>
              have h8 : ¬ zof v se j < zof v se q := fun h => by
                rw [ex39, hz] at h48
                exact absurd ((nI_leI (by have := hne j hj; rw [hz] at this; exact Nat.lt_trans this (by decide)) (by omega)).mp h48) (Nat.not_le.mpr h)
              simp [zwa, hz, h8]
          rw [← ez]
          exact ih (j + 1) (by omega) (by omega)
        · refine zJ_iload dX4_whomToAsk_51 rfl ?_
          refine zJ_istore_n (ls2 := fun x53 => [(2, .int x53), (5, .int x39), (4, .int (nI j)), (3, .int (nI (zne v se (zwa v se j)))), (0, .ref i), (1, .int (nI np))]) dX4_whomToAsk_53 (by decide) (fun _ => rfl) (fun x53 ex53 => ?_)
          refine zJ_iload dX4_whomToAsk_54 rfl ?_
          refine zJ_istore_n (ls2 := fun x56 => [(3, .int x56), (2, .int x53), (5, .int x39), (4, .int (nI j)), (0, .ref i), (1, .int (nI np))]) dX4_whomToAsk_56 (by decide) (fun _ => rfl) (fun x56 ex56 => ?_)
          refine zJ_iinc (ls2 := fun x57 => [(4, .int x57), (3, .int x56), (2, .int x53), (5, .int x39), (0, .ref i), (1, .int (nI np))]) dX4_whomToAsk_57 rfl (by decide) (fun _ => rfl) (fun x57 ex57 => ?_)
          refine zJ_goto (tgt := 16) dX4_whomToAsk_60 (by decide) ?_
          refine zJ_ls [(4, .int x57), (3, .int x56), (2, .int x53), (0, .ref i), (1, .int (nI np))] (by simp) ?_
          rw [ex57, show nI j + Int32.ofInt 1 = nI (j + 1) from nI_1 _]
          have ez : zwa v se (j + 1) = some j := by
            cases hz : zwa v se j with
            | none => simp [zwa, hz]
            | some q =>
              have h8 : zof v se j < zof v se q := Nat.lt_of_not_le fun h => h48 (by rw [ex39, hz]; exact (nI_leI (by have := hne j hj; rw [hz] at this; exact Nat.lt_trans this (by decide)) (by omega)).mpr h)
              simp [zwa, hz, h8]
          rw [ex53, ex56, ex39, show nI (zof v se j) = nI (zne v se (zwa v se (j + 1))) by rw [ez]; rfl, show nI j = zoi (zwa v se (j + 1)) by rw [ez]; rfl]
          exact ih (j + 1) (by omega) (by omega)
  refine zJ_aload_n dX4_whomToAsk_0 rfl ?_
  refine zJ_geti dX4_whomToAsk_1 fX4_31 (by first | rfl | assumption) rfl ?_
  rw [h5]
  refine zJ_if_ne (tgt := 9) dX4_whomToAsk_4 (by decide) (fun h4 => ?_) (fun h4 => ?_)
  · have hz : ¬ se = 0 := fun h => h4 (by rw [h]; rfl)
    refine zJ_iconst (v := (-1)) dX4_whomToAsk_9 (by decide) ?_
    refine zJ_istore_n (ls2 := fun x10 => [(2, .int x10), (0, .ref i), (1, .int (nI np))]) dX4_whomToAsk_10 (by decide) (fun _ => rfl) (fun x10 ex10 => ?_)
    refine zJ_iconst (v := 0) dX4_whomToAsk_11 (by decide) ?_
    refine zJ_istore_n (ls2 := fun x12 => [(3, .int x12), (2, .int x10), (0, .ref i), (1, .int (nI np))]) dX4_whomToAsk_12 (by decide) (fun _ => rfl) (fun x12 ex12 => ?_)
    refine zJ_iconst (v := 0) dX4_whomToAsk_13 (by decide) ?_
    refine zJ_istore (ls2 := fun x14 => [(4, .int x14), (3, .int x12), (2, .int x10), (0, .ref i), (1, .int (nI np))]) dX4_whomToAsk_14 (by decide) (fun _ => rfl) (fun x14 ex14 => ?_)
    subst ex10; subst ex12; subst ex14
    exact L hz 0 (Nat.zero_le _)
  · have hz : se = 0 := (nI_eq (b := 0) (by omega) (by decide)).mp h4
    refine zJ_iconst (v := (-1)) dX4_whomToAsk_7 (by decide) ?_
    exact zJ_iret dX4_whomToAsk_8 rfl (by decide) (by decide) (by rw [if_pos hz] at hQ; exact hQ)
