def zrk (w : zW) (t : Nat) (p : Nat) : Bool := decide (w.2.1 (t + 1) p = 3)
set_option maxRecDepth 100000 in
theorem c_Town_reckoners (Δ : zD) (w : zW) (t np : Nat) (hT : zTn w t) (hp : w.2.1 t 0 = nI np) (hnp : np ≤ 8) : zMd Δ 0 0 0 true yX5_reckoners mX5_reckoners [.ref t] w (some (.int (nI (zbits (zrk w t) np)))) w := by
  refine zM.of mfX5_reckoners (Nat.le_of_ble_eq_true rfl) ?_
  obtain ⟨g0, r1, r2, r3, r4, g1, g2, g3, g4⟩ := hT
  have L : ∀ j, j ≤ np → zJ Δ mX5_reckoners (zRm 0 0 0) true w.1 (fun a b => a = some (.int (nI (zbits (zrk w t) np))) ∧ b = w) (fun _ _ => False) 0 0 4 [(2, .int (nI j)), (1, .int (nI (zbits (zrk w t) j))), (0, .ref t)] [] w := by
    refine zup (fun j hj ih => ?_)
    refine zJ_iload_n dX5_reckoners_4 rfl ?_
    refine zJ_aload_n dX5_reckoners_5 rfl ?_
    refine zJ_geti dX5_reckoners_6 fX5_27 (by first | rfl | assumption) rfl ?_
    refine zJ_icmp_ge (tgt := 34) dX5_reckoners_9 (by decide) (fun h9 => ?_) (fun h9 => ?_)
    · have hj9 : j = np := by rw [hp] at h9; exact Nat.le_antisymm hj ((nI_leI (by omega) (by omega)).mp h9)
      refine zJ_iload_n dX5_reckoners_34 rfl ?_
      exact zJ_iret dX5_reckoners_35 rfl (by decide) (by decide) ⟨by rw [hj9], rfl⟩
    · have hj9 : j < np := Nat.lt_of_not_le fun h => h9 (by rw [hp]; exact (nI_leI (by omega) (by omega)).mpr h)
      refine zJ_aload_n dX5_reckoners_12 rfl ?_
      refine zJ_getr dX5_reckoners_13 fX5_9 (by first | rfl | assumption) rfl (by first | rfl | assumption) ?_
      refine zJ_iload_n dX5_reckoners_16 rfl ?_
      refine zJ_iald dX5_reckoners_17 (by first | rfl | assumption) (vp_in_nI (by omega) (by decide)) ?_
      refine zJ_iconst (v := 3) dX5_reckoners_18 (by decide) ?_
      refine zJ_icmp_ne (tgt := 28) dX5_reckoners_19 (by decide) (fun h19 => ?_) (fun h19 => ?_)
      · refine zJ_iinc (ls2 := fun x28 => [(2, .int x28), (1, .int (nI (zbits (zrk w t) j))), (0, .ref t)]) dX5_reckoners_28 rfl (by decide) (fun _ => rfl) (fun x28 ex28 => ?_)
        refine zJ_goto (tgt := 4) dX5_reckoners_31 (by decide) ?_
        refine zJ_ls [(2, .int x28), (1, .int (nI (zbits (zrk w t) j))), (0, .ref t)] (by simp) ?_
        rw [ex28, show nI j + Int32.ofInt 1 = nI (j + 1) from nI_1 j]
        rw [nI_clamp (by omega)] at h19
        refine zJ_ls [(2, .int (nI (j + 1))), (1, .int (nI (zbits (zrk w t) (j + 1)))), (0, .ref t)] (by simp [zbits, zrk, h19]) ?_
        exact ih (j + 1) (by omega) (by omega)
      · refine zJ_iload_n dX5_reckoners_22 rfl ?_
        refine zJ_iconst (v := 1) dX5_reckoners_23 (by decide) ?_
        refine zJ_iload_n dX5_reckoners_24 rfl ?_
        refine zJ_ishl dX5_reckoners_25 ?_
        refine zJ_ior dX5_reckoners_26 ?_
        refine zJ_istore_n (ls2 := fun x27 => [(1, .int x27), (2, .int (nI j)), (0, .ref t)]) dX5_reckoners_27 (by decide) (fun _ => rfl) (fun x27 ex27 => ?_)
        refine zJ_iinc (ls2 := fun x28 => [(2, .int x28), (1, .int x27), (0, .ref t)]) dX5_reckoners_28 rfl (by decide) (fun _ => rfl) (fun x28 ex28 => ?_)
        refine zJ_goto (tgt := 4) dX5_reckoners_31 (by decide) ?_
        refine zJ_ls [(2, .int x28), (1, .int x27), (0, .ref t)] (by simp) ?_
        rw [ex28, show nI j + Int32.ofInt 1 = nI (j + 1) from nI_1 j]
        rw [nI_clamp (by omega)] at h19
        have eb : x27 = nI (zbits (zrk w t) (j + 1)) := by
          rw [ex27, na_shl j (by omega), zbits_or]
          simp [zbits, zrk, h19]
        rw [eb]
        exact ih (j + 1) (by omega) (by omega)
  refine zJ_iconst (v := 0) dX5_reckoners_0 (by decide) ?_
  refine zJ_istore_n (ls2 := fun x1 => [(1, .int x1), (0, .ref t)]) dX5_reckoners_1 (by decide) (fun _ => rfl) (fun x1 ex1 => ?_)
  refine zJ_iconst (v := 0) dX5_reckoners_2 (by decide) ?_
  refine zJ_istore_n (ls2 := fun x3 => [(2, .int x3), (1, .int x1), (0, .ref t)]) dX5_reckoners_3 (by decide) (fun _ => rfl) (fun x3 ex3 => ?_)
  subst ex1; subst ex3
  exact L 0 (Nat.zero_le _)
/-- all of the first n reckon -/
def zlr (w : zW) (t n : Nat) : zW := zrow (zrow w (t + 1) (fun p => if p < n then 3 else w.2.1 (t + 1) p)) (t + 2) (fun p => if p < n ∧ w.2.1 (t + 1) p ≠ 3 then 0 else w.2.1 (t + 2) p)
theorem zlr_0 (w : zW) (t : Nat) : zlr w t 0 = w := by
  simp only [zlr, Nat.not_lt_zero, false_and, if_false, zrow_self]
set_option maxRecDepth 100000 in
theorem c_Town_letAllReckon (Δ : zD) (w : zW) (t np : Nat) (hT : zTn w t) (hp : w.2.1 t 0 = nI np) (hnp : np ≤ 8) : zMd Δ 0 0 0 true yX5_letAllReckon mX5_letAllReckon [.ref t] w none (zlr w t np) := by
  refine zM.of mfX5_letAllReckon (Nat.le_of_ble_eq_true rfl) ?_
  obtain ⟨g0, r1, r2, r3, r4, g1, g2, g3, g4⟩ := hT
  have L : ∀ j, j ≤ np → zJ Δ mX5_letAllReckon (zRm 0 0 0) true w.1 (fun a b => a = none ∧ b = zlr w t np) (fun _ _ => False) 0 0 2 [(1, .int (nI j)), (0, .ref t)] [] (zlr w t j) := by
    refine zup (fun j hj ih => ?_)
    have ep : (zlr w t j).2.1 t 0 = nI np := by simp [zlr, zrow, hp]
    have e1 : (zlr w t j).2.1 (t + 1) j = w.2.1 (t + 1) j := by simp [zlr, zrow]
    refine zJ_iload_n dX5_letAllReckon_2 rfl ?_
    refine zJ_aload_n dX5_letAllReckon_3 rfl ?_
    refine zJ_geti dX5_letAllReckon_4 fX5_27 (by first | rfl | assumption) rfl ?_
    refine zJ_icmp_ge (tgt := 40) dX5_letAllReckon_7 (by decide) (fun h7 => ?_) (fun h7 => ?_)
    · have hj9 : j = np := by rw [ep] at h7; exact Nat.le_antisymm hj ((nI_leI (by omega) (by omega)).mp h7)
      exact zJ_vret dX5_letAllReckon_40 rfl (by decide) (by decide) ⟨rfl, by rw [hj9]⟩
    · have hj9 : j < np := Nat.lt_of_not_le fun h => h7 (by rw [ep]; exact (nI_leI (by omega) (by omega)).mpr h)
      refine zJ_aload_n dX5_letAllReckon_10 rfl ?_
      refine zJ_getr dX5_letAllReckon_11 fX5_9 (by first | rfl | assumption) rfl (by first | rfl | assumption) ?_
      refine zJ_iload_n dX5_letAllReckon_14 rfl ?_
      refine zJ_iald dX5_letAllReckon_15 (by first | rfl | assumption) (vp_in_nI (by omega) (by decide)) ?_
      refine zJ_iconst (v := 3) dX5_letAllReckon_16 (by decide) ?_
      refine zJ_icmp_eq (tgt := 34) dX5_letAllReckon_17 (by decide) (fun h17 => ?_) (fun h17 => ?_)
      · refine zJ_iinc (ls2 := fun x34 => [(1, .int x34), (0, .ref t)]) dX5_letAllReckon_34 rfl (by decide) (fun _ => rfl) (fun x34 ex34 => ?_)
        refine zJ_goto (tgt := 2) dX5_letAllReckon_37 (by decide) ?_
        refine zJ_ls [(1, .int x34), (0, .ref t)] (by simp) ?_
        rw [ex34, show nI j + Int32.ofInt 1 = nI (j + 1) from nI_1 j]
        rw [nI_clamp (by omega), e1] at h17
        refine zJ_w ?_ (ih (j + 1) (by omega) (by omega))
        simp only [nI_clamp (show j < 2 ^ 31 by omega), zsi, zlr, zrow, Prod.mk.injEq, true_and, and_true]
        funext a b
        by_cases c1 : a = t + 1
        · subst c1
          by_cases c2 : b = j
          · subst c2; simp [h17]
          · have c3 : (b < j + 1) = (b < j) := by simp only [eq_iff_iff]; omega
            simp [c2, c3]
        · by_cases c4 : a = t + 2
          · subst c4
            by_cases c2 : b = j
            · subst c2; simp [h17]
            · have c3 : (b < j + 1) = (b < j) := by simp only [eq_iff_iff]; omega
              simp [c2, c3]
          · simp [c1, c4]
      · refine zJ_aload_n dX5_letAllReckon_20 rfl ?_
        refine zJ_getr dX5_letAllReckon_21 fX5_9 (by first | rfl | assumption) rfl (by first | rfl | assumption) ?_
        refine zJ_iload_n dX5_letAllReckon_24 rfl ?_
        refine zJ_iconst (v := 3) dX5_letAllReckon_25 (by decide) ?_
        refine zJ_iast dX5_letAllReckon_26 (by first | rfl | assumption) (vp_in_nI (by omega) (by decide)) ?_
        refine zJ_aload_n dX5_letAllReckon_27 rfl ?_
        refine zJ_getr dX5_letAllReckon_28 fX5_15 (by first | rfl | assumption) rfl (by first | rfl | assumption) ?_
        refine zJ_iload_n dX5_letAllReckon_31 rfl ?_
        refine zJ_iconst (v := 0) dX5_letAllReckon_32 (by decide) ?_
        refine zJ_iast dX5_letAllReckon_33 (by first | rfl | assumption) (vp_in_nI (by omega) (by decide)) ?_
        refine zJ_iinc (ls2 := fun x34 => [(1, .int x34), (0, .ref t)]) dX5_letAllReckon_34 rfl (by decide) (fun _ => rfl) (fun x34 ex34 => ?_)
        refine zJ_goto (tgt := 2) dX5_letAllReckon_37 (by decide) ?_
        refine zJ_ls [(1, .int x34), (0, .ref t)] (by simp) ?_
        rw [ex34, show nI j + Int32.ofInt 1 = nI (j + 1) from nI_1 j]
        rw [nI_clamp (by omega), e1] at h17
        refine zJ_w ?_ (ih (j + 1) (by omega) (by omega))
        simp only [nI_clamp (show j < 2 ^ 31 by omega), zsi, zlr, zrow, Prod.mk.injEq, true_and, and_true]
        funext a b
        by_cases c1 : a = t + 1
        · subst c1
          by_cases c2 : b = j
          · subst c2; simp [h17]
          · have c3 : (b < j + 1) = (b < j) := by simp only [eq_iff_iff]; omega
            simp [c2, c3]
        · by_cases c4 : a = t + 2
          · subst c4
            by_cases c2 : b = j
            · subst c2; simp [h17]
            · have c3 : (b < j + 1) = (b < j) := by simp only [eq_iff_iff]; omega
              simp [c2, c3]
          · simp [c1, c4]
  refine zJ_iconst (v := 0) dX5_letAllReckon_0 (by decide) ?_
  refine zJ_istore_n (ls2 := fun x1 => [(1, .int x1), (0, .ref t)]) dX5_letAllReckon_1 (by decide) (fun _ => rfl) (fun x1 ex1 => ?_)
  subst ex1
  exact zJ_w (zlr_0 w t).symm (L 0 (Nat.zero_le _))
def zfo (w : zW) (t : Nat) (x : Int32) (h : Nat) : Bool := decide (x ≤ zfe w t (nI (h + 1)))
set_option maxRecDepth 100000 in
theorem c_Town_handsOpenedAt (Δ : zD) (w : zW) (t nh : Nat) (x : Int32) (ht : w.1 t = some (.inl 5)) (hp : w.2.1 t 7 = nI nh) (hnh : nh ≤ 12) : zMd Δ 2 0 0 true yX5_handsOpenedAt mX5_handsOpenedAt [.ref t, .int x] w (some (.int (nI (zcnt (zfo w t x) nh)))) w := by
  refine zM.of mfX5_handsOpenedAt (Nat.le_of_ble_eq_true rfl) ?_
  have L : ∀ j, j ≤ nh → zJ Δ mX5_handsOpenedAt (zRm 2 0 0) true w.1 (fun a b => a = some (.int (nI (zcnt (zfo w t x) nh))) ∧ b = w) (fun _ _ => False) 0 0 4 [(3, .int (nI (j + 1))), (2, .int (nI (zcnt (zfo w t x) j))), (0, .ref t), (1, .int x)] [] w := by
    refine zup (fun j hj ih => ?_)
    refine zJ_iload_n dX5_handsOpenedAt_4 rfl ?_
    refine zJ_aload_n dX5_handsOpenedAt_5 rfl ?_
    refine zJ_geti dX5_handsOpenedAt_6 fX5_43 (by first | rfl | assumption) rfl ?_
    refine zJ_icmp_gt (tgt := 30) dX5_handsOpenedAt_9 (by decide) (fun h9 => ?_) (fun h9 => ?_)
    · have hj9 : j = nh := by rw [hp] at h9; have := (nI_ltI (by omega) (by omega)).mp h9; omega
      refine zJ_iload_n dX5_handsOpenedAt_30 rfl ?_
      exact zJ_iret dX5_handsOpenedAt_31 rfl (by decide) (by decide) ⟨by rw [hj9], rfl⟩
    · have hj9 : j < nh := Nat.lt_of_not_le fun h => h9 (by rw [hp]; exact (nI_ltI (by omega) (by omega)).mpr (by omega))
      refine zJ_aload_n dX5_handsOpenedAt_12 rfl ?_
      refine zJ_iload_n dX5_handsOpenedAt_13 rfl ?_
      refine zJ_cV1 dX5_handsOpenedAt_14 sX5_74 mfX5_felt (c_Town_felt Δ w t (nI (j + 1)) ht) (by first | rfl | assumption) rfl (by decide) (by decide) (by decide) ?_
      refine zJ_iload_n dX5_handsOpenedAt_17 rfl ?_
      refine zJ_icmp_lt (tgt := 24) dX5_handsOpenedAt_18 (by decide) (fun h18 => ?_) (fun h18 => ?_)
      · refine zJ_iinc (ls2 := fun x24 => [(3, .int x24), (2, .int (nI (zcnt (zfo w t x) j))), (0, .ref t), (1, .int x)]) dX5_handsOpenedAt_24 rfl (by decide) (fun _ => rfl) (fun x24 ex24 => ?_)
        refine zJ_goto (tgt := 4) dX5_handsOpenedAt_27 (by decide) ?_
        refine zJ_ls [(3, .int x24), (2, .int (nI (zcnt (zfo w t x) j))), (0, .ref t), (1, .int x)] (by simp) ?_
        rw [ex24, show nI (j + 1) + Int32.ofInt 1 = nI (j + 1 + 1) from nI_1 (j + 1)]
        have h8 : ¬ x ≤ zfe w t (nI (j + 1)) := Int32.not_le.mpr h18
        refine zJ_ls [(3, .int (nI (j + 1 + 1))), (2, .int (nI (zcnt (zfo w t x) (j + 1)))), (0, .ref t), (1, .int x)] (by simp [zcnt, zfo, h8]) ?_
        exact ih (j + 1) (by omega) (by omega)
      · refine zJ_iinc (ls2 := fun x21 => [(2, .int x21), (3, .int (nI (j + 1))), (0, .ref t), (1, .int x)]) dX5_handsOpenedAt_21 rfl (by decide) (fun _ => rfl) (fun x21 ex21 => ?_)
        refine zJ_iinc (ls2 := fun x24 => [(3, .int x24), (2, .int x21), (0, .ref t), (1, .int x)]) dX5_handsOpenedAt_24 rfl (by decide) (fun _ => rfl) (fun x24 ex24 => ?_)
        refine zJ_goto (tgt := 4) dX5_handsOpenedAt_27 (by decide) ?_
        refine zJ_ls [(3, .int x24), (2, .int x21), (0, .ref t), (1, .int x)] (by simp) ?_
        rw [ex24, show nI (j + 1) + Int32.ofInt 1 = nI (j + 1 + 1) from nI_1 (j + 1)]
        have eb : x21 = nI (zcnt (zfo w t x) (j + 1)) := by
          have h8 : x ≤ zfe w t (nI (j + 1)) := Int32.not_lt.mp h18
          rw [ex21, show nI (zcnt (zfo w t x) j) + Int32.ofInt 1 = nI (zcnt (zfo w t x) j + 1) from nI_1 _]
          simp [zcnt, zfo, h8]
        rw [eb]
        exact ih (j + 1) (by omega) (by omega)
  refine zJ_iconst (v := 0) dX5_handsOpenedAt_0 (by decide) ?_
  refine zJ_istore_n (ls2 := fun x1 => [(2, .int x1), (0, .ref t), (1, .int x)]) dX5_handsOpenedAt_1 (by decide) (fun _ => rfl) (fun x1 ex1 => ?_)
  refine zJ_iconst (v := 1) dX5_handsOpenedAt_2 (by decide) ?_
  refine zJ_istore_n (ls2 := fun x3 => [(3, .int x3), (2, .int x1), (0, .ref t), (1, .int x)]) dX5_handsOpenedAt_3 (by decide) (fun _ => rfl) (fun x3 ex3 => ?_)
  subst ex1; subst ex3
  exact L 0 (Nat.zero_le _)
/-- all is alike that a call may put in place of what is told -/
def zas (w : zW) (t f : Nat) : Prop := (w.2.1 t 8 = w.2.1 f 8 ∧ w.2.1 t 9 = w.2.1 f 9 ∧ w.2.1 t 10 = w.2.1 f 10 ∧ w.2.1 t 11 = w.2.1 f 11 ∧ w.2.1 t 12 = w.2.1 f 12 ∧ w.2.1 t 13 = w.2.1 f 13) ∧ ∀ p, p < 8 → w.2.1 (t + 1) p = w.2.1 (f + 1) p ∧ w.2.1 (t + 2) p = w.2.1 (f + 2) p
set_option maxRecDepth 100000 in
theorem c_Town_isAsked (Δ : zD) (w : zW) (t f : Nat) (hT : zTn w t) (hF : zTn w f) : ∃ r : Int32, (r = 1 ∧ zas w t f ∨ r = 0 ∧ ¬ zas w t f) ∧ zMd Δ 0 0 0 true yX5_isAsked mX5_isAsked [.ref t, .ref f] w (some (.int r)) w := by
  obtain ⟨g0, r1, r2, r3, r4, g1, g2, g3, g4⟩ := hT
  obtain ⟨f0, q1, q2, q3, q4, f1, f2, f3, f4⟩ := hF
  suffices h : ∀ r : Int32, (r = 1 ∧ zas w t f ∨ r = 0 ∧ ¬ zas w t f) → zMd Δ 0 0 0 true yX5_isAsked mX5_isAsked [.ref t, .ref f] w (some (.int r)) w by
    by_cases hz : zas w t f
    · exact ⟨1, Or.inl ⟨rfl, hz⟩, h 1 (Or.inl ⟨rfl, hz⟩)⟩
    · exact ⟨0, Or.inr ⟨rfl, hz⟩, h 0 (Or.inr ⟨rfl, hz⟩)⟩
  intro r hr
  have rt : zas w t f → r = 1 := fun h => hr.elim (fun a => a.1) (fun a => absurd h a.2)
  have rf : ¬ zas w t f → r = 0 := fun h => hr.elim (fun a => absurd a.2 h) (fun a => a.1)
  refine zM.of mfX5_isAsked (Nat.le_of_ble_eq_true rfl) ?_
  have L : (w.2.1 t 8 = w.2.1 f 8 ∧ w.2.1 t 9 = w.2.1 f 9 ∧ w.2.1 t 10 = w.2.1 f 10 ∧ w.2.1 t 11 = w.2.1 f 11 ∧ w.2.1 t 12 = w.2.1 f 12 ∧ w.2.1 t 13 = w.2.1 f 13) → ∀ j, j ≤ 8 → (∀ p, p < j → w.2.1 (t + 1) p = w.2.1 (f + 1) p ∧ w.2.1 (t + 2) p = w.2.1 (f + 2) p) → zJ Δ mX5_isAsked (zRm 0 0 0) true w.1 (fun a b => a = some (.int r) ∧ b = w) (fun _ _ => False) 0 0 72 [(2, .int (nI j)), (0, .ref t), (1, .ref f)] [] w := by
    intro hs
    refine zup (fun j hj ih hb => ?_)
    refine zJ_iload_n dX5_isAsked_72 rfl ?_
    refine zJ_bipush (v := 8) dX5_isAsked_73 (by decide) ?_
    refine zJ_icmp_ge (tgt := 116) dX5_isAsked_75 (by decide) (fun h75 => ?_) (fun h75 => ?_)
    · have hj9 : j = 8 := Nat.le_antisymm hj ((nI_leI (a := 8) (by decide) (by omega)).mp h75)
      refine zJ_iconst (v := 1) dX5_isAsked_116 (by decide) ?_
      exact zJ_zret dX5_isAsked_117 rfl rfl (by decide) (by decide) ⟨by rw [rt ⟨hs, fun p hp => hb p (by omega)⟩], rfl⟩
    · have hj9 : j < 8 := Nat.lt_of_not_le fun h => h75 ((nI_leI (a := 8) (by decide) (by omega)).mpr h)
      have hcl : (nI j).toNatClampNeg = j := nI_clamp (by omega)
      refine zJ_aload_n dX5_isAsked_78 rfl ?_
      refine zJ_getr dX5_isAsked_79 fX5_9 (by first | rfl | assumption) rfl (by first | rfl | assumption) ?_
      refine zJ_iload_n dX5_isAsked_82 rfl ?_
      refine zJ_iald dX5_isAsked_83 (by first | rfl | assumption) (vp_in_nI hj9 (by decide)) ?_
      refine zJ_aload_n dX5_isAsked_84 rfl ?_
      refine zJ_getr dX5_isAsked_85 fX5_9 (by first | rfl | assumption) rfl (by first | rfl | assumption) ?_
      refine zJ_iload_n dX5_isAsked_88 rfl ?_
      refine zJ_iald dX5_isAsked_89 (by first | rfl | assumption) (vp_in_nI hj9 (by decide)) ?_
      refine zJ_icmp_ne (tgt := 108) dX5_isAsked_90 (by decide) (fun h90 => ?_) (fun h90 => ?_)
      · have hno : ¬ zas w t f := fun h => by
          have h1 := h.2 j hj9
          rw [hcl] at *
          simp_all
        refine zJ_iconst (v := 0) dX5_isAsked_108 (by decide) ?_
        exact zJ_zret dX5_isAsked_109 rfl rfl (by decide) (by decide) ⟨by rw [rf hno], rfl⟩
      · refine zJ_aload_n dX5_isAsked_93 rfl ?_
        refine zJ_getr dX5_isAsked_94 fX5_15 (by first | rfl | assumption) rfl (by first | rfl | assumption) ?_
        refine zJ_iload_n dX5_isAsked_97 rfl ?_
        refine zJ_iald dX5_isAsked_98 (by first | rfl | assumption) (vp_in_nI hj9 (by decide)) ?_
        refine zJ_aload_n dX5_isAsked_99 rfl ?_
        refine zJ_getr dX5_isAsked_100 fX5_15 (by first | rfl | assumption) rfl (by first | rfl | assumption) ?_
        refine zJ_iload_n dX5_isAsked_103 rfl ?_
        refine zJ_iald dX5_isAsked_104 (by first | rfl | assumption) (vp_in_nI hj9 (by decide)) ?_
        refine zJ_icmp_eq (tgt := 110) dX5_isAsked_105 (by decide) (fun h105 => ?_) (fun h105 => ?_)
        · refine zJ_iinc (ls2 := fun x110 => [(2, .int x110), (0, .ref t), (1, .ref f)]) dX5_isAsked_110 rfl (by decide) (fun _ => rfl) (fun x110 ex110 => ?_)
          refine zJ_goto (tgt := 72) dX5_isAsked_113 (by decide) ?_
          refine zJ_ls [(2, .int x110), (0, .ref t), (1, .ref f)] (by simp) ?_
          rw [ex110, show nI j + Int32.ofInt 1 = nI (j + 1) from nI_1 j]
          rw [hcl] at h90 h105
          exact ih (j + 1) (by omega) (by omega) (fun p hp => by
            by_cases e : p = j
            · subst e; exact ⟨h90, h105⟩
            · exact hb p (by omega))
        · have hno : ¬ zas w t f := fun h => by
            have h1 := h.2 j hj9
            rw [hcl] at *
            simp_all
          refine zJ_iconst (v := 0) dX5_isAsked_108 (by decide) ?_
          exact zJ_zret dX5_isAsked_109 rfl rfl (by decide) (by decide) ⟨by rw [rf hno], rfl⟩
  refine zJ_aload_n dX5_isAsked_0 rfl ?_
  refine zJ_geti dX5_isAsked_1 fX5_46 (by first | rfl | assumption) rfl ?_
  refine zJ_aload_n dX5_isAsked_4 rfl ?_
  refine zJ_geti dX5_isAsked_5 fX5_46 (by first | rfl | assumption) rfl ?_
  refine zJ_icmp_ne (tgt := 33) dX5_isAsked_8 (by decide) (fun h8 => ?_) (fun h8 => ?_)
  · have hno : ¬ zas w t f := fun h => by
      obtain ⟨⟨a1, a2, a3, a4, a5, a6⟩, -⟩ := h
      simp_all
    refine zJ_iconst (v := 0) dX5_isAsked_33 (by decide) ?_
    exact zJ_zret dX5_isAsked_34 rfl rfl (by decide) (by decide) ⟨by rw [rf hno], rfl⟩
  · refine zJ_aload_n dX5_isAsked_11 rfl ?_
    refine zJ_geti dX5_isAsked_12 fX5_49 (by first | rfl | assumption) rfl ?_
    refine zJ_aload_n dX5_isAsked_15 rfl ?_
    refine zJ_geti dX5_isAsked_16 fX5_49 (by first | rfl | assumption) rfl ?_
    refine zJ_icmp_ne (tgt := 33) dX5_isAsked_19 (by decide) (fun h19 => ?_) (fun h19 => ?_)
    · have hno : ¬ zas w t f := fun h => by
        obtain ⟨⟨a1, a2, a3, a4, a5, a6⟩, -⟩ := h
        simp_all
      refine zJ_iconst (v := 0) dX5_isAsked_33 (by decide) ?_
      exact zJ_zret dX5_isAsked_34 rfl rfl (by decide) (by decide) ⟨by rw [rf hno], rfl⟩
    · refine zJ_aload_n dX5_isAsked_22 rfl ?_
      refine zJ_geti dX5_isAsked_23 fX5_52 (by first | rfl | assumption) rfl ?_
      refine zJ_aload_n dX5_isAsked_26 rfl ?_
      refine zJ_geti dX5_isAsked_27 fX5_52 (by first | rfl | assumption) rfl ?_
      refine zJ_icmp_eq (tgt := 35) dX5_isAsked_30 (by decide) (fun h30 => ?_) (fun h30 => ?_)
      · refine zJ_aload_n dX5_isAsked_35 rfl ?_
        refine zJ_geti dX5_isAsked_36 fX5_55 (by first | rfl | assumption) rfl ?_
        refine zJ_aload_n dX5_isAsked_39 rfl ?_
        refine zJ_geti dX5_isAsked_40 fX5_55 (by first | rfl | assumption) rfl ?_
        refine zJ_icmp_ne (tgt := 68) dX5_isAsked_43 (by decide) (fun h43 => ?_) (fun h43 => ?_)
        · have hno : ¬ zas w t f := fun h => by
            obtain ⟨⟨a1, a2, a3, a4, a5, a6⟩, -⟩ := h
            simp_all
          refine zJ_iconst (v := 0) dX5_isAsked_68 (by decide) ?_
          exact zJ_zret dX5_isAsked_69 rfl rfl (by decide) (by decide) ⟨by rw [rf hno], rfl⟩
        · refine zJ_aload_n dX5_isAsked_46 rfl ?_
          refine zJ_geti dX5_isAsked_47 fX5_58 (by first | rfl | assumption) rfl ?_
          refine zJ_aload_n dX5_isAsked_50 rfl ?_
          refine zJ_geti dX5_isAsked_51 fX5_58 (by first | rfl | assumption) rfl ?_
          refine zJ_icmp_ne (tgt := 68) dX5_isAsked_54 (by decide) (fun h54 => ?_) (fun h54 => ?_)
          · have hno : ¬ zas w t f := fun h => by
              obtain ⟨⟨a1, a2, a3, a4, a5, a6⟩, -⟩ := h
              simp_all
            refine zJ_iconst (v := 0) dX5_isAsked_68 (by decide) ?_
            exact zJ_zret dX5_isAsked_69 rfl rfl (by decide) (by decide) ⟨by rw [rf hno], rfl⟩
          · refine zJ_aload_n dX5_isAsked_57 rfl ?_
            refine zJ_geti dX5_isAsked_58 fX5_61 (by first | rfl | assumption) rfl ?_
            refine zJ_aload_n dX5_isAsked_61 rfl ?_
            refine zJ_geti dX5_isAsked_62 fX5_61 (by first | rfl | assumption) rfl ?_
            refine zJ_icmp_eq (tgt := 70) dX5_isAsked_65 (by decide) (fun h65 => ?_) (fun h65 => ?_)
            · refine zJ_iconst (v := 0) dX5_isAsked_70 (by decide) ?_
              refine zJ_istore_n (ls2 := fun x71 => [(2, .int x71), (0, .ref t), (1, .ref f)]) dX5_isAsked_71 (by decide) (fun _ => rfl) (fun x71 ex71 => ?_)
              subst ex71
              exact L (by simp_all) 0 (Nat.zero_le _) (fun p hp => absurd hp (Nat.not_lt_zero p))
            · have hno : ¬ zas w t f := fun h => by
                obtain ⟨⟨a1, a2, a3, a4, a5, a6⟩, -⟩ := h
                simp_all
              refine zJ_iconst (v := 0) dX5_isAsked_68 (by decide) ?_
              exact zJ_zret dX5_isAsked_69 rfl rfl (by decide) (by decide) ⟨by rw [rf hno], rfl⟩
      · have hno : ¬ zas w t f := fun h => by
          obtain ⟨⟨a1, a2, a3, a4, a5, a6⟩, -⟩ := h
          simp_all
        refine zJ_iconst (v := 0) dX5_isAsked_33 (by decide) ?_
        exact zJ_zret dX5_isAsked_34 rfl rfl (by decide) (by decide) ⟨by rw [rf hno], rfl⟩
