/-! the model: isTold, named -/
/-- guess g is told by one of the first n -/
def zits (f : Nat → Int32) (g : Nat) : Nat → Bool
  | 0 => false
  | n + 1 => zits f g n || decide (¬ f (g * 8 + n) = -1)
set_option maxRecDepth 100000 in
theorem c_Mo_isTold (Δ : zD) (w : zW) (hM : zMs w) (g : Nat) (hg : g < 4) : zMd Δ 0 0 0 true yX9_isTold mX9_isTold [.ref 100, .int (nI g)] w (some (.int (if zits (w.2.1 162) g 8 then 1 else 0))) w := by
  refine zMd.of mfX9_isTold (Nat.le_of_ble_eq_true rfl) (fun QR hQ => ?_)
  have L : ∀ j, j ≤ 8 → ∀ b : Int32, b = (if zits (w.2.1 162) g j then 1 else 0) → zJ Δ mX9_isTold (zRm 0 0 0) true w.1 QR (fun _ _ => False) 0 0 4 [(3, .int (nI j)), (2, .int b), (0, .ref 100), (1, .int (nI g))] [] w := by
    refine zup (fun j hj ih => ?_)
    intro b hb
    by_cases hj8 : j = 8
    · subst hj8
      refine zJ_iload_n dX9_isTold_4 rfl ?_
      refine zJ_bipush (v := 8) dX9_isTold_5 (by decide) ?_
      refine zJ_icmp_ge (tgt := 41) dX9_isTold_7 (by decide) (fun _ => ?_) (fun h9 => False.elim (by revert h9; decide))
      refine zJ_iload_n dX9_isTold_41 rfl ?_
      exact zJ_zret dX9_isTold_42 rfl (by rw [hb]; split <;> rfl) (by decide) (by decide) (by rw [hb]; exact hQ)
    · have hj9 : j < 8 := by omega
      cases hz : zits (w.2.1 162) g j with
      | true =>
        rw [hz] at hb
        obtain rfl : b = 1 := hb
        refine zJ_iload_n dX9_isTold_4 rfl ?_
        refine zJ_bipush (v := 8) dX9_isTold_5 (by decide) ?_
        refine zJ_icmp_ge (tgt := 41) dX9_isTold_7 (by decide) (fun h9 => absurd h9 (fun h => absurd ((nI_leI (a := 8) (by decide) (by omega)).mp h) (by omega))) (fun h7 => ?_)
        refine zJ_iload_n dX9_isTold_10 rfl ?_
        refine zJ_if_ne (tgt := 29) dX9_isTold_11 (by decide) (fun _ => ?_) (fun h9 => False.elim (by revert h9; decide))
        refine zJ_iconst (v := 1) dX9_isTold_29 (by decide) ?_
        refine zJ_goto (tgt := 34) dX9_isTold_30 (by decide) ?_
        refine zJ_istore_n (ls2 := fun x34 => [(2, .int x34), (3, .int (nI j)), (0, .ref 100), (1, .int (nI g))]) dX9_isTold_34 (by decide) (fun _ => rfl) (fun x34 ex34 => ?_)
        refine zJ_iinc (ls2 := fun x35 => [(3, .int x35), (2, .int x34), (0, .ref 100), (1, .int (nI g))]) dX9_isTold_35 rfl (by decide) (fun _ => rfl) (fun x35 ex35 => ?_)
        refine zJ_goto (tgt := 4) dX9_isTold_38 (by decide) ?_
        refine zJ_ls [(3, .int x35), (2, .int x34), (0, .ref 100), (1, .int (nI g))] (by simp) ?_
        rw [ex35, show nI j + Int32.ofInt 1 = nI (j + 1) from nI_1 _]
        exact ih (j + 1) (by omega) (by omega) _ (by rw [ex34]; simp [zits, hz])
      | false =>
        rw [hz] at hb
        obtain rfl : b = 0 := hb
        by_cases hf : w.2.1 162 (g * 8 + j) = -1
        · refine zJ_iload_n dX9_isTold_4 rfl ?_
          refine zJ_bipush (v := 8) dX9_isTold_5 (by decide) ?_
          refine zJ_icmp_ge (tgt := 41) dX9_isTold_7 (by decide) (fun h9 => absurd h9 (fun h => absurd ((nI_leI (a := 8) (by decide) (by omega)).mp h) (by omega))) (fun h7 => ?_)
          refine zJ_iload_n dX9_isTold_10 rfl ?_
          refine zJ_if_ne (tgt := 29) dX9_isTold_11 (by decide) (fun h9 => False.elim (by revert h9; decide)) (fun _ => ?_)
          refine zJ_aload_n dX9_isTold_14 rfl ?_
          refine zJ_getr (j := 162) dX9_isTold_15 fX9_104 (by first | rfl | assumption | exact hM.at (by decide) (by decide)) rfl (by first | rfl | assumption | exact hM.rf (by decide) rfl) ?_
          refine zJ_bipush (v := 8) dX9_isTold_18 (by decide) ?_
          refine zJ_iload_n dX9_isTold_20 rfl ?_
          refine zJ_imul dX9_isTold_21 ?_
          refine zJ_iload_n dX9_isTold_22 rfl ?_
          refine zJ_iadd dX9_isTold_23 ?_
          refine zJ_ialdN (i := (g * 8 + j)) dX9_isTold_24 (by first | rfl | assumption | exact hM.at (by decide) (by decide)) (na_8 _ _) (by omega) (by decide) rfl ?_
          refine zJ_iconst (v := (-1)) dX9_isTold_25 (by decide) ?_
          refine zJ_icmp_eq (tgt := 33) dX9_isTold_26 (by decide) (fun h26 => ?_) (fun h9 => absurd hf h9)
          refine zJ_iconst (v := 0) dX9_isTold_33 (by decide) ?_
          refine zJ_istore_n (ls2 := fun x34 => [(2, .int x34), (3, .int (nI j)), (0, .ref 100), (1, .int (nI g))]) dX9_isTold_34 (by decide) (fun _ => rfl) (fun x34 ex34 => ?_)
          refine zJ_iinc (ls2 := fun x35 => [(3, .int x35), (2, .int x34), (0, .ref 100), (1, .int (nI g))]) dX9_isTold_35 rfl (by decide) (fun _ => rfl) (fun x35 ex35 => ?_)
          refine zJ_goto (tgt := 4) dX9_isTold_38 (by decide) ?_
          refine zJ_ls [(3, .int x35), (2, .int x34), (0, .ref 100), (1, .int (nI g))] (by simp) ?_
          rw [ex35, show nI j + Int32.ofInt 1 = nI (j + 1) from nI_1 _]
          exact ih (j + 1) (by omega) (by omega) _ (by rw [ex34]; simp [zits, hz, hf])
        · refine zJ_iload_n dX9_isTold_4 rfl ?_
          refine zJ_bipush (v := 8) dX9_isTold_5 (by decide) ?_
          refine zJ_icmp_ge (tgt := 41) dX9_isTold_7 (by decide) (fun h9 => absurd h9 (fun h => absurd ((nI_leI (a := 8) (by decide) (by omega)).mp h) (by omega))) (fun h7 => ?_)
          refine zJ_iload_n dX9_isTold_10 rfl ?_
          refine zJ_if_ne (tgt := 29) dX9_isTold_11 (by decide) (fun h9 => False.elim (by revert h9; decide)) (fun _ => ?_)
          refine zJ_aload_n dX9_isTold_14 rfl ?_
          refine zJ_getr (j := 162) dX9_isTold_15 fX9_104 (by first | rfl | assumption | exact hM.at (by decide) (by decide)) rfl (by first | rfl | assumption | exact hM.rf (by decide) rfl) ?_
          refine zJ_bipush (v := 8) dX9_isTold_18 (by decide) ?_
          refine zJ_iload_n dX9_isTold_20 rfl ?_
          refine zJ_imul dX9_isTold_21 ?_
          refine zJ_iload_n dX9_isTold_22 rfl ?_
          refine zJ_iadd dX9_isTold_23 ?_
          refine zJ_ialdN (i := (g * 8 + j)) dX9_isTold_24 (by first | rfl | assumption | exact hM.at (by decide) (by decide)) (na_8 _ _) (by omega) (by decide) rfl ?_
          refine zJ_iconst (v := (-1)) dX9_isTold_25 (by decide) ?_
          refine zJ_icmp_eq (tgt := 33) dX9_isTold_26 (by decide) (fun h9 => absurd h9 hf) (fun h26 => ?_)
          refine zJ_iconst (v := 1) dX9_isTold_29 (by decide) ?_
          refine zJ_goto (tgt := 34) dX9_isTold_30 (by decide) ?_
          refine zJ_istore_n (ls2 := fun x34 => [(2, .int x34), (3, .int (nI j)), (0, .ref 100), (1, .int (nI g))]) dX9_isTold_34 (by decide) (fun _ => rfl) (fun x34 ex34 => ?_)
          refine zJ_iinc (ls2 := fun x35 => [(3, .int x35), (2, .int x34), (0, .ref 100), (1, .int (nI g))]) dX9_isTold_35 rfl (by decide) (fun _ => rfl) (fun x35 ex35 => ?_)
          refine zJ_goto (tgt := 4) dX9_isTold_38 (by decide) ?_
          refine zJ_ls [(3, .int x35), (2, .int x34), (0, .ref 100), (1, .int (nI g))] (by simp) ?_
          rw [ex35, show nI j + Int32.ofInt 1 = nI (j + 1) from nI_1 _]
          exact ih (j + 1) (by omega) (by omega) _ (by rw [ex34]; simp [zits, hz, hf])
  refine zJ_iconst (v := 0) dX9_isTold_0 (by decide) ?_
  refine zJ_istore_n (ls2 := fun x1 => [(2, .int x1), (0, .ref 100), (1, .int (nI g))]) dX9_isTold_1 (by decide) (fun _ => rfl) (fun x1 ex1 => ?_)
  refine zJ_iconst (v := 0) dX9_isTold_2 (by decide) ?_
  refine zJ_istore_n (ls2 := fun x3 => [(3, .int x3), (2, .int x1), (0, .ref 100), (1, .int (nI g))]) dX9_isTold_3 (by decide) (fun _ => rfl) (fun x3 ex3 => ?_)
  refine zJ_ls [(3, .int x3), (2, .int x1), (0, .ref 100), (1, .int (nI g))] (by simp) ?_
  rw [ex3]
  exact L 0 (Nat.zero_le _) _ (by rw [ex1]; rfl)
