/-! the model: spelled -/
theorem zJ_cS6 {Δ : zD} {M : zMI} {R : Room} {fx : Bool} {sh0 : zSh} {QR : Option Value → zW → Prop} {QX : String → zW → Prop} {k n pc : Nat} {ls : List (Nat × Value)} {st : List Value} {w : zW} {y : MethodName} {M' : zMI} {h idx : Nat} {a1 a2 a3 a4 a5 a6 : Value} {r0 : Option Value} {w0 : zW} (hd : decode M.2.1 pc = .ok (.invokestatic idx, 3)) (hs : zSS M.1 idx y) (hf : zMf y M' 6) (hM : zMd Δ h 0 0 true y M' [a1, a2, a3, a4, a5, a6] w r0 w0) (hst : (st.map fun v => v.category).sum ≤ 8) (hR : h + 1 ≤ R.frames ∧ 38 * h + 38 ≤ R.locals) (hc : k ≤ R.cells ∧ n ≤ R.slots) (kk : zJ Δ M R fx sh0 QR QX k n (pc + 3) ls (zpush r0 st) w0) : zJ Δ M R fx sh0 QR QX k n pc ls (a6 :: a5 :: a4 :: a3 :: a2 :: a1 :: st) w := zJ_callS (As := [a1, a2, a3, a4, a5, a6]) hd hs hf hM (Or.inr (fun _ _ h => h)) rfl (Or.inl rfl) hst hR hc (fun r w' h => by obtain ⟨rfl, rfl⟩ := h; exact kk) (fun E w' h => h.elim)
/-- one letter more; 0: none -/
def zsl1 (v x : Nat) : Nat := if x = 0 then v else v * 32 + (x - 96)
set_option maxRecDepth 100000 in
theorem c_Mo_spelled (Δ : zD) (w : zW) (x0 x1 x2 x3 x4 x5 : Nat) (h0 : 97 ≤ x0 ∧ x0 ≤ 122) (h1 : x1 = 0 ∨ (97 ≤ x1 ∧ x1 ≤ 122)) (h2 : x2 = 0 ∨ (97 ≤ x2 ∧ x2 ≤ 122)) (h3 : x3 = 0 ∨ (97 ≤ x3 ∧ x3 ≤ 122)) (h4 : x4 = 0 ∨ (97 ≤ x4 ∧ x4 ≤ 122)) (h5 : x5 = 0 ∨ (97 ≤ x5 ∧ x5 ≤ 122)) : zMd Δ 0 0 0 true yX9_spelled mX9_spelled [.int (nI x0), .int (nI x1), .int (nI x2), .int (nI x3), .int (nI x4), .int (nI x5)] w (some (.long (lN (zsl1 (zsl1 (zsl1 (zsl1 (zsl1 (x0 - 96) x1) x2) x3) x4) x5)))) w := by
  refine zMd.of mfX9_spelled (Nat.le_of_ble_eq_true rfl) (fun QR hQ => ?_)
  have K91 : ∀ v, v = (zsl1 (zsl1 (zsl1 (zsl1 (zsl1 (x0 - 96) x1) x2) x3) x4) x5) → zJ Δ mX9_spelled (zRm 0 0 0) true w.1 QR (fun _ _ => False) 0 0 91 [(6, .long (lN v)), (0, .int (nI x0)), (1, .int (nI x1)), (2, .int (nI x2)), (3, .int (nI x3)), (4, .int (nI x4)), (5, .int (nI x5))] [] w := by
    intro v hv
    rw [← hv] at hQ
    refine zJ_lload dX9_spelled_91 rfl ?_
    exact zJ_lret dX9_spelled_93 rfl (by decide) (by decide) hQ
  have K73 : ∀ v, (zsl1 v x5) = (zsl1 (zsl1 (zsl1 (zsl1 (zsl1 (x0 - 96) x1) x2) x3) x4) x5) → zJ Δ mX9_spelled (zRm 0 0 0) true w.1 QR (fun _ _ => False) 0 0 73 [(6, .long (lN v)), (0, .int (nI x0)), (1, .int (nI x1)), (2, .int (nI x2)), (3, .int (nI x3)), (4, .int (nI x4)), (5, .int (nI x5))] [] w := by
    intro v hv
    by_cases hx : x5 = 0
    · refine zJ_iload dX9_spelled_73 rfl ?_
      refine zJ_if_eq (tgt := 91) dX9_spelled_75 (by decide) (fun h75 => ?_) (fun h9 => absurd (by rw [hx]; rfl) h9)
      exact K91 v (by rw [← hv]; simp only [zsl1, hx, if_true])
    · have hr : 97 ≤ x5 ∧ x5 ≤ 122 := h5.resolve_left hx
      refine zJ_iload dX9_spelled_73 rfl ?_
      refine zJ_if_eq (tgt := 91) dX9_spelled_75 (by decide) (fun h9 => absurd h9 (fun h => hx ((nI_eq (b := 0) (by omega) (by decide)).mp h))) (fun h75 => ?_)
      refine zJ_lload dX9_spelled_78 rfl ?_
      refine zJ_iconst (v := 5) dX9_spelled_80 (by decide) ?_
      refine zJ_lshl dX9_spelled_81 ?_
      rw [show lN v <<< ((5 : Int32).toInt64 &&& 63) = lN (v * 2 ^ 5) from lN_shlI (k := 5) rfl (by decide)]
      refine zJ_iload dX9_spelled_82 rfl ?_
      refine zJ_bipush (v := 96) dX9_spelled_84 (by decide) ?_
      refine zJ_isub dX9_spelled_86 ?_
      rw [show nI x5 - 96 = nI (x5 - 96) from na_sub (b := 96) (by omega)]
      refine zJ_i2l dX9_spelled_87 ?_
      rw [nI_l (by omega)]
      refine zJ_lor dX9_spelled_88 ?_
      rw [lN_or5 (by omega)]
      refine zJ_lstore (ls2 := fun x89 => [(6, .long x89), (0, .int (nI x0)), (1, .int (nI x1)), (2, .int (nI x2)), (3, .int (nI x3)), (4, .int (nI x4)), (5, .int (nI x5))]) dX9_spelled_89 (by decide) (fun _ => rfl) (fun x89 ex89 => ?_)
      obtain rfl : x89 = (lN (v * 32 + (x5 - 96))) := ex89
      refine zJ_ls [(6, .long (lN (v * 32 + (x5 - 96)))), (0, .int (nI x0)), (1, .int (nI x1)), (2, .int (nI x2)), (3, .int (nI x3)), (4, .int (nI x4)), (5, .int (nI x5))] (by simp) ?_
      exact K91 (v * 32 + (x5 - 96)) (by rw [← hv]; simp only [zsl1, hx, if_false])
  have K55 : ∀ v, (zsl1 (zsl1 v x4) x5) = (zsl1 (zsl1 (zsl1 (zsl1 (zsl1 (x0 - 96) x1) x2) x3) x4) x5) → zJ Δ mX9_spelled (zRm 0 0 0) true w.1 QR (fun _ _ => False) 0 0 55 [(6, .long (lN v)), (0, .int (nI x0)), (1, .int (nI x1)), (2, .int (nI x2)), (3, .int (nI x3)), (4, .int (nI x4)), (5, .int (nI x5))] [] w := by
    intro v hv
    by_cases hx : x4 = 0
    · refine zJ_iload dX9_spelled_55 rfl ?_
      refine zJ_if_eq (tgt := 73) dX9_spelled_57 (by decide) (fun h57 => ?_) (fun h9 => absurd (by rw [hx]; rfl) h9)
      exact K73 v (by rw [← hv]; simp only [zsl1, hx, if_true])
    · have hr : 97 ≤ x4 ∧ x4 ≤ 122 := h4.resolve_left hx
      refine zJ_iload dX9_spelled_55 rfl ?_
      refine zJ_if_eq (tgt := 73) dX9_spelled_57 (by decide) (fun h9 => absurd h9 (fun h => hx ((nI_eq (b := 0) (by omega) (by decide)).mp h))) (fun h57 => ?_)
      refine zJ_lload dX9_spelled_60 rfl ?_
      refine zJ_iconst (v := 5) dX9_spelled_62 (by decide) ?_
      refine zJ_lshl dX9_spelled_63 ?_
      rw [show lN v <<< ((5 : Int32).toInt64 &&& 63) = lN (v * 2 ^ 5) from lN_shlI (k := 5) rfl (by decide)]
      refine zJ_iload dX9_spelled_64 rfl ?_
      refine zJ_bipush (v := 96) dX9_spelled_66 (by decide) ?_
      refine zJ_isub dX9_spelled_68 ?_
      rw [show nI x4 - 96 = nI (x4 - 96) from na_sub (b := 96) (by omega)]
      refine zJ_i2l dX9_spelled_69 ?_
      rw [nI_l (by omega)]
      refine zJ_lor dX9_spelled_70 ?_
      rw [lN_or5 (by omega)]
      refine zJ_lstore (ls2 := fun x71 => [(6, .long x71), (0, .int (nI x0)), (1, .int (nI x1)), (2, .int (nI x2)), (3, .int (nI x3)), (4, .int (nI x4)), (5, .int (nI x5))]) dX9_spelled_71 (by decide) (fun _ => rfl) (fun x71 ex71 => ?_)
      obtain rfl : x71 = (lN (v * 32 + (x4 - 96))) := ex71
      refine zJ_ls [(6, .long (lN (v * 32 + (x4 - 96)))), (0, .int (nI x0)), (1, .int (nI x1)), (2, .int (nI x2)), (3, .int (nI x3)), (4, .int (nI x4)), (5, .int (nI x5))] (by simp) ?_
      exact K73 (v * 32 + (x4 - 96)) (by rw [← hv]; simp only [zsl1, hx, if_false])
  have K39 : ∀ v, (zsl1 (zsl1 (zsl1 v x3) x4) x5) = (zsl1 (zsl1 (zsl1 (zsl1 (zsl1 (x0 - 96) x1) x2) x3) x4) x5) → zJ Δ mX9_spelled (zRm 0 0 0) true w.1 QR (fun _ _ => False) 0 0 39 [(6, .long (lN v)), (0, .int (nI x0)), (1, .int (nI x1)), (2, .int (nI x2)), (3, .int (nI x3)), (4, .int (nI x4)), (5, .int (nI x5))] [] w := by
    intro v hv
    by_cases hx : x3 = 0
    · refine zJ_iload_n dX9_spelled_39 rfl ?_
      refine zJ_if_eq (tgt := 55) dX9_spelled_40 (by decide) (fun h40 => ?_) (fun h9 => absurd (by rw [hx]; rfl) h9)
      exact K55 v (by rw [← hv]; simp only [zsl1, hx, if_true])
    · have hr : 97 ≤ x3 ∧ x3 ≤ 122 := h3.resolve_left hx
      refine zJ_iload_n dX9_spelled_39 rfl ?_
      refine zJ_if_eq (tgt := 55) dX9_spelled_40 (by decide) (fun h9 => absurd h9 (fun h => hx ((nI_eq (b := 0) (by omega) (by decide)).mp h))) (fun h40 => ?_)
      refine zJ_lload dX9_spelled_43 rfl ?_
      refine zJ_iconst (v := 5) dX9_spelled_45 (by decide) ?_
      refine zJ_lshl dX9_spelled_46 ?_
      rw [show lN v <<< ((5 : Int32).toInt64 &&& 63) = lN (v * 2 ^ 5) from lN_shlI (k := 5) rfl (by decide)]
      refine zJ_iload_n dX9_spelled_47 rfl ?_
      refine zJ_bipush (v := 96) dX9_spelled_48 (by decide) ?_
      refine zJ_isub dX9_spelled_50 ?_
      rw [show nI x3 - 96 = nI (x3 - 96) from na_sub (b := 96) (by omega)]
      refine zJ_i2l dX9_spelled_51 ?_
      rw [nI_l (by omega)]
      refine zJ_lor dX9_spelled_52 ?_
      rw [lN_or5 (by omega)]
      refine zJ_lstore (ls2 := fun x53 => [(6, .long x53), (0, .int (nI x0)), (1, .int (nI x1)), (2, .int (nI x2)), (3, .int (nI x3)), (4, .int (nI x4)), (5, .int (nI x5))]) dX9_spelled_53 (by decide) (fun _ => rfl) (fun x53 ex53 => ?_)
      obtain rfl : x53 = (lN (v * 32 + (x3 - 96))) := ex53
      refine zJ_ls [(6, .long (lN (v * 32 + (x3 - 96)))), (0, .int (nI x0)), (1, .int (nI x1)), (2, .int (nI x2)), (3, .int (nI x3)), (4, .int (nI x4)), (5, .int (nI x5))] (by simp) ?_
      exact K55 (v * 32 + (x3 - 96)) (by rw [← hv]; simp only [zsl1, hx, if_false])
  have K23 : ∀ v, (zsl1 (zsl1 (zsl1 (zsl1 v x2) x3) x4) x5) = (zsl1 (zsl1 (zsl1 (zsl1 (zsl1 (x0 - 96) x1) x2) x3) x4) x5) → zJ Δ mX9_spelled (zRm 0 0 0) true w.1 QR (fun _ _ => False) 0 0 23 [(6, .long (lN v)), (0, .int (nI x0)), (1, .int (nI x1)), (2, .int (nI x2)), (3, .int (nI x3)), (4, .int (nI x4)), (5, .int (nI x5))] [] w := by
    intro v hv
    by_cases hx : x2 = 0
    · refine zJ_iload_n dX9_spelled_23 rfl ?_
      refine zJ_if_eq (tgt := 39) dX9_spelled_24 (by decide) (fun h24 => ?_) (fun h9 => absurd (by rw [hx]; rfl) h9)
      exact K39 v (by rw [← hv]; simp only [zsl1, hx, if_true])
    · have hr : 97 ≤ x2 ∧ x2 ≤ 122 := h2.resolve_left hx
      refine zJ_iload_n dX9_spelled_23 rfl ?_
      refine zJ_if_eq (tgt := 39) dX9_spelled_24 (by decide) (fun h9 => absurd h9 (fun h => hx ((nI_eq (b := 0) (by omega) (by decide)).mp h))) (fun h24 => ?_)
      refine zJ_lload dX9_spelled_27 rfl ?_
      refine zJ_iconst (v := 5) dX9_spelled_29 (by decide) ?_
      refine zJ_lshl dX9_spelled_30 ?_
      rw [show lN v <<< ((5 : Int32).toInt64 &&& 63) = lN (v * 2 ^ 5) from lN_shlI (k := 5) rfl (by decide)]
      refine zJ_iload_n dX9_spelled_31 rfl ?_
      refine zJ_bipush (v := 96) dX9_spelled_32 (by decide) ?_
      refine zJ_isub dX9_spelled_34 ?_
      rw [show nI x2 - 96 = nI (x2 - 96) from na_sub (b := 96) (by omega)]
      refine zJ_i2l dX9_spelled_35 ?_
      rw [nI_l (by omega)]
      refine zJ_lor dX9_spelled_36 ?_
      rw [lN_or5 (by omega)]
      refine zJ_lstore (ls2 := fun x37 => [(6, .long x37), (0, .int (nI x0)), (1, .int (nI x1)), (2, .int (nI x2)), (3, .int (nI x3)), (4, .int (nI x4)), (5, .int (nI x5))]) dX9_spelled_37 (by decide) (fun _ => rfl) (fun x37 ex37 => ?_)
      obtain rfl : x37 = (lN (v * 32 + (x2 - 96))) := ex37
      refine zJ_ls [(6, .long (lN (v * 32 + (x2 - 96)))), (0, .int (nI x0)), (1, .int (nI x1)), (2, .int (nI x2)), (3, .int (nI x3)), (4, .int (nI x4)), (5, .int (nI x5))] (by simp) ?_
      exact K39 (v * 32 + (x2 - 96)) (by rw [← hv]; simp only [zsl1, hx, if_false])
  have K7 : ∀ v, (zsl1 (zsl1 (zsl1 (zsl1 (zsl1 v x1) x2) x3) x4) x5) = (zsl1 (zsl1 (zsl1 (zsl1 (zsl1 (x0 - 96) x1) x2) x3) x4) x5) → zJ Δ mX9_spelled (zRm 0 0 0) true w.1 QR (fun _ _ => False) 0 0 7 [(6, .long (lN v)), (0, .int (nI x0)), (1, .int (nI x1)), (2, .int (nI x2)), (3, .int (nI x3)), (4, .int (nI x4)), (5, .int (nI x5))] [] w := by
    intro v hv
    by_cases hx : x1 = 0
    · refine zJ_iload_n dX9_spelled_7 rfl ?_
      refine zJ_if_eq (tgt := 23) dX9_spelled_8 (by decide) (fun h8 => ?_) (fun h9 => absurd (by rw [hx]; rfl) h9)
      exact K23 v (by rw [← hv]; simp only [zsl1, hx, if_true])
    · have hr : 97 ≤ x1 ∧ x1 ≤ 122 := h1.resolve_left hx
      refine zJ_iload_n dX9_spelled_7 rfl ?_
      refine zJ_if_eq (tgt := 23) dX9_spelled_8 (by decide) (fun h9 => absurd h9 (fun h => hx ((nI_eq (b := 0) (by omega) (by decide)).mp h))) (fun h8 => ?_)
      refine zJ_lload dX9_spelled_11 rfl ?_
      refine zJ_iconst (v := 5) dX9_spelled_13 (by decide) ?_
      refine zJ_lshl dX9_spelled_14 ?_
      rw [show lN v <<< ((5 : Int32).toInt64 &&& 63) = lN (v * 2 ^ 5) from lN_shlI (k := 5) rfl (by decide)]
      refine zJ_iload_n dX9_spelled_15 rfl ?_
      refine zJ_bipush (v := 96) dX9_spelled_16 (by decide) ?_
      refine zJ_isub dX9_spelled_18 ?_
      rw [show nI x1 - 96 = nI (x1 - 96) from na_sub (b := 96) (by omega)]
      refine zJ_i2l dX9_spelled_19 ?_
      rw [nI_l (by omega)]
      refine zJ_lor dX9_spelled_20 ?_
      rw [lN_or5 (by omega)]
      refine zJ_lstore (ls2 := fun x21 => [(6, .long x21), (0, .int (nI x0)), (1, .int (nI x1)), (2, .int (nI x2)), (3, .int (nI x3)), (4, .int (nI x4)), (5, .int (nI x5))]) dX9_spelled_21 (by decide) (fun _ => rfl) (fun x21 ex21 => ?_)
      obtain rfl : x21 = (lN (v * 32 + (x1 - 96))) := ex21
      refine zJ_ls [(6, .long (lN (v * 32 + (x1 - 96)))), (0, .int (nI x0)), (1, .int (nI x1)), (2, .int (nI x2)), (3, .int (nI x3)), (4, .int (nI x4)), (5, .int (nI x5))] (by simp) ?_
      exact K23 (v * 32 + (x1 - 96)) (by rw [← hv]; simp only [zsl1, hx, if_false])
  refine zJ_iload_n dX9_spelled_0 rfl ?_
  refine zJ_bipush (v := 96) dX9_spelled_1 (by decide) ?_
  refine zJ_isub dX9_spelled_3 ?_
  rw [show nI x0 - 96 = nI (x0 - 96) from na_sub (b := 96) (by omega)]
  refine zJ_i2l dX9_spelled_4 ?_
  rw [nI_l (by omega)]
  refine zJ_lstore (ls2 := fun x5q => [(6, .long x5q), (0, .int (nI x0)), (1, .int (nI x1)), (2, .int (nI x2)), (3, .int (nI x3)), (4, .int (nI x4)), (5, .int (nI x5))]) dX9_spelled_5 (by decide) (fun _ => rfl) (fun x5q ex5q => ?_)
  obtain rfl : x5q = (lN (x0 - 96)) := ex5q
  exact K7 (x0 - 96) rfl
