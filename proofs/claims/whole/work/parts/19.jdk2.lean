set_option maxRecDepth 100000 in
theorem c_fill_l (Δ : zD) (w : zW) (a0 n : Nat) (v : Int64) (hn : n < 2 ^ 31) (ha : w.1 a0 = some (.inr (true, n))) : zMd Δ 0 0 0 true yJ7_fill_d0a16 mJ7_fill_d0a16 [.ref a0, .long v] w none (zrol w a0 (fun k => if k < n then v else w.2.2.1 a0 k)) := by
  refine zM.of mfJ7_fill_d0a16 (Nat.le_of_ble_eq_true rfl) ?_
  have L : ∀ j, j ≤ n → zJ Δ mJ7_fill_d0a16 (zRm 0 0 0) true w.1 (fun a b => a = none ∧ b = zrol w a0 (fun k => if k < n then v else w.2.2.1 a0 k)) (fun _ _ => False) 0 0 6 [(3, .int (nI j)), (4, .int (nI n)), (0, .ref a0), (1, .long v)] [] (zrol w a0 (fun k => if k < j then v else w.2.2.1 a0 k)) := by
    refine zup (fun j hj ih => ?_)
    refine zJ_iload_n dJ7_fill_d0a16_6 rfl ?_
    refine zJ_iload dJ7_fill_d0a16_7 rfl ?_
    refine zJ_icmp_ge (tgt := 22) dJ7_fill_d0a16_9 (by decide) (fun h9 => ?_) (fun h9 => ?_)
    · exact zJ_vret dJ7_fill_d0a16_22 rfl (by decide) (by decide) ⟨rfl, by have h8 := (nI_leI hn (by omega)).mp h9; rw [Nat.le_antisymm hj h8]⟩
    · refine zJ_aload_n dJ7_fill_d0a16_12 rfl ?_
      refine zJ_iload_n dJ7_fill_d0a16_13 rfl ?_
      refine zJ_lload_n dJ7_fill_d0a16_14 rfl ?_
      refine zJ_last dJ7_fill_d0a16_15 (by first | rfl | assumption) (vp_in_nI (Nat.lt_of_not_le fun h => h9 ((nI_leI hn (by omega)).mpr h)) hn) ?_
      refine zJ_iinc (ls2 := fun x16 => [(3, .int x16), (4, .int (nI n)), (0, .ref a0), (1, .long v)]) dJ7_fill_d0a16_16 rfl (by decide) (fun _ => rfl) (fun x16 ex16 => ?_)
      refine zJ_goto (tgt := 6) dJ7_fill_d0a16_19 (by decide) ?_
      have h8 : j < n := Nat.lt_of_not_le fun h => h9 ((nI_leI hn (by omega)).mpr h)
      refine zJ_ls [(3, .int x16), (4, .int (nI n)), (0, .ref a0), (1, .long v)] (by simp) ?_
      rw [ex16, show nI j + Int32.ofInt 1 = nI (j + 1) from nI_1 j]
      refine zJ_w ?_ (ih (j + 1) (by omega) (by omega))
      rw [nI_clamp (by omega), zsl_row, zrol_rol, zrol_get]
      congr 1
      funext i
      by_cases h1 : i = j
      · subst h1; simp
      · have h2 : (i < j + 1) = (i < j) := by simp only [eq_iff_iff]; omega
        simp [h1, h2]
  refine zJ_iconst (v := 0) dJ7_fill_d0a16_0 (by decide) ?_
  refine zJ_istore_n (ls2 := fun x1 => [(3, .int x1), (0, .ref a0), (1, .long v)]) dJ7_fill_d0a16_1 (by decide) (fun _ => rfl) (fun x1 ex1 => ?_)
  refine zJ_aload_n dJ7_fill_d0a16_2 rfl ?_
  refine zJ_alen (x := (nI n)) dJ7_fill_d0a16_3 (by first | rfl | assumption) rfl ?_
  refine zJ_istore (ls2 := fun x4 => [(4, .int x4), (3, .int x1), (0, .ref a0), (1, .long v)]) dJ7_fill_d0a16_4 (by decide) (fun _ => rfl) (fun x4 ex4 => ?_)
  subst ex1; subst ex4
  refine zJ_ls [(3, .int (0)), (4, .int (nI n)), (0, .ref a0), (1, .long v)] (by simp) ?_
  refine zJ_w ?_ (L 0 (Nat.zero_le _))
  simp only [Nat.not_lt_zero, if_false, zrol_self]
/-- how many bits of the lowest eight are set -/
def zpop (b : Nat) : Nat := b % 2 + b / 2 % 2 + b / 4 % 2 + b / 8 % 2 + b / 16 % 2 + b / 32 % 2 + b / 64 % 2 + b / 128 % 2
def zush (x : Int32) (k : Int32) : Int32 := (x.toUInt32 >>> (k.toUInt32 &&& Int32.toUInt32 31)).toInt32
def zbc1 (x : Int32) : Int32 := x - (zush x 1 &&& 1431655765)
def zbc2 (x : Int32) : Int32 := (x &&& 858993459) + (zush x 2 &&& 858993459)
def zbc3 (x : Int32) : Int32 := (x + zush x 4) &&& 252645135
def zbc4 (x : Int32) : Int32 := x + zush x 8
def zbc5 (x : Int32) : Int32 := x + zush x 16
theorem zbc : ∀ b, b < 256 → (zbc5 (zbc4 (zbc3 (zbc2 (zbc1 (nI b)))))) &&& 63 = nI (zpop b) := by decide +kernel
set_option maxRecDepth 100000 in
theorem c_bitCount (Δ : zD) (w : zW) (b : Nat) (hb : b < 256) : zMd Δ 0 0 0 true yJ6_bitCount_0f7a4 mJ6_bitCount_0f7a4 [.int (nI b)] w (some (.int (nI (zpop b)))) w := by
  refine zM.of mfJ6_bitCount_0f7a4 (Nat.le_of_ble_eq_true rfl) ?_
  refine zJ_iload_n dJ6_bitCount_0f7a4_0 rfl ?_
  refine zJ_iload_n dJ6_bitCount_0f7a4_1 rfl ?_
  refine zJ_iconst (v := 1) dJ6_bitCount_0f7a4_2 (by decide) ?_
  refine zJ_iushr dJ6_bitCount_0f7a4_3 ?_
  refine zJ_ldc_w dJ6_bitCount_0f7a4_4 kJ6_265 ?_
  refine zJ_iand dJ6_bitCount_0f7a4_7 ?_
  refine zJ_isub dJ6_bitCount_0f7a4_8 ?_
  refine zJ_istore_n (ls2 := fun x9 => [(0, .int x9)]) dJ6_bitCount_0f7a4_9 (by decide) (fun _ => rfl) (fun x9 ex9 => ?_)
  refine zJ_iload_n dJ6_bitCount_0f7a4_10 rfl ?_
  refine zJ_ldc_w dJ6_bitCount_0f7a4_11 kJ6_266 ?_
  refine zJ_iand dJ6_bitCount_0f7a4_14 ?_
  refine zJ_iload_n dJ6_bitCount_0f7a4_15 rfl ?_
  refine zJ_iconst (v := 2) dJ6_bitCount_0f7a4_16 (by decide) ?_
  refine zJ_iushr dJ6_bitCount_0f7a4_17 ?_
  refine zJ_ldc_w dJ6_bitCount_0f7a4_18 kJ6_266 ?_
  refine zJ_iand dJ6_bitCount_0f7a4_21 ?_
  refine zJ_iadd dJ6_bitCount_0f7a4_22 ?_
  refine zJ_istore_n (ls2 := fun x23 => [(0, .int x23)]) dJ6_bitCount_0f7a4_23 (by decide) (fun _ => rfl) (fun x23 ex23 => ?_)
  refine zJ_iload_n dJ6_bitCount_0f7a4_24 rfl ?_
  refine zJ_iload_n dJ6_bitCount_0f7a4_25 rfl ?_
  refine zJ_iconst (v := 4) dJ6_bitCount_0f7a4_26 (by decide) ?_
  refine zJ_iushr dJ6_bitCount_0f7a4_27 ?_
  refine zJ_iadd dJ6_bitCount_0f7a4_28 ?_
  refine zJ_ldc_w dJ6_bitCount_0f7a4_29 kJ6_267 ?_
  refine zJ_iand dJ6_bitCount_0f7a4_32 ?_
  refine zJ_istore_n (ls2 := fun x33 => [(0, .int x33)]) dJ6_bitCount_0f7a4_33 (by decide) (fun _ => rfl) (fun x33 ex33 => ?_)
  refine zJ_iload_n dJ6_bitCount_0f7a4_34 rfl ?_
  refine zJ_iload_n dJ6_bitCount_0f7a4_35 rfl ?_
  refine zJ_bipush (v := 8) dJ6_bitCount_0f7a4_36 (by decide) ?_
  refine zJ_iushr dJ6_bitCount_0f7a4_38 ?_
  refine zJ_iadd dJ6_bitCount_0f7a4_39 ?_
  refine zJ_istore_n (ls2 := fun x40 => [(0, .int x40)]) dJ6_bitCount_0f7a4_40 (by decide) (fun _ => rfl) (fun x40 ex40 => ?_)
  refine zJ_iload_n dJ6_bitCount_0f7a4_41 rfl ?_
  refine zJ_iload_n dJ6_bitCount_0f7a4_42 rfl ?_
  refine zJ_bipush (v := 16) dJ6_bitCount_0f7a4_43 (by decide) ?_
  refine zJ_iushr dJ6_bitCount_0f7a4_45 ?_
  refine zJ_iadd dJ6_bitCount_0f7a4_46 ?_
  refine zJ_istore_n (ls2 := fun x47 => [(0, .int x47)]) dJ6_bitCount_0f7a4_47 (by decide) (fun _ => rfl) (fun x47 ex47 => ?_)
  refine zJ_iload_n dJ6_bitCount_0f7a4_48 rfl ?_
  refine zJ_bipush (v := 63) dJ6_bitCount_0f7a4_49 (by decide) ?_
  refine zJ_iand dJ6_bitCount_0f7a4_51 ?_
  exact zJ_iret dJ6_bitCount_0f7a4_52 rfl (by decide) (by decide) ⟨by subst ex9; subst ex23; subst ex33; subst ex40; subst ex47; exact congrArg (fun z => some (Value.int z)) (zbc b hb), rfl⟩
set_option maxRecDepth 100000 in
theorem c_min (Δ : zD) (w : zW) (x y : Int32) : zMd Δ 0 0 0 true yJ9_min_7cf53 mJ9_min_7cf53 [.int x, .int y] w (some (.int (if x ≤ y then x else y))) w := by
  refine zM.of mfJ9_min_7cf53 (Nat.le_of_ble_eq_true rfl) ?_
  refine zJ_iload_n dJ9_min_7cf53_0 rfl ?_
  refine zJ_iload_n dJ9_min_7cf53_1 rfl ?_
  refine zJ_icmp_gt (tgt := 9) dJ9_min_7cf53_2 (by decide) (fun h2 => ?_) (fun h2 => ?_)
  · refine zJ_iload_n dJ9_min_7cf53_9 rfl ?_
    exact zJ_iret dJ9_min_7cf53_10 rfl (by decide) (by decide) ⟨by first | (rw [if_neg (Int32.not_le.mpr h2)]) | (rw [if_pos (Int32.not_lt.mp h2)]), rfl⟩
  · refine zJ_iload_n dJ9_min_7cf53_5 rfl ?_
    refine zJ_goto (tgt := 10) dJ9_min_7cf53_6 (by decide) ?_
    exact zJ_iret dJ9_min_7cf53_10 rfl (by decide) (by decide) ⟨by first | (rw [if_neg (Int32.not_le.mpr h2)]) | (rw [if_pos (Int32.not_lt.mp h2)]), rfl⟩
set_option maxRecDepth 100000 in
theorem c_maxl (Δ : zD) (w : zW) (x y : Int64) : zMd Δ 0 0 0 true yJ9_max_f86c9 mJ9_max_f86c9 [.long x, .long y] w (some (.long (if y ≤ x then x else y))) w := by
  refine zM.of mfJ9_max_f86c9 (Nat.le_of_ble_eq_true rfl) ?_
  refine zJ_lload_n dJ9_max_f86c9_0 rfl ?_
  refine zJ_lload_n dJ9_max_f86c9_1 rfl ?_
  refine zJ_lcmp dJ9_max_f86c9_2 ?_
  refine zJ_if_lt (tgt := 10) dJ9_max_f86c9_3 (by decide) (fun h3 => ?_) (fun h3 => ?_)
  · refine zJ_lload_n dJ9_max_f86c9_10 rfl ?_
    exact zJ_lret dJ9_max_f86c9_11 rfl (by decide) (by decide) ⟨by first | (rw [if_neg (Int64.not_le.mpr ((lg_cmp_lt x y).mp h3))]) | (rw [if_pos (Int64.not_lt.mp (fun h => h3 ((lg_cmp_lt x y).mpr h)))]), rfl⟩
  · refine zJ_lload_n dJ9_max_f86c9_6 rfl ?_
    refine zJ_goto (tgt := 11) dJ9_max_f86c9_7 (by decide) ?_
    exact zJ_lret dJ9_max_f86c9_11 rfl (by decide) (by decide) ⟨by first | (rw [if_neg (Int64.not_le.mpr ((lg_cmp_lt x y).mp h3))]) | (rw [if_pos (Int64.not_lt.mp (fun h => h3 ((lg_cmp_lt x y).mpr h)))]), rfl⟩
set_option maxRecDepth 100000 in
theorem c_abs (Δ : zD) (w : zW) (x : Int32) : zMd Δ 0 0 0 true yJ9_abs_0f7a4 mJ9_abs_0f7a4 [.int x] w (some (.int (if 0 ≤ x then x else -x))) w := by
  refine zM.of mfJ9_abs_0f7a4 (Nat.le_of_ble_eq_true rfl) ?_
  refine zJ_iload_n dJ9_abs_0f7a4_0 rfl ?_
  refine zJ_if_ge (tgt := 9) dJ9_abs_0f7a4_1 (by decide) (fun h1 => ?_) (fun h1 => ?_)
  · refine zJ_iload_n dJ9_abs_0f7a4_9 rfl ?_
    exact zJ_iret dJ9_abs_0f7a4_10 rfl (by decide) (by decide) ⟨by first | (rw [if_pos h1]) | (rw [if_neg h1]), rfl⟩
  · refine zJ_iload_n dJ9_abs_0f7a4_4 rfl ?_
    refine zJ_ineg dJ9_abs_0f7a4_5 ?_
    refine zJ_goto (tgt := 10) dJ9_abs_0f7a4_6 (by decide) ?_
    exact zJ_iret dJ9_abs_0f7a4_10 rfl (by decide) (by decide) ⟨by first | (rw [if_pos h1]) | (rw [if_neg h1]), rfl⟩
/-- Math.floorDiv as it stands there -/
def zfd (x y : Int64) : Int64 := if 0 ≤ lg_cmp (x ^^^ y) 0 then x / y else if x / y * y = x then x / y else x / y - 1
set_option maxRecDepth 100000 in
theorem c_floorDiv (Δ : zD) (w : zW) (x y : Int64) (hy : ¬ y = 0) : zMd Δ 0 0 0 true yJ9_floorDiv_f86c9 mJ9_floorDiv_f86c9 [.long x, .long y] w (some (.long (zfd x y))) w := by
  refine zM.of mfJ9_floorDiv_f86c9 (Nat.le_of_ble_eq_true rfl) ?_
  refine zJ_lload_n dJ9_floorDiv_f86c9_0 rfl ?_
  refine zJ_lload_n dJ9_floorDiv_f86c9_1 rfl ?_
  refine zJ_ldiv dJ9_floorDiv_f86c9_2 hy ?_
  refine zJ_lstore (ls2 := fun x3 => [(4, .long x3), (0, .long x), (2, .long y)]) dJ9_floorDiv_f86c9_3 (by decide) (fun _ => rfl) (fun x3 ex3 => ?_)
  refine zJ_lload_n dJ9_floorDiv_f86c9_5 rfl ?_
  refine zJ_lload_n dJ9_floorDiv_f86c9_6 rfl ?_
  refine zJ_lxor dJ9_floorDiv_f86c9_7 ?_
  refine zJ_lconst (v := 0) dJ9_floorDiv_f86c9_8 (by decide) ?_
  refine zJ_lcmp dJ9_floorDiv_f86c9_9 ?_
  refine zJ_if_ge (tgt := 27) dJ9_floorDiv_f86c9_10 (by decide) (fun h10 => ?_) (fun h10 => ?_)
  · refine zJ_lload dJ9_floorDiv_f86c9_27 rfl ?_
    exact zJ_lret dJ9_floorDiv_f86c9_29 rfl (by decide) (by decide) ⟨by subst ex3; first | (simp only [zfd, if_pos h10]; done) | (have h8 := (lg_cmp_eq _ _).mp h19; simp only [zfd, if_neg h10, if_pos h8]), rfl⟩
  · refine zJ_lload dJ9_floorDiv_f86c9_13 rfl ?_
    refine zJ_lload_n dJ9_floorDiv_f86c9_15 rfl ?_
    refine zJ_lmul dJ9_floorDiv_f86c9_16 ?_
    refine zJ_lload_n dJ9_floorDiv_f86c9_17 rfl ?_
    refine zJ_lcmp dJ9_floorDiv_f86c9_18 ?_
    refine zJ_if_eq (tgt := 27) dJ9_floorDiv_f86c9_19 (by decide) (fun h19 => ?_) (fun h19 => ?_)
    · refine zJ_lload dJ9_floorDiv_f86c9_27 rfl ?_
      exact zJ_lret dJ9_floorDiv_f86c9_29 rfl (by decide) (by decide) ⟨by subst ex3; first | (simp only [zfd, if_pos h10]; done) | (have h8 := (lg_cmp_eq _ _).mp h19; simp only [zfd, if_neg h10, if_pos h8]), rfl⟩
    · refine zJ_lload dJ9_floorDiv_f86c9_22 rfl ?_
      refine zJ_lconst (v := 1) dJ9_floorDiv_f86c9_24 (by decide) ?_
      refine zJ_lsub dJ9_floorDiv_f86c9_25 ?_
      exact zJ_lret dJ9_floorDiv_f86c9_26 rfl (by decide) (by decide) ⟨by subst ex3; have h8 : ¬ (x / y * y = x) := fun h => h19 ((lg_cmp_eq _ _).mpr h); simp only [zfd, if_neg h10, if_neg h8], rfl⟩
