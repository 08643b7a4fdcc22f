/-! LetterTown: feed, town, count, guess, theft, week, thieves -/
/-- the byte j of a number -/
def zbn (x : Int32) (j : Nat) : Nat := zn32 (x >>> ((24 - nI (8 * j)) &&& 31)) % 256
theorem zbn_lt (x : Int32) (j : Nat) : zbn x j < 256 := Nat.mod_lt _ (by decide)
theorem zbn_eq (x : Int32) (j : Nat) : x >>> ((24 - nI (8 * j)) &&& 31) &&& 255 = nI (zbn x j) := na_mask _ 8
/-- j bytes of x put behind n bytes of the row r, its length in o.f -/
def zpb (w : zW) (o f r n : Nat) (x : Int32) (j : Nat) : zW := zsi (zrow w r (fun i => if n ≤ i ∧ i < n + j then nI (zbn x (i - n)) else w.2.1 r i)) o f (nI (n + j))
theorem zpb_0 {w : zW} {o f r n : Nat} {x : Int32} (h : w.2.1 o f = nI n) (hor : ¬ o = r) : zpb w o f r n x 0 = w := by
  refine Prod.ext rfl (Prod.ext (funext fun a => funext fun b => ?_) rfl)
  simp only [zpb, zsi, zrow, Nat.add_zero]
  by_cases h1 : a = o ∧ b = f
  · obtain ⟨rfl, rfl⟩ := h1; simp [h]
  · rw [if_neg h1]
    by_cases h2 : a = r
    · subst h2
      have : ¬ (n ≤ b ∧ b < n) := by omega
      simp [this]
    · simp [h2]
theorem zpb_s {w : zW} {o f r n : Nat} {x : Int32} {j : Nat} (hor : ¬ o = r) : zsi (zsi (zpb w o f r n x j) r (n + j) (nI (zbn x j))) o f (nI (n + j + 1)) = zpb w o f r n x (j + 1) := by
  refine Prod.ext rfl (Prod.ext (funext fun a => funext fun b => ?_) rfl)
  simp only [zpb, zsi, zrow]
  by_cases h1 : a = o ∧ b = f
  · simp [h1, Nat.add_assoc]
  · simp only [h1, if_false]
    by_cases h2 : a = r
    · subst h2
      simp only [true_and, if_true]
      by_cases h3 : b = n + j
      · subst h3
        rw [if_pos rfl, if_pos (by omega), show n + j - n = j by omega]
      · rw [if_neg h3]
        by_cases h4 : n ≤ b ∧ b < n + j
        · rw [if_pos h4, if_pos (by omega)]
        · rw [if_neg h4, if_neg (by omega)]
    · simp [h2]
theorem zsh_ge : ∀ j, j < 4 → ¬ ((24 : Int32) - nI (8 * j)) < 0 := by decide
theorem zsh_st : ∀ j, j < 4 → (24 : Int32) - nI (8 * j) + Int32.ofInt (-8) = 24 - nI (8 * (j + 1)) := by decide
set_option maxRecDepth 100000 in
theorem c_putBytes (Δ : zD) (w : zW) (hC : zCs w) (x : Int32) (n : Nat) (hn : n + 4 ≤ 700) (hl : w.2.1 0 1 = nI n) : zMd Δ 0 0 0 true yX8_putBytes mX8_putBytes [.ref 0, .int x] w none (zpb w 0 1 1 n x 4) := by
  refine zMd.of mfX8_putBytes (Nat.le_of_ble_eq_true rfl) (fun QR hQ => ?_)
  have L : ∀ j, j ≤ 4 → zJ Δ mX8_putBytes (zRm 0 0 0) true w.1 QR (fun _ _ => False) 0 0 3 [(2, .int (24 - nI (8 * j))), (0, .ref 0), (1, .int x)] [] (zpb w 0 1 1 n x j) := by
    refine zup (fun j hj ih => ?_)
    have e1 : (zpb w 0 1 1 n x j).2.1 0 1 = nI (n + j) := by simp [zpb, zsi]
    have c1 : j ≤ 3 → (nI (n + j)).toNatClampNeg = n + j := fun _ => nI_clamp (by omega)
    refine zJ_iload_n dX8_putBytes_3 rfl ?_
    refine zJ_if_lt (tgt := 49) dX8_putBytes_4 (by decide) (fun h4 => ?_) (fun h4 => ?_)
    · have hj4 : j = 4 := Classical.byContradiction fun h9 => zsh_ge j (by omega) h4
      subst hj4
      exact zJ_vret dX8_putBytes_49 rfl (by decide) (by decide) hQ
    · have hj3 : j ≤ 3 := Nat.le_of_lt_succ (Nat.lt_of_le_of_ne hj fun h9 => h4 (by rw [h9]; decide))
      have c1 := c1 hj3
      refine zJ_aload_n dX8_putBytes_7 rfl ?_
      refine zJ_geti dX8_putBytes_8 fX8_86 (by first | rfl | assumption | exact hC.1 _ (by decide)) rfl ?_
      refine zJ_sipush (v := 700) dX8_putBytes_11 (by decide) ?_
      refine zJ_icmp_ge (tgt := 49) dX8_putBytes_14 (by decide) (fun h14 => ?_) (fun h14 => ?_)
      · exact absurd h14 (by rw [e1]; exact fun h => absurd ((nI_leI (a := 700) (b := n + j) (by decide) (by omega)).mp h) (by omega))
      · refine zJ_aload_n dX8_putBytes_17 rfl ?_
        refine zJ_getr dX8_putBytes_18 fX8_9 (by first | rfl | assumption | exact hC.1 _ (by decide)) rfl (by first | rfl | assumption | exact hC.2 _ _ rfl) ?_
        refine zJ_aload_n dX8_putBytes_21 rfl ?_
        refine zJ_geti dX8_putBytes_22 fX8_86 (by first | rfl | assumption | exact hC.1 _ (by decide)) rfl ?_
        refine zJ_iload_n dX8_putBytes_25 rfl ?_
        refine zJ_iload_n dX8_putBytes_26 rfl ?_
        refine zJ_ishr dX8_putBytes_27 ?_
        refine zJ_sipush (v := 255) dX8_putBytes_28 (by decide) ?_
        refine zJ_iand dX8_putBytes_31 ?_
        rw [e1, zbn_eq]
        refine zJ_iast dX8_putBytes_32 (by first | rfl | assumption | exact hC.1 _ (by decide)) (vp_in_nI (by omega) (by decide)) ?_
        refine zJ_aload_n dX8_putBytes_33 rfl ?_
        refine zJ_dup dX8_putBytes_34 rfl ?_
        refine zJ_geti dX8_putBytes_35 fX8_86 (by first | rfl | assumption | exact hC.1 _ (by decide)) rfl ?_
        rw [c1, show (zsi (zpb w 0 1 1 n x j) 1 (n + j) (nI (zbn x j))).2.1 0 1 = nI (n + j) by simp [zsi, zpb]]
        refine zJ_iconst (v := 1) dX8_putBytes_38 (by decide) ?_
        refine zJ_iadd dX8_putBytes_39 ?_
        rw [show nI (n + j) + 1 = nI (n + j + 1) from nI_1 _]
        refine zJ_puti dX8_putBytes_40 fX8_86 (fun q h => by cases h; rfl) (by first | rfl | assumption | exact hC.1 _ (by decide)) rfl rfl rfl ?_
        refine zJ_iinc (ls2 := fun x43 => [(2, .int x43), (0, .ref 0), (1, .int x)]) dX8_putBytes_43 rfl (by decide) (fun _ => rfl) (fun x43 ex43 => ?_)
        refine zJ_goto (tgt := 3) dX8_putBytes_46 (by decide) ?_
        refine zJ_ls [(2, .int x43), (0, .ref 0), (1, .int x)] (by simp) ?_
        rw [ex43, zsh_st j (by omega)]
        refine zJ_w (w2 := zpb w 0 1 1 n x (j + 1)) ?_ (ih (j + 1) (by omega) (by omega))
        exact zpb_s (by decide)
  refine zJ_bipush (v := 24) dX8_putBytes_0 (by decide) ?_
  refine zJ_istore_n (ls2 := fun x2 => [(2, .int x2), (0, .ref 0), (1, .int x)]) dX8_putBytes_2 (by decide) (fun _ => rfl) (fun x2 ex2 => ?_)
  subst ex2
  refine zJ_w (w2 := zpb w 0 1 1 n x 0) (zpb_0 hl (by decide)).symm (L 0 (Nat.zero_le _))
/-- five numbers put -/
def zp5 (w : zW) (o f r n : Nat) (a b c d e : Int32) : zW := zpb (zpb (zpb (zpb (zpb w o f r n a 4) o f r (n + 4) b 4) o f r (n + 8) c 4) o f r (n + 12) d 4) o f r (n + 16) e 4
theorem zpb_len (w : zW) (o f r n : Nat) (x : Int32) (j : Nat) : (zpb w o f r n x j).2.1 o f = nI (n + j) := by simp [zpb, zsi]
theorem zCs.pb {w : zW} (h : zCs w) {o f r n : Nat} {x : Int32} {j : Nat} : zCs (zpb w o f r n x j) := h
set_option maxRecDepth 100000 in
theorem c_feed (Δ : zD) (w : zW) (hC : zCs w) (a b c d e : Int32) (n : Nat) (hn : n ≤ 700) (hl : w.2.1 0 1 = nI n) : zMp Δ 2 yX8_feed mX8_feed [.ref 0, .int a, .int b, .int c, .int d, .int e] w (fun r w2 => (680 < n ∧ r = some (.int (-1)) ∧ w2 = w) ∨ (n ≤ 680 ∧ r = some (.int (nI (n + 20))) ∧ w2 = zp5 w 0 1 1 n a b c d e)) := by
  refine zMp.of mfX8_feed (Nat.le_of_ble_eq_true rfl) (fun QR hQ => ?_)
  refine zJ_aload_n dX8_feed_0 rfl ?_
  refine zJ_geti dX8_feed_1 fX8_86 (by first | rfl | assumption | exact hC.1 _ (by decide)) rfl ?_
  refine zJ_bipush (v := 20) dX8_feed_4 (by decide) ?_
  rw [hl]
  refine zJ_iadd dX8_feed_6 ?_
  refine zJ_sipush (v := 700) dX8_feed_7 (by decide) ?_
  rw [show nI n + 20 = nI (n + 20) from na_add n 20]
  refine zJ_icmp_le (tgt := 15) dX8_feed_10 (by decide) (fun h10 => ?_) (fun h10 => ?_)
  · have hsm : n ≤ 680 := by have := (nI_leI (b := 700) (by omega) (by decide)).mp h10; omega
    refine zJ_aload_n dX8_feed_15 rfl ?_
    refine zJ_iload_n dX8_feed_16 rfl ?_
    refine zJ_cV1 dX8_feed_17 sX8_89 mfX8_putBytes (c_putBytes Δ w hC a n (by omega) hl) (by first | rfl | assumption | exact hC.1 _ (by decide)) rfl (Nat.le_of_ble_eq_true rfl) (by decide) (by decide) ?_
    refine zJ_aload_n dX8_feed_20 rfl ?_
    refine zJ_iload_n dX8_feed_21 rfl ?_
    refine zJ_cV1 dX8_feed_22 sX8_89 mfX8_putBytes (c_putBytes Δ (zpb w 0 1 1 n a 4) hC b (n + 4) (by omega) (zpb_len _ _ _ _ _ _ _)) (by first | rfl | assumption | exact hC.1 _ (by decide)) rfl (Nat.le_of_ble_eq_true rfl) (by decide) (by decide) ?_
    refine zJ_aload_n dX8_feed_25 rfl ?_
    refine zJ_iload_n dX8_feed_26 rfl ?_
    refine zJ_cV1 dX8_feed_27 sX8_89 mfX8_putBytes (c_putBytes Δ (zpb (zpb w 0 1 1 n a 4) 0 1 1 (n + 4) b 4) hC c (n + 8) (by omega) (zpb_len _ _ _ _ _ _ _)) (by first | rfl | assumption | exact hC.1 _ (by decide)) rfl (Nat.le_of_ble_eq_true rfl) (by decide) (by decide) ?_
    refine zJ_aload_n dX8_feed_30 rfl ?_
    refine zJ_iload dX8_feed_31 rfl ?_
    refine zJ_cV1 dX8_feed_33 sX8_89 mfX8_putBytes (c_putBytes Δ (zpb (zpb (zpb w 0 1 1 n a 4) 0 1 1 (n + 4) b 4) 0 1 1 (n + 8) c 4) hC d (n + 12) (by omega) (zpb_len _ _ _ _ _ _ _)) (by first | rfl | assumption | exact hC.1 _ (by decide)) rfl (Nat.le_of_ble_eq_true rfl) (by decide) (by decide) ?_
    refine zJ_aload_n dX8_feed_36 rfl ?_
    refine zJ_iload dX8_feed_37 rfl ?_
    refine zJ_cV1 dX8_feed_39 sX8_89 mfX8_putBytes (c_putBytes Δ (zpb (zpb (zpb (zpb w 0 1 1 n a 4) 0 1 1 (n + 4) b 4) 0 1 1 (n + 8) c 4) 0 1 1 (n + 12) d 4) hC e (n + 16) (by omega) (zpb_len _ _ _ _ _ _ _)) (by first | rfl | assumption | exact hC.1 _ (by decide)) rfl (Nat.le_of_ble_eq_true rfl) (by decide) (by decide) ?_
    refine zJ_aload_n dX8_feed_42 rfl ?_
    refine zJ_geti dX8_feed_43 fX8_86 (by first | rfl | assumption | exact hC.1 _ (by decide)) rfl ?_
    rw [zpb_len]
    exact zJ_iret dX8_feed_46 rfl (by decide) (by decide) (hQ _ _ (Or.inr ⟨hsm, rfl, rfl⟩))
  · have hbig : 680 < n := Nat.lt_of_not_le fun h9 => h10 ((nI_leI (b := 700) (by omega) (by decide)).mpr (by omega))
    refine zJ_iconst (v := (-1)) dX8_feed_13 (by decide) ?_
    exact zJ_iret dX8_feed_14 rfl (by decide) (by decide) (hQ _ _ (Or.inl ⟨hbig, rfl, rfl⟩))
/-- what startAnew leaves, from 38 on -/
def zAn (w c : zW) : Prop := c.1 = w.1 ∧ c.2.2 = w.2.2 ∧ (∀ a j, (a < 19 ∨ a = 39 ∨ a = 40 ∨ a = 41 ∨ a = 44 ∨ (45 ≤ a ∧ a ≤ 46) ∨ (48 ≤ a ∧ a ≤ 52) ∨ (54 ≤ a ∧ a ≤ 56) ∨ (58 ≤ a ∧ a ≤ 60) ∨ 79 < a) → (a ≠ 0 ∨ j ≠ 15) → c.2.1 a j = w.2.1 a j) ∧ c.2.1 38 1 = 0 ∧ c.2.1 38 4 = 0 ∧ (∀ k, k < 32 → c.2.1 43 k = -1) ∧ c.2.1 42 2 = 0 ∧ c.2.1 47 2 = 0 ∧ c.2.1 0 15 = 0 ∧ c.2.1 53 0 = 0 ∧ c.2.1 53 3 = 0 ∧ c.2.1 57 0 = 0 ∧ c.2.1 57 3 = 0 ∧ ∀ U, zPy c U
set_option maxRecDepth 100000 in
theorem c_startAnew (Δ : zD) (w : zW) (hC : zCs w) (U : zTo) (hP : zPy w U) : zMp Δ 2 yX8_startAnew mX8_startAnew [.ref 0] w (fun r c => r = none ∧ zAn w c) := by
  refine zMp.of mfX8_startAnew (Nat.le_of_ble_eq_true rfl) (fun QR hQ => ?_)
  have hP19 := hP.1
  have hS19 : zPs (zsi (zsi (zsi (zsi (zsi (zsi (zsi (zrow (zsi (zsi w 38 1 0) 38 4 0) 43 (fun k => if k < 32 then -1 else (zsi (zsi w 38 1 0) 38 4 0).2.1 43 k)) 42 2 0) 47 2 0) 0 15 0) 53 0 0) 53 3 0) 57 0 0) 57 3 0) 19 640 10 := hP19.1.ff rfl rfl (by simp [zsi, zrow])
  have hn19 : zTn (zsi (zsi (zsi (zsi (zsi (zsi (zsi (zrow (zsi (zsi w 38 1 0) 38 4 0) 43 (fun k => if k < 32 then -1 else (zsi (zsi w 38 1 0) 38 4 0).2.1 43 k)) 42 2 0) 47 2 0) 0 15 0) 53 0 0) 53 3 0) 57 0 0) 57 3 0) 20 := hP19.2.1.ff rfl rfl
  have e0 : (zsi (zsi (zsi (zsi (zsi (zsi (zsi (zsi (zsi (zrow (zsi (zsi w 38 1 0) 38 4 0) 43 (fun k => if k < 32 then -1 else (zsi (zsi w 38 1 0) 38 4 0).2.1 43 k)) 42 2 0) 47 2 0) 0 15 0) 53 0 0) 53 3 0) 57 0 0) 57 3 0) 19 11 0) 25 6 (-1)).2.2.2 0 8 = w.2.2.2 0 8 := rfl
  have fin : ∀ c : zW, (c = (zsi (zsi (zsi (zsi (zsi (zsi (zsi (zsi (zsi (zrow (zsi (zsi w 38 1 0) 38 4 0) 43 (fun k => if k < 32 then -1 else (zsi (zsi w 38 1 0) 38 4 0).2.1 43 k)) 42 2 0) 47 2 0) 0 15 0) 53 0 0) 53 3 0) 57 0 0) 57 3 0) 19 11 0) 25 6 (-1)) ∧ w.2.2.2 0 8 = none ∧ (∀ a, 61 ≤ a → a ≤ 79 → w.1 a = none)) ∨ (c = (zsi (zsi (zsi (zsi (zsi (zsi (zsi (zsi (zsi (zsi (zsi (zrow (zsi (zsi w 38 1 0) 38 4 0) 43 (fun k => if k < 32 then -1 else (zsi (zsi w 38 1 0) 38 4 0).2.1 43 k)) 42 2 0) 47 2 0) 0 15 0) 53 0 0) 53 3 0) 57 0 0) 57 3 0) 19 11 0) 25 6 (-1)) 61 11 0) 67 6 (-1)) ∧ w.2.2.2 0 8 = some 61 ∧ zPI w 61 20000 15 U) → zAn w c := by
    intro c hc
    have h19 : ∀ V, zPI (zsi (zsi (zsi (zsi (zsi (zsi (zsi (zsi (zsi (zrow (zsi (zsi w 38 1 0) 38 4 0) 43 (fun k => if k < 32 then -1 else (zsi (zsi w 38 1 0) 38 4 0).2.1 43 k)) 42 2 0) 47 2 0) 0 15 0) 53 0 0) 53 3 0) 57 0 0) 57 3 0) 19 11 0) 25 6 (-1)) 19 640 10 V := fun V => zPI.forget V hS19 hn19
    rcases hc with ⟨rfl, h8, hno⟩ | ⟨rfl, h8, hPL⟩
    · refine ⟨rfl, rfl, ?_, by simp [zsi, zrow], by simp [zsi, zrow], fun k hk => by simp [zsi, zrow, hk], by simp [zsi], by simp [zsi], by simp [zsi], by simp [zsi], by simp [zsi], by simp [zsi], by simp [zsi], fun V => ⟨h19 V, Or.inl ⟨h8, hno⟩⟩⟩
      intro a j ha h0
      simp only [zsi, zrow]
      repeat (first | rw [if_neg (by omega)] | rfl)
    · refine ⟨rfl, rfl, ?_, by simp [zsi, zrow], by simp [zsi, zrow], fun k hk => by simp [zsi, zrow, hk], by simp [zsi], by simp [zsi], by simp [zsi], by simp [zsi], by simp [zsi], by simp [zsi], by simp [zsi], fun V => ⟨(h19 V).out rfl rfl (fun a j x y => by simp only [zsi]; rw [if_neg (by omega), if_neg (by omega)]) (fun a j x y => rfl), Or.inr ⟨h8, zPI.forget V (hPL.1.ff rfl rfl (by simp [zsi, zrow])) (hPL.2.1.ff rfl rfl)⟩⟩⟩
      intro a j ha h0
      simp only [zsi, zrow]
      repeat (first | rw [if_neg (by omega)] | rfl)
  refine zJ_aload_n dX8_startAnew_0 rfl ?_
  refine zJ_getr dX8_startAnew_1 fX8_51 (by first | rfl | assumption | exact hC.1 _ (by decide)) rfl (by first | rfl | assumption | exact hC.2 _ _ rfl) ?_
  refine zJ_cV0 dX8_startAnew_4 sX8_376 mfX3_clear (c_Rows_clear Δ w hC) (by first | rfl | assumption | exact hC.1 _ (by decide)) rfl (Nat.le_of_ble_eq_true rfl) (by decide) (by decide) ?_
  refine zJ_aload_n dX8_startAnew_7 rfl ?_
  refine zJ_getr dX8_startAnew_8 fX8_58 (by first | rfl | assumption | exact hC.1 _ (by decide)) rfl (by first | rfl | assumption | exact hC.2 _ _ rfl) ?_
  refine zJ_cV0 dX8_startAnew_11 sX8_379 mfX0_clear (c_Guesses_clear Δ (zsi (zsi w 38 1 0) 38 4 0) hC) (by first | rfl | assumption | exact hC.1 _ (by decide)) rfl (Nat.le_of_ble_eq_true rfl) (by decide) (by decide) ?_
  refine zJ_aload_n dX8_startAnew_14 rfl ?_
  refine zJ_getr dX8_startAnew_15 fX8_65 (by first | rfl | assumption | exact hC.1 _ (by decide)) rfl (by first | rfl | assumption | exact hC.2 _ _ rfl) ?_
  refine zJ_cV0 dX8_startAnew_18 sX8_380 mfX4_clear (c_Theft_clear Δ (zsi (zrow (zsi (zsi w 38 1 0) 38 4 0) 43 (fun k => if k < 32 then -1 else (zsi (zsi w 38 1 0) 38 4 0).2.1 43 k)) 42 2 0) 47 (hC.1 47 (by decide))) (by first | rfl | assumption | exact hC.1 _ (by decide)) rfl (Nat.le_of_ble_eq_true rfl) (by decide) (by decide) ?_
  refine zJ_aload_n dX8_startAnew_21 rfl ?_
  refine zJ_iconst (v := 0) dX8_startAnew_22 (by decide) ?_
  refine zJ_puti dX8_startAnew_23 fX8_296 (fun q h => by cases h; rfl) (by first | rfl | assumption | exact hC.1 _ (by decide)) rfl rfl rfl ?_
  refine zJ_aload_n dX8_startAnew_26 rfl ?_
  refine zJ_getr dX8_startAnew_27 fX8_79 (by first | rfl | assumption | exact hC.1 _ (by decide)) rfl (by first | rfl | assumption | exact hC.2 _ _ rfl) ?_
  refine zJ_cV0 dX8_startAnew_30 sX8_381 mfX7_clear (c_Weeks_clear Δ (zsi (zsi (zsi (zrow (zsi (zsi w 38 1 0) 38 4 0) 43 (fun k => if k < 32 then -1 else (zsi (zsi w 38 1 0) 38 4 0).2.1 43 k)) 42 2 0) 47 2 0) 0 15 0) 53 (⟨hC.1 _ (by decide), hC.2 _ _ rfl, hC.2 _ _ rfl, hC.2 _ _ rfl, hC.1 _ (by decide), hC.1 _ (by decide), hC.1 _ (by decide)⟩ : zWk (zsi (zsi (zsi (zrow (zsi (zsi w 38 1 0) 38 4 0) 43 (fun k => if k < 32 then -1 else (zsi (zsi w 38 1 0) 38 4 0).2.1 43 k)) 42 2 0) 47 2 0) 0 15 0) 53)) (by first | rfl | assumption | exact hC.1 _ (by decide)) rfl (Nat.le_of_ble_eq_true rfl) (by decide) (by decide) ?_
  refine zJ_aload_n dX8_startAnew_33 rfl ?_
  refine zJ_getr dX8_startAnew_34 fX8_83 (by first | rfl | assumption | exact hC.1 _ (by decide)) rfl (by first | rfl | assumption | exact hC.2 _ _ rfl) ?_
  refine zJ_cV0 dX8_startAnew_37 sX8_381 mfX7_clear (c_Weeks_clear Δ (zsi (zsi (zsi (zsi (zsi (zrow (zsi (zsi w 38 1 0) 38 4 0) 43 (fun k => if k < 32 then -1 else (zsi (zsi w 38 1 0) 38 4 0).2.1 43 k)) 42 2 0) 47 2 0) 0 15 0) 53 0 0) 53 3 0) 57 (⟨hC.1 _ (by decide), hC.2 _ _ rfl, hC.2 _ _ rfl, hC.2 _ _ rfl, hC.1 _ (by decide), hC.1 _ (by decide), hC.1 _ (by decide)⟩ : zWk (zsi (zsi (zsi (zsi (zsi (zrow (zsi (zsi w 38 1 0) 38 4 0) 43 (fun k => if k < 32 then -1 else (zsi (zsi w 38 1 0) 38 4 0).2.1 43 k)) 42 2 0) 47 2 0) 0 15 0) 53 0 0) 53 3 0) 57)) (by first | rfl | assumption | exact hC.1 _ (by decide)) rfl (Nat.le_of_ble_eq_true rfl) (by decide) (by decide) ?_
  refine zJ_aload_n dX8_startAnew_40 rfl ?_
  refine zJ_getr dX8_startAnew_41 fX8_44 (by first | rfl | assumption | exact hC.1 _ (by decide)) rfl (by first | rfl | assumption | exact hC.2 _ _ rfl) ?_
  refine zJ_cV0 dX8_startAnew_44 sX8_382 mfX1_forget (c_Play_forget Δ (zsi (zsi (zsi (zsi (zsi (zsi (zsi (zrow (zsi (zsi w 38 1 0) 38 4 0) 43 (fun k => if k < 32 then -1 else (zsi (zsi w 38 1 0) 38 4 0).2.1 43 k)) 42 2 0) 47 2 0) 0 15 0) 53 0 0) 53 3 0) 57 0 0) 57 3 0) 19 640 10 hS19) (by first | rfl | assumption | exact hC.1 _ (by decide)) rfl (Nat.le_of_ble_eq_true rfl) (by decide) (by decide) ?_
  refine zJ_aload_n dX8_startAnew_47 rfl ?_
  rcases hP.2 with ⟨h8, hno⟩ | ⟨h8, hPL⟩
  · refine zJ_getN dX8_startAnew_48 fX8_385 (hC.1 _ (by decide)) rfl h8 ?_
    refine zJ_ifnullN (tgt := 61) dX8_startAnew_51 (by decide) ?_
    exact zJ_vret dX8_startAnew_61 rfl (by decide) (by decide) (hQ _ _ ⟨rfl, fin _ (Or.inl ⟨rfl, h8, hno⟩)⟩)
  · refine zJ_getr (j := 61) dX8_startAnew_48 fX8_385 (hC.1 _ (by decide)) rfl h8 ?_
    refine zJ_ifnull dX8_startAnew_51 ?_
    refine zJ_aload_n dX8_startAnew_54 rfl ?_
    refine zJ_getr (j := 61) dX8_startAnew_55 fX8_385 (hC.1 _ (by decide)) rfl h8 ?_
    refine zJ_cV0 dX8_startAnew_58 sX8_382 mfX1_forget (c_Play_forget Δ (zsi (zsi (zsi (zsi (zsi (zsi (zsi (zsi (zsi (zrow (zsi (zsi w 38 1 0) 38 4 0) 43 (fun k => if k < 32 then -1 else (zsi (zsi w 38 1 0) 38 4 0).2.1 43 k)) 42 2 0) 47 2 0) 0 15 0) 53 0 0) 53 3 0) 57 0 0) 57 3 0) 19 11 0) 25 6 (-1)) 61 20000 15 (hPL.1.ff rfl rfl (by simp [zsi, zrow]))) hPL.1.1 rfl (Nat.le_of_ble_eq_true rfl) (by decide) (by decide) ?_
    exact zJ_vret dX8_startAnew_61 rfl (by decide) (by decide) (hQ _ _ ⟨rfl, fin _ (Or.inr ⟨rfl, h8, hPL⟩)⟩)
def zTd (w d : zW) (tx : Nat → Nat) (n : Nat) (r : Option Value) : Prop := ∃ c, zFz (zsi w 0 1 0) c ∧ match zpa tx n 701 (zT0, 0) 0 with
  | .inl e => r = some (.int (nI e.1)) ∧ 1 ≤ e.1 ∧ e.1 ≤ 5 ∧ d = zsi (zsi c 0 2 (nI e.2)) 2 0 (w.2.1 2 0 + 1)
  | .inr S => r = some (.int 0) ∧ zTi c 4 S.1 ∧ zPk S ∧ zAn (ztowc (zsi c 0 2 (-1)) 9 4) d
set_option maxRecDepth 100000 in
theorem c_town (Δ : zD) (w : zW) (U : zTo) (hB : zB w U) (x : Int32) (len : Nat) (tx : Nat → Nat) (hlen : len ≤ 700) (hl : w.2.1 0 1 = nI len) (htx : ∀ i, i < 700 → w.2.1 1 i = nI (tx i) ∧ tx i < 256) : zM Δ 10 10 60 true yX8_town mX8_town [.ref 0, .int x] w (fun r d => ∃ n, n ≤ len ∧ x = nI n ∧ zTd w d tx n r) (fun E d => E = "java/lang/IllegalArgumentException" ∧ d = w ∧ ¬ (∃ n, n ≤ len ∧ x = nI n)) := by
  refine zM.of mfX8_town (Nat.le_of_ble_eq_true rfl) ?_
  have hC := hB.1
  have hk0 := hC.1 0 (by decide)
  refine zJ_iload_n dX8_town_0 rfl ?_
  refine zJ_if_lt (tgt := 12) dX8_town_1 (by decide) (fun h1_ => ?_) (fun h1_ => ?_)
  · have hno : ¬ (∃ n, n ≤ len ∧ x = nI n) := fun ⟨h, h1, h2⟩ => by
      rw [h2] at h1_
      exact absurd ((nI_ltI (b := 0) (by omega) (by decide)).mp h1_) (by omega)
    exact zJ_throwI (text := "the tape has not so many bytes") (j := 17) dX8_town_12 dX8_town_15 dX8_town_16 dX8_town_18 dX8_town_21 rfl rfl (by decide +kernel) (Nat.le_of_ble_eq_true rfl) (Nat.le_of_ble_eq_true rfl) (by decide) (by decide) ⟨rfl, rfl, hno⟩
  · refine zJ_iload_n dX8_town_4 rfl ?_
    refine zJ_aload_n dX8_town_5 rfl ?_
    refine zJ_geti dX8_town_6 fX8_86 (by first | rfl | assumption | exact hC.1 _ (by decide)) rfl ?_
    rw [hl]
    refine zJ_icmp_le (tgt := 22) dX8_town_9 (by decide) (fun h9 => ?_) (fun h9 => ?_)
    · obtain ⟨n, hn31, rfl⟩ := nI_of h1_
      have hnl : n ≤ len := (nI_leI (by omega) (by omega)).mp h9
      refine zJ_aload_n dX8_town_22 rfl ?_
      refine zJ_iconst (v := 0) dX8_town_23 (by decide) ?_
      refine zJ_puti dX8_town_24 fX8_86 (fun q h => by cases h; rfl) (by first | rfl | assumption | exact hC.1 _ (by decide)) rfl rfl rfl ?_
      refine zJ_aload_n dX8_town_27 rfl ?_
      refine zJ_getr dX8_town_28 fX8_25 (by first | rfl | assumption | exact hC.1 _ (by decide)) rfl (by first | rfl | assumption | exact hC.2 _ _ rfl) ?_
      refine zJ_iload_n dX8_town_31 rfl ?_
      refine zJ_eV1 dX8_town_32 sX8_100 mfX2_read (c_Rd_read Δ (zsi w 0 1 0) tx n hC (by omega) (fun i hi => ⟨by rw [zsi_o (by decide)]; exact (htx i hi).1, (htx i hi).2⟩)) (hC.1 3 (by decide)) rfl (Nat.le_of_ble_eq_true rfl) ⟨Nat.le_of_ble_eq_true rfl, Nat.le_of_ble_eq_true rfl⟩ (by decide) (fun r c hP9 => ?_)
      obtain ⟨hF, hRd⟩ := hP9
      have hCc : zCs c := hC.fk hF.1 hF.2.1
      have hk0c := hCc.1 0 (by decide)
      have hc20 : c.2.1 2 0 = w.2.1 2 0 := (hF.2.2 2 0 (by omega)).trans (by simp [zsi])
      cases hpa : zpa tx n 701 (zT0, 0) 0 with
      | inl e =>
        rw [hpa] at hRd
        obtain ⟨rfl, hx1, hx2, hx3⟩ := hRd
        refine zJ_istore_n (ls2 := fun x35e => [(2, .int x35e), (0, .ref 0), (1, .int (nI n))]) dX8_town_35 (by decide) (fun _ => rfl) (fun x35e ex35e => ?_)
        obtain rfl : x35e = (nI e.1) := ex35e
        refine zJ_aload_n dX8_town_36 rfl ?_
        refine zJ_aload_n dX8_town_37 rfl ?_
        refine zJ_getr dX8_town_38 fX8_25 (by first | rfl | assumption | exact hCc.1 _ (by decide)) rfl (by first | rfl | assumption | exact hCc.2 _ _ rfl) ?_
        refine zJ_geti dX8_town_41 fX8_104 (by first | rfl | assumption | exact hCc.1 _ (by decide)) rfl ?_
        rw [hx1]
        refine zJ_puti dX8_town_44 fX8_13 (fun q h => by cases h; rfl) (by first | rfl | assumption | exact hCc.1 _ (by decide)) rfl rfl rfl ?_
        refine zJ_iload_n dX8_town_47 rfl ?_
        refine zJ_if_eq (tgt := 63) dX8_town_48 (by decide) (fun h48e => ?_) (fun h48e => ?_)
        · exact absurd ((nI_eq (b := 0) (by omega) (by decide)).mp h48e) (by omega)
        · refine zJ_aload_n dX8_town_51 rfl ?_
          refine zJ_getr dX8_town_52 fX8_17 (by first | rfl | assumption | exact hCc.1 _ (by decide)) rfl (by first | rfl | assumption | exact hCc.2 _ _ rfl) ?_
          refine zJ_iconst (v := 0) dX8_town_55 (by decide) ?_
          refine zJ_dup2_11 dX8_town_56 rfl rfl ?_
          refine zJ_iald dX8_town_57 (by first | rfl | assumption | exact hCc.1 _ (by decide)) (vp_in_nI (n := 0) (by decide) (by decide)) ?_
          skip
          refine zJ_iconst (v := 1) dX8_town_58 (by decide) ?_
          refine zJ_iadd dX8_town_59 ?_
          refine zJ_iast dX8_town_60 (by first | rfl | assumption | exact hCc.1 _ (by decide)) (vp_in_nI (n := 0) (by decide) (by decide)) ?_
          refine zJ_iload_n dX8_town_61 rfl ?_
          exact zJ_iret dX8_town_62 rfl (by decide) (by decide) ⟨n, hnl, rfl, c, hF, by rw [hpa]; exact ⟨rfl, hx2, hx3, by rw [← hc20]; rfl⟩⟩
      | inr S =>
        rw [hpa] at hRd
        obtain ⟨rfl, hx1, hi4, hpk⟩ := hRd
        have hi9 : zTn c 9 := hB.2.1.1.ff hF.1 (congrArg Prod.snd hF.2.1)
        have hPc : zPy (ztowc (zsi c 0 2 (-1)) 9 4) U := hB.2.2.2.out (fun a ha => by rw [← show c.1 a = w.1 a by rw [hF.1]; rfl]; rfl) (fun a j _ => by rw [← show c.2.2.2 a j = w.2.2.2 a j by rw [hF.2.1]; rfl]; rfl) (fun a j ha => ⟨by
          show (ztow _ 9 _ _ _ _ _).2.1 a j = _
          rw [ztow_o (by omega), zsi_o (by omega), hF.2.2 a j (by omega), zsi_o (by omega)], by show c.2.2.1 a j = _; rw [hF.2.1]; rfl⟩) (by show c.1 = _; rw [hF.1]; rfl) (by show c.2.2.2 = _; rw [hF.2.1]; rfl)
        refine zJ_istore_n (ls2 := fun x35o => [(2, .int x35o), (0, .ref 0), (1, .int (nI n))]) dX8_town_35 (by decide) (fun _ => rfl) (fun x35o ex35o => ?_)
        obtain rfl : x35o = 0 := ex35o
        refine zJ_aload_n dX8_town_36 rfl ?_
        refine zJ_aload_n dX8_town_37 rfl ?_
        refine zJ_getr dX8_town_38 fX8_25 (by first | rfl | assumption | exact hCc.1 _ (by decide)) rfl (by first | rfl | assumption | exact hCc.2 _ _ rfl) ?_
        refine zJ_geti dX8_town_41 fX8_104 (by first | rfl | assumption | exact hCc.1 _ (by decide)) rfl ?_
        rw [hx1]
        refine zJ_puti dX8_town_44 fX8_13 (fun q h => by cases h; rfl) (by first | rfl | assumption | exact hCc.1 _ (by decide)) rfl rfl rfl ?_
        refine zJ_iload_n dX8_town_47 rfl ?_
        refine zJ_if_eq (tgt := 63) dX8_town_48 (by decide) (fun _ => ?_) (fun h9 => False.elim (by revert h9; decide))
        refine zJ_aload_n dX8_town_63 rfl ?_
        refine zJ_getr dX8_town_64 fX8_32 (by first | rfl | assumption | exact hCc.1 _ (by decide)) rfl (by first | rfl | assumption | exact hCc.2 _ _ rfl) ?_
        refine zJ_aload_n dX8_town_67 rfl ?_
        refine zJ_getr dX8_town_68 fX8_25 (by first | rfl | assumption | exact hCc.1 _ (by decide)) rfl (by first | rfl | assumption | exact hCc.2 _ _ rfl) ?_
        refine zJ_getr dX8_town_71 fX8_107 (by first | rfl | assumption | exact hCc.1 _ (by decide)) rfl (by first | rfl | assumption | exact hCc.2 _ _ rfl) ?_
        refine zJ_cV1 dX8_town_74 sX8_110 mfX5_copy (c_Town_copy Δ (zsi c 0 2 (-1)) 9 4 (hi9.ff rfl rfl) (hi4.1.ff rfl rfl) (by decide)) (by first | rfl | assumption | exact hCc.1 _ (by decide)) rfl (Nat.le_of_ble_eq_true rfl) (by decide) (by decide) ?_
        refine zJ_aload_n dX8_town_77 rfl ?_
        refine zJ_eV0 dX8_town_78 sX8_114 mfX8_startAnew (c_startAnew Δ (ztowc (zsi c 0 2 (-1)) 9 4) hCc U hPc) hk0c rfl (Nat.le_of_ble_eq_true rfl) ⟨Nat.le_of_ble_eq_true rfl, Nat.le_of_ble_eq_true rfl⟩ (by decide) (fun r d hP9 => ?_)
        obtain ⟨rfl, hAn⟩ := hP9
        refine zJ_iconst (v := 0) dX8_town_81 (by decide) ?_
        exact zJ_iret dX8_town_82 rfl (by decide) (by decide) ⟨n, hnl, rfl, c, hF, by rw [hpa]; exact ⟨rfl, hi4, hpk, hAn⟩⟩
    · have hno : ¬ (∃ n, n ≤ len ∧ x = nI n) := fun ⟨h, h1, h2⟩ => by
        rw [h2] at h9
        exact h9 ((nI_leI (by omega) (by omega)).mpr h1)
      exact zJ_throwI (text := "the tape has not so many bytes") (j := 17) dX8_town_12 dX8_town_15 dX8_town_16 dX8_town_18 dX8_town_21 rfl rfl (by decide +kernel) (Nat.le_of_ble_eq_true rfl) (Nat.le_of_ble_eq_true rfl) (by decide) (by decide) ⟨rfl, rfl, hno⟩
def zcnv (w : zW) (q : Nat) : Int32 := match q with
  | 0 => w.2.1 9 0
  | 1 => w.2.1 9 5
  | 2 => w.2.1 9 6
  | 3 => w.2.1 9 7
  | 4 => w.2.1 9 8
  | 5 => w.2.1 9 9
  | 6 => w.2.1 9 10
  | 7 => w.2.1 9 11
  | 8 => w.2.1 9 12
  | 9 => w.2.1 0 1
  | 10 => w.2.1 38 1
  | 11 => w.2.1 38 4
  | 12 => w.2.1 47 2
  | 13 => w.2.1 2 0
  | 14 => w.2.1 2 1
  | _ => w.2.1 2 2
set_option maxRecDepth 100000 in
theorem c_count (Δ : zD) (w : zW) (U : zTo) (hB : zB w U) (x : Int32) : zM Δ 6 10 60 true yX8_count mX8_count [.ref 0, .int x] w (fun r d => d = w ∧ ∃ q, q ≤ 15 ∧ x = nI q ∧ r = some (.int (zcnv w q))) (fun E d => E = zNS ∧ d = w ∧ ¬ ∃ q, q ≤ 15 ∧ x = nI q) := by
  refine zM.of mfX8_count (Nat.le_of_ble_eq_true rfl) ?_
  have hC := hB.1
  have hU := hB.2.2.1.1
  have hp0 := hB.2.1.2.1 0 (by decide) (by decide)
  have hp8 := hU.1
  have hk0 := hC.1 0 (by decide)
  refine zJ_iload_n dX8_count_0 rfl ?_
  by_cases hx : ∃ q, q ≤ 15 ∧ x = nI q
  · obtain ⟨q, hq, rfl⟩ := hx
    rcases (by omega : q = 0 ∨ q = 1 ∨ q = 2 ∨ q = 3 ∨ q = 4 ∨ q = 5 ∨ q = 6 ∨ q = 7 ∨ q = 8 ∨ q = 9 ∨ q = 10 ∨ q = 11 ∨ q = 12 ∨ q = 13 ∨ q = 14 ∨ q = 15) with rfl | rfl | rfl | rfl | rfl | rfl | rfl | rfl | rfl | rfl | rfl | rfl | rfl | rfl | rfl | rfl
    · refine zJ_tabN (off := 79) (tgt := 80) dX8_count_1 (by decide) (by decide) rfl (by decide) ?_
      refine zJ_aload_n dX8_count_80 rfl ?_
      refine zJ_getr dX8_count_81 fX8_32 (by first | rfl | assumption | exact hC.1 _ (by decide)) rfl (by first | rfl | assumption | exact hC.2 _ _ rfl) ?_
      refine zJ_geti dX8_count_84 fX8_117 (by first | rfl | assumption | exact hC.1 _ (by decide)) rfl ?_
      exact zJ_iret dX8_count_87 rfl (by decide) (by decide) ⟨rfl, 0, by decide, rfl, rfl⟩
    · refine zJ_tabN (off := 87) (tgt := 88) dX8_count_1 (by decide) (by decide) rfl (by decide) ?_
      refine zJ_aload_n dX8_count_88 rfl ?_
      refine zJ_getr dX8_count_89 fX8_32 (by first | rfl | assumption | exact hC.1 _ (by decide)) rfl (by first | rfl | assumption | exact hC.2 _ _ rfl) ?_
      refine zJ_geti dX8_count_92 fX8_120 (by first | rfl | assumption | exact hC.1 _ (by decide)) rfl ?_
      exact zJ_iret dX8_count_95 rfl (by decide) (by decide) ⟨rfl, 1, by decide, rfl, rfl⟩
    · refine zJ_tabN (off := 95) (tgt := 96) dX8_count_1 (by decide) (by decide) rfl (by decide) ?_
      refine zJ_aload_n dX8_count_96 rfl ?_
      refine zJ_getr dX8_count_97 fX8_32 (by first | rfl | assumption | exact hC.1 _ (by decide)) rfl (by first | rfl | assumption | exact hC.2 _ _ rfl) ?_
      refine zJ_geti dX8_count_100 fX8_123 (by first | rfl | assumption | exact hC.1 _ (by decide)) rfl ?_
      exact zJ_iret dX8_count_103 rfl (by decide) (by decide) ⟨rfl, 2, by decide, rfl, rfl⟩
    · refine zJ_tabN (off := 103) (tgt := 104) dX8_count_1 (by decide) (by decide) rfl (by decide) ?_
      refine zJ_aload_n dX8_count_104 rfl ?_
      refine zJ_getr dX8_count_105 fX8_32 (by first | rfl | assumption | exact hC.1 _ (by decide)) rfl (by first | rfl | assumption | exact hC.2 _ _ rfl) ?_
      refine zJ_geti dX8_count_108 fX8_126 (by first | rfl | assumption | exact hC.1 _ (by decide)) rfl ?_
      exact zJ_iret dX8_count_111 rfl (by decide) (by decide) ⟨rfl, 3, by decide, rfl, rfl⟩
    · refine zJ_tabN (off := 111) (tgt := 112) dX8_count_1 (by decide) (by decide) rfl (by decide) ?_
      refine zJ_aload_n dX8_count_112 rfl ?_
      refine zJ_getr dX8_count_113 fX8_32 (by first | rfl | assumption | exact hC.1 _ (by decide)) rfl (by first | rfl | assumption | exact hC.2 _ _ rfl) ?_
      refine zJ_geti dX8_count_116 fX8_129 (by first | rfl | assumption | exact hC.1 _ (by decide)) rfl ?_
      exact zJ_iret dX8_count_119 rfl (by decide) (by decide) ⟨rfl, 4, by decide, rfl, rfl⟩
    · refine zJ_tabN (off := 119) (tgt := 120) dX8_count_1 (by decide) (by decide) rfl (by decide) ?_
      refine zJ_aload_n dX8_count_120 rfl ?_
      refine zJ_getr dX8_count_121 fX8_32 (by first | rfl | assumption | exact hC.1 _ (by decide)) rfl (by first | rfl | assumption | exact hC.2 _ _ rfl) ?_
      refine zJ_geti dX8_count_124 fX8_132 (by first | rfl | assumption | exact hC.1 _ (by decide)) rfl ?_
      exact zJ_iret dX8_count_127 rfl (by decide) (by decide) ⟨rfl, 5, by decide, rfl, rfl⟩
    · refine zJ_tabN (off := 127) (tgt := 128) dX8_count_1 (by decide) (by decide) rfl (by decide) ?_
      refine zJ_aload_n dX8_count_128 rfl ?_
      refine zJ_getr dX8_count_129 fX8_32 (by first | rfl | assumption | exact hC.1 _ (by decide)) rfl (by first | rfl | assumption | exact hC.2 _ _ rfl) ?_
      refine zJ_geti dX8_count_132 fX8_135 (by first | rfl | assumption | exact hC.1 _ (by decide)) rfl ?_
      exact zJ_iret dX8_count_135 rfl (by decide) (by decide) ⟨rfl, 6, by decide, rfl, rfl⟩
    · refine zJ_tabN (off := 135) (tgt := 136) dX8_count_1 (by decide) (by decide) rfl (by decide) ?_
      refine zJ_aload_n dX8_count_136 rfl ?_
      refine zJ_getr dX8_count_137 fX8_32 (by first | rfl | assumption | exact hC.1 _ (by decide)) rfl (by first | rfl | assumption | exact hC.2 _ _ rfl) ?_
      refine zJ_geti dX8_count_140 fX8_138 (by first | rfl | assumption | exact hC.1 _ (by decide)) rfl ?_
      exact zJ_iret dX8_count_143 rfl (by decide) (by decide) ⟨rfl, 7, by decide, rfl, rfl⟩
    · refine zJ_tabN (off := 143) (tgt := 144) dX8_count_1 (by decide) (by decide) rfl (by decide) ?_
      refine zJ_aload_n dX8_count_144 rfl ?_
      refine zJ_getr dX8_count_145 fX8_32 (by first | rfl | assumption | exact hC.1 _ (by decide)) rfl (by first | rfl | assumption | exact hC.2 _ _ rfl) ?_
      refine zJ_geti dX8_count_148 fX8_141 (by first | rfl | assumption | exact hC.1 _ (by decide)) rfl ?_
      exact zJ_iret dX8_count_151 rfl (by decide) (by decide) ⟨rfl, 8, by decide, rfl, rfl⟩
    · refine zJ_tabN (off := 151) (tgt := 152) dX8_count_1 (by decide) (by decide) rfl (by decide) ?_
      refine zJ_aload_n dX8_count_152 rfl ?_
      refine zJ_geti dX8_count_153 fX8_86 (by first | rfl | assumption | exact hC.1 _ (by decide)) rfl ?_
      exact zJ_iret dX8_count_156 rfl (by decide) (by decide) ⟨rfl, 9, by decide, rfl, rfl⟩
    · refine zJ_tabN (off := 156) (tgt := 157) dX8_count_1 (by decide) (by decide) rfl (by decide) ?_
      refine zJ_aload_n dX8_count_157 rfl ?_
      refine zJ_getr dX8_count_158 fX8_51 (by first | rfl | assumption | exact hC.1 _ (by decide)) rfl (by first | rfl | assumption | exact hC.2 _ _ rfl) ?_
      refine zJ_geti dX8_count_161 fX8_144 (by first | rfl | assumption | exact hC.1 _ (by decide)) rfl ?_
      exact zJ_iret dX8_count_164 rfl (by decide) (by decide) ⟨rfl, 10, by decide, rfl, rfl⟩
    · refine zJ_tabN (off := 164) (tgt := 165) dX8_count_1 (by decide) (by decide) rfl (by decide) ?_
      refine zJ_aload_n dX8_count_165 rfl ?_
      refine zJ_getr dX8_count_166 fX8_51 (by first | rfl | assumption | exact hC.1 _ (by decide)) rfl (by first | rfl | assumption | exact hC.2 _ _ rfl) ?_
      refine zJ_geti dX8_count_169 fX8_147 (by first | rfl | assumption | exact hC.1 _ (by decide)) rfl ?_
      exact zJ_iret dX8_count_172 rfl (by decide) (by decide) ⟨rfl, 11, by decide, rfl, rfl⟩
    · refine zJ_tabN (off := 172) (tgt := 173) dX8_count_1 (by decide) (by decide) rfl (by decide) ?_
      refine zJ_aload_n dX8_count_173 rfl ?_
      refine zJ_getr dX8_count_174 fX8_65 (by first | rfl | assumption | exact hC.1 _ (by decide)) rfl (by first | rfl | assumption | exact hC.2 _ _ rfl) ?_
      refine zJ_geti dX8_count_177 fX8_150 (by first | rfl | assumption | exact hC.1 _ (by decide)) rfl ?_
      exact zJ_iret dX8_count_180 rfl (by decide) (by decide) ⟨rfl, 12, by decide, rfl, rfl⟩
    · refine zJ_tabN (off := 180) (tgt := 181) dX8_count_1 (by decide) (by decide) rfl (by decide) ?_
      refine zJ_aload_n dX8_count_181 rfl ?_
      refine zJ_getr dX8_count_182 fX8_17 (by first | rfl | assumption | exact hC.1 _ (by decide)) rfl (by first | rfl | assumption | exact hC.2 _ _ rfl) ?_
      refine zJ_iconst (v := 0) dX8_count_185 (by decide) ?_
      refine zJ_iald dX8_count_186 (by first | rfl | assumption | exact hC.1 _ (by decide)) (vp_in_nI (n := 0) (by decide) (by decide)) ?_
      exact zJ_iret dX8_count_187 rfl (by decide) (by decide) ⟨rfl, 13, by decide, rfl, rfl⟩
    · refine zJ_tabN (off := 187) (tgt := 188) dX8_count_1 (by decide) (by decide) rfl (by decide) ?_
      refine zJ_aload_n dX8_count_188 rfl ?_
      refine zJ_getr dX8_count_189 fX8_17 (by first | rfl | assumption | exact hC.1 _ (by decide)) rfl (by first | rfl | assumption | exact hC.2 _ _ rfl) ?_
      refine zJ_iconst (v := 1) dX8_count_192 (by decide) ?_
      refine zJ_iald dX8_count_193 (by first | rfl | assumption | exact hC.1 _ (by decide)) (vp_in_nI (n := 1) (by decide) (by decide)) ?_
      exact zJ_iret dX8_count_194 rfl (by decide) (by decide) ⟨rfl, 14, by decide, rfl, rfl⟩
    · refine zJ_tabN (off := 194) (tgt := 195) dX8_count_1 (by decide) (by decide) rfl (by decide) ?_
      refine zJ_aload_n dX8_count_195 rfl ?_
      refine zJ_getr dX8_count_196 fX8_17 (by first | rfl | assumption | exact hC.1 _ (by decide)) rfl (by first | rfl | assumption | exact hC.2 _ _ rfl) ?_
      refine zJ_iconst (v := 2) dX8_count_199 (by decide) ?_
      refine zJ_iald dX8_count_200 (by first | rfl | assumption | exact hC.1 _ (by decide)) (vp_in_nI (n := 2) (by decide) (by decide)) ?_
      exact zJ_iret dX8_count_201 rfl (by decide) (by decide) ⟨rfl, 15, by decide, rfl, rfl⟩
  · have hout : x.toInt < 0 ∨ 15 < x.toInt := Classical.byContradiction fun h => hx (by
      have h0 : ¬ x < 0 := fun h9 => h (Or.inl (by rw [fa_lt] at h9; exact h9))
      obtain ⟨q, hq, rfl⟩ := nI_of h0
      refine ⟨q, ?_, rfl⟩
      rw [nI_toInt hq] at h
      omega)
    refine zJ_tableOut (tgt := 202) dX8_count_1 hout (by decide) ?_
    exact zJ_throwN (text := "no such count") (j := 18) dX8_count_202 dX8_count_205 dX8_count_206 dX8_count_208 dX8_count_211 rfl rfl (by decide +kernel) (Nat.le_of_ble_eq_true rfl) (Nat.le_of_ble_eq_true rfl) (by decide) (by decide) ⟨rfl, rfl, hx⟩
/-- a SORT and its number that may be guessed -/
def zgok (s n : Int32) : Prop := ∃ sv, sv ≤ 3 ∧ s = nI sv ∧ (sv ≠ 1 → ∃ nv, nv ≤ (if sv = 2 then 1000 else 9999) ∧ n = nI nv)
set_option maxRecDepth 100000 in
theorem c_guess (Δ : zD) (w : zW) (U : zTo) (hB : zB w U) (a b s n : Int32) (tb : Nat) (htb : w.2.1 42 2 = nI tb) : zM Δ 7 10 60 true yX8_guess mX8_guess [.ref 0, .int a, .int b, .int s, .int n] w (fun r d => ∃ g p, g < 4 ∧ a = nI g ∧ p < U.1 0 ∧ b = nI p ∧ ((¬ zgok s n ∧ r = some (.int 0) ∧ d = w) ∨ (zgok s n ∧ r = some (.int 1) ∧ d = zsi (zsi (zsi w 43 (g * 8 + p) s) 44 (g * 8 + p) (if s = 1 then 0 else n)) 42 2 (nI (tb ||| 2 ^ g))))) (fun E d => E = zNS ∧ d = w ∧ ¬ ((∃ g, g < 4 ∧ a = nI g) ∧ ∃ p, p < U.1 0 ∧ b = nI p)) := by
  refine zM.of mfX8_guess (Nat.le_of_ble_eq_true rfl) ?_
  have hC := hB.1
  have hU := hB.2.2.1.1
  have hp0 := hB.2.1.2.1 0 (by decide) (by decide)
  have hp8 := hU.1
  have hk0 := hC.1 0 (by decide)
  refine zJ_aload_n dX8_guess_0 rfl ?_
  refine zJ_iload_n dX8_guess_1 rfl ?_
  refine zJ_xV1 dX8_guess_2 sX8_261 pX8_261 mfX8_needGuess (c_needGuess Δ w hC a) rfl hk0 rfl (Nat.le_of_ble_eq_true rfl) ⟨Nat.le_of_ble_eq_true rfl, Nat.le_of_ble_eq_true rfl⟩ (by decide) (fun r c9 hP => ?_) (fun E c9 hX => ⟨hX.1, hX.2.1, fun h => hX.2.2 h.1⟩)
  obtain ⟨rfl, hw9, hP⟩ := hP
  obtain rfl := hw9.symm
  obtain ⟨g, hg, rfl⟩ := hP
  refine zJ_aload_n dX8_guess_5 rfl ?_
  refine zJ_iload_n dX8_guess_6 rfl ?_
  refine zJ_xV1 dX8_guess_7 sX8_158 pX8_158 mfX8_needPerson (c_needPerson Δ w hC b (U.1 0) hp0 hp8) rfl hk0 rfl (Nat.le_of_ble_eq_true rfl) ⟨Nat.le_of_ble_eq_true rfl, Nat.le_of_ble_eq_true rfl⟩ (by decide) (fun r c9 hP => ?_) (fun E c9 hX => ⟨hX.1, hX.2.1, fun h => hX.2.2 h.2⟩)
  obtain ⟨rfl, hw9, hP⟩ := hP
  obtain rfl := hw9.symm
  obtain ⟨p, hp, rfl⟩ := hP
  refine zJ_iload_n dX8_guess_10 rfl ?_
  refine zJ_if_lt (tgt := 19) dX8_guess_11 (by decide) (fun h11 => ?_) (fun h11 => ?_)
  · have hno : ¬ zgok s n := fun ⟨sv, h1, h2, _⟩ => by
      rw [h2] at h11
      exact absurd ((nI_ltI (b := 0) (by omega) (by decide)).mp h11) (by omega)
    refine zJ_iconst (v := 0) dX8_guess_19 (by decide) ?_
    exact zJ_zret dX8_guess_20 rfl rfl (by decide) (by decide) ⟨g, p, hg, rfl, hp, rfl, Or.inl ⟨hno, rfl, rfl⟩⟩
  · refine zJ_iload_n dX8_guess_14 rfl ?_
    refine zJ_iconst (v := 3) dX8_guess_15 (by decide) ?_
    refine zJ_icmp_le (tgt := 21) dX8_guess_16 (by decide) (fun h16 => ?_) (fun h16 => ?_)
    · obtain ⟨sv, hs31, rfl⟩ := nI_of h11
      have hsv : sv ≤ 3 := (nI_leI (b := 3) (by omega) (by decide)).mp h16
      refine zJ_iload_n dX8_guess_21 rfl ?_
      refine zJ_iconst (v := 1) dX8_guess_22 (by decide) ?_
      refine zJ_icmp_eq (tgt := 52) dX8_guess_23 (by decide) (fun h23 => ?_) (fun h23 => ?_)
      · have hs1 : sv = 1 := (nI_eq (b := 1) (by omega) (by decide)).mp h23
        have hgo : zgok (nI sv) n := ⟨sv, hsv, rfl, fun h => absurd hs1 h⟩
        refine zJ_aload_n dX8_guess_52 rfl ?_
        refine zJ_getr dX8_guess_53 fX8_58 (by first | rfl | assumption | exact hC.1 _ (by decide)) rfl (by first | rfl | assumption | exact hC.2 _ _ rfl) ?_
        refine zJ_iload_n dX8_guess_56 rfl ?_
        refine zJ_iload_n dX8_guess_57 rfl ?_
        refine zJ_iload_n dX8_guess_58 rfl ?_
        refine zJ_iload_n dX8_guess_59 rfl ?_
        refine zJ_iconst (v := 1) dX8_guess_60 (by decide) ?_
        refine zJ_icmp_ne (tgt := 68) dX8_guess_61 (by decide) (fun h61q1 => ?_) (fun h61q1 => ?_)
        · exact absurd h23 h61q1
        · refine zJ_iconst (v := 0) dX8_guess_64 (by decide) ?_
          refine zJ_goto (tgt := 70) dX8_guess_65 (by decide) ?_
          refine zJ_cV4 dX8_guess_70 sX8_264 mfX0_tell (c_Guesses_tell Δ w hC tb g p (nI sv) 0 htb hg (by omega)) (by first | rfl | assumption | exact hC.1 _ (by decide)) rfl (Nat.le_of_ble_eq_true rfl) (by decide) (by decide) ?_
          refine zJ_iconst (v := 1) dX8_guess_73 (by decide) ?_
          exact zJ_zret dX8_guess_74 rfl rfl (by decide) (by decide) ⟨g, p, hg, rfl, hp, rfl, Or.inr ⟨hgo, rfl, by subst hs1; rfl⟩⟩
      · refine zJ_iload dX8_guess_26 rfl ?_
        refine zJ_if_lt (tgt := 50) dX8_guess_28 (by decide) (fun h28 => ?_) (fun h28 => ?_)
        · have hno : ¬ zgok (nI sv) n := fun ⟨sv2, h1, h2, h3⟩ => by
            obtain rfl : sv = sv2 := (nI_eq (by omega) (by omega)).mp h2
            obtain ⟨nv, a1, a2⟩ := h3 (fun h => h23 (by rw [h]; rfl))
            rw [a2] at h28
            have : nv ≤ 9999 := Nat.le_trans a1 (by split <;> decide)
            exact absurd ((nI_ltI (b := 0) (by omega) (by decide)).mp h28) (by omega)
          refine zJ_iconst (v := 0) dX8_guess_50 (by decide) ?_
          exact zJ_zret dX8_guess_51 rfl rfl (by decide) (by decide) ⟨g, p, hg, rfl, hp, rfl, Or.inl ⟨hno, rfl, rfl⟩⟩
        · refine zJ_iload dX8_guess_31 rfl ?_
          refine zJ_iload_n dX8_guess_33 rfl ?_
          refine zJ_iconst (v := 2) dX8_guess_34 (by decide) ?_
          refine zJ_icmp_ne (tgt := 44) dX8_guess_35 (by decide) (fun h35 => ?_) (fun h35 => ?_)
          · have hs2 : ¬ sv = 2 := fun h => h35 (by rw [h]; rfl)
            refine zJ_sipush (v := 9999) dX8_guess_44 (by decide) ?_
            refine zJ_icmp_le (tgt := 52) dX8_guess_47 (by decide) (fun h47 => ?_) (fun h47 => ?_)
            · have hs1 : ¬ sv = 1 := fun h => h23 (by rw [h]; rfl)
              obtain ⟨nv, hn31, rfl⟩ := nI_of h28
              have hgo : zgok (nI sv) (nI nv) := ⟨sv, hsv, rfl, fun _ => ⟨nv, by simp only [hs2, if_true, if_false]; exact (nI_leI (b := 9999) (by omega) (by decide)).mp h47, rfl⟩⟩
              refine zJ_aload_n dX8_guess_52 rfl ?_
              refine zJ_getr dX8_guess_53 fX8_58 (by first | rfl | assumption | exact hC.1 _ (by decide)) rfl (by first | rfl | assumption | exact hC.2 _ _ rfl) ?_
              refine zJ_iload_n dX8_guess_56 rfl ?_
              refine zJ_iload_n dX8_guess_57 rfl ?_
              refine zJ_iload_n dX8_guess_58 rfl ?_
              refine zJ_iload_n dX8_guess_59 rfl ?_
              refine zJ_iconst (v := 1) dX8_guess_60 (by decide) ?_
              refine zJ_icmp_ne (tgt := 68) dX8_guess_61 (by decide) (fun h61q2 => ?_) (fun h61q2 => ?_)
              · refine zJ_iload dX8_guess_68 rfl ?_
                refine zJ_cV4 dX8_guess_70 sX8_264 mfX0_tell (c_Guesses_tell Δ w hC tb g p (nI sv) (nI nv) htb hg (by omega)) (by first | rfl | assumption | exact hC.1 _ (by decide)) rfl (Nat.le_of_ble_eq_true rfl) (by decide) (by decide) ?_
                refine zJ_iconst (v := 1) dX8_guess_73 (by decide) ?_
                exact zJ_zret dX8_guess_74 rfl rfl (by decide) (by decide) ⟨g, p, hg, rfl, hp, rfl, Or.inr ⟨hgo, rfl, by rw [if_neg (show ¬ nI sv = 1 from fun h => hs1 ((nI_eq (b := 1) (by omega) (by decide)).mp h))]⟩⟩
              · exact absurd h61q2 (fun h => hs1 ((nI_eq (b := 1) (by omega) (by decide)).mp h))
            · have hno : ¬ zgok (nI sv) n := fun ⟨sv2, h1, h2, h3⟩ => by
                obtain rfl : sv = sv2 := (nI_eq (by omega) (by omega)).mp h2
                obtain ⟨nv, a1, a2⟩ := h3 (fun h => h23 (by rw [h]; rfl))
                simp only [hs2, if_true, if_false] at a1
                rw [a2] at h47
                exact h47 ((nI_leI (b := 9999) (by omega) (by decide)).mpr a1)
              refine zJ_iconst (v := 0) dX8_guess_50 (by decide) ?_
              exact zJ_zret dX8_guess_51 rfl rfl (by decide) (by decide) ⟨g, p, hg, rfl, hp, rfl, Or.inl ⟨hno, rfl, rfl⟩⟩
          · have hs2 : sv = 2 := (nI_eq (b := 2) (by omega) (by decide)).mp h35
            refine zJ_sipush (v := 1000) dX8_guess_38 (by decide) ?_
            refine zJ_goto (tgt := 47) dX8_guess_41 (by decide) ?_
            refine zJ_icmp_le (tgt := 52) dX8_guess_47 (by decide) (fun h47 => ?_) (fun h47 => ?_)
            · have hs1 : ¬ sv = 1 := fun h => h23 (by rw [h]; rfl)
              obtain ⟨nv, hn31, rfl⟩ := nI_of h28
              have hgo : zgok (nI sv) (nI nv) := ⟨sv, hsv, rfl, fun _ => ⟨nv, by simp only [hs2, if_true, if_false]; exact (nI_leI (b := 1000) (by omega) (by decide)).mp h47, rfl⟩⟩
              refine zJ_aload_n dX8_guess_52 rfl ?_
              refine zJ_getr dX8_guess_53 fX8_58 (by first | rfl | assumption | exact hC.1 _ (by decide)) rfl (by first | rfl | assumption | exact hC.2 _ _ rfl) ?_
              refine zJ_iload_n dX8_guess_56 rfl ?_
              refine zJ_iload_n dX8_guess_57 rfl ?_
              refine zJ_iload_n dX8_guess_58 rfl ?_
              refine zJ_iload_n dX8_guess_59 rfl ?_
              refine zJ_iconst (v := 1) dX8_guess_60 (by decide) ?_
              refine zJ_icmp_ne (tgt := 68) dX8_guess_61 (by decide) (fun h61q3 => ?_) (fun h61q3 => ?_)
              · refine zJ_iload dX8_guess_68 rfl ?_
                refine zJ_cV4 dX8_guess_70 sX8_264 mfX0_tell (c_Guesses_tell Δ w hC tb g p (nI sv) (nI nv) htb hg (by omega)) (by first | rfl | assumption | exact hC.1 _ (by decide)) rfl (Nat.le_of_ble_eq_true rfl) (by decide) (by decide) ?_
                refine zJ_iconst (v := 1) dX8_guess_73 (by decide) ?_
                exact zJ_zret dX8_guess_74 rfl rfl (by decide) (by decide) ⟨g, p, hg, rfl, hp, rfl, Or.inr ⟨hgo, rfl, by rw [if_neg (show ¬ nI sv = 1 from fun h => hs1 ((nI_eq (b := 1) (by omega) (by decide)).mp h))]⟩⟩
              · exact absurd h61q3 (fun h => hs1 ((nI_eq (b := 1) (by omega) (by decide)).mp h))
            · have hno : ¬ zgok (nI sv) n := fun ⟨sv2, h1, h2, h3⟩ => by
                obtain rfl : sv = sv2 := (nI_eq (by omega) (by omega)).mp h2
                obtain ⟨nv, a1, a2⟩ := h3 (fun h => h23 (by rw [h]; rfl))
                simp only [hs2, if_true, if_false] at a1
                rw [a2] at h47
                exact h47 ((nI_leI (b := 1000) (by omega) (by decide)).mpr a1)
              refine zJ_iconst (v := 0) dX8_guess_50 (by decide) ?_
              exact zJ_zret dX8_guess_51 rfl rfl (by decide) (by decide) ⟨g, p, hg, rfl, hp, rfl, Or.inl ⟨hno, rfl, rfl⟩⟩
    · have hno : ¬ zgok s n := fun ⟨sv, h1, h2, _⟩ => by
        rw [h2] at h16
        exact h16 ((nI_leI (b := 3) (by omega) (by decide)).mpr h1)
      refine zJ_iconst (v := 0) dX8_guess_19 (by decide) ?_
      exact zJ_zret dX8_guess_20 rfl rfl (by decide) (by decide) ⟨g, p, hg, rfl, hp, rfl, Or.inl ⟨hno, rfl, rfl⟩⟩
