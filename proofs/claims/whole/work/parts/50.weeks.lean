/-! LetterTown$Weeks -/
def zWk (w : zW) (i : Nat) : Prop := w.1 i = some (.inl 7) ∧ w.2.2.2 i 4 = some (i + 1) ∧ w.2.2.2 i 5 = some (i + 2) ∧ w.2.2.2 i 6 = some (i + 3) ∧ w.1 (i + 1) = some (.inr (false, 100)) ∧ w.1 (i + 2) = some (.inr (false, 100)) ∧ w.1 (i + 3) = some (.inr (false, 8))
/-- the seed behind a draw, and what is drawn -/
def zdr (s : Int32) : Int32 := s * 1103515245 + 12345
def zd15 (s : Int32) : Nat := s.toBitVec.toNat / 65536 % 32768
theorem zd15_lt (s : Int32) : zd15 s < 32768 := Nat.mod_lt _ (by decide)
theorem zd15_u (s : Int32) : (s.toUInt32 >>> (Int32.toUInt32 16 &&& Int32.toUInt32 31)).toInt32 &&& 32767 = nI (zd15 s) := by
  apply Int32.toBitVec_inj.mp
  apply BitVec.eq_of_toNat_eq
  rw [show (nI (zd15 s)).toBitVec = BitVec.ofNat 32 (zd15 s) from rfl, BitVec.toNat_ofNat]
  have e : ((s.toUInt32 >>> (Int32.toUInt32 16 &&& Int32.toUInt32 31)).toInt32 &&& 32767).toBitVec = (s.toBitVec >>> 16) &&& 32767#32 := rfl
  rw [e, BitVec.toNat_and, BitVec.toNat_ushiftRight, show (32767#32).toNat = 2 ^ 15 - 1 from rfl, Nat.and_two_pow_sub_one_eq_mod, Nat.shiftRight_eq_div_pow, Nat.mod_eq_of_lt (show zd15 s < 2 ^ 32 by have := zd15_lt s; omega)]
  rfl
set_option maxRecDepth 100000 in
theorem c_Weeks_draw (Δ : zD) (w : zW) (i : Nat) (hW : zWk w i) (n : Nat) (hn : 0 < n) (hn2 : n < 2 ^ 31) : zMd Δ 0 0 0 true yX7_draw mX7_draw [.ref i, .int (nI n)] w (some (.int (nI (zd15 (zdr (w.2.1 i 1)) % n)))) (zsi w i 1 (zdr (w.2.1 i 1))) := by
  refine zMd.of mfX7_draw (Nat.le_of_ble_eq_true rfl) (fun QR hQ => ?_)
  have hW0 := hW
  obtain ⟨k0, v1, v2, v3, l1, l2, l3⟩ := hW
  have e1 : ∀ x, (zsi w i 1 x).2.1 i 1 = x := fun x => by simp [zsi]
  have hzl := zd15_lt (zdr (w.2.1 i 1))
  refine zJ_aload_n dX7_draw_0 rfl ?_
  refine zJ_aload_n dX7_draw_1 rfl ?_
  refine zJ_geti dX7_draw_2 fX7_29 (by first | rfl | assumption) rfl ?_
  refine zJ_ldc dX7_draw_5 kX7_47 ?_
  refine zJ_imul dX7_draw_7 ?_
  refine zJ_sipush (v := 12345) dX7_draw_8 (by decide) ?_
  refine zJ_iadd dX7_draw_11 ?_
  rw [show w.2.1 i 1 * 1103515245 + 12345 = zdr (w.2.1 i 1) from rfl]
  refine zJ_puti dX7_draw_12 fX7_29 (fun q h => by cases h; rfl) (by first | rfl | assumption) rfl rfl rfl ?_
  refine zJ_iload_n dX7_draw_15 rfl ?_
  refine zJ_if_le (tgt := 35) dX7_draw_16 (by decide) (fun h16 => ?_) (fun h16 => ?_)
  · exact absurd ((nI_leI (a := n) (b := 0) (by omega) (by decide)).mp h16) (by omega)
  · refine zJ_aload_n dX7_draw_19 rfl ?_
    refine zJ_geti dX7_draw_20 fX7_29 (by first | rfl | assumption) rfl ?_
    rw [e1]
    refine zJ_bipush (v := 16) dX7_draw_23 (by decide) ?_
    refine zJ_iushr dX7_draw_25 ?_
    refine zJ_sipush (v := 32767) dX7_draw_26 (by decide) ?_
    refine zJ_iand dX7_draw_29 ?_
    rw [zd15_u]
    refine zJ_iload_n dX7_draw_30 rfl ?_
    refine zJ_irem dX7_draw_31 (fun h => absurd ((nI_eq (b := 0) hn2 (by decide)).mp h) (by omega)) ?_
    rw [nI_rem (by omega) hn2]
    refine zJ_goto (tgt := 36) dX7_draw_32 (by decide) ?_
    exact zJ_iret dX7_draw_36 rfl (by decide) (by decide) hQ
set_option maxRecDepth 100000 in
theorem c_Weeks_clear (Δ : zD) (w : zW) (i : Nat) (hW : zWk w i) : zMd Δ 0 0 0 true yX7_clear mX7_clear [.ref i] w none (zsi (zsi w i 0 0) i 3 0) := by
  refine zMd.of mfX7_clear (Nat.le_of_ble_eq_true rfl) (fun QR hQ => ?_)
  have hW0 := hW
  obtain ⟨k0, v1, v2, v3, l1, l2, l3⟩ := hW
  refine zJ_aload_n dX7_clear_0 rfl ?_
  refine zJ_iconst (v := 0) dX7_clear_1 (by decide) ?_
  refine zJ_puti dX7_clear_2 fX7_21 (fun q h => by cases h; rfl) (by first | rfl | assumption) rfl rfl rfl ?_
  refine zJ_aload_n dX7_clear_5 rfl ?_
  refine zJ_iconst (v := 0) dX7_clear_6 (by decide) ?_
  refine zJ_puti dX7_clear_7 fX7_25 (fun q h => by cases h; rfl) (by first | rfl | assumption) rfl rfl rfl ?_
  exact zJ_vret dX7_clear_10 rfl (by decide) (by decide) hQ
set_option maxRecDepth 100000 in
theorem c_Weeks_start (Δ : zD) (w : zW) (i : Nat) (hW : zWk w i) (s o : Int32) : zMd Δ 1 0 0 true yX7_start mX7_start [.ref i, .int s, .int o] w none (zrow (zsi (zsi (zsi (zsi w i 0 1) i 1 s) i 2 o) i 3 0) (i + 3) (fun k => if k < 8 then -1 else w.2.1 (i + 3) k)) := by
  refine zMd.of mfX7_start (Nat.le_of_ble_eq_true rfl) (fun QR hQ => ?_)
  have hW0 := hW
  obtain ⟨k0, v1, v2, v3, l1, l2, l3⟩ := hW
  have e1 : ∀ k, (zsi (zsi (zsi (zsi w i 0 1) i 1 s) i 2 o) i 3 0).2.1 (i + 3) k = w.2.1 (i + 3) k := fun k => by simp [zsi]
  refine zJ_aload_n dX7_start_0 rfl ?_
  refine zJ_iconst (v := 1) dX7_start_1 (by decide) ?_
  refine zJ_puti dX7_start_2 fX7_21 (fun q h => by cases h; rfl) (by first | rfl | assumption) rfl rfl rfl ?_
  refine zJ_aload_n dX7_start_5 rfl ?_
  refine zJ_iload_n dX7_start_6 rfl ?_
  refine zJ_puti dX7_start_7 fX7_29 (fun q h => by cases h; rfl) (by first | rfl | assumption) rfl rfl rfl ?_
  refine zJ_aload_n dX7_start_10 rfl ?_
  refine zJ_iload_n dX7_start_11 rfl ?_
  refine zJ_puti dX7_start_12 fX7_32 (fun q h => by cases h; rfl) (by first | rfl | assumption) rfl rfl rfl ?_
  refine zJ_aload_n dX7_start_15 rfl ?_
  refine zJ_iconst (v := 0) dX7_start_16 (by decide) ?_
  refine zJ_puti dX7_start_17 fX7_25 (fun q h => by cases h; rfl) (by first | rfl | assumption) rfl rfl rfl ?_
  refine zJ_aload_n dX7_start_20 rfl ?_
  refine zJ_getr dX7_start_21 fX7_18 (by first | rfl | assumption) rfl (by first | rfl | assumption) ?_
  refine zJ_iconst (v := (-1)) dX7_start_24 (by decide) ?_
  refine zJ_cS2 dX7_start_25 sX7_35 mfJ7_fill_53178 (c_fill_i Δ (zsi (zsi (zsi (zsi w i 0 1) i 1 s) i 2 o) i 3 0) (i + 3) 8 (-1) (by decide) l3) (Nat.le_of_ble_eq_true rfl) (by decide) (by decide) ?_
  exact zJ_vret dX7_start_28 rfl (by decide) (by decide) (by simp only [e1]; exact hQ)
def zwcp (w : zW) (i f : Nat) : zW := (w.1, fun a j => if a = i then (if j < 4 then w.2.1 f j else w.2.1 i j) else if a = i + 1 then (if j < 100 then w.2.1 (f + 1) j else w.2.1 a j) else if a = i + 2 then (if j < 100 then w.2.1 (f + 2) j else w.2.1 a j) else if a = i + 3 then (if j < 8 then w.2.1 (f + 3) j else w.2.1 a j) else w.2.1 a j, w.2.2)
set_option maxRecDepth 100000 in
theorem c_Weeks_copy (Δ : zD) (w : zW) (i : Nat) (hW : zWk w i) (f : Nat) (hF : zWk w f) (hd : i + 3 < f ∨ f + 3 < i) (hb : w.2.1 f 0 = 0 ∨ w.2.1 f 0 = 1) : zMd Δ 1 0 0 true yX7_copy mX7_copy [.ref i, .ref f] w none (zwcp w i f) := by
  refine zMd.of mfX7_copy (Nat.le_of_ble_eq_true rfl) (fun QR hQ => ?_)
  have hW0 := hW
  obtain ⟨k0, v1, v2, v3, l1, l2, l3⟩ := hW
  obtain ⟨k0f, v1f, v2f, v3f, l1f, l2f, l3f⟩ := hF
  have n0 : ¬ f = i := by omega
  have n1 : ¬ f + 1 = i + 1 := by omega
  refine zJ_aload_n dX7_copy_0 rfl ?_
  refine zJ_aload_n dX7_copy_1 rfl ?_
  refine zJ_geti dX7_copy_2 fX7_21 (by first | rfl | assumption) rfl ?_
  refine zJ_puti dX7_copy_5 fX7_21 (fun q h => by cases h; rfl) (by first | rfl | assumption) rfl (by rcases hb with h | h <;> rw [h] <;> rfl) (by rcases hb with h | h <;> rw [h] <;> rfl) ?_
  refine zJ_aload_n dX7_copy_8 rfl ?_
  refine zJ_aload_n dX7_copy_9 rfl ?_
  refine zJ_geti dX7_copy_10 fX7_29 (by first | rfl | assumption) rfl ?_
  rw [show (zsi w i 0 (w.2.1 f 0)).2.1 f 1 = w.2.1 f 1 by simp [zsi, n0]]
  refine zJ_puti dX7_copy_13 fX7_29 (fun q h => by cases h; rfl) (by first | rfl | assumption) rfl rfl rfl ?_
  refine zJ_aload_n dX7_copy_16 rfl ?_
  refine zJ_aload_n dX7_copy_17 rfl ?_
  refine zJ_geti dX7_copy_18 fX7_32 (by first | rfl | assumption) rfl ?_
  rw [show (zsi (zsi w i 0 (w.2.1 f 0)) i 1 (w.2.1 f 1)).2.1 f 2 = w.2.1 f 2 by simp [zsi, n0]]
  refine zJ_puti dX7_copy_21 fX7_32 (fun q h => by cases h; rfl) (by first | rfl | assumption) rfl rfl rfl ?_
  refine zJ_aload_n dX7_copy_24 rfl ?_
  refine zJ_aload_n dX7_copy_25 rfl ?_
  refine zJ_geti dX7_copy_26 fX7_25 (by first | rfl | assumption) rfl ?_
  rw [show (zsi (zsi (zsi w i 0 (w.2.1 f 0)) i 1 (w.2.1 f 1)) i 2 (w.2.1 f 2)).2.1 f 3 = w.2.1 f 3 by simp [zsi, n0]]
  refine zJ_puti dX7_copy_29 fX7_25 (fun q h => by cases h; rfl) (by first | rfl | assumption) rfl rfl rfl ?_
  refine zJ_aload_n dX7_copy_32 rfl ?_
  refine zJ_getr dX7_copy_33 fX7_11 (by first | rfl | assumption) rfl (by first | rfl | assumption) ?_
  refine zJ_iconst (v := 0) dX7_copy_36 (by decide) ?_
  refine zJ_aload_n dX7_copy_37 rfl ?_
  refine zJ_getr dX7_copy_38 fX7_11 (by first | rfl | assumption) rfl (by first | rfl | assumption) ?_
  refine zJ_iconst (v := 0) dX7_copy_41 (by decide) ?_
  refine zJ_bipush (v := 100) dX7_copy_42 (by decide) ?_
  refine zJ_copy (sp := 0) (dp := 0) (nn := 100) (n0 := 100) (n1 := 100) dX7_copy_44 acpX7 (by first | rfl | assumption) (by first | rfl | assumption) (by decide) (by decide) (by decide) (by decide) (by decide) (by decide) ?_
  refine zJ_aload_n dX7_copy_47 rfl ?_
  refine zJ_getr dX7_copy_48 fX7_15 (by first | rfl | assumption) rfl (by first | rfl | assumption) ?_
  refine zJ_iconst (v := 0) dX7_copy_51 (by decide) ?_
  refine zJ_aload_n dX7_copy_52 rfl ?_
  refine zJ_getr dX7_copy_53 fX7_15 (by first | rfl | assumption) rfl (by first | rfl | assumption) ?_
  refine zJ_iconst (v := 0) dX7_copy_56 (by decide) ?_
  refine zJ_bipush (v := 100) dX7_copy_57 (by decide) ?_
  refine zJ_copy (sp := 0) (dp := 0) (nn := 100) (n0 := 100) (n1 := 100) dX7_copy_59 acpX7 (by first | rfl | assumption) (by first | rfl | assumption) (by decide) (by decide) (by decide) (by decide) (by decide) (by decide) ?_
  refine zJ_aload_n dX7_copy_62 rfl ?_
  refine zJ_getr dX7_copy_63 fX7_18 (by first | rfl | assumption) rfl (by first | rfl | assumption) ?_
  refine zJ_iconst (v := 0) dX7_copy_66 (by decide) ?_
  refine zJ_aload_n dX7_copy_67 rfl ?_
  refine zJ_getr dX7_copy_68 fX7_18 (by first | rfl | assumption) rfl (by first | rfl | assumption) ?_
  refine zJ_iconst (v := 0) dX7_copy_71 (by decide) ?_
  refine zJ_bipush (v := 8) dX7_copy_72 (by decide) ?_
  refine zJ_copy (sp := 0) (dp := 0) (nn := 8) (n0 := 8) (n1 := 8) dX7_copy_74 acpX7 (by first | rfl | assumption) (by first | rfl | assumption) (by decide) (by decide) (by decide) (by decide) (by decide) (by decide) ?_
  exact zJ_vret dX7_copy_77 rfl (by decide) (by decide) (by
  refine (congrArg (QR none) ?_).mp hQ
  refine Prod.ext rfl (Prod.ext (funext fun a => funext fun j => ?_) rfl)
  have a1 : ¬ f + 1 = i := by omega
  have a2 : ¬ f + 2 = i := by omega
  have a3 : ¬ f + 3 = i := by omega
  have a4 : ¬ f + 2 = i + 1 := by omega
  have a5 : ¬ f + 3 = i + 1 := by omega
  have a6 : ¬ f + 3 = i + 2 := by omega
  have a7 : ¬ f + 1 = i + 2 := by omega
  have a8 : ¬ f + 1 = i + 3 := by omega
  have a9 : ¬ f + 2 = i + 3 := by omega
  by_cases c0 : a = i
  · subst c0
    by_cases j0 : j = 0
    · subst j0; simp [zwcp, zcp, zsi, n0]
    · by_cases j1 : j = 1
      · subst j1; simp [zwcp, zcp, zsi, n0]
      · by_cases j2 : j = 2
        · subst j2; simp [zwcp, zcp, zsi, n0]
        · by_cases j3 : j = 3
          · subst j3; simp [zwcp, zcp, zsi, n0]
          · have : ¬ j < 4 := by omega
            simp [zwcp, zcp, zsi, j0, j1, j2, j3, this]
  · by_cases c1 : a = i + 1
    · subst c1; simp [zwcp, zcp, zsi, a1, a2, a3, a4, a5, a6, a7, a8, a9]
    · by_cases c2 : a = i + 2
      · subst c2; simp [zwcp, zcp, zsi, a1, a2, a3, a4, a5, a6, a7, a8, a9]
      · by_cases c3 : a = i + 3
        · subst c3; simp [zwcp, zcp, zsi, a1, a2, a3, a4, a5, a6, a7, a8, a9]
        · simp [zwcp, zcp, zsi, c0, c1, c2, c3])
theorem zcm_of {a n : Nat} (hn : n ≤ 200) (ha : a ≤ 200) : (nI a - 1 < nI n) = ¬ n < a := by
  cases a with
  | zero =>
    have : nI 0 - 1 < nI n := by
      have h0 : (nI 0 - 1) < 0 := by decide
      have h1 : (0 : Int32) ≤ nI n := (nI_leI (a := 0) (by decide) (by omega)).mpr (Nat.zero_le _)
      exact Int32.lt_of_lt_of_le h0 h1
    simp [this]
  | succ a =>
    rw [nI_pred, nI_ltI (by omega) (by omega)]
    simp only [eq_iff_iff]; omega
set_option maxRecDepth 100000 in
theorem c_Weeks_whoAreOut (Δ : zD) (w : zW) (i : Nat) (hW : zWk w i) (n : Nat) (ot : Nat → Nat) (hn : n ≤ 100) (h3 : w.2.1 i 3 = nI n) (ho : ∀ p, p < 8 → w.2.1 (i + 3) p = nI (ot p) - 1 ∧ ot p ≤ 200) : zMd Δ 0 0 0 true yX7_whoAreOut mX7_whoAreOut [.ref i] w (some (.int (nI (zbits (fun p => decide (n < ot p)) 8)))) w := by
  refine zMd.of mfX7_whoAreOut (Nat.le_of_ble_eq_true rfl) (fun QR hQ => ?_)
  have hW0 := hW
  obtain ⟨k0, v1, v2, v3, l1, l2, l3⟩ := hW
  have L : ∀ j, j ≤ 8 → zJ Δ mX7_whoAreOut (zRm 0 0 0) true w.1 QR (fun _ _ => False) 0 0 4 [(2, .int (nI j)), (1, .int (nI (zbits (fun p => decide (n < ot p)) j))), (0, .ref i)] [] w := by
    refine zup (fun j hj ih => ?_)
    refine zJ_iload_n dX7_whoAreOut_4 rfl ?_
    refine zJ_bipush (v := 8) dX7_whoAreOut_5 (by decide) ?_
    refine zJ_icmp_ge (tgt := 35) dX7_whoAreOut_7 (by decide) (fun h7 => ?_) (fun h7 => ?_)
    · have hj9 : j = 8 := by exact Nat.le_antisymm hj ((nI_leI (a := 8) (b := j) (by omega) (by omega)).mp h7)
      subst hj9
      refine zJ_iload_n dX7_whoAreOut_35 rfl ?_
      exact zJ_iret dX7_whoAreOut_36 rfl (by decide) (by decide) hQ
    · have hj9 : j < 8 := Nat.lt_of_not_le fun hq9 => h7 (by exact (nI_leI (a := 8) (b := j) (by omega) (by omega)).mpr hq9)
      obtain ⟨hoj, hoj2⟩ := ho j hj9
      have zcm : (nI (ot j) - 1 < nI n) = ¬ n < ot j := zcm_of (by omega) hoj2
      refine zJ_aload_n dX7_whoAreOut_10 rfl ?_
      refine zJ_getr dX7_whoAreOut_11 fX7_18 (by first | rfl | assumption) rfl (by first | rfl | assumption) ?_
      refine zJ_iload_n dX7_whoAreOut_14 rfl ?_
      refine zJ_iald dX7_whoAreOut_15 (by first | rfl | assumption) (vp_in_nI (by omega) (by omega)) ?_
      refine zJ_aload_n dX7_whoAreOut_16 rfl ?_
      refine zJ_geti dX7_whoAreOut_17 fX7_25 (by first | rfl | assumption) rfl ?_
      rw [nI_clamp (show j < 2 ^ 31 by omega), hoj, h3]
      refine zJ_icmp_lt (tgt := 29) dX7_whoAreOut_20 (by decide) (fun h20 => ?_) (fun h20 => ?_)
      · refine zJ_iinc (ls2 := fun x29 => [(2, .int x29), (1, .int (nI (zbits (fun p => decide (n < ot p)) j))), (0, .ref i)]) dX7_whoAreOut_29 rfl (by decide) (fun _ => rfl) (fun x29 ex29 => ?_)
        refine zJ_goto (tgt := 4) dX7_whoAreOut_32 (by decide) ?_
        refine zJ_ls [(2, .int x29), (1, .int (nI (zbits (fun p => decide (n < ot p)) j))), (0, .ref i)] (by simp) ?_
        rw [ex29, show nI j + Int32.ofInt 1 = nI (j + 1) from nI_1 _]
        have hlt : ¬ n < ot j := fun h => (by rw [zcm] at h20; exact absurd h20 (by simp [h]))
        rw [show zbits (fun p => decide (n < ot p)) j = zbits (fun p => decide (n < ot p)) (j + 1) by simp [zbits, hlt]]
        exact ih (j + 1) (by omega) (by omega)
      · refine zJ_iload_n dX7_whoAreOut_23 rfl ?_
        refine zJ_iconst (v := 1) dX7_whoAreOut_24 (by decide) ?_
        refine zJ_iload_n dX7_whoAreOut_25 rfl ?_
        refine zJ_ishl dX7_whoAreOut_26 ?_
        refine zJ_ior dX7_whoAreOut_27 ?_
        refine zJ_istore_n (ls2 := fun x28 => [(1, .int x28), (2, .int (nI j)), (0, .ref i)]) dX7_whoAreOut_28 (by decide) (fun _ => rfl) (fun x28 ex28 => ?_)
        refine zJ_iinc (ls2 := fun x29 => [(2, .int x29), (1, .int x28), (0, .ref i)]) dX7_whoAreOut_29 rfl (by decide) (fun _ => rfl) (fun x29 ex29 => ?_)
        refine zJ_goto (tgt := 4) dX7_whoAreOut_32 (by decide) ?_
        refine zJ_ls [(2, .int x29), (1, .int x28), (0, .ref i)] (by simp) ?_
        rw [ex29, show nI j + Int32.ofInt 1 = nI (j + 1) from nI_1 _]
        have hlt : n < ot j := Classical.byContradiction fun h => (by rw [zcm] at h20; exact h20 (by simpa using h))
        rw [show x28 = nI (zbits (fun p => decide (n < ot p)) (j + 1)) by rw [ex28, na_shl j (by omega), zbits_or]; simp [zbits, hlt]]
        exact ih (j + 1) (by omega) (by omega)
  refine zJ_iconst (v := 0) dX7_whoAreOut_0 (by decide) ?_
  refine zJ_istore_n (ls2 := fun x1 => [(1, .int x1), (0, .ref i)]) dX7_whoAreOut_1 (by decide) (fun _ => rfl) (fun x1 ex1 => ?_)
  obtain rfl : x1 = (nI 0) := ex1
  refine zJ_iconst (v := 0) dX7_whoAreOut_2 (by decide) ?_
  refine zJ_istore_n (ls2 := fun x3 => [(2, .int x3), (1, .int (nI 0)), (0, .ref i)]) dX7_whoAreOut_3 (by decide) (fun _ => rfl) (fun x3 ex3 => ?_)
  obtain rfl : x3 = (nI 0) := ex3
  exact L 0 (Nat.zero_le _)
