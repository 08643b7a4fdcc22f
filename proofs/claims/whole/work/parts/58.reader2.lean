/-! LetterTown$Reader: words, numbers -/
def zwd (tx : Nat → Nat) (t : zTkn) (i : Nat) : Bool := decide (t.1 = 1) && (decide (t.2.2.1 - t.2.1 = (zwl.getD i []).length) && decide (∀ k, k < (zwl.getD i []).length → tx (t.2.1 + k) = (zwl.getD i []).getD k 0))
/-- a NUMBER from lo to hi; else which FAULT, and where -/
def zrN (lo hi : Nat) (t : zTkn) : (Nat × Nat) ⊕ Nat := if t.1 ≠ 2 then .inl (1, t.2.1) else if 4 < t.2.2.1 - t.2.1 ∨ t.2.2.2 < lo ∨ hi < t.2.2.2 then .inl (2, t.2.1) else .inr t.2.2.2
def zrK (pp : Nat) (t : zTkn) : (Nat × Nat) ⊕ Nat := match zrN 0 9999 t with
  | .inl e => .inl e
  | .inr v => if v < pp then .inr v else .inl (3, t.2.1)
def zrP (tx : Nat → Nat) (n i lo hi wo : Nat) (t : zTkn) : (Nat × Nat) ⊕ (Nat × zTkn) := if zwd tx t i then (match zrN lo hi (ztk tx n t.2.2.1) with
    | .inl e => .inl e
    | .inr v => .inr (v, ztk tx n (ztk tx n t.2.2.1).2.2.1)) else .inr (wo, t)
def zRp (w : zW) (t : zTkn) : Prop := w.2.1 3 3 = nI t.2.2.1 ∧ w.2.1 3 4 = nI t.1 ∧ w.2.1 3 5 = nI t.2.1
theorem zRt.p {w : zW} {t : zTkn} (h : zRt w t) : zRp w t := ⟨h.1, h.2.1, h.2.2.1⟩
def zFd (w c : zW) : Prop := c.1 = w.1 ∧ c.2.2 = w.2.2 ∧ ∀ a j, (a < 3 ∨ 8 < a ∨ (a = 3 ∧ j ≤ 2)) → c.2.1 a j = w.2.1 a j
theorem zFd.rf (w : zW) : zFd w w := ⟨rfl, rfl, fun _ _ _ => rfl⟩
theorem zFd.tr {w c d : zW} (h1 : zFd w c) (h2 : zFd c d) : zFd w d := ⟨h2.1.trans h1.1, h2.2.1.trans h1.2.1, fun a j h => (h2.2.2 a j h).trans (h1.2.2 a j h)⟩
theorem zFk.d {w c : zW} (h : zFk w c) : zFd w c := ⟨h.1, h.2.1, fun a j h1 => h.2.2 a j (by omega)⟩
theorem zFd.i {w : zW} {a j : Nat} {x : Int32} (h : (a = 3 ∧ 3 ≤ j) ∨ (4 ≤ a ∧ a ≤ 8)) : zFd w (zsi w a j x) := ⟨rfl, rfl, fun a2 j2 h2 => by
  have h3 : ¬ (a2 = a ∧ j2 = j) := by omega
  simp [zsi, h3]⟩
theorem zRe.fd {w c : zW} {tx : Nat → Nat} {n : Nat} (h : zRe w tx n) (hf : zFd w c) : zRe c tx n := by
  obtain ⟨h1, h2, h3, h4⟩ := h
  exact ⟨h1.fk hf.1 hf.2.1, (hf.2.2 3 2 (by omega)).trans h2, h3, fun i hi => ⟨(hf.2.2 1 i (by omega)).trans (h4 i hi).1, (h4 i hi).2⟩⟩
def zEr (w c : zW) (e : Nat × Nat) : Prop := zFd w c ∧ c.2.1 3 9 = nI e.1 ∧ c.2.1 3 10 = nI e.2
theorem zEr.pre {w c d : zW} {e : Nat × Nat} (h1 : zFd w c) (h2 : zEr c d e) : zEr w d e := ⟨h1.tr h2.1, h2.2⟩
theorem ztk_k {tx : Nat → Nat} {n a : Nat} : (ztk tx n a).1 ≤ 4 ∧ ((ztk tx n a).1 = 2 → (ztk tx n a).2.2.2 ≤ 9999) := by
  simp only [ztk, ztk0]
  generalize zrun (fun i => zblk (tx i)) n a = f
  split
  · simp
  · split
    · simp
    · split
      · refine ⟨by simp, fun _ => ?_⟩
        have h1 := zvd_lt (tx := tx) (f := f) (zrun (fun i => zdig (tx i)) n f - f) (fun i hi => zrun_all (p := fun i => zdig (tx i)) (n := n) (a := f) (i := f + i) (by omega) (by omega))
        have h2 : 10 ^ min (zrun (fun i => zdig (tx i)) n f - f) 4 ≤ 10 ^ 4 := Nat.pow_le_pow_right (by decide) (by omega)
        simp only
        omega
      · simp only
        split <;> simp
set_option maxRecDepth 100000 in
theorem c_Rd_refuse (Δ : zD) (w : zW) (hC : zCs w) (x : Int32) : zMd Δ 0 0 0 true yX2_refuse mX2_refuse [.ref 3, .int x] w (some (.int 0)) (zsi (zsi w 3 9 x) 3 10 (w.2.1 3 5)) := by
  refine zMd.of mfX2_refuse (Nat.le_of_ble_eq_true rfl) (fun QR hQ => ?_)
  refine zJ_aload_n dX2_refuse_0 rfl ?_
  refine zJ_iload_n dX2_refuse_1 rfl ?_
  refine zJ_puti dX2_refuse_2 fX2_41 (fun q h => by cases h; rfl) (by first | rfl | assumption | exact hC.1 _ (by decide)) rfl rfl rfl ?_
  refine zJ_aload_n dX2_refuse_5 rfl ?_
  refine zJ_aload_n dX2_refuse_6 rfl ?_
  refine zJ_geti dX2_refuse_7 fX2_57 (by first | rfl | assumption | exact hC.1 _ (by decide)) rfl ?_
  rw [show (zsi w 3 9 x).2.1 3 5 = w.2.1 3 5 by simp [zsi]]
  refine zJ_puti dX2_refuse_10 fX2_44 (fun q h => by cases h; rfl) (by first | rfl | assumption | exact hC.1 _ (by decide)) rfl rfl rfl ?_
  refine zJ_iconst (v := 0) dX2_refuse_13 (by decide) ?_
  exact zJ_zret dX2_refuse_14 rfl rfl (by decide) (by decide) hQ
theorem zEr.of {w : zW} {x y : Nat} (h5 : w.2.1 3 5 = nI y) : zEr w (zsi (zsi w 3 9 (nI x)) 3 10 (w.2.1 3 5)) (x, y) := ⟨(zFd.i (by omega)).tr (zFd.i (by omega)), by simp [zsi], by simp [zsi, h5]⟩
set_option maxRecDepth 100000 in
theorem c_Rd_isWord (Δ : zD) (w : zW) (tx : Nat → Nat) (n i : Nat) (t : zTkn) (hR : zRe w tx n) (hi : i < 17) (ht : zRp w t) (hk4 : t.1 ≤ 4) (hle : t.2.1 ≤ t.2.2.1 ∧ t.2.2.1 ≤ n) : zMd Δ 4 0 0 true yX2_isWord mX2_isWord [.ref 3, .ref (1000 + i)] w (some (.int (if zwd tx t i then 1 else 0))) w := by
  refine zMd.of mfX2_isWord (Nat.le_of_ble_eq_true rfl) (fun QR hQ => ?_)
  obtain ⟨hC, hln, hn7, htx⟩ := hR
  obtain ⟨f3, f4, f5⟩ := ht
  have hl6 := (zwl_len i hi).2
  have L : t.1 = 1 → t.2.2.1 - t.2.1 = (zwl.getD i []).length → ∀ j, j ≤ (zwl.getD i []).length → (∀ k, k < j → tx (t.2.1 + k) = (zwl.getD i []).getD k 0) → zJ Δ mX2_isWord (zRm 4 0 0) true w.1 QR (fun _ _ => False) 0 0 28 [(2, .int (nI j)), (0, .ref 3), (1, .ref (1000 + i))] [] w := by
    intro hk hlen
    refine zup (fun j hj ih hall => ?_)
    refine zJ_iload_n dX2_isWord_28 rfl ?_
    refine zJ_aload_n dX2_isWord_29 rfl ?_
    refine zJ_tV (As := []) dX2_isWord_30 sX2_73 pX2_73 mfJ0_length_8abf5 ((c_Str_length Δ w i hi).p (Q := fun r w2 => r = some (.int (nI (zwl.getD i []).length)) ∧ w = w2) ⟨rfl, rfl⟩) hi rfl rfl (Nat.le_of_ble_eq_true rfl) (by decide) (by decide) (fun r w2 hP => ?_)
    obtain ⟨rfl, rfl⟩ := hP
    refine zJ_icmp_ge (tgt := 63) dX2_isWord_33 (by decide) (fun h33 => ?_) (fun h33 => ?_)
    · have hj9 : j = (zwl.getD i []).length := by exact Nat.le_antisymm hj ((nI_leI (a := (zwl.getD i []).length) (b := j) (by omega) (by omega)).mp h33)
      rw [show zwd tx t i = true by
        simp only [zwd, hk, hlen, decide_true, Bool.true_and]
        exact decide_eq_true (fun k hk2 => hall k (by omega))] at hQ
      refine zJ_iconst (v := 1) dX2_isWord_63 (by decide) ?_
      exact zJ_zret dX2_isWord_64 rfl rfl (by decide) (by decide) hQ
    · have hj9 : j < (zwl.getD i []).length := Nat.lt_of_not_le fun hq9 => h33 (by exact (nI_leI (a := (zwl.getD i []).length) (b := j) (by omega) (by omega)).mpr hq9)
      have hch := zwl_ch i hi j hj9
      have htj := htx (t.2.1 + j) (by omega)
      refine zJ_aload_n dX2_isWord_36 rfl ?_
      refine zJ_getr dX2_isWord_37 fX2_18 (by first | rfl | assumption | exact hC.1 _ (by decide)) rfl (by first | rfl | assumption | exact hC.2 _ _ rfl) ?_
      refine zJ_aload_n dX2_isWord_40 rfl ?_
      refine zJ_geti dX2_isWord_41 fX2_57 (by first | rfl | assumption | exact hC.1 _ (by decide)) rfl ?_
      refine zJ_iload_n dX2_isWord_44 rfl ?_
      rw [f5]
      refine zJ_iadd dX2_isWord_45 ?_
      rw [na_add]
      refine zJ_iald dX2_isWord_46 (by first | rfl | assumption | exact hC.1 _ (by decide)) (vp_in_nI (by omega) (by omega)) ?_
      rw [nI_clamp (show t.2.1 + j < 2 ^ 31 by omega), htj.1]
      refine zJ_aload_n dX2_isWord_47 rfl ?_
      refine zJ_iload_n dX2_isWord_48 rfl ?_
      refine zJ_tV (As := [.int (nI j)]) dX2_isWord_49 sX2_78 pX2_78 mfJ0_charAt_5068e ((c_Str_charAt Δ w i hi j hj9).p (Q := fun r w2 => r = some (.int (nI ((zwl.getD i []).getD j 0))) ∧ w = w2) ⟨rfl, rfl⟩) hi rfl rfl (Nat.le_of_ble_eq_true rfl) (by decide) (by decide) (fun r w2 hP => ?_)
      obtain ⟨rfl, rfl⟩ := hP
      refine zJ_icmp_eq (tgt := 57) dX2_isWord_52 (by decide) (fun h52 => ?_) (fun h52 => ?_)
      · have heq : tx (t.2.1 + j) = (zwl.getD i []).getD j 0 := (nI_eq (by omega) (by omega)).mp h52
        refine zJ_iinc (ls2 := fun x57 => [(2, .int x57), (0, .ref 3), (1, .ref (1000 + i))]) dX2_isWord_57 rfl (by decide) (fun _ => rfl) (fun x57 ex57 => ?_)
        refine zJ_goto (tgt := 28) dX2_isWord_60 (by decide) ?_
        refine zJ_ls [(2, .int x57), (0, .ref 3), (1, .ref (1000 + i))] (by simp) ?_
        rw [ex57, show nI j + Int32.ofInt 1 = nI (j + 1) from nI_1 _]
        exact ih (j + 1) (by omega) (by omega) (fun k hk2 => by
          by_cases h : k = j
          · rw [h]; exact heq
          · exact hall k (by omega))
      · have hne : ¬ tx (t.2.1 + j) = (zwl.getD i []).getD j 0 := fun h => h52 (by rw [h])
        rw [show zwd tx t i = false by
          simp only [zwd, hk, hlen, decide_true, Bool.true_and]
          exact decide_eq_false (fun h => hne (h j hj9))] at hQ
        refine zJ_iconst (v := 0) dX2_isWord_55 (by decide) ?_
        exact zJ_zret dX2_isWord_56 rfl rfl (by decide) (by decide) hQ
  refine zJ_aload_n dX2_isWord_0 rfl ?_
  refine zJ_geti dX2_isWord_1 fX2_50 (by first | rfl | assumption | exact hC.1 _ (by decide)) rfl ?_
  refine zJ_iconst (v := 1) dX2_isWord_4 (by decide) ?_
  rw [f4]
  refine zJ_icmp_ne (tgt := 24) dX2_isWord_5 (by decide) (fun h5 => ?_) (fun h5 => ?_)
  · have hk : ¬ t.1 = 1 := fun h => h5 (by rw [h]; rfl)
    rw [show zwd tx t i = false by simp [zwd, hk]] at hQ
    refine zJ_iconst (v := 0) dX2_isWord_24 (by decide) ?_
    exact zJ_zret dX2_isWord_25 rfl rfl (by decide) (by decide) hQ
  · have hk : t.1 = 1 := (nI_eq (b := 1) (by omega) (by decide)).mp h5
    refine zJ_aload_n dX2_isWord_8 rfl ?_
    refine zJ_geti dX2_isWord_9 fX2_35 (by first | rfl | assumption | exact hC.1 _ (by decide)) rfl ?_
    rw [f3]
    refine zJ_aload_n dX2_isWord_12 rfl ?_
    refine zJ_geti dX2_isWord_13 fX2_57 (by first | rfl | assumption | exact hC.1 _ (by decide)) rfl ?_
    rw [f5]
    refine zJ_isub dX2_isWord_16 ?_
    rw [na_sub hle.1]
    refine zJ_aload_n dX2_isWord_17 rfl ?_
    refine zJ_tV (As := []) dX2_isWord_18 sX2_73 pX2_73 mfJ0_length_8abf5 ((c_Str_length Δ w i hi).p (Q := fun r w2 => r = some (.int (nI (zwl.getD i []).length)) ∧ w = w2) ⟨rfl, rfl⟩) hi rfl rfl (Nat.le_of_ble_eq_true rfl) (by decide) (by decide) (fun r w2 hP => ?_)
    obtain ⟨rfl, rfl⟩ := hP
    refine zJ_icmp_eq (tgt := 26) dX2_isWord_21 (by decide) (fun h21 => ?_) (fun h21 => ?_)
    · have hlen : t.2.2.1 - t.2.1 = (zwl.getD i []).length := (nI_eq (by omega) (by omega)).mp h21
      refine zJ_iconst (v := 0) dX2_isWord_26 (by decide) ?_
      refine zJ_istore_n (ls2 := fun x27 => [(2, .int x27), (0, .ref 3), (1, .ref (1000 + i))]) dX2_isWord_27 (by decide) (fun _ => rfl) (fun x27 ex27 => ?_)
      obtain rfl : x27 = (nI 0) := ex27
      exact L hk hlen 0 (Nat.zero_le _) (fun k h => absurd h (Nat.not_lt_zero k))
    · have hl : ¬ t.2.2.1 - t.2.1 = (zwl.getD i []).length := fun h => h21 (by rw [h])
      rw [show zwd tx t i = false by simp only [zwd, decide_eq_false hl]; simp] at hQ
      refine zJ_iconst (v := 0) dX2_isWord_24 (by decide) ?_
      exact zJ_zret dX2_isWord_25 rfl rfl (by decide) (by decide) hQ
set_option maxRecDepth 100000 in
theorem c_Rd_tellOnce (Δ : zD) (w : zW) (hC : zCs w) (t : zTkn) (ht : zRp w t) (Bt q : Nat) (hB : Bt < 16) (hq : q < 4) (h8 : w.2.1 3 8 = nI Bt) : zMp Δ 1 yX2_tellOnce mX2_tellOnce [.ref 3, .int (nI (2 ^ q))] w (fun r c => (Bt.testBit q = true ∧ r = some (.int 0) ∧ zEr w c (5, t.2.1)) ∨ (Bt.testBit q = false ∧ r = some (.int 1) ∧ c = zsi w 3 8 (nI (Bt ||| 2 ^ q)))) := by
  refine zMp.of mfX2_tellOnce (Nat.le_of_ble_eq_true rfl) (fun QR hQ => ?_)
  have hand : Bt &&& 2 ^ q = 0 ↔ Bt.testBit q = false := by
    constructor
    · intro h
      have h1 : (Bt &&& 2 ^ q).testBit q = false := by rw [h]; simp
      rw [Nat.testBit_and, Nat.testBit_two_pow_self] at h1
      simpa using h1
    · intro h
      apply Nat.eq_of_testBit_eq
      intro y
      rw [Nat.testBit_and, Nat.testBit_two_pow]
      by_cases hy : q = y
      · subst hy; simp [h]
      · simp [hy]
  have hal : Bt &&& 2 ^ q < 2 ^ 31 := Nat.lt_of_le_of_lt Nat.and_le_left (by omega)
  refine zJ_aload_n dX2_tellOnce_0 rfl ?_
  refine zJ_geti dX2_tellOnce_1 fX2_38 (by first | rfl | assumption | exact hC.1 _ (by decide)) rfl ?_
  refine zJ_iload_n dX2_tellOnce_4 rfl ?_
  refine zJ_iand dX2_tellOnce_5 ?_
  rw [h8, na_and]
  refine zJ_if_eq (tgt := 15) dX2_tellOnce_6 (by decide) (fun h6 => ?_) (fun h6 => ?_)
  · have hno : Bt.testBit q = false := hand.mp ((nI_eq (b := 0) hal (by decide)).mp h6)
    refine zJ_aload_n dX2_tellOnce_15 rfl ?_
    refine zJ_dup dX2_tellOnce_16 rfl ?_
    refine zJ_geti dX2_tellOnce_17 fX2_38 (by first | rfl | assumption | exact hC.1 _ (by decide)) rfl ?_
    rw [h8]
    refine zJ_iload_n dX2_tellOnce_20 rfl ?_
    refine zJ_ior dX2_tellOnce_21 ?_
    rw [na_or]
    refine zJ_puti dX2_tellOnce_22 fX2_38 (fun q h => by cases h; rfl) (by first | rfl | assumption | exact hC.1 _ (by decide)) rfl rfl rfl ?_
    refine zJ_iconst (v := 1) dX2_tellOnce_25 (by decide) ?_
    exact zJ_zret dX2_tellOnce_26 rfl rfl (by decide) (by decide) (hQ _ _ (Or.inr ⟨hno, rfl, rfl⟩))
  · have hy : Bt.testBit q = true := by
      cases hz : Bt.testBit q with
      | true => rfl
      | false => exact absurd (by rw [hand.mpr hz]; rfl) h6
    refine zJ_aload_n dX2_tellOnce_9 rfl ?_
    refine zJ_iconst (v := 5) dX2_tellOnce_10 (by decide) ?_
    refine zJ_cV1 dX2_tellOnce_11 sX2_119 mfX2_refuse (c_Rd_refuse Δ w hC 5) (by first | rfl | assumption | exact hC.1 _ (by decide)) rfl (Nat.le_of_ble_eq_true rfl) (by decide) (by decide) ?_
    exact zJ_zret dX2_tellOnce_14 rfl rfl (by decide) (by decide) (hQ _ _ (Or.inl ⟨hy, rfl, zEr.of ht.2.2⟩))
set_option maxRecDepth 100000 in
theorem c_Rd_isClosed (Δ : zD) (w : zW) (hC : zCs w) (t : zTkn) (ht : zRp w t) (hk4 : t.1 ≤ 4) : zMp Δ 1 yX2_isClosed mX2_isClosed [.ref 3] w (fun r c => (t.1 = 3 ∧ r = some (.int 1) ∧ c = w) ∨ (¬ t.1 = 3 ∧ r = some (.int 0) ∧ zEr w c (1, t.2.1))) := by
  refine zMp.of mfX2_isClosed (Nat.le_of_ble_eq_true rfl) (fun QR hQ => ?_)
  refine zJ_aload_n dX2_isClosed_0 rfl ?_
  refine zJ_geti dX2_isClosed_1 fX2_50 (by first | rfl | assumption | exact hC.1 _ (by decide)) rfl ?_
  refine zJ_iconst (v := 3) dX2_isClosed_4 (by decide) ?_
  rw [ht.2.1]
  refine zJ_icmp_eq (tgt := 16) dX2_isClosed_5 (by decide) (fun h5 => ?_) (fun h5 => ?_)
  · have hk : t.1 = 3 := (nI_eq (b := 3) (by omega) (by decide)).mp h5
    refine zJ_iconst (v := 1) dX2_isClosed_16 (by decide) ?_
    refine zJ_goto (tgt := 21) dX2_isClosed_17 (by decide) ?_
    exact zJ_zret dX2_isClosed_21 rfl rfl (by decide) (by decide) (hQ _ _ (Or.inl ⟨hk, rfl, rfl⟩))
  · have hk : ¬ t.1 = 3 := fun h => h5 (by rw [h]; rfl)
    refine zJ_aload_n dX2_isClosed_8 rfl ?_
    refine zJ_iconst (v := 1) dX2_isClosed_9 (by decide) ?_
    refine zJ_cV1 dX2_isClosed_10 sX2_119 mfX2_refuse (c_Rd_refuse Δ w hC 1) (by first | rfl | assumption | exact hC.1 _ (by decide)) rfl (Nat.le_of_ble_eq_true rfl) (by decide) (by decide) ?_
    refine zJ_if_eq (tgt := 20) dX2_isClosed_13 (by decide) (fun h13 => ?_) (fun h13 => ?_)
    · refine zJ_iconst (v := 0) dX2_isClosed_20 (by decide) ?_
      exact zJ_zret dX2_isClosed_21 rfl rfl (by decide) (by decide) (hQ _ _ (Or.inr ⟨hk, rfl, zEr.of ht.2.2⟩))
    · exact absurd rfl h13
set_option maxRecDepth 100000 in
theorem c_Rd_readNumber (Δ : zD) (w : zW) (tx : Nat → Nat) (n a lo hi : Nat) (hR : zRe w tx n) (ha : a ≤ n) (hat : w.2.1 3 3 = nI a) (hlo : lo < 2 ^ 31) (hhi : hi < 2 ^ 31) : zMp Δ 2 yX2_readNumber mX2_readNumber [.ref 3, .int (nI lo), .int (nI hi)] w (fun r c => (∃ v, zrN lo hi (ztk tx n a) = .inr v ∧ r = some (.int 1) ∧ zFk w c ∧ zRp c (ztk tx n a) ∧ c.2.1 3 6 = nI v) ∨ (∃ e, zrN lo hi (ztk tx n a) = .inl e ∧ r = some (.int 0) ∧ zEr w c e)) := by
  refine zMp.of mfX2_readNumber (Nat.le_of_ble_eq_true rfl) (fun QR hQ => ?_)
  have hC := hR.1
  have hn7 := hR.2.2.1
  have htl := ztk_le (tx := tx) ha
  have htk := ztk_k (tx := tx) (n := n) (a := a)
  generalize htd : ztk tx n a = t at hQ htl htk
  refine zJ_aload_n dX2_readNumber_0 rfl ?_
  refine zJ_eV0 dX2_readNumber_1 sX2_47 mfX2_takeToken (c_Rd_takeToken Δ w tx n a hR ha hat) (hC.1 _ (by decide)) rfl (Nat.le_of_ble_eq_true rfl) (by decide) (by decide) (fun r c hP => ?_)
  rw [htd] at hP
  obtain ⟨rfl, h1, h2⟩ := hP
  have hC1 := hC.fk h1.1 h1.2.1
  refine zJ_aload_n dX2_readNumber_4 rfl ?_
  refine zJ_geti dX2_readNumber_5 fX2_50 (by first | rfl | assumption | exact hC1.1 _ (by decide)) rfl ?_
  refine zJ_iconst (v := 2) dX2_readNumber_8 (by decide) ?_
  rw [h2.2.1]
  refine zJ_icmp_eq (tgt := 18) dX2_readNumber_9 (by decide) (fun h9 => ?_) (fun h9 => ?_)
  · have hk : t.1 = 2 := (nI_eq (b := 2) (by omega) (by decide)).mp h9
    obtain ⟨f6, f7⟩ := h2.2.2.2 hk
    have hv9 := htk.2 hk
    refine zJ_aload_n dX2_readNumber_18 rfl ?_
    refine zJ_geti dX2_readNumber_19 fX2_70 (by first | rfl | assumption | exact hC1.1 _ (by decide)) rfl ?_
    refine zJ_iconst (v := 4) dX2_readNumber_22 (by decide) ?_
    rw [f7]
    refine zJ_icmp_gt (tgt := 42) dX2_readNumber_23 (by decide) (fun h23 => ?_) (fun h23 => ?_)
    · have hbad : 4 < t.2.2.1 - t.2.1 ∨ t.2.2.2 < lo ∨ hi < t.2.2.2 := Or.inl ((nI_ltI (a := 4) (by decide) (by omega)).mp h23)
      refine zJ_aload_n dX2_readNumber_42 rfl ?_
      refine zJ_iconst (v := 2) dX2_readNumber_43 (by decide) ?_
      refine zJ_cV1 dX2_readNumber_44 sX2_119 mfX2_refuse (c_Rd_refuse Δ c hC1 2) (by first | rfl | assumption | exact hC1.1 _ (by decide)) rfl (Nat.le_of_ble_eq_true rfl) (by decide) (by decide) ?_
      exact zJ_zret dX2_readNumber_47 rfl rfl (by decide) (by decide) (hQ _ _ (Or.inr ⟨(2, t.2.1), by simp only [zrN]; rw [if_neg (fun h => h hk), if_pos hbad], rfl, zEr.pre h1.d (zEr.of h2.2.2.1)⟩))
    · refine zJ_aload_n dX2_readNumber_26 rfl ?_
      refine zJ_geti dX2_readNumber_27 fX2_67 (by first | rfl | assumption | exact hC1.1 _ (by decide)) rfl ?_
      refine zJ_iload_n dX2_readNumber_30 rfl ?_
      rw [f6]
      refine zJ_icmp_lt (tgt := 42) dX2_readNumber_31 (by decide) (fun h31 => ?_) (fun h31 => ?_)
      · have hbad : 4 < t.2.2.1 - t.2.1 ∨ t.2.2.2 < lo ∨ hi < t.2.2.2 := Or.inr (Or.inl ((nI_ltI (by omega) (by omega)).mp h31))
        refine zJ_aload_n dX2_readNumber_42 rfl ?_
        refine zJ_iconst (v := 2) dX2_readNumber_43 (by decide) ?_
        refine zJ_cV1 dX2_readNumber_44 sX2_119 mfX2_refuse (c_Rd_refuse Δ c hC1 2) (by first | rfl | assumption | exact hC1.1 _ (by decide)) rfl (Nat.le_of_ble_eq_true rfl) (by decide) (by decide) ?_
        exact zJ_zret dX2_readNumber_47 rfl rfl (by decide) (by decide) (hQ _ _ (Or.inr ⟨(2, t.2.1), by simp only [zrN]; rw [if_neg (fun h => h hk), if_pos hbad], rfl, zEr.pre h1.d (zEr.of h2.2.2.1)⟩))
      · refine zJ_aload_n dX2_readNumber_34 rfl ?_
        refine zJ_geti dX2_readNumber_35 fX2_67 (by first | rfl | assumption | exact hC1.1 _ (by decide)) rfl ?_
        refine zJ_iload_n dX2_readNumber_38 rfl ?_
        rw [f6]
        refine zJ_icmp_le (tgt := 48) dX2_readNumber_39 (by decide) (fun h39 => ?_) (fun h39 => ?_)
        · have b1 : ¬ 4 < t.2.2.1 - t.2.1 := fun h => h23 ((nI_ltI (a := 4) (by decide) (by omega)).mpr h)
          have b2 : ¬ t.2.2.2 < lo := fun h => h31 ((nI_ltI (by omega) (by omega)).mpr h)
          have b3 : ¬ hi < t.2.2.2 := Nat.not_lt.mpr ((nI_leI (by omega) (by omega)).mp h39)
          refine zJ_iconst (v := 1) dX2_readNumber_48 (by decide) ?_
          exact zJ_zret dX2_readNumber_49 rfl rfl (by decide) (by decide) (hQ _ _ (Or.inl ⟨t.2.2.2, by simp only [zrN]; rw [if_neg (fun h => h hk), if_neg (fun h => h.elim b1 (fun h => h.elim b2 b3))], rfl, h1, h2.p, f6⟩))
        · have hbad : 4 < t.2.2.1 - t.2.1 ∨ t.2.2.2 < lo ∨ hi < t.2.2.2 := Or.inr (Or.inr (Nat.lt_of_not_le fun h => h39 ((nI_leI (by omega) (by omega)).mpr h)))
          refine zJ_aload_n dX2_readNumber_42 rfl ?_
          refine zJ_iconst (v := 2) dX2_readNumber_43 (by decide) ?_
          refine zJ_cV1 dX2_readNumber_44 sX2_119 mfX2_refuse (c_Rd_refuse Δ c hC1 2) (by first | rfl | assumption | exact hC1.1 _ (by decide)) rfl (Nat.le_of_ble_eq_true rfl) (by decide) (by decide) ?_
          exact zJ_zret dX2_readNumber_47 rfl rfl (by decide) (by decide) (hQ _ _ (Or.inr ⟨(2, t.2.1), by simp only [zrN]; rw [if_neg (fun h => h hk), if_pos hbad], rfl, zEr.pre h1.d (zEr.of h2.2.2.1)⟩))
  · have hk : t.1 ≠ 2 := fun h => h9 (by rw [h]; rfl)
    refine zJ_aload_n dX2_readNumber_12 rfl ?_
    refine zJ_iconst (v := 1) dX2_readNumber_13 (by decide) ?_
    refine zJ_cV1 dX2_readNumber_14 sX2_119 mfX2_refuse (c_Rd_refuse Δ c hC1 1) (by first | rfl | assumption | exact hC1.1 _ (by decide)) rfl (Nat.le_of_ble_eq_true rfl) (by decide) (by decide) ?_
    exact zJ_zret dX2_readNumber_17 rfl rfl (by decide) (by decide) (hQ _ _ (Or.inr ⟨(1, t.2.1), by simp only [zrN]; rw [if_pos hk], rfl, zEr.pre h1.d (zEr.of h2.2.2.1)⟩))
set_option maxRecDepth 100000 in
theorem c_Rd_readKnown (Δ : zD) (w : zW) (tx : Nat → Nat) (n a pp : Nat) (hR : zRe w tx n) (ha : a ≤ n) (hat : w.2.1 3 3 = nI a) (hp : w.2.1 4 0 = nI pp) (hp8 : pp ≤ 8) : zMp Δ 3 yX2_readKnown mX2_readKnown [.ref 3] w (fun r c => (∃ v, zrK pp (ztk tx n a) = .inr v ∧ v < pp ∧ r = some (.int 1) ∧ zFk w c ∧ zRp c (ztk tx n a) ∧ c.2.1 3 6 = nI v) ∨ (∃ e, zrK pp (ztk tx n a) = .inl e ∧ r = some (.int 0) ∧ zEr w c e)) := by
  refine zMp.of mfX2_readKnown (Nat.le_of_ble_eq_true rfl) (fun QR hQ => ?_)
  have hC := hR.1
  have hv : ∀ v, zrN 0 9999 (ztk tx n a) = .inr v → v ≤ 9999 := fun v h => by
    simp only [zrN] at h
    split at h
    · cases h
    · split at h
      · cases h
      · cases h; omega
  refine zJ_aload_n dX2_readKnown_0 rfl ?_
  refine zJ_iconst (v := 0) dX2_readKnown_1 (by decide) ?_
  refine zJ_sipush (v := 9999) dX2_readKnown_2 (by decide) ?_
  refine zJ_eV2 dX2_readKnown_5 sX2_122 mfX2_readNumber (c_Rd_readNumber Δ w tx n a 0 9999 hR ha hat (by decide) (by decide)) (hC.1 _ (by decide)) rfl (Nat.le_of_ble_eq_true rfl) (by decide) (by decide) (fun r c hP => ?_)
  rcases hP with ⟨v, h1, rfl, h2, h3, h4⟩ | ⟨e, h1, rfl, h2⟩
  · have hC1 := hC.fk h2.1 h2.2.1
    have hv9 := hv v h1
    refine zJ_if_ne (tgt := 13) dX2_readKnown_8 (by decide) (fun _ => ?_) (fun h9 => False.elim (by revert h9; decide))
    refine zJ_aload_n dX2_readKnown_13 rfl ?_
    refine zJ_geti dX2_readKnown_14 fX2_67 (by first | rfl | assumption | exact hC1.1 _ (by decide)) rfl ?_
    refine zJ_aload_n dX2_readKnown_17 rfl ?_
    refine zJ_getr dX2_readKnown_18 fX2_12 (by first | rfl | assumption | exact hC1.1 _ (by decide)) rfl (by first | rfl | assumption | exact hC1.2 _ _ rfl) ?_
    refine zJ_geti dX2_readKnown_21 fX2_126 (by first | rfl | assumption | exact hC1.1 _ (by decide)) rfl ?_
    rw [h4, (h2.2.2 4 0 (by omega)).trans hp]
    refine zJ_icmp_lt (tgt := 35) dX2_readKnown_24 (by decide) (fun h24g => ?_) (fun h24g => ?_)
    · have hlt : v < pp := (nI_ltI (by omega) (by omega)).mp h24g
      refine zJ_iconst (v := 1) dX2_readKnown_35 (by decide) ?_
      refine zJ_goto (tgt := 40) dX2_readKnown_36 (by decide) ?_
      exact zJ_zret dX2_readKnown_40 rfl rfl (by decide) (by decide) (hQ _ _ (Or.inl ⟨v, by simp only [zrK, h1, hlt, if_true], hlt, rfl, h2, h3, h4⟩))
    · have hnlt : ¬ v < pp := fun h => h24g ((nI_ltI (by omega) (by omega)).mpr h)
      refine zJ_aload_n dX2_readKnown_27 rfl ?_
      refine zJ_iconst (v := 3) dX2_readKnown_28 (by decide) ?_
      refine zJ_cV1 dX2_readKnown_29 sX2_119 mfX2_refuse (c_Rd_refuse Δ c hC1 3) (by first | rfl | assumption | exact hC1.1 _ (by decide)) rfl (Nat.le_of_ble_eq_true rfl) (by decide) (by decide) ?_
      refine zJ_if_eq (tgt := 39) dX2_readKnown_32 (by decide) (fun _ => ?_) (fun h9 => False.elim (by revert h9; decide))
      refine zJ_iconst (v := 0) dX2_readKnown_39 (by decide) ?_
      exact zJ_zret dX2_readKnown_40 rfl rfl (by decide) (by decide) (hQ _ _ (Or.inr ⟨(3, (ztk tx n a).2.1), by simp only [zrK, h1, hnlt, if_false], rfl, zEr.pre h2.d (zEr.of h3.2.2)⟩))
  · have hC1 := hC.fk h2.1.1 h2.1.2.1
    refine zJ_if_ne (tgt := 13) dX2_readKnown_8 (by decide) (fun h9 => False.elim (by revert h9; decide)) (fun _ => ?_)
    refine zJ_iconst (v := 0) dX2_readKnown_11 (by decide) ?_
    exact zJ_zret dX2_readKnown_12 rfl rfl (by decide) (by decide) (hQ _ _ (Or.inr ⟨e, by simp only [zrK, h1], rfl, h2⟩))
set_option maxRecDepth 100000 in
theorem c_Rd_readPerhaps (Δ : zD) (w : zW) (tx : Nat → Nat) (n i lo hi wo : Nat) (t : zTkn) (hR : zRe w tx n) (hi17 : i < 17) (ht : zRp w t) (hk4 : t.1 ≤ 4) (hle : t.2.1 ≤ t.2.2.1 ∧ t.2.2.1 ≤ n) (hlo : lo < 2 ^ 31) (hhi : hi < 2 ^ 31) : zMp Δ 5 yX2_readPerhaps mX2_readPerhaps [.ref 3, .ref (1000 + i), .int (nI lo), .int (nI hi), .int (nI wo)] w (fun r c => (∃ v t2, zrP tx n i lo hi wo t = .inr (v, t2) ∧ r = some (.int 1) ∧ zFk w c ∧ zRp c t2 ∧ c.2.1 3 6 = nI v) ∨ (∃ e, zrP tx n i lo hi wo t = .inl e ∧ r = some (.int 0) ∧ zEr w c e)) := by
  refine zMp.of mfX2_readPerhaps (Nat.le_of_ble_eq_true rfl) (fun QR hQ => ?_)
  have hC := hR.1
  refine zJ_aload_n dX2_readPerhaps_0 rfl ?_
  refine zJ_aload_n dX2_readPerhaps_1 rfl ?_
  refine zJ_cV1 dX2_readPerhaps_2 sX2_84 mfX2_isWord (c_Rd_isWord Δ w tx n i t hR hi17 ht hk4 hle) (by first | rfl | assumption | exact hC.1 _ (by decide)) rfl (Nat.le_of_ble_eq_true rfl) (by decide) (by decide) ?_
  refine zJ_if_ne (tgt := 16) dX2_readPerhaps_5 (by decide) (fun h5 => ?_) (fun h5 => ?_)
  · have hw : zwd tx t i = true := by
      cases hz : zwd tx t i with
      | true => rfl
      | false => rw [hz] at h5; exact absurd rfl h5
    refine zJ_aload_n dX2_readPerhaps_16 rfl ?_
    refine zJ_iload_n dX2_readPerhaps_17 rfl ?_
    refine zJ_iload_n dX2_readPerhaps_18 rfl ?_
    refine zJ_eV2 dX2_readPerhaps_19 sX2_122 mfX2_readNumber (c_Rd_readNumber Δ w tx n _ lo hi hR hle.2 ht.1 hlo hhi) (hC.1 _ (by decide)) rfl (Nat.le_of_ble_eq_true rfl) (by decide) (by decide) (fun r c hP => ?_)
    rcases hP with ⟨v, h1, rfl, h2, h3, h4⟩ | ⟨e, h1, rfl, h2⟩
    · have hC1 := hC.fk h2.1 h2.2.1
      refine zJ_if_ne (tgt := 27) dX2_readPerhaps_22 (by decide) (fun _ => ?_) (fun h9 => False.elim (by revert h9; decide))
      refine zJ_aload_n dX2_readPerhaps_27 rfl ?_
      refine zJ_geti dX2_readPerhaps_28 fX2_67 (by first | rfl | assumption | exact hC1.1 _ (by decide)) rfl ?_
      refine zJ_istore (ls2 := fun x31g => [(5, .int x31g), (0, .ref 3), (1, .ref (1000 + i)), (2, .int (nI lo)), (3, .int (nI hi)), (4, .int (nI wo))]) dX2_readPerhaps_31 (by decide) (fun _ => rfl) (fun x31g ex31g => ?_)
      obtain rfl : x31g = (nI v) := by rw [ex31g, h4]
      refine zJ_aload_n dX2_readPerhaps_33 rfl ?_
      refine zJ_eV0 dX2_readPerhaps_34 sX2_47 mfX2_takeToken (c_Rd_takeToken Δ c tx n _ (hR.fk h2) (ztk_le hle.2).2.2 h3.1) (hC1.1 _ (by decide)) rfl (Nat.le_of_ble_eq_true rfl) (by decide) (by decide) (fun r d hP => ?_)
      obtain ⟨rfl, d1, d2⟩ := hP
      have hC1 := hC1.fk d1.1 d1.2.1
      refine zJ_aload_n dX2_readPerhaps_37 rfl ?_
      refine zJ_iload dX2_readPerhaps_38 rfl ?_
      refine zJ_puti dX2_readPerhaps_40 fX2_67 (fun q h => by cases h; rfl) (by first | rfl | assumption | exact hC1.1 _ (by decide)) rfl rfl rfl ?_
      refine zJ_iconst (v := 1) dX2_readPerhaps_43 (by decide) ?_
      exact zJ_zret dX2_readPerhaps_44 rfl rfl (by decide) (by decide) (hQ _ _ (Or.inl ⟨v, ztk tx n (ztk tx n t.2.2.1).2.2.1, by simp only [zrP, hw, if_true, h1], rfl, h2.tr (d1.tr (zFk.i (by decide))), ⟨by simp [zsi, d2.1], by simp [zsi, d2.2.1], by simp [zsi, d2.2.2.1]⟩, by simp [zsi]⟩))
    · have hC1 := hC.fk h2.1.1 h2.1.2.1
      refine zJ_if_ne (tgt := 27) dX2_readPerhaps_22 (by decide) (fun h9 => False.elim (by revert h9; decide)) (fun _ => ?_)
      refine zJ_iconst (v := 0) dX2_readPerhaps_25 (by decide) ?_
      exact zJ_zret dX2_readPerhaps_26 rfl rfl (by decide) (by decide) (hQ _ _ (Or.inr ⟨e, by simp only [zrP, hw, if_true, h1], rfl, h2⟩))
  · have hw : zwd tx t i = false := by
      cases hz : zwd tx t i with
      | false => rfl
      | true => rw [hz] at h5; exact absurd h5 (by decide)
    refine zJ_aload_n dX2_readPerhaps_8 rfl ?_
    refine zJ_iload dX2_readPerhaps_9 rfl ?_
    refine zJ_puti dX2_readPerhaps_11 fX2_67 (fun q h => by cases h; rfl) (by first | rfl | assumption | exact hC.1 _ (by decide)) rfl rfl rfl ?_
    refine zJ_iconst (v := 1) dX2_readPerhaps_14 (by decide) ?_
    exact zJ_zret dX2_readPerhaps_15 rfl rfl (by decide) (by decide) (hQ _ _ (Or.inl ⟨wo, t, by simp [zrP, hw], rfl, zFk.i (by decide), ⟨by simp [zsi, ht.1], by simp [zsi, ht.2.1], by simp [zsi, ht.2.2]⟩, by simp [zsi]⟩))
def zso (tx : Nat → Nat) (t : zTkn) : Option Nat := if zwd tx t 7 then some 0 else if zwd tx t 8 then some 1 else if zwd tx t 9 then some 2 else if zwd tx t 10 then some 3 else none
set_option maxRecDepth 100000 in
theorem c_Rd_sortOfWord (Δ : zD) (w : zW) (tx : Nat → Nat) (n : Nat) (t : zTkn) (hR : zRe w tx n) (ht : zRp w t) (hk4 : t.1 ≤ 4) (hle : t.2.1 ≤ t.2.2.1 ∧ t.2.2.1 ≤ n) : zMd Δ 5 0 0 true yX2_sortOfWord mX2_sortOfWord [.ref 3] w (some (.int (zoi (zso tx t)))) w := by
  refine zMd.of mfX2_sortOfWord (Nat.le_of_ble_eq_true rfl) (fun QR hQ => ?_)
  have hC := hR.1
  refine zJ_aload_n dX2_sortOfWord_0 rfl ?_
  refine zJ_ldcS (j := 7) (tx := "opens") dX2_sortOfWord_1 (by decide +kernel) ?_
  refine zJ_cV1 dX2_sortOfWord_3 sX2_84 mfX2_isWord (c_Rd_isWord Δ w tx n 7 t hR (by decide) ht hk4 hle) (by first | rfl | assumption | exact hC.1 _ (by decide)) rfl (Nat.le_of_ble_eq_true rfl) (by decide) (by decide) ?_
  refine zJ_if_eq (tgt := 11) dX2_sortOfWord_6 (by decide) (fun h6 => ?_) (fun h6 => ?_)
  · have hw7 : zwd tx t 7 = false := by
      cases hz : zwd tx t 7 with
      | false => rfl
      | true => rw [hz] at h6; exact absurd h6 (by decide)
    refine zJ_aload_n dX2_sortOfWord_11 rfl ?_
    refine zJ_ldcS (j := 8) (tx := "sends") dX2_sortOfWord_12 (by decide +kernel) ?_
    refine zJ_cV1 dX2_sortOfWord_14 sX2_84 mfX2_isWord (c_Rd_isWord Δ w tx n 8 t hR (by decide) ht hk4 hle) (by first | rfl | assumption | exact hC.1 _ (by decide)) rfl (Nat.le_of_ble_eq_true rfl) (by decide) (by decide) ?_
    refine zJ_if_eq (tgt := 22) dX2_sortOfWord_17 (by decide) (fun h17 => ?_) (fun h17 => ?_)
    · have hw8 : zwd tx t 8 = false := by
        cases hz : zwd tx t 8 with
        | false => rfl
        | true => rw [hz] at h17; exact absurd h17 (by decide)
      refine zJ_aload_n dX2_sortOfWord_22 rfl ?_
      refine zJ_ldcS (j := 9) (tx := "luck") dX2_sortOfWord_23 (by decide +kernel) ?_
      refine zJ_cV1 dX2_sortOfWord_25 sX2_84 mfX2_isWord (c_Rd_isWord Δ w tx n 9 t hR (by decide) ht hk4 hle) (by first | rfl | assumption | exact hC.1 _ (by decide)) rfl (Nat.le_of_ble_eq_true rfl) (by decide) (by decide) ?_
      refine zJ_if_eq (tgt := 33) dX2_sortOfWord_28 (by decide) (fun h28 => ?_) (fun h28 => ?_)
      · have hw9 : zwd tx t 9 = false := by
          cases hz : zwd tx t 9 with
          | false => rfl
          | true => rw [hz] at h28; exact absurd h28 (by decide)
        refine zJ_aload_n dX2_sortOfWord_33 rfl ?_
        refine zJ_ldcS (j := 10) (tx := "best") dX2_sortOfWord_34 (by decide +kernel) ?_
        refine zJ_cV1 dX2_sortOfWord_36 sX2_84 mfX2_isWord (c_Rd_isWord Δ w tx n 10 t hR (by decide) ht hk4 hle) (by first | rfl | assumption | exact hC.1 _ (by decide)) rfl (Nat.le_of_ble_eq_true rfl) (by decide) (by decide) ?_
        refine zJ_if_eq (tgt := 46) dX2_sortOfWord_39 (by decide) (fun h39 => ?_) (fun h39 => ?_)
        · have hw10 : zwd tx t 10 = false := by
            cases hz : zwd tx t 10 with
            | false => rfl
            | true => rw [hz] at h39; exact absurd h39 (by decide)
          rw [show zso tx t = none by simp [zso, hw7, hw8, hw9, hw10]] at hQ
          refine zJ_iconst (v := (-1)) dX2_sortOfWord_46 (by decide) ?_
          exact zJ_iret dX2_sortOfWord_47 rfl (by decide) (by decide) hQ
        · have hw10 : zwd tx t 10 = true := by
            cases hz : zwd tx t 10 with
            | true => rfl
            | false => rw [hz] at h39; exact absurd rfl h39
          rw [show zso tx t = some 3 by simp [zso, hw7, hw8, hw9, hw10]] at hQ
          refine zJ_iconst (v := 3) dX2_sortOfWord_42 (by decide) ?_
          refine zJ_goto (tgt := 47) dX2_sortOfWord_43 (by decide) ?_
          exact zJ_iret dX2_sortOfWord_47 rfl (by decide) (by decide) hQ
      · have hw9 : zwd tx t 9 = true := by
          cases hz : zwd tx t 9 with
          | true => rfl
          | false => rw [hz] at h28; exact absurd rfl h28
        rw [show zso tx t = some 2 by simp [zso, hw7, hw8, hw9]] at hQ
        refine zJ_iconst (v := 2) dX2_sortOfWord_31 (by decide) ?_
        exact zJ_iret dX2_sortOfWord_32 rfl (by decide) (by decide) hQ
    · have hw8 : zwd tx t 8 = true := by
        cases hz : zwd tx t 8 with
        | true => rfl
        | false => rw [hz] at h17; exact absurd rfl h17
      rw [show zso tx t = some 1 by simp [zso, hw7, hw8]] at hQ
      refine zJ_iconst (v := 1) dX2_sortOfWord_20 (by decide) ?_
      exact zJ_iret dX2_sortOfWord_21 rfl (by decide) (by decide) hQ
  · have hw7 : zwd tx t 7 = true := by
      cases hz : zwd tx t 7 with
      | true => rfl
      | false => rw [hz] at h6; exact absurd rfl h6
    rw [show zso tx t = some 0 by simp [zso, hw7]] at hQ
    refine zJ_iconst (v := 0) dX2_sortOfWord_9 (by decide) ?_
    exact zJ_iret dX2_sortOfWord_10 rfl (by decide) (by decide) hQ
