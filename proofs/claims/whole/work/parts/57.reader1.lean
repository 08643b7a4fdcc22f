/-! LetterTown$Reader: tokens -/
def zrq (p : Nat → Bool) : Nat → Nat → Nat
  | 0, a => a
  | m + 1, a => if p a then zrq p m (a + 1) else a
def zrun (p : Nat → Bool) (n a : Nat) : Nat := zrq p (n - a) a
theorem zrun_go {p : Nat → Bool} {n a : Nat} (h : a < n) (hp : p a = true) : zrun p n a = zrun p n (a + 1) := by
  simp only [zrun]
  rw [show n - a = (n - (a + 1)) + 1 by omega]
  simp only [zrq, hp, if_true]
theorem zrun_no {p : Nat → Bool} {n a : Nat} (hp : p a = false) : zrun p n a = a := by
  simp only [zrun]
  cases n - a with
  | zero => rfl
  | succ m => simp [zrq, hp]
theorem zrun_end {p : Nat → Bool} {n a : Nat} (h : n ≤ a) : zrun p n a = a := by
  simp only [zrun]
  rw [show n - a = 0 by omega]; rfl
theorem zrq_le {p : Nat → Bool} : ∀ m a, a ≤ zrq p m a ∧ zrq p m a ≤ a + m
  | 0, a => ⟨Nat.le_refl _, Nat.le_refl _⟩
  | m + 1, a => by
    simp only [zrq]
    split
    · have := zrq_le (p := p) m (a + 1); omega
    · omega
theorem zrun_le {p : Nat → Bool} {n a : Nat} (h : a ≤ n) : a ≤ zrun p n a ∧ zrun p n a ≤ n := by
  have := zrq_le (p := p) (n - a) a
  simp only [zrun]; omega
def zblk (c : Nat) : Bool := decide (c = 32) || decide (c = 10)
def zlet (c : Nat) : Bool := decide (97 ≤ c) && decide (c ≤ 122)
def zdig (c : Nat) : Bool := decide (48 ≤ c) && decide (c ≤ 57)
/-- the number of the first d signs, four at most -/
def zvd (tx : Nat → Nat) (f : Nat) : Nat → Nat
  | 0 => 0
  | d + 1 => if d < 4 then zvd tx f d * 10 + (tx (f + d) - 48) else zvd tx f d
/-- a TOKEN: kind, where it begins, where it ends, its number -/
abbrev zTkn : Type := Nat × Nat × Nat × Nat
def ztk0 (tx : Nat → Nat) (n f : Nat) : zTkn :=
  if n ≤ f then (0, f, f, 0) else if zlet (tx f) then (1, f, zrun (fun i => zlet (tx i)) n f, 0)
  else if zdig (tx f) then (2, f, zrun (fun i => zdig (tx i)) n f, zvd tx f (zrun (fun i => zdig (tx i)) n f - f))
  else ((if tx f = 59 then 3 else 4), f, f + 1, 0)
def ztk (tx : Nat → Nat) (n a : Nat) : zTkn := ztk0 tx n (zrun (fun i => zblk (tx i)) n a)
theorem ztk0_le {tx : Nat → Nat} {n f : Nat} (h : f ≤ n) : f ≤ (ztk0 tx n f).2.2.1 ∧ (ztk0 tx n f).2.2.1 ≤ n ∧ (ztk0 tx n f).2.1 = f := by
  simp only [ztk0]
  split
  · exact ⟨Nat.le_refl _, h, rfl⟩
  · split
    · have := zrun_le (p := fun i => zlet (tx i)) h
      exact ⟨this.1, this.2, rfl⟩
    · split
      · have := zrun_le (p := fun i => zdig (tx i)) h
        exact ⟨this.1, this.2, rfl⟩
      · exact ⟨by simp, by simp; omega, rfl⟩
theorem ztk_le {tx : Nat → Nat} {n a : Nat} (h : a ≤ n) : a ≤ (ztk tx n a).2.1 ∧ (ztk tx n a).2.1 ≤ (ztk tx n a).2.2.1 ∧ (ztk tx n a).2.2.1 ≤ n := by
  have h1 := zrun_le (p := fun i => zblk (tx i)) h
  have h2 := ztk0_le (tx := tx) h1.2
  simp only [ztk]
  rw [h2.2.2]
  exact ⟨h1.1, h2.1, h2.2.1⟩
theorem zvd_lt {tx : Nat → Nat} {f : Nat} : ∀ d, (∀ i, i < d → zdig (tx (f + i)) = true) → zvd tx f d < 10 ^ (min d 4)
  | 0, _ => by simp [zvd]
  | d + 1, h => by
    have ih := zvd_lt (tx := tx) (f := f) d (fun i hi => h i (by omega))
    have h1 := h d (by omega)
    simp only [zdig, Bool.and_eq_true, decide_eq_true_eq] at h1
    simp only [zvd]
    split
    · rename_i h4
      rw [Nat.min_eq_left (by omega)] at ih ⊢
      rw [Nat.pow_succ]; omega
    · rename_i h4
      rw [Nat.min_eq_right (by omega)] at ih ⊢
      exact ih
theorem zrq_all {p : Nat → Bool} : ∀ m a i, a ≤ i → i < zrq p m a → p i = true
  | 0, a, i, h1, h2 => by simp only [zrq] at h2; omega
  | m + 1, a, i, h1, h2 => by
    simp only [zrq] at h2
    split at h2
    · rename_i hp
      by_cases h : i = a
      · rw [h]; exact hp
      · exact zrq_all m (a + 1) i (by omega) h2
    · omega
theorem zrun_all {p : Nat → Bool} {n a i : Nat} (h1 : a ≤ i) (h2 : i < zrun p n a) : p i = true := zrq_all _ _ _ h1 h2
def zFk (w c : zW) : Prop := c.1 = w.1 ∧ c.2.2 = w.2.2 ∧ ∀ a j, (a ≠ 3 ∨ j < 3 ∨ 7 < j) → c.2.1 a j = w.2.1 a j
theorem zFk.rf (w : zW) : zFk w w := ⟨rfl, rfl, fun _ _ _ => rfl⟩
theorem zFk.tr {w c d : zW} (h1 : zFk w c) (h2 : zFk c d) : zFk w d := ⟨h2.1.trans h1.1, h2.2.1.trans h1.2.1, fun a j h => (h2.2.2 a j h).trans (h1.2.2 a j h)⟩
theorem zFk.i {w : zW} {j : Nat} {x : Int32} (h : 3 ≤ j ∧ j ≤ 7) : zFk w (zsi w 3 j x) := ⟨rfl, rfl, fun a b h2 => by
  have h3 : ¬ (a = 3 ∧ b = j) := by omega
  simp [zsi, h3]⟩
theorem zCs.fk {w c : zW} (h : zCs w) (h1 : c.1 = w.1) (h2 : c.2.2 = w.2.2) : zCs c := by
  unfold zCs at *; rw [h1, h2]; exact h
/-- the tape is tx, n of it are read -/
def zRe (w : zW) (tx : Nat → Nat) (n : Nat) : Prop := zCs w ∧ w.2.1 3 2 = nI n ∧ n ≤ 700 ∧ ∀ i, i < 700 → w.2.1 1 i = nI (tx i) ∧ tx i < 256
theorem zRe.fk {w c : zW} {tx : Nat → Nat} {n : Nat} (h : zRe w tx n) (hf : zFk w c) : zRe c tx n := by
  obtain ⟨h1, h2, h3, h4⟩ := h
  exact ⟨h1.fk hf.1 hf.2.1, (hf.2.2 3 2 (by omega)).trans h2, h3, fun i hi => ⟨(hf.2.2 1 i (by omega)).trans (h4 i hi).1, (h4 i hi).2⟩⟩
def zRt (w : zW) (t : zTkn) : Prop := w.2.1 3 3 = nI t.2.2.1 ∧ w.2.1 3 4 = nI t.1 ∧ w.2.1 3 5 = nI t.2.1 ∧ (t.1 = 2 → w.2.1 3 6 = nI t.2.2.2 ∧ w.2.1 3 7 = nI (t.2.2.1 - t.2.1))
set_option maxRecDepth 100000 in
theorem c_Rd_isLetter (Δ : zD) (w : zW) (x : Nat) (hx : x < 256) : zMd Δ 0 0 0 true yX2_isLetter mX2_isLetter [.int (nI x)] w (some (.int (if zlet x then 1 else 0))) w := by
  refine zMd.of mfX2_isLetter (Nat.le_of_ble_eq_true rfl) (fun QR hQ => ?_)
  refine zJ_iload_n dX2_isLetter_0 rfl ?_
  refine zJ_bipush (v := 97) dX2_isLetter_1 (by decide) ?_
  refine zJ_icmp_lt (tgt := 16) dX2_isLetter_3 (by decide) (fun h3 => ?_) (fun h3 => ?_)
  · have := (nI_ltI (b := 97) (by omega) (by decide)).mp h3
    rw [show zlet x = false by simp [zlet]; omega] at hQ
    refine zJ_iconst (v := 0) dX2_isLetter_16 (by decide) ?_
    exact zJ_zret dX2_isLetter_17 rfl rfl (by decide) (by decide) hQ
  · refine zJ_iload_n dX2_isLetter_6 rfl ?_
    refine zJ_bipush (v := 122) dX2_isLetter_7 (by decide) ?_
    refine zJ_icmp_gt (tgt := 16) dX2_isLetter_9 (by decide) (fun h9 => ?_) (fun h9 => ?_)
    · have := (nI_ltI (a := 122) (by decide) (by omega)).mp h9
      rw [show zlet x = false by simp [zlet]; omega] at hQ
      refine zJ_iconst (v := 0) dX2_isLetter_16 (by decide) ?_
      exact zJ_zret dX2_isLetter_17 rfl rfl (by decide) (by decide) hQ
    · have a1 : 97 ≤ x := (nI_leI (a := 97) (by decide) (by omega)).mp (Int32.not_lt.mp h3)
      have a2 : x ≤ 122 := (nI_leI (b := 122) (by omega) (by decide)).mp (Int32.not_lt.mp h9)
      rw [show zlet x = true by simp [zlet, a1, a2]] at hQ
      refine zJ_iconst (v := 1) dX2_isLetter_12 (by decide) ?_
      refine zJ_goto (tgt := 17) dX2_isLetter_13 (by decide) ?_
      exact zJ_zret dX2_isLetter_17 rfl rfl (by decide) (by decide) hQ
set_option maxRecDepth 100000 in
theorem c_Rd_isDigit (Δ : zD) (w : zW) (x : Nat) (hx : x < 256) : zMd Δ 0 0 0 true yX2_isDigit mX2_isDigit [.int (nI x)] w (some (.int (if zdig x then 1 else 0))) w := by
  refine zMd.of mfX2_isDigit (Nat.le_of_ble_eq_true rfl) (fun QR hQ => ?_)
  refine zJ_iload_n dX2_isDigit_0 rfl ?_
  refine zJ_bipush (v := 48) dX2_isDigit_1 (by decide) ?_
  refine zJ_icmp_lt (tgt := 16) dX2_isDigit_3 (by decide) (fun h3 => ?_) (fun h3 => ?_)
  · have := (nI_ltI (b := 48) (by omega) (by decide)).mp h3
    rw [show zdig x = false by simp [zdig]; omega] at hQ
    refine zJ_iconst (v := 0) dX2_isDigit_16 (by decide) ?_
    exact zJ_zret dX2_isDigit_17 rfl rfl (by decide) (by decide) hQ
  · refine zJ_iload_n dX2_isDigit_6 rfl ?_
    refine zJ_bipush (v := 57) dX2_isDigit_7 (by decide) ?_
    refine zJ_icmp_gt (tgt := 16) dX2_isDigit_9 (by decide) (fun h9 => ?_) (fun h9 => ?_)
    · have := (nI_ltI (a := 57) (by decide) (by omega)).mp h9
      rw [show zdig x = false by simp [zdig]; omega] at hQ
      refine zJ_iconst (v := 0) dX2_isDigit_16 (by decide) ?_
      exact zJ_zret dX2_isDigit_17 rfl rfl (by decide) (by decide) hQ
    · have a1 : 48 ≤ x := (nI_leI (a := 48) (by decide) (by omega)).mp (Int32.not_lt.mp h3)
      have a2 : x ≤ 57 := (nI_leI (b := 57) (by omega) (by decide)).mp (Int32.not_lt.mp h9)
      rw [show zdig x = true by simp [zdig, a1, a2]] at hQ
      refine zJ_iconst (v := 1) dX2_isDigit_12 (by decide) ?_
      refine zJ_goto (tgt := 17) dX2_isDigit_13 (by decide) ?_
      exact zJ_zret dX2_isDigit_17 rfl rfl (by decide) (by decide) hQ
set_option maxRecDepth 100000 in
theorem c_Rd_takeToken (Δ : zD) (w : zW) (tx : Nat → Nat) (n a : Nat) (hR : zRe w tx n) (ha : a ≤ n) (hat : w.2.1 3 3 = nI a) : zMp Δ 1 yX2_takeToken mX2_takeToken [.ref 3] w (fun r c => r = none ∧ zFk w c ∧ zRt c (ztk tx n a)) := by
  refine zMp.of mfX2_takeToken (Nat.le_of_ble_eq_true rfl) (fun QR hQ => ?_)
  have hn7 := hR.2.2.1
  have hrn := zrun_le (p := fun i => zblk (tx i)) ha
  generalize hfd : zrun (fun i => zblk (tx i)) n a = f at hrn
  have htk : ztk tx n a = ztk0 tx n f := by simp only [ztk, hfd]
  rw [htk] at hQ
  have LD : f < n → zlet (tx f) = false → zdig (tx f) = true → ∀ j, j ≤ n → ∀ w1, zFk w w1 → f ≤ j → w1.2.1 3 3 = nI j → w1.2.1 3 4 = 2 → w1.2.1 3 5 = nI f → w1.2.1 3 6 = nI (zvd tx f (j - f)) → w1.2.1 3 7 = nI (j - f) → (∀ i, i < j - f → zdig (tx (f + i)) = true) → zrun (fun i => zdig (tx i)) n j = zrun (fun i => zdig (tx i)) n f → zJ Δ mX2_takeToken (zRm 1 0 0) true w.1 QR (fun _ _ => False) 0 0 168 [(0, .ref 3)] [] w1 := by
    intro hfn hl hd
    refine zup (fun j hj ih w1 hf hfj f3 f4 f5 f6 f7 hall he => ?_)
    have hR1 := hR.fk hf
    obtain ⟨hC1, hln, hn7, htx⟩ := hR1
    have hvl := zvd_lt (tx := tx) (f := f) (j - f) hall
    have hp4 : 10 ^ (min (j - f) 4) ≤ 10 ^ 4 := Nat.pow_le_pow_right (by decide) (by omega)
    refine zJ_aload_n dX2_takeToken_168 rfl ?_
    refine zJ_geti dX2_takeToken_169 fX2_35 (by first | rfl | assumption | exact hC1.1 _ (by decide)) rfl ?_
    refine zJ_aload_n dX2_takeToken_172 rfl ?_
    refine zJ_geti dX2_takeToken_173 fX2_31 (by first | rfl | assumption | exact hC1.1 _ (by decide)) rfl ?_
    rw [f3, hln]
    refine zJ_icmp_ge (tgt := 282) dX2_takeToken_176 (by decide) (fun h176 => ?_) (fun h176 => ?_)
    · have hj9 : n ≤ j := (nI_leI (by omega) (by omega)).mp h176
      have hz : zrun (fun i => zdig (tx i)) n f = j := he.symm.trans (zrun_end hj9)
      have ht : ztk0 tx n f = (2, f, j, zvd tx f (j - f)) := by
        simp only [ztk0]
        rw [if_neg (by omega), if_neg (by rw [hl]; decide), if_pos hd, hz]
      rw [ht] at hQ
      exact zJ_vret dX2_takeToken_282 rfl (by decide) (by decide) (hQ _ _ ⟨rfl, hf, f3, f4, f5, fun _ => ⟨f6, f7⟩⟩)
    · have hj9 : j < n := Nat.lt_of_not_le fun hq9 => h176 (by exact (nI_leI (a := n) (b := j) (by omega) (by omega)).mpr hq9)
      refine zJ_aload_n dX2_takeToken_179 rfl ?_
      refine zJ_getr dX2_takeToken_180 fX2_18 (by first | rfl | assumption | exact hC1.1 _ (by decide)) rfl (by first | rfl | assumption | exact hC1.2 _ _ rfl) ?_
      refine zJ_aload_n dX2_takeToken_183 rfl ?_
      refine zJ_geti dX2_takeToken_184 fX2_35 (by first | rfl | assumption | exact hC1.1 _ (by decide)) rfl ?_
      rw [f3]
      refine zJ_iald dX2_takeToken_187 (by first | rfl | assumption | exact hC1.1 _ (by decide)) (vp_in_nI (by omega) (by omega)) ?_
      rw [nI_clamp (show j < 2 ^ 31 by omega), (htx j (by omega)).1]
      refine zJ_cS1 dX2_takeToken_188 sX2_64 mfX2_isDigit (c_Rd_isDigit Δ w1 (tx j) (htx j (by omega)).2) (Nat.le_of_ble_eq_true rfl) (by decide) (by decide) ?_
      refine zJ_if_eq (tgt := 282) dX2_takeToken_191 (by decide) (fun h191 => ?_) (fun h191 => ?_)
      · have hno : zdig (tx j) = false := by
          cases hz : zdig (tx j) with
          | false => rfl
          | true => rw [hz] at h191; exact absurd h191 (by decide)
        have hz : zrun (fun i => zdig (tx i)) n f = j := he.symm.trans (zrun_no hno)
        have ht : ztk0 tx n f = (2, f, j, zvd tx f (j - f)) := by
          simp only [ztk0]
          rw [if_neg (by omega), if_neg (by rw [hl]; decide), if_pos hd, hz]
        rw [ht] at hQ
        exact zJ_vret dX2_takeToken_282 rfl (by decide) (by decide) (hQ _ _ ⟨rfl, hf, f3, f4, f5, fun _ => ⟨f6, f7⟩⟩)
      · refine zJ_aload_n dX2_takeToken_194 rfl ?_
        refine zJ_geti dX2_takeToken_195 fX2_70 (by first | rfl | assumption | exact hC1.1 _ (by decide)) rfl ?_
        refine zJ_iconst (v := 4) dX2_takeToken_198 (by decide) ?_
        rw [f7]
        refine zJ_icmp_ge (tgt := 226) dX2_takeToken_199 (by decide) (fun h199 => ?_) (fun h199 => ?_)
        · refine zJ_aload_n dX2_takeToken_226 rfl ?_
          refine zJ_dup dX2_takeToken_227 rfl ?_
          refine zJ_geti dX2_takeToken_228 fX2_70 (by first | rfl | assumption | exact hC1.1 _ (by decide)) rfl ?_
          rw [show w1.2.1 3 7 = nI (j - f) by simp [zsi, f7]]
          refine zJ_iconst (v := 1) dX2_takeToken_231 (by decide) ?_
          refine zJ_iadd dX2_takeToken_232 ?_
          rw [show nI (j - f) + 1 = nI (j - f + 1) from nI_1 _]
          refine zJ_puti dX2_takeToken_233 fX2_70 (fun q h => by cases h; rfl) (by first | rfl | assumption | exact hC1.1 _ (by decide)) rfl rfl rfl ?_
          refine zJ_aload_n dX2_takeToken_236 rfl ?_
          refine zJ_dup dX2_takeToken_237 rfl ?_
          refine zJ_geti dX2_takeToken_238 fX2_35 (by first | rfl | assumption | exact hC1.1 _ (by decide)) rfl ?_
          rw [show (zsi w1 3 7 (nI (j - f + 1))).2.1 3 3 = nI j by simp [zsi, f3]]
          refine zJ_iconst (v := 1) dX2_takeToken_241 (by decide) ?_
          refine zJ_iadd dX2_takeToken_242 ?_
          rw [show nI j + 1 = nI (j + 1) from nI_1 _]
          refine zJ_puti dX2_takeToken_243 fX2_35 (fun q h => by cases h; rfl) (by first | rfl | assumption | exact hC1.1 _ (by decide)) rfl rfl rfl ?_
          refine zJ_goto (tgt := 168) dX2_takeToken_246 (by decide) ?_
          have hdj : zdig (tx j) = true := by
            cases hz : zdig (tx j) with
            | true => rfl
            | false => rw [hz] at h191; exact absurd rfl h191
          have h4 : ¬ j - f < 4 := fun h => absurd ((nI_leI (a := 4) (by decide) (by omega)).mp h199) (by omega)
          refine ih (j + 1) (by omega) (by omega) _ ((hf).tr ((zFk.i (by decide)).tr (zFk.i (by decide)))) (by omega) (by simp [zsi]) (by simp [zsi, f4]) (by simp [zsi, f5]) ?_ ?_ (fun i hi => ?_) ?_
          · simp only [zsi]
            simp [f6, show j + 1 - f = j - f + 1 by omega, zvd, h4]
          · simp [zsi, show j + 1 - f = j - f + 1 by omega]
          · by_cases hi2 : i = j - f
            · rw [hi2, show f + (j - f) = j by omega]; exact hdj
            · exact hall i (by omega)
          · rw [← he]; exact (zrun_go hj9 hdj).symm
        · have hdj2 : zdig (tx j) = true := by
            cases hz : zdig (tx j) with
            | true => rfl
            | false => rw [hz] at h191; exact absurd rfl h191
          have hdj3 := hdj2
          simp only [zdig, Bool.and_eq_true, decide_eq_true_eq] at hdj3
          refine zJ_aload_n dX2_takeToken_202 rfl ?_
          refine zJ_aload_n dX2_takeToken_203 rfl ?_
          refine zJ_geti dX2_takeToken_204 fX2_67 (by first | rfl | assumption | exact hC1.1 _ (by decide)) rfl ?_
          refine zJ_bipush (v := 10) dX2_takeToken_207 (by decide) ?_
          rw [f6]
          refine zJ_imul dX2_takeToken_209 ?_
          refine zJ_aload_n dX2_takeToken_210 rfl ?_
          refine zJ_getr dX2_takeToken_211 fX2_18 (by first | rfl | assumption | exact hC1.1 _ (by decide)) rfl (by first | rfl | assumption | exact hC1.2 _ _ rfl) ?_
          refine zJ_aload_n dX2_takeToken_214 rfl ?_
          refine zJ_geti dX2_takeToken_215 fX2_35 (by first | rfl | assumption | exact hC1.1 _ (by decide)) rfl ?_
          rw [f3]
          refine zJ_iald dX2_takeToken_218 (by first | rfl | assumption | exact hC1.1 _ (by decide)) (vp_in_nI (by omega) (by omega)) ?_
          rw [nI_clamp (show j < 2 ^ 31 by omega), (htx j (by omega)).1]
          refine zJ_iadd dX2_takeToken_219 ?_
          refine zJ_bipush (v := 48) dX2_takeToken_220 (by decide) ?_
          refine zJ_isub dX2_takeToken_222 ?_
          rw [show nI (zvd tx f (j - f)) * 10 = nI (zvd tx f (j - f) * 10) from na_mul _ 10, na_add, show nI (zvd tx f (j - f) * 10 + tx j) - 48 = nI (zvd tx f (j - f) * 10 + tx j - 48) from na_sub (b := 48) (by omega), show zvd tx f (j - f) * 10 + tx j - 48 = zvd tx f (j - f) * 10 + (tx j - 48) by omega]
          refine zJ_puti dX2_takeToken_223 fX2_67 (fun q h => by cases h; rfl) (by first | rfl | assumption | exact hC1.1 _ (by decide)) rfl rfl rfl ?_
          refine zJ_aload_n dX2_takeToken_226 rfl ?_
          refine zJ_dup dX2_takeToken_227 rfl ?_
          refine zJ_geti dX2_takeToken_228 fX2_70 (by first | rfl | assumption | exact hC1.1 _ (by decide)) rfl ?_
          rw [show (zsi w1 3 6 (nI (zvd tx f (j - f) * 10 + (tx j - 48)))).2.1 3 7 = nI (j - f) by simp [zsi, f7]]
          refine zJ_iconst (v := 1) dX2_takeToken_231 (by decide) ?_
          refine zJ_iadd dX2_takeToken_232 ?_
          rw [show nI (j - f) + 1 = nI (j - f + 1) from nI_1 _]
          refine zJ_puti dX2_takeToken_233 fX2_70 (fun q h => by cases h; rfl) (by first | rfl | assumption | exact hC1.1 _ (by decide)) rfl rfl rfl ?_
          refine zJ_aload_n dX2_takeToken_236 rfl ?_
          refine zJ_dup dX2_takeToken_237 rfl ?_
          refine zJ_geti dX2_takeToken_238 fX2_35 (by first | rfl | assumption | exact hC1.1 _ (by decide)) rfl ?_
          rw [show (zsi (zsi w1 3 6 (nI (zvd tx f (j - f) * 10 + (tx j - 48)))) 3 7 (nI (j - f + 1))).2.1 3 3 = nI j by simp [zsi, f3]]
          refine zJ_iconst (v := 1) dX2_takeToken_241 (by decide) ?_
          refine zJ_iadd dX2_takeToken_242 ?_
          rw [show nI j + 1 = nI (j + 1) from nI_1 _]
          refine zJ_puti dX2_takeToken_243 fX2_35 (fun q h => by cases h; rfl) (by first | rfl | assumption | exact hC1.1 _ (by decide)) rfl rfl rfl ?_
          refine zJ_goto (tgt := 168) dX2_takeToken_246 (by decide) ?_
          have hdj : zdig (tx j) = true := by
            cases hz : zdig (tx j) with
            | true => rfl
            | false => rw [hz] at h191; exact absurd rfl h191
          have h4 : j - f < 4 := Nat.lt_of_not_le fun h => h199 ((nI_leI (a := 4) (by decide) (by omega)).mpr h)
          refine ih (j + 1) (by omega) (by omega) _ ((hf.tr (zFk.i (by decide))).tr ((zFk.i (by decide)).tr (zFk.i (by decide)))) (by omega) (by simp [zsi]) (by simp [zsi, f4]) (by simp [zsi, f5]) ?_ ?_ (fun i hi => ?_) ?_
          · simp only [zsi]
            simp [show j + 1 - f = j - f + 1 by omega, zvd, h4, show f + (j - f) = j by omega]
          · simp [zsi, show j + 1 - f = j - f + 1 by omega]
          · by_cases hi2 : i = j - f
            · rw [hi2, show f + (j - f) = j by omega]; exact hdj
            · exact hall i (by omega)
          · rw [← he]; exact (zrun_go hj9 hdj).symm
  have LL : f < n → zlet (tx f) = true → ∀ j, j ≤ n → ∀ w1, zFk w w1 → w1.2.1 3 3 = nI j → w1.2.1 3 4 = 1 → w1.2.1 3 5 = nI f → zrun (fun i => zlet (tx i)) n j = zrun (fun i => zlet (tx i)) n f → zJ Δ mX2_takeToken (zRm 1 0 0) true w.1 QR (fun _ _ => False) 0 0 99 [(0, .ref 3)] [] w1 := by
    intro hfn hl
    refine zup (fun j hj ih w1 hf f3 f4 f5 he => ?_)
    have hR1 := hR.fk hf
    obtain ⟨hC1, hln, hn7, htx⟩ := hR1
    refine zJ_aload_n dX2_takeToken_99 rfl ?_
    refine zJ_geti dX2_takeToken_100 fX2_35 (by first | rfl | assumption | exact hC1.1 _ (by decide)) rfl ?_
    refine zJ_aload_n dX2_takeToken_103 rfl ?_
    refine zJ_geti dX2_takeToken_104 fX2_31 (by first | rfl | assumption | exact hC1.1 _ (by decide)) rfl ?_
    rw [f3, hln]
    refine zJ_icmp_ge (tgt := 282) dX2_takeToken_107 (by decide) (fun h107 => ?_) (fun h107 => ?_)
    · have hj9 : n ≤ j := (nI_leI (by omega) (by omega)).mp h107
      have hz : zrun (fun i => zlet (tx i)) n f = j := he.symm.trans (zrun_end hj9)
      have ht : ztk0 tx n f = (1, f, j, 0) := by
        simp only [ztk0]
        rw [if_neg (by omega), if_pos hl, hz]
      rw [ht] at hQ
      exact zJ_vret dX2_takeToken_282 rfl (by decide) (by decide) (hQ _ _ ⟨rfl, hf, f3, f4, f5, fun h => absurd h (by simp)⟩)
    · have hj9 : j < n := Nat.lt_of_not_le fun hq9 => h107 (by exact (nI_leI (a := n) (b := j) (by omega) (by omega)).mpr hq9)
      refine zJ_aload_n dX2_takeToken_110 rfl ?_
      refine zJ_getr dX2_takeToken_111 fX2_18 (by first | rfl | assumption | exact hC1.1 _ (by decide)) rfl (by first | rfl | assumption | exact hC1.2 _ _ rfl) ?_
      refine zJ_aload_n dX2_takeToken_114 rfl ?_
      refine zJ_geti dX2_takeToken_115 fX2_35 (by first | rfl | assumption | exact hC1.1 _ (by decide)) rfl ?_
      rw [f3]
      refine zJ_iald dX2_takeToken_118 (by first | rfl | assumption | exact hC1.1 _ (by decide)) (vp_in_nI (by omega) (by omega)) ?_
      rw [nI_clamp (show j < 2 ^ 31 by omega), (htx j (by omega)).1]
      refine zJ_cS1 dX2_takeToken_119 sX2_60 mfX2_isLetter (c_Rd_isLetter Δ w1 (tx j) (htx j (by omega)).2) (Nat.le_of_ble_eq_true rfl) (by decide) (by decide) ?_
      refine zJ_if_eq (tgt := 282) dX2_takeToken_122 (by decide) (fun h122 => ?_) (fun h122 => ?_)
      · have hno : zlet (tx j) = false := by
          cases hz : zlet (tx j) with
          | false => rfl
          | true => rw [hz] at h122; exact absurd h122 (by decide)
        have hz : zrun (fun i => zlet (tx i)) n f = j := he.symm.trans (zrun_no hno)
        have ht : ztk0 tx n f = (1, f, j, 0) := by
          simp only [ztk0]
          rw [if_neg (by omega), if_pos hl, hz]
        rw [ht] at hQ
        exact zJ_vret dX2_takeToken_282 rfl (by decide) (by decide) (hQ _ _ ⟨rfl, hf, f3, f4, f5, fun h => absurd h (by simp)⟩)
      · refine zJ_aload_n dX2_takeToken_125 rfl ?_
        refine zJ_dup dX2_takeToken_126 rfl ?_
        refine zJ_geti dX2_takeToken_127 fX2_35 (by first | rfl | assumption | exact hC1.1 _ (by decide)) rfl ?_
        rw [f3]
        refine zJ_iconst (v := 1) dX2_takeToken_130 (by decide) ?_
        refine zJ_iadd dX2_takeToken_131 ?_
        rw [show nI j + 1 = nI (j + 1) from nI_1 _]
        refine zJ_puti dX2_takeToken_132 fX2_35 (fun q h => by cases h; rfl) (by first | rfl | assumption | exact hC1.1 _ (by decide)) rfl rfl rfl ?_
        refine zJ_goto (tgt := 99) dX2_takeToken_135 (by decide) ?_
        have hlj : zlet (tx j) = true := by
          cases hz : zlet (tx j) with
          | true => rfl
          | false => rw [hz] at h122; exact absurd rfl h122
        exact ih (j + 1) (by omega) (by omega) _ (hf.tr (zFk.i (by decide))) (by simp [zsi]) (by simp [zsi, f4]) (by simp [zsi, f5]) ((zrun_go hj9 hlj).symm.trans he)
  have L0 : ∀ j, j ≤ n → ∀ w1, zFk w w1 → w1.2.1 3 3 = nI j → zrun (fun i => zblk (tx i)) n j = f → zJ Δ mX2_takeToken (zRm 1 0 0) true w.1 QR (fun _ _ => False) 0 0 0 [(0, .ref 3)] [] w1 := by
    refine zup (fun j hj ih w1 hf f3 he => ?_)
    have hR1 := hR.fk hf
    obtain ⟨hC1, hln, hn7, htx⟩ := hR1
    refine zJ_aload_n dX2_takeToken_0 rfl ?_
    refine zJ_geti dX2_takeToken_1 fX2_35 (by first | rfl | assumption | exact hC1.1 _ (by decide)) rfl ?_
    refine zJ_aload_n dX2_takeToken_4 rfl ?_
    refine zJ_geti dX2_takeToken_5 fX2_31 (by first | rfl | assumption | exact hC1.1 _ (by decide)) rfl ?_
    rw [f3, hln]
    refine zJ_icmp_ge (tgt := 52) dX2_takeToken_8 (by decide) (fun h8 => ?_) (fun h8 => ?_)
    · have hj9 : n ≤ j := (nI_leI (by omega) (by omega)).mp h8
      have hjf : j = f := by rw [← he]; exact (zrun_end hj9).symm
      rw [hjf] at f3
      refine zJ_aload_n dX2_takeToken_52 rfl ?_
      refine zJ_aload_n dX2_takeToken_53 rfl ?_
      refine zJ_geti dX2_takeToken_54 fX2_35 (by first | rfl | assumption | exact hC1.1 _ (by decide)) rfl ?_
      rw [f3]
      refine zJ_puti dX2_takeToken_57 fX2_57 (fun q h => by cases h; rfl) (by first | rfl | assumption | exact hC1.1 _ (by decide)) rfl rfl rfl ?_
      refine zJ_aload_n dX2_takeToken_60 rfl ?_
      refine zJ_geti dX2_takeToken_61 fX2_35 (by first | rfl | assumption | exact hC1.1 _ (by decide)) rfl ?_
      refine zJ_aload_n dX2_takeToken_64 rfl ?_
      refine zJ_geti dX2_takeToken_65 fX2_31 (by first | rfl | assumption | exact hC1.1 _ (by decide)) rfl ?_
      rw [show (zsi w1 3 5 (nI f)).2.1 3 3 = nI f by simp [zsi, f3], show (zsi w1 3 5 (nI f)).2.1 3 2 = nI n by simp [zsi, hln]]
      refine zJ_icmp_lt (tgt := 79) dX2_takeToken_68 (by decide) (fun h68u1 => ?_) (fun h68u1 => ?_)
      · have hfn : f < n := (nI_ltI (by omega) (by omega)).mp h68u1
        refine zJ_aload_n dX2_takeToken_79 rfl ?_
        refine zJ_getr dX2_takeToken_80 fX2_18 (by first | rfl | assumption | exact hC1.1 _ (by decide)) rfl (by first | rfl | assumption | exact hC1.2 _ _ rfl) ?_
        refine zJ_aload_n dX2_takeToken_83 rfl ?_
        refine zJ_geti dX2_takeToken_84 fX2_35 (by first | rfl | assumption | exact hC1.1 _ (by decide)) rfl ?_
        rw [show (zsi w1 3 5 (nI f)).2.1 3 3 = nI f by simp [zsi, f3]]
        refine zJ_iald dX2_takeToken_87 (by first | rfl | assumption | exact hC1.1 _ (by decide)) (vp_in_nI (by omega) (by omega)) ?_
        rw [nI_clamp (show f < 2 ^ 31 by omega), show (zsi w1 3 5 (nI f)).2.1 1 f = nI (tx f) by simp [zsi, (htx f (by omega)).1]]
        refine zJ_cS1 dX2_takeToken_88 sX2_60 mfX2_isLetter (c_Rd_isLetter Δ (zsi w1 3 5 (nI f)) (tx f) (htx f (by omega)).2) (Nat.le_of_ble_eq_true rfl) (by decide) (by decide) ?_
        refine zJ_if_eq (tgt := 138) dX2_takeToken_91 (by decide) (fun h91u1 => ?_) (fun h91u1 => ?_)
        · have hlf : zlet (tx f) = false := by
            cases hz : zlet (tx f) with
            | false => rfl
            | true => rw [hz] at h91u1; exact absurd h91u1 (by decide)
          refine zJ_aload_n dX2_takeToken_138 rfl ?_
          refine zJ_getr dX2_takeToken_139 fX2_18 (by first | rfl | assumption | exact hC1.1 _ (by decide)) rfl (by first | rfl | assumption | exact hC1.2 _ _ rfl) ?_
          refine zJ_aload_n dX2_takeToken_142 rfl ?_
          refine zJ_geti dX2_takeToken_143 fX2_35 (by first | rfl | assumption | exact hC1.1 _ (by decide)) rfl ?_
          rw [show (zsi w1 3 5 (nI f)).2.1 3 3 = nI f by simp [zsi, f3]]
          refine zJ_iald dX2_takeToken_146 (by first | rfl | assumption | exact hC1.1 _ (by decide)) (vp_in_nI (by omega) (by omega)) ?_
          rw [nI_clamp (show f < 2 ^ 31 by omega), show (zsi w1 3 5 (nI f)).2.1 1 f = nI (tx f) by simp [zsi, (htx f (by omega)).1]]
          refine zJ_cS1 dX2_takeToken_147 sX2_64 mfX2_isDigit (c_Rd_isDigit Δ (zsi w1 3 5 (nI f)) (tx f) (htx f (by omega)).2) (Nat.le_of_ble_eq_true rfl) (by decide) (by decide) ?_
          refine zJ_if_eq (tgt := 249) dX2_takeToken_150 (by decide) (fun h150u1 => ?_) (fun h150u1 => ?_)
          · have hdf : zdig (tx f) = false := by
              cases hz : zdig (tx f) with
              | false => rfl
              | true => rw [hz] at h150u1; exact absurd h150u1 (by decide)
            have hb256 := (htx f (by omega)).2
            refine zJ_aload_n dX2_takeToken_249 rfl ?_
            refine zJ_aload_n dX2_takeToken_250 rfl ?_
            refine zJ_getr dX2_takeToken_251 fX2_18 (by first | rfl | assumption | exact hC1.1 _ (by decide)) rfl (by first | rfl | assumption | exact hC1.2 _ _ rfl) ?_
            refine zJ_aload_n dX2_takeToken_254 rfl ?_
            refine zJ_geti dX2_takeToken_255 fX2_35 (by first | rfl | assumption | exact hC1.1 _ (by decide)) rfl ?_
            rw [show (zsi w1 3 5 (nI f)).2.1 3 3 = nI f by simp [zsi, f3]]
            refine zJ_iald dX2_takeToken_258 (by first | rfl | assumption | exact hC1.1 _ (by decide)) (vp_in_nI (by omega) (by omega)) ?_
            rw [nI_clamp (show f < 2 ^ 31 by omega), show (zsi w1 3 5 (nI f)).2.1 1 f = nI (tx f) by simp [zsi, (htx f (by omega)).1]]
            refine zJ_bipush (v := 59) dX2_takeToken_259 (by decide) ?_
            refine zJ_icmp_ne (tgt := 268) dX2_takeToken_261 (by decide) (fun h261u1 => ?_) (fun h261u1 => ?_)
            · refine zJ_iconst (v := 4) dX2_takeToken_268 (by decide) ?_
              have hk : (if tx f = 59 then 3 else 4) = 4 := if_neg (fun h => h261u1 (by rw [h]; rfl))
              refine zJ_puti dX2_takeToken_269 fX2_50 (fun q h => by cases h; rfl) (by first | rfl | assumption | exact hC1.1 _ (by decide)) rfl rfl rfl ?_
              refine zJ_aload_n dX2_takeToken_272 rfl ?_
              refine zJ_dup dX2_takeToken_273 rfl ?_
              refine zJ_geti dX2_takeToken_274 fX2_35 (by first | rfl | assumption | exact hC1.1 _ (by decide)) rfl ?_
              rw [show (zsi (zsi w1 3 5 (nI f)) 3 4 4).2.1 3 3 = nI f by simp [zsi, f3]]
              refine zJ_iconst (v := 1) dX2_takeToken_277 (by decide) ?_
              refine zJ_iadd dX2_takeToken_278 ?_
              rw [show nI f + 1 = nI (f + 1) from nI_1 _]
              refine zJ_puti dX2_takeToken_279 fX2_35 (fun q h => by cases h; rfl) (by first | rfl | assumption | exact hC1.1 _ (by decide)) rfl rfl rfl ?_
              have ht : ztk0 tx n f = (4, f, f + 1, 0) := by
                simp only [ztk0]
                rw [if_neg (by omega), if_neg (by rw [hlf]; decide), if_neg (by rw [hdf]; decide), hk]
              rw [ht] at hQ
              exact zJ_vret dX2_takeToken_282 rfl (by decide) (by decide) (hQ _ _ ⟨rfl, hf.tr ((zFk.i (by decide)).tr ((zFk.i (by decide)).tr (zFk.i (by decide)))), by simp [zsi], by simp [zsi]; rfl, by simp [zsi], fun h => absurd h (by simp)⟩)
            · refine zJ_iconst (v := 3) dX2_takeToken_264 (by decide) ?_
              refine zJ_goto (tgt := 269) dX2_takeToken_265 (by decide) ?_
              have hk : (if tx f = 59 then 3 else 4) = 3 := if_pos ((nI_eq (b := 59) (by omega) (by decide)).mp h261u1)
              refine zJ_puti dX2_takeToken_269 fX2_50 (fun q h => by cases h; rfl) (by first | rfl | assumption | exact hC1.1 _ (by decide)) rfl rfl rfl ?_
              refine zJ_aload_n dX2_takeToken_272 rfl ?_
              refine zJ_dup dX2_takeToken_273 rfl ?_
              refine zJ_geti dX2_takeToken_274 fX2_35 (by first | rfl | assumption | exact hC1.1 _ (by decide)) rfl ?_
              rw [show (zsi (zsi w1 3 5 (nI f)) 3 4 3).2.1 3 3 = nI f by simp [zsi, f3]]
              refine zJ_iconst (v := 1) dX2_takeToken_277 (by decide) ?_
              refine zJ_iadd dX2_takeToken_278 ?_
              rw [show nI f + 1 = nI (f + 1) from nI_1 _]
              refine zJ_puti dX2_takeToken_279 fX2_35 (fun q h => by cases h; rfl) (by first | rfl | assumption | exact hC1.1 _ (by decide)) rfl rfl rfl ?_
              have ht : ztk0 tx n f = (3, f, f + 1, 0) := by
                simp only [ztk0]
                rw [if_neg (by omega), if_neg (by rw [hlf]; decide), if_neg (by rw [hdf]; decide), hk]
              rw [ht] at hQ
              exact zJ_vret dX2_takeToken_282 rfl (by decide) (by decide) (hQ _ _ ⟨rfl, hf.tr ((zFk.i (by decide)).tr ((zFk.i (by decide)).tr (zFk.i (by decide)))), by simp [zsi], by simp [zsi]; rfl, by simp [zsi], fun h => absurd h (by simp)⟩)
          · have hdf : zdig (tx f) = true := by
              cases hz : zdig (tx f) with
              | true => rfl
              | false => rw [hz] at h150u1; exact absurd rfl h150u1
            refine zJ_aload_n dX2_takeToken_153 rfl ?_
            refine zJ_iconst (v := 2) dX2_takeToken_154 (by decide) ?_
            refine zJ_puti dX2_takeToken_155 fX2_50 (fun q h => by cases h; rfl) (by first | rfl | assumption | exact hC1.1 _ (by decide)) rfl rfl rfl ?_
            refine zJ_aload_n dX2_takeToken_158 rfl ?_
            refine zJ_iconst (v := 0) dX2_takeToken_159 (by decide) ?_
            refine zJ_puti dX2_takeToken_160 fX2_67 (fun q h => by cases h; rfl) (by first | rfl | assumption | exact hC1.1 _ (by decide)) rfl rfl rfl ?_
            refine zJ_aload_n dX2_takeToken_163 rfl ?_
            refine zJ_iconst (v := 0) dX2_takeToken_164 (by decide) ?_
            refine zJ_puti dX2_takeToken_165 fX2_70 (fun q h => by cases h; rfl) (by first | rfl | assumption | exact hC1.1 _ (by decide)) rfl rfl rfl ?_
            exact LD hfn hlf hdf f (by omega) _ (hf.tr ((zFk.i (by decide)).tr ((zFk.i (by decide)).tr ((zFk.i (by decide)).tr (zFk.i (by decide)))))) (Nat.le_refl _) (by simp [zsi, f3]) (by simp [zsi]) (by simp [zsi]) (by simp [zsi, zvd]; rfl) (by simp [zsi]; rfl) (fun i hi => absurd hi (by omega)) rfl
        · have hlf : zlet (tx f) = true := by
            cases hz : zlet (tx f) with
            | true => rfl
            | false => rw [hz] at h91u1; exact absurd rfl h91u1
          refine zJ_aload_n dX2_takeToken_94 rfl ?_
          refine zJ_iconst (v := 1) dX2_takeToken_95 (by decide) ?_
          refine zJ_puti dX2_takeToken_96 fX2_50 (fun q h => by cases h; rfl) (by first | rfl | assumption | exact hC1.1 _ (by decide)) rfl rfl rfl ?_
          exact LL hfn hlf f (by omega) _ (hf.tr ((zFk.i (by decide)).tr (zFk.i (by decide)))) (by simp [zsi, f3]) (by simp [zsi]) (by simp [zsi]) rfl
      · refine zJ_aload_n dX2_takeToken_71 rfl ?_
        refine zJ_iconst (v := 0) dX2_takeToken_72 (by decide) ?_
        refine zJ_puti dX2_takeToken_73 fX2_50 (fun q h => by cases h; rfl) (by first | rfl | assumption | exact hC1.1 _ (by decide)) rfl rfl rfl ?_
        refine zJ_goto (tgt := 282) dX2_takeToken_76 (by decide) ?_
        have hge : n ≤ f := (nI_leI (by omega) (by omega)).mp (Int32.not_lt.mp h68u1)
        have ht : ztk0 tx n f = (0, f, f, 0) := by simp only [ztk0]; rw [if_pos hge]
        rw [ht] at hQ
        exact zJ_vret dX2_takeToken_282 rfl (by decide) (by decide) (hQ _ _ ⟨rfl, hf.tr ((zFk.i (by decide)).tr (zFk.i (by decide))), by simp [zsi, f3], by simp [zsi]; rfl, by simp [zsi], fun h => absurd h (by simp)⟩)
    · have hj9 : j < n := Nat.lt_of_not_le fun hq9 => h8 (by exact (nI_leI (a := n) (b := j) (by omega) (by omega)).mpr hq9)
      have hb256 := (htx j (by omega)).2
      refine zJ_aload_n dX2_takeToken_11 rfl ?_
      refine zJ_getr dX2_takeToken_12 fX2_18 (by first | rfl | assumption | exact hC1.1 _ (by decide)) rfl (by first | rfl | assumption | exact hC1.2 _ _ rfl) ?_
      refine zJ_aload_n dX2_takeToken_15 rfl ?_
      refine zJ_geti dX2_takeToken_16 fX2_35 (by first | rfl | assumption | exact hC1.1 _ (by decide)) rfl ?_
      rw [f3]
      refine zJ_iald dX2_takeToken_19 (by first | rfl | assumption | exact hC1.1 _ (by decide)) (vp_in_nI (by omega) (by omega)) ?_
      rw [nI_clamp (show j < 2 ^ 31 by omega), (htx j (by omega)).1]
      refine zJ_bipush (v := 32) dX2_takeToken_20 (by decide) ?_
      refine zJ_icmp_eq (tgt := 39) dX2_takeToken_22 (by decide) (fun h22 => ?_) (fun h22 => ?_)
      · have hbl : zblk (tx j) = true := by
          have : tx j = 32 := (nI_eq (b := 32) (by omega) (by decide)).mp h22
          simp [zblk, this]
        refine zJ_aload_n dX2_takeToken_39 rfl ?_
        refine zJ_dup dX2_takeToken_40 rfl ?_
        refine zJ_geti dX2_takeToken_41 fX2_35 (by first | rfl | assumption | exact hC1.1 _ (by decide)) rfl ?_
        rw [f3]
        refine zJ_iconst (v := 1) dX2_takeToken_44 (by decide) ?_
        refine zJ_iadd dX2_takeToken_45 ?_
        rw [show nI j + 1 = nI (j + 1) from nI_1 _]
        refine zJ_puti dX2_takeToken_46 fX2_35 (fun q h => by cases h; rfl) (by first | rfl | assumption | exact hC1.1 _ (by decide)) rfl rfl rfl ?_
        refine zJ_goto (tgt := 0) dX2_takeToken_49 (by decide) ?_
        exact ih (j + 1) (by omega) (by omega) _ (hf.tr (zFk.i (by decide))) (by simp [zsi]) ((zrun_go hj9 hbl).symm.trans he)
      · refine zJ_aload_n dX2_takeToken_25 rfl ?_
        refine zJ_getr dX2_takeToken_26 fX2_18 (by first | rfl | assumption | exact hC1.1 _ (by decide)) rfl (by first | rfl | assumption | exact hC1.2 _ _ rfl) ?_
        refine zJ_aload_n dX2_takeToken_29 rfl ?_
        refine zJ_geti dX2_takeToken_30 fX2_35 (by first | rfl | assumption | exact hC1.1 _ (by decide)) rfl ?_
        rw [f3]
        refine zJ_iald dX2_takeToken_33 (by first | rfl | assumption | exact hC1.1 _ (by decide)) (vp_in_nI (by omega) (by omega)) ?_
        rw [nI_clamp (show j < 2 ^ 31 by omega), (htx j (by omega)).1]
        refine zJ_bipush (v := 10) dX2_takeToken_34 (by decide) ?_
        refine zJ_icmp_ne (tgt := 52) dX2_takeToken_36 (by decide) (fun h36 => ?_) (fun h36 => ?_)
        · have hno : zblk (tx j) = false := by
            have b1 : ¬ tx j = 32 := fun h => h22 (by rw [h]; rfl)
            have b2 : ¬ tx j = 10 := fun h => h36 (by rw [h]; rfl)
            simp [zblk, b1, b2]
          have hjf : j = f := by rw [← he]; exact (zrun_no (p := fun i => zblk (tx i)) hno).symm
          rw [hjf] at f3
          refine zJ_aload_n dX2_takeToken_52 rfl ?_
          refine zJ_aload_n dX2_takeToken_53 rfl ?_
          refine zJ_geti dX2_takeToken_54 fX2_35 (by first | rfl | assumption | exact hC1.1 _ (by decide)) rfl ?_
          rw [f3]
          refine zJ_puti dX2_takeToken_57 fX2_57 (fun q h => by cases h; rfl) (by first | rfl | assumption | exact hC1.1 _ (by decide)) rfl rfl rfl ?_
          refine zJ_aload_n dX2_takeToken_60 rfl ?_
          refine zJ_geti dX2_takeToken_61 fX2_35 (by first | rfl | assumption | exact hC1.1 _ (by decide)) rfl ?_
          refine zJ_aload_n dX2_takeToken_64 rfl ?_
          refine zJ_geti dX2_takeToken_65 fX2_31 (by first | rfl | assumption | exact hC1.1 _ (by decide)) rfl ?_
          rw [show (zsi w1 3 5 (nI f)).2.1 3 3 = nI f by simp [zsi, f3], show (zsi w1 3 5 (nI f)).2.1 3 2 = nI n by simp [zsi, hln]]
          refine zJ_icmp_lt (tgt := 79) dX2_takeToken_68 (by decide) (fun h68u2 => ?_) (fun h68u2 => ?_)
          · have hfn : f < n := (nI_ltI (by omega) (by omega)).mp h68u2
            refine zJ_aload_n dX2_takeToken_79 rfl ?_
            refine zJ_getr dX2_takeToken_80 fX2_18 (by first | rfl | assumption | exact hC1.1 _ (by decide)) rfl (by first | rfl | assumption | exact hC1.2 _ _ rfl) ?_
            refine zJ_aload_n dX2_takeToken_83 rfl ?_
            refine zJ_geti dX2_takeToken_84 fX2_35 (by first | rfl | assumption | exact hC1.1 _ (by decide)) rfl ?_
            rw [show (zsi w1 3 5 (nI f)).2.1 3 3 = nI f by simp [zsi, f3]]
            refine zJ_iald dX2_takeToken_87 (by first | rfl | assumption | exact hC1.1 _ (by decide)) (vp_in_nI (by omega) (by omega)) ?_
            rw [nI_clamp (show f < 2 ^ 31 by omega), show (zsi w1 3 5 (nI f)).2.1 1 f = nI (tx f) by simp [zsi, (htx f (by omega)).1]]
            refine zJ_cS1 dX2_takeToken_88 sX2_60 mfX2_isLetter (c_Rd_isLetter Δ (zsi w1 3 5 (nI f)) (tx f) (htx f (by omega)).2) (Nat.le_of_ble_eq_true rfl) (by decide) (by decide) ?_
            refine zJ_if_eq (tgt := 138) dX2_takeToken_91 (by decide) (fun h91u2 => ?_) (fun h91u2 => ?_)
            · have hlf : zlet (tx f) = false := by
                cases hz : zlet (tx f) with
                | false => rfl
                | true => rw [hz] at h91u2; exact absurd h91u2 (by decide)
              refine zJ_aload_n dX2_takeToken_138 rfl ?_
              refine zJ_getr dX2_takeToken_139 fX2_18 (by first | rfl | assumption | exact hC1.1 _ (by decide)) rfl (by first | rfl | assumption | exact hC1.2 _ _ rfl) ?_
              refine zJ_aload_n dX2_takeToken_142 rfl ?_
              refine zJ_geti dX2_takeToken_143 fX2_35 (by first | rfl | assumption | exact hC1.1 _ (by decide)) rfl ?_
              rw [show (zsi w1 3 5 (nI f)).2.1 3 3 = nI f by simp [zsi, f3]]
              refine zJ_iald dX2_takeToken_146 (by first | rfl | assumption | exact hC1.1 _ (by decide)) (vp_in_nI (by omega) (by omega)) ?_
              rw [nI_clamp (show f < 2 ^ 31 by omega), show (zsi w1 3 5 (nI f)).2.1 1 f = nI (tx f) by simp [zsi, (htx f (by omega)).1]]
              refine zJ_cS1 dX2_takeToken_147 sX2_64 mfX2_isDigit (c_Rd_isDigit Δ (zsi w1 3 5 (nI f)) (tx f) (htx f (by omega)).2) (Nat.le_of_ble_eq_true rfl) (by decide) (by decide) ?_
              refine zJ_if_eq (tgt := 249) dX2_takeToken_150 (by decide) (fun h150u2 => ?_) (fun h150u2 => ?_)
              · have hdf : zdig (tx f) = false := by
                  cases hz : zdig (tx f) with
                  | false => rfl
                  | true => rw [hz] at h150u2; exact absurd h150u2 (by decide)
                have hb256 := (htx f (by omega)).2
                refine zJ_aload_n dX2_takeToken_249 rfl ?_
                refine zJ_aload_n dX2_takeToken_250 rfl ?_
                refine zJ_getr dX2_takeToken_251 fX2_18 (by first | rfl | assumption | exact hC1.1 _ (by decide)) rfl (by first | rfl | assumption | exact hC1.2 _ _ rfl) ?_
                refine zJ_aload_n dX2_takeToken_254 rfl ?_
                refine zJ_geti dX2_takeToken_255 fX2_35 (by first | rfl | assumption | exact hC1.1 _ (by decide)) rfl ?_
                rw [show (zsi w1 3 5 (nI f)).2.1 3 3 = nI f by simp [zsi, f3]]
                refine zJ_iald dX2_takeToken_258 (by first | rfl | assumption | exact hC1.1 _ (by decide)) (vp_in_nI (by omega) (by omega)) ?_
                rw [nI_clamp (show f < 2 ^ 31 by omega), show (zsi w1 3 5 (nI f)).2.1 1 f = nI (tx f) by simp [zsi, (htx f (by omega)).1]]
                refine zJ_bipush (v := 59) dX2_takeToken_259 (by decide) ?_
                refine zJ_icmp_ne (tgt := 268) dX2_takeToken_261 (by decide) (fun h261u2 => ?_) (fun h261u2 => ?_)
                · refine zJ_iconst (v := 4) dX2_takeToken_268 (by decide) ?_
                  have hk : (if tx f = 59 then 3 else 4) = 4 := if_neg (fun h => h261u2 (by rw [h]; rfl))
                  refine zJ_puti dX2_takeToken_269 fX2_50 (fun q h => by cases h; rfl) (by first | rfl | assumption | exact hC1.1 _ (by decide)) rfl rfl rfl ?_
                  refine zJ_aload_n dX2_takeToken_272 rfl ?_
                  refine zJ_dup dX2_takeToken_273 rfl ?_
                  refine zJ_geti dX2_takeToken_274 fX2_35 (by first | rfl | assumption | exact hC1.1 _ (by decide)) rfl ?_
                  rw [show (zsi (zsi w1 3 5 (nI f)) 3 4 4).2.1 3 3 = nI f by simp [zsi, f3]]
                  refine zJ_iconst (v := 1) dX2_takeToken_277 (by decide) ?_
                  refine zJ_iadd dX2_takeToken_278 ?_
                  rw [show nI f + 1 = nI (f + 1) from nI_1 _]
                  refine zJ_puti dX2_takeToken_279 fX2_35 (fun q h => by cases h; rfl) (by first | rfl | assumption | exact hC1.1 _ (by decide)) rfl rfl rfl ?_
                  have ht : ztk0 tx n f = (4, f, f + 1, 0) := by
                    simp only [ztk0]
                    rw [if_neg (by omega), if_neg (by rw [hlf]; decide), if_neg (by rw [hdf]; decide), hk]
                  rw [ht] at hQ
                  exact zJ_vret dX2_takeToken_282 rfl (by decide) (by decide) (hQ _ _ ⟨rfl, hf.tr ((zFk.i (by decide)).tr ((zFk.i (by decide)).tr (zFk.i (by decide)))), by simp [zsi], by simp [zsi]; rfl, by simp [zsi], fun h => absurd h (by simp)⟩)
                · refine zJ_iconst (v := 3) dX2_takeToken_264 (by decide) ?_
                  refine zJ_goto (tgt := 269) dX2_takeToken_265 (by decide) ?_
                  have hk : (if tx f = 59 then 3 else 4) = 3 := if_pos ((nI_eq (b := 59) (by omega) (by decide)).mp h261u2)
                  refine zJ_puti dX2_takeToken_269 fX2_50 (fun q h => by cases h; rfl) (by first | rfl | assumption | exact hC1.1 _ (by decide)) rfl rfl rfl ?_
                  refine zJ_aload_n dX2_takeToken_272 rfl ?_
                  refine zJ_dup dX2_takeToken_273 rfl ?_
                  refine zJ_geti dX2_takeToken_274 fX2_35 (by first | rfl | assumption | exact hC1.1 _ (by decide)) rfl ?_
                  rw [show (zsi (zsi w1 3 5 (nI f)) 3 4 3).2.1 3 3 = nI f by simp [zsi, f3]]
                  refine zJ_iconst (v := 1) dX2_takeToken_277 (by decide) ?_
                  refine zJ_iadd dX2_takeToken_278 ?_
                  rw [show nI f + 1 = nI (f + 1) from nI_1 _]
                  refine zJ_puti dX2_takeToken_279 fX2_35 (fun q h => by cases h; rfl) (by first | rfl | assumption | exact hC1.1 _ (by decide)) rfl rfl rfl ?_
                  have ht : ztk0 tx n f = (3, f, f + 1, 0) := by
                    simp only [ztk0]
                    rw [if_neg (by omega), if_neg (by rw [hlf]; decide), if_neg (by rw [hdf]; decide), hk]
                  rw [ht] at hQ
                  exact zJ_vret dX2_takeToken_282 rfl (by decide) (by decide) (hQ _ _ ⟨rfl, hf.tr ((zFk.i (by decide)).tr ((zFk.i (by decide)).tr (zFk.i (by decide)))), by simp [zsi], by simp [zsi]; rfl, by simp [zsi], fun h => absurd h (by simp)⟩)
              · have hdf : zdig (tx f) = true := by
                  cases hz : zdig (tx f) with
                  | true => rfl
                  | false => rw [hz] at h150u2; exact absurd rfl h150u2
                refine zJ_aload_n dX2_takeToken_153 rfl ?_
                refine zJ_iconst (v := 2) dX2_takeToken_154 (by decide) ?_
                refine zJ_puti dX2_takeToken_155 fX2_50 (fun q h => by cases h; rfl) (by first | rfl | assumption | exact hC1.1 _ (by decide)) rfl rfl rfl ?_
                refine zJ_aload_n dX2_takeToken_158 rfl ?_
                refine zJ_iconst (v := 0) dX2_takeToken_159 (by decide) ?_
                refine zJ_puti dX2_takeToken_160 fX2_67 (fun q h => by cases h; rfl) (by first | rfl | assumption | exact hC1.1 _ (by decide)) rfl rfl rfl ?_
                refine zJ_aload_n dX2_takeToken_163 rfl ?_
                refine zJ_iconst (v := 0) dX2_takeToken_164 (by decide) ?_
                refine zJ_puti dX2_takeToken_165 fX2_70 (fun q h => by cases h; rfl) (by first | rfl | assumption | exact hC1.1 _ (by decide)) rfl rfl rfl ?_
                exact LD hfn hlf hdf f (by omega) _ (hf.tr ((zFk.i (by decide)).tr ((zFk.i (by decide)).tr ((zFk.i (by decide)).tr (zFk.i (by decide)))))) (Nat.le_refl _) (by simp [zsi, f3]) (by simp [zsi]) (by simp [zsi]) (by simp [zsi, zvd]; rfl) (by simp [zsi]; rfl) (fun i hi => absurd hi (by omega)) rfl
            · have hlf : zlet (tx f) = true := by
                cases hz : zlet (tx f) with
                | true => rfl
                | false => rw [hz] at h91u2; exact absurd rfl h91u2
              refine zJ_aload_n dX2_takeToken_94 rfl ?_
              refine zJ_iconst (v := 1) dX2_takeToken_95 (by decide) ?_
              refine zJ_puti dX2_takeToken_96 fX2_50 (fun q h => by cases h; rfl) (by first | rfl | assumption | exact hC1.1 _ (by decide)) rfl rfl rfl ?_
              exact LL hfn hlf f (by omega) _ (hf.tr ((zFk.i (by decide)).tr (zFk.i (by decide)))) (by simp [zsi, f3]) (by simp [zsi]) (by simp [zsi]) rfl
          · refine zJ_aload_n dX2_takeToken_71 rfl ?_
            refine zJ_iconst (v := 0) dX2_takeToken_72 (by decide) ?_
            refine zJ_puti dX2_takeToken_73 fX2_50 (fun q h => by cases h; rfl) (by first | rfl | assumption | exact hC1.1 _ (by decide)) rfl rfl rfl ?_
            refine zJ_goto (tgt := 282) dX2_takeToken_76 (by decide) ?_
            have hge : n ≤ f := (nI_leI (by omega) (by omega)).mp (Int32.not_lt.mp h68u2)
            have ht : ztk0 tx n f = (0, f, f, 0) := by simp only [ztk0]; rw [if_pos hge]
            rw [ht] at hQ
            exact zJ_vret dX2_takeToken_282 rfl (by decide) (by decide) (hQ _ _ ⟨rfl, hf.tr ((zFk.i (by decide)).tr (zFk.i (by decide))), by simp [zsi, f3], by simp [zsi]; rfl, by simp [zsi], fun h => absurd h (by simp)⟩)
        · have hbl : zblk (tx j) = true := by
            have : tx j = 10 := (nI_eq (b := 10) (by omega) (by decide)).mp h36
            simp [zblk, this]
          refine zJ_aload_n dX2_takeToken_39 rfl ?_
          refine zJ_dup dX2_takeToken_40 rfl ?_
          refine zJ_geti dX2_takeToken_41 fX2_35 (by first | rfl | assumption | exact hC1.1 _ (by decide)) rfl ?_
          rw [f3]
          refine zJ_iconst (v := 1) dX2_takeToken_44 (by decide) ?_
          refine zJ_iadd dX2_takeToken_45 ?_
          rw [show nI j + 1 = nI (j + 1) from nI_1 _]
          refine zJ_puti dX2_takeToken_46 fX2_35 (fun q h => by cases h; rfl) (by first | rfl | assumption | exact hC1.1 _ (by decide)) rfl rfl rfl ?_
          refine zJ_goto (tgt := 0) dX2_takeToken_49 (by decide) ?_
          exact ih (j + 1) (by omega) (by omega) _ (hf.tr (zFk.i (by decide))) (by simp [zsi]) ((zrun_go hj9 hbl).symm.trans he)
  exact L0 a ha w (zFk.rf w) hat hfd
