/-! LetterTown$Play: reckonSent -/
/-- sums, with d added at the columns below j -/
def zad (S : Nat → Int64) (cl : Nat → Nat) (d : Nat → Int64) : Nat → Nat → Int64
  | 0 => S
  | j + 1 => fun p => if p = cl j then zad S cl d j p + d p else zad S cl d j p
theorem zad_no {S : Nat → Int64} {cl : Nat → Nat} {d : Nat → Int64} : ∀ {j p : Nat}, (∀ c, c < j → cl c ≠ p) → zad S cl d j p = S p
  | 0, p, _ => rfl
  | j + 1, p, h => by
    simp only [zad]
    rw [if_neg (fun e => h j (by omega) e.symm)]
    exact zad_no (fun c hc => h c (by omega))
theorem zad_in {S : Nat → Int64} {cl : Nat → Nat} {d : Nat → Int64} {n : Nat} (hi : ∀ a b, a < n → b < n → cl a = cl b → a = b) : ∀ {j c : Nat}, j ≤ n → c < j → zad S cl d j (cl c) = S (cl c) + d (cl c)
  | 0, c, _, h => absurd h (Nat.not_lt_zero c)
  | j + 1, c, hj, h => by
    simp only [zad]
    by_cases hc : c = j
    · subst hc
      rw [if_pos rfl, zad_no (fun a ha e => by have := hi a c (by omega) (by omega) e; omega)]
    · rw [if_neg (fun e => hc (hi c j (by omega) (by omega) e))]
      exact zad_in hi (by omega) (by omega)
/-- the sums behind the HANDS to y < j -/
def zSm (S : Nat → Int64) (cl : Nat → Nat) (n a B : Nat) (d : Nat → Nat → Int64) (ex : Nat → Int64) : Nat → Nat → Int64
  | 0 => S
  | j + 1 => if B.testBit j then (fun p => if p = a then zad (zSm S cl n a B d ex j) cl (d j) n p + ex j else zad (zSm S cl n a B d ex j) cl (d j) n p) else zSm S cl n a B d ex j
def zve (T : zTo) (k : zKy) (B : Nat) (j : Nat) : Nat := fb_sm (fun y => if B.testBit y then zwu T k.1 y * zce T k y else 0) j
def zvg (T : zTo) (k : zKy) (B p : Nat) (j : Nat) : Int := fb_si (fun y => if B.testBit y then (zwu T k.1 y : Int) * zbs T k (zce T k) (zcg T k) y p else 0) j
def zdd (T : zTo) (k : zKy) (y p : Nat) : Int64 := lN (zwu T k.1 y) * lZ (zcg T k y p)
def zdx (T : zTo) (k : zKy) (y : Nat) : Int64 := lN (zwu T k.1 y) * (lN (zpay T (zce T k y)) - 1000 * lN (T.1 6))
theorem zSm_in {T : zTo} {k : zKy} {S : Nat → Int64} {cl : Nat → Nat} {n B : Nat} (hS : ∀ p, p < 8 → S p = 0) (hi : ∀ a b, a < n → b < n → cl a = cl b → a = b) (h8 : ∀ c, c < n → cl c < 8) {c : Nat} (hc : c < n) : ∀ j, zSm S cl n k.1 B (zdd T k) (zdx T k) j (cl c) = lZ (zvg T k B (cl c) j)
  | 0 => by
    simp only [zSm, zvg, fb_si]
    rw [hS _ (h8 c hc)]; rfl
  | j + 1 => by
    have ih := zSm_in (T := T) (k := k) (B := B) hS hi h8 hc j
    simp only [zSm]
    by_cases hb : B.testBit j = true
    · rw [if_pos hb, zad_in hi (Nat.le_refl n) hc, ih]
      simp only [zvg, fb_si_succ, hb, if_true]
      simp only [zdd, zdx]
      by_cases hp : cl c = k.1
      · rw [if_pos hp, lZ_n, lZ_n, lZ_n, show (1000 : Int64) = lZ 1000 from rfl, lZ_mul, lZ_mul, lZ_sub, lZ_mul, lZ_add, lZ_add]
        simp only [zbs, hp, if_true]
        congr 1
        rw [Int.mul_add, Int.add_assoc]
      · rw [if_neg hp, lZ_n, lZ_mul, lZ_add]
        simp only [zbs, hp, if_false, Int.add_zero]
    · rw [if_neg hb, ih]
      simp only [zvg, fb_si_succ, if_neg hb, Int.add_zero]
theorem zwu_le {T : zTo} (hT : zTok T) {a y : Nat} (ha : a < 8) (hy : y < 8) : zwu T a y ≤ 99 := by
  simp only [zwu]
  split
  · omega
  · exact (hT.2.2.2.2.2.2.2.2.2.2.2 a y ha hy).1
theorem zwt_le {T : zTo} (hT : zTok T) {a B : Nat} (ha : a < 8) : ∀ n, n ≤ 8 → zwt T a B n ≤ n * 99
  | 0, _ => by simp [zwt, fb_sm]
  | n + 1, hn => by
    have ih := zwt_le (B := B) hT ha n (by omega)
    have := zwu_le hT ha (show n < 8 by omega)
    simp only [zwt, fb_sm_succ] at ih ⊢
    split <;> omega
set_option maxRecDepth 100000 in
theorem zve_le {T : zTo} {k : zKy} {B : Nat} (hB : ∀ y, y < 8 → B.testBit y = true → zce T k y ≤ 1000000000 ∧ zwu T k.1 y ≤ 99) : ∀ n, n ≤ 8 → zve T k B n ≤ n * 99000000000
  | 0, _ => by simp [zve, fb_sm]
  | n + 1, hn => by
    have ih := zve_le hB n (by omega)
    simp only [zve, fb_sm_succ] at ih ⊢
    split
    · rename_i hb
      obtain ⟨h1, h2⟩ := hB n (by omega) hb
      have : zwu T k.1 n * zce T k n ≤ 99 * 1000000000 := Nat.mul_le_mul h2 h1
      rw [Nat.add_mul]
      exact Nat.add_le_add ih this
    · rw [Nat.add_mul]
      exact Nat.add_le_add ih (Nat.zero_le _)
theorem zvg_rng {T : zTo} {k : zKy} {B p : Nat} (hB : ∀ y, y < 8 → B.testBit y = true → (-430000000 ≤ zbs T k (zce T k) (zcg T k) y p ∧ zbs T k (zce T k) (zcg T k) y p ≤ 430000000) ∧ zwu T k.1 y ≤ 99) : -400000000000 ≤ zvg T k B p 8 ∧ zvg T k B p 8 ≤ 400000000000 := by
  have h := fb_si_bound (f := fun y => if B.testBit y then (zwu T k.1 y : Int) * zbs T k (zce T k) (zcg T k) y p else 0) (c := 42570000000) (by decide) (n := 8) (fun y hy => by
    split
    · rename_i hb
      obtain ⟨⟨h1, h2⟩, h3⟩ := hB y hy hb
      have a1 : (zwu T k.1 y : Int) * zbs T k (zce T k) (zcg T k) y p ≤ (zwu T k.1 y : Int) * 430000000 := Int.mul_le_mul_of_nonneg_left h2 (by omega)
      have a2 : (zwu T k.1 y : Int) * (-430000000) ≤ (zwu T k.1 y : Int) * zbs T k (zce T k) (zcg T k) y p := Int.mul_le_mul_of_nonneg_left h1 (by omega)
      omega
    · omega)
  simp only [zvg]
  omega
/-- what a HAND gives, of whose CASES s of 1000 are opened -/
def zfE (T : zTo) (k : zKy) (B s : Nat) : Nat := zve T k B 8 / zwt T k.1 B 8 * (1000 - s) / 1000
def zfG (T : zTo) (k : zKy) (B s p : Nat) : Int := ((if p = k.1 then 1000 * (zpe T k.2.1 : Int) * (s : Int) else 0) + zvg T k B p 8 / (zwt T k.1 B 8 : Int) * (1000 - (s : Int))) / 1000
set_option maxRecDepth 100000 in
theorem c_Play_reckonSent (Δ : zD) (w : zW) (b R m : Nat) (T : zTo) (K : List zKy) (hG : zGr w b R m T K) (x : Nat) (k : zKy) (hx : K[x]? = some k) (W n : Nat) (cl : Nat → Nat) (hco : zCo w b W n cl) (C : Option Nat) (s : Nat) (hC : T.2.1 k.1 = 3 → w.2.1 (b + 13) x = zoi C) (hC8 : ∀ q, C = some q → q < 8 ∧ zmay T k q = true) (hch : zCh w b T K k W) (hs : s < 1000) (hU : 0 < zwt T k.1 (ztb T k C) 8) : zMp Δ 2 yX1_reckonSent mX1_reckonSent [.ref b, .int (nI x), .int (nI k.1), .int (nI s)] w (fun a c => a = none ∧ zFh w c b x ∧ c.2.1 = w.2.1 ∧ c.2.2.1 (b + 11) x = lN (zfE T k (ztb T k C) s) ∧ ∀ p, p < 8 → W.testBit p = true → c.2.2.1 (b + 12) (x * 8 + p) = lZ (zfG T k (ztb T k C) s p)) := by
  refine zMp.of mfX1_reckonSent (Nat.le_of_ble_eq_true rfl) (fun QR hQ => ?_)
  have hG0 := hG
  obtain ⟨⟨p0, q0, q1, q2, q3, q4, q5, q6, q7, q8, q9, s11, s12, s13, s14, s15, s16, s17, s18, hS⟩, hi, hT, hall, hL, hrow⟩ := hG
  have hS0 := hS
  obtain ⟨g0, r1, r2, r3, r4, g1, g2, g3, g4, hR, hRm, hm, hR0⟩ := hS
  have hi0 := hi
  obtain ⟨t0, u1, u2, u3, u4, t1, t2, t3, t4⟩ := hi.1
  obtain ⟨-, hsc, hso, hnu, hkn, hwt⟩ := hi
  have hT0 := hT
  obtain ⟨hp0, hp5, hp6, hp7, hp8, hp9, hp10, hp11, hp12, hp13, hpp, hpw⟩ := hT
  have hm2 : 2 ^ m ≤ 2 ^ 15 := Nat.pow_le_pow_right (by decide) hm
  have hKR : K.length ≤ R := hL.2.2.1
  have hxK : x < K.length := (List.getElem?_eq_some_iff.mp hx).1
  have hk : zkok T k := hL.2.2.2.1 k (List.mem_iff_getElem?.mpr ⟨x, hx⟩)
  have cx : (nI x).toNatClampNeg = x := nI_clamp (by omega)
  have hky : w.2.2.1 (b + 6 + 1) x = lN (zenc T k) := hL.1 x k hx
  have hP := zenc_parts hT0 hk
  have hE52 := zenc_lt hT0 hk
  have hk1 : k.1 < 8 := hk.1
  have hk2 := hk.2.1
  have hbl := zmb_lt T k
  have hmayx := (hrow x k hx).1
  have hnx := (hrow x k hx).2
  have hso1 := hso k.1 hk1
  have hnu1 := hnu k.1 hk1
  have hsl := (hpp k.1).1
  have hnl := (hpp k.1).2.1
  have ck : (nI k.1).toNatClampNeg = k.1 := nI_clamp (by omega)
  obtain ⟨hc10, hn8, hcl, hinj, hWc⟩ := hco
  have hpl := zpe_le hT0 (show k.2.1 ≤ 13 by omega)
  have e8 : ∀ q p, nI q * 8 + nI p = nI (q * 8 + p) := fun q p => by rw [show nI q * 8 = nI (q * 8) from na_mul q 8, na_add]
  have hBm : ∀ y, y < 8 → (ztb T k C).testBit y = true → zmay T k y = true := by
    intro y hy hb
    simp only [ztb] at hb
    split at hb
    · cases hc : C with
      | none => rw [hc] at hb; simp at hb
      | some q =>
        rw [hc] at hb
        rw [Nat.testBit_two_pow] at hb
        have hq : q = y := of_decide_eq_true hb
        rw [← hq]; exact (hC8 q hc).2
    · rw [← zmb_tb T k hy]; exact hb
  have hB256 : ztb T k C < 256 := by
    simp only [ztb]
    split
    · cases hc : C with
      | none => simp
      | some q =>
        have := (hC8 q hc).1
        exact Nat.pow_lt_pow_right (a := 2) (m := q) (n := 8) (by decide) this
    · exact hbl
  have htg := c_Play_targetsOf Δ (zrol w (b + 17) (fun k => if k < 8 then 0 else w.2.2.1 (b + 17) k)) b R m T K (hG0.fp (zFp.rl (by omega))) x k hx C hC (fun q hq => (hC8 q hq).1)
  generalize ztb T k C = B at hBm hB256 hU htg hQ
  have hBv : ∀ y, y < 8 → B.testBit y = true → zce T k y ≤ 1000000000 ∧ zwu T k.1 y ≤ 99 := fun y hy hb => ⟨zce_le hT0 hk hy (hBm y hy hb), zwu_le hT0 hk1 hy⟩
  have hBg : ∀ p y, y < 8 → B.testBit y = true → (-430000000 ≤ zbs T k (zce T k) (zcg T k) y p ∧ zbs T k (zce T k) (zcg T k) y p ≤ 430000000) ∧ zwu T k.1 y ≤ 99 := fun p y hy hb => ⟨zbs_rng (B := 420000000) hT0 (zce_le hT0 hk hy (hBm y hy hb)) (zcg_rng hT0 hk hy (hBm y hy hb)), zwu_le hT0 hk1 hy⟩
  have hUl := zwt_le (B := B) hT0 hk1 8 (Nat.le_refl 8)
  have hVE := zve_le hBv 8 (Nat.le_refl 8)
  generalize hS0d : (fun k => if k < 8 then (0 : Int64) else w.2.2.1 (b + 17) k) = S0 at htg
  have hS00 : ∀ p, p < 8 → S0 p = 0 := fun p hp => by rw [← hS0d]; simp [hp]
  have hSin : ∀ c, c < n → zSm S0 cl n k.1 B (zdd T k) (zdx T k) 8 (cl c) = lZ (zvg T k B (cl c) 8) := fun c hc => zSm_in hS00 hinj (fun c hc => (hcl c hc).2) hc 8
  have L3 : ∀ j, j ≤ n → zJ Δ mX1_reckonSent (zRm 2 0 0) true w.1 QR (fun _ _ => False) 0 0 197 [(9, .int (nI j)), (6, .long (lN (zve T k B 8))), (4, .long (lN (zwt T k.1 B 8))), (0, .ref b), (1, .int (nI x)), (2, .int (nI k.1)), (3, .int (nI s))] [] (zrol (zrol w (b + 17) (zSm S0 cl n k.1 B (zdd T k) (zdx T k) 8)) (b + 12) (zcw (w.2.2.1 (b + 12)) x cl (fun p => lZ (zfG T k B s p)) j)) := by
    refine zup (fun j hj ih => ?_)
    refine zJ_iload dX1_reckonSent_197 rfl ?_
    refine zJ_aload_n dX1_reckonSent_199 rfl ?_
    refine zJ_geti dX1_reckonSent_200 fX1_92 (by first | rfl | assumption) rfl ?_
    rw [show ((zrol (zrol w (b + 17) (zSm S0 cl n k.1 B (zdd T k) (zdx T k) 8)) (b + 12) (zcw (w.2.2.1 (b + 12)) x cl (fun p => lZ (zfG T k B s p)) j))).2.1 b 10 = nI n from hc10]
    refine zJ_icmp_ge (tgt := 285) dX1_reckonSent_203 (by decide) (fun h203 => ?_) (fun h203 => ?_)
    · have hj9 : j = n := by exact Nat.le_antisymm hj ((nI_leI (a := n) (b := j) (by omega) (by omega)).mp h203)
      subst hj9
      refine zJ_aload_n dX1_reckonSent_285 rfl ?_
      refine zJ_getr dX1_reckonSent_286 fX1_38 (by first | rfl | assumption) rfl (by first | rfl | assumption) ?_
      refine zJ_iload_n dX1_reckonSent_289 rfl ?_
      refine zJ_lload dX1_reckonSent_290 rfl ?_
      refine zJ_lload dX1_reckonSent_292 rfl ?_
      refine zJ_ldiv dX1_reckonSent_294 (fun h => absurd ((lN_ltL (a := 0) (by decide) (by omega)).mpr hU) (by rw [h]; decide)) ?_
      refine zJ_sipush (v := 1000) dX1_reckonSent_295 (by decide) ?_
      refine zJ_iload_n dX1_reckonSent_298 rfl ?_
      refine zJ_isub dX1_reckonSent_299 ?_
      refine zJ_i2l dX1_reckonSent_300 ?_
      refine zJ_lmul dX1_reckonSent_301 ?_
      refine zJ_ldc2 dX1_reckonSent_302 kX1_139 ?_
      refine zJ_ldiv dX1_reckonSent_305 (by decide) ?_
      have hq1 : zve T k B 8 / zwt T k.1 B 8 ≤ zve T k B 8 := Nat.div_le_self _ _
      have hq2 : zve T k B 8 / zwt T k.1 B 8 * (1000 - s) ≤ 8 * 99000000000 * 1000 := Nat.mul_le_mul (by omega) (by omega)
      rw [lN_div (by omega) (by omega), show (1000 : Int32) - nI s = nI (1000 - s) from na_sub (a := 1000) (by omega), nI_l (by omega), lN_mul, show lN (zve T k B 8 / zwt T k.1 B 8 * (1000 - s)) / (1000 : Int64) = lN (zfE T k B s) from lN_div (by omega) (by decide)]
      refine zJ_last dX1_reckonSent_306 (by first | rfl | assumption) (vp_in_nI (by omega) (by omega)) ?_
      refine zJ_vret dX1_reckonSent_307 rfl (by decide) (by decide) (hQ _ _ ⟨rfl, ⟨rfl, rfl, fun _ _ _ => rfl, fun a q h1 h2 h3 => ?_⟩, rfl, ?_, fun p hp hWp => ?_⟩)
      · rw [cx]
        have n1 : ¬ (a = b + 11 ∧ q = x) := by omega
        simp only [zsl, zrol, n1, h1, if_false]
        by_cases n3 : a = b + 12
        · rw [if_pos n3, n3]; exact zcw_out (fun c hc => (hcl c hc).2) (by omega)
        · rw [if_neg n3]
      · rw [cx]; simp [zsl]
      · rw [cx]
        obtain ⟨c, hc, rfl⟩ := (hWc p hp).mp hWp
        have n1 : ¬ (b + 12 = b + 11) := by omega
        simp only [zsl, zrol, n1, false_and, if_false, if_true]
        rw [zcw_in hc]
    · have hj9 : j < n := Nat.lt_of_not_le fun hq9 => h203 (by exact (nI_leI (a := n) (b := j) (by omega) (by omega)).mpr hq9)
      obtain ⟨hcj, hcj8⟩ := hcl j hj9
      have hvr := zvg_rng (p := cl j) (hBg (cl j))
      have hvq := ediv_rng (b := (zwt T k.1 B 8 : Int)) hvr.1 hvr.2 (by omega) (by decide)
      refine zJ_aload_n dX1_reckonSent_206 rfl ?_
      refine zJ_getr dX1_reckonSent_207 fX1_25 (by first | rfl | assumption) rfl (by first | rfl | assumption) ?_
      refine zJ_iload dX1_reckonSent_210 rfl ?_
      refine zJ_iald dX1_reckonSent_212 (by first | rfl | assumption) (vp_in_nI (by omega) (by omega)) ?_
      refine zJ_istore (ls2 := fun x213 => [(10, .int x213), (9, .int (nI j)), (6, .long (lN (zve T k B 8))), (4, .long (lN (zwt T k.1 B 8))), (0, .ref b), (1, .int (nI x)), (2, .int (nI k.1)), (3, .int (nI s))]) dX1_reckonSent_213 (by decide) (fun _ => rfl) (fun x213 ex213 => ?_)
      obtain rfl : x213 = (nI (cl j)) := by rw [ex213, nI_clamp (show j < 2 ^ 31 by omega)]; exact hcj
      refine zJ_aload_n dX1_reckonSent_215 rfl ?_
      refine zJ_getr dX1_reckonSent_216 fX1_22 (by first | rfl | assumption) rfl (by first | rfl | assumption) ?_
      refine zJ_iload dX1_reckonSent_219 rfl ?_
      refine zJ_lald dX1_reckonSent_221 (by first | rfl | assumption) (vp_in_nI (by omega) (by omega)) ?_
      rw [nI_clamp (show cl j < 2 ^ 31 by omega), show ((zrol (zrol w (b + 17) (zSm S0 cl n k.1 B (zdd T k) (zdx T k) 8)) (b + 12) (zcw (w.2.2.1 (b + 12)) x cl (fun p => lZ (zfG T k B s p)) j))).2.2.1 (b + 17) (cl j) = lZ (zvg T k B (cl j) 8) by
        rw [← hSin j hj9]; simp [zrol]]
      refine zJ_lload dX1_reckonSent_222 rfl ?_
      refine zJ_cS2 dX1_reckonSent_224 sX1_171 mfJ9_floorDiv_f86c9 (c_floorDiv Δ _ _ _ (fun h => absurd ((lN_ltL (a := 0) (by decide) (by omega)).mpr hU) (by rw [h]; decide))) (Nat.le_of_ble_eq_true rfl) (by decide) (by decide) ?_
      rw [show lN (zwt T k.1 B 8) = lZ (zwt T k.1 B 8 : Int) from rfl, lZ_fd (by omega) (by omega) (by omega) (by omega)]
      refine zJ_st (st2 := [.long (lZ (zvg T k B (cl j) 8 / (zwt T k.1 B 8 : Int)))]) rfl ?_
      rw [show lZ (zwt T k.1 B 8 : Int) = lN (zwt T k.1 B 8) from rfl]
      refine zJ_sipush (v := 1000) dX1_reckonSent_227 (by decide) ?_
      refine zJ_iload_n dX1_reckonSent_230 rfl ?_
      refine zJ_isub dX1_reckonSent_231 ?_
      refine zJ_i2l dX1_reckonSent_232 ?_
      refine zJ_lmul dX1_reckonSent_233 ?_
      refine zJ_lstore (ls2 := fun x234 => [(11, .long x234), (10, .int (nI (cl j))), (9, .int (nI j)), (6, .long (lN (zve T k B 8))), (4, .long (lN (zwt T k.1 B 8))), (0, .ref b), (1, .int (nI x)), (2, .int (nI k.1)), (3, .int (nI s))]) dX1_reckonSent_234 (by decide) (fun _ => rfl) (fun x234 ex234 => ?_)
      obtain rfl : x234 = (lZ (zvg T k B (cl j) 8 / (zwt T k.1 B 8 : Int) * (1000 - (s : Int)))) := by rw [ex234, show (1000 : Int32) - nI s = nI (1000 - s) from na_sub (a := 1000) (by omega), nI_l (by omega), lZ_n, lZ_mul, show ((1000 - s : Nat) : Int) = 1000 - (s : Int) by omega]
      refine zJ_iload dX1_reckonSent_236 rfl ?_
      refine zJ_iload_n dX1_reckonSent_238 rfl ?_
      refine zJ_icmp_ne (tgt := 253) dX1_reckonSent_239 (by decide) (fun h239 => ?_) (fun h239 => ?_)
      · have hpk : ¬ cl j = k.1 := fun h => h239 (by rw [h])
        refine zJ_lconst (v := 0) dX1_reckonSent_253 (by decide) ?_
        refine zJ_lstore (ls2 := fun x254 => [(13, .long x254), (11, .long (lZ (zvg T k B (cl j) 8 / (zwt T k.1 B 8 : Int) * (1000 - (s : Int))))), (10, .int (nI (cl j))), (9, .int (nI j)), (6, .long (lN (zve T k B 8))), (4, .long (lN (zwt T k.1 B 8))), (0, .ref b), (1, .int (nI x)), (2, .int (nI k.1)), (3, .int (nI s))]) dX1_reckonSent_254 (by decide) (fun _ => rfl) (fun x254 ex254 => ?_)
        obtain rfl : x254 = (lZ 0) := ex254
        refine zJ_aload_n dX1_reckonSent_256 rfl ?_
        refine zJ_getr dX1_reckonSent_257 fX1_41 (by first | rfl | assumption) rfl (by first | rfl | assumption) ?_
        refine zJ_iload_n dX1_reckonSent_260 rfl ?_
        refine zJ_bipush (v := 8) dX1_reckonSent_261 (by decide) ?_
        refine zJ_imul dX1_reckonSent_263 ?_
        refine zJ_iload dX1_reckonSent_264 rfl ?_
        refine zJ_iadd dX1_reckonSent_266 ?_
        rw [e8]
        refine zJ_lload dX1_reckonSent_267 rfl ?_
        refine zJ_lload dX1_reckonSent_269 rfl ?_
        refine zJ_ladd dX1_reckonSent_271 ?_
        refine zJ_ldc2 dX1_reckonSent_272 kX1_139 ?_
        refine zJ_cS2 dX1_reckonSent_275 sX1_171 mfJ9_floorDiv_f86c9 (c_floorDiv Δ _ _ _ (by decide)) (Nat.le_of_ble_eq_true rfl) (by decide) (by decide) ?_
        have hm1 : (0 : Int) ≤ 1000 - (s : Int) := by omega
        have hz1 : zvg T k B (cl j) 8 / (zwt T k.1 B 8 : Int) * (1000 - (s : Int)) ≤ 400000000000 * 1000 := Int.mul_le_mul hvq.2 (by omega) hm1 (by decide)
        have hz2 : -400000000000 * 1000 ≤ zvg T k B (cl j) 8 / (zwt T k.1 B 8 : Int) * (1000 - (s : Int)) := by
          have h1 : -400000000000 * (1000 - (s : Int)) ≤ zvg T k B (cl j) 8 / (zwt T k.1 B 8 : Int) * (1000 - (s : Int)) := Int.mul_le_mul_of_nonneg_right hvq.1 hm1
          omega
        have hz3 : (zpe T k.2.1 : Int) * (s : Int) ≤ 11187 * 1000 := Int.mul_le_mul (by omega) (by omega) (by omega) (by decide)
        have hz4 : 0 ≤ (zpe T k.2.1 : Int) * (s : Int) := Int.mul_nonneg (by omega) (by omega)
        have hz5 : 1000 * (zpe T k.2.1 : Int) * (s : Int) = 1000 * ((zpe T k.2.1 : Int) * (s : Int)) := Int.mul_assoc _ _ _
        rw [lZ_add, show (1000 : Int64) = lZ 1000 from rfl, lZ_fd (by omega) (by omega) (by decide) (by decide)]
        refine zJ_st (st2 := [.long (lZ (zfG T k B s (cl j))), .int (nI (x * 8 + cl j)), .ref (b + 12)]) (by simp only [zfG, hpk, if_true, if_false]; rfl) ?_
        refine zJ_last dX1_reckonSent_278 (by first | rfl | assumption) (vp_in_nI (by omega) (by omega)) ?_
        refine zJ_iinc (ls2 := fun x279 => [(9, .int x279), (13, .long (lZ 0)), (11, .long (lZ (zvg T k B (cl j) 8 / (zwt T k.1 B 8 : Int) * (1000 - (s : Int))))), (10, .int (nI (cl j))), (6, .long (lN (zve T k B 8))), (4, .long (lN (zwt T k.1 B 8))), (0, .ref b), (1, .int (nI x)), (2, .int (nI k.1)), (3, .int (nI s))]) dX1_reckonSent_279 rfl (by decide) (fun _ => rfl) (fun x279 ex279 => ?_)
        refine zJ_goto (tgt := 197) dX1_reckonSent_282 (by decide) ?_
        refine zJ_ls [(9, .int x279), (6, .long (lN (zve T k B 8))), (4, .long (lN (zwt T k.1 B 8))), (0, .ref b), (1, .int (nI x)), (2, .int (nI k.1)), (3, .int (nI s))] (by simp) ?_
        rw [ex279, show nI j + Int32.ofInt 1 = nI (j + 1) from nI_1 _]
        refine zJ_w (w2 := (zrol (zrol w (b + 17) (zSm S0 cl n k.1 B (zdd T k) (zdx T k) 8)) (b + 12) (zcw (w.2.2.1 (b + 12)) x cl (fun p => lZ (zfG T k B s p)) (j + 1)))) ?_ (ih (j + 1) (by omega) (by omega))
        rw [nI_clamp (show x * 8 + cl j < 2 ^ 31 by omega), zsl_row, zrol_get, zrol_rol]
        rfl
      · have hpk : cl j = k.1 := (nI_eq (by omega) (by omega)).mp h239
        refine zJ_aload_n dX1_reckonSent_242 rfl ?_
        refine zJ_iload_n dX1_reckonSent_243 rfl ?_
        refine zJ_cV1 dX1_reckonSent_244 sX1_119 mfX1_openingOf (c_Play_openingOf Δ (zrol (zrol w (b + 17) (zSm S0 cl n k.1 B (zdd T k) (zdx T k) 8)) (b + 12) (zcw (w.2.2.1 (b + 12)) x cl (fun p => lZ (zfG T k B s p)) j)) b R m T K (hG0.fp ((zFp.rl (by omega)).tr (zFp.rl (by omega)))) x k hx) (by first | rfl | assumption) rfl (Nat.le_of_ble_eq_true rfl) (by decide) (by decide) ?_
        refine zJ_iload_n dX1_reckonSent_247 rfl ?_
        refine zJ_i2l dX1_reckonSent_248 ?_
        refine zJ_lmul dX1_reckonSent_249 ?_
        refine zJ_goto (tgt := 254) dX1_reckonSent_250 (by decide) ?_
        refine zJ_lstore (ls2 := fun x254 => [(13, .long x254), (11, .long (lZ (zvg T k B (cl j) 8 / (zwt T k.1 B 8 : Int) * (1000 - (s : Int))))), (10, .int (nI (cl j))), (9, .int (nI j)), (6, .long (lN (zve T k B 8))), (4, .long (lN (zwt T k.1 B 8))), (0, .ref b), (1, .int (nI x)), (2, .int (nI k.1)), (3, .int (nI s))]) dX1_reckonSent_254 (by decide) (fun _ => rfl) (fun x254 ex254 => ?_)
        obtain rfl : x254 = (lZ (1000 * (zpe T k.2.1 : Int) * (s : Int))) := by rw [ex254, nI_l (by omega), lZ_n, lZ_mul]
        refine zJ_aload_n dX1_reckonSent_256 rfl ?_
        refine zJ_getr dX1_reckonSent_257 fX1_41 (by first | rfl | assumption) rfl (by first | rfl | assumption) ?_
        refine zJ_iload_n dX1_reckonSent_260 rfl ?_
        refine zJ_bipush (v := 8) dX1_reckonSent_261 (by decide) ?_
        refine zJ_imul dX1_reckonSent_263 ?_
        refine zJ_iload dX1_reckonSent_264 rfl ?_
        refine zJ_iadd dX1_reckonSent_266 ?_
        rw [e8]
        refine zJ_lload dX1_reckonSent_267 rfl ?_
        refine zJ_lload dX1_reckonSent_269 rfl ?_
        refine zJ_ladd dX1_reckonSent_271 ?_
        refine zJ_ldc2 dX1_reckonSent_272 kX1_139 ?_
        refine zJ_cS2 dX1_reckonSent_275 sX1_171 mfJ9_floorDiv_f86c9 (c_floorDiv Δ _ _ _ (by decide)) (Nat.le_of_ble_eq_true rfl) (by decide) (by decide) ?_
        have hm1 : (0 : Int) ≤ 1000 - (s : Int) := by omega
        have hz1 : zvg T k B (cl j) 8 / (zwt T k.1 B 8 : Int) * (1000 - (s : Int)) ≤ 400000000000 * 1000 := Int.mul_le_mul hvq.2 (by omega) hm1 (by decide)
        have hz2 : -400000000000 * 1000 ≤ zvg T k B (cl j) 8 / (zwt T k.1 B 8 : Int) * (1000 - (s : Int)) := by
          have h1 : -400000000000 * (1000 - (s : Int)) ≤ zvg T k B (cl j) 8 / (zwt T k.1 B 8 : Int) * (1000 - (s : Int)) := Int.mul_le_mul_of_nonneg_right hvq.1 hm1
          omega
        have hz3 : (zpe T k.2.1 : Int) * (s : Int) ≤ 11187 * 1000 := Int.mul_le_mul (by omega) (by omega) (by omega) (by decide)
        have hz4 : 0 ≤ (zpe T k.2.1 : Int) * (s : Int) := Int.mul_nonneg (by omega) (by omega)
        have hz5 : 1000 * (zpe T k.2.1 : Int) * (s : Int) = 1000 * ((zpe T k.2.1 : Int) * (s : Int)) := Int.mul_assoc _ _ _
        rw [lZ_add, show (1000 : Int64) = lZ 1000 from rfl, lZ_fd (by omega) (by omega) (by decide) (by decide)]
        refine zJ_st (st2 := [.long (lZ (zfG T k B s (cl j))), .int (nI (x * 8 + cl j)), .ref (b + 12)]) (by simp only [zfG, hpk, if_true, if_false]; rfl) ?_
        refine zJ_last dX1_reckonSent_278 (by first | rfl | assumption) (vp_in_nI (by omega) (by omega)) ?_
        refine zJ_iinc (ls2 := fun x279 => [(9, .int x279), (13, .long (lZ (1000 * (zpe T k.2.1 : Int) * (s : Int)))), (11, .long (lZ (zvg T k B (cl j) 8 / (zwt T k.1 B 8 : Int) * (1000 - (s : Int))))), (10, .int (nI (cl j))), (6, .long (lN (zve T k B 8))), (4, .long (lN (zwt T k.1 B 8))), (0, .ref b), (1, .int (nI x)), (2, .int (nI k.1)), (3, .int (nI s))]) dX1_reckonSent_279 rfl (by decide) (fun _ => rfl) (fun x279 ex279 => ?_)
        refine zJ_goto (tgt := 197) dX1_reckonSent_282 (by decide) ?_
        refine zJ_ls [(9, .int x279), (6, .long (lN (zve T k B 8))), (4, .long (lN (zwt T k.1 B 8))), (0, .ref b), (1, .int (nI x)), (2, .int (nI k.1)), (3, .int (nI s))] (by simp) ?_
        rw [ex279, show nI j + Int32.ofInt 1 = nI (j + 1) from nI_1 _]
        refine zJ_w (w2 := (zrol (zrol w (b + 17) (zSm S0 cl n k.1 B (zdd T k) (zdx T k) 8)) (b + 12) (zcw (w.2.2.1 (b + 12)) x cl (fun p => lZ (zfG T k B s p)) (j + 1)))) ?_ (ih (j + 1) (by omega) (by omega))
        rw [nI_clamp (show x * 8 + cl j < 2 ^ 31 by omega), zsl_row, zrol_get, zrol_rol]
        rfl
  have L2 : ∀ j, j < 8 → B.testBit j = true → ∀ c, K[c]? = some (zbk T k j) → (zJ Δ mX1_reckonSent (zRm 2 0 0) true w.1 QR (fun _ _ => False) 0 0 24 [(9, .int (nI (j + 1))), (8, .int (nI B)), (6, .long (lN (zve T k B (j + 1)))), (4, .long (lN (zwt T k.1 B (j + 1)))), (0, .ref b), (1, .int (nI x)), (2, .int (nI k.1)), (3, .int (nI s))] [] (zrol w (b + 17) (zSm S0 cl n k.1 B (zdd T k) (zdx T k) (j + 1)))) → ∀ q, q ≤ n → zJ Δ mX1_reckonSent (zRm 2 0 0) true w.1 QR (fun _ _ => False) 0 0 98 [(13, .int (nI q)), (6, .long (lN (zve T k B (j + 1)))), (4, .long (lN (zwt T k.1 B (j + 1)))), (11, .long (lN (zwu T k.1 j))), (10, .int (nI c)), (9, .int (nI j)), (8, .int (nI B)), (0, .ref b), (1, .int (nI x)), (2, .int (nI k.1)), (3, .int (nI s))] [] (zrol w (b + 17) (zad (zSm S0 cl n k.1 B (zdd T k) (zdx T k) j) cl (zdd T k j) q)) := by
    intro j hj hb c hc hgo
    have hcK : c < K.length := (List.getElem?_eq_some_iff.mp hc).1
    obtain ⟨hve, hvg⟩ := hch j hj (hBm j hj hb) c hc
    have hel := zce_le hT0 hk hj (hBm j hj hb)
    refine zup (fun q hq ih => ?_)
    refine zJ_iload dX1_reckonSent_98 rfl ?_
    refine zJ_aload_n dX1_reckonSent_100 rfl ?_
    refine zJ_geti dX1_reckonSent_101 fX1_92 (by first | rfl | assumption) rfl ?_
    rw [show ((zrol w (b + 17) (zad (zSm S0 cl n k.1 B (zdd T k) (zdx T k) j) cl (zdd T k j) q))).2.1 b 10 = nI n from hc10]
    refine zJ_icmp_ge (tgt := 149) dX1_reckonSent_104 (by decide) (fun h104 => ?_) (fun h104 => ?_)
    · have hq9 : q = n := by exact Nat.le_antisymm hq ((nI_leI (a := n) (b := q) (by omega) (by omega)).mp h104)
      have hq8 := hq9.symm
      subst hq8
      refine zJ_aload_n dX1_reckonSent_149 rfl ?_
      refine zJ_getr dX1_reckonSent_150 fX1_22 (by first | rfl | assumption) rfl (by first | rfl | assumption) ?_
      refine zJ_iload_n dX1_reckonSent_153 rfl ?_
      refine zJ_dup2_11 dX1_reckonSent_154 rfl rfl ?_
      refine zJ_lald dX1_reckonSent_155 (by first | rfl | assumption) (vp_in_nI (by omega) (by omega)) ?_
      rw [ck, zrol_get]
      refine zJ_lload dX1_reckonSent_156 rfl ?_
      refine zJ_aload_n dX1_reckonSent_158 rfl ?_
      refine zJ_iload dX1_reckonSent_159 rfl ?_
      refine zJ_cV1 dX1_reckonSent_161 sX1_165 mfX1_payFor (c_Play_payFor Δ (zrol w (b + 17) (zad (zSm S0 cl n k.1 B (zdd T k) (zdx T k) j) cl (zdd T k j) n)) b R m T K (hG0.fp (zFp.rl (by omega))) c (zce T k j) hcK hel (by rw [show zce T k j = (zvl T (zbk T k j)).1 from rfl, ← hve]; simp [zrol])) (by first | rfl | assumption) rfl (Nat.le_of_ble_eq_true rfl) (by decide) (by decide) ?_
      refine zJ_ldc2 dX1_reckonSent_164 kX1_139 ?_
      refine zJ_aload_n dX1_reckonSent_167 rfl ?_
      refine zJ_getr dX1_reckonSent_168 fX1_12 (by first | rfl | assumption) rfl (by first | rfl | assumption) ?_
      refine zJ_geti dX1_reckonSent_171 fX1_168 (by first | rfl | assumption) rfl ?_
      rw [show ((zrol w (b + 17) (zad (zSm S0 cl n k.1 B (zdd T k) (zdx T k) j) cl (zdd T k j) n))).2.1 (b + 1) 6 = nI (T.1 6) from hsc 6 (by decide) (by decide)]
      refine zJ_i2l dX1_reckonSent_174 ?_
      rw [nI_l (by omega)]
      refine zJ_lmul dX1_reckonSent_175 ?_
      refine zJ_lsub dX1_reckonSent_176 ?_
      refine zJ_lmul dX1_reckonSent_177 ?_
      refine zJ_ladd dX1_reckonSent_178 ?_
      refine zJ_last dX1_reckonSent_179 (by first | rfl | assumption) (vp_in_nI (by omega) (by omega)) ?_
      refine zJ_iinc (ls2 := fun x180 => [(9, .int x180), (13, .int (nI n)), (6, .long (lN (zve T k B (j + 1)))), (4, .long (lN (zwt T k.1 B (j + 1)))), (11, .long (lN (zwu T k.1 j))), (10, .int (nI c)), (8, .int (nI B)), (0, .ref b), (1, .int (nI x)), (2, .int (nI k.1)), (3, .int (nI s))]) dX1_reckonSent_180 rfl (by decide) (fun _ => rfl) (fun x180 ex180 => ?_)
      refine zJ_goto (tgt := 24) dX1_reckonSent_183 (by decide) ?_
      refine zJ_ls [(9, .int x180), (8, .int (nI B)), (6, .long (lN (zve T k B (j + 1)))), (4, .long (lN (zwt T k.1 B (j + 1)))), (0, .ref b), (1, .int (nI x)), (2, .int (nI k.1)), (3, .int (nI s))] (by simp) ?_
      rw [ex180, show nI j + Int32.ofInt 1 = nI (j + 1) from nI_1 _]
      refine zJ_w (w2 := (zrol w (b + 17) (zSm S0 cl n k.1 B (zdd T k) (zdx T k) (j + 1)))) ?_ hgo
      rw [ck, zsl_row, zrol_get, zrol_rol]
      refine congrArg (zrol w (b + 17)) (funext fun p => ?_)
      simp only [zSm, hb, if_true]
      by_cases hp : p = k.1
      · rw [if_pos hp, if_pos hp, hp]; rfl
      · rw [if_neg hp, if_neg hp]
    · have hq9 : q < n := Nat.lt_of_not_le fun hq9 => h104 (by exact (nI_leI (a := n) (b := q) (by omega) (by omega)).mpr hq9)
      obtain ⟨hcj, hcj8⟩ := hcl q hq9
      refine zJ_aload_n dX1_reckonSent_107 rfl ?_
      refine zJ_getr dX1_reckonSent_108 fX1_22 (by first | rfl | assumption) rfl (by first | rfl | assumption) ?_
      refine zJ_aload_n dX1_reckonSent_111 rfl ?_
      refine zJ_getr dX1_reckonSent_112 fX1_25 (by first | rfl | assumption) rfl (by first | rfl | assumption) ?_
      refine zJ_iload dX1_reckonSent_115 rfl ?_
      refine zJ_iald dX1_reckonSent_117 (by first | rfl | assumption) (vp_in_nI (by omega) (by omega)) ?_
      rw [nI_clamp (show q < 2 ^ 31 by omega), show ((zrol w (b + 17) (zad (zSm S0 cl n k.1 B (zdd T k) (zdx T k) j) cl (zdd T k j) q))).2.1 (b + 18) q = nI (cl q) from hcj]
      refine zJ_dup2_11 dX1_reckonSent_118 rfl rfl ?_
      refine zJ_lald dX1_reckonSent_119 (by first | rfl | assumption) (vp_in_nI (by omega) (by omega)) ?_
      rw [nI_clamp (show cl q < 2 ^ 31 by omega), zrol_get]
      refine zJ_lload dX1_reckonSent_120 rfl ?_
      refine zJ_aload_n dX1_reckonSent_122 rfl ?_
      refine zJ_getr dX1_reckonSent_123 fX1_41 (by first | rfl | assumption) rfl (by first | rfl | assumption) ?_
      refine zJ_iload dX1_reckonSent_126 rfl ?_
      refine zJ_bipush (v := 8) dX1_reckonSent_128 (by decide) ?_
      refine zJ_imul dX1_reckonSent_130 ?_
      refine zJ_aload_n dX1_reckonSent_131 rfl ?_
      refine zJ_getr dX1_reckonSent_132 fX1_25 (by first | rfl | assumption) rfl (by first | rfl | assumption) ?_
      refine zJ_iload dX1_reckonSent_135 rfl ?_
      refine zJ_iald dX1_reckonSent_137 (by first | rfl | assumption) (vp_in_nI (by omega) (by omega)) ?_
      rw [nI_clamp (show q < 2 ^ 31 by omega), show ((zrol w (b + 17) (zad (zSm S0 cl n k.1 B (zdd T k) (zdx T k) j) cl (zdd T k j) q))).2.1 (b + 18) q = nI (cl q) from hcj]
      refine zJ_iadd dX1_reckonSent_138 ?_
      rw [e8]
      refine zJ_lald dX1_reckonSent_139 (by first | rfl | assumption) (vp_in_nI (by omega) (by omega)) ?_
      rw [nI_clamp (show c * 8 + cl q < 2 ^ 31 by omega), show ((zrol w (b + 17) (zad (zSm S0 cl n k.1 B (zdd T k) (zdx T k) j) cl (zdd T k j) q))).2.2.1 (b + 12) (c * 8 + cl q) = lZ (zcg T k j (cl q)) by
        rw [show zcg T k j (cl q) = (zvl T (zbk T k j)).2.1 (cl q) from rfl, ← hvg (cl q) hcj8 ((hWc _ hcj8).mpr ⟨q, hq9, rfl⟩)]; simp [zrol]]
      refine zJ_lmul dX1_reckonSent_140 ?_
      refine zJ_ladd dX1_reckonSent_141 ?_
      refine zJ_last dX1_reckonSent_142 (by first | rfl | assumption) (vp_in_nI (by omega) (by omega)) ?_
      refine zJ_iinc (ls2 := fun x143 => [(13, .int x143), (6, .long (lN (zve T k B (j + 1)))), (4, .long (lN (zwt T k.1 B (j + 1)))), (11, .long (lN (zwu T k.1 j))), (10, .int (nI c)), (9, .int (nI j)), (8, .int (nI B)), (0, .ref b), (1, .int (nI x)), (2, .int (nI k.1)), (3, .int (nI s))]) dX1_reckonSent_143 rfl (by decide) (fun _ => rfl) (fun x143 ex143 => ?_)
      refine zJ_goto (tgt := 98) dX1_reckonSent_146 (by decide) ?_
      refine zJ_ls [(13, .int x143), (6, .long (lN (zve T k B (j + 1)))), (4, .long (lN (zwt T k.1 B (j + 1)))), (11, .long (lN (zwu T k.1 j))), (10, .int (nI c)), (9, .int (nI j)), (8, .int (nI B)), (0, .ref b), (1, .int (nI x)), (2, .int (nI k.1)), (3, .int (nI s))] (by simp) ?_
      rw [ex143, show nI q + Int32.ofInt 1 = nI (q + 1) from nI_1 _]
      refine zJ_w (w2 := (zrol w (b + 17) (zad (zSm S0 cl n k.1 B (zdd T k) (zdx T k) j) cl (zdd T k j) (q + 1)))) ?_ (ih (q + 1) (by omega) (by omega))
      rw [nI_clamp (show cl q < 2 ^ 31 by omega), zsl_row, zrol_get, zrol_rol]
      refine congrArg (zrol w (b + 17)) (funext fun p => ?_)
      simp only [zad]
      by_cases hp : p = cl q
      · rw [if_pos hp, if_pos hp, hp]; rfl
      · rw [if_neg hp, if_neg hp]
  have L1 : ∀ j, j ≤ 8 → zJ Δ mX1_reckonSent (zRm 2 0 0) true w.1 QR (fun _ _ => False) 0 0 24 [(9, .int (nI j)), (8, .int (nI B)), (6, .long (lN (zve T k B j))), (4, .long (lN (zwt T k.1 B j))), (0, .ref b), (1, .int (nI x)), (2, .int (nI k.1)), (3, .int (nI s))] [] (zrol w (b + 17) (zSm S0 cl n k.1 B (zdd T k) (zdx T k) j)) := by
    refine zup (fun j hj ih => ?_)
    refine zJ_iload dX1_reckonSent_24 rfl ?_
    refine zJ_bipush (v := 8) dX1_reckonSent_26 (by decide) ?_
    refine zJ_icmp_ge (tgt := 186) dX1_reckonSent_28 (by decide) (fun h28 => ?_) (fun h28 => ?_)
    · have hj9 : j = 8 := by exact Nat.le_antisymm hj ((nI_leI (a := 8) (b := j) (by omega) (by omega)).mp h28)
      subst hj9
      refine zJ_lload dX1_reckonSent_186 rfl ?_
      refine zJ_lconst (v := 0) dX1_reckonSent_188 (by decide) ?_
      refine zJ_lc_gt (tgt := 194) dX1_reckonSent_189 dX1_reckonSent_190 (by decide) (fun h190 => ?_) (fun h190 => ?_)
      · refine zJ_iconst (v := 0) dX1_reckonSent_194 (by decide) ?_
        refine zJ_istore (ls2 := fun x195 => [(9, .int x195), (8, .int (nI B)), (6, .long (lN (zve T k B 8))), (4, .long (lN (zwt T k.1 B 8))), (0, .ref b), (1, .int (nI x)), (2, .int (nI k.1)), (3, .int (nI s))]) dX1_reckonSent_195 (by decide) (fun _ => rfl) (fun x195 ex195 => ?_)
        obtain rfl : x195 = (nI 0) := ex195
        refine zJ_ls [(9, .int (nI 0)), (6, .long (lN (zve T k B 8))), (4, .long (lN (zwt T k.1 B 8))), (0, .ref b), (1, .int (nI x)), (2, .int (nI k.1)), (3, .int (nI s))] (by simp) ?_
        refine zJ_w (w2 := (zrol (zrol w (b + 17) (zSm S0 cl n k.1 B (zdd T k) (zdx T k) 8)) (b + 12) (zcw (w.2.2.1 (b + 12)) x cl (fun p => lZ (zfG T k B s p)) 0))) ?_ (L3 0 (Nat.zero_le _))
        have e1 : (zrol w (b + 17) (zSm S0 cl n k.1 B (zdd T k) (zdx T k) 8)).2.2.1 (b + 12) = w.2.2.1 (b + 12) := by funext i; simp [zrol]
        have e2 := zrol_self (zrol w (b + 17) (zSm S0 cl n k.1 B (zdd T k) (zdx T k) 8)) (b + 12)
        rw [e1] at e2
        exact e2.symm
      · exact absurd ((lN_ltL (a := 0) (by decide) (by omega)).mpr hU) h190
    · have hj9 : j < 8 := Nat.lt_of_not_le fun hq9 => h28 (by exact (nI_leI (a := 8) (b := j) (by omega) (by omega)).mpr hq9)
      refine zJ_aload_n dX1_reckonSent_31 rfl ?_
      refine zJ_getr dX1_reckonSent_32 fX1_34 (by first | rfl | assumption) rfl (by first | rfl | assumption) ?_
      refine zJ_getr dX1_reckonSent_35 fX1_158 (by first | rfl | assumption) rfl (by first | rfl | assumption) ?_
      refine zJ_iload_n dX1_reckonSent_38 rfl ?_
      refine zJ_bipush (v := 8) dX1_reckonSent_39 (by decide) ?_
      refine zJ_imul dX1_reckonSent_41 ?_
      refine zJ_iload dX1_reckonSent_42 rfl ?_
      refine zJ_iadd dX1_reckonSent_44 ?_
      rw [e8]
      refine zJ_iald dX1_reckonSent_45 (by first | rfl | assumption) (vp_in_nI (by omega) (by omega)) ?_
      refine zJ_istore (ls2 := fun x46 => [(10, .int x46), (9, .int (nI j)), (8, .int (nI B)), (6, .long (lN (zve T k B j))), (4, .long (lN (zwt T k.1 B j))), (0, .ref b), (1, .int (nI x)), (2, .int (nI k.1)), (3, .int (nI s))]) dX1_reckonSent_46 (by decide) (fun _ => rfl) (fun x46 ex46 => ?_)
      refine zJ_iload dX1_reckonSent_48 rfl ?_
      refine zJ_iload dX1_reckonSent_50 rfl ?_
      refine zJ_ishr dX1_reckonSent_52 ?_
      refine zJ_iconst (v := 1) dX1_reckonSent_53 (by decide) ?_
      refine zJ_iand dX1_reckonSent_54 ?_
      rw [nI_bit (by omega) (by omega)]
      refine zJ_if_eq (tgt := 180) dX1_reckonSent_55 (by decide) (fun h55 => ?_) (fun h55 => ?_)
      · have hb : B.testBit j = false := by
          cases hz : B.testBit j with
          | false => rfl
          | true =>
            rw [tb_of.mp hz] at h55
            exact absurd h55 (by decide)
        have e1 : zSm S0 cl n k.1 B (zdd T k) (zdx T k) (j + 1) = zSm S0 cl n k.1 B (zdd T k) (zdx T k) j := by simp [zSm, hb]
        have e2 : zve T k B (j + 1) = zve T k B j := by simp [zve, fb_sm, hb]
        have e3 := zwt_s0 (T := T) (a := k.1) hb
        refine zJ_iinc (ls2 := fun x180 => [(9, .int x180), (10, .int x46), (8, .int (nI B)), (6, .long (lN (zve T k B j))), (4, .long (lN (zwt T k.1 B j))), (0, .ref b), (1, .int (nI x)), (2, .int (nI k.1)), (3, .int (nI s))]) dX1_reckonSent_180 rfl (by decide) (fun _ => rfl) (fun x180 ex180 => ?_)
        refine zJ_goto (tgt := 24) dX1_reckonSent_183 (by decide) ?_
        refine zJ_ls [(9, .int x180), (8, .int (nI B)), (6, .long (lN (zve T k B j))), (4, .long (lN (zwt T k.1 B j))), (0, .ref b), (1, .int (nI x)), (2, .int (nI k.1)), (3, .int (nI s))] (by simp) ?_
        rw [ex180, show nI j + Int32.ofInt 1 = nI (j + 1) from nI_1 _]
        rw [← e1, ← e2, ← e3]
        exact ih (j + 1) (by omega) (by omega)
      · have hb : B.testBit j = true := by
          rw [tb_of]
          have h1 : ¬ B / 2 ^ j % 2 = 0 := fun h => h55 (by rw [h]; rfl)
          omega
        obtain ⟨c, hc, hnc⟩ := (hnx j hj9).1 (hBm j hj9 hb)
        have hcK : c < K.length := (List.getElem?_eq_some_iff.mp hc).1
        rw [nI_clamp (show x * 8 + j < 2 ^ 31 by omega), show ((zrol w (b + 17) (zSm S0 cl n k.1 B (zdd T k) (zdx T k) j))).2.1 (b + 6 + 3) (x * 8 + j) = nI c from hnc] at ex46
        refine zJ_iload dX1_reckonSent_58 rfl ?_
        refine zJ_if_lt (tgt := 180) dX1_reckonSent_60 (by decide) (fun h60 => ?_) (fun h60 => ?_)
        · rw [ex46] at h60
          exact absurd ((nI_ltI (a := c) (b := 0) (by omega) (by decide)).mp h60) (by omega)
        · obtain ⟨hve, hvg⟩ := hch j hj9 (hBm j hj9 hb) c hc
          have hul := zwu_le hT0 hk1 hj9
          obtain rfl : x46 = nI c := ex46
          refine zJ_aload_n dX1_reckonSent_63 rfl ?_
          refine zJ_iload_n dX1_reckonSent_64 rfl ?_
          refine zJ_iload dX1_reckonSent_65 rfl ?_
          refine zJ_cV2 dX1_reckonSent_67 sX1_161 mfX1_weightTo (c_Play_weightTo Δ (zrol w (b + 17) (zSm S0 cl n k.1 B (zdd T k) (zdx T k) j)) b R m T K (hG0.fp (zFp.rl (by omega))) k.1 j hk1 hj9) (by first | rfl | assumption) rfl (Nat.le_of_ble_eq_true rfl) (by decide) (by decide) ?_
          refine zJ_i2l dX1_reckonSent_70 ?_
          refine zJ_lstore (ls2 := fun x71 => [(11, .long x71), (10, .int (nI c)), (9, .int (nI j)), (8, .int (nI B)), (6, .long (lN (zve T k B j))), (4, .long (lN (zwt T k.1 B j))), (0, .ref b), (1, .int (nI x)), (2, .int (nI k.1)), (3, .int (nI s))]) dX1_reckonSent_71 (by decide) (fun _ => rfl) (fun x71 ex71 => ?_)
          obtain rfl : x71 = (lN (zwu T k.1 j)) := by rw [ex71, nI_l (by omega)]
          refine zJ_lload dX1_reckonSent_73 rfl ?_
          refine zJ_lload dX1_reckonSent_75 rfl ?_
          refine zJ_ladd dX1_reckonSent_77 ?_
          refine zJ_lstore (ls2 := fun x78 => [(4, .long x78), (11, .long (lN (zwu T k.1 j))), (10, .int (nI c)), (9, .int (nI j)), (8, .int (nI B)), (6, .long (lN (zve T k B j))), (0, .ref b), (1, .int (nI x)), (2, .int (nI k.1)), (3, .int (nI s))]) dX1_reckonSent_78 (by decide) (fun _ => rfl) (fun x78 ex78 => ?_)
          obtain rfl : x78 = (lN (zwt T k.1 B (j + 1))) := by rw [ex78, lN_add, zwt_s1 hb]
          refine zJ_lload dX1_reckonSent_80 rfl ?_
          refine zJ_lload dX1_reckonSent_82 rfl ?_
          refine zJ_aload_n dX1_reckonSent_84 rfl ?_
          refine zJ_getr dX1_reckonSent_85 fX1_38 (by first | rfl | assumption) rfl (by first | rfl | assumption) ?_
          refine zJ_iload dX1_reckonSent_88 rfl ?_
          refine zJ_lald dX1_reckonSent_90 (by first | rfl | assumption) (vp_in_nI (by omega) (by omega)) ?_
          rw [nI_clamp (show c < 2 ^ 31 by omega), show ((zrol w (b + 17) (zSm S0 cl n k.1 B (zdd T k) (zdx T k) j))).2.2.1 (b + 11) c = lN (zce T k j) by rw [show zce T k j = (zvl T (zbk T k j)).1 from rfl, ← hve]; simp [zrol]]
          refine zJ_lmul dX1_reckonSent_91 ?_
          refine zJ_ladd dX1_reckonSent_92 ?_
          refine zJ_lstore (ls2 := fun x93 => [(6, .long x93), (4, .long (lN (zwt T k.1 B (j + 1)))), (11, .long (lN (zwu T k.1 j))), (10, .int (nI c)), (9, .int (nI j)), (8, .int (nI B)), (0, .ref b), (1, .int (nI x)), (2, .int (nI k.1)), (3, .int (nI s))]) dX1_reckonSent_93 (by decide) (fun _ => rfl) (fun x93 ex93 => ?_)
          obtain rfl : x93 = (lN (zve T k B (j + 1))) := by rw [ex93, lN_mul, lN_add]; simp [zve, fb_sm, hb]
          refine zJ_iconst (v := 0) dX1_reckonSent_95 (by decide) ?_
          refine zJ_istore (ls2 := fun x96 => [(13, .int x96), (6, .long (lN (zve T k B (j + 1)))), (4, .long (lN (zwt T k.1 B (j + 1)))), (11, .long (lN (zwu T k.1 j))), (10, .int (nI c)), (9, .int (nI j)), (8, .int (nI B)), (0, .ref b), (1, .int (nI x)), (2, .int (nI k.1)), (3, .int (nI s))]) dX1_reckonSent_96 (by decide) (fun _ => rfl) (fun x96 ex96 => ?_)
          obtain rfl : x96 = (nI 0) := ex96
          refine zJ_ls [(13, .int (nI 0)), (6, .long (lN (zve T k B (j + 1)))), (4, .long (lN (zwt T k.1 B (j + 1)))), (11, .long (lN (zwu T k.1 j))), (10, .int (nI c)), (9, .int (nI j)), (8, .int (nI B)), (0, .ref b), (1, .int (nI x)), (2, .int (nI k.1)), (3, .int (nI s))] (by simp) (L2 j hj9 hb c hc (ih (j + 1) (by omega) (by omega)) 0 (Nat.zero_le _))
  refine zJ_lconst (v := 0) dX1_reckonSent_0 (by decide) ?_
  refine zJ_lstore (ls2 := fun x1 => [(4, .long x1), (0, .ref b), (1, .int (nI x)), (2, .int (nI k.1)), (3, .int (nI s))]) dX1_reckonSent_1 (by decide) (fun _ => rfl) (fun x1 ex1 => ?_)
  obtain rfl : x1 = (lN 0) := ex1
  refine zJ_lconst (v := 0) dX1_reckonSent_3 (by decide) ?_
  refine zJ_lstore (ls2 := fun x4 => [(6, .long x4), (4, .long (lN 0)), (0, .ref b), (1, .int (nI x)), (2, .int (nI k.1)), (3, .int (nI s))]) dX1_reckonSent_4 (by decide) (fun _ => rfl) (fun x4 ex4 => ?_)
  obtain rfl : x4 = (lN 0) := ex4
  refine zJ_aload_n dX1_reckonSent_6 rfl ?_
  refine zJ_getr dX1_reckonSent_7 fX1_22 (by first | rfl | assumption) rfl (by first | rfl | assumption) ?_
  refine zJ_lconst (v := 0) dX1_reckonSent_10 (by decide) ?_
  refine zJ_cS2 dX1_reckonSent_11 sX1_149 mfJ7_fill_d0a16 (c_fill_l Δ w (b + 17) 8 0 (by decide) s17) (Nat.le_of_ble_eq_true rfl) (by decide) (by decide) ?_
  rw [hS0d]
  refine zJ_aload_n dX1_reckonSent_14 rfl ?_
  refine zJ_iload_n dX1_reckonSent_15 rfl ?_
  refine zJ_cV1 dX1_reckonSent_16 sX1_155 mfX1_targetsOf htg (by first | rfl | assumption) rfl (Nat.le_of_ble_eq_true rfl) (by decide) (by decide) ?_
  refine zJ_istore (ls2 := fun x19 => [(8, .int x19), (6, .long (lN 0)), (4, .long (lN 0)), (0, .ref b), (1, .int (nI x)), (2, .int (nI k.1)), (3, .int (nI s))]) dX1_reckonSent_19 (by decide) (fun _ => rfl) (fun x19 ex19 => ?_)
  obtain rfl : x19 = (nI B) := ex19
  refine zJ_iconst (v := 0) dX1_reckonSent_21 (by decide) ?_
  refine zJ_istore (ls2 := fun x22 => [(9, .int x22), (8, .int (nI B)), (6, .long (lN 0)), (4, .long (lN 0)), (0, .ref b), (1, .int (nI x)), (2, .int (nI k.1)), (3, .int (nI s))]) dX1_reckonSent_22 (by decide) (fun _ => rfl) (fun x22 ex22 => ?_)
  obtain rfl : x22 = (nI 0) := ex22
  refine zJ_ls [(9, .int (nI 0)), (8, .int (nI B)), (6, .long (lN 0)), (4, .long (lN 0)), (0, .ref b), (1, .int (nI x)), (2, .int (nI k.1)), (3, .int (nI s))] (by simp) (L1 0 (Nat.zero_le _))
