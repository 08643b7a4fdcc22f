/-! LetterTown$Play: what a HAND does -/
theorem zJ_tabN {Δ : zD} {M : zMI} {R : Room} {fx : Bool} {sh0 : zSh} {QR : Option Value → zW → Prop} {QX : String → zW → Prop} {k n pc : Nat} {ls : List (Nat × Value)} {st : List Value} {w : zW} {dflt hi : Int} {offs : Array Int} {len a : Nat} {off : Int} {tgt : Nat} (hd : decode M.2.1 pc = .ok (.tableswitch dflt 0 hi offs, len)) (ha : (a : Int) ≤ hi) (ha2 : a < 2 ^ 31) (ho : offs[a]? = some off) (ht : (pc : Int) + off = (tgt : Int)) (kk : zJ Δ M R fx sh0 QR QX k n tgt ls st w) : zJ Δ M R fx sh0 QR QX k n pc ls (.int (nI a) :: st) w :=
  zJ_tableIn hd (by rw [nI_toInt ha2]; omega) (by rw [nI_toInt ha2]; omega) (by rw [nI_toInt ha2, Int.sub_zero, Int.toNat_natCast]; exact ho) ht kk
def zPs (w : zW) (b R m : Nat) : Prop := w.1 b = some (.inl 1) ∧ w.2.2.2 b 0 = some (b + 1) ∧ w.2.2.2 b 1 = some (b + 6) ∧ w.2.2.2 b 2 = some (b + 11) ∧ w.2.2.2 b 3 = some (b + 12) ∧ w.2.2.2 b 4 = some (b + 13) ∧ w.2.2.2 b 5 = some (b + 14) ∧ w.2.2.2 b 6 = some (b + 15) ∧ w.2.2.2 b 7 = some (b + 16) ∧ w.2.2.2 b 8 = some (b + 17) ∧ w.2.2.2 b 9 = some (b + 18) ∧ w.1 (b + 11) = some (.inr (true, R)) ∧ w.1 (b + 12) = some (.inr (true, R * 8)) ∧ w.1 (b + 13) = some (.inr (false, R)) ∧ w.1 (b + 14) = some (.inr (true, R)) ∧ w.1 (b + 15) = some (.inr (true, R)) ∧ w.1 (b + 16) = some (.inr (true, 96)) ∧ w.1 (b + 17) = some (.inr (true, 8)) ∧ w.1 (b + 18) = some (.inr (false, 8)) ∧ zWs w (b + 6) R m
/-- the Play at b has T, and its ways are K -/
def zGr (w : zW) (b R m : Nat) (T : zTo) (K : List zKy) : Prop := zPs w b R m ∧ zTi w (b + 1) T ∧ zTok T ∧ zall T K ∧ zWl w (b + 6) R m T K ∧ ∀ (x : Nat) (k : zKy), K[x]? = some k → w.2.1 (b + 6 + 2) x = nI (zmb T k) ∧ ∀ y, y < 8 → zNx T K (w.2.1 (b + 6 + 3)) x k y
def zFp (w c : zW) (b : Nat) : Prop := c.1 = w.1 ∧ c.2.2.2 = w.2.2.2 ∧ (∀ a j, a ≠ b + 13 → a ≠ b + 18 → (a ≠ b ∨ (j ≠ 10 ∧ j ≠ 12 ∧ j ≠ 13 ∧ j ≠ 14)) → c.2.1 a j = w.2.1 a j) ∧ (∀ a j, (a < b + 11 ∨ b + 17 < a) → c.2.2.1 a j = w.2.2.1 a j)
theorem zFp.rf (w : zW) (b : Nat) : zFp w w b := ⟨rfl, rfl, fun _ _ _ _ _ => rfl, fun _ _ _ => rfl⟩
theorem zFp.tr {w c d : zW} {b : Nat} (h1 : zFp w c b) (h2 : zFp c d b) : zFp w d b := ⟨h2.1.trans h1.1, h2.2.1.trans h1.2.1, fun a j x y z => (h2.2.2.1 a j x y z).trans (h1.2.2.1 a j x y z), fun a j h => (h2.2.2.2 a j h).trans (h1.2.2.2 a j h)⟩
theorem zFp.i {w : zW} {b a j : Nat} {x : Int32} (h : a = b + 13 ∨ a = b + 18 ∨ (a = b ∧ (j = 10 ∨ j = 12 ∨ j = 13 ∨ j = 14))) : zFp w (zsi w a j x) b := ⟨rfl, rfl, fun a2 j2 h1 h2 h3 => by
  have h4 : ¬ (a2 = a ∧ j2 = j) := by omega
  simp [zsi, h4], fun _ _ _ => rfl⟩
theorem zFp.l {w : zW} {b a j : Nat} {x : Int64} (h : b + 11 ≤ a ∧ a ≤ b + 17) : zFp w (zsl w a j x) b := ⟨rfl, rfl, fun _ _ _ _ _ => rfl, fun a2 j2 h1 => by
  have h4 : ¬ (a2 = a ∧ j2 = j) := by omega
  simp [zsl, h4]⟩
theorem zFp.rl {w : zW} {b a : Nat} {f : Nat → Int64} (h : b + 11 ≤ a ∧ a ≤ b + 17) : zFp w (zrol w a f) b := ⟨rfl, rfl, fun _ _ _ _ _ => rfl, fun a2 j2 h1 => by
  have h4 : ¬ a2 = a := by omega
  simp [zrol, h4]⟩
theorem zGr.fp {w c : zW} {b R m : Nat} {T : zTo} {K : List zKy} (h : zGr w b R m T K) (hf : zFp w c b) : zGr c b R m T K := by
  obtain ⟨h1, h2, h3, h4, h5, h6⟩ := h
  obtain ⟨f1, f2, f3, f4⟩ := hf
  refine ⟨?_, ?_, h3, h4, ?_, fun x k hx => ?_⟩
  · unfold zPs zWs at *
    rw [f1, f2, f3 (b + 6) 0 (by omega) (by omega) (Or.inl (by omega))]; exact h1
  · obtain ⟨a0, a1, a2, a3, a4, a5⟩ := h2
    refine ⟨?_, fun k x y => ?_, fun p x => ?_, fun p x => ?_, fun p x => ?_, fun p x => ?_⟩
    · unfold zTn at *; rw [f1, f2]; exact a0
    · rw [f3 _ _ (by omega) (by omega) (Or.inl (by omega))]; exact a1 k x y
    · rw [f3 _ _ (by omega) (by omega) (Or.inl (by omega))]; exact a2 p x
    · rw [f3 _ _ (by omega) (by omega) (Or.inl (by omega))]; exact a3 p x
    · rw [f3 _ _ (by omega) (by omega) (Or.inl (by omega))]; exact a4 p x
    · rw [f3 _ _ (by omega) (by omega) (Or.inl (by omega))]; exact a5 p x
  · exact h5.fr (by funext q; exact f4 _ _ (by omega)) (f3 _ _ (by omega) (by omega) (Or.inl (by omega))) (by funext q; exact f3 _ _ (by omega) (by omega) (Or.inl (by omega)))
  · have e2 : c.2.1 (b + 6 + 2) = w.2.1 (b + 6 + 2) := by funext q; exact f3 _ _ (by omega) (by omega) (Or.inl (by omega))
    have e3 : c.2.1 (b + 6 + 3) = w.2.1 (b + 6 + 3) := by funext q; exact f3 _ _ (by omega) (by omega) (Or.inl (by omega))
    rw [e2, e3]; exact h6 x k hx
theorem zpn_eq {w : zW} {t h : Nat} {T : zTo} (hi : zTi w t T) (hh : 1 ≤ h) : w.2.1 t 5 + w.2.1 t 6 * (nI h - 1) = nI (zpe T h) := by
  rw [hi.2.1 5 (by decide) (by decide), hi.2.1 6 (by decide) (by decide), show nI h - 1 = nI (h - 1) from na_sub hh, na_mul, na_add, zpe]
theorem zpe_le {T : zTo} (hT : zTok T) {h : Nat} (hh : h ≤ 13) : zpe T h ≤ 11187 := by
  obtain ⟨-, h5, h6, -⟩ := hT
  have : T.1 6 * (h - 1) ≤ 99 * 12 := Nat.mul_le_mul h6 (by omega)
  simp only [zpe]; omega
theorem zfe_eq {w : zW} {t h : Nat} {T : zTo} (hi : zTi w t T) (hT : zTok T) (hh : 1 ≤ h) (hh2 : h ≤ 13) : zfe w t (nI h) = nI (zfl T h) := by
  have e : zpn w t (nI h) = nI (zpe T h) := zpn_eq hi hh
  have h1 := zpe_le hT hh2
  have h11 := hT.2.2.2.2.2.2.2.1
  have h2 : ¬ nI (T.1 11) ≤ 0 := fun h => absurd ((nI_leI (b := 0) (by omega) (by decide)).mp h) (by omega)
  unfold zfe
  rw [e, hi.2.1 11 (by decide) (by decide), if_neg h2, nI_rem (by omega) (by omega), na_sub (Nat.mod_le _ _), zfl]
theorem c_Town_penceN (Δ : zD) (w : zW) (t h : Nat) (T : zTo) (hi : zTi w t T) (hh : 1 ≤ h) : zMd Δ 0 0 0 true yX5_pence mX5_pence [.ref t, .int (nI h)] w (some (.int (nI (zpe T h)))) w := by
  rw [← zpn_eq hi hh]; exact c_Town_pence Δ w t (nI h) hi.1.1
theorem c_Town_feltN (Δ : zD) (w : zW) (t h : Nat) (T : zTo) (hi : zTi w t T) (hT : zTok T) (hh : 1 ≤ h) (hh2 : h ≤ 13) : zMd Δ 1 0 0 true yX5_felt mX5_felt [.ref t, .int (nI h)] w (some (.int (nI (zfl T h)))) w := by
  rw [← zfe_eq hi hT hh hh2]; exact c_Town_felt Δ w t (nI h) hi.1.1
/-- how many of 1000 are opened; to whom the rest goes; by which weights -/
def zsh (T : zTo) (k : zKy) (C : Option Nat) : Nat := if zmb T k = 0 then 1000 else if T.2.1 k.1 = 0 then (if T.2.2.1 k.1 ≤ zfl T k.2.1 then 1000 else 0) else if T.2.1 k.1 = 2 then T.2.2.1 k.1 else if T.2.1 k.1 = 3 then (match C with | none => 1000 | some _ => 0) else 0
def ztb (T : zTo) (k : zKy) (C : Option Nat) : Nat := if T.2.1 k.1 = 3 then (match C with | none => 0 | some q => 2 ^ q) else zmb T k
def zwu (T : zTo) (a y : Nat) : Nat := if T.2.1 a = 3 then 1 else T.2.2.2 (a * 8 + y)
set_option maxRecDepth 100000 in
theorem c_Play_shareOpened (Δ : zD) (w : zW) (b R m : Nat) (T : zTo) (K : List zKy) (hG : zGr w b R m T K) (x : Nat) (k : zKy) (hx : K[x]? = some k) (C : Option Nat) (hC : T.2.1 k.1 = 3 → w.2.1 (b + 13) x = zoi C) (hC8 : ∀ q, C = some q → q < 8) : zMd Δ 2 0 0 true yX1_shareOpened mX1_shareOpened [.ref b, .int (nI x)] w (some (.int (nI (zsh T k C)))) w := by
  refine zMd.of mfX1_shareOpened (Nat.le_of_ble_eq_true rfl) (fun QR hQ => ?_)
  have hG0 := hG
  obtain ⟨⟨p0, q0, q1, q2, q3, q4, q5, q6, q7, q8, q9, s11, s12, s13, s14, s15, s16, s17, s18, hS⟩, hi, hT, hall, hL, hrow⟩ := hG
  have hS0 := hS
  obtain ⟨g0, r1, r2, r3, r4, g1, g2, g3, g4, hR, hRm, hm, hR0⟩ := hS
  have hi0 := hi
  obtain ⟨t0, u1, u2, u3, u4, t1, t2, t3, t4⟩ := hi.1
  obtain ⟨-, hsc, hso, hnu, hkn, hwt⟩ := hi
  have hT0 := hT
  obtain ⟨hp0, hp5, hp6, hp7, hp8, hp9, hp10, hp11, hp12, hp13, hpp, hpw⟩ := hT
  have hm2 : 2 ^ m ≤ 2 ^ 15 := Nat.pow_le_pow_right (by decide) hm
  have hKR : K.length ≤ R := hL.2.2.1
  have hxK : x < K.length := (List.getElem?_eq_some_iff.mp hx).1
  have hk : zkok T k := hL.2.2.2.1 k (List.mem_iff_getElem?.mpr ⟨x, hx⟩)
  have cx : (nI x).toNatClampNeg = x := nI_clamp (by omega)
  have hky : w.2.2.1 (b + 6 + 1) x = lN (zenc T k) := hL.1 x k hx
  have hP := zenc_parts hT0 hk
  have hE52 := zenc_lt hT0 hk
  have hk1 : k.1 < 8 := hk.1
  have hk2 := hk.2.1
  have hbl := zmb_lt T k
  have hmayx := (hrow x k hx).1
  have hnx := (hrow x k hx).2
  have hso1 := hso k.1 hk1
  have hnu1 := hnu k.1 hk1
  have hsl := (hpp k.1).1
  have hnl := (hpp k.1).2.1
  have ck : (nI k.1).toNatClampNeg = k.1 := nI_clamp (by omega)
  have hfl31 : zfl T k.2.1 < 2 ^ 31 := by
    have := zpe_le hT0 (show k.2.1 ≤ 13 by omega)
    simp only [zfl]; omega
  refine zJ_aload_n dX1_shareOpened_0 rfl ?_
  refine zJ_getr dX1_shareOpened_1 fX1_34 (by first | rfl | assumption) rfl (by first | rfl | assumption) ?_
  refine zJ_getr dX1_shareOpened_4 fX1_187 (by first | rfl | assumption) rfl (by first | rfl | assumption) ?_
  refine zJ_iload_n dX1_shareOpened_7 rfl ?_
  refine zJ_iald dX1_shareOpened_8 (by first | rfl | assumption) (vp_in_nI (by omega) (by omega)) ?_
  rw [cx, hmayx]
  refine zJ_if_ne (tgt := 16) dX1_shareOpened_9 (by decide) (fun h9 => ?_) (fun h9 => ?_)
  · have hz : ¬ zmb T k = 0 := fun h => h9 (by rw [h]; rfl)
    refine zJ_aload_n dX1_shareOpened_16 rfl ?_
    refine zJ_getr dX1_shareOpened_17 fX1_34 (by first | rfl | assumption) rfl (by first | rfl | assumption) ?_
    refine zJ_getr dX1_shareOpened_20 fX1_101 (by first | rfl | assumption) rfl (by first | rfl | assumption) ?_
    refine zJ_iload_n dX1_shareOpened_23 rfl ?_
    refine zJ_lald dX1_shareOpened_24 (by first | rfl | assumption) (vp_in_nI (by omega) (by omega)) ?_
    rw [cx, hky]
    refine zJ_lstore_n (ls2 := fun x25 => [(2, .long x25), (0, .ref b), (1, .int (nI x))]) dX1_shareOpened_25 (by decide) (fun _ => rfl) (fun x25 ex25 => ?_)
    obtain rfl : x25 = (lN (zenc T k)) := ex25
    refine zJ_lload_n dX1_shareOpened_26 rfl ?_
    refine zJ_cS1 dX1_shareOpened_27 sX1_104 mfX6_whoOf (c_Ways_whoOf Δ w (zenc T k)) (Nat.le_of_ble_eq_true rfl) (by decide) (by decide) ?_
    rw [hP.1]
    refine zJ_istore (ls2 := fun x30 => [(4, .int x30), (2, .long (lN (zenc T k))), (0, .ref b), (1, .int (nI x))]) dX1_shareOpened_30 (by decide) (fun _ => rfl) (fun x30 ex30 => ?_)
    obtain rfl : x30 = (nI k.1) := ex30
    refine zJ_aload_n dX1_shareOpened_32 rfl ?_
    refine zJ_getr dX1_shareOpened_33 fX1_12 (by first | rfl | assumption) rfl (by first | rfl | assumption) ?_
    refine zJ_getr dX1_shareOpened_36 fX1_108 (by first | rfl | assumption) rfl (by first | rfl | assumption) ?_
    refine zJ_iload dX1_shareOpened_39 rfl ?_
    refine zJ_iald dX1_shareOpened_41 (by first | rfl | assumption) (vp_in_nI (by omega) (by decide)) ?_
    rw [ck, hso1]
    rcases (show T.2.1 k.1 = 0 ∨ T.2.1 k.1 = 1 ∨ T.2.1 k.1 = 2 ∨ T.2.1 k.1 = 3 by omega) with hs0 | hs0 | hs0 | hs0
    · rw [hs0]
      refine zJ_tabN (a := 0) (off := 30) (tgt := 72) dX1_shareOpened_42 (by decide) (by decide) rfl (by decide) ?_
      refine zJ_aload_n dX1_shareOpened_72 rfl ?_
      refine zJ_getr dX1_shareOpened_73 fX1_12 (by first | rfl | assumption) rfl (by first | rfl | assumption) ?_
      refine zJ_lload_n dX1_shareOpened_76 rfl ?_
      refine zJ_cS1 dX1_shareOpened_77 sX1_133 mfX6_handOf (c_Ways_handOf Δ w (zenc T k) (by omega)) (Nat.le_of_ble_eq_true rfl) (by decide) (by decide) ?_
      rw [hP.2.1]
      refine zJ_cV1 dX1_shareOpened_80 sX1_190 mfX5_felt (c_Town_feltN Δ w (b + 1) k.2.1 T hi0 hT0 (by omega) (by omega)) (by first | rfl | assumption) rfl (Nat.le_of_ble_eq_true rfl) (by decide) (by decide) ?_
      refine zJ_aload_n dX1_shareOpened_83 rfl ?_
      refine zJ_getr dX1_shareOpened_84 fX1_12 (by first | rfl | assumption) rfl (by first | rfl | assumption) ?_
      refine zJ_getr dX1_shareOpened_87 fX1_184 (by first | rfl | assumption) rfl (by first | rfl | assumption) ?_
      refine zJ_iload dX1_shareOpened_90 rfl ?_
      refine zJ_iald dX1_shareOpened_92 (by first | rfl | assumption) (vp_in_nI (by omega) (by decide)) ?_
      rw [ck, hnu1]
      refine zJ_icmp_lt (tgt := 102) dX1_shareOpened_93 (by decide) (fun h93 => ?_) (fun h93 => ?_)
      · have hf : ¬ T.2.2.1 k.1 ≤ zfl T k.2.1 := Nat.not_le.mpr ((nI_ltI hfl31 (by omega)).mp h93)
        rw [show zsh T k C = 0 by simp [zsh, hz, hs0, hf]] at hQ
        refine zJ_iconst (v := 0) dX1_shareOpened_102 (by decide) ?_
        exact zJ_iret dX1_shareOpened_103 rfl (by decide) (by decide) hQ
      · have hf : T.2.2.1 k.1 ≤ zfl T k.2.1 := Nat.le_of_not_lt fun h => h93 ((nI_ltI hfl31 (by omega)).mpr h)
        rw [show zsh T k C = 1000 by simp [zsh, hz, hs0, hf]] at hQ
        refine zJ_sipush (v := 1000) dX1_shareOpened_96 (by decide) ?_
        refine zJ_goto (tgt := 103) dX1_shareOpened_99 (by decide) ?_
        exact zJ_iret dX1_shareOpened_103 rfl (by decide) (by decide) hQ
    · rw [hs0]
      refine zJ_tabN (a := 1) (off := 90) (tgt := 132) dX1_shareOpened_42 (by decide) (by decide) rfl (by decide) ?_
      rw [show zsh T k C = 0 by simp [zsh, hz, hs0]] at hQ
      refine zJ_iconst (v := 0) dX1_shareOpened_132 (by decide) ?_
      exact zJ_iret dX1_shareOpened_133 rfl (by decide) (by decide) hQ
    · rw [hs0]
      refine zJ_tabN (a := 2) (off := 62) (tgt := 104) dX1_shareOpened_42 (by decide) (by decide) rfl (by decide) ?_
      refine zJ_aload_n dX1_shareOpened_104 rfl ?_
      refine zJ_getr dX1_shareOpened_105 fX1_12 (by first | rfl | assumption) rfl (by first | rfl | assumption) ?_
      refine zJ_getr dX1_shareOpened_108 fX1_184 (by first | rfl | assumption) rfl (by first | rfl | assumption) ?_
      refine zJ_iload dX1_shareOpened_111 rfl ?_
      refine zJ_iald dX1_shareOpened_113 (by first | rfl | assumption) (vp_in_nI (by omega) (by decide)) ?_
      rw [ck, hnu1]
      rw [show zsh T k C = T.2.2.1 k.1 by simp [zsh, hz, hs0]] at hQ
      exact zJ_iret dX1_shareOpened_114 rfl (by decide) (by decide) hQ
    · rw [hs0]
      refine zJ_tabN (a := 3) (off := 73) (tgt := 115) dX1_shareOpened_42 (by decide) (by decide) rfl (by decide) ?_
      refine zJ_aload_n dX1_shareOpened_115 rfl ?_
      refine zJ_getr dX1_shareOpened_116 fX1_44 (by first | rfl | assumption) rfl (by first | rfl | assumption) ?_
      refine zJ_iload_n dX1_shareOpened_119 rfl ?_
      refine zJ_iald dX1_shareOpened_120 (by first | rfl | assumption) (vp_in_nI (by omega) (by omega)) ?_
      rw [cx, hC hs0]
      refine zJ_if_ge (tgt := 130) dX1_shareOpened_121 (by decide) (fun h121 => ?_) (fun h121 => ?_)
      · have hc : ∃ q, C = some q := by
          cases hc : C with
          | none => rw [hc] at h121; exact absurd h121 (by decide)
          | some q => exact ⟨q, rfl⟩
        obtain ⟨q, hc⟩ := hc
        rw [show zsh T k C = 0 by simp [zsh, hz, hs0, hc]] at hQ
        refine zJ_iconst (v := 0) dX1_shareOpened_130 (by decide) ?_
        exact zJ_iret dX1_shareOpened_131 rfl (by decide) (by decide) hQ
      · have hc : C = none := by
          cases hc : C with
          | none => rfl
          | some q =>
            rw [hc] at h121
            exact absurd ((nI_leI (a := 0) (b := q) (by decide) (by have := hC8 q hc; omega)).mpr (Nat.zero_le _)) h121
        rw [show zsh T k C = 1000 by simp [zsh, hz, hs0, hc]] at hQ
        refine zJ_sipush (v := 1000) dX1_shareOpened_124 (by decide) ?_
        refine zJ_goto (tgt := 131) dX1_shareOpened_127 (by decide) ?_
        exact zJ_iret dX1_shareOpened_131 rfl (by decide) (by decide) hQ
  · have hz : zmb T k = 0 := (nI_eq (b := 0) (by omega) (by decide)).mp h9
    rw [show zsh T k C = 1000 by simp [zsh, hz]] at hQ
    refine zJ_sipush (v := 1000) dX1_shareOpened_12 (by decide) ?_
    exact zJ_iret dX1_shareOpened_15 rfl (by decide) (by decide) hQ
set_option maxRecDepth 100000 in
theorem c_Play_targetsOf (Δ : zD) (w : zW) (b R m : Nat) (T : zTo) (K : List zKy) (hG : zGr w b R m T K) (x : Nat) (k : zKy) (hx : K[x]? = some k) (C : Option Nat) (hC : T.2.1 k.1 = 3 → w.2.1 (b + 13) x = zoi C) (hC8 : ∀ q, C = some q → q < 8) : zMd Δ 1 0 0 true yX1_targetsOf mX1_targetsOf [.ref b, .int (nI x)] w (some (.int (nI (ztb T k C)))) w := by
  refine zMd.of mfX1_targetsOf (Nat.le_of_ble_eq_true rfl) (fun QR hQ => ?_)
  have hG0 := hG
  obtain ⟨⟨p0, q0, q1, q2, q3, q4, q5, q6, q7, q8, q9, s11, s12, s13, s14, s15, s16, s17, s18, hS⟩, hi, hT, hall, hL, hrow⟩ := hG
  have hS0 := hS
  obtain ⟨g0, r1, r2, r3, r4, g1, g2, g3, g4, hR, hRm, hm, hR0⟩ := hS
  have hi0 := hi
  obtain ⟨t0, u1, u2, u3, u4, t1, t2, t3, t4⟩ := hi.1
  obtain ⟨-, hsc, hso, hnu, hkn, hwt⟩ := hi
  have hT0 := hT
  obtain ⟨hp0, hp5, hp6, hp7, hp8, hp9, hp10, hp11, hp12, hp13, hpp, hpw⟩ := hT
  have hm2 : 2 ^ m ≤ 2 ^ 15 := Nat.pow_le_pow_right (by decide) hm
  have hKR : K.length ≤ R := hL.2.2.1
  have hxK : x < K.length := (List.getElem?_eq_some_iff.mp hx).1
  have hk : zkok T k := hL.2.2.2.1 k (List.mem_iff_getElem?.mpr ⟨x, hx⟩)
  have cx : (nI x).toNatClampNeg = x := nI_clamp (by omega)
  have hky : w.2.2.1 (b + 6 + 1) x = lN (zenc T k) := hL.1 x k hx
  have hP := zenc_parts hT0 hk
  have hE52 := zenc_lt hT0 hk
  have hk1 : k.1 < 8 := hk.1
  have hk2 := hk.2.1
  have hbl := zmb_lt T k
  have hmayx := (hrow x k hx).1
  have hnx := (hrow x k hx).2
  have hso1 := hso k.1 hk1
  have hnu1 := hnu k.1 hk1
  have hsl := (hpp k.1).1
  have hnl := (hpp k.1).2.1
  have ck : (nI k.1).toNatClampNeg = k.1 := nI_clamp (by omega)
  refine zJ_aload_n dX1_targetsOf_0 rfl ?_
  refine zJ_getr dX1_targetsOf_1 fX1_12 (by first | rfl | assumption) rfl (by first | rfl | assumption) ?_
  refine zJ_getr dX1_targetsOf_4 fX1_108 (by first | rfl | assumption) rfl (by first | rfl | assumption) ?_
  refine zJ_aload_n dX1_targetsOf_7 rfl ?_
  refine zJ_getr dX1_targetsOf_8 fX1_34 (by first | rfl | assumption) rfl (by first | rfl | assumption) ?_
  refine zJ_getr dX1_targetsOf_11 fX1_101 (by first | rfl | assumption) rfl (by first | rfl | assumption) ?_
  refine zJ_iload_n dX1_targetsOf_14 rfl ?_
  refine zJ_lald dX1_targetsOf_15 (by first | rfl | assumption) (vp_in_nI (by omega) (by omega)) ?_
  rw [cx, hky]
  refine zJ_cS1 dX1_targetsOf_16 sX1_104 mfX6_whoOf (c_Ways_whoOf Δ w (zenc T k)) (Nat.le_of_ble_eq_true rfl) (by decide) (by decide) ?_
  rw [hP.1]
  refine zJ_iald dX1_targetsOf_19 (by first | rfl | assumption) (vp_in_nI (by omega) (by decide)) ?_
  rw [ck, hso1]
  refine zJ_iconst (v := 3) dX1_targetsOf_20 (by decide) ?_
  refine zJ_icmp_eq (tgt := 34) dX1_targetsOf_21 (by decide) (fun h21 => ?_) (fun h21 => ?_)
  · have hs0 : T.2.1 k.1 = 3 := (nI_eq (b := 3) (by omega) (by decide)).mp h21
    refine zJ_aload_n dX1_targetsOf_34 rfl ?_
    refine zJ_getr dX1_targetsOf_35 fX1_44 (by first | rfl | assumption) rfl (by first | rfl | assumption) ?_
    refine zJ_iload_n dX1_targetsOf_38 rfl ?_
    refine zJ_iald dX1_targetsOf_39 (by first | rfl | assumption) (vp_in_nI (by omega) (by omega)) ?_
    rw [cx, hC hs0]
    refine zJ_if_ge (tgt := 47) dX1_targetsOf_40 (by decide) (fun h40 => ?_) (fun h40 => ?_)
    · have hc : ∃ q, C = some q := by
        cases hc : C with
        | none => rw [hc] at h40; exact absurd h40 (by decide)
        | some q => exact ⟨q, rfl⟩
      obtain ⟨q, hc⟩ := hc
      have hq8 := hC8 q hc
      rw [show ztb T k C = 2 ^ q by simp [ztb, hs0, hc]] at hQ
      refine zJ_iconst (v := 1) dX1_targetsOf_47 (by decide) ?_
      refine zJ_aload_n dX1_targetsOf_48 rfl ?_
      refine zJ_getr dX1_targetsOf_49 fX1_44 (by first | rfl | assumption) rfl (by first | rfl | assumption) ?_
      refine zJ_iload_n dX1_targetsOf_52 rfl ?_
      refine zJ_iald dX1_targetsOf_53 (by first | rfl | assumption) (vp_in_nI (by omega) (by omega)) ?_
      rw [cx, hC hs0, hc, show zoi (some q) = nI q from rfl]
      refine zJ_ishl dX1_targetsOf_54 ?_
      rw [na_shl q (by omega)]
      exact zJ_iret dX1_targetsOf_55 rfl (by decide) (by decide) hQ
    · have hc : C = none := by
        cases hc : C with
        | none => rfl
        | some q =>
          rw [hc] at h40
          exact absurd ((nI_leI (a := 0) (b := q) (by decide) (by have := hC8 q hc; omega)).mpr (Nat.zero_le _)) h40
      rw [show ztb T k C = 0 by simp [ztb, hs0, hc]] at hQ
      refine zJ_iconst (v := 0) dX1_targetsOf_43 (by decide) ?_
      refine zJ_goto (tgt := 55) dX1_targetsOf_44 (by decide) ?_
      skip
      exact zJ_iret dX1_targetsOf_55 rfl (by decide) (by decide) hQ
  · have hs0 : ¬ T.2.1 k.1 = 3 := fun h => h21 (by rw [h]; rfl)
    refine zJ_aload_n dX1_targetsOf_24 rfl ?_
    refine zJ_getr dX1_targetsOf_25 fX1_34 (by first | rfl | assumption) rfl (by first | rfl | assumption) ?_
    refine zJ_getr dX1_targetsOf_28 fX1_187 (by first | rfl | assumption) rfl (by first | rfl | assumption) ?_
    refine zJ_iload_n dX1_targetsOf_31 rfl ?_
    refine zJ_iald dX1_targetsOf_32 (by first | rfl | assumption) (vp_in_nI (by omega) (by omega)) ?_
    rw [cx, hmayx]
    rw [show ztb T k C = zmb T k by simp [ztb, hs0]] at hQ
    exact zJ_iret dX1_targetsOf_33 rfl (by decide) (by decide) hQ
set_option maxRecDepth 100000 in
theorem c_Play_weightTo (Δ : zD) (w : zW) (b R m : Nat) (T : zTo) (K : List zKy) (hG : zGr w b R m T K) (a y : Nat) (ha : a < 8) (hy : y < 8) : zMd Δ 0 0 0 true yX1_weightTo mX1_weightTo [.ref b, .int (nI a), .int (nI y)] w (some (.int (nI (zwu T a y)))) w := by
  refine zMd.of mfX1_weightTo (Nat.le_of_ble_eq_true rfl) (fun QR hQ => ?_)
  have hG0 := hG
  obtain ⟨⟨p0, q0, q1, q2, q3, q4, q5, q6, q7, q8, q9, s11, s12, s13, s14, s15, s16, s17, s18, hS⟩, hi, hT, hall, hL, hrow⟩ := hG
  have hS0 := hS
  obtain ⟨g0, r1, r2, r3, r4, g1, g2, g3, g4, hR, hRm, hm, hR0⟩ := hS
  have hi0 := hi
  obtain ⟨t0, u1, u2, u3, u4, t1, t2, t3, t4⟩ := hi.1
  obtain ⟨-, hsc, hso, hnu, hkn, hwt⟩ := hi
  have hT0 := hT
  obtain ⟨hp0, hp5, hp6, hp7, hp8, hp9, hp10, hp11, hp12, hp13, hpp, hpw⟩ := hT
  have hm2 : 2 ^ m ≤ 2 ^ 15 := Nat.pow_le_pow_right (by decide) hm
  have hKR : K.length ≤ R := hL.2.2.1
  have ca : (nI a).toNatClampNeg = a := nI_clamp (by omega)
  have hso1 := hso a ha
  have hsl := (hpp a).1
  have e0 : nI a * 8 + nI y = nI (a * 8 + y) := by rw [show nI a * 8 = nI (a * 8) from na_mul a 8, na_add]
  refine zJ_aload_n dX1_weightTo_0 rfl ?_
  refine zJ_getr dX1_weightTo_1 fX1_12 (by first | rfl | assumption) rfl (by first | rfl | assumption) ?_
  refine zJ_getr dX1_weightTo_4 fX1_108 (by first | rfl | assumption) rfl (by first | rfl | assumption) ?_
  refine zJ_iload_n dX1_weightTo_7 rfl ?_
  refine zJ_iald dX1_weightTo_8 (by first | rfl | assumption) (vp_in_nI (by omega) (by decide)) ?_
  rw [ca, hso1]
  refine zJ_iconst (v := 3) dX1_weightTo_9 (by decide) ?_
  refine zJ_icmp_ne (tgt := 17) dX1_weightTo_10 (by decide) (fun h10 => ?_) (fun h10 => ?_)
  · have hs0 : ¬ T.2.1 a = 3 := fun h => h10 (by rw [h]; rfl)
    rw [show zwu T a y = T.2.2.2 (a * 8 + y) by simp [zwu, hs0]] at hQ
    refine zJ_aload_n dX1_weightTo_17 rfl ?_
    refine zJ_getr dX1_weightTo_18 fX1_12 (by first | rfl | assumption) rfl (by first | rfl | assumption) ?_
    refine zJ_getr dX1_weightTo_21 fX1_193 (by first | rfl | assumption) rfl (by first | rfl | assumption) ?_
    refine zJ_iload_n dX1_weightTo_24 rfl ?_
    refine zJ_bipush (v := 8) dX1_weightTo_25 (by decide) ?_
    refine zJ_imul dX1_weightTo_27 ?_
    refine zJ_iload_n dX1_weightTo_28 rfl ?_
    refine zJ_iadd dX1_weightTo_29 ?_
    rw [e0]
    refine zJ_iald dX1_weightTo_30 (by first | rfl | assumption) (vp_in_nI (by omega) (by decide)) ?_
    rw [nI_clamp (show a * 8 + y < 2 ^ 31 by omega), hwt _ (by omega)]
    exact zJ_iret dX1_weightTo_31 rfl (by decide) (by decide) hQ
  · have hs0 : T.2.1 a = 3 := (nI_eq (b := 3) (by omega) (by decide)).mp h10
    rw [show zwu T a y = 1 by simp [zwu, hs0]] at hQ
    refine zJ_iconst (v := 1) dX1_weightTo_13 (by decide) ?_
    refine zJ_goto (tgt := 31) dX1_weightTo_14 (by decide) ?_
    skip
    exact zJ_iret dX1_weightTo_31 rfl (by decide) (by decide) hQ
def zwt (T : zTo) (a B n : Nat) : Nat := fb_sm (fun y => if B.testBit y then zwu T a y else 0) n
theorem tb_of {B y : Nat} : B.testBit y = true ↔ B / 2 ^ y % 2 = 1 := by
  rw [Nat.testBit_eq_decide_div_mod_eq]; simp
theorem zwt_s1 {T : zTo} {a B n : Nat} (h : B.testBit n = true) : zwt T a B (n + 1) = zwt T a B n + zwu T a n := by simp [zwt, fb_sm, h]
theorem zwt_s0 {T : zTo} {a B n : Nat} (h : B.testBit n = false) : zwt T a B (n + 1) = zwt T a B n := by simp [zwt, fb_sm, h]
set_option maxRecDepth 100000 in
theorem c_Play_weightsTo (Δ : zD) (w : zW) (b R m : Nat) (T : zTo) (K : List zKy) (hG : zGr w b R m T K) (a B : Nat) (ha : a < 8) (hB : B < 256) : zMd Δ 1 0 0 true yX1_weightsTo mX1_weightsTo [.ref b, .int (nI a), .int (nI B)] w (some (.int (nI (zwt T a B 8)))) w := by
  refine zMd.of mfX1_weightsTo (Nat.le_of_ble_eq_true rfl) (fun QR hQ => ?_)
  have p0 : w.1 b = some (.inl 1) := hG.1.1
  have L : ∀ j, j ≤ 8 → zJ Δ mX1_weightsTo (zRm 1 0 0) true w.1 QR (fun _ _ => False) 0 0 5 [(4, .int (nI j)), (3, .int (nI (zwt T a B j))), (0, .ref b), (1, .int (nI a)), (2, .int (nI B))] [] w := by
    refine zup (fun j hj ih => ?_)
    refine zJ_iload dX1_weightsTo_5 rfl ?_
    refine zJ_bipush (v := 8) dX1_weightsTo_7 (by decide) ?_
    refine zJ_icmp_ge (tgt := 37) dX1_weightsTo_9 (by decide) (fun h9 => ?_) (fun h9 => ?_)
    · have hj9 : j = 8 := by exact Nat.le_antisymm hj ((nI_leI (a := 8) (b := j) (by omega) (by omega)).mp h9)
      subst hj9
      refine zJ_iload_n dX1_weightsTo_37 rfl ?_
      exact zJ_iret dX1_weightsTo_38 rfl (by decide) (by decide) hQ
    · have hj9 : j < 8 := Nat.lt_of_not_le fun hq9 => h9 (by exact (nI_leI (a := 8) (b := j) (by omega) (by omega)).mpr hq9)
      refine zJ_iload_n dX1_weightsTo_12 rfl ?_
      refine zJ_iload dX1_weightsTo_13 rfl ?_
      refine zJ_ishr dX1_weightsTo_15 ?_
      refine zJ_iconst (v := 1) dX1_weightsTo_16 (by decide) ?_
      refine zJ_iand dX1_weightsTo_17 ?_
      rw [nI_bit (by omega) (by omega)]
      refine zJ_if_eq (tgt := 31) dX1_weightsTo_18 (by decide) (fun h18 => ?_) (fun h18 => ?_)
      · refine zJ_iinc (ls2 := fun x31 => [(4, .int x31), (3, .int (nI (zwt T a B j))), (0, .ref b), (1, .int (nI a)), (2, .int (nI B))]) dX1_weightsTo_31 rfl (by decide) (fun _ => rfl) (fun x31 ex31 => ?_)
        refine zJ_goto (tgt := 5) dX1_weightsTo_34 (by decide) ?_
        refine zJ_ls [(4, .int x31), (3, .int (nI (zwt T a B j))), (0, .ref b), (1, .int (nI a)), (2, .int (nI B))] (by simp) ?_
        rw [ex31, show nI j + Int32.ofInt 1 = nI (j + 1) from nI_1 _]
        have hb : B.testBit j = false := by
          cases hz : B.testBit j with
          | false => rfl
          | true =>
            rw [tb_of.mp hz] at h18
            exact absurd h18 (by decide)
        rw [← zwt_s0 hb]
        exact ih (j + 1) (by omega) (by omega)
      · refine zJ_iload_n dX1_weightsTo_21 rfl ?_
        refine zJ_aload_n dX1_weightsTo_22 rfl ?_
        refine zJ_iload_n dX1_weightsTo_23 rfl ?_
        refine zJ_iload dX1_weightsTo_24 rfl ?_
        refine zJ_cV2 dX1_weightsTo_26 sX1_161 mfX1_weightTo (c_Play_weightTo Δ w b R m T K hG a j ha hj9) (by first | rfl | assumption) rfl (Nat.le_of_ble_eq_true rfl) (by decide) (by decide) ?_
        refine zJ_iadd dX1_weightsTo_29 ?_
        rw [na_add]
        refine zJ_istore_n (ls2 := fun x30 => [(3, .int x30), (4, .int (nI j)), (0, .ref b), (1, .int (nI a)), (2, .int (nI B))]) dX1_weightsTo_30 (by decide) (fun _ => rfl) (fun x30 ex30 => ?_)
        refine zJ_iinc (ls2 := fun x31 => [(4, .int x31), (3, .int x30), (0, .ref b), (1, .int (nI a)), (2, .int (nI B))]) dX1_weightsTo_31 rfl (by decide) (fun _ => rfl) (fun x31 ex31 => ?_)
        refine zJ_goto (tgt := 5) dX1_weightsTo_34 (by decide) ?_
        refine zJ_ls [(4, .int x31), (3, .int x30), (0, .ref b), (1, .int (nI a)), (2, .int (nI B))] (by simp) ?_
        rw [ex31, show nI j + Int32.ofInt 1 = nI (j + 1) from nI_1 _]
        have hb : B.testBit j = true := by
          rw [tb_of]
          have h1 : ¬ B / 2 ^ j % 2 = 0 := fun h => h18 (by rw [h]; rfl)
          omega
        rw [ex30, ← zwt_s1 hb]
        exact ih (j + 1) (by omega) (by omega)
  refine zJ_iconst (v := 0) dX1_weightsTo_0 (by decide) ?_
  refine zJ_istore_n (ls2 := fun x1 => [(3, .int x1), (0, .ref b), (1, .int (nI a)), (2, .int (nI B))]) dX1_weightsTo_1 (by decide) (fun _ => rfl) (fun x1 ex1 => ?_)
  obtain rfl : x1 = (nI 0) := ex1
  refine zJ_iconst (v := 0) dX1_weightsTo_2 (by decide) ?_
  refine zJ_istore (ls2 := fun x3 => [(4, .int x3), (3, .int (nI 0)), (0, .ref b), (1, .int (nI a)), (2, .int (nI B))]) dX1_weightsTo_3 (by decide) (fun _ => rfl) (fun x3 ex3 => ?_)
  obtain rfl : x3 = (nI 0) := ex3
  exact L 0 (Nat.zero_le _)
set_option maxRecDepth 100000 in
theorem c_Play_payFor (Δ : zD) (w : zW) (b R m : Nat) (T : zTo) (K : List zKy) (hG : zGr w b R m T K) (c e : Nat) (hc : c < K.length) (he : e ≤ 1000000000) (h11 : w.2.2.1 (b + 11) c = lN e) : zMd Δ 0 0 0 true yX1_payFor mX1_payFor [.ref b, .int (nI c)] w (some (.long (lN (zpay T e)))) w := by
  refine zMd.of mfX1_payFor (Nat.le_of_ble_eq_true rfl) (fun QR hQ => ?_)
  have hG0 := hG
  obtain ⟨⟨p0, q0, q1, q2, q3, q4, q5, q6, q7, q8, q9, s11, s12, s13, s14, s15, s16, s17, s18, hS⟩, hi, hT, hall, hL, hrow⟩ := hG
  have hS0 := hS
  obtain ⟨g0, r1, r2, r3, r4, g1, g2, g3, g4, hR, hRm, hm, hR0⟩ := hS
  have hi0 := hi
  obtain ⟨t0, u1, u2, u3, u4, t1, t2, t3, t4⟩ := hi.1
  obtain ⟨-, hsc, hso, hnu, hkn, hwt⟩ := hi
  have hT0 := hT
  obtain ⟨hp0, hp5, hp6, hp7, hp8, hp9, hp10, hp11, hp12, hp13, hpp, hpw⟩ := hT
  have hm2 : 2 ^ m ≤ 2 ^ 15 := Nat.pow_le_pow_right (by decide) hm
  have hKR : K.length ≤ R := hL.2.2.1
  have h1 : 1000 * T.1 9 * e ≤ 1000 * 9999 * 1000000000 := Nat.mul_le_mul (Nat.mul_le_mul (Nat.le_refl _) hp9) he
  refine zJ_ldc2 dX1_payFor_0 kX1_139 ?_
  refine zJ_aload_n dX1_payFor_3 rfl ?_
  refine zJ_getr dX1_payFor_4 fX1_12 (by first | rfl | assumption) rfl (by first | rfl | assumption) ?_
  refine zJ_geti dX1_payFor_7 fX1_177 (by first | rfl | assumption) rfl ?_
  rw [hsc 9 (by decide) (by decide)]
  refine zJ_i2l dX1_payFor_10 ?_
  rw [nI_l (by omega)]
  refine zJ_lmul dX1_payFor_11 ?_
  rw [show (1000 : Int64) * lN (T.1 9) = lN (1000 * T.1 9) from lN_mul 1000 _]
  refine zJ_aload_n dX1_payFor_12 rfl ?_
  refine zJ_getr dX1_payFor_13 fX1_38 (by first | rfl | assumption) rfl (by first | rfl | assumption) ?_
  refine zJ_iload_n dX1_payFor_16 rfl ?_
  refine zJ_lald dX1_payFor_17 (by first | rfl | assumption) (vp_in_nI (by omega) (by omega)) ?_
  rw [nI_clamp (show c < 2 ^ 31 by omega), h11]
  refine zJ_lmul dX1_payFor_18 ?_
  rw [lN_mul]
  refine zJ_ldc2 dX1_payFor_19 kX1_147 ?_
  refine zJ_ldiv dX1_payFor_22 (by decide) ?_
  rw [show lN (1000 * T.1 9 * e) / (1000000000 : Int64) = lN (zpay T e) from lN_div (by omega) (by decide)]
  exact zJ_lret dX1_payFor_23 rfl (by decide) (by decide) hQ
