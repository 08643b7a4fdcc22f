/-! LetterTown$Play: a HAND that is opened, one that is sent on -/
def zFh (w c : zW) (b x : Nat) : Prop := c.1 = w.1 ∧ c.2.2.2 = w.2.2.2 ∧ (∀ a j, (a ≠ b + 13 ∨ j ≠ x) → c.2.1 a j = w.2.1 a j) ∧ (∀ a j, a ≠ b + 17 → (a ≠ b + 11 ∨ j ≠ x) → (a ≠ b + 12 ∨ j < x * 8 ∨ x * 8 + 8 ≤ j) → c.2.2.1 a j = w.2.2.1 a j)
theorem zFh.tr {w c d : zW} {b x : Nat} (h1 : zFh w c b x) (h2 : zFh c d b x) : zFh w d b x := ⟨h2.1.trans h1.1, h2.2.1.trans h1.2.1, fun a j q => (h2.2.2.1 a j q).trans (h1.2.2.1 a j q), fun a j q r s => (h2.2.2.2 a j q r s).trans (h1.2.2.2 a j q r s)⟩
theorem zFh.fp {w c : zW} {b x : Nat} (h : zFh w c b x) : zFp w c b := ⟨h.1, h.2.1, fun a j h1 _ _ => h.2.2.1 a j (Or.inl h1), fun a j h1 => h.2.2.2 a j (by omega) (Or.inl (by omega)) (Or.inl (by omega))⟩
/-- the people that are reckoned, in their order -/
def zCo (w : zW) (b W n : Nat) (cl : Nat → Nat) : Prop := w.2.1 b 10 = nI n ∧ n ≤ 8 ∧ (∀ c, c < n → w.2.1 (b + 18) c = nI (cl c) ∧ cl c < 8) ∧ (∀ c d, c < n → d < n → cl c = cl d → c = d) ∧ (∀ p, p < 8 → (W.testBit p = true ↔ ∃ c, c < n ∧ cl c = p))
theorem zCo.fh {w c : zW} {b x W n : Nat} {cl : Nat → Nat} (h : zCo w b W n cl) (hf : zFh w c b x) : zCo c b W n cl := by
  obtain ⟨h1, h2, h3, h4⟩ := h
  refine ⟨by rw [hf.2.2.1 b 10 (Or.inl (by omega))]; exact h1, h2, fun q hq => ?_, h4⟩
  rw [hf.2.2.1 (b + 18) q (Or.inl (by omega))]; exact h3 q hq
/-- a row of x's with the values v put in at the columns below j -/
def zcw (old : Nat → Int64) (x : Nat) (cl : Nat → Nat) (v : Nat → Int64) : Nat → Nat → Int64
  | 0 => old
  | j + 1 => fun i => if i = x * 8 + cl j then v (cl j) else zcw old x cl v j i
theorem zcw_in {old : Nat → Int64} {x : Nat} {cl : Nat → Nat} {v : Nat → Int64} : ∀ {n c : Nat}, c < n → zcw old x cl v n (x * 8 + cl c) = v (cl c)
  | 0, c, h => absurd h (Nat.not_lt_zero c)
  | n + 1, c, h => by
    simp only [zcw]
    by_cases hc : x * 8 + cl c = x * 8 + cl n
    · rw [if_pos hc]; congr 1; omega
    · rw [if_neg hc]
      have : c ≠ n := fun e => hc (by rw [e])
      exact zcw_in (by omega)
theorem zcw_out {old : Nat → Int64} {x : Nat} {cl : Nat → Nat} {v : Nat → Int64} : ∀ {n i : Nat}, (∀ c, c < n → cl c < 8) → (i < x * 8 ∨ x * 8 + 8 ≤ i) → zcw old x cl v n i = old i
  | 0, i, _, _ => rfl
  | n + 1, i, h, hi => by
    simp only [zcw]
    have := h n (by omega)
    rw [if_neg (by omega)]
    exact zcw_out (fun c hc => h c (by omega)) hi
set_option maxRecDepth 100000 in
theorem c_Play_reckonOpened (Δ : zD) (w : zW) (b R m : Nat) (T : zTo) (K : List zKy) (hG : zGr w b R m T K) (x : Nat) (k : zKy) (hx : K[x]? = some k) (W n : Nat) (cl : Nat → Nat) (hco : zCo w b W n cl) : zMp Δ 1 yX1_reckonOpened mX1_reckonOpened [.ref b, .int (nI x), .int (nI k.1)] w (fun a c => a = none ∧ zFh w c b x ∧ c.2.1 = w.2.1 ∧ c.2.2.1 (b + 11) x = lN (zoE T k) ∧ ∀ p, p < 8 → W.testBit p = true → c.2.2.1 (b + 12) (x * 8 + p) = lZ (zoG T k p)) := by
  refine zMp.of mfX1_reckonOpened (Nat.le_of_ble_eq_true rfl) (fun QR hQ => ?_)
  have hG0 := hG
  obtain ⟨⟨p0, q0, q1, q2, q3, q4, q5, q6, q7, q8, q9, s11, s12, s13, s14, s15, s16, s17, s18, hS⟩, hi, hT, hall, hL, hrow⟩ := hG
  have hS0 := hS
  obtain ⟨g0, r1, r2, r3, r4, g1, g2, g3, g4, hR, hRm, hm, hR0⟩ := hS
  have hi0 := hi
  obtain ⟨t0, u1, u2, u3, u4, t1, t2, t3, t4⟩ := hi.1
  obtain ⟨-, hsc, hso, hnu, hkn, hwt⟩ := hi
  have hT0 := hT
  obtain ⟨hp0, hp5, hp6, hp7, hp8, hp9, hp10, hp11, hp12, hp13, hpp, hpw⟩ := hT
  have hm2 : 2 ^ m ≤ 2 ^ 15 := Nat.pow_le_pow_right (by decide) hm
  have hKR : K.length ≤ R := hL.2.2.1
  have hxK : x < K.length := (List.getElem?_eq_some_iff.mp hx).1
  have hk : zkok T k := hL.2.2.2.1 k (List.mem_iff_getElem?.mpr ⟨x, hx⟩)
  have cx : (nI x).toNatClampNeg = x := nI_clamp (by omega)
  have hky : w.2.2.1 (b + 6 + 1) x = lN (zenc T k) := hL.1 x k hx
  have hP := zenc_parts hT0 hk
  have hE52 := zenc_lt hT0 hk
  have hk1 : k.1 < 8 := hk.1
  have hk2 := hk.2.1
  have hbl := zmb_lt T k
  have hmayx := (hrow x k hx).1
  have hnx := (hrow x k hx).2
  have hso1 := hso k.1 hk1
  have hnu1 := hnu k.1 hk1
  have hsl := (hpp k.1).1
  have hnl := (hpp k.1).2.1
  have ck : (nI k.1).toNatClampNeg = k.1 := nI_clamp (by omega)
  obtain ⟨hc10, hn8, hcl, hinj, hWc⟩ := hco
  have hpl := zpe_le hT0 (show k.2.1 ≤ 13 by omega)
  have e8 : ∀ p, nI x * 8 + nI p = nI (x * 8 + p) := fun p => by rw [show nI x * 8 = nI (x * 8) from na_mul x 8, na_add]
  have L : ∀ j, j ≤ n → zJ Δ mX1_reckonOpened (zRm 1 0 0) true w.1 QR (fun _ _ => False) 0 0 34 [(5, .int (nI j)), (4, .int (if k.2.1 = T.1 7 then 1 else 0)), (3, .int (nI k.2.1)), (0, .ref b), (1, .int (nI x)), (2, .int (nI k.1))] [] (zrol w (b + 12) (zcw (w.2.2.1 (b + 12)) x cl (fun _ => 0) j)) := by
    refine zup (fun j hj ih => ?_)
    refine zJ_iload dX1_reckonOpened_34 rfl ?_
    refine zJ_aload_n dX1_reckonOpened_36 rfl ?_
    refine zJ_geti dX1_reckonOpened_37 fX1_92 (by first | rfl | assumption) rfl ?_
    rw [show ((zrol w (b + 12) (zcw (w.2.2.1 (b + 12)) x cl (fun _ => 0) j))).2.1 b 10 = nI n from hc10]
    refine zJ_icmp_ge (tgt := 67) dX1_reckonOpened_40 (by decide) (fun h40 => ?_) (fun h40 => ?_)
    · have hj9 : j = n := by exact Nat.le_antisymm hj ((nI_leI (a := n) (b := j) (by omega) (by omega)).mp h40)
      subst hj9
      refine zJ_aload_n dX1_reckonOpened_67 rfl ?_
      refine zJ_getr dX1_reckonOpened_68 fX1_41 (by first | rfl | assumption) rfl (by first | rfl | assumption) ?_
      refine zJ_iload_n dX1_reckonOpened_71 rfl ?_
      refine zJ_bipush (v := 8) dX1_reckonOpened_72 (by decide) ?_
      refine zJ_imul dX1_reckonOpened_74 ?_
      refine zJ_iload_n dX1_reckonOpened_75 rfl ?_
      refine zJ_iadd dX1_reckonOpened_76 ?_
      rw [e8]
      refine zJ_ldc2 dX1_reckonOpened_77 kX1_139 ?_
      refine zJ_aload_n dX1_reckonOpened_80 rfl ?_
      refine zJ_getr dX1_reckonOpened_81 fX1_12 (by first | rfl | assumption) rfl (by first | rfl | assumption) ?_
      refine zJ_iload_n dX1_reckonOpened_84 rfl ?_
      refine zJ_cV1 dX1_reckonOpened_85 sX1_141 mfX5_pence (c_Town_penceN Δ _ (b + 1) k.2.1 T hi0 (by omega)) (by first | rfl | assumption) rfl (Nat.le_of_ble_eq_true rfl) (by decide) (by decide) ?_
      refine zJ_iload dX1_reckonOpened_88 rfl ?_
      refine zJ_if_eq (tgt := 103) dX1_reckonOpened_90 (by decide) (fun h90 => ?_) (fun h90 => ?_)
      · have hend : ¬ k.2.1 = T.1 7 := fun h => by rw [if_pos h] at h90; exact absurd h90 (by decide)
        refine zJ_iconst (v := 0) dX1_reckonOpened_103 (by decide) ?_
        refine zJ_iadd dX1_reckonOpened_104 ?_
        refine zJ_i2l dX1_reckonOpened_105 ?_
        rw [show nI (zpe T k.2.1) + 0 = nI (zpe T k.2.1) from by simp, nI_l (show zpe T k.2.1 < 2 ^ 31 by omega)]
        refine zJ_lmul dX1_reckonOpened_106 ?_
        rw [show (1000 : Int64) * lN (zpe T k.2.1) = lZ (zoG T k k.1) by rw [show (1000 : Int64) * lN (zpe T k.2.1) = lN (1000 * zpe T k.2.1) from lN_mul 1000 _, lZ_n]; simp [zoG, hend]]
        refine zJ_last dX1_reckonOpened_107 (by first | rfl | assumption) (vp_in_nI (by omega) (by omega)) ?_
        refine zJ_aload_n dX1_reckonOpened_108 rfl ?_
        refine zJ_getr dX1_reckonOpened_109 fX1_38 (by first | rfl | assumption) rfl (by first | rfl | assumption) ?_
        refine zJ_iload_n dX1_reckonOpened_112 rfl ?_
        refine zJ_iload dX1_reckonOpened_113 rfl ?_
        rw [if_neg hend]
        refine zJ_if_eq (tgt := 124) dX1_reckonOpened_115 (by decide) (fun h115 => ?_) (fun h115 => ?_)
        · refine zJ_lconst (v := 0) dX1_reckonOpened_124 (by decide) ?_
          refine zJ_last dX1_reckonOpened_125 (by first | rfl | assumption) (vp_in_nI (by omega) (by omega)) ?_
          refine zJ_vret dX1_reckonOpened_126 rfl (by decide) (by decide) (hQ _ _ ⟨rfl, ⟨rfl, rfl, fun _ _ _ => rfl, fun a q h1 h2 h3 => ?_⟩, rfl, ?_, fun p hp hWp => ?_⟩)
          · rw [cx, nI_clamp (show x * 8 + k.1 < 2 ^ 31 by omega)]
            have n1 : ¬ (a = b + 11 ∧ q = x) := by omega
            have n2 : ¬ (a = b + 12 ∧ q = x * 8 + k.1) := by omega
            simp only [zsl, zrol, n1, n2, if_false]
            by_cases n3 : a = b + 12
            · rw [if_pos n3, n3]; exact zcw_out (fun c hc => (hcl c hc).2) (by omega)
            · rw [if_neg n3]
          · rw [cx, nI_clamp (show x * 8 + k.1 < 2 ^ 31 by omega)]
            simp [zsl, zoE, hend]
            try rfl
          · rw [cx, nI_clamp (show x * 8 + k.1 < 2 ^ 31 by omega)]
            by_cases hpk : p = k.1
            · subst hpk; simp [zsl]
            · obtain ⟨c, hc, rfl⟩ := (hWc p hp).mp hWp
              have n1 : ¬ x * 8 + cl c = x * 8 + k.1 := by omega
              simp only [zsl, zrol, n1, and_false, if_false, if_true]
              rw [if_neg (by omega), zcw_in hc]
              simp [zoG, hpk]
              try rfl
        · exact absurd rfl h115
      · have hend : k.2.1 = T.1 7 := Classical.byContradiction fun h => h90 (by rw [if_neg h])
        refine zJ_aload_n dX1_reckonOpened_93 rfl ?_
        refine zJ_getr dX1_reckonOpened_94 fX1_12 (by first | rfl | assumption) rfl (by first | rfl | assumption) ?_
        refine zJ_geti dX1_reckonOpened_97 fX1_144 (by first | rfl | assumption) rfl ?_
        rw [show ((zrol w (b + 12) (zcw (w.2.2.1 (b + 12)) x cl (fun _ => 0) j))).2.1 (b + 1) 8 = nI (T.1 8) from hsc 8 (by decide) (by decide)]
        refine zJ_goto (tgt := 104) dX1_reckonOpened_100 (by decide) ?_
        refine zJ_iadd dX1_reckonOpened_104 ?_
        refine zJ_i2l dX1_reckonOpened_105 ?_
        rw [na_add, nI_l (show zpe T k.2.1 + T.1 8 < 2 ^ 31 by omega)]
        refine zJ_lmul dX1_reckonOpened_106 ?_
        rw [show (1000 : Int64) * lN (zpe T k.2.1 + T.1 8) = lZ (zoG T k k.1) by rw [show (1000 : Int64) * lN (zpe T k.2.1 + T.1 8) = lN (1000 * (zpe T k.2.1 + T.1 8)) from lN_mul 1000 _, lZ_n]; simp [zoG, hend]]
        refine zJ_last dX1_reckonOpened_107 (by first | rfl | assumption) (vp_in_nI (by omega) (by omega)) ?_
        refine zJ_aload_n dX1_reckonOpened_108 rfl ?_
        refine zJ_getr dX1_reckonOpened_109 fX1_38 (by first | rfl | assumption) rfl (by first | rfl | assumption) ?_
        refine zJ_iload_n dX1_reckonOpened_112 rfl ?_
        refine zJ_iload dX1_reckonOpened_113 rfl ?_
        rw [if_pos hend]
        refine zJ_if_eq (tgt := 124) dX1_reckonOpened_115 (by decide) (fun h115 => ?_) (fun h115 => ?_)
        · exact absurd h115 (by decide)
        · refine zJ_ldc2 dX1_reckonOpened_118 kX1_147 ?_
          refine zJ_goto (tgt := 125) dX1_reckonOpened_121 (by decide) ?_
          refine zJ_last dX1_reckonOpened_125 (by first | rfl | assumption) (vp_in_nI (by omega) (by omega)) ?_
          refine zJ_vret dX1_reckonOpened_126 rfl (by decide) (by decide) (hQ _ _ ⟨rfl, ⟨rfl, rfl, fun _ _ _ => rfl, fun a q h1 h2 h3 => ?_⟩, rfl, ?_, fun p hp hWp => ?_⟩)
          · rw [cx, nI_clamp (show x * 8 + k.1 < 2 ^ 31 by omega)]
            have n1 : ¬ (a = b + 11 ∧ q = x) := by omega
            have n2 : ¬ (a = b + 12 ∧ q = x * 8 + k.1) := by omega
            simp only [zsl, zrol, n1, n2, if_false]
            by_cases n3 : a = b + 12
            · rw [if_pos n3, n3]; exact zcw_out (fun c hc => (hcl c hc).2) (by omega)
            · rw [if_neg n3]
          · rw [cx, nI_clamp (show x * 8 + k.1 < 2 ^ 31 by omega)]
            simp [zsl, zoE, hend]
            try rfl
          · rw [cx, nI_clamp (show x * 8 + k.1 < 2 ^ 31 by omega)]
            by_cases hpk : p = k.1
            · subst hpk; simp [zsl]
            · obtain ⟨c, hc, rfl⟩ := (hWc p hp).mp hWp
              have n1 : ¬ x * 8 + cl c = x * 8 + k.1 := by omega
              simp only [zsl, zrol, n1, and_false, if_false, if_true]
              rw [if_neg (by omega), zcw_in hc]
              simp [zoG, hpk]
              try rfl
    · have hj9 : j < n := Nat.lt_of_not_le fun hq9 => h40 (by exact (nI_leI (a := n) (b := j) (by omega) (by omega)).mpr hq9)
      obtain ⟨hcj, hcj8⟩ := hcl j hj9
      refine zJ_aload_n dX1_reckonOpened_43 rfl ?_
      refine zJ_getr dX1_reckonOpened_44 fX1_41 (by first | rfl | assumption) rfl (by first | rfl | assumption) ?_
      refine zJ_iload_n dX1_reckonOpened_47 rfl ?_
      refine zJ_bipush (v := 8) dX1_reckonOpened_48 (by decide) ?_
      refine zJ_imul dX1_reckonOpened_50 ?_
      refine zJ_aload_n dX1_reckonOpened_51 rfl ?_
      refine zJ_getr dX1_reckonOpened_52 fX1_25 (by first | rfl | assumption) rfl (by first | rfl | assumption) ?_
      refine zJ_iload dX1_reckonOpened_55 rfl ?_
      refine zJ_iald dX1_reckonOpened_57 (by first | rfl | assumption) (vp_in_nI (by omega) (by omega)) ?_
      rw [nI_clamp (show j < 2 ^ 31 by omega), show ((zrol w (b + 12) (zcw (w.2.2.1 (b + 12)) x cl (fun _ => 0) j))).2.1 (b + 18) j = nI (cl j) from hcj]
      refine zJ_iadd dX1_reckonOpened_58 ?_
      rw [e8]
      refine zJ_lconst (v := 0) dX1_reckonOpened_59 (by decide) ?_
      refine zJ_last dX1_reckonOpened_60 (by first | rfl | assumption) (vp_in_nI (by omega) (by omega)) ?_
      refine zJ_iinc (ls2 := fun x61 => [(5, .int x61), (4, .int (if k.2.1 = T.1 7 then 1 else 0)), (3, .int (nI k.2.1)), (0, .ref b), (1, .int (nI x)), (2, .int (nI k.1))]) dX1_reckonOpened_61 rfl (by decide) (fun _ => rfl) (fun x61 ex61 => ?_)
      refine zJ_goto (tgt := 34) dX1_reckonOpened_64 (by decide) ?_
      refine zJ_ls [(5, .int x61), (4, .int (if k.2.1 = T.1 7 then 1 else 0)), (3, .int (nI k.2.1)), (0, .ref b), (1, .int (nI x)), (2, .int (nI k.1))] (by simp) ?_
      rw [ex61, show nI j + Int32.ofInt 1 = nI (j + 1) from nI_1 _]
      refine zJ_w (w2 := (zrol w (b + 12) (zcw (w.2.2.1 (b + 12)) x cl (fun _ => 0) (j + 1)))) ?_ (ih (j + 1) (by omega) (by omega))
      rw [nI_clamp (show x * 8 + cl j < 2 ^ 31 by omega), zsl_row, zrol_get, zrol_rol]
      rfl
  refine zJ_aload_n dX1_reckonOpened_0 rfl ?_
  refine zJ_getr dX1_reckonOpened_1 fX1_34 (by first | rfl | assumption) rfl (by first | rfl | assumption) ?_
  refine zJ_getr dX1_reckonOpened_4 fX1_101 (by first | rfl | assumption) rfl (by first | rfl | assumption) ?_
  refine zJ_iload_n dX1_reckonOpened_7 rfl ?_
  refine zJ_lald dX1_reckonOpened_8 (by first | rfl | assumption) (vp_in_nI (by omega) (by omega)) ?_
  rw [cx, hky]
  refine zJ_cS1 dX1_reckonOpened_9 sX1_133 mfX6_handOf (c_Ways_handOf Δ w (zenc T k) (by omega)) (Nat.le_of_ble_eq_true rfl) (by decide) (by decide) ?_
  rw [hP.2.1]
  refine zJ_istore_n (ls2 := fun x12 => [(3, .int x12), (0, .ref b), (1, .int (nI x)), (2, .int (nI k.1))]) dX1_reckonOpened_12 (by decide) (fun _ => rfl) (fun x12 ex12 => ?_)
  obtain rfl : x12 = (nI k.2.1) := ex12
  refine zJ_iload_n dX1_reckonOpened_13 rfl ?_
  refine zJ_aload_n dX1_reckonOpened_14 rfl ?_
  refine zJ_getr dX1_reckonOpened_15 fX1_12 (by first | rfl | assumption) rfl (by first | rfl | assumption) ?_
  refine zJ_geti dX1_reckonOpened_18 fX1_136 (by first | rfl | assumption) rfl ?_
  rw [hsc 7 (by decide) (by decide)]
  refine zJ_icmp_ne (tgt := 28) dX1_reckonOpened_21 (by decide) (fun h21 => ?_) (fun h21 => ?_)
  · have hend : ¬ k.2.1 = T.1 7 := fun h => h21 (by rw [h])
    refine zJ_iconst (v := 0) dX1_reckonOpened_28 (by decide) ?_
    refine zJ_istore (ls2 := fun x29 => [(4, .int x29), (3, .int (nI k.2.1)), (0, .ref b), (1, .int (nI x)), (2, .int (nI k.1))]) dX1_reckonOpened_29 (by decide) (fun _ => rfl) (fun x29 ex29 => ?_)
    obtain rfl : x29 = (if k.2.1 = T.1 7 then 1 else 0) := by simp [ex29, hend]
    refine zJ_iconst (v := 0) dX1_reckonOpened_31 (by decide) ?_
    refine zJ_istore (ls2 := fun x32 => [(5, .int x32), (4, .int (if k.2.1 = T.1 7 then 1 else 0)), (3, .int (nI k.2.1)), (0, .ref b), (1, .int (nI x)), (2, .int (nI k.1))]) dX1_reckonOpened_32 (by decide) (fun _ => rfl) (fun x32 ex32 => ?_)
    obtain rfl : x32 = (nI 0) := ex32
    refine zJ_w (w2 := (zrol w (b + 12) (zcw (w.2.2.1 (b + 12)) x cl (fun _ => 0) 0))) ?_ (L 0 (Nat.zero_le _))
    exact (zrol_self w (b + 12)).symm
  · have hend : k.2.1 = T.1 7 := (nI_eq (by omega) (by omega)).mp h21
    refine zJ_iconst (v := 1) dX1_reckonOpened_24 (by decide) ?_
    refine zJ_goto (tgt := 29) dX1_reckonOpened_25 (by decide) ?_
    refine zJ_istore (ls2 := fun x29 => [(4, .int x29), (3, .int (nI k.2.1)), (0, .ref b), (1, .int (nI x)), (2, .int (nI k.1))]) dX1_reckonOpened_29 (by decide) (fun _ => rfl) (fun x29 ex29 => ?_)
    obtain rfl : x29 = (if k.2.1 = T.1 7 then 1 else 0) := by simp [ex29, hend]
    refine zJ_iconst (v := 0) dX1_reckonOpened_31 (by decide) ?_
    refine zJ_istore (ls2 := fun x32 => [(5, .int x32), (4, .int (if k.2.1 = T.1 7 then 1 else 0)), (3, .int (nI k.2.1)), (0, .ref b), (1, .int (nI x)), (2, .int (nI k.1))]) dX1_reckonOpened_32 (by decide) (fun _ => rfl) (fun x32 ex32 => ?_)
    obtain rfl : x32 = (nI 0) := ex32
    refine zJ_w (w2 := (zrol w (b + 12) (zcw (w.2.2.1 (b + 12)) x cl (fun _ => 0) 0))) ?_ (L 0 (Nat.zero_le _))
    exact (zrol_self w (b + 12)).symm
