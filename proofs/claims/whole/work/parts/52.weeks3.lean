/-! LetterTown$Weeks: nodeBehind, runOne -/
theorem sm_zero {u : Nat → Nat} {n : Nat} (h : ∀ y, y < n → u y = 0) : fb_sm u n = 0 := by
  induction n with
  | zero => rfl
  | succ n ih => rw [fb_sm_succ, ih (fun y hy => h y (by omega)), h n (by omega)]
theorem tb_0 {B : Nat} (h : ∀ y, y < 8 → B.testBit y = false) (hB : B < 256) : B = 0 := by
  apply Nat.eq_of_testBit_eq
  intro y
  by_cases hy : y < 8
  · rw [h y hy]; simp
  · rw [Nat.testBit_lt_two_pow (Nat.lt_of_lt_of_le hB (show 256 ≤ 2 ^ y from Nat.pow_le_pow_right (n := 2) (i := 8) (by decide) (by omega)))]; simp
theorem zpk_cong {u v : Nat → Nat} {d n : Nat} (h : ∀ y, y < n → u y = v y) : ∀ j, j ≤ n → zpk u d j = zpk v d j
  | 0, _ => rfl
  | j + 1, hj => by
    simp only [zpk, zpk_cong h j (by omega)]
    rw [fb_sm_cong (f := u) (g := v) (fun y hy => h y (by omega))]
theorem zmay_wt {T : zTo} {k : zKy} {y : Nat} (h : zmay T k y = true) : 0 < T.2.2.2 (k.1 * 8 + y) := by
  simp only [zmay, Bool.and_eq_true, decide_eq_true_eq] at h
  exact Nat.pos_of_ne_zero h.1.1.2
set_option maxRecDepth 100000 in
theorem c_Weeks_nodeBehind (Δ : zD) (w : zW) (b R m : Nat) (T : zTo) (K : List zKy) (hG : zGr w b R m T K) (x : Nat) (k : zKy) (hx : K[x]? = some k) (hcs : zChs w b T K) (i : Nat) (hW : zWk w i) (hib : i + 3 < b ∨ b + 18 < i) (O : Nat) (hO : O < 256) : zMp Δ 3 yX7_nodeBehind mX7_nodeBehind [.ref i, .ref b, .int (nI x), .int (nI O)] w (fun a c => c = zsi w i 1 (zgo T k O.testBit (w.2.1 i 1)).2 ∧ (((zgo T k O.testBit (w.2.1 i 1)).1 = none ∧ a = some (.int (-1))) ∨ ∃ (y z : Nat), (zgo T k O.testBit (w.2.1 i 1)).1 = some y ∧ K[z]? = some (zbk T k y) ∧ a = some (.int (nI z)))) := by
  refine zMp.of mfX7_nodeBehind (Nat.le_of_ble_eq_true rfl) (fun QR hQ => ?_)
  have hG0 := hG
  obtain ⟨⟨p0, q0, q1, q2, q3, q4, q5, q6, q7, q8, q9, s11, s12, s13, s14, s15, s16, s17, s18, hS⟩, hi, hT, hall, hL, hrow⟩ := hG
  have hS0 := hS
  obtain ⟨g0, r1, r2, r3, r4, g1, g2, g3, g4, hR, hRm, hm, hR0⟩ := hS
  have hi0 := hi
  obtain ⟨t0, u1, u2, u3, u4, t1, t2, t3, t4⟩ := hi.1
  obtain ⟨-, hsc, hso, hnu, hkn, hwt⟩ := hi
  have hT0 := hT
  obtain ⟨hp0, hp5, hp6, hp7, hp8, hp9, hp10, hp11, hp12, hp13, hpp, hpw⟩ := hT
  have hm2 : 2 ^ m ≤ 2 ^ 15 := Nat.pow_le_pow_right (by decide) hm
  have hKR : K.length ≤ R := hL.2.2.1
  have hxK : x < K.length := (List.getElem?_eq_some_iff.mp hx).1
  have hk : zkok T k := hL.2.2.2.1 k (List.mem_iff_getElem?.mpr ⟨x, hx⟩)
  have cx : (nI x).toNatClampNeg = x := nI_clamp (by omega)
  have hky : w.2.2.1 (b + 6 + 1) x = lN (zenc T k) := hL.1 x k hx
  have hP := zenc_parts hT0 hk
  have hE52 := zenc_lt hT0 hk
  have hk1 : k.1 < 8 := hk.1
  have hk2 := hk.2.1
  have hbl := zmb_lt T k
  have hmayx := (hrow x k hx).1
  have hnx := (hrow x k hx).2
  have hso1 := hso k.1 hk1
  have hnu1 := hnu k.1 hk1
  have hsl := (hpp k.1).1
  have hnl := (hpp k.1).2.1
  have ck : (nI k.1).toNatClampNeg = k.1 := nI_clamp (by omega)
  have hC := hcs x k hx
  have hC8 : ∀ q, zcC T k = some q → q < 8 := fun q h => (zcC_may h).1
  have hB256 := ztb_256 (T := T) (k := k)
  have hs1000 := zsh_1000 hT0 k (zcC T k)
  have hUl := zwt_le (B := ztb T k (zcC T k)) hT0 hk1 8 (Nat.le_refl 8)
  have hW0 := hW
  obtain ⟨k0, v1, v2, v3, l1, l2, l3⟩ := hW
  have hQ1 : ∀ s1 : Int32, (zgo T k O.testBit (w.2.1 i 1)) = (none, s1) → QR (some (.int (-1))) (zsi w i 1 s1) := fun s1 h => hQ _ _ ⟨by rw [h], Or.inl ⟨by rw [h], rfl⟩⟩
  have L : ∀ s1 : Int32, (zgo T k O.testBit (w.2.1 i 1)) = zgt T k O.testBit s1 → (T.2.1 k.1 = 3 → ∃ q, zcC T k = some q) → ¬ zmb T k = 0 → zJ Δ mX7_nodeBehind (zRm 3 0 0) true w.1 QR (fun _ _ => False) 0 0 82 [(6, .int (nI (T.2.1 k.1))), (5, .int (nI k.1)), (4, .int (nI (zmb T k))), (0, .ref i), (1, .ref b), (2, .int (nI x)), (3, .int (nI O))] [] (zsi w i 1 s1) := by
    intro s1 he h3q hm0
    have hG1 : zGr (zsi w i 1 s1) b R m T K := hG0.eq rfl rfl (fun a j h1 h2 => zsi_o (by omega)) (fun _ _ _ _ => rfl)
    have hW1 : zWk (zsi w i 1 s1) i := hW0
    have hch1 : T.2.1 k.1 = 3 → (zsi w i 1 s1).2.1 (b + 13) x = zoi (zcC T k) := fun h => (zsi_o (by omega)).trans (hC h)
    by_cases h3 : T.2.1 k.1 = 3
    · obtain ⟨q, hq⟩ := h3q h3
      obtain ⟨hq8, hqm⟩ := zcC_may hq
      obtain ⟨c, hc, hnc⟩ := (hnx q hq8).1 hqm
      have hcK : c < K.length := (List.getElem?_eq_some_iff.mp hc).1
      refine zJ_iload dX7_nodeBehind_82 rfl ?_
      refine zJ_iconst (v := 3) dX7_nodeBehind_84 (by decide) ?_
      refine zJ_icmp_ne (tgt := 96) dX7_nodeBehind_85 (by decide) (fun h85t => ?_) (fun h85t => ?_)
      · exact absurd (by rw [h3]; rfl) h85t
      · refine zJ_aload_n dX7_nodeBehind_88 rfl ?_
        refine zJ_iload_n dX7_nodeBehind_89 rfl ?_
        refine zJ_cV1 dX7_nodeBehind_90 sX7_106 mfX1_targetsOf (c_Play_targetsOf Δ (zsi w i 1 s1) b R m T K hG1 x k hx (zcC T k) hch1 hC8) (by first | rfl | assumption) rfl (Nat.le_of_ble_eq_true rfl) (by decide) (by decide) ?_
        refine zJ_goto (tgt := 98) dX7_nodeBehind_93 (by decide) ?_
        refine zJ_iload_n dX7_nodeBehind_98 rfl ?_
        refine zJ_iconst (v := (-1)) dX7_nodeBehind_99 (by decide) ?_
        refine zJ_ixor dX7_nodeBehind_100 ?_
        rw [show ztb T k (zcC T k) = 2 ^ q by simp only [ztb, h3, if_true, hq], na_not]
        refine zJ_iand dX7_nodeBehind_101 ?_
        refine zJ_istore (ls2 := fun x102t => [(7, .int x102t), (6, .int (nI (T.2.1 k.1))), (5, .int (nI k.1)), (4, .int (nI (zmb T k))), (0, .ref i), (1, .ref b), (2, .int (nI x)), (3, .int (nI O))]) dX7_nodeBehind_102 (by decide) (fun _ => rfl) (fun x102t ex102t => ?_)
        obtain rfl : x102t = (nI (2 ^ q &&& (O ^^^ 4294967295))) := by rw [ex102t, na_and]
        refine zJ_iload dX7_nodeBehind_104 rfl ?_
        refine zJ_if_ne (tgt := 111) dX7_nodeBehind_106 (by decide) (fun h106t => ?_) (fun h106t => ?_)
        · refine zJ_iload dX7_nodeBehind_111 rfl ?_
          refine zJ_iconst (v := 3) dX7_nodeBehind_113 (by decide) ?_
          refine zJ_icmp_ne (tgt := 126) dX7_nodeBehind_114 (by decide) (fun h114t => ?_) (fun h114t => ?_)
          · exact absurd (by rw [h3]; rfl) h114t
          · refine zJ_aload_n dX7_nodeBehind_117 rfl ?_
            refine zJ_getr dX7_nodeBehind_118 fX7_109 (by first | rfl | assumption) rfl (by first | rfl | assumption) ?_
            refine zJ_iload_n dX7_nodeBehind_121 rfl ?_
            refine zJ_iald dX7_nodeBehind_122 (by first | rfl | assumption) (vp_in_nI (by omega) (by omega)) ?_
            refine zJ_goto (tgt := 135) dX7_nodeBehind_123 (by decide) ?_
            refine zJ_istore (ls2 := fun x135t => [(8, .int x135t), (7, .int (nI (2 ^ q &&& (O ^^^ 4294967295)))), (6, .int (nI (T.2.1 k.1))), (5, .int (nI k.1)), (4, .int (nI (zmb T k))), (0, .ref i), (1, .ref b), (2, .int (nI x)), (3, .int (nI O))]) dX7_nodeBehind_135 (by decide) (fun _ => rfl) (fun x135t ex135t => ?_)
            obtain rfl : x135t = (nI q) := by rw [ex135t, cx, hch1 h3, hq]; rfl
            refine zJ_iload dX7_nodeBehind_137 rfl ?_
            refine zJ_if_ge (tgt := 146) dX7_nodeBehind_139 (by decide) (fun h139t => ?_) (fun h139t => ?_)
            · refine zJ_aload_n dX7_nodeBehind_146 rfl ?_
              refine zJ_getr dX7_nodeBehind_147 fX7_67 (by first | rfl | assumption) rfl (by first | rfl | assumption) ?_
              refine zJ_getr dX7_nodeBehind_150 fX7_115 (by first | rfl | assumption) rfl (by first | rfl | assumption) ?_
              refine zJ_iload_n dX7_nodeBehind_153 rfl ?_
              refine zJ_bipush (v := 8) dX7_nodeBehind_154 (by decide) ?_
              refine zJ_imul dX7_nodeBehind_156 ?_
              refine zJ_iload dX7_nodeBehind_157 rfl ?_
              refine zJ_iadd dX7_nodeBehind_159 ?_
              rw [show nI x * 8 = nI (x * 8) from na_mul x 8, na_add]
              refine zJ_iald dX7_nodeBehind_160 (by first | rfl | assumption) (vp_in_nI (by omega) (by omega)) ?_
              rw [nI_clamp (show x * 8 + q < 2 ^ 31 by omega), show (zsi w i 1 s1).2.1 (b + 6 + 3) (x * 8 + q) = nI c from (zsi_o (by omega)).trans hnc]
              have hout : O.testBit q = false := by
                cases ho : O.testBit q with
                | false => rfl
                | true =>
                  refine absurd ?_ h106t
                  rw [show 2 ^ q &&& (O ^^^ 4294967295) = 0 from ?_]
                  · rfl
                  · apply Nat.eq_of_testBit_eq
                    intro y
                    rw [Nat.testBit_and, Nat.testBit_two_pow, tb_not]
                    by_cases hy : q = y
                    · subst hy; simp [ho]; omega
                    · simp [hy]
              have hgo : (zgo T k O.testBit (w.2.1 i 1)) = (some q, s1) := by rw [he]; simp [zgt, h3, hq, hout]
              exact zJ_iret dX7_nodeBehind_161 rfl (by decide) (by decide) (hQ _ _ ⟨by rw [hgo], Or.inr ⟨q, c, by rw [hgo], hc, rfl⟩⟩)
            · exact absurd ((nI_leI (a := 0) (b := q) (by decide) (by omega)).mpr (Nat.zero_le _)) h139t
        · have hz : 2 ^ q &&& (O ^^^ 4294967295) = 0 := (nI_eq (b := 0) (Nat.lt_of_le_of_lt Nat.and_le_left (by have := Nat.pow_lt_pow_right (a := 2) (m := q) (n := 8) (by decide) hq8; omega)) (by decide)).mp h106t
          have hout : O.testBit q = true := by
            have h9 : (2 ^ q &&& (O ^^^ 4294967295)).testBit q = false := by rw [hz]; simp
            rw [Nat.testBit_and, Nat.testBit_two_pow_self, tb_not] at h9
            have : q < 32 := by omega
            simpa [this] using h9
          refine zJ_iconst (v := -1) dX7_nodeBehind_109 (by decide) ?_
          exact zJ_iret dX7_nodeBehind_110 rfl (by decide) (by decide) (hQ1 s1 (by rw [he]; simp [zgt, h3, hq, hout]))
    · generalize hBd : (zmb T k &&& (O ^^^ 4294967295)) = B
      have hB8 : B < 256 := by rw [← hBd]; exact Nat.lt_of_le_of_lt Nat.and_le_left hbl
      have hBt : ∀ y, y < 8 → B.testBit y = (zmay T k y && !O.testBit y) := fun y hy => by
        rw [← hBd, Nat.testBit_and, tb_not, zmb_tb T k hy]
        have : y < 32 := by omega
        simp [this]
      have hU9 : ∀ y, y < 8 → (if B.testBit y then zwu T k.1 y else 0) = zgU T k O.testBit y := fun y hy => by
        simp only [hBt y hy, zgU, zwu, h3, if_false]
      have hSe : zwt T k.1 B 8 = fb_sm (zgU T k O.testBit) 8 := fb_sm_cong hU9
      have hpu : ∀ d, zpk (fun y => if B.testBit y then zwu T k.1 y else 0) d 8 = zpk (zgU T k O.testBit) d 8 := fun d => zpk_cong hU9 8 (Nat.le_refl 8)
      have hS0 : B = 0 → fb_sm (zgU T k O.testBit) 8 = 0 := fun h => by
        rw [← hSe]; subst h
        exact sm_zero (fun y _ => by simp)
      have hSp : ¬ B = 0 → 0 < zwt T k.1 B 8 := fun h => by
        refine Nat.pos_of_ne_zero fun h0 => h (tb_0 (fun y hy => ?_) hB8)
        cases hb : B.testBit y with
        | false => rfl
        | true =>
          have h1 := zwt_one (T := T) (a := k.1) hy hb
          have h2 : zmay T k y = true := by rw [hBt y hy, Bool.and_eq_true] at hb; exact hb.1
          have h4 := zmay_wt h2
          simp only [zwu, h3, if_false] at h1
          omega
      refine zJ_iload dX7_nodeBehind_82 rfl ?_
      refine zJ_iconst (v := 3) dX7_nodeBehind_84 (by decide) ?_
      refine zJ_icmp_ne (tgt := 96) dX7_nodeBehind_85 (by decide) (fun h85n => ?_) (fun h85n => ?_)
      · refine zJ_iload dX7_nodeBehind_96 rfl ?_
        refine zJ_iload_n dX7_nodeBehind_98 rfl ?_
        refine zJ_iconst (v := (-1)) dX7_nodeBehind_99 (by decide) ?_
        refine zJ_ixor dX7_nodeBehind_100 ?_
        rw [na_not]
        refine zJ_iand dX7_nodeBehind_101 ?_
        refine zJ_istore (ls2 := fun x102n => [(7, .int x102n), (6, .int (nI (T.2.1 k.1))), (5, .int (nI k.1)), (4, .int (nI (zmb T k))), (0, .ref i), (1, .ref b), (2, .int (nI x)), (3, .int (nI O))]) dX7_nodeBehind_102 (by decide) (fun _ => rfl) (fun x102n ex102n => ?_)
        obtain rfl : x102n = (nI B) := by rw [ex102n, na_and, hBd]
        refine zJ_iload dX7_nodeBehind_104 rfl ?_
        refine zJ_if_ne (tgt := 111) dX7_nodeBehind_106 (by decide) (fun h106n => ?_) (fun h106n => ?_)
        · have hBne : ¬ B = 0 := fun h => h106n (by rw [h]; rfl)
          have hUp : 0 < zwt T k.1 B 8 := hSp hBne
          refine zJ_iload dX7_nodeBehind_111 rfl ?_
          refine zJ_iconst (v := 3) dX7_nodeBehind_113 (by decide) ?_
          refine zJ_icmp_ne (tgt := 126) dX7_nodeBehind_114 (by decide) (fun h114d => ?_) (fun h114d => ?_)
          · refine zJ_aload_n dX7_nodeBehind_126 rfl ?_
            refine zJ_aload_n dX7_nodeBehind_127 rfl ?_
            refine zJ_iload dX7_nodeBehind_128 rfl ?_
            refine zJ_iload dX7_nodeBehind_130 rfl ?_
            refine zJ_cV3 dX7_nodeBehind_132 sX7_112 mfX7_drawnOf (c_Weeks_drawnOf Δ (zsi w i 1 s1) b R m T K hG1 i hW1 hib k.1 B hk1 hB8 hUp) (by first | rfl | assumption) rfl (Nat.le_of_ble_eq_true rfl) (by decide) (by decide) ?_
            rw [zsi_at, zsi_si]
            refine zJ_istore (ls2 := fun x135d => [(8, .int x135d), (7, .int (nI B)), (6, .int (nI (T.2.1 k.1))), (5, .int (nI k.1)), (4, .int (nI (zmb T k))), (0, .ref i), (1, .ref b), (2, .int (nI x)), (3, .int (nI O))]) dX7_nodeBehind_135 (by decide) (fun _ => rfl) (fun x135d ex135d => ?_)
            have hgo : (zgo T k O.testBit (w.2.1 i 1)) = (zpk (zgU T k O.testBit) (zd15 (zdr s1) % zwt T k.1 B 8) 8, zdr s1) := by
              rw [he]
              simp only [zgt, h3, if_false, zgp]
              rw [← hSe, if_neg (by omega)]
            have ex135d := ex135d
            rw [hpu] at ex135d
            cases hp : zpk (zgU T k O.testBit) (zd15 (zdr s1) % zwt T k.1 B 8) 8 with
            | none =>
              rw [hp] at ex135d
              obtain rfl : x135d = -1 := ex135d
              refine zJ_iload dX7_nodeBehind_137 rfl ?_
              refine zJ_if_ge (tgt := 146) dX7_nodeBehind_139 (by decide) (fun h139u => ?_) (fun h139u => ?_)
              · exact absurd h139u (by decide)
              · refine zJ_iconst (v := (-1)) dX7_nodeBehind_142 (by decide) ?_
                refine zJ_goto (tgt := 161) dX7_nodeBehind_143 (by decide) ?_
                exact zJ_iret dX7_nodeBehind_161 rfl (by decide) (by decide) (hQ1 _ (by rw [hgo, hp]))
            | some y =>
              rw [hp] at ex135d
              obtain rfl : x135d = nI y := ex135d
              obtain ⟨hy8, hyu⟩ := zpk_some hp
              have hym : zmay T k y = true := by
                cases hz : zmay T k y with
                | true => rfl
                | false => simp [zgU, hz] at hyu
              obtain ⟨c, hc, hnc⟩ := (hnx y hy8).1 hym
              have hcK : c < K.length := (List.getElem?_eq_some_iff.mp hc).1
              refine zJ_iload dX7_nodeBehind_137 rfl ?_
              refine zJ_if_ge (tgt := 146) dX7_nodeBehind_139 (by decide) (fun h139v => ?_) (fun h139v => ?_)
              · refine zJ_aload_n dX7_nodeBehind_146 rfl ?_
                refine zJ_getr dX7_nodeBehind_147 fX7_67 (by first | rfl | assumption) rfl (by first | rfl | assumption) ?_
                refine zJ_getr dX7_nodeBehind_150 fX7_115 (by first | rfl | assumption) rfl (by first | rfl | assumption) ?_
                refine zJ_iload_n dX7_nodeBehind_153 rfl ?_
                refine zJ_bipush (v := 8) dX7_nodeBehind_154 (by decide) ?_
                refine zJ_imul dX7_nodeBehind_156 ?_
                refine zJ_iload dX7_nodeBehind_157 rfl ?_
                refine zJ_iadd dX7_nodeBehind_159 ?_
                rw [show nI x * 8 = nI (x * 8) from na_mul x 8, na_add]
                refine zJ_iald dX7_nodeBehind_160 (by first | rfl | assumption) (vp_in_nI (by omega) (by omega)) ?_
                rw [nI_clamp (show x * 8 + y < 2 ^ 31 by omega), show (zsi w i 1 (zdr s1)).2.1 (b + 6 + 3) (x * 8 + y) = nI c from (zsi_o (by omega)).trans hnc]
                exact zJ_iret dX7_nodeBehind_161 rfl (by decide) (by decide) (hQ _ _ ⟨by rw [hgo], Or.inr ⟨y, c, by rw [hgo, hp], hc, rfl⟩⟩)
              · exact absurd ((nI_leI (a := 0) (b := y) (by decide) (by omega)).mpr (Nat.zero_le _)) h139v
          · exact absurd ((nI_eq (b := 3) (by omega) (by decide)).mp h114d) h3
        · have hz : B = 0 := (nI_eq (b := 0) (by omega) (by decide)).mp h106n
          refine zJ_iconst (v := -1) dX7_nodeBehind_109 (by decide) ?_
          exact zJ_iret dX7_nodeBehind_110 rfl (by decide) (by decide) (hQ1 s1 (by
            rw [he]
            simp only [zgt, h3, if_false, zgp]
            rw [if_pos (hS0 hz)]))
      · exact absurd ((nI_eq (b := 3) (by omega) (by decide)).mp h85n) h3
  refine zJ_aload_n dX7_nodeBehind_0 rfl ?_
  refine zJ_getr dX7_nodeBehind_1 fX7_67 (by first | rfl | assumption) rfl (by first | rfl | assumption) ?_
  refine zJ_getr dX7_nodeBehind_4 fX7_90 (by first | rfl | assumption) rfl (by first | rfl | assumption) ?_
  refine zJ_iload_n dX7_nodeBehind_7 rfl ?_
  refine zJ_iald dX7_nodeBehind_8 (by first | rfl | assumption) (vp_in_nI (by omega) (by omega)) ?_
  refine zJ_istore (ls2 := fun x9 => [(4, .int x9), (0, .ref i), (1, .ref b), (2, .int (nI x)), (3, .int (nI O))]) dX7_nodeBehind_9 (by decide) (fun _ => rfl) (fun x9 ex9 => ?_)
  obtain rfl : x9 = (nI (zmb T k)) := by rw [ex9, cx, hmayx]
  refine zJ_iload dX7_nodeBehind_11 rfl ?_
  refine zJ_if_ne (tgt := 18) dX7_nodeBehind_13 (by decide) (fun h13 => ?_) (fun h13 => ?_)
  · have hm0 : ¬ zmb T k = 0 := fun h => h13 (by rw [h]; rfl)
    refine zJ_aload_n dX7_nodeBehind_18 rfl ?_
    refine zJ_getr dX7_nodeBehind_19 fX7_67 (by first | rfl | assumption) rfl (by first | rfl | assumption) ?_
    refine zJ_getr dX7_nodeBehind_22 fX7_71 (by first | rfl | assumption) rfl (by first | rfl | assumption) ?_
    refine zJ_iload_n dX7_nodeBehind_25 rfl ?_
    refine zJ_lald dX7_nodeBehind_26 (by first | rfl | assumption) (vp_in_nI (by omega) (by omega)) ?_
    rw [cx, hky]
    refine zJ_cS1 dX7_nodeBehind_27 sX7_83 mfX6_whoOf (c_Ways_whoOf Δ w (zenc T k)) (Nat.le_of_ble_eq_true rfl) (by decide) (by decide) ?_
    rw [hP.1]
    refine zJ_istore (ls2 := fun x30 => [(5, .int x30), (4, .int (nI (zmb T k))), (0, .ref i), (1, .ref b), (2, .int (nI x)), (3, .int (nI O))]) dX7_nodeBehind_30 (by decide) (fun _ => rfl) (fun x30 ex30 => ?_)
    obtain rfl : x30 = (nI k.1) := ex30
    refine zJ_aload_n dX7_nodeBehind_32 rfl ?_
    refine zJ_getr dX7_nodeBehind_33 fX7_52 (by first | rfl | assumption) rfl (by first | rfl | assumption) ?_
    refine zJ_getr dX7_nodeBehind_36 fX7_93 (by first | rfl | assumption) rfl (by first | rfl | assumption) ?_
    refine zJ_iload dX7_nodeBehind_39 rfl ?_
    refine zJ_iald dX7_nodeBehind_41 (by first | rfl | assumption) (vp_in_nI (by omega) (by omega)) ?_
    refine zJ_istore (ls2 := fun x42 => [(6, .int x42), (5, .int (nI k.1)), (4, .int (nI (zmb T k))), (0, .ref i), (1, .ref b), (2, .int (nI x)), (3, .int (nI O))]) dX7_nodeBehind_42 (by decide) (fun _ => rfl) (fun x42 ex42 => ?_)
    obtain rfl : x42 = (nI (T.2.1 k.1)) := by rw [ex42, ck, hso1]
    refine zJ_iload dX7_nodeBehind_44 rfl ?_
    refine zJ_iconst (v := 2) dX7_nodeBehind_46 (by decide) ?_
    refine zJ_icmp_ne (tgt := 72) dX7_nodeBehind_47 (by decide) (fun h47 => ?_) (fun h47 => ?_)
    · have hs2 : ¬ T.2.1 k.1 = 2 := fun h => h47 (by rw [h]; rfl)
      refine zJ_aload_n dX7_nodeBehind_72 rfl ?_
      refine zJ_iload_n dX7_nodeBehind_73 rfl ?_
      refine zJ_cV1 dX7_nodeBehind_74 sX7_103 mfX1_shareOpened (c_Play_shareOpened Δ w b R m T K hG0 x k hx (zcC T k) hC hC8) (by first | rfl | assumption) rfl (Nat.le_of_ble_eq_true rfl) (by decide) (by decide) ?_
      refine zJ_if_le (tgt := 82) dX7_nodeBehind_77 (by decide) (fun h77 => ?_) (fun h77 => ?_)
      · refine zJ_ls [(6, .int (nI (T.2.1 k.1))), (5, .int (nI k.1)), (4, .int (nI (zmb T k))), (0, .ref i), (1, .ref b), (2, .int (nI x)), (3, .int (nI O))] (by simp) ?_
        have hs0 : zsh T k (zcC T k) = 0 := by
          have := (nI_leI (a := zsh T k (zcC T k)) (b := 0) (by omega) (by decide)).mp h77
          omega
        have := L (w.2.1 i 1) (by simp only [zgo, hm0, if_false, hs2]; rw [if_neg (by omega)]) (fun h3 => by
          cases hq : zcC T k with
          | some q => exact ⟨q, rfl⟩
          | none =>
            rw [hq] at hs0
            simp [zsh, hm0, h3] at hs0) hm0
        rwa [zsi_self] at this
      · refine zJ_iconst (v := (-1)) dX7_nodeBehind_80 (by decide) ?_
        exact zJ_iret dX7_nodeBehind_81 rfl (by decide) (by decide) (by
  have := hQ1 (w.2.1 i 1) (by
    simp only [zgo, hm0, if_false, hs2]
    rw [if_pos (Nat.pos_of_ne_zero fun h => h77 (by rw [h]; decide))])
  rwa [zsi_self] at this)
    · have hs2 : T.2.1 k.1 = 2 := (nI_eq (b := 2) (by omega) (by decide)).mp h47
      refine zJ_aload_n dX7_nodeBehind_50 rfl ?_
      refine zJ_sipush (v := 1000) dX7_nodeBehind_51 (by decide) ?_
      refine zJ_cV1 dX7_nodeBehind_54 sX7_96 mfX7_draw (c_Weeks_draw Δ w i hW0 1000 (by decide) (by decide)) (by first | rfl | assumption) rfl (Nat.le_of_ble_eq_true rfl) (by decide) (by decide) ?_
      refine zJ_aload_n dX7_nodeBehind_57 rfl ?_
      refine zJ_getr dX7_nodeBehind_58 fX7_52 (by first | rfl | assumption) rfl (by first | rfl | assumption) ?_
      refine zJ_getr dX7_nodeBehind_61 fX7_100 (by first | rfl | assumption) rfl (by first | rfl | assumption) ?_
      refine zJ_iload dX7_nodeBehind_64 rfl ?_
      refine zJ_iald dX7_nodeBehind_66 (by first | rfl | assumption) (vp_in_nI (by omega) (by omega)) ?_
      rw [ck, show (zsi w i 1 (zdr (w.2.1 i 1))).2.1 (b + 1 + 2) k.1 = nI (T.2.2.1 k.1) from (zsi_o (by omega)).trans hnu1]
      refine zJ_icmp_ge (tgt := 82) dX7_nodeBehind_67 (by decide) (fun h67 => ?_) (fun h67 => ?_)
      · refine zJ_ls [(6, .int (nI (T.2.1 k.1))), (5, .int (nI k.1)), (4, .int (nI (zmb T k))), (0, .ref i), (1, .ref b), (2, .int (nI x)), (3, .int (nI O))] (by simp) ?_
        refine L _ ?_ (fun h => absurd (hs2.symm.trans h) (by decide)) hm0
        simp only [zgo, hm0, if_false, hs2, if_true]
        rw [if_neg (Nat.not_lt.mpr ((nI_leI (by omega) (by have := Nat.mod_lt (zd15 (zdr (w.2.1 i 1))) (show 0 < 1000 by decide); omega)).mp h67))]
      · refine zJ_iconst (v := (-1)) dX7_nodeBehind_70 (by decide) ?_
        exact zJ_iret dX7_nodeBehind_71 rfl (by decide) (by decide) (hQ1 _ (by
  simp only [zgo, hm0, if_false, hs2, if_true]
  rw [if_pos (Nat.lt_of_not_le fun h => h67 ((nI_leI (by omega) (by have := Nat.mod_lt (zd15 (zdr (w.2.1 i 1))) (show 0 < 1000 by decide); omega)).mpr h))]))
  · have hz : zmb T k = 0 := (nI_eq (b := 0) (by omega) (by decide)).mp h13
    refine zJ_iconst (v := (-1)) dX7_nodeBehind_16 (by decide) ?_
    exact zJ_iret dX7_nodeBehind_17 rfl (by decide) (by decide) (by have := hQ1 (w.2.1 i 1) (by simp only [zgo, hz, if_true]); rwa [zsi_self] at this)
