/-! LetterTown$Ways: the table of the HANDS -/
def zn32 (x : Int32) : Nat := x.toBitVec.toNat
theorem zn32_eq (x : Int32) : nI (zn32 x) = x := Int32.toBitVec_inj.mp (by simp [nI, zn32])
theorem na_mask (x : Int32) (m : Nat) : x &&& (nI (2 ^ m) - 1) = nI (zn32 x % 2 ^ m) := by
  rw [show nI (2 ^ m) - 1 = nI (2 ^ m - 1) from na_sub (Nat.two_pow_pos m), ← fa_mask, zn32_eq]
/-- the class's slot of a key -/
def zhc (T : zTo) (m : Nat) (k : zKy) : Nat := zn32 ((lN (zenc T k) * (-7046029254386353131)).toUInt64 >>> ((40 : Int32).toInt64.toUInt64 &&& Int64.toUInt64 63)).toInt64.toInt32 % 2 ^ m
def zWs (w : zW) (i R m : Nat) : Prop := w.1 i = some (.inl 6) ∧ w.2.2.2 i 1 = some (i + 1) ∧ w.2.2.2 i 2 = some (i + 2) ∧ w.2.2.2 i 3 = some (i + 3) ∧ w.2.2.2 i 4 = some (i + 4) ∧ w.1 (i + 1) = some (.inr (true, R)) ∧ w.1 (i + 2) = some (.inr (false, R)) ∧ w.1 (i + 3) = some (.inr (false, R * 8)) ∧ w.1 (i + 4) = some (.inr (false, 2 ^ m)) ∧ w.2.1 i 0 = nI R ∧ R < 2 ^ m ∧ m ≤ 15 ∧ 0 < R
/-- its rows hold the HANDS of K, and its table is one of theirs -/
def zWl (w : zW) (i R m : Nat) (T : zTo) (K : List zKy) : Prop := (∀ (x : Nat) (k : zKy), K[x]? = some k → w.2.2.1 (i + 1) x = lN (zenc T k)) ∧ w.2.1 i 5 = nI K.length ∧ K.length ≤ R ∧ (∀ k ∈ K, zkok T k) ∧ ∃ g, (∀ s, s < 2 ^ m → w.2.1 (i + 4) s = zoi (g s)) ∧ zHt (2 ^ m) (zhc T m) K g
def zFr (w b : zW) (i : Nat) : Prop := b.1 = w.1 ∧ b.2.2.2 = w.2.2.2 ∧ (∀ a j, a ≠ i + 4 → (a ≠ i ∨ j ≠ 5) → b.2.1 a j = w.2.1 a j) ∧ (∀ a j, a ≠ i + 1 → b.2.2.1 a j = w.2.2.1 a j)
theorem zFr.rf (w : zW) (i : Nat) : zFr w w i := ⟨rfl, rfl, fun _ _ _ _ => rfl, fun _ _ _ => rfl⟩
theorem zWs.fr {w b : zW} {i R m : Nat} (h : zWs w i R m) (h1 : b.1 = w.1) (h2 : b.2.2.2 = w.2.2.2) (h3 : b.2.1 i 0 = w.2.1 i 0) : zWs b i R m := by
  unfold zWs at *; rw [h1, h2, h3]; exact h
theorem zmod_1 {m a d : Nat} (hm : 0 < m) : ((a + d) % m + 1) % m = (a + (d + 1)) % m := by
  rw [Nat.mod_add_mod, Nat.add_assoc]
def zPl (w : zW) (i R m : Nat) (T : zTo) (K : List zKy) (k : zKy) (a : Option Value) (b : zW) : Prop := (∃ c : Nat, K[c]? = some k ∧ a = some (.int (nI c)) ∧ b = w) ∨ (k ∉ K ∧ K.length < R ∧ a = some (.int (nI K.length)) ∧ zWl b i R m T (K ++ [k]) ∧ zFr w b i) ∨ (k ∉ K ∧ K.length = R ∧ a = some (.int (-1)) ∧ b = w)
set_option maxRecDepth 100000 in
theorem c_Ways_placeOf (Δ : zD) (w : zW) (i R m : Nat) (T : zTo) (K : List zKy) (k : zKy) (hS : zWs w i R m) (hL : zWl w i R m T K) (hT : zTok T) (hk : zkok T k) : zMp Δ 0 yX6_placeOf mX6_placeOf [.ref i, .long (lN (zenc T k))] w (zPl w i R m T K k) := by
  refine zMp.of mfX6_placeOf (Nat.le_of_ble_eq_true rfl) (fun QR hQ => ?_)
  obtain ⟨g0, r1, r2, r3, r4, g1, g2, g3, g4, hR, hRm, hm, hR0⟩ := hS
  have hL0 := hL
  obtain ⟨hky, hsz, hKR, hok, g, hg, hH⟩ := hL
  have hm2 : 2 ^ m ≤ 2 ^ 15 := Nat.pow_le_pow_right (by decide) hm
  have hm0 : 0 < 2 ^ m := Nat.two_pow_pos m
  obtain ⟨d, hd, hbef, hend⟩ := hH.find (by omega) k
  have hsl : ∀ j, (zhc T m k + j) % 2 ^ m < 2 ^ m := fun j => Nat.mod_lt _ hm0
  generalize hsd : zhc T m k = h0 at hbef hend hsl
  have hxl : ∀ s x, s < 2 ^ m → g s = some x → x < K.length := hH.1
  have L : ∀ j, j ≤ d → zJ Δ mX6_placeOf (zRm 0 0 0) true w.1 QR (fun _ _ => False) 0 0 24 [(5, .int (nI j)), (4, .int (nI ((h0 + j) % 2 ^ m))), (3, .int (nI (2 ^ m) - 1)), (0, .ref i), (1, .long (lN (zenc T k)))] [] w := by
    refine zup (fun j hj ih => ?_)
    have hj1 := hsl j
    have c1 : (nI ((h0 + j) % 2 ^ m)).toNatClampNeg = (h0 + j) % 2 ^ m := nI_clamp (by omega)
    have c2 : (nI K.length).toNatClampNeg = K.length := nI_clamp (by omega)
    have em : nI (2 ^ m) - 1 = nI (2 ^ m - 1) := na_sub hm0
    refine zJ_iload dX6_placeOf_24 rfl ?_
    refine zJ_iload_n dX6_placeOf_26 rfl ?_
    refine zJ_icmp_gt (tgt := 124) dX6_placeOf_27 (by decide) (fun h27 => ?_) (fun h27 => ?_)
    · exact absurd ((nI_ltI (a := 2 ^ m - 1) (b := j) (by omega) (by omega)).mp (by rw [← em]; exact h27)) (by omega)
    · refine zJ_aload_n dX6_placeOf_30 rfl ?_
      refine zJ_getr dX6_placeOf_31 fX6_29 (by first | rfl | assumption) rfl (by first | rfl | assumption) ?_
      refine zJ_iload dX6_placeOf_34 rfl ?_
      refine zJ_iald dX6_placeOf_36 (by first | rfl | assumption) (vp_in_nI hj1 (by omega)) ?_
      rw [c1]
      refine zJ_istore (ls2 := fun x37 => [(6, .int x37), (5, .int (nI j)), (4, .int (nI ((h0 + j) % 2 ^ m))), (3, .int (nI (2 ^ m) - 1)), (0, .ref i), (1, .long (lN (zenc T k)))]) dX6_placeOf_37 (by decide) (fun _ => rfl) (fun x37 ex37 => ?_)
      refine zJ_iload dX6_placeOf_39 rfl ?_
      refine zJ_if_ge (tgt := 95) dX6_placeOf_41 (by decide) (fun h41 => ?_) (fun h41 => ?_)
      · obtain ⟨x, hx, hxK⟩ : ∃ x, g ((h0 + j) % 2 ^ m) = some x ∧ x < K.length := by
          cases hz : g ((h0 + j) % 2 ^ m) with
          | none => rw [ex37, hg _ hj1, hz] at h41; exact absurd h41 (by decide)
          | some x => exact ⟨x, rfl, hxl _ x hj1 hz⟩
        obtain ⟨q, hq⟩ : ∃ q, K[x]? = some q := ⟨K[x], List.getElem?_eq_getElem hxK⟩
        have hqok := hok q (List.mem_iff_getElem?.mpr ⟨x, hq⟩)
        obtain rfl : x37 = nI x := by rw [ex37, hg _ hj1, hx]; rfl
        refine zJ_aload_n dX6_placeOf_95 rfl ?_
        refine zJ_getr dX6_placeOf_96 fX6_18 (by first | rfl | assumption) rfl (by first | rfl | assumption) ?_
        refine zJ_iload dX6_placeOf_99 rfl ?_
        refine zJ_lald dX6_placeOf_101 (by first | rfl | assumption) (vp_in_nI (by omega) (by omega)) ?_
        rw [nI_clamp (show x < 2 ^ 31 by omega), hky x q hq]
        refine zJ_lload_n dX6_placeOf_102 rfl ?_
        refine zJ_lc_ne (tgt := 110) dX6_placeOf_103 dX6_placeOf_104 (by decide) (fun h104 => ?_) (fun h104 => ?_)
        · have hqk : q ≠ k := fun e => h104 (by rw [e])
          have hjd : j < d := Nat.lt_of_not_le fun h => by
            have : j = d := by omega
            subst this
            rcases hend with ⟨x2, hx2, hk2⟩ | ⟨hn, -⟩
            · rw [hx] at hx2; cases hx2
              rw [hq] at hk2; exact hqk (Option.some.inj hk2)
            · rw [hx] at hn; cases hn
          refine zJ_iload dX6_placeOf_110 rfl ?_
          refine zJ_iconst (v := 1) dX6_placeOf_112 (by decide) ?_
          refine zJ_iadd dX6_placeOf_113 ?_
          refine zJ_iload_n dX6_placeOf_114 rfl ?_
          refine zJ_iand dX6_placeOf_115 ?_
          refine zJ_istore (ls2 := fun x116 => [(4, .int x116), (6, .int (nI x)), (5, .int (nI j)), (3, .int (nI (2 ^ m) - 1)), (0, .ref i), (1, .long (lN (zenc T k)))]) dX6_placeOf_116 (by decide) (fun _ => rfl) (fun x116 ex116 => ?_)
          refine zJ_iinc (ls2 := fun x118 => [(5, .int x118), (4, .int x116), (6, .int (nI x)), (3, .int (nI (2 ^ m) - 1)), (0, .ref i), (1, .long (lN (zenc T k)))]) dX6_placeOf_118 rfl (by decide) (fun _ => rfl) (fun x118 ex118 => ?_)
          refine zJ_goto (tgt := 24) dX6_placeOf_121 (by decide) ?_
          refine zJ_ls [(5, .int x118), (4, .int x116), (3, .int (nI (2 ^ m) - 1)), (0, .ref i), (1, .long (lN (zenc T k)))] (by simp) ?_
          rw [ex118, show nI j + Int32.ofInt 1 = nI (j + 1) from nI_1 _, ex116, show nI ((h0 + j) % 2 ^ m) + 1 = nI ((h0 + j) % 2 ^ m + 1) from nI_1 _, em, fa_mask, zmod_1 hm0, ← em]
          exact ih (j + 1) (by omega) (by omega)
        · have hqk : q = k := zenc_inj hT hqok hk ((fb_lN_inj (by have := zenc_lt hT hqok; omega) (by have := zenc_lt hT hk; omega)).mp h104)
          refine zJ_iload dX6_placeOf_107 rfl ?_
          exact zJ_iret dX6_placeOf_109 rfl (by decide) (by decide) (hQ _ _ (Or.inl ⟨x, by rw [hq, hqk], rfl, rfl⟩))
      · have hnone : g ((h0 + j) % 2 ^ m) = none := by
          cases hz : g ((h0 + j) % 2 ^ m) with
          | none => rfl
          | some x =>
            rw [hg _ hj1, hz] at ex37
            have := hxl _ x hj1 hz
            exact absurd ((nI_leI (a := 0) (b := x) (by decide) (by omega)).mpr (Nat.zero_le x)) (by rw [ex37] at h41; exact h41)
        have hjd : j = d := by
          rcases Nat.lt_or_ge j d with h | h
          · obtain ⟨x, hx, -⟩ := hbef j h
            rw [hnone] at hx; cases hx
          · omega
        have hkn : k ∉ K := by
          subst hjd
          rcases hend with ⟨x, hx, -⟩ | ⟨-, h⟩
          · rw [hnone] at hx; cases hx
          · exact h
        refine zJ_aload_n dX6_placeOf_44 rfl ?_
        refine zJ_geti dX6_placeOf_45 fX6_72 (by first | rfl | assumption) rfl ?_
        rw [hsz]
        refine zJ_aload_n dX6_placeOf_48 rfl ?_
        refine zJ_geti dX6_placeOf_49 fX6_15 (by first | rfl | assumption) rfl ?_
        rw [hR]
        refine zJ_icmp_lt (tgt := 57) dX6_placeOf_52 (by decide) (fun h52 => ?_) (fun h52 => ?_)
        · have hlt : K.length < R := (nI_ltI (by omega) (by omega)).mp h52
          refine zJ_aload_n dX6_placeOf_57 rfl ?_
          refine zJ_getr dX6_placeOf_58 fX6_29 (by first | rfl | assumption) rfl (by first | rfl | assumption) ?_
          refine zJ_iload dX6_placeOf_61 rfl ?_
          refine zJ_aload_n dX6_placeOf_63 rfl ?_
          refine zJ_geti dX6_placeOf_64 fX6_72 (by first | rfl | assumption) rfl ?_
          rw [hsz]
          refine zJ_iast dX6_placeOf_67 (by first | rfl | assumption) (vp_in_nI hj1 (by omega)) ?_
          refine zJ_aload_n dX6_placeOf_68 rfl ?_
          refine zJ_getr dX6_placeOf_69 fX6_18 (by first | rfl | assumption) rfl (by first | rfl | assumption) ?_
          refine zJ_aload_n dX6_placeOf_72 rfl ?_
          refine zJ_geti dX6_placeOf_73 fX6_72 (by first | rfl | assumption) rfl ?_
          rw [c1, show (zsi w (i + 4) ((h0 + j) % 2 ^ m) (nI K.length)).2.1 i 5 = nI K.length by simp [zsi, hsz]]
          refine zJ_lload_n dX6_placeOf_76 rfl ?_
          refine zJ_last dX6_placeOf_77 (by first | rfl | assumption) (vp_in_nI hlt (by omega)) ?_
          refine zJ_aload_n dX6_placeOf_78 rfl ?_
          refine zJ_dup dX6_placeOf_79 rfl ?_
          refine zJ_geti dX6_placeOf_80 fX6_72 (by first | rfl | assumption) rfl ?_
          rw [c2, show (zsl (zsi w (i + 4) ((h0 + j) % 2 ^ m) (nI K.length)) (i + 1) K.length (lN (zenc T k))).2.1 i 5 = nI K.length by simp [zsl, zsi, hsz]]
          refine zJ_iconst (v := 1) dX6_placeOf_83 (by decide) ?_
          refine zJ_iadd dX6_placeOf_84 ?_
          rw [show nI K.length + 1 = nI (K.length + 1) from nI_1 _]
          refine zJ_puti dX6_placeOf_85 fX6_72 (fun q h => by cases h; rfl) (by first | rfl | assumption) rfl rfl rfl ?_
          refine zJ_aload_n dX6_placeOf_88 rfl ?_
          refine zJ_geti dX6_placeOf_89 fX6_72 (by first | rfl | assumption) rfl ?_
          rw [show (zsi (zsl (zsi w (i + 4) ((h0 + j) % 2 ^ m) (nI K.length)) (i + 1) K.length (lN (zenc T k))) i 5 (nI (K.length + 1))).2.1 i 5 = nI (K.length + 1) by simp [zsi]]
          refine zJ_iconst (v := 1) dX6_placeOf_92 (by decide) ?_
          refine zJ_isub dX6_placeOf_93 ?_
          rw [nI_pred]
          refine zJ_iret dX6_placeOf_94 rfl (by decide) (by decide) (hQ _ _ (Or.inr (Or.inl ⟨hkn, hlt, rfl, ?_, ?_⟩)))
          · refine ⟨fun x q hx => ?_, ?_, ?_, fun q hq => ?_, _, fun s hs => ?_, hH.ins (d := j) (by omega) (by rw [hsd, hjd]; exact hbef) (by rw [hsd]; exact hnone) hkn⟩
            · by_cases hx2 : x < K.length
              · rw [List.getElem?_append_left hx2] at hx
                have : ¬ x = K.length := by omega
                simp [zsl, zsi, this, hky x q hx]
              · have hx3 : x = K.length := by
                  have := (List.getElem?_eq_some_iff.mp hx).1
                  simp at this; omega
                subst hx3
                simp at hx
                subst hx
                simp [zsl, zsi]
            · simp [zsi]
            · simp; omega
            · rcases List.mem_append.mp hq with h | h
              · exact hok q h
              · rw [List.mem_singleton.mp h]; exact hk
            · rw [hsd]
              have h6 : ¬ i + 4 = i := by omega
              by_cases hs2 : s = (h0 + j) % 2 ^ m
              · simp [zsi, zsl, hs2, zoi]
              · simp [zsi, zsl, hs2, hg s hs]
          · refine ⟨rfl, rfl, fun a b h1 h2 => ?_, fun a b h1 => ?_⟩
            · have h3 : ¬ (a = i ∧ b = 5) := fun h => h2.elim (fun h4 => h4 h.1) (fun h4 => h4 h.2)
              simp [zsi, zsl, h1, h3]
            · simp [zsi, zsl, h1]
        · refine zJ_iconst (v := (-1)) dX6_placeOf_55 (by decide) ?_
          have h9 : ¬ K.length < R := fun h => h52 ((nI_ltI (by omega) (by omega)).mpr h)
          exact zJ_iret dX6_placeOf_56 rfl (by decide) (by decide) (hQ _ _ (Or.inr (Or.inr ⟨hkn, by omega, rfl, rfl⟩)))
  refine zJ_aload_n dX6_placeOf_0 rfl ?_
  refine zJ_getr dX6_placeOf_1 fX6_29 (by first | rfl | assumption) rfl (by first | rfl | assumption) ?_
  refine zJ_alen (x := nI (2 ^ m)) dX6_placeOf_4 (by first | rfl | assumption) rfl ?_
  refine zJ_iconst (v := 1) dX6_placeOf_5 (by decide) ?_
  refine zJ_isub dX6_placeOf_6 ?_
  refine zJ_istore_n (ls2 := fun x7 => [(3, .int x7), (0, .ref i), (1, .long (lN (zenc T k)))]) dX6_placeOf_7 (by decide) (fun _ => rfl) (fun x7 ex7 => ?_)
  obtain rfl : x7 = (nI (2 ^ m) - 1) := ex7
  refine zJ_lload_n dX6_placeOf_8 rfl ?_
  refine zJ_ldc2 dX6_placeOf_9 kX6_98 ?_
  refine zJ_lmul dX6_placeOf_12 ?_
  refine zJ_bipush (v := 40) dX6_placeOf_13 (by decide) ?_
  refine zJ_lushr dX6_placeOf_15 ?_
  refine zJ_l2i dX6_placeOf_16 ?_
  refine zJ_iload_n dX6_placeOf_17 rfl ?_
  refine zJ_iand dX6_placeOf_18 ?_
  refine zJ_istore (ls2 := fun x19 => [(4, .int x19), (3, .int (nI (2 ^ m) - 1)), (0, .ref i), (1, .long (lN (zenc T k)))]) dX6_placeOf_19 (by decide) (fun _ => rfl) (fun x19 ex19 => ?_)
  obtain rfl : x19 = (nI ((h0 + 0) % 2 ^ m)) := by rw [ex19, na_mask, Nat.add_zero, ← hsd, zhc, Nat.mod_mod]
  refine zJ_iconst (v := 0) dX6_placeOf_21 (by decide) ?_
  refine zJ_istore (ls2 := fun x22 => [(5, .int x22), (4, .int (nI ((h0 + 0) % 2 ^ m))), (3, .int (nI (2 ^ m) - 1)), (0, .ref i), (1, .long (lN (zenc T k)))]) dX6_placeOf_22 (by decide) (fun _ => rfl) (fun x22 ex22 => ?_)
  obtain rfl : x22 = (nI 0) := ex22
  exact L 0 (Nat.zero_le _)
