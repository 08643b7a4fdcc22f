/-! LetterTown$Weeks: runOne -/
theorem zsi_ne {w : zW} {i a j b : Nat} {x : Int32} (h : ¬ b = j) : (zsi w i j x).2.1 a b = w.2.1 a b := by simp [zsi, h]
def zno (w : zW) (i n wo last : Nat) (k : zKy) : zW := if k.2.1 < last then zsi (zsi (zsi w (i + 1) n (nI k.1)) (i + 2) n (nI k.2.1)) (i + 3) k.1 (nI (n + wo)) else zsi (zsi w (i + 1) n (nI k.1)) (i + 2) n (nI k.2.1)
set_option maxRecDepth 100000 in
theorem c_Weeks_noteOpened (Δ : zD) (w : zW) (i : Nat) (hW : zWk w i) (n wo last : Nat) (T : zTo) (k : zKy) (hT : zTok T) (hk : zkok T k) (hn : n < 100) (hwo : wo ≤ 20) (hl : last ≤ 12) (h3 : w.2.1 i 3 = nI n) (h2 : w.2.1 i 2 = nI wo) : zMd Δ 1 0 0 true yX7_noteOpened mX7_noteOpened [.ref i, .long (lN (zenc T k)), .int (nI last)] w none (zno w i n wo last k) := by
  refine zMd.of mfX7_noteOpened (Nat.le_of_ble_eq_true rfl) (fun QR hQ => ?_)
  have hW0 := hW
  obtain ⟨k0, v1, v2, v3, l1, l2, l3⟩ := hW
  have hP := zenc_parts hT hk
  have hE52 := zenc_lt hT hk
  have hk1 : k.1 < 8 := hk.1
  have hk2 := hk.2.1
  have hT7 := hT.2.2.2.1
  have cn : (nI n).toNatClampNeg = n := nI_clamp (by omega)
  have e1 : ∀ x y, (zsi (zsi w (i + 1) n x) (i + 2) n y).2.1 i 3 = nI n := fun x y => by rw [← h3]; simp [zsi]
  have e2 : ∀ x y, (zsi (zsi w (i + 1) n x) (i + 2) n y).2.1 i 2 = nI wo := fun x y => by rw [← h2]; simp [zsi]
  have e3 : ∀ x, (zsi w (i + 1) n x).2.1 i 3 = nI n := fun x => by rw [← h3]; simp [zsi]
  have e4 : ∀ x y, (zsi (zsi w (i + 1) n x) (i + 2) n y).2.1 (i + 2) n = y := fun x y => by simp [zsi]
  rw [show (lv_args 0 [.ref i, .long (lN (zenc T k)), .int (nI last)]) = [(0, .ref i), (1, .long (lN (zenc T k))), (3, .int (nI last))] from rfl]
  refine zJ_lload_n dX7_noteOpened_0 rfl ?_
  refine zJ_cS1 dX7_noteOpened_1 sX7_83 mfX6_whoOf (c_Ways_whoOf Δ w (zenc T k)) (Nat.le_of_ble_eq_true rfl) (by decide) (by decide) ?_
  rw [hP.1]
  refine zJ_istore (ls2 := fun x4 => [(4, .int x4), (0, .ref i), (1, .long (lN (zenc T k))), (3, .int (nI last))]) dX7_noteOpened_4 (by decide) (fun _ => rfl) (fun x4 ex4 => ?_)
  obtain rfl : x4 = (nI k.1) := ex4
  refine zJ_aload_n dX7_noteOpened_6 rfl ?_
  refine zJ_getr dX7_noteOpened_7 fX7_11 (by first | rfl | assumption) rfl (by first | rfl | assumption) ?_
  refine zJ_aload_n dX7_noteOpened_10 rfl ?_
  refine zJ_geti dX7_noteOpened_11 fX7_25 (by first | rfl | assumption) rfl ?_
  rw [h3]
  refine zJ_iload dX7_noteOpened_14 rfl ?_
  refine zJ_iast dX7_noteOpened_16 (by first | rfl | assumption) (vp_in_nI (by omega) (by omega)) ?_
  rw [cn]
  refine zJ_aload_n dX7_noteOpened_17 rfl ?_
  refine zJ_getr dX7_noteOpened_18 fX7_15 (by first | rfl | assumption) rfl (by first | rfl | assumption) ?_
  refine zJ_aload_n dX7_noteOpened_21 rfl ?_
  refine zJ_geti dX7_noteOpened_22 fX7_25 (by first | rfl | assumption) rfl ?_
  rw [e3]
  refine zJ_lload_n dX7_noteOpened_25 rfl ?_
  refine zJ_cS1 dX7_noteOpened_26 sX7_87 mfX6_handOf (c_Ways_handOf Δ _ (zenc T k) (by omega)) (Nat.le_of_ble_eq_true rfl) (by decide) (by decide) ?_
  rw [hP.2.1]
  refine zJ_iast dX7_noteOpened_29 (by first | rfl | assumption) (vp_in_nI (by omega) (by omega)) ?_
  rw [cn]
  refine zJ_aload_n dX7_noteOpened_30 rfl ?_
  refine zJ_getr dX7_noteOpened_31 fX7_15 (by first | rfl | assumption) rfl (by first | rfl | assumption) ?_
  refine zJ_aload_n dX7_noteOpened_34 rfl ?_
  refine zJ_geti dX7_noteOpened_35 fX7_25 (by first | rfl | assumption) rfl ?_
  rw [e1]
  refine zJ_iald dX7_noteOpened_38 (by first | rfl | assumption) (vp_in_nI (by omega) (by omega)) ?_
  rw [cn, e4]
  refine zJ_iload_n dX7_noteOpened_39 rfl ?_
  refine zJ_icmp_ge (tgt := 59) dX7_noteOpened_40 (by decide) (fun h40 => ?_) (fun h40 => ?_)
  · have hge : ¬ k.2.1 < last := Nat.not_lt.mpr ((nI_leI (by omega) (by omega)).mp h40)
    rw [zno, if_neg hge] at hQ
    exact zJ_vret dX7_noteOpened_59 rfl (by decide) (by decide) hQ
  · have hlt : k.2.1 < last := Nat.lt_of_not_le fun h => h40 ((nI_leI (by omega) (by omega)).mpr h)
    refine zJ_aload_n dX7_noteOpened_43 rfl ?_
    refine zJ_getr dX7_noteOpened_44 fX7_18 (by first | rfl | assumption) rfl (by first | rfl | assumption) ?_
    refine zJ_iload dX7_noteOpened_47 rfl ?_
    refine zJ_aload_n dX7_noteOpened_49 rfl ?_
    refine zJ_geti dX7_noteOpened_50 fX7_25 (by first | rfl | assumption) rfl ?_
    refine zJ_aload_n dX7_noteOpened_53 rfl ?_
    refine zJ_geti dX7_noteOpened_54 fX7_32 (by first | rfl | assumption) rfl ?_
    rw [e1, e2]
    refine zJ_iadd dX7_noteOpened_57 ?_
    rw [na_add]
    refine zJ_iast dX7_noteOpened_58 (by first | rfl | assumption) (vp_in_nI (by omega) (by omega)) ?_
    rw [zno, if_pos hlt] at hQ
    rw [nI_clamp (show k.1 < 2 ^ 31 by omega)]
    exact zJ_vret dX7_noteOpened_59 rfl (by decide) (by decide) hQ
/-- one week: at whom it ends, if it is begun, and the seed behind -/
def zwn (T : zTo) (ot : Nat → Nat) (n : Nat) (s : Int32) : Option zKy × Int32 := if n < ot (T.1 12) then (none, s) else (some (zwk T (zbits (fun p => decide (n < ot p)) 8).testBit 11 (zfk T) s).1, (zwk T (zbits (fun p => decide (n < ot p)) 8).testBit 11 (zfk T) s).2)
/-- the Weeks at i behind one week more -/
def zWn (w c : zW) (i n wo : Nat) (T : zTo) (r : Option zKy × Int32) : Prop := c.1 = w.1 ∧ c.2.2 = w.2.2 ∧ (∀ a j, (a < i ∨ i + 3 < a) → c.2.1 a j = w.2.1 a j) ∧ (∀ j, c.2.1 i j = if j = 1 then r.2 else if j = 3 then nI (n + 1) else w.2.1 i j) ∧ (∀ j, c.2.1 (i + 1) j = if j = n then (match r.1 with | none => -1 | some k => nI k.1) else w.2.1 (i + 1) j) ∧ (∀ j, c.2.1 (i + 2) j = if j = n then (match r.1 with | none => 0 | some k => nI k.2.1) else w.2.1 (i + 2) j) ∧ (∀ j, c.2.1 (i + 3) j = match r.1 with | none => w.2.1 (i + 3) j | some k => if k.2.1 < T.1 7 ∧ j = k.1 then nI (n + wo) else w.2.1 (i + 3) j)
set_option maxRecDepth 100000 in
theorem c_Weeks_runOne (Δ : zD) (w : zW) (b R m : Nat) (T : zTo) (K : List zKy) (hG : zGr w b R m T K) (hcs : zChs w b T K) (i : Nat) (hW : zWk w i) (hib : i + 3 < b ∨ b + 18 < i) (n wo : Nat) (ot : Nat → Nat) (hn : n < 100) (hwo : wo ≤ 20) (h3 : w.2.1 i 3 = nI n) (h2 : w.2.1 i 2 = nI wo) (ho : ∀ p, p < 8 → w.2.1 (i + 3) p = nI (ot p) - 1 ∧ ot p ≤ 200) : zMp Δ 4 yX7_runOne mX7_runOne [.ref i, .ref b] w (fun a c => a = none ∧ zWn w c i n wo T (zwn T ot n (w.2.1 i 1))) := by
  refine zMp.of mfX7_runOne (Nat.le_of_ble_eq_true rfl) (fun QR hQ => ?_)
  have hG0 := hG
  obtain ⟨⟨p0, q0, q1, q2, q3, q4, q5, q6, q7, q8, q9, s11, s12, s13, s14, s15, s16, s17, s18, hS⟩, hi, hT, hall, hL, hrow⟩ := hG
  have hS0 := hS
  obtain ⟨g0, r1, r2, r3, r4, g1, g2, g3, g4, hR, hRm, hm, hR0⟩ := hS
  have hi0 := hi
  obtain ⟨t0, u1, u2, u3, u4, t1, t2, t3, t4⟩ := hi.1
  obtain ⟨-, hsc, hso, hnu, hkn, hwt⟩ := hi
  have hT0 := hT
  obtain ⟨hp0, hp5, hp6, hp7, hp8, hp9, hp10, hp11, hp12, hp13, hpp, hpw⟩ := hT
  have hm2 : 2 ^ m ≤ 2 ^ 15 := Nat.pow_le_pow_right (by decide) hm
  have hKR : K.length ≤ R := hL.2.2.1
  have hW0 := hW
  obtain ⟨k0, v1, v2, v3, l1, l2, l3⟩ := hW
  have hK0 := zall_0 hall
  have hOl := zbits_lt (fun p => decide (n < ot p)) 8
  generalize hOd : (zbits (fun p => decide (n < ot p)) 8) = O at hOl
  have hOf : O.testBit (T.1 12) = decide (n < ot (T.1 12)) := by
    rw [← hOd, zbits_tb]
    have : T.1 12 < 8 := hp12.1
    simp [this]
  have cn : (nI n).toNatClampNeg = n := nI_clamp (by omega)
  generalize hwA : zsi (zsi w (i + 1) n (-1)) (i + 2) n 0 = wA
  have eA0 : ∀ j, wA.2.1 i j = w.2.1 i j := fun j => by rw [← hwA]; simp [zsi]
  have eA1 : ∀ j, wA.2.1 (i + 1) j = if j = n then -1 else w.2.1 (i + 1) j := fun j => by rw [← hwA]; simp [zsi]
  have eA2 : ∀ j, wA.2.1 (i + 2) j = if j = n then 0 else w.2.1 (i + 2) j := fun j => by rw [← hwA]; simp [zsi]
  have eA3 : ∀ a j, ¬ a = i + 1 → ¬ a = i + 2 → wA.2.1 a j = w.2.1 a j := fun a j h1 h2 => by rw [← hwA]; simp [zsi, h1, h2]
  have sA : wA.1 = w.1 := by rw [← hwA]; rfl
  have lA : wA.2.2 = w.2.2 := by rw [← hwA]; rfl
  have hWA : zWk wA i := by unfold zWk at *; rw [sA, lA]; exact hW0
  have hGA : ∀ s, zGr (zsi wA i 1 s) b R m T K := fun s => hG0.eq sA (congrArg Prod.snd lA) (fun a j h1 h2 => (zsi_o (by omega)).trans (eA3 a j (by omega) (by omega))) (fun a j _ _ => congrFun (congrFun (congrArg Prod.fst lA) a) j)
  have hcA : ∀ s, zChs (zsi wA i 1 s) b T K := fun s => hcs.out (fun j => (zsi_o (by omega)).trans (eA3 _ j (by omega) (by omega)))
  have hWs : ∀ s, zWk (zsi wA i 1 s) i := fun s => hWA
  have L : ∀ j, j ≤ 11 → ∀ (x : Nat) (k : zKy) (s : Int32), K[x]? = some k → ¬ n < ot (T.1 12) → zwk T O.testBit (11 - j) k s = zwk T O.testBit 11 (zfk T) (w.2.1 i 1) → zJ Δ mX7_runOne (zRm 4 0 0) true w.1 QR (fun _ _ => False) 0 0 54 [(4, .int (nI (j + 1))), (3, .int (nI x)), (2, .int (nI O)), (0, .ref i), (1, .ref b)] [] (zsi wA i 1 s) := by
    refine zup (fun j hj ih x k s hx hno he => ?_)
    have hxK : x < K.length := (List.getElem?_eq_some_iff.mp hx).1
    have hk : zkok T k := hL.2.2.2.1 k (List.mem_iff_getElem?.mpr ⟨x, hx⟩)
    have cx : (nI x).toNatClampNeg = x := nI_clamp (by omega)
    have hGs := hGA s
    have p1 : (zsi wA i 1 s).1 b = some (.inl 1) := hGs.1.1
    have p2 : (zsi wA i 1 s).2.2.2 b 1 = some (b + 6) := hGs.1.2.2.1
    have p3 : (zsi wA i 1 s).2.2.2 b 0 = some (b + 1) := hGs.1.2.1
    have hSs : zWs (zsi wA i 1 s) (b + 6) R m := hGs.1.2.2.2.2.2.2.2.2.2.2.2.2.2.2.2.2.2.2.2
    have p4 := hSs.1
    have p5 := hSs.2.1
    have p6 := hSs.2.2.2.2.2.1
    have p7 : (zsi wA i 1 s).1 i = some (.inl 7) := (hWs s).1
    have p8 : (zsi wA i 1 s).1 (b + 1) = some (.inl 5) := hGs.2.1.1.1
    have hky : (zsi wA i 1 s).2.2.1 (b + 6 + 1) x = lN (zenc T k) := hGs.2.2.2.2.1.1 x k hx
    have hha : (zsi wA i 1 s).2.1 (b + 1) 7 = nI (T.1 7) := hGs.2.1.2.1 7 (by decide) (by decide)
    have hfin : ∀ s2 : Int32, zwk T O.testBit 11 (zfk T) (w.2.1 i 1) = (k, s2) → zWn w (zsi (zno (zsi wA i 1 s2) i n wo (T.1 7) k) i 3 (nI (n + 1))) i n wo T (zwn T ot n (w.2.1 i 1)) := fun s2 hz => by
      have hr : zwn T ot n (w.2.1 i 1) = (some k, s2) := by simp only [zwn, hno, if_false, hOd, hz]
      have hk8 := hk.1
      rw [hr]
      by_cases hlt : k.2.1 < T.1 7
      · simp only [zno, hlt, if_true]
        refine ⟨sA, lA, fun a j h => ?_, fun j => ?_, fun j => ?_, fun j => ?_, fun j => ?_⟩
        · have h1 : ¬ a = i := by omega
          have h2 : ¬ a = i + 1 := by omega
          have h3 : ¬ a = i + 2 := by omega
          have h4 : ¬ a = i + 3 := by omega
          simp [zsi, h1, h2, h3, h4, eA3]
        · simp only [zsi]
          by_cases j3 : j = 3
          · subst j3; simp
          · by_cases j1 : j = 1
            · subst j1; simp
            · simp [j3, j1, eA0]
        · by_cases hj2 : j = n <;> simp [zsi, hj2, eA1]
        · by_cases hj2 : j = n <;> simp [zsi, hj2, eA2]
        · by_cases hj2 : j = k.1 <;> simp [zsi, hj2, eA3, hlt]
      · simp only [zno, hlt, if_false]
        refine ⟨sA, lA, fun a j h => ?_, fun j => ?_, fun j => ?_, fun j => ?_, fun j => ?_⟩
        · have h1 : ¬ a = i := by omega
          have h2 : ¬ a = i + 1 := by omega
          have h3 : ¬ a = i + 2 := by omega
          simp [zsi, h1, h2, h3, eA3]
        · simp only [zsi]
          by_cases j3 : j = 3
          · subst j3; simp
          · by_cases j1 : j = 1
            · subst j1; simp
            · simp [j3, j1, eA0]
        · by_cases hj2 : j = n <;> simp [zsi, hj2, eA1]
        · by_cases hj2 : j = n <;> simp [zsi, hj2, eA2]
        · simp [zsi, eA3, hlt]
    have e93 : ∀ s2 : Int32, (zno (zsi wA i 1 s2) i n wo (T.1 7) k).2.1 i 3 = nI n := fun s2 => by
      simp only [zno]; split <;> simp [zsi, eA0, h3]
    refine zJ_iload dX7_runOne_54 rfl ?_
    refine zJ_bipush (v := 12) dX7_runOne_56 (by decide) ?_
    refine zJ_icmp_ge (tgt := 87) dX7_runOne_58 (by decide) (fun h58 => ?_) (fun h58 => ?_)
    · have hj9 : j = 11 := by have := (nI_leI (a := 12) (b := j + 1) (by decide) (by omega)).mp h58; omega
      rw [hj9] at he
      have he : (k, s) = zwk T O.testBit 11 (zfk T) (w.2.1 i 1) := he
      have hshp : (zno (zsi wA i 1 s) i n wo (T.1 7) k).1 i = some (.inl 7) := by
        simp only [zno]; split <;> exact p7
      refine zJ_aload_n dX7_runOne_87 rfl ?_
      refine zJ_aload_n dX7_runOne_88 rfl ?_
      refine zJ_getr dX7_runOne_89 fX7_67 (by first | rfl | assumption | exact hshp) rfl (by first | rfl | assumption) ?_
      refine zJ_getr dX7_runOne_92 fX7_71 (by first | rfl | assumption | exact hshp) rfl (by first | rfl | assumption) ?_
      refine zJ_iload_n dX7_runOne_95 rfl ?_
      refine zJ_lald dX7_runOne_96 (by first | rfl | assumption | exact hshp) (vp_in_nI (by omega) (by omega)) ?_
      rw [cx, show (zsi wA i 1 s).2.2.1 (b + 6 + 1) x = lN (zenc T k) from (hGA s).2.2.2.2.1.1 x k hx]
      refine zJ_aload_n dX7_runOne_97 rfl ?_
      refine zJ_getr dX7_runOne_98 fX7_52 (by first | rfl | assumption | exact hshp) rfl (by first | rfl | assumption) ?_
      refine zJ_geti dX7_runOne_101 fX7_77 (by first | rfl | assumption | exact hshp) rfl ?_
      rw [show (zsi wA i 1 s).2.1 (b + 1) 7 = nI (T.1 7) from (hGA s).2.1.2.1 7 (by decide) (by decide)]
      refine zJ_cV2 dX7_runOne_104 sX7_79 mfX7_noteOpened (c_Weeks_noteOpened Δ (zsi wA i 1 s) i (hWs s) n wo (T.1 7) T k hT0 hk hn hwo (by omega) (by rw [zsi_ne (by decide), eA0]; exact h3) (by rw [zsi_ne (by decide), eA0]; exact h2)) (by first | rfl | assumption | exact hshp) rfl (Nat.le_of_ble_eq_true rfl) (by decide) (by decide) ?_
      refine zJ_aload_n dX7_runOne_107 rfl ?_
      refine zJ_dup dX7_runOne_108 rfl ?_
      refine zJ_geti dX7_runOne_109 fX7_25 (by first | rfl | assumption | exact hshp) rfl ?_
      rw [e93]
      refine zJ_iconst (v := 1) dX7_runOne_112 (by decide) ?_
      refine zJ_iadd dX7_runOne_113 ?_
      rw [show nI n + 1 = nI (n + 1) from nI_1 n]
      refine zJ_puti dX7_runOne_114 fX7_25 (fun q h => by cases h; rfl) (by first | rfl | assumption | exact hshp) rfl rfl rfl ?_
      exact zJ_vret dX7_runOne_117 rfl (by decide) (by decide) (hQ _ _ ⟨rfl, hfin s he.symm⟩)
    · have hj9 : j < 11 := Nat.lt_of_not_le fun hq => h58 ((nI_leI (a := 12) (by decide) (by omega)).mpr (by omega))
      refine zJ_aload_n dX7_runOne_61 rfl ?_
      refine zJ_aload_n dX7_runOne_62 rfl ?_
      refine zJ_iload_n dX7_runOne_63 rfl ?_
      refine zJ_iload_n dX7_runOne_64 rfl ?_
      refine zJ_eV3 dX7_runOne_65 sX7_63 mfX7_nodeBehind (c_Weeks_nodeBehind Δ (zsi wA i 1 s) b R m T K hGs x k hx (hcA s) i (hWs s) hib O hOl) p7 rfl (Nat.le_of_ble_eq_true rfl) (by decide) (by decide) (fun r w2 hP => ?_)
      rw [zsi_at, zsi_si] at hP
      obtain ⟨rfl, hcase⟩ := hP
      rcases hcase with ⟨hg, rfl⟩ | ⟨y, z, hg, hz, rfl⟩
      · skip
        refine zJ_istore (ls2 := fun x68n => [(5, .int x68n), (4, .int (nI (j + 1))), (3, .int (nI x)), (2, .int (nI O)), (0, .ref i), (1, .ref b)]) dX7_runOne_68 (by decide) (fun _ => rfl) (fun x68n ex68n => ?_)
        obtain rfl : x68n = (-1) := ex68n
        refine zJ_iload dX7_runOne_70 rfl ?_
        refine zJ_if_ge (tgt := 78) dX7_runOne_72 (by decide) (fun h72n => ?_) (fun h72n => ?_)
        · exact absurd h72n (by decide)
        · refine zJ_goto (tgt := 87) dX7_runOne_75 (by decide) ?_
          have he2 : zwk T O.testBit 11 (zfk T) (w.2.1 i 1) = (k, (zgo T k O.testBit s).2) := by
            rw [← he, show 11 - j = (11 - (j + 1)) + 1 by omega]
            simp only [zwk, hg]
          generalize hs2 : (zgo T k O.testBit s).2 = s2 at he2
          have hshp : (zno (zsi wA i 1 s2) i n wo (T.1 7) k).1 i = some (.inl 7) := by
            simp only [zno]; split <;> exact p7
          refine zJ_aload_n dX7_runOne_87 rfl ?_
          refine zJ_aload_n dX7_runOne_88 rfl ?_
          refine zJ_getr dX7_runOne_89 fX7_67 (by first | rfl | assumption | exact hshp) rfl (by first | rfl | assumption) ?_
          refine zJ_getr dX7_runOne_92 fX7_71 (by first | rfl | assumption | exact hshp) rfl (by first | rfl | assumption) ?_
          refine zJ_iload_n dX7_runOne_95 rfl ?_
          refine zJ_lald dX7_runOne_96 (by first | rfl | assumption | exact hshp) (vp_in_nI (by omega) (by omega)) ?_
          rw [cx, show (zsi wA i 1 s2).2.2.1 (b + 6 + 1) x = lN (zenc T k) from (hGA s2).2.2.2.2.1.1 x k hx]
          refine zJ_aload_n dX7_runOne_97 rfl ?_
          refine zJ_getr dX7_runOne_98 fX7_52 (by first | rfl | assumption | exact hshp) rfl (by first | rfl | assumption) ?_
          refine zJ_geti dX7_runOne_101 fX7_77 (by first | rfl | assumption | exact hshp) rfl ?_
          rw [show (zsi wA i 1 s2).2.1 (b + 1) 7 = nI (T.1 7) from (hGA s2).2.1.2.1 7 (by decide) (by decide)]
          refine zJ_cV2 dX7_runOne_104 sX7_79 mfX7_noteOpened (c_Weeks_noteOpened Δ (zsi wA i 1 s2) i (hWs s2) n wo (T.1 7) T k hT0 hk hn hwo (by omega) (by rw [zsi_ne (by decide), eA0]; exact h3) (by rw [zsi_ne (by decide), eA0]; exact h2)) (by first | rfl | assumption | exact hshp) rfl (Nat.le_of_ble_eq_true rfl) (by decide) (by decide) ?_
          refine zJ_aload_n dX7_runOne_107 rfl ?_
          refine zJ_dup dX7_runOne_108 rfl ?_
          refine zJ_geti dX7_runOne_109 fX7_25 (by first | rfl | assumption | exact hshp) rfl ?_
          rw [e93]
          refine zJ_iconst (v := 1) dX7_runOne_112 (by decide) ?_
          refine zJ_iadd dX7_runOne_113 ?_
          rw [show nI n + 1 = nI (n + 1) from nI_1 n]
          refine zJ_puti dX7_runOne_114 fX7_25 (fun q h => by cases h; rfl) (by first | rfl | assumption | exact hshp) rfl rfl rfl ?_
          exact zJ_vret dX7_runOne_117 rfl (by decide) (by decide) (hQ _ _ ⟨rfl, hfin s2 he2⟩)
      · have hzK : z < K.length := (List.getElem?_eq_some_iff.mp hz).1
        refine zJ_istore (ls2 := fun x68s => [(5, .int x68s), (4, .int (nI (j + 1))), (3, .int (nI x)), (2, .int (nI O)), (0, .ref i), (1, .ref b)]) dX7_runOne_68 (by decide) (fun _ => rfl) (fun x68s ex68s => ?_)
        obtain rfl : x68s = (nI z) := ex68s
        refine zJ_iload dX7_runOne_70 rfl ?_
        refine zJ_if_ge (tgt := 78) dX7_runOne_72 (by decide) (fun h72s => ?_) (fun h72s => ?_)
        · refine zJ_iload dX7_runOne_78 rfl ?_
          refine zJ_istore_n (ls2 := fun x80s => [(3, .int x80s), (5, .int (nI z)), (4, .int (nI (j + 1))), (2, .int (nI O)), (0, .ref i), (1, .ref b)]) dX7_runOne_80 (by decide) (fun _ => rfl) (fun x80s ex80s => ?_)
          obtain rfl : x80s = (nI z) := ex80s
          refine zJ_iinc (ls2 := fun x81s => [(4, .int x81s), (3, .int (nI z)), (5, .int (nI z)), (2, .int (nI O)), (0, .ref i), (1, .ref b)]) dX7_runOne_81 rfl (by decide) (fun _ => rfl) (fun x81s ex81s => ?_)
          refine zJ_goto (tgt := 54) dX7_runOne_84 (by decide) ?_
          refine zJ_ls [(4, .int x81s), (3, .int (nI z)), (2, .int (nI O)), (0, .ref i), (1, .ref b)] (by simp) ?_
          rw [ex81s, show nI (j + 1) + Int32.ofInt 1 = nI ((j + 1) + 1) from nI_1 _]
          refine ih (j + 1) (by omega) (by omega) z _ _ hz hno ?_
          rw [← he, show 11 - j = (11 - (j + 1)) + 1 by omega]
          simp only [zwk, hg]
        · exact absurd ((nI_leI (a := 0) (b := z) (by decide) (by omega)).mpr (Nat.zero_le _)) h72s
  have hfr : wA.2.1 (b + 1) 12 = nI (T.1 12) := (eA3 _ _ (by omega) (by omega)).trans (hsc 12 (by decide) (by decide))
  have shA : wA.1 i = some (.inl 7) := hWA.1
  have p1 : wA.1 b = some (.inl 1) := by rw [sA]; exact p0
  have p2 : wA.2.2.2 b 0 = some (b + 1) := by rw [lA]; exact q0
  have p3 : wA.1 (b + 1) = some (.inl 5) := by rw [sA]; exact t0
  have hO0 : zwk T O.testBit 11 (zfk T) (w.2.1 i 1) = zwk T O.testBit 11 (zfk T) (w.2.1 i 1) := rfl
  refine zJ_aload_n dX7_runOne_0 rfl ?_
  refine zJ_geti dX7_runOne_1 fX7_25 (by first | rfl | assumption) rfl ?_
  rw [h3]
  refine zJ_bipush (v := 100) dX7_runOne_4 (by decide) ?_
  refine zJ_icmp_lt (tgt := 10) dX7_runOne_6 (by decide) (fun h6 => ?_) (fun h6 => ?_)
  · refine zJ_aload_n dX7_runOne_10 rfl ?_
    refine zJ_cV0 dX7_runOne_11 sX7_48 mfX7_whoAreOut (c_Weeks_whoAreOut Δ w i hW0 n ot (by omega) h3 ho) (by first | rfl | assumption) rfl (Nat.le_of_ble_eq_true rfl) (by decide) (by decide) ?_
    rw [hOd]
    refine zJ_istore_n (ls2 := fun x14 => [(2, .int x14), (0, .ref i), (1, .ref b)]) dX7_runOne_14 (by decide) (fun _ => rfl) (fun x14 ex14 => ?_)
    obtain rfl : x14 = (nI O) := ex14
    refine zJ_aload_n dX7_runOne_15 rfl ?_
    refine zJ_getr dX7_runOne_16 fX7_11 (by first | rfl | assumption) rfl (by first | rfl | assumption) ?_
    refine zJ_aload_n dX7_runOne_19 rfl ?_
    refine zJ_geti dX7_runOne_20 fX7_25 (by first | rfl | assumption) rfl ?_
    rw [h3]
    refine zJ_iconst (v := (-1)) dX7_runOne_23 (by decide) ?_
    refine zJ_iast dX7_runOne_24 (by first | rfl | assumption) (vp_in_nI (by omega) (by omega)) ?_
    rw [cn]
    refine zJ_aload_n dX7_runOne_25 rfl ?_
    refine zJ_getr dX7_runOne_26 fX7_15 (by first | rfl | assumption) rfl (by first | rfl | assumption) ?_
    refine zJ_aload_n dX7_runOne_29 rfl ?_
    refine zJ_geti dX7_runOne_30 fX7_25 (by first | rfl | assumption) rfl ?_
    rw [show (zsi w (i + 1) n (-1)).2.1 i 3 = nI n by rw [← h3]; simp [zsi]]
    refine zJ_iconst (v := 0) dX7_runOne_33 (by decide) ?_
    refine zJ_iast dX7_runOne_34 (by first | rfl | assumption) (vp_in_nI (by omega) (by omega)) ?_
    rw [cn, hwA]
    refine zJ_iload_n dX7_runOne_35 rfl ?_
    refine zJ_aload_n dX7_runOne_36 rfl ?_
    refine zJ_getr dX7_runOne_37 fX7_52 (by first | rfl | assumption) rfl (by first | rfl | assumption) ?_
    refine zJ_geti dX7_runOne_40 fX7_58 (by first | rfl | assumption) rfl ?_
    rw [hfr]
    refine zJ_ishr dX7_runOne_43 ?_
    refine zJ_iconst (v := 1) dX7_runOne_44 (by decide) ?_
    refine zJ_iand dX7_runOne_45 ?_
    rw [nI_bit (by omega) (by omega)]
    refine zJ_if_ne (tgt := 107) dX7_runOne_46 (by decide) (fun h46 => ?_) (fun h46 => ?_)
    · refine zJ_aload_n dX7_runOne_107 rfl ?_
      refine zJ_dup dX7_runOne_108 rfl ?_
      refine zJ_geti dX7_runOne_109 fX7_25 (by first | rfl | assumption) rfl ?_
      rw [eA0, h3]
      refine zJ_iconst (v := 1) dX7_runOne_112 (by decide) ?_
      refine zJ_iadd dX7_runOne_113 ?_
      rw [show nI n + 1 = nI (n + 1) from nI_1 n]
      refine zJ_puti dX7_runOne_114 fX7_25 (fun q h => by cases h; rfl) (by first | rfl | assumption) rfl rfl rfl ?_
      exact zJ_vret dX7_runOne_117 rfl (by decide) (by decide) (hQ _ _ ⟨rfl, by
  have hyes : n < ot (T.1 12) := by
    have h1 : O / 2 ^ T.1 12 % 2 = 1 := by
      have : ¬ O / 2 ^ T.1 12 % 2 = 0 := fun h => h46 (by rw [h]; rfl)
      omega
    rw [tb_of.mpr h1] at hOf
    exact of_decide_eq_true hOf.symm
  rw [zwn, if_pos hyes]
  refine ⟨sA, lA, fun a j h => ?_, fun j => ?_, fun j => ?_, fun j => ?_, fun j => ?_⟩
  · rw [zsi_o (by omega)]; exact eA3 a j (by omega) (by omega)
  · by_cases j3 : j = 3
    · subst j3; simp [zsi]
    · by_cases j1 : j = 1
      · subst j1; simp [zsi, eA0]
      · simp [zsi, j3, j1, eA0]
  · simp [zsi, eA1]
  · simp [zsi, eA2]
  · simp [zsi, eA3]⟩)
    · refine zJ_iconst (v := 0) dX7_runOne_49 (by decide) ?_
      refine zJ_istore_n (ls2 := fun x50 => [(3, .int x50), (2, .int (nI O)), (0, .ref i), (1, .ref b)]) dX7_runOne_50 (by decide) (fun _ => rfl) (fun x50 ex50 => ?_)
      obtain rfl : x50 = (nI 0) := ex50
      refine zJ_iconst (v := 1) dX7_runOne_51 (by decide) ?_
      refine zJ_istore (ls2 := fun x52 => [(4, .int x52), (3, .int (nI 0)), (2, .int (nI O)), (0, .ref i), (1, .ref b)]) dX7_runOne_52 (by decide) (fun _ => rfl) (fun x52 ex52 => ?_)
      obtain rfl : x52 = (nI 1) := ex52
      have hno : ¬ n < ot (T.1 12) := fun h => by
        rw [decide_eq_true h] at hOf
        rw [tb_of.mp hOf] at h46
        exact absurd h46 (by decide)
      have := L 0 (Nat.zero_le _) 0 (zfk T) (w.2.1 i 1) hK0 hno rfl
      rwa [show w.2.1 i 1 = wA.2.1 i 1 from (eA0 1).symm, zsi_self] at this
  · exact absurd ((nI_ltI (b := 100) (by omega) (by decide)).mpr hn) h6
