/-! the model: the asked town, its HANDS -/
def zMa (w : zW) (T : zTo) : Prop := zMs w ∧ w.2.1 100 1 = nI (T.1 0) ∧ w.2.1 100 3 = nI (T.1 5) ∧ w.2.1 100 4 = nI (T.1 6) ∧ w.2.1 100 5 = nI (T.1 7) ∧ w.2.1 100 6 = nI (T.1 8) ∧ w.2.1 100 7 = nI (T.1 9) ∧ w.2.1 100 46 = nI (T.1 10) ∧ w.2.1 100 9 = nI (T.1 11) ∧ w.2.1 100 47 = nI (T.1 13) ∧ (∀ p, p < T.1 0 → w.2.1 148 p = nI (T.2.1 p)) ∧ (∀ p, p < T.1 0 → w.2.1 149 p = nI (T.2.2.1 p)) ∧ (∀ p q, p < T.1 0 → q < T.1 0 → w.2.1 112 (p * 8 + q) = nI (T.2.2.2 (p * 8 + q)))
theorem zMa.fm {w c : zW} {T : zTo} {l : List Nat} (h : zMa w T) (hf : zFM l w c) (hd : ∀ k ∈ ([1, 3, 4, 5, 6, 7, 9, 12, 46, 47, 48, 49] : List Nat), k ∉ l) : zMa c T := by
  obtain ⟨h0, h1, h2, h3, h4, h5, h6, h7, h8, h9, h10, h11, h12⟩ := h
  refine ⟨h0.fm hf, ?_, ?_, ?_, ?_, ?_, ?_, ?_, ?_, ?_, fun p hp => ?_, fun p hp => ?_, fun p q hp hq => ?_⟩
  · rw [hf.at (hd 1 (by decide))]; exact h1
  · rw [hf.at (hd 3 (by decide))]; exact h2
  · rw [hf.at (hd 4 (by decide))]; exact h3
  · rw [hf.at (hd 5 (by decide))]; exact h4
  · rw [hf.at (hd 6 (by decide))]; exact h5
  · rw [hf.at (hd 7 (by decide))]; exact h6
  · rw [hf.at (hd 46 (by decide))]; exact h7
  · rw [hf.at (hd 9 (by decide))]; exact h8
  · rw [hf.at (hd 47 (by decide))]; exact h9
  · rw [show (148 : Nat) = 100 + 48 from rfl, hf.ar (hd 48 (by decide)) (by decide)]; exact h10 p hp
  · rw [show (149 : Nat) = 100 + 49 from rfl, hf.ar (hd 49 (by decide)) (by decide)]; exact h11 p hp
  · rw [show (112 : Nat) = 100 + 12 from rfl, hf.ar (hd 12 (by decide)) (by decide)]; exact h12 p q hp hq
theorem nI_inj32 {a b : Nat} (ha : a < 2 ^ 32) (hb : b < 2 ^ 32) (h : nI a = nI b) : a = b := by
  have h2 := congrArg (fun z : Int32 => z.toBitVec.toNat) h
  simp only [nI] at h2
  rw [show (Int32.ofNat a).toBitVec = BitVec.ofNat 32 a from rfl, show (Int32.ofNat b).toBitVec = BitVec.ofNat 32 b from rfl, BitVec.toNat_ofNat, BitVec.toNat_ofNat, Nat.mod_eq_of_lt ha, Nat.mod_eq_of_lt hb] at h2
  exact h2
theorem zkok.s32 {T : zTo} (hT : zTok T) {k : zKy} (hk : zkok T k) : k.2.2.2 < 2 ^ 32 := by
  have h1 := hk.2.1.2
  have h2 := hT.2.2.2.1.2
  have h3 := hk.2.2.2.2.2
  have h4 : (k.2.1 - 1) * 2 ^ 28 ≤ 11 * 2 ^ 28 := Nat.mul_le_mul_right _ (by omega)
  omega
/-- its rows hold the HANDS of K -/
def zMq (w : zW) (T : zTo) (K : List zKy) : Prop := (∀ (x : Nat) (k : zKy), K[x]? = some k → w.2.1 139 x = nI k.1 ∧ w.2.1 140 x = nI k.2.1 ∧ w.2.1 141 x = nI k.2.2.1 ∧ w.2.1 142 x = nI k.2.2.2) ∧ w.2.1 100 38 = nI K.length ∧ K.length ≤ 20000 ∧ ∀ k ∈ K, zkok T k ∧ k.1 < T.1 0
def zti (r : Option Nat) : Int32 := match r with
  | none => 0
  | some x => nI (x + 1)
def zmi (p h i s : Int32) : Nat := zn32 ((((p * 31 + h) * 1031 + i) * 40503 + s * 48271) ^^^ ((((p * 31 + h) * 1031 + i) * 40503 + s * 48271) >>> ((15 : Int32) &&& 31)) ^^^ ((((p * 31 + h) * 1031 + i) * 40503 + s * 48271) >>> ((7 : Int32) &&& 31))) % 65536
def zmx (k : zKy) : Nat := zmi (nI k.1) (nI k.2.1) (nI k.2.2.1) (nI k.2.2.2)
def zMh (w : zW) (K : List zKy) : Prop := ∃ g, (∀ s, s < 65536 → w.2.1 144 s = zti (g s)) ∧ zHt 65536 zmx K g
theorem zMq.fm {w c : zW} {T : zTo} {K : List zKy} {l : List Nat} (h : zMq w T K) (hf : zFM l w c) (hd : ∀ k ∈ ([38, 39, 40, 41, 42] : List Nat), k ∉ l) : zMq c T K := by
  refine ⟨fun x k hx => ?_, by rw [hf.at (hd 38 (by decide))]; exact h.2.1, h.2.2⟩
  obtain ⟨a, b, c, d⟩ := h.1 x k hx
  refine ⟨?_, ?_, ?_, ?_⟩
  · rw [show (139 : Nat) = 100 + 39 from rfl, hf.ar (hd 39 (by decide)) (by decide)]; exact a
  · rw [show (140 : Nat) = 100 + 40 from rfl, hf.ar (hd 40 (by decide)) (by decide)]; exact b
  · rw [show (141 : Nat) = 100 + 41 from rfl, hf.ar (hd 41 (by decide)) (by decide)]; exact c
  · rw [show (142 : Nat) = 100 + 42 from rfl, hf.ar (hd 42 (by decide)) (by decide)]; exact d
theorem zMh.fm {w c : zW} {K : List zKy} {l : List Nat} (h : zMh w K) (hf : zFM l w c) (hd : 44 ∉ l) : zMh c K := by
  obtain ⟨g, h1, h2⟩ := h
  exact ⟨g, fun s hs => by rw [show (144 : Nat) = 100 + 44 from rfl, hf.ar hd (by decide)]; exact h1 s hs, h2⟩
set_option maxRecDepth 100000 in
theorem c_Mo_mixOf (Δ : zD) (w : zW) (p h i s : Int32) : zMd Δ 0 0 0 true yX9_mixOf mX9_mixOf [.int p, .int h, .int i, .int s] w (some (.int (nI (zmi p h i s)))) w := by
  refine zMd.of mfX9_mixOf (Nat.le_of_ble_eq_true rfl) (fun QR hQ => ?_)
  refine zJ_iload_n dX9_mixOf_0 rfl ?_
  refine zJ_bipush (v := 31) dX9_mixOf_1 (by decide) ?_
  refine zJ_imul dX9_mixOf_3 ?_
  refine zJ_iload_n dX9_mixOf_4 rfl ?_
  refine zJ_iadd dX9_mixOf_5 ?_
  refine zJ_sipush (v := 1031) dX9_mixOf_6 (by decide) ?_
  refine zJ_imul dX9_mixOf_9 ?_
  refine zJ_iload_n dX9_mixOf_10 rfl ?_
  refine zJ_iadd dX9_mixOf_11 ?_
  refine zJ_ldc_w dX9_mixOf_12 kX9_348 ?_
  refine zJ_imul dX9_mixOf_15 ?_
  refine zJ_iload_n dX9_mixOf_16 rfl ?_
  refine zJ_ldc_w dX9_mixOf_17 kX9_349 ?_
  refine zJ_imul dX9_mixOf_20 ?_
  refine zJ_iadd dX9_mixOf_21 ?_
  refine zJ_istore (ls2 := fun x22 => [(4, .int x22), (0, .int p), (1, .int h), (2, .int i), (3, .int s)]) dX9_mixOf_22 (by decide) (fun _ => rfl) (fun x22 ex22 => ?_)
  obtain rfl : x22 = (((p * 31 + h) * 1031 + i) * 40503 + s * 48271) := ex22
  refine zJ_iload dX9_mixOf_24 rfl ?_
  refine zJ_iload dX9_mixOf_26 rfl ?_
  refine zJ_bipush (v := 15) dX9_mixOf_28 (by decide) ?_
  refine zJ_ishr dX9_mixOf_30 ?_
  refine zJ_ixor dX9_mixOf_31 ?_
  refine zJ_iload dX9_mixOf_32 rfl ?_
  refine zJ_bipush (v := 7) dX9_mixOf_34 (by decide) ?_
  refine zJ_ishr dX9_mixOf_36 ?_
  refine zJ_ixor dX9_mixOf_37 ?_
  refine zJ_ldc_w dX9_mixOf_38 kX9_350 ?_
  refine zJ_iand dX9_mixOf_41 ?_
  rw [show (65535 : Int32) = nI (2 ^ 16) - 1 from rfl, na_mask]
  exact zJ_iret dX9_mixOf_42 rfl (by decide) (by decide) hQ
def zPm (w : zW) (T : zTo) (K : List zKy) (k : zKy) (a : Option Value) (b : zW) : Prop := (∃ c : Nat, K[c]? = some k ∧ a = some (.int (nI c)) ∧ b = w) ∨ (k ∉ K ∧ K.length < 20000 ∧ a = some (.int (nI K.length)) ∧ zMq b T (K ++ [k]) ∧ zMh b (K ++ [k]) ∧ zFM [38, 39, 40, 41, 42, 44] w b) ∨ (k ∉ K ∧ K.length = 20000 ∧ a = some (.int (-1)) ∧ b = zsi w 100 45 1)
set_option maxRecDepth 100000 in
theorem c_Mo_hand0 (Δ : zD) (w : zW) (T : zTo) (K : List zKy) (k : zKy) (hM : zMs w) (hN : zMq w T K) (hH0 : zMh w K) (hT : zTok T) (hk : zkok T k) (hkp : k.1 < T.1 0) : zMp Δ 1 yX9_hand0 mX9_hand0 [.ref 100, .int (nI k.1), .int (nI k.2.1), .int (nI k.2.2.1), .int (nI k.2.2.2)] w (zPm w T K k) := by
  refine zMp.of mfX9_hand0 (Nat.le_of_ble_eq_true rfl) (fun QR hQ => ?_)
  obtain ⟨hky, hsz, hKR, hok⟩ := hN
  obtain ⟨g, hg, hH⟩ := hH0
  obtain ⟨d, hd, hbef, hend⟩ := hH.find (by omega) k
  have hsl : ∀ j, (zmx k + j) % 65536 < 65536 := fun j => Nat.mod_lt _ (by decide)
  generalize hsd : zmx k = h0 at hbef hend hsl
  have hxl : ∀ s x, s < 65536 → g s = some x → x < K.length := hH.1
  have L : ∀ j, j ≤ d → zJ Δ mX9_hand0 (zRm 1 0 0) true w.1 QR (fun _ _ => False) 0 0 10 [(5, .int (nI ((h0 + j) % 65536))), (0, .ref 100), (1, .int (nI k.1)), (2, .int (nI k.2.1)), (3, .int (nI k.2.2.1)), (4, .int (nI k.2.2.2))] [] w := by
    refine zup (fun j hj ih => ?_)
    have hj1 := hsl j
    have hgj := hg _ hj1
    refine zJ_aload_n dX9_hand0_10 rfl ?_
    refine zJ_getr (j := 144) dX9_hand0_11 fX9_67 (by first | rfl | assumption | exact hM.at (by decide) (by decide)) rfl (by first | rfl | assumption | exact hM.rf (by decide) rfl) ?_
    refine zJ_iload dX9_hand0_14 rfl ?_
    refine zJ_ialdN (i := ((h0 + j) % 65536)) dX9_hand0_16 (by first | rfl | assumption | exact hM.at (by decide) (by decide)) rfl (by omega) (by decide) rfl ?_
    refine zJ_if_eq (tgt := 92) dX9_hand0_17 (by decide) (fun h17 => ?_) (fun h17 => ?_)
    · have hnone : g ((h0 + j) % 65536) = none := by
        cases hz : g ((h0 + j) % 65536) with
        | none => rfl
        | some x =>
          rw [hgj, hz] at h17
          have := hxl _ x hj1 hz
          exact absurd ((nI_eq (a := x + 1) (b := 0) (by omega) (by decide)).mp h17) (by omega)
      have hjd : j = d := by
        rcases Nat.lt_or_ge j d with h | h
        · obtain ⟨x, hx, -⟩ := hbef j h
          rw [hnone] at hx; cases hx
        · omega
      have hkn : k ∉ K := by
        subst hjd
        rcases hend with ⟨x, hx, -⟩ | ⟨-, h⟩
        · rw [hnone] at hx; cases hx
        · exact h
      refine zJ_aload_n dX9_hand0_92 rfl ?_
      refine zJ_geti dX9_hand0_93 fX9_354 (by first | rfl | assumption | exact hM.at (by decide) (by decide)) rfl ?_
      rw [hsz]
      refine zJ_sipush (v := 20000) dX9_hand0_96 (by decide) ?_
      refine zJ_icmp_ne (tgt := 109) dX9_hand0_99 (by decide) (fun h99 => ?_) (fun h99 => ?_)
      · have hlt : K.length < 20000 := Nat.lt_of_le_of_ne hKR fun h => h99 (by rw [h]; rfl)
        refine zJ_aload_n dX9_hand0_109 rfl ?_
        refine zJ_getr (j := 139) dX9_hand0_110 fX9_50 (by first | rfl | assumption | exact hM.at (by decide) (by decide)) rfl (by first | rfl | assumption | exact hM.rf (by decide) rfl) ?_
        refine zJ_aload_n dX9_hand0_113 rfl ?_
        refine zJ_geti dX9_hand0_114 fX9_354 (by first | rfl | assumption | exact hM.at (by decide) (by decide)) rfl ?_
        rw [hsz]
        refine zJ_iload_n dX9_hand0_117 rfl ?_
        refine zJ_iastN (i := K.length) dX9_hand0_118 (by first | rfl | assumption | exact hM.at (by decide) (by decide)) rfl (by omega) (by decide) ?_
        refine zJ_aload_n dX9_hand0_119 rfl ?_
        refine zJ_getr (j := 140) dX9_hand0_120 fX9_53 (by first | rfl | assumption | exact hM.at (by decide) (by decide)) rfl (by first | rfl | assumption | exact hM.rf (by decide) rfl) ?_
        refine zJ_aload_n dX9_hand0_123 rfl ?_
        refine zJ_geti dX9_hand0_124 fX9_354 (by first | rfl | assumption | exact hM.at (by decide) (by decide)) rfl ?_
        rw [show (zsi w 139 K.length (nI k.1)).2.1 100 38 = nI K.length by simp [zsi, hsz]]
        refine zJ_iload_n dX9_hand0_127 rfl ?_
        refine zJ_iastN (i := K.length) dX9_hand0_128 (by first | rfl | assumption | exact hM.at (by decide) (by decide)) rfl (by omega) (by decide) ?_
        refine zJ_aload_n dX9_hand0_129 rfl ?_
        refine zJ_getr (j := 141) dX9_hand0_130 fX9_56 (by first | rfl | assumption | exact hM.at (by decide) (by decide)) rfl (by first | rfl | assumption | exact hM.rf (by decide) rfl) ?_
        refine zJ_aload_n dX9_hand0_133 rfl ?_
        refine zJ_geti dX9_hand0_134 fX9_354 (by first | rfl | assumption | exact hM.at (by decide) (by decide)) rfl ?_
        rw [show (zsi (zsi w 139 K.length (nI k.1)) 140 K.length (nI k.2.1)).2.1 100 38 = nI K.length by simp [zsi, hsz]]
        refine zJ_iload_n dX9_hand0_137 rfl ?_
        refine zJ_iastN (i := K.length) dX9_hand0_138 (by first | rfl | assumption | exact hM.at (by decide) (by decide)) rfl (by omega) (by decide) ?_
        refine zJ_aload_n dX9_hand0_139 rfl ?_
        refine zJ_getr (j := 142) dX9_hand0_140 fX9_59 (by first | rfl | assumption | exact hM.at (by decide) (by decide)) rfl (by first | rfl | assumption | exact hM.rf (by decide) rfl) ?_
        refine zJ_aload_n dX9_hand0_143 rfl ?_
        refine zJ_geti dX9_hand0_144 fX9_354 (by first | rfl | assumption | exact hM.at (by decide) (by decide)) rfl ?_
        rw [show (zsi (zsi (zsi w 139 K.length (nI k.1)) 140 K.length (nI k.2.1)) 141 K.length (nI k.2.2.1)).2.1 100 38 = nI K.length by simp [zsi, hsz]]
        refine zJ_iload dX9_hand0_147 rfl ?_
        refine zJ_iastN (i := K.length) dX9_hand0_149 (by first | rfl | assumption | exact hM.at (by decide) (by decide)) rfl (by omega) (by decide) ?_
        refine zJ_aload_n dX9_hand0_150 rfl ?_
        refine zJ_dup dX9_hand0_151 rfl ?_
        refine zJ_geti dX9_hand0_152 fX9_354 (by first | rfl | assumption | exact hM.at (by decide) (by decide)) rfl ?_
        rw [show (zsi (zsi (zsi (zsi w 139 K.length (nI k.1)) 140 K.length (nI k.2.1)) 141 K.length (nI k.2.2.1)) 142 K.length (nI k.2.2.2)).2.1 100 38 = nI K.length by simp [zsi, hsz]]
        refine zJ_iconst (v := 1) dX9_hand0_155 (by decide) ?_
        skip
        refine zJ_iadd dX9_hand0_156 ?_
        rw [show nI K.length + 1 = nI (K.length + 1) from nI_1 _]
        refine zJ_puti dX9_hand0_157 fX9_354 (fun q h => by cases h; rfl) (by first | rfl | assumption | exact hM.at (by decide) (by decide)) rfl rfl rfl ?_
        refine zJ_aload_n dX9_hand0_160 rfl ?_
        refine zJ_getr (j := 144) dX9_hand0_161 fX9_67 (by first | rfl | assumption | exact hM.at (by decide) (by decide)) rfl (by first | rfl | assumption | exact hM.rf (by decide) rfl) ?_
        refine zJ_iload dX9_hand0_164 rfl ?_
        refine zJ_aload_n dX9_hand0_166 rfl ?_
        refine zJ_geti dX9_hand0_167 fX9_354 (by first | rfl | assumption | exact hM.at (by decide) (by decide)) rfl ?_
        rw [show (zsi (zsi (zsi (zsi (zsi w 139 K.length (nI k.1)) 140 K.length (nI k.2.1)) 141 K.length (nI k.2.2.1)) 142 K.length (nI k.2.2.2)) 100 38 (nI (K.length + 1))).2.1 100 38 = nI (K.length + 1) by simp [zsi]]
        refine zJ_iastN (i := ((h0 + j) % 65536)) dX9_hand0_170 (by first | rfl | assumption | exact hM.at (by decide) (by decide)) rfl (by omega) (by decide) ?_
        refine zJ_aload_n dX9_hand0_171 rfl ?_
        refine zJ_geti dX9_hand0_172 fX9_354 (by first | rfl | assumption | exact hM.at (by decide) (by decide)) rfl ?_
        rw [show (zsi (zsi (zsi (zsi (zsi (zsi w 139 K.length (nI k.1)) 140 K.length (nI k.2.1)) 141 K.length (nI k.2.2.1)) 142 K.length (nI k.2.2.2)) 100 38 (nI (K.length + 1))) 144 ((h0 + j) % 65536) (nI (K.length + 1))).2.1 100 38 = nI (K.length + 1) by simp [zsi]]
        refine zJ_iconst (v := 1) dX9_hand0_175 (by decide) ?_
        refine zJ_isub dX9_hand0_176 ?_
        rw [show nI (K.length + 1) - 1 = nI K.length from na_sub (b := 1) (by omega)]
        refine zJ_iret dX9_hand0_177 rfl (by decide) (by decide) (hQ _ _ (Or.inr (Or.inl ⟨hkn, hlt, rfl, ⟨fun x q hx => ?_, by simp [zsi], by simp; omega, fun q hq => ?_⟩, ⟨_, fun s hs => ?_, hH.ins (d := j) (by omega) (by rw [hsd, hjd]; exact hbef) (by rw [hsd]; exact hnone) hkn⟩, ?_⟩)))
        · by_cases hx2 : x < K.length
          · rw [List.getElem?_append_left hx2] at hx
            have : ¬ x = K.length := by omega
            simp [zsi, this, hky x q hx]
          · have hx3 : x = K.length := by
              have := (List.getElem?_eq_some_iff.mp hx).1
              simp at this; omega
            subst hx3
            simp at hx
            subst hx
            simp [zsi]
        · rcases List.mem_append.mp hq with h | h
          · exact hok q h
          · rw [List.mem_singleton.mp h]; exact ⟨hk, hkp⟩
        · rw [hsd]
          by_cases hs2 : s = (h0 + j) % 65536
          · simp [zsi, hs2, zti]
          · simp [zsi, hs2, hg s hs]
        · exact (((((zFM.i (by first | decide | exact Or.inr (by decide))).tr (zFM.i (by first | decide | exact Or.inr (by decide)))).tr (zFM.i (by first | decide | exact Or.inr (by decide)))).tr (zFM.i (by first | decide | exact Or.inr (by decide)))).tr (zFM.i (by first | decide | exact Or.inr (by decide)))).tr (zFM.i (by first | decide | exact Or.inr (by decide)))
      · refine zJ_aload_n dX9_hand0_102 rfl ?_
        refine zJ_iconst (v := 1) dX9_hand0_103 (by decide) ?_
        refine zJ_puti dX9_hand0_104 fX9_357 (fun q h => by cases h; rfl) (by first | rfl | assumption | exact hM.at (by decide) (by decide)) rfl rfl rfl ?_
        refine zJ_iconst (v := (-1)) dX9_hand0_107 (by decide) ?_
        exact zJ_iret dX9_hand0_108 rfl (by decide) (by decide) (hQ _ _ (Or.inr (Or.inr ⟨hkn, (nI_eq (b := 20000) (by omega) (by decide)).mp h99, rfl, rfl⟩)))
    · refine zJ_aload_n dX9_hand0_20 rfl ?_
      refine zJ_getr (j := 144) dX9_hand0_21 fX9_67 (by first | rfl | assumption | exact hM.at (by decide) (by decide)) rfl (by first | rfl | assumption | exact hM.rf (by decide) rfl) ?_
      refine zJ_iload dX9_hand0_24 rfl ?_
      refine zJ_ialdN (i := ((h0 + j) % 65536)) dX9_hand0_26 (by first | rfl | assumption | exact hM.at (by decide) (by decide)) rfl (by omega) (by decide) rfl ?_
      refine zJ_iconst (v := 1) dX9_hand0_27 (by decide) ?_
      refine zJ_isub dX9_hand0_28 ?_
      refine zJ_istore (ls2 := fun x29 => [(6, .int x29), (5, .int (nI ((h0 + j) % 65536))), (0, .ref 100), (1, .int (nI k.1)), (2, .int (nI k.2.1)), (3, .int (nI k.2.2.1)), (4, .int (nI k.2.2.2))]) dX9_hand0_29 (by decide) (fun _ => rfl) (fun x29 ex29 => ?_)
      obtain ⟨x, hx, hxK⟩ : ∃ x, g ((h0 + j) % 65536) = some x ∧ x < K.length := by
        cases hz : g ((h0 + j) % 65536) with
        | none => rw [hgj, hz] at h17; exact absurd rfl h17
        | some x => exact ⟨x, rfl, hxl _ x hj1 hz⟩
      obtain ⟨q, hq⟩ : ∃ q, K[x]? = some q := ⟨K[x], List.getElem?_eq_getElem hxK⟩
      have hqok := (hok q (List.mem_iff_getElem?.mpr ⟨x, hq⟩)).1
      obtain ⟨y1, y2, y3, y4⟩ := hky x q hq
      obtain rfl : x29 = nI x := by rw [ex29, hgj, hx]; exact na_sub (b := 1) (by omega)
      have J79 : q ≠ k → zJ Δ mX9_hand0 (zRm 1 0 0) true w.1 QR (fun _ _ => False) 0 0 79 [(6, .int (nI x)), (5, .int (nI ((h0 + j) % 65536))), (0, .ref 100), (1, .int (nI k.1)), (2, .int (nI k.2.1)), (3, .int (nI k.2.2.1)), (4, .int (nI k.2.2.2))] [] w := by
        intro hqk
        have hjd : j < d := Nat.lt_of_not_le fun h => by
          have : j = d := by omega
          subst this
          rcases hend with ⟨x2, hx2, hk2⟩ | ⟨hn, -⟩
          · rw [hx] at hx2; cases hx2
            rw [hq] at hk2; exact hqk (Option.some.inj hk2)
          · rw [hx] at hn; cases hn
        refine zJ_iload dX9_hand0_79 rfl ?_
        refine zJ_iconst (v := 1) dX9_hand0_81 (by decide) ?_
        refine zJ_iadd dX9_hand0_82 ?_
        refine zJ_ldc_w dX9_hand0_83 kX9_350 ?_
        refine zJ_iand dX9_hand0_86 ?_
        refine zJ_istore (ls2 := fun x87 => [(5, .int x87), (6, .int (nI x)), (0, .ref 100), (1, .int (nI k.1)), (2, .int (nI k.2.1)), (3, .int (nI k.2.2.1)), (4, .int (nI k.2.2.2))]) dX9_hand0_87 (by decide) (fun _ => rfl) (fun x87 ex87 => ?_)
        refine zJ_goto (tgt := 10) dX9_hand0_89 (by decide) ?_
        refine zJ_ls [(5, .int x87), (0, .ref 100), (1, .int (nI k.1)), (2, .int (nI k.2.1)), (3, .int (nI k.2.2.1)), (4, .int (nI k.2.2.2))] (by simp) ?_
        rw [ex87, show nI ((h0 + j) % 65536) + 1 = nI ((h0 + j) % 65536 + 1) from nI_1 _, show (65535 : Int32) = nI (2 ^ 16 - 1) from rfl, fa_mask, show (2 : Nat) ^ 16 = 65536 from rfl, zmod_1 (by decide)]
        exact ih (j + 1) (by omega) (by omega)
      refine zJ_aload_n dX9_hand0_31 rfl ?_
      refine zJ_getr (j := 139) dX9_hand0_32 fX9_50 (by first | rfl | assumption | exact hM.at (by decide) (by decide)) rfl (by first | rfl | assumption | exact hM.rf (by decide) rfl) ?_
      refine zJ_iload dX9_hand0_35 rfl ?_
      refine zJ_ialdN (i := x) (v := (nI q.1)) dX9_hand0_37 (by first | rfl | assumption | exact hM.at (by decide) (by decide)) rfl (by omega) (by decide) y1 ?_
      refine zJ_iload_n dX9_hand0_38 rfl ?_
      refine zJ_icmp_ne (tgt := 79) dX9_hand0_39 (by decide) (fun h39 => ?_) (fun h39 => ?_)
      · exact J79 (fun e => h39 (by rw [e]))
      · refine zJ_aload_n dX9_hand0_42 rfl ?_
        refine zJ_getr (j := 140) dX9_hand0_43 fX9_53 (by first | rfl | assumption | exact hM.at (by decide) (by decide)) rfl (by first | rfl | assumption | exact hM.rf (by decide) rfl) ?_
        refine zJ_iload dX9_hand0_46 rfl ?_
        refine zJ_ialdN (i := x) (v := (nI q.2.1)) dX9_hand0_48 (by first | rfl | assumption | exact hM.at (by decide) (by decide)) rfl (by omega) (by decide) y2 ?_
        refine zJ_iload_n dX9_hand0_49 rfl ?_
        refine zJ_icmp_ne (tgt := 79) dX9_hand0_50 (by decide) (fun h50 => ?_) (fun h50 => ?_)
        · exact J79 (fun e => h50 (by rw [e]))
        · refine zJ_aload_n dX9_hand0_53 rfl ?_
          refine zJ_getr (j := 141) dX9_hand0_54 fX9_56 (by first | rfl | assumption | exact hM.at (by decide) (by decide)) rfl (by first | rfl | assumption | exact hM.rf (by decide) rfl) ?_
          refine zJ_iload dX9_hand0_57 rfl ?_
          refine zJ_ialdN (i := x) (v := (nI q.2.2.1)) dX9_hand0_59 (by first | rfl | assumption | exact hM.at (by decide) (by decide)) rfl (by omega) (by decide) y3 ?_
          refine zJ_iload_n dX9_hand0_60 rfl ?_
          refine zJ_icmp_ne (tgt := 79) dX9_hand0_61 (by decide) (fun h61 => ?_) (fun h61 => ?_)
          · exact J79 (fun e => h61 (by rw [e]))
          · refine zJ_aload_n dX9_hand0_64 rfl ?_
            refine zJ_getr (j := 142) dX9_hand0_65 fX9_59 (by first | rfl | assumption | exact hM.at (by decide) (by decide)) rfl (by first | rfl | assumption | exact hM.rf (by decide) rfl) ?_
            refine zJ_iload dX9_hand0_68 rfl ?_
            refine zJ_ialdN (i := x) (v := (nI q.2.2.2)) dX9_hand0_70 (by first | rfl | assumption | exact hM.at (by decide) (by decide)) rfl (by omega) (by decide) y4 ?_
            refine zJ_iload dX9_hand0_71 rfl ?_
            refine zJ_icmp_ne (tgt := 79) dX9_hand0_73 (by decide) (fun h73 => ?_) (fun h73 => ?_)
            · exact J79 (fun e => h73 (by rw [e]))
            · have hqk : q = k := by
                have e1 := nI_inj32 (by have := hqok.1; omega) (by have := hk.1; omega) h39
                have e2 := nI_inj32 (by have := hqok.2.1; have := hT.2.2.2.1; omega) (by have := hk.2.1; have := hT.2.2.2.1; omega) h50
                have e3 := nI_inj32 (by have := hqok.2.2.1; omega) (by have := hk.2.2.1; omega) h61
                have e4 := nI_inj32 (hqok.s32 hT) (hk.s32 hT) h73
                exact Prod.ext e1 (Prod.ext e2 (Prod.ext e3 e4))
              refine zJ_iload dX9_hand0_76 rfl ?_
              exact zJ_iret dX9_hand0_78 rfl (by decide) (by decide) (hQ _ _ (Or.inl ⟨x, by rw [hq, hqk], rfl, rfl⟩))
  refine zJ_iload_n dX9_hand0_0 rfl ?_
  refine zJ_iload_n dX9_hand0_1 rfl ?_
  refine zJ_iload_n dX9_hand0_2 rfl ?_
  refine zJ_iload dX9_hand0_3 rfl ?_
  refine zJ_cS4 dX9_hand0_5 sX9_351 mfX9_mixOf (c_Mo_mixOf Δ w _ _ _ _) (Nat.le_of_ble_eq_true rfl) (by decide) (by decide) ?_
  refine zJ_istore (ls2 := fun x8 => [(5, .int x8), (0, .ref 100), (1, .int (nI k.1)), (2, .int (nI k.2.1)), (3, .int (nI k.2.2.1)), (4, .int (nI k.2.2.2))]) dX9_hand0_8 (by decide) (fun _ => rfl) (fun x8 ex8 => ?_)
  obtain rfl : x8 = (nI ((h0 + 0) % 65536)) := by rw [ex8, Nat.add_zero, ← hsd, zmx, zmi, Nat.mod_mod]
  exact L 0 (Nat.zero_le _)
theorem zmay_eq {T : zTo} {k : zKy} {y : Nat} : zmay T k y = true ↔ k.2.1 < T.1 7 ∧ T.2.2.2 (k.1 * 8 + y) ≠ 0 ∧ (T.1 13).testBit y = false ∧ (if T.1 10 = 0 then k.2.2.1.testBit y = false else if T.1 10 = 1 then k.2.2.1 ≠ y else True) := by
  simp only [zmay, Bool.and_eq_true, decide_eq_true_eq, Bool.not_eq_true']
  constructor
  · rintro ⟨⟨⟨a, b⟩, c⟩, d⟩
    refine ⟨a, b, c, ?_⟩
    split at d
    · rename_i h; rw [if_pos h]; simpa using d
    · rename_i h; rw [if_neg h]
      split at d
      · rename_i h2; rw [if_pos h2]; simpa using d
      · rename_i h2; rw [if_neg h2]; trivial
  · rintro ⟨a, b, c, d⟩
    refine ⟨⟨⟨a, b⟩, c⟩, ?_⟩
    split at d
    · rename_i h; rw [if_pos h]; simpa using d
    · rename_i h; rw [if_neg h]
      split at d
      · rename_i h2; rw [if_pos h2]; simpa using d
      · rename_i h2; rw [if_neg h2]
set_option maxRecDepth 100000 in
theorem c_Mo_may (Δ : zD) (w : zW) (T : zTo) (K : List zKy) (hA : zMa w T) (hN : zMq w T K) (hT : zTok T) (x y : Nat) (k : zKy) (hx : K[x]? = some k) (hy : y < T.1 0) : zMd Δ 0 0 0 true yX9_may mX9_may [.ref 100, .int (nI x), .int (nI y)] w (some (.int (if zmay T k y then 1 else 0))) w := by
  refine zMd.of mfX9_may (Nat.le_of_ble_eq_true rfl) (fun QR hQ => ?_)
  obtain ⟨hM, m1, m3, m4, m5, m6, m7, m46, m9, m47, mso, mnu, mwt⟩ := hA
  have hT0 := hT
  obtain ⟨hp0, hp5, hp6, hp7, hp8, hp9, hp10, hp11, hp12, hp13, hpp, hpw⟩ := hT
  have hxK : x < K.length := (List.getElem?_eq_some_iff.mp hx).1
  have hKR := hN.2.2.1
  obtain ⟨hk, hkp⟩ := hN.2.2.2 k (List.mem_iff_getElem?.mpr ⟨x, hx⟩)
  obtain ⟨y1, y2, y3, y4⟩ := hN.1 x k hx
  have hwy : T.2.2.2 (k.1 * 8 + y) ≤ 99 := (hpw k.1 y hk.1 (by omega)).1
  have hk2 := hk.2.1
  have hk3 := hk.2.2.1
  refine zJ_aload_n dX9_may_0 rfl ?_
  refine zJ_getr (j := 140) dX9_may_1 fX9_53 (by first | rfl | assumption | exact hM.at (by decide) (by decide)) rfl (by first | rfl | assumption | exact hM.rf (by decide) rfl) ?_
  refine zJ_iload_n dX9_may_4 rfl ?_
  refine zJ_ialdN (i := x) (v := (nI k.2.1)) dX9_may_5 (by first | rfl | assumption | exact hM.at (by decide) (by decide)) rfl (by omega) (by decide) y2 ?_
  refine zJ_aload_n dX9_may_6 rfl ?_
  refine zJ_getiN dX9_may_7 fX9_16 (by first | rfl | assumption | exact hM.at (by decide) (by decide)) rfl m5 ?_
  refine zJ_icmp_eq (tgt := 52) dX9_may_10 (by decide) (fun h10 => ?_) (fun h10 => ?_)
  · have hno : zmay T k y = false := Bool.eq_false_iff.mpr fun h => by have := (zmay_eq.mp h).1; have := (nI_eq (by omega) (by omega)).mp h10; omega
    rw [hno] at hQ
    refine zJ_iconst (v := 0) dX9_may_52 (by decide) ?_
    exact zJ_zret dX9_may_53 rfl rfl (by decide) (by decide) hQ
  · refine zJ_iload_n dX9_may_13 rfl ?_
    refine zJ_aload_n dX9_may_14 rfl ?_
    refine zJ_getiN dX9_may_15 fX9_298 (by first | rfl | assumption | exact hM.at (by decide) (by decide)) rfl m1 ?_
    refine zJ_icmp_ge (tgt := 52) dX9_may_18 (by decide) (fun h18 => ?_) (fun h18 => ?_)
    · have hno : zmay T k y = false := absurd ((nI_leI (by omega) (by omega)).mp h18) (by omega)
      rw [hno] at hQ
      refine zJ_iconst (v := 0) dX9_may_52 (by decide) ?_
      exact zJ_zret dX9_may_53 rfl rfl (by decide) (by decide) hQ
    · refine zJ_aload_n dX9_may_21 rfl ?_
      refine zJ_getr (j := 112) dX9_may_22 fX9_29 (by first | rfl | assumption | exact hM.at (by decide) (by decide)) rfl (by first | rfl | assumption | exact hM.rf (by decide) rfl) ?_
      refine zJ_bipush (v := 8) dX9_may_25 (by decide) ?_
      refine zJ_aload_n dX9_may_27 rfl ?_
      refine zJ_getr (j := 139) dX9_may_28 fX9_50 (by first | rfl | assumption | exact hM.at (by decide) (by decide)) rfl (by first | rfl | assumption | exact hM.rf (by decide) rfl) ?_
      refine zJ_iload_n dX9_may_31 rfl ?_
      refine zJ_ialdN (i := x) (v := (nI k.1)) dX9_may_32 (by first | rfl | assumption | exact hM.at (by decide) (by decide)) rfl (by omega) (by decide) y1 ?_
      refine zJ_imul dX9_may_33 ?_
      refine zJ_iload_n dX9_may_34 rfl ?_
      refine zJ_iadd dX9_may_35 ?_
      refine zJ_ialdN (i := (k.1 * 8 + y)) (v := (nI (T.2.2.2 (k.1 * 8 + y)))) dX9_may_36 (by first | rfl | assumption | exact hM.at (by decide) (by decide)) (na_8 _ _) (by omega) (by decide) (mwt k.1 y hkp hy) ?_
      refine zJ_if_eq (tgt := 52) dX9_may_37 (by decide) (fun h37 => ?_) (fun h37 => ?_)
      · have hno : zmay T k y = false := Bool.eq_false_iff.mpr fun h => (zmay_eq.mp h).2.1 ((nI_eq (b := 0) (by omega) (by decide)).mp h37)
        rw [hno] at hQ
        refine zJ_iconst (v := 0) dX9_may_52 (by decide) ?_
        exact zJ_zret dX9_may_53 rfl rfl (by decide) (by decide) hQ
      · refine zJ_aload_n dX9_may_40 rfl ?_
        refine zJ_getiN dX9_may_41 fX9_345 (by first | rfl | assumption | exact hM.at (by decide) (by decide)) rfl m47 ?_
        refine zJ_iload_n dX9_may_44 rfl ?_
        refine zJ_ishr dX9_may_45 ?_
        refine zJ_iconst (v := 1) dX9_may_46 (by decide) ?_
        refine zJ_iand dX9_may_47 ?_
        rw [nI_bit (by omega) (by omega)]
        refine zJ_iconst (v := 1) dX9_may_48 (by decide) ?_
        refine zJ_icmp_ne (tgt := 54) dX9_may_49 (by decide) (fun h49 => ?_) (fun h49 => ?_)
        · have c1 : k.2.1 < T.1 7 := Nat.lt_of_le_of_ne hk2.2 fun h => h10 (by rw [h])
          have c2 : T.2.2.2 (k.1 * 8 + y) ≠ 0 := fun h => h37 (by rw [h]; rfl)
          have c3 : (T.1 13).testBit y = false := Bool.eq_false_iff.mpr fun h => h49 (by rw [tb_of.mp h]; rfl)
          refine zJ_aload_n dX9_may_54 rfl ?_
          refine zJ_getiN dX9_may_55 fX9_342 (by first | rfl | assumption | exact hM.at (by decide) (by decide)) rfl m46 ?_
          refine zJ_if_ne (tgt := 82) dX9_may_58 (by decide) (fun h58 => ?_) (fun h58 => ?_)
          · have hl0 : ¬ T.1 10 = 0 := fun h => h58 (by rw [h]; rfl)
            refine zJ_aload_n dX9_may_82 rfl ?_
            refine zJ_getiN dX9_may_83 fX9_342 (by first | rfl | assumption | exact hM.at (by decide) (by decide)) rfl m46 ?_
            refine zJ_iconst (v := 1) dX9_may_86 (by decide) ?_
            refine zJ_icmp_ne (tgt := 100) dX9_may_87 (by decide) (fun h87 => ?_) (fun h87 => ?_)
            · refine zJ_iconst (v := 1) dX9_may_100 (by decide) ?_
              refine zJ_goto (tgt := 105) dX9_may_101 (by decide) ?_
              rw [show zmay T k y = true from zmay_eq.mpr ⟨c1, c2, c3, by rw [if_neg hl0, if_neg (fun h => h87 (by rw [h]; rfl))]; trivial⟩] at hQ
              exact zJ_zret dX9_may_105 rfl rfl (by decide) (by decide) hQ
            · have hl1 : T.1 10 = 1 := (nI_eq (b := 1) (by omega) (by decide)).mp h87
              refine zJ_aload_n dX9_may_90 rfl ?_
              refine zJ_getr (j := 141) dX9_may_91 fX9_56 (by first | rfl | assumption | exact hM.at (by decide) (by decide)) rfl (by first | rfl | assumption | exact hM.rf (by decide) rfl) ?_
              refine zJ_iload_n dX9_may_94 rfl ?_
              refine zJ_ialdN (i := x) (v := (nI k.2.2.1)) dX9_may_95 (by first | rfl | assumption | exact hM.at (by decide) (by decide)) rfl (by omega) (by decide) y3 ?_
              refine zJ_iload_n dX9_may_96 rfl ?_
              refine zJ_icmp_eq (tgt := 104) dX9_may_97 (by decide) (fun h97 => ?_) (fun h97 => ?_)
              · refine zJ_iconst (v := 0) dX9_may_104 (by decide) ?_
                rw [show zmay T k y = false from Bool.eq_false_iff.mpr fun h => by have h1 := (zmay_eq.mp h).2.2.2; rw [if_neg hl0, if_pos hl1] at h1; exact h1 ((nI_eq (by omega) (by omega)).mp h97)] at hQ
                exact zJ_zret dX9_may_105 rfl rfl (by decide) (by decide) hQ
              · refine zJ_iconst (v := 1) dX9_may_100 (by decide) ?_
                refine zJ_goto (tgt := 105) dX9_may_101 (by decide) ?_
                rw [show zmay T k y = true from zmay_eq.mpr ⟨c1, c2, c3, by rw [if_neg hl0, if_pos hl1]; exact fun h => h97 (by rw [h])⟩] at hQ
                exact zJ_zret dX9_may_105 rfl rfl (by decide) (by decide) hQ
          · have hl0 : T.1 10 = 0 := (nI_eq (b := 0) (by omega) (by decide)).mp h58
            refine zJ_aload_n dX9_may_61 rfl ?_
            refine zJ_getr (j := 141) dX9_may_62 fX9_56 (by first | rfl | assumption | exact hM.at (by decide) (by decide)) rfl (by first | rfl | assumption | exact hM.rf (by decide) rfl) ?_
            refine zJ_iload_n dX9_may_65 rfl ?_
            refine zJ_ialdN (i := x) (v := (nI k.2.2.1)) dX9_may_66 (by first | rfl | assumption | exact hM.at (by decide) (by decide)) rfl (by omega) (by decide) y3 ?_
            refine zJ_iload_n dX9_may_67 rfl ?_
            refine zJ_ishr dX9_may_68 ?_
            refine zJ_iconst (v := 1) dX9_may_69 (by decide) ?_
            refine zJ_iand dX9_may_70 ?_
            rw [nI_bit (by omega) (by omega)]
            refine zJ_if_ne (tgt := 78) dX9_may_71 (by decide) (fun h71 => ?_) (fun h71 => ?_)
            · have hb1 : k.2.2.1.testBit y = true := tb_of.mpr (by
                have : ¬ k.2.2.1 / 2 ^ y % 2 = 0 := fun h => h71 (by rw [h]; rfl)
                omega)
              refine zJ_iconst (v := 0) dX9_may_78 (by decide) ?_
              refine zJ_goto (tgt := 105) dX9_may_79 (by decide) ?_
              rw [show zmay T k y = false from Bool.eq_false_iff.mpr fun h => by have h1 := (zmay_eq.mp h).2.2.2; rw [if_pos hl0, Bool.eq_false_iff] at h1; exact h1 hb1] at hQ
              exact zJ_zret dX9_may_105 rfl rfl (by decide) (by decide) hQ
            · have hb0 : k.2.2.1.testBit y = false := Bool.eq_false_iff.mpr fun h => by have := (nI_eq (a := k.2.2.1 / 2 ^ y % 2) (b := 0) (by omega) (by decide)).mp h71; have := tb_of.mp h; omega
              refine zJ_iconst (v := 1) dX9_may_74 (by decide) ?_
              refine zJ_goto (tgt := 105) dX9_may_75 (by decide) ?_
              rw [show zmay T k y = true from zmay_eq.mpr ⟨c1, c2, c3, by rw [if_pos hl0]; exact hb0⟩] at hQ
              exact zJ_zret dX9_may_105 rfl rfl (by decide) (by decide) hQ
        · have hno : zmay T k y = false := Bool.eq_false_iff.mpr fun h => by have h1 := (zmay_eq.mp h).2.2.1; rw [Bool.eq_false_iff] at h1; exact h1 (tb_of.mpr ((nI_eq (b := 1) (by omega) (by decide)).mp h49))
          rw [hno] at hQ
          refine zJ_iconst (v := 0) dX9_may_52 (by decide) ?_
          exact zJ_zret dX9_may_53 rfl rfl (by decide) (by decide) hQ
