/-- one week more behind the model's weeks -/
def zMw (w c : zW) (T : zTo) (wo n : Nat) (ot : Nat → Nat) (r : Option zKy × Int32) : Prop := zFM [78, 79, 80, 81, 82] w c ∧ c.2.1 178 0 = r.2 ∧ (∀ j, ¬ j = 0 → c.2.1 178 j = w.2.1 178 j) ∧ (∀ j, ¬ j = n → c.2.1 180 j = w.2.1 180 j ∧ c.2.1 181 j = w.2.1 181 j ∧ c.2.1 182 j = w.2.1 182 j) ∧ c.2.1 180 n = zeb (r.1.map (fun k => (k.1, k.2.1))) ∧ c.2.1 181 n = nI (zeh (r.1.map (fun k => (k.1, k.2.1)))) ∧ c.2.1 182 n = nI (if zeh (r.1.map (fun k => (k.1, k.2.1))) = 0 then 0 else zpe T (zeh (r.1.map (fun k => (k.1, k.2.1))))) ∧ ∀ p, p < 8 → c.2.1 179 p = nI (match r.1 with | none => ot p | some k => if k.2.1 < T.1 7 ∧ p = k.1 then n + wo + 1 else ot p)
/-- the model's weeks stand so -/
def zMwk (w : zW) (T : zTo) (wo n : Nat) (S : zRs) : Prop := w.2.1 178 0 = S.1 ∧ w.2.1 178 1 = nI wo ∧ wo ≤ 20 ∧ w.2.1 178 2 = nI n ∧ n ≤ 100 ∧ (∀ j, j < n → w.2.1 180 j = zeb (S.2.2 j) ∧ w.2.1 181 j = nI (zeh (S.2.2 j)) ∧ w.2.1 182 j = nI (if zeh (S.2.2 j) = 0 then 0 else zpe T (zeh (S.2.2 j)))) ∧ zOt w S.2.1
theorem zMwk.fm {w c : zW} {T : zTo} {wo n : Nat} {S : zRs} {l : List Nat} (h : zMwk w T wo n S) (hf : zFM l w c) (hl : ∀ k ∈ ([78, 79, 80, 81, 82] : List Nat), k ∉ l) : zMwk c T wo n S := by
  obtain ⟨h1, h2, h3, h4, h5, h6, h7⟩ := h
  have e : ∀ k, k ∈ ([78, 79, 80, 81, 82] : List Nat) → 0 < k → ∀ j, c.2.1 (100 + k) j = w.2.1 (100 + k) j := fun k hk h0 j => hf.ar (hl k hk) h0
  have e78 := e 78 (by decide) (by decide)
  have e80 := e 80 (by decide) (by decide)
  have e81 := e 81 (by decide) (by decide)
  have e82 := e 82 (by decide) (by decide)
  exact ⟨(e78 0).trans h1, (e78 1).trans h2, h3, (e78 2).trans h4, h5, fun j hj => ⟨(e80 j).trans (h6 j hj).1, (e81 j).trans (h6 j hj).2.1, (e82 j).trans (h6 j hj).2.2⟩, h7.fm hf (hl 79 (by decide))⟩
theorem zMwk.step {w c : zW} {T : zTo} {wo n : Nat} {S : zRs} (h : zMwk w T wo n S) (hn : n < 100) (hw : zMw w c T wo n S.2.1 (zwn T S.2.1 n S.1)) : zMwk (zsi c 178 2 (nI (n + 1))) T wo (n + 1) (zr1 T wo n S) := by
  obtain ⟨h1, h2, h3, h4, h5, h6, h7⟩ := h
  obtain ⟨g0, g1, g2, g3, g4, g5, g6, g7⟩ := hw
  have o : ∀ a j, ¬ (a = 178 ∧ j = 2) → (zsi c 178 2 (nI (n + 1))).2.1 a j = c.2.1 a j := fun a j h => by simp only [zsi, if_neg h]
  refine ⟨?_, ?_, h3, zsi_at _ _ _ _, by omega, fun j hj => ?_, fun p hp => ?_⟩
  · rw [o _ _ (by omega)]; exact g1
  · rw [o _ _ (by omega), g2 1 (by decide)]; exact h2
  · rw [o _ _ (by omega), o _ _ (by omega), o _ _ (by omega)]
    by_cases hjn : j = n
    · subst hjn
      have e : (zr1 T wo j S).2.2 j = (zwn T S.2.1 j S.1).1.map (fun k => (k.1, k.2.1)) := if_pos rfl
      rw [e]
      exact ⟨g4, g5, g6⟩
    · have e : (zr1 T wo n S).2.2 j = S.2.2 j := if_neg hjn
      rw [e]
      obtain ⟨a, b, d⟩ := g3 j hjn
      rw [a, b, d]
      exact h6 j (by omega)
  · rw [o _ _ (by omega)]
    refine ⟨g7 p hp, ?_⟩
    simp only [zr1]
    have := (h7 p hp).2
    split
    · exact this
    · split <;> omega
set_option maxRecDepth 100000 in
theorem c_Mo_week0 (Δ : zD) (w : zW) (T : zTo) (K : List zKy) (hK : zMK w T K) (hT : zTok T) (hB : zBm w T K) (h2 : w.2.1 100 2 = nI (T.1 12)) (ot : Nat → Nat) (ho : zOt w ot) (n wo : Nat) (hn : n < 100) (hwo : wo ≤ 20) (hr1 : w.2.1 178 1 = nI wo) : zMp Δ 3 yX9_week0 mX9_week0 [.ref 100, .int (nI n)] w (fun r c => r = none ∧ zMw w c T wo n ot (zwn T ot n (w.2.1 178 0))) := by
  refine zMp.of mfX9_week0 (Nat.le_of_ble_eq_true rfl) (fun QR hQ => ?_)
  have hK0 := hK
  obtain ⟨hA, hN, hall, hch⟩ := hK
  have hM := hA.1
  have hT0 := hT
  obtain ⟨hp0, hp5, hp6, hp7, hp8, hp9, hp10, hp11, hp12, hp13, hpp, hpw⟩ := hT
  generalize hA9 : (zsi (zsi (zsi w 180 n (-1)) 181 n 0) 182 n 0) = wA
  have fA : zFM [78, 79, 80, 81, 82] w wA := by rw [← hA9]; exact ((zFM.i (Or.inr (by decide))).tr (zFM.i (Or.inr (by decide)))).tr (zFM.i (Or.inr (by decide)))
  have a178 : ∀ j, wA.2.1 178 j = w.2.1 178 j := fun j => by rw [← hA9, zsi_o (by decide), zsi_o (by decide), zsi_o (by decide)]
  have a179 : ∀ j, wA.2.1 179 j = w.2.1 179 j := fun j => by rw [← hA9, zsi_o (by decide), zsi_o (by decide), zsi_o (by decide)]
  have aA : ∀ j, ¬ j = n → wA.2.1 180 j = w.2.1 180 j ∧ wA.2.1 181 j = w.2.1 181 j ∧ wA.2.1 182 j = w.2.1 182 j := fun j hj => by rw [← hA9]; simp [zsi, hj]
  have aB : wA.2.1 180 n = -1 ∧ wA.2.1 181 n = 0 ∧ wA.2.1 182 n = 0 := by rw [← hA9]; simp [zsi]
  have hKA : zMK wA T K := hK0.fm fA (by decide)
  have MA9 : zMs wA := hKA.1.1
  have hBA : zBm wA T K := fun x k hx h3 => by rw [show (152 : Nat) = 100 + 52 from rfl, fA.ar (by decide) (by decide)]; exact hB x k hx h3
  have hoA : zOt wA ot := fun p hp => ⟨(a179 p).trans (ho p hp).1, (ho p hp).2⟩
  have h2A : wA.2.1 100 2 = nI (T.1 12) := (fA.at (by decide)).trans h2
  have hO : ∀ p, p < 8 → (zbits (fun p => decide (n < ot p)) 8).testBit p = decide (n < ot p) := fun p hp => by rw [zbits_tb]; simp [hp]
  generalize hO9 : (zbits (fun p => decide (n < ot p)) 8).testBit = O at hO
  have hRz : ¬ n < ot (T.1 12) → zwn T ot n (w.2.1 178 0) = (some (zwk T O 11 (zfk T) (w.2.1 178 0)).1, (zwk T O 11 (zfk T) (w.2.1 178 0)).2) := fun h => by rw [← hO9]; simp only [zwn, if_neg h]
  have hRn : n < ot (T.1 12) → zwn T ot n (w.2.1 178 0) = (none, w.2.1 178 0) := fun h => by simp only [zwn, if_pos h]
  have fs : ∀ s, zFM [78, 79, 80, 81, 82] wA (zsi wA 178 0 s) := fun s => zFM.i (Or.inr (by decide))
  have hKs : ∀ s, zMK (zsi wA 178 0 s) T K := fun s => hKA.fm (fs s) (by decide)
  have Ms : ∀ s, zMs (zsi wA 178 0 s) := fun s => (hKs s).1.1
  have hBs : ∀ s, zBm (zsi wA 178 0 s) T K := fun s x k hx h3 => by rw [zsi_o (by decide)]; exact hBA x k hx h3
  have hos : ∀ s, zOt (zsi wA 178 0 s) ot := fun s p hp => by rw [zsi_o (by decide)]; exact hoA p hp
  have E : ∀ (x : Nat) (k : zKy) (s : Int32) (v : Int32), K[x]? = some k → ¬ n < ot (T.1 12) → zwk T O 11 (zfk T) (w.2.1 178 0) = (k, s) → zJ Δ mX9_week0 (zRm 3 0 0) true w.1 QR (fun _ _ => False) 0 0 70 [(3, .int v), (2, .int (nI x)), (0, .ref 100), (1, .int (nI n))] [] (zsi wA 178 0 s) := by
    intro x k s v hx hno hz
    have hR := hRz hno
    rw [hz] at hR
    have hxK : x < K.length := (List.getElem?_eq_some_iff.mp hx).1
    have hKR := hN.2.2.1
    obtain ⟨hk, hkp⟩ := hN.2.2.2 k (List.mem_iff_getElem?.mpr ⟨x, hx⟩)
    have hk1 := hk.1
    have hk2 := hk.2.1
    have Ms9 := Ms s
    obtain ⟨y1, y2, -, -⟩ := (hKs s).2.1.1 x k hx
    have hAs := (hKs s).1
    have m5 := hAs.2.2.2.2.1
    have f2 : zFM [78, 79, 80, 81, 82] (zsi wA 178 0 s) (zsi (zsi (zsi wA 178 0 s) 180 n (nI k.1)) 181 n (nI k.2.1)) := (zFM.i (Or.inr (by decide))).tr (zFM.i (Or.inr (by decide)))
    have f3 : zFM [78, 79, 80, 81, 82] (zsi wA 178 0 s) (zsi (zsi (zsi (zsi wA 178 0 s) 180 n (nI k.1)) 181 n (nI k.2.1)) 182 n (nI (zpe T k.2.1))) := f2.tr (zFM.i (Or.inr (by decide)))
    have hA2 : zMa (zsi (zsi (zsi wA 178 0 s) 180 n (nI k.1)) 181 n (nI k.2.1)) T := hAs.fm f2 (by decide)
    have m5U : (zsi (zsi (zsi (zsi wA 178 0 s) 180 n (nI k.1)) 181 n (nI k.2.1)) 182 n (nI (zpe T k.2.1))).2.1 100 5 = nI (T.1 7) := by rw [zsi_o (by decide), zsi_o (by decide), zsi_o (by decide)]; exact m5
    have hr1s : (zsi (zsi (zsi (zsi wA 178 0 s) 180 n (nI k.1)) 181 n (nI k.2.1)) 182 n (nI (zpe T k.2.1))).2.1 178 1 = nI wo := by
      rw [zsi_o (by decide), zsi_o (by decide), zsi_o (by decide)]
      simp only [zsi]
      rw [if_neg (by decide), a178]
      exact hr1
    have q0 : (zsi (zsi (zsi (zsi wA 178 0 s) 180 n (nI k.1)) 181 n (nI k.2.1)) 182 n (nI (zpe T k.2.1))).2.1 178 0 = s := by simp [zsi]
    have q1 : ∀ j, ¬ j = 0 → (zsi (zsi (zsi (zsi wA 178 0 s) 180 n (nI k.1)) 181 n (nI k.2.1)) 182 n (nI (zpe T k.2.1))).2.1 178 j = w.2.1 178 j := fun j hj => by
      rw [zsi_o (by decide), zsi_o (by decide), zsi_o (by decide)]
      simp only [zsi]
      rw [if_neg (by omega), a178]
    have q2 : ∀ j, ¬ j = n → (zsi (zsi (zsi (zsi wA 178 0 s) 180 n (nI k.1)) 181 n (nI k.2.1)) 182 n (nI (zpe T k.2.1))).2.1 180 j = w.2.1 180 j ∧ (zsi (zsi (zsi (zsi wA 178 0 s) 180 n (nI k.1)) 181 n (nI k.2.1)) 182 n (nI (zpe T k.2.1))).2.1 181 j = w.2.1 181 j ∧ (zsi (zsi (zsi (zsi wA 178 0 s) 180 n (nI k.1)) 181 n (nI k.2.1)) 182 n (nI (zpe T k.2.1))).2.1 182 j = w.2.1 182 j := fun j hj => by
      have := aA j hj
      simp only [zsi]
      simp only [hj, and_false, if_false]
      exact this
    have q3 : (zsi (zsi (zsi (zsi wA 178 0 s) 180 n (nI k.1)) 181 n (nI k.2.1)) 182 n (nI (zpe T k.2.1))).2.1 180 n = nI k.1 ∧ (zsi (zsi (zsi (zsi wA 178 0 s) 180 n (nI k.1)) 181 n (nI k.2.1)) 182 n (nI (zpe T k.2.1))).2.1 181 n = nI k.2.1 ∧ (zsi (zsi (zsi (zsi wA 178 0 s) 180 n (nI k.1)) 181 n (nI k.2.1)) 182 n (nI (zpe T k.2.1))).2.1 182 n = nI (zpe T k.2.1) := by simp [zsi]
    have q4 : ∀ p, (zsi (zsi (zsi (zsi wA 178 0 s) 180 n (nI k.1)) 181 n (nI k.2.1)) 182 n (nI (zpe T k.2.1))).2.1 179 p = w.2.1 179 p := fun p => by
      rw [zsi_o (by decide), zsi_o (by decide), zsi_o (by decide), zsi_o (by decide)]
      exact a179 p
    have hmap : ((some k : Option zKy).map (fun k => (k.1, k.2.1))) = some (k.1, k.2.1) := rfl
    have hk0 : ¬ k.2.1 = 0 := by omega
    by_cases hlt : k.2.1 < T.1 7
    · have hq : zMw w (zsi (zsi (zsi (zsi (zsi wA 178 0 s) 180 n (nI k.1)) 181 n (nI k.2.1)) 182 n (nI (zpe T k.2.1))) 179 k.1 (nI (n + 1) + nI wo)) T wo n ot (zwn T ot n (w.2.1 178 0)) := by
        rw [hR]
        refine ⟨(fA.tr ((fs s).tr f3)).tr (zFM.i (Or.inr (by decide))), ?_, fun j hj => ?_, fun j hj => ?_, ?_, ?_, ?_, fun p hp => ?_⟩
        · rw [zsi_o (by decide)]; exact q0
        · rw [zsi_o (by decide)]; exact q1 j hj
        · rw [zsi_o (by decide), zsi_o (by decide), zsi_o (by decide)]; exact q2 j hj
        · rw [zsi_o (by decide)]; exact q3.1
        · rw [zsi_o (by decide)]; exact q3.2.1
        · rw [zsi_o (by decide)]
          refine q3.2.2.trans ?_
          simp only [hmap, zeh]
          rw [if_neg hk0]
        · simp only
          by_cases hpk : p = k.1
          · rw [if_pos ⟨hlt, hpk⟩, hpk, zsi_at, na_add]
            exact congrArg nI (by omega)
          · rw [if_neg (fun h => hpk h.2)]
            refine Eq.trans ?_ ((q4 p).trans (ho p hp).1)
            simp only [zsi]
            rw [if_neg (fun h => hpk h.2)]
      refine zJ_aload_n dX9_week0_70 rfl ?_
      refine zJ_getr (j := 180) dX9_week0_71 fX9_146 (by first | rfl | assumption | exact Ms9.at (by decide) (by decide)) rfl (by first | rfl | assumption | exact Ms9.rf (by decide) rfl) ?_
      refine zJ_iload_n dX9_week0_74 rfl ?_
      refine zJ_aload_n dX9_week0_75 rfl ?_
      refine zJ_getr (j := 139) dX9_week0_76 fX9_50 (by first | rfl | assumption | exact Ms9.at (by decide) (by decide)) rfl (by first | rfl | assumption | exact Ms9.rf (by decide) rfl) ?_
      refine zJ_iload_n dX9_week0_79 rfl ?_
      refine zJ_ialdN (i := x) (v := (nI k.1)) dX9_week0_80 (by first | rfl | assumption | exact Ms9.at (by decide) (by decide)) rfl (by omega) (by decide) y1 ?_
      refine zJ_iastN (i := n) dX9_week0_81 (by first | rfl | assumption | exact Ms9.at (by decide) (by decide)) rfl (by omega) (by decide) ?_
      refine zJ_aload_n dX9_week0_82 rfl ?_
      refine zJ_getr (j := 181) dX9_week0_83 fX9_149 (by first | rfl | assumption | exact Ms9.at (by decide) (by decide)) rfl (by first | rfl | assumption | exact Ms9.rf (by decide) rfl) ?_
      refine zJ_iload_n dX9_week0_86 rfl ?_
      refine zJ_aload_n dX9_week0_87 rfl ?_
      refine zJ_getr (j := 140) dX9_week0_88 fX9_53 (by first | rfl | assumption | exact Ms9.at (by decide) (by decide)) rfl (by first | rfl | assumption | exact Ms9.rf (by decide) rfl) ?_
      refine zJ_iload_n dX9_week0_91 rfl ?_
      refine zJ_ialdN (i := x) (v := (nI k.2.1)) dX9_week0_92 (by first | rfl | assumption | exact Ms9.at (by decide) (by decide)) rfl (by omega) (by decide) (by rw [zsi_o (by decide)]; exact y2) ?_
      refine zJ_iastN (i := n) dX9_week0_93 (by first | rfl | assumption | exact Ms9.at (by decide) (by decide)) rfl (by omega) (by decide) ?_
      refine zJ_aload_n dX9_week0_94 rfl ?_
      refine zJ_getr (j := 182) dX9_week0_95 fX9_152 (by first | rfl | assumption | exact Ms9.at (by decide) (by decide)) rfl (by first | rfl | assumption | exact Ms9.rf (by decide) rfl) ?_
      refine zJ_iload_n dX9_week0_98 rfl ?_
      refine zJ_aload_n dX9_week0_99 rfl ?_
      refine zJ_aload_n dX9_week0_100 rfl ?_
      refine zJ_getr (j := 140) dX9_week0_101 fX9_53 (by first | rfl | assumption | exact Ms9.at (by decide) (by decide)) rfl (by first | rfl | assumption | exact Ms9.rf (by decide) rfl) ?_
      refine zJ_iload_n dX9_week0_104 rfl ?_
      refine zJ_ialdN (i := x) (v := (nI k.2.1)) dX9_week0_105 (by first | rfl | assumption | exact Ms9.at (by decide) (by decide)) rfl (by omega) (by decide) (by rw [zsi_o (by decide), zsi_o (by decide)]; exact y2) ?_
      refine zJ_cV1 dX9_week0_106 sX9_367 mfX9_pence (c_Mo_pence Δ (zsi (zsi (zsi wA 178 0 s) 180 n (nI k.1)) 181 n (nI k.2.1)) T hA2 k.2.1 hk2.1) (by first | rfl | assumption | exact Ms9.at (by decide) (by decide)) rfl (Nat.le_of_ble_eq_true rfl) (by decide) (by decide) ?_
      refine zJ_iastN (i := n) dX9_week0_109 (by first | rfl | assumption | exact Ms9.at (by decide) (by decide)) rfl (by omega) (by decide) ?_
      refine zJ_aload_n dX9_week0_110 rfl ?_
      refine zJ_getr (j := 140) dX9_week0_111 fX9_53 (by first | rfl | assumption | exact Ms9.at (by decide) (by decide)) rfl (by first | rfl | assumption | exact Ms9.rf (by decide) rfl) ?_
      refine zJ_iload_n dX9_week0_114 rfl ?_
      refine zJ_ialdN (i := x) (v := (nI k.2.1)) dX9_week0_115 (by first | rfl | assumption | exact Ms9.at (by decide) (by decide)) rfl (by omega) (by decide) (by rw [zsi_o (by decide), zsi_o (by decide), zsi_o (by decide)]; exact y2) ?_
      refine zJ_aload_n dX9_week0_116 rfl ?_
      refine zJ_getiN dX9_week0_117 fX9_16 (by first | rfl | assumption | exact Ms9.at (by decide) (by decide)) rfl m5U ?_
      refine zJ_icmp_ge (tgt := 144) dX9_week0_120 (by decide) (fun h9 => absurd h9 (fun h => absurd ((nI_leI (by omega) (by omega)).mp h) (by omega))) (fun h120 => ?_)
      refine zJ_aload_n dX9_week0_123 rfl ?_
      refine zJ_getr (j := 179) dX9_week0_124 fX9_143 (by first | rfl | assumption | exact Ms9.at (by decide) (by decide)) rfl (by first | rfl | assumption | exact Ms9.rf (by decide) rfl) ?_
      refine zJ_aload_n dX9_week0_127 rfl ?_
      refine zJ_getr (j := 139) dX9_week0_128 fX9_50 (by first | rfl | assumption | exact Ms9.at (by decide) (by decide)) rfl (by first | rfl | assumption | exact Ms9.rf (by decide) rfl) ?_
      refine zJ_iload_n dX9_week0_131 rfl ?_
      refine zJ_ialdN (i := x) (v := (nI k.1)) dX9_week0_132 (by first | rfl | assumption | exact Ms9.at (by decide) (by decide)) rfl (by omega) (by decide) (by rw [zsi_o (by decide), zsi_o (by decide), zsi_o (by decide)]; exact y1) ?_
      refine zJ_iload_n dX9_week0_133 rfl ?_
      refine zJ_iconst (v := 1) dX9_week0_134 (by decide) ?_
      skip
      refine zJ_iadd dX9_week0_135 ?_
      rw [show nI n + 1 = nI (n + 1) from nI_1 _]
      refine zJ_aload_n dX9_week0_136 rfl ?_
      refine zJ_getr (j := 178) dX9_week0_137 fX9_140 (by first | rfl | assumption | exact Ms9.at (by decide) (by decide)) rfl (by first | rfl | assumption | exact Ms9.rf (by decide) rfl) ?_
      refine zJ_iconst (v := 1) dX9_week0_140 (by decide) ?_
      refine zJ_ialdN (i := 1) (v := (nI wo)) dX9_week0_141 (by first | rfl | assumption | exact Ms9.at (by decide) (by decide)) rfl (by omega) (by decide) hr1s ?_
      refine zJ_iadd dX9_week0_142 ?_
      refine zJ_iastN (i := k.1) dX9_week0_143 (by first | rfl | assumption | exact Ms9.at (by decide) (by decide)) rfl (by omega) (by decide) ?_
      exact zJ_vret dX9_week0_144 rfl (by decide) (by decide) (hQ _ _ ⟨rfl, hq⟩)
    · have hq : zMw w (zsi (zsi (zsi (zsi wA 178 0 s) 180 n (nI k.1)) 181 n (nI k.2.1)) 182 n (nI (zpe T k.2.1))) T wo n ot (zwn T ot n (w.2.1 178 0)) := by
        rw [hR]
        refine ⟨fA.tr ((fs s).tr f3), q0, q1, q2, q3.1, q3.2.1, ?_, fun p hp => ?_⟩
        · refine q3.2.2.trans ?_
          simp only [hmap, zeh]
          rw [if_neg hk0]
        · simp only
          rw [if_neg (fun h => hlt h.1)]
          exact (q4 p).trans (ho p hp).1
      refine zJ_aload_n dX9_week0_70 rfl ?_
      refine zJ_getr (j := 180) dX9_week0_71 fX9_146 (by first | rfl | assumption | exact Ms9.at (by decide) (by decide)) rfl (by first | rfl | assumption | exact Ms9.rf (by decide) rfl) ?_
      refine zJ_iload_n dX9_week0_74 rfl ?_
      refine zJ_aload_n dX9_week0_75 rfl ?_
      refine zJ_getr (j := 139) dX9_week0_76 fX9_50 (by first | rfl | assumption | exact Ms9.at (by decide) (by decide)) rfl (by first | rfl | assumption | exact Ms9.rf (by decide) rfl) ?_
      refine zJ_iload_n dX9_week0_79 rfl ?_
      refine zJ_ialdN (i := x) (v := (nI k.1)) dX9_week0_80 (by first | rfl | assumption | exact Ms9.at (by decide) (by decide)) rfl (by omega) (by decide) y1 ?_
      refine zJ_iastN (i := n) dX9_week0_81 (by first | rfl | assumption | exact Ms9.at (by decide) (by decide)) rfl (by omega) (by decide) ?_
      refine zJ_aload_n dX9_week0_82 rfl ?_
      refine zJ_getr (j := 181) dX9_week0_83 fX9_149 (by first | rfl | assumption | exact Ms9.at (by decide) (by decide)) rfl (by first | rfl | assumption | exact Ms9.rf (by decide) rfl) ?_
      refine zJ_iload_n dX9_week0_86 rfl ?_
      refine zJ_aload_n dX9_week0_87 rfl ?_
      refine zJ_getr (j := 140) dX9_week0_88 fX9_53 (by first | rfl | assumption | exact Ms9.at (by decide) (by decide)) rfl (by first | rfl | assumption | exact Ms9.rf (by decide) rfl) ?_
      refine zJ_iload_n dX9_week0_91 rfl ?_
      refine zJ_ialdN (i := x) (v := (nI k.2.1)) dX9_week0_92 (by first | rfl | assumption | exact Ms9.at (by decide) (by decide)) rfl (by omega) (by decide) (by rw [zsi_o (by decide)]; exact y2) ?_
      refine zJ_iastN (i := n) dX9_week0_93 (by first | rfl | assumption | exact Ms9.at (by decide) (by decide)) rfl (by omega) (by decide) ?_
      refine zJ_aload_n dX9_week0_94 rfl ?_
      refine zJ_getr (j := 182) dX9_week0_95 fX9_152 (by first | rfl | assumption | exact Ms9.at (by decide) (by decide)) rfl (by first | rfl | assumption | exact Ms9.rf (by decide) rfl) ?_
      refine zJ_iload_n dX9_week0_98 rfl ?_
      refine zJ_aload_n dX9_week0_99 rfl ?_
      refine zJ_aload_n dX9_week0_100 rfl ?_
      refine zJ_getr (j := 140) dX9_week0_101 fX9_53 (by first | rfl | assumption | exact Ms9.at (by decide) (by decide)) rfl (by first | rfl | assumption | exact Ms9.rf (by decide) rfl) ?_
      refine zJ_iload_n dX9_week0_104 rfl ?_
      refine zJ_ialdN (i := x) (v := (nI k.2.1)) dX9_week0_105 (by first | rfl | assumption | exact Ms9.at (by decide) (by decide)) rfl (by omega) (by decide) (by rw [zsi_o (by decide), zsi_o (by decide)]; exact y2) ?_
      refine zJ_cV1 dX9_week0_106 sX9_367 mfX9_pence (c_Mo_pence Δ (zsi (zsi (zsi wA 178 0 s) 180 n (nI k.1)) 181 n (nI k.2.1)) T hA2 k.2.1 hk2.1) (by first | rfl | assumption | exact Ms9.at (by decide) (by decide)) rfl (Nat.le_of_ble_eq_true rfl) (by decide) (by decide) ?_
      refine zJ_iastN (i := n) dX9_week0_109 (by first | rfl | assumption | exact Ms9.at (by decide) (by decide)) rfl (by omega) (by decide) ?_
      refine zJ_aload_n dX9_week0_110 rfl ?_
      refine zJ_getr (j := 140) dX9_week0_111 fX9_53 (by first | rfl | assumption | exact Ms9.at (by decide) (by decide)) rfl (by first | rfl | assumption | exact Ms9.rf (by decide) rfl) ?_
      refine zJ_iload_n dX9_week0_114 rfl ?_
      refine zJ_ialdN (i := x) (v := (nI k.2.1)) dX9_week0_115 (by first | rfl | assumption | exact Ms9.at (by decide) (by decide)) rfl (by omega) (by decide) (by rw [zsi_o (by decide), zsi_o (by decide), zsi_o (by decide)]; exact y2) ?_
      refine zJ_aload_n dX9_week0_116 rfl ?_
      refine zJ_getiN dX9_week0_117 fX9_16 (by first | rfl | assumption | exact Ms9.at (by decide) (by decide)) rfl m5U ?_
      refine zJ_icmp_ge (tgt := 144) dX9_week0_120 (by decide) (fun h120 => ?_) (fun h9 => absurd ((nI_leI (by omega) (by omega)).mpr (by omega)) h9)
      exact zJ_vret dX9_week0_144 rfl (by decide) (by decide) (hQ _ _ ⟨rfl, hq⟩)
  have L : ¬ n < ot (T.1 12) → ∀ (i x : Nat) (k : zKy) (s : Int32), K[x]? = some k → 12 ≤ i + k.2.1 → zwk T O i k s = zwk T O 11 (zfk T) (w.2.1 178 0) → zJ Δ mX9_week0 (zRm 3 0 0) true w.1 QR (fun _ _ => False) 0 0 43 [(3, .int (zoi (zgo T k O s).1)), (2, .int (nI x)), (0, .ref 100), (1, .int (nI n))] [] (zsi wA 178 0 (zgo T k O s).2) := by
    intro hno i
    induction i with
    | zero =>
      intro x k s hx h12 hz
      have hmb : zmb T k = 0 := Classical.byContradiction fun h => by
        obtain ⟨y, hy, hm⟩ := zmb_0 h
        have := (zmay_eq.mp hm).1
        omega
      have hg : zgo T k O s = (none, s) := by simp only [zgo, hmb, if_true]
      have Ms9 := Ms s
      rw [hg]
      refine zJ_iload_n dX9_week0_43 rfl ?_
      refine zJ_iconst (v := (-1)) dX9_week0_44 (by decide) ?_
      refine zJ_icmp_eq (tgt := 70) dX9_week0_45 (by decide) (fun h45 => ?_) (fun h9 => absurd rfl h9)
      exact E x k s _ hx hno hz.symm
    | succ i ih =>
      intro x k s hx h12 hz
      cases hg : (zgo T k O s).1 with
      | none =>
        have Ms9 := Ms (zgo T k O s).2
        have hz2 : zwk T O 11 (zfk T) (w.2.1 178 0) = (k, (zgo T k O s).2) := by
          rw [← hz]
          simp only [zwk, hg]
        refine zJ_iload_n dX9_week0_43 rfl ?_
        refine zJ_iconst (v := (-1)) dX9_week0_44 (by decide) ?_
        refine zJ_icmp_eq (tgt := 70) dX9_week0_45 (by decide) (fun _ => ?_) (fun h9 => False.elim (by revert h9; decide))
        exact E x k _ _ hx hno hz2
      | some y =>
        obtain ⟨hy, hmy⟩ := zgo_may hg
        have hz2 : zwk T O i (zbk T k y) (zgo T k O s).2 = zwk T O 11 (zfk T) (w.2.1 178 0) := by
          rw [← hz]
          simp only [zwk, hg]
        have hxK : x < K.length := (List.getElem?_eq_some_iff.mp hx).1
        have hKR := hN.2.2.1
        generalize (zgo T k O s).2 = s1 at hz2
        have Ms9 := Ms s1
        obtain ⟨c9, hc1, hc2, hc3, hc4, hc5⟩ := (hKs s1).c hx hy hmy
        have h13 : 12 ≤ i + (zbk T k y).2.1 := by simp only [zbk]; omega
        have hnx := ih c9 (zbk T k y) s1 hc1 h13 hz2
        refine zJ_iload_n dX9_week0_43 rfl ?_
        refine zJ_iconst (v := (-1)) dX9_week0_44 (by decide) ?_
        refine zJ_icmp_eq (tgt := 70) dX9_week0_45 (by decide) (fun h9 => absurd h9 (nI_m1 (show y < 2 ^ 31 by omega))) (fun h45 => ?_)
        refine zJ_aload_n dX9_week0_48 rfl ?_
        refine zJ_getr (j := 143) dX9_week0_49 fX9_63 (by first | rfl | assumption | exact Ms9.at (by decide) (by decide)) rfl (by first | rfl | assumption | exact Ms9.rf (by decide) rfl) ?_
        refine zJ_bipush (v := 8) dX9_week0_52 (by decide) ?_
        refine zJ_iload_n dX9_week0_54 rfl ?_
        refine zJ_imul dX9_week0_55 ?_
        refine zJ_iload_n dX9_week0_56 rfl ?_
        refine zJ_iadd dX9_week0_57 ?_
        refine zJ_ialdN (i := (x * 8 + y)) (v := (nI c9)) dX9_week0_58 (by first | rfl | assumption | exact Ms9.at (by decide) (by decide)) (na_8 _ _) (by omega) (by decide) hc2 ?_
        refine zJ_istore_n (ls2 := fun x59 => [(2, .int x59), (3, .int (zoi (some y))), (0, .ref 100), (1, .int (nI n))]) dX9_week0_59 (by decide) (fun _ => rfl) (fun x59 ex59 => ?_)
        obtain rfl : x59 = (nI c9) := ex59
        refine zJ_aload_n dX9_week0_60 rfl ?_
        refine zJ_iload_n dX9_week0_61 rfl ?_
        refine zJ_iload_n dX9_week0_62 rfl ?_
        refine zJ_cV2 dX9_week0_63 sX9_474 mfX9_goesTo (c_Mo_goesTo Δ (zsi wA 178 0 s1) T K (hKs s1) hT0 c9 (zbk T k y) hc1 ot (hos s1) n (by omega) O hO (hBs s1)) (by first | rfl | assumption | exact Ms9.at (by decide) (by decide)) rfl (Nat.le_of_ble_eq_true rfl) (by decide) (by decide) ?_
        rw [zsi_at, zsi_si]
        refine zJ_istore_n (ls2 := fun x66 => [(3, .int x66), (2, .int (nI c9)), (0, .ref 100), (1, .int (nI n))]) dX9_week0_66 (by decide) (fun _ => rfl) (fun x66 ex66 => ?_)
        refine zJ_goto (tgt := 43) dX9_week0_67 (by decide) ?_
        refine zJ_ls [(3, .int x66), (2, .int (nI c9)), (0, .ref 100), (1, .int (nI n))] (by simp) ?_
        rw [ex66]
        exact hnx
  by_cases hno : n < ot (T.1 12)
  · have hq : zMw w wA T wo n ot (zwn T ot n (w.2.1 178 0)) := by
      rw [hRn hno]
      refine ⟨fA, a178 0, fun j _ => a178 j, aA, aB.1, aB.2.1, aB.2.2, fun p hp => (a179 p).trans (ho p hp).1⟩
    refine zJ_aload_n dX9_week0_0 rfl ?_
    refine zJ_getr (j := 180) dX9_week0_1 fX9_146 (by first | rfl | assumption | exact hM.at (by decide) (by decide)) rfl (by first | rfl | assumption | exact hM.rf (by decide) rfl) ?_
    refine zJ_iload_n dX9_week0_4 rfl ?_
    refine zJ_iconst (v := (-1)) dX9_week0_5 (by decide) ?_
    refine zJ_iastN (i := n) dX9_week0_6 (by first | rfl | assumption | exact hM.at (by decide) (by decide)) rfl (by omega) (by decide) ?_
    refine zJ_aload_n dX9_week0_7 rfl ?_
    refine zJ_getr (j := 181) dX9_week0_8 fX9_149 (by first | rfl | assumption | exact hM.at (by decide) (by decide)) rfl (by first | rfl | assumption | exact hM.rf (by decide) rfl) ?_
    refine zJ_iload_n dX9_week0_11 rfl ?_
    refine zJ_iconst (v := 0) dX9_week0_12 (by decide) ?_
    refine zJ_iastN (i := n) dX9_week0_13 (by first | rfl | assumption | exact hM.at (by decide) (by decide)) rfl (by omega) (by decide) ?_
    refine zJ_aload_n dX9_week0_14 rfl ?_
    refine zJ_getr (j := 182) dX9_week0_15 fX9_152 (by first | rfl | assumption | exact hM.at (by decide) (by decide)) rfl (by first | rfl | assumption | exact hM.rf (by decide) rfl) ?_
    refine zJ_iload_n dX9_week0_18 rfl ?_
    refine zJ_iconst (v := 0) dX9_week0_19 (by decide) ?_
    refine zJ_iastN (i := n) dX9_week0_20 (by first | rfl | assumption | exact hM.at (by decide) (by decide)) rfl (by omega) (by decide) ?_
    refine zJ_w hA9 ?_
    refine zJ_aload_n dX9_week0_21 rfl ?_
    refine zJ_aload_n dX9_week0_22 rfl ?_
    refine zJ_getiN dX9_week0_23 fX9_301 (by first | rfl | assumption | exact MA9.at (by decide) (by decide)) rfl h2A ?_
    refine zJ_iload_n dX9_week0_26 rfl ?_
    refine zJ_cV2 dX9_week0_27 sX9_471 mfX9_isOut (c_Mo_isOut Δ wA MA9 ot hoA (T.1 12) n (by omega) (by omega)) (by first | rfl | assumption | exact MA9.at (by decide) (by decide)) rfl (Nat.le_of_ble_eq_true rfl) (by decide) (by decide) ?_
    rw [if_pos hno]
    refine zJ_if_eq (tgt := 34) dX9_week0_30 (by decide) (fun h9 => False.elim (by revert h9; decide)) (fun _ => ?_)
    exact zJ_vret dX9_week0_33 rfl (by decide) (by decide) (hQ _ _ ⟨rfl, hq⟩)
  · have h9 := L hno 11 0 (zfk T) (w.2.1 178 0) (zall_0 hall) (by simp only [zfk]; omega) rfl
    refine zJ_aload_n dX9_week0_0 rfl ?_
    refine zJ_getr (j := 180) dX9_week0_1 fX9_146 (by first | rfl | assumption | exact hM.at (by decide) (by decide)) rfl (by first | rfl | assumption | exact hM.rf (by decide) rfl) ?_
    refine zJ_iload_n dX9_week0_4 rfl ?_
    refine zJ_iconst (v := (-1)) dX9_week0_5 (by decide) ?_
    refine zJ_iastN (i := n) dX9_week0_6 (by first | rfl | assumption | exact hM.at (by decide) (by decide)) rfl (by omega) (by decide) ?_
    refine zJ_aload_n dX9_week0_7 rfl ?_
    refine zJ_getr (j := 181) dX9_week0_8 fX9_149 (by first | rfl | assumption | exact hM.at (by decide) (by decide)) rfl (by first | rfl | assumption | exact hM.rf (by decide) rfl) ?_
    refine zJ_iload_n dX9_week0_11 rfl ?_
    refine zJ_iconst (v := 0) dX9_week0_12 (by decide) ?_
    refine zJ_iastN (i := n) dX9_week0_13 (by first | rfl | assumption | exact hM.at (by decide) (by decide)) rfl (by omega) (by decide) ?_
    refine zJ_aload_n dX9_week0_14 rfl ?_
    refine zJ_getr (j := 182) dX9_week0_15 fX9_152 (by first | rfl | assumption | exact hM.at (by decide) (by decide)) rfl (by first | rfl | assumption | exact hM.rf (by decide) rfl) ?_
    refine zJ_iload_n dX9_week0_18 rfl ?_
    refine zJ_iconst (v := 0) dX9_week0_19 (by decide) ?_
    refine zJ_iastN (i := n) dX9_week0_20 (by first | rfl | assumption | exact hM.at (by decide) (by decide)) rfl (by omega) (by decide) ?_
    refine zJ_w hA9 ?_
    refine zJ_aload_n dX9_week0_21 rfl ?_
    refine zJ_aload_n dX9_week0_22 rfl ?_
    refine zJ_getiN dX9_week0_23 fX9_301 (by first | rfl | assumption | exact MA9.at (by decide) (by decide)) rfl h2A ?_
    refine zJ_iload_n dX9_week0_26 rfl ?_
    refine zJ_cV2 dX9_week0_27 sX9_471 mfX9_isOut (c_Mo_isOut Δ wA MA9 ot hoA (T.1 12) n (by omega) (by omega)) (by first | rfl | assumption | exact MA9.at (by decide) (by decide)) rfl (Nat.le_of_ble_eq_true rfl) (by decide) (by decide) ?_
    rw [if_neg hno]
    refine zJ_if_eq (tgt := 34) dX9_week0_30 (by decide) (fun _ => ?_) (fun h9 => False.elim (by revert h9; decide))
    refine zJ_iconst (v := 0) dX9_week0_34 (by decide) ?_
    refine zJ_istore_n (ls2 := fun x35k => [(2, .int x35k), (0, .ref 100), (1, .int (nI n))]) dX9_week0_35 (by decide) (fun _ => rfl) (fun x35k ex35k => ?_)
    obtain rfl : x35k = (nI 0) := ex35k
    refine zJ_aload_n dX9_week0_36 rfl ?_
    refine zJ_iload_n dX9_week0_37 rfl ?_
    refine zJ_iload_n dX9_week0_38 rfl ?_
    refine zJ_cV2 dX9_week0_39 sX9_474 mfX9_goesTo (c_Mo_goesTo Δ wA T K hKA hT0 0 (zfk T) (zall_0 hall) ot hoA n (by omega) O hO hBA) (by first | rfl | assumption | exact MA9.at (by decide) (by decide)) rfl (Nat.le_of_ble_eq_true rfl) (by decide) (by decide) ?_
    rw [a178 0]
    refine zJ_istore_n (ls2 := fun x42k => [(3, .int x42k), (2, .int (nI 0)), (0, .ref 100), (1, .int (nI n))]) dX9_week0_42 (by decide) (fun _ => rfl) (fun x42k ex42k => ?_)
    refine zJ_ls [(3, .int x42k), (2, .int (nI 0)), (0, .ref 100), (1, .int (nI n))] (by simp) ?_
    rw [ex42k]
    exact h9
