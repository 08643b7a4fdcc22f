/-! the law: its loop, its beginning -/
theorem zlt6 {L i : Nat} (hL : L ≤ 3072) (hi : i ≤ 512) : nI L - 6 < nI (6 * i) ↔ L < 6 * i + 6 := by
  by_cases h : 6 ≤ L
  · rw [show nI L - 6 = nI (L - 6) from na_sub (b := 6) h, nI_ltI (by omega) (by omega)]
    omega
  · have h1 : nI L - 6 < 0 := by
      rcases (show L = 0 ∨ L = 1 ∨ L = 2 ∨ L = 3 ∨ L = 4 ∨ L = 5 by omega) with rfl | rfl | rfl | rfl | rfl | rfl <;> decide
    exact ⟨fun _ => by omega, fun _ => Int32.lt_of_lt_of_le h1 (nI_pos' (by omega))⟩
set_option maxRecDepth 100000 in
theorem zW_loop {Δ : zD} {sh0 : zSh} (hL : zscn Δ ≤ 3072) : ∀ (f i k n : Nat) (w : zW) (U : zTo), 512 ≤ f + i → i ≤ 512 → zKC w U → zRb w k n i → zJ Δ mL_law room_1 false sh0 zQL zQX k n 23 (zL4 i) [] w := by
  intro f
  induction f with
  | zero =>
    intro i k n w U h1 h2 hC hk
    refine zJ_iload dL_law_23 rfl ?_
    refine zJ_aload_n dL_law_25 rfl ?_
    refine zJ_scl dL_law_26 ?_
    refine zJ_bipush (v := 6) dL_law_27 (by decide) ?_
    refine zJ_isub dL_law_29 ?_
    refine zJ_icmp_gt (tgt := 1926) dL_law_30 (by decide) (fun h => ?_) (fun h => ?_)
    · refine zJ_iconst (v := 1) dL_law_1926 (by decide) ?_
      exact zJ_zret dL_law_1927 rfl (by decide) (by have := hk.1; show k ≤ 601024; omega) (by have := hk.2.1; show n ≤ 7293034; omega) rfl
    · exact (h ((zlt6 hL h2).mpr (by omega))).elim
  | succ f ih =>
    intro i k n w U h1 h2 hC hk
    refine zJ_iload dL_law_23 rfl ?_
    refine zJ_aload_n dL_law_25 rfl ?_
    refine zJ_scl dL_law_26 ?_
    refine zJ_bipush (v := 6) dL_law_27 (by decide) ?_
    refine zJ_isub dL_law_29 ?_
    refine zJ_icmp_gt (tgt := 1926) dL_law_30 (by decide) (fun h => ?_) (fun h => ?_)
    · refine zJ_iconst (v := 1) dL_law_1926 (by decide) ?_
      exact zJ_zret dL_law_1927 rfl (by decide) (by have := hk.1; show k ≤ 601024; omega) (by have := hk.2.1; show n ≤ 7293034; omega) rfl
    have hi : 6 * i + 6 ≤ zscn Δ := Nat.le_of_not_lt fun h9 => h ((zlt6 hL h2).mpr h9)
    have hN : zNext Δ sh0 i := fun c U2 k2 n2 hC2 hR2 => by
      refine zJ_iinc (ls2 := fun y => [(4, .int y), (3, .ref 190), (2, .ref 100), (1, .ref 0), (0, .ref (1000 + 3000))]) dL_law_1920 rfl (by decide) (fun _ => rfl) (fun y ey => ?_)
      have e : y = nI (6 * (i + 1)) := by
        rw [ey, show nI (6 * i) + Int32.ofInt 6 = nI (6 * i + 6) from na_add (6 * i) 6]
        rfl
      subst e
      refine zJ_goto (tgt := 23) dL_law_1923 (by decide) ?_
      exact ih (i + 1) k2 n2 c U2 (by omega) (by omega) hC2 hR2
    refine zJ_aload_n dL_law_33 rfl ?_
    refine zJ_iload dL_law_34 rfl ?_
    refine zJ_scd (vp_in_nI (by omega) (by omega)) dL_law_36 ?_
    refine zJ_bipush (v := 31) dL_law_37 (by decide) ?_
    refine zJ_iand dL_law_39 ?_
    rw [show zscv Δ (nI (6 * i)).toNatClampNeg &&& 31 = nI (zn32 (zscv Δ (nI (6 * i)).toNatClampNeg) % 2 ^ 5) from na_mask _ 5]
    have ha : zn32 (zscv Δ (nI (6 * i)).toNatClampNeg) % 2 ^ 5 < 32 := Nat.mod_lt _ (by decide)
    generalize zn32 (zscv Δ (nI (6 * i)).toNatClampNeg) % 2 ^ 5 = a at ha ⊢
    match a, ha with
    | 0, _ => exact zJ_tabN (a := 0) dL_law_40 (by decide) (by decide) rfl (by decide) (zW_feed hL hi hC hk hN)
    | 1, _ => exact zJ_tabN (a := 1) dL_law_40 (by decide) (by decide) rfl (by decide) (zW_town hL hi hC hk hN)
    | 2, _ => exact zJ_tabN (a := 2) dL_law_40 (by decide) (by decide) rfl (by decide) (zW_fault hL hi hC hk hN)
    | 3, _ => exact zJ_tabN (a := 3) dL_law_40 (by decide) (by decide) rfl (by decide) (zW_count hL hi hC hk hN)
    | 4, _ => exact zJ_tabN (a := 4) dL_law_40 (by decide) (by decide) rfl (by decide) (zW_person hL hi hC hk hN)
    | 5, _ => exact zJ_tabN (a := 5) dL_law_40 (by decide) (by decide) rfl (by decide) (zW_weight hL hi hC hk hN)
    | 6, _ => exact zJ_tabN (a := 6) dL_law_40 (by decide) (by decide) rfl (by decide) (zW_opened hL hi hC hk hN)
    | 7, _ => exact zJ_tabN (a := 7) dL_law_40 (by decide) (by decide) rfl (by decide) (zW_goes hL hi hC hk hN)
    | 8, _ => exact zJ_tabN (a := 8) dL_law_40 (by decide) (by decide) rfl (by decide) (zW_gets hL hi hC hk hN)
    | 9, _ => exact zJ_tabN (a := 9) dL_law_40 (by decide) (by decide) rfl (by decide) (zW_all hL hi hC hk hN)
    | 10, _ => exact zJ_tabN (a := 10) dL_law_40 (by decide) (by decide) rfl (by decide) (zW_least hL hi hC hk hN)
    | 11, _ => exact zJ_tabN (a := 11) dL_law_40 (by decide) (by decide) rfl (by decide) (zW_one hL hi hC hk hN)
    | 12, _ => exact zJ_tabN (a := 12) dL_law_40 (by decide) (by decide) rfl (by decide) (zW_named hL hi hC hk hN)
    | 13, _ => exact zJ_tabN (a := 13) dL_law_40 (by decide) (by decide) rfl (by decide) (zW_hand hL hi hC hk hN)
    | 14, _ => exact zJ_tabN (a := 14) dL_law_40 (by decide) (by decide) rfl (by decide) (zW_judge hL hi hC hk hN)
    | 15, _ => exact zJ_tabN (a := 15) dL_law_40 (by decide) (by decide) rfl (by decide) (zW_odds hL hi hC hk hN)
    | 16, _ => exact zJ_tabN (a := 16) dL_law_40 (by decide) (by decide) rfl (by decide) (zW_ended hL hi hC hk hN)
    | 17, _ => exact zJ_tabN (a := 17) dL_law_40 (by decide) (by decide) rfl (by decide) (zW_guess hL hi hC hk hN)
    | 18, _ => exact zJ_tabN (a := 18) dL_law_40 (by decide) (by decide) rfl (by decide) (zW_credit hL hi hC hk hN)
    | 19, _ => exact zJ_tabN (a := 19) dL_law_40 (by decide) (by decide) rfl (by decide) (zW_chain hL hi hC hk hN)
    | 20, _ => exact zJ_tabN (a := 20) dL_law_40 (by decide) (by decide) rfl (by decide) (zW_chained hL hi hC hk hN)
    | 21, _ => exact zJ_tabN (a := 21) dL_law_40 (by decide) (by decide) rfl (by decide) (zW_two hL hi hC hk hN)
    | 22, _ => exact zJ_tabN (a := 22) dL_law_40 (by decide) (by decide) rfl (by decide) (zW_feeling hL hi hC hk hN)
    | 23, _ => exact zJ_tabN (a := 23) dL_law_40 (by decide) (by decide) rfl (by decide) (zW_theft hL hi hC hk hN)
    | 24, _ => exact zJ_tabN (a := 24) dL_law_40 (by decide) (by decide) rfl (by decide) (zW_thieves hL hi hC hk hN)
    | 25, _ => exact zJ_tabN (a := 25) dL_law_40 (by decide) (by decide) rfl (by decide) (zW_luck hL hi hC hk hN)
    | 26, _ => exact zJ_tabN (a := 26) dL_law_40 (by decide) (by decide) rfl (by decide) (zW_begin hL hi hC hk hN)
    | 27, _ => exact zJ_tabN (a := 27) dL_law_40 (by decide) (by decide) rfl (by decide) (zW_on hL hi hC hk hN)
    | 28, _ => exact zJ_tabN (a := 28) dL_law_40 (by decide) (by decide) rfl (by decide) (zW_week hL hi hC hk hN)
    | 29, _ => exact zJ_tabN (a := 29) dL_law_40 (by decide) (by decide) rfl (by decide) (zW_image hL hi hC hk hN)
    | 30, _ => exact zJ_tabN (a := 30) dL_law_40 (by decide) (by decide) rfl (by decide) (zW_restore hL hi hC hk hN)
    | 31, _ => exact zJ_tableOut (tgt := 1920) dL_law_40 (by decide) (by decide) (hN w U k n hC hk.nx)
    | a + 32, h => exact absurd h (by omega)
/-- nothing is made yet -/
def zw0 : zW := (fun _ => none, fun _ _ => 0, fun _ _ => 0, fun _ _ => none)
theorem zKC_0 {c1 c3 c4 : zW} (hF1 : zFo (znew zw0 0 (.inl 8)) c1 0 60) (h1 : zC0 c1) (hF3 : zFo (znew c1 100 (.inl 9)) c3 100 187) (h3 : zM0 c3) (h4 : c4 = znew c3 190 (.inr (true, 1))) : zKC c4 zT0 := by
  have E : ∀ a, a < 100 → zEq c1 c4 a := fun a ha => by
    rw [h4]
    exact ((zEq_new a (by omega)).tr (hF3 a (Or.inl ha))).tr (zEq_new a (by omega))
  have E3 : ∀ a, a < 188 → zEq c3 c4 a := fun a ha => by rw [h4]; exact zEq_new a (by omega)
  have N : ∀ a, 60 < a → a < 100 → c4.1 a = none := fun a x y => by
    rw [(E a y).1, (hF1 a (Or.inr x)).1]
    simp only [znew, zw0]
    rw [if_neg (by omega)]
  obtain ⟨a1, a2, a3, a4, a5, a6, a7, a8, a9, a10, a11, a12, a13, a14, a15, a16, a17, a18, a19, a20⟩ := h1
  obtain ⟨b1, b2, b3, b4, b5⟩ := h3
  have i1 : ∀ a j, a < 100 → c4.2.1 a j = c1.2.1 a j := fun a j h => (E a h).2.1 j
  have i3 : ∀ a j, a < 188 → c4.2.1 a j = c3.2.1 a j := fun a j h => (E3 a h).2.1 j
  have m0 : ∀ j, c4.2.1 100 j = if j = 3 ∨ j = 4 ∨ j = 9 then 1 else if j = 5 then 8 else if j = 16 then -1 else 0 := fun j => (i3 100 j (by decide)).trans (b2 j)
  have rw0 : ∀ k, 0 < k → k ≤ 87 → (zSM k).isSome = true → k ≠ 62 → ∀ j, c4.2.1 (100 + k) j = 0 := fun k h h2 h3 h4 j => (i3 _ j (by omega)).trans ((b4 k h h2 h3).1 h4 j)
  have hcs : zCs c4 := by
    refine ⟨fun i hi => ((E i (by omega)).1).trans (a1.1 i hi), fun i k hs => ?_⟩
    have hi : i < 61 := Nat.lt_of_not_le fun hi => by
      have : zRC i k = none := by
        simp only [zRC]
        rw [List.getElem?_eq_none (l := zRCl) (show zRCl.length ≤ i from Nat.le_trans (by decide) hi)]
        simp
      rw [this] at hs; cases hs
    exact ((E i (by omega)).2.2.2 k).trans (a1.2 i k hs)
  have hpi : zPI c4 19 640 10 zT0 := (zPI_new a8 a9 a10 a11).out2 (fun a x y => E a (by omega))
  have hmu : zMu c4 zT0 := by
    refine ⟨⟨fun i hi => ((E3 _ (by omega)).1).trans (b1.1 i hi), fun k hk hz => ((E3 100 (by decide)).2.2.2 k).trans (b1.2 k hk hz)⟩, ?_, ?_, ?_, ?_, ?_, ?_, ?_, ?_, ?_, fun p hp => absurd hp (by simp [zT0]), fun p hp => absurd hp (by simp [zT0]), fun p q hp => absurd hp (by simp [zT0])⟩ <;> rw [m0] <;> decide
  have hs0 : ∀ a, 60 < a → ¬ (100 ≤ a ∧ a ≤ 187) → ¬ a = 190 → c4.1 a = none := fun a x y z => by
    rw [h4]
    simp only [znew]
    rw [if_neg z, (hF3 a (by omega)).1]
    simp only [znew]
    rw [if_neg (by omega), (hF1 a (Or.inr x)).1]
    simp only [znew, zw0]
    rw [if_neg (by omega)]
  have q5 : zc5 c4 zT0 := by
    refine ⟨0, fun _ => none, by decide, (i1 42 2 (by decide)).trans a14, ?_, ?_, ?_, ?_, fun h => (h rfl).elim⟩
    · intro g p q h1 h2 hq
      cases hq
    · intro i hi
      show c4.2.1 43 i = -1
      rw [i1 43 i (by decide)]
      exact a13 i hi
    · intro i hi
      show c4.2.1 162 i = -1
      rw [i3 162 i (by decide)]
      exact b5 i hi
    · intro g hg
      constructor
      · intro h
        rw [Nat.zero_div] at h
        exact absurd h (by decide)
      · intro h
        obtain ⟨p, p1, p2⟩ := (zits_iff 8).mp h
        refine (p2 ?_).elim
        rw [i3 162 _ (by decide)]
        exact b5 _ (by omega)
  refine ⟨⟨hcs, a6.eq (a7.1 |> fun _ => a6.1.eq (fun a x y => E a (by omega))) (fun a j ha => i1 _ _ (by omega)), ⟨zPk_0.1, zPk_0.2.1, rfl⟩, hpi, Or.inl ⟨((E 0 (by decide)).2.2.2 8).trans a20, fun a x y => N a (by omega) (by omega)⟩⟩, hmu, fun p hp => by simp [zT0] at hp, ⟨by rw [h4]; simp [znew], hs0 191 (by decide) (by decide) (by decide)⟩, ⟨0, fun _ => 0, by decide, (i1 0 1 (by decide)).trans a3, by rw [m0]; decide, fun j hj => ⟨(i1 1 j (by decide)).trans (a2 j), rw0 13 (by decide) (by decide) (by decide) (by decide) j, Nat.zero_lt_succ 255⟩⟩, ⟨by rw [i1 0 2 (by decide), a4, m0]; decide, funext fun j => by rw [i1 2 j (by decide), a5 j]; exact (rw0 17 (by decide) (by decide) (by decide) (by decide) j).symm⟩, ⟨0, fun _ => 0, by decide, (i1 38 1 (by decide)).trans (a12 1), by rw [m0]; decide, fun j hj => absurd hj (by omega), fun _ => Nat.zero_lt_succ 7⟩, ⟨0, fun _ _ => 0, fun _ => 0, by decide, (i1 38 4 (by decide)).trans (a12 4), by rw [m0]; decide, fun j hj => absurd hj (by omega), fun r j hr => absurd hr (by omega), fun _ _ => Nat.zero_lt_succ 7⟩, q5, ⟨0, fun _ => 0, fun _ => 0, by decide, (i1 47 2 (by decide)).trans a15, by rw [m0]; decide, fun j hj => absurd hj (by omega), fun j hj => absurd hj (by omega)⟩, ⟨0, 0, by decide, by decide, ((E 0 (by decide)).2.2.1 14).trans a18, (i1 0 15 (by decide)).trans a19, by rw [m0]; decide, fun j hj => absurd hj (by omega)⟩, Or.inr ⟨(i1 53 0 (by decide)).trans (a16 0), (i1 53 3 (by decide)).trans (a16 3), by rw [m0]; decide⟩, Or.inr ⟨(i1 57 0 (by decide)).trans (a17 0), (i1 57 3 (by decide)).trans (a17 3), by rw [m0]; decide⟩⟩
set_option maxRecDepth 100000 in
theorem zW_law {Δ : zD} (hL : zscn Δ ≤ 3072) : zJ Δ mL_law room_1 false (fun _ => none) zQL zQX 0 0 0 [(0, .ref (1000 + 3000))] [] zw0 := by
  refine zJ_new (ci := 8) 0 dL_law_0 rfl (List.mem_of_getElem? (i := 165) rfl) (List.mem_of_getElem? (i := 166) rfl) (List.mem_of_getElem? (i := 142) rfl) rfl rfl (by decide) (by simp [znr]) rfl (by decide) (by decide) ?_
  refine zJ_dup dL_law_3 rfl ?_
  refine zJ_callI (As := []) (st := [.ref 0]) dL_law_4 sL_97 mfX8_init rfl (c_LetterTown_init Δ (znew zw0 0 (.inl 8)) (by simp [znew]) (fun j => by simp [znew]) (fun j => by simp [znew]) (fun j => by simp [znew]) (fun a x y => by simp only [znew, zw0]; rw [if_neg (by omega)])) (fun _ _ h => h) rfl (Or.inr ⟨rfl, by simp [zokv, znew], by simp [zokv]⟩) (Nat.le_of_ble_eq_true rfl) (by decide) (by decide) (fun r c1 hP => ?_)
  obtain ⟨rfl, hF1, h1⟩ := hP
  refine zJ_astore_n (ls2 := fun q9 => [(1, .ref q9), (0, .ref (1000 + 3000))]) dL_law_7 (by decide) (fun _ => rfl) (fun q9 eq9 => ?_)
  obtain rfl := eq9.symm
  have n1 : ∀ a, 60 < a → c1.1 a = none := fun a x => by
    rw [(hF1 a (Or.inr x)).1]
    simp only [znew, zw0]
    rw [if_neg (by omega)]
  have s1 : c1.1 0 = some (.inl 8) := h1.1.1 0 (by decide)
  refine zJ_new (ci := 9) 100 dL_law_8 rfl (List.mem_of_getElem? (i := 1424) rfl) (List.mem_of_getElem? (i := 1425) rfl) (List.mem_of_getElem? (i := 152) rfl) rfl (n1 100 (by decide)) (by decide) (by simp [znr]) rfl (by decide) (by decide) ?_
  refine zJ_dup dL_law_11 rfl ?_
  refine zJ_callI (As := []) (st := [.ref 100]) dL_law_12 sL_100 mfX9_init rfl (c_Model_init Δ (znew c1 100 (.inl 9)) (by simp [znew]) (fun j => by simp [znew]) (fun j => by simp [znew]) (fun a x y => by simp only [znew]; rw [if_neg (by omega)]; exact n1 a (by omega))) (fun _ _ h => h) rfl (Or.inr ⟨rfl, by simp [zokv, znew], by simp [zokv, znew, s1]⟩) (Nat.le_of_ble_eq_true rfl) (by decide) (by decide) (fun r c3 hP => ?_)
  obtain ⟨rfl, hF3, h3⟩ := hP
  refine zJ_astore_n (ls2 := fun q9 => [(2, .ref q9), (1, .ref 0), (0, .ref (1000 + 3000))]) dL_law_15 (by decide) (fun _ => rfl) (fun q9 eq9 => ?_)
  obtain rfl := eq9.symm
  refine zJ_iconst (v := 1) dL_law_16 (by decide) ?_
  refine zJ_newl (len := 1) 190 dL_law_17 (by decide) (by decide) (by decide) rfl ?_ (by decide) (by simp [znr]) rfl (by decide) (by decide) ?_
  · rw [(hF3 190 (by decide)).1]
    simp only [znew]
    rw [if_neg (by decide)]
    exact n1 190 (by decide)
  refine zJ_astore_n (ls2 := fun q9 => [(3, .ref q9), (2, .ref 100), (1, .ref 0), (0, .ref (1000 + 3000))]) dL_law_19 (by decide) (fun _ => rfl) (fun q9 eq9 => ?_)
  obtain rfl := eq9.symm
  refine zJ_iconst (v := 0) dL_law_20 (by decide) ?_
  refine zJ_istore (ls2 := fun y => [(4, .int y), (3, .ref 190), (2, .ref 100), (1, .ref 0), (0, .ref (1000 + 3000))]) dL_law_21 (by decide) (fun _ => rfl) (fun y ey => ?_)
  obtain rfl : y = nI (6 * 0) := ey.trans nI_0.symm
  exact zW_loop hL 512 0 _ _ _ zT0 (by decide) (by decide) (zKC_0 hF1 h1 hF3 h3 rfl) ⟨by decide, by decide, fun _ => ⟨by decide, by decide⟩⟩
