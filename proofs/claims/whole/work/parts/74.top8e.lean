/-- weeks: the seed, till when each is out, who opened it and at which hand -/
abbrev zRs : Type := Int32 × (Nat → Nat) × (Nat → Option (Nat × Nat))
def zr1 (T : zTo) (wo n : Nat) (S : zRs) : zRs := ((zwn T S.2.1 n S.1).2, fun p => (match (zwn T S.2.1 n S.1).1 with | none => S.2.1 p | some k => if k.2.1 < T.1 7 ∧ p = k.1 then n + wo + 1 else S.2.1 p), fun i => if i = n then (zwn T S.2.1 n S.1).1.map (fun k => (k.1, k.2.1)) else S.2.2 i)
def zrx (T : zTo) (wo n : Nat) (S : zRs) : Nat → zRs
  | 0 => S
  | m + 1 => zr1 T wo (n + m) (zrx T wo n S m)
def zeb (e : Option (Nat × Nat)) : Int32 := match e with | none => -1 | some q => nI q.1
def zeh (e : Option (Nat × Nat)) : Nat := match e with | none => 0 | some q => q.2
/-- the Weeks at i stand so -/
def zWr (w : zW) (i wo n : Nat) (S : zRs) : Prop := w.2.1 i 0 = 1 ∧ w.2.1 i 1 = S.1 ∧ w.2.1 i 2 = nI wo ∧ wo ≤ 20 ∧ w.2.1 i 3 = nI n ∧ n ≤ 100 ∧ (∀ j, j < n → w.2.1 (i + 1) j = zeb (S.2.2 j) ∧ w.2.1 (i + 2) j = nI (zeh (S.2.2 j)) ∧ zeh (S.2.2 j) ≤ 12) ∧ ∀ p, p < 8 → w.2.1 (i + 3) p = nI (S.2.1 p) - 1 ∧ S.2.1 p ≤ 200
def zFw (w c : zW) (i : Nat) : Prop := c.1 = w.1 ∧ c.2.2 = w.2.2 ∧ ∀ a j, (a < i ∨ i + 3 < a) → c.2.1 a j = w.2.1 a j
theorem zgo_may {T : zTo} {k : zKy} {out : Nat → Bool} {s : Int32} {y : Nat} (h : (zgo T k out s).1 = some y) : y < 8 ∧ zmay T k y = true := by
  have hp : ∀ s, (zgp T k out s).1 = some y → y < 8 ∧ zmay T k y = true := by
    intro s h
    simp only [zgp] at h
    split at h
    · cases h
    · have h1 := zpk_some h
      refine ⟨h1.1, ?_⟩
      have h2 := h1.2
      simp only [zgU] at h2
      split at h2
      · rename_i h3
        exact (Bool.and_eq_true _ _ ▸ h3 : zmay T k y = true ∧ _).1
      · omega
  have ht : ∀ s, (zgt T k out s).1 = some y → y < 8 ∧ zmay T k y = true := by
    intro s h
    simp only [zgt] at h
    split at h
    · cases hc : zcC T k with
      | none => rw [hc] at h; cases h
      | some q =>
        rw [hc] at h
        simp only at h
        split at h
        · cases h
        · cases h; exact zcC_may hc
    · exact hp s h
  simp only [zgo] at h
  split at h
  · cases h
  · split at h
    · split at h
      · cases h
      · exact ht _ h
    · split at h
      · cases h
      · exact ht _ h
theorem zwk_ok {T : zTo} {out : Nat → Bool} : ∀ n k s, zkok T k → zkok T (zwk T out n k s).1
  | 0, k, s, h => h
  | n + 1, k, s, h => by
    simp only [zwk]
    cases hg : (zgo T k out s).1 with
    | none => exact h
    | some y => exact zwk_ok n _ _ (h.bk (zgo_may hg).1 (zgo_may hg).2)
theorem zwn_ok {T : zTo} (hT : zTok T) {ot : Nat → Nat} {n : Nat} {s : Int32} {k : zKy} (h : (zwn T ot n s).1 = some k) : zkok T k := by
  simp only [zwn] at h
  split at h
  · cases h
  · cases h; exact zwk_ok _ _ _ (zkok.fk hT)
theorem zM.of2 {Δ : zD} {h mc ms n : Nat} {fx : Bool} {y : MethodName} {M : zMI} {as : List Value} {w : zW} {P : Option Value → zW → Prop} {X : String → zW → Prop} (hf : zMf y M n) (hlen : (lg_sl as).length ≤ M.2.2.1)
    (body : ∀ QR QX, (∀ r w', P r w' → QR r w') → (∀ E w', X E w' → QX E w') → zJ Δ M (zRm h mc ms) fx w.1 QR QX 0 0 0 (lv_args 0 as) [] w) : zM Δ h mc ms fx y M as w P X := zM.of hf hlen (body P X (fun _ _ h => h) (fun _ _ h => h))
theorem zWr.step {w c : zW} {i wo n : Nat} {S : zRs} {T : zTo} (hT : zTok T) (h : zWr w i wo n S) (hn : n < 100) (hk : ∀ k, (zwn T S.2.1 n S.1).1 = some k → k.2.1 ≤ 12) (hw : zWn w c i n wo T (zwn T S.2.1 n (w.2.1 i 1))) : zWr c i wo (n + 1) (zr1 T wo n S) := by
  obtain ⟨h0, h1, h2, hwo, h3, hn1, he, ho⟩ := h
  rw [h1] at hw
  obtain ⟨-, -, -, g0, g1, g2, g3⟩ := hw
  refine ⟨by rw [g0]; simp [h0], by rw [g0]; simp [zr1], by rw [g0]; simp [h2], hwo, by rw [g0]; simp, by omega, fun j hj => ?_, fun p hp => ?_⟩
  · rw [g1, g2]
    simp only [zr1]
    by_cases hjn : j = n
    · subst hjn
      simp only [if_true]
      cases hz : (zwn T S.2.1 j S.1).1 with
      | none => simp [zeb, zeh]; rfl
      | some k => simpa [zeb, zeh] using hk k hz
    · simp only [hjn, if_false]
      exact he j (by omega)
  · rw [g3]
    simp only [zr1]
    cases hz : (zwn T S.2.1 n S.1).1 with
    | none => exact ho p hp
    | some k =>
      simp only
      by_cases hc : k.2.1 < T.1 7 ∧ p = k.1
      · rw [if_pos hc, if_pos hc]
        exact ⟨(na_sub (a := n + wo + 1) (b := 1) (by omega)).symm, by omega⟩
      · rw [if_neg hc, if_neg hc]
        exact ho p hp
theorem zWr.fb {w c : zW} {wo n : Nat} {S : zRs} (h : zWr w 53 wo n S) (hf : zFb w c) : zWr c 53 wo n S := by
  have e : ∀ a j, 53 ≤ a → a ≤ 56 → c.2.1 a j = w.2.1 a j := fun a j x y => (hf.2.1 a j (by omega)).1
  obtain ⟨h0, h1, h2, h3, h4, h5, h6, h7⟩ := h
  exact ⟨(e _ _ (by decide) (by decide)).trans h0, (e _ _ (by decide) (by decide)).trans h1, (e _ _ (by decide) (by decide)).trans h2, h3, (e _ _ (by decide) (by decide)).trans h4, h5, fun j hj => ⟨(e _ _ (by decide) (by decide)).trans (h6 j hj).1, (e _ _ (by decide) (by decide)).trans (h6 j hj).2.1, (h6 j hj).2.2⟩, fun p hp => ⟨(e _ _ (by decide) (by decide)).trans (h7 p hp).1, (h7 p hp).2⟩⟩
theorem zFw.tr {w c d : zW} {i : Nat} (h1 : zFw w c i) (h2 : zFw c d i) : zFw w d i := ⟨h2.1.trans h1.1, h2.2.1.trans h1.2.1, fun a j h => (h2.2.2 a j h).trans (h1.2.2 a j h)⟩
/-- what lies outside keeps zB -/
theorem zB.out {w c : zW} {U : zTo} (h : zB w U) (hs : c.1 = w.1) (hr : c.2.2.2 = w.2.2.2) (hi : ∀ a j, ((9 ≤ a ∧ a ≤ 13) ∨ (19 ≤ a ∧ a ≤ 37) ∨ (61 ≤ a ∧ a ≤ 79)) → c.2.1 a j = w.2.1 a j ∧ c.2.2.1 a j = w.2.2.1 a j) : zB c U := by
  obtain ⟨h1, h2, h3, h4⟩ := h
  refine ⟨by unfold zCs at *; rw [hs, hr]; exact h1, ?_, h3, ?_⟩
  · exact h2.eq (h2.1.ff hs hr) (fun a j ha => (hi _ _ (by omega)).1)
  · exact h4.out (fun a _ => by rw [hs]) (fun a j _ => by rw [hr]) (fun a j ha => hi a j (by omega)) hs hr
theorem zFw.b {w c : zW} {i : Nat} {U : zTo} (h : zFw w c i) (hb : zB w U) (hi : 37 < i ∧ i + 3 < 61) : zB c U := hb.out h.1 (congrArg Prod.snd h.2.1) (fun a j ha => ⟨h.2.2 a j (by omega), by rw [h.2.1]⟩)
set_option maxRecDepth 100000 in
theorem c_on (Δ : zD) (w : zW) (U : zTo) (hB : zB w U) (x : Int32) (bg : Prop) (wo n : Nat) (S : zRs) (hbg : (bg ∧ zWr w 53 wo n S) ∨ (¬ bg ∧ w.2.1 53 0 = 0)) (mc ms : Nat) (hm : zRo w ((∃ m, m ≤ 60 ∧ x = nI m ∧ bg ∧ n + m ≤ 100) ∧ ¬ zfit U 640) mc ms) : zM Δ 8 mc ms false yX8_on mX8_on [.ref 0, .int x] w (fun r d => ∃ m, m ≤ 60 ∧ x = nI m ∧ ((¬ (bg ∧ n + m ≤ 100) ∧ r = some (.int (-1)) ∧ d = w) ∨ (bg ∧ n + m ≤ 100 ∧ zfit U 20000 ∧ r = some (.int (nI (n + m))) ∧ ∃ e, zFb w e ∧ zB e U ∧ zLf w e U ∧ zFw e d 53 ∧ zWr d 53 wo (n + m) (zrx U wo n S m)))) (fun E d => (E = "java/lang/IllegalArgumentException" ∧ d = w ∧ ¬ (∃ m, m ≤ 60 ∧ x = nI m)) ∨ (∃ m, m ≤ 60 ∧ x = nI m ∧ bg ∧ n + m ≤ 100 ∧ zSp w U U E d)) := by
  refine zM.of2 mfX8_on (Nat.le_of_ble_eq_true rfl) (fun QR QX hQ hX0 => ?_)
  obtain ⟨⟨hm1, hm2⟩, hm3⟩ := hm
  have hC := hB.1
  have hU := hB.2.2.1.1
  have hcU := hB.2.2.1.2.1
  have h13 := hB.2.2.1.2.2
  have hp0 := hB.2.1.2.1 0 (by decide) (by decide)
  have hp8 := hU.1
  have hk0 := hC.1 0 (by decide)
  refine zJ_iload_n dX8_on_0 rfl ?_
  refine zJ_if_lt (tgt := 10) dX8_on_1 (by decide) (fun h1_ => ?_) (fun h1_ => ?_)
  · have hno : ¬ (∃ m, m ≤ 60 ∧ x = nI m) := fun ⟨h, h1, h2⟩ => by
      rw [h2] at h1_
      exact absurd ((nI_ltI (b := 0) (by omega) (by decide)).mp h1_) (by omega)
    exact zJ_throwIW (text := "weeks not as told") (j := 27) dX8_on_10 dX8_on_13 dX8_on_14 dX8_on_17 dX8_on_20 rfl rfl (by decide +kernel) (Nat.le_of_ble_eq_true rfl) (Nat.le_of_ble_eq_true rfl) (by show _ ≤ mc; omega) (by show _ ≤ ms; omega) (hX0 _ _ (Or.inl ⟨rfl, rfl, hno⟩))
  · refine zJ_iload_n dX8_on_4 rfl ?_
    refine zJ_bipush (v := 60) dX8_on_5 (by decide) ?_
    refine zJ_icmp_le (tgt := 21) dX8_on_7 (by decide) (fun h7 => ?_) (fun h7 => ?_)
    · obtain ⟨m, hm31, rfl⟩ := nI_of h1_
      have hm60 : m ≤ 60 := (nI_leI (b := 60) (by omega) (by decide)).mp h7
      refine zJ_aload_n dX8_on_21 rfl ?_
      refine zJ_getr dX8_on_22 fX8_79 (by first | rfl | assumption | exact hC.1 _ (by decide)) rfl (by first | rfl | assumption | exact hC.2 _ _ rfl) ?_
      refine zJ_geti dX8_on_25 fX8_354 (by first | rfl | assumption | exact hC.1 _ (by decide)) rfl ?_
      refine zJ_if_eq (tgt := 45) dX8_on_28 (by decide) (fun h28 => ?_) (fun h28 => ?_)
      · have hno : ¬ (bg ∧ n + m ≤ 100) := fun h => by
          rcases hbg with ⟨_, h9⟩ | ⟨h9, _⟩
          · rw [h9.1] at h28; exact absurd h28 (by decide)
          · exact h9 h.1
        refine zJ_iconst (v := -1) dX8_on_45 (by decide) ?_
        exact zJ_iret dX8_on_46 rfl (by show _ ≤ mc; omega) (by show _ ≤ ms; omega) (hQ _ _ ⟨m, hm60, rfl, Or.inl ⟨hno, rfl, rfl⟩⟩)
      · have hbg1 : bg ∧ zWr w 53 wo n S := hbg.resolve_right (fun h => h28 h.2)
        obtain ⟨hbg1, hWw⟩ := hbg1
        have hn100 := hWw.2.2.2.2.2.1
        refine zJ_aload_n dX8_on_31 rfl ?_
        refine zJ_getr dX8_on_32 fX8_79 (by first | rfl | assumption | exact hC.1 _ (by decide)) rfl (by first | rfl | assumption | exact hC.2 _ _ rfl) ?_
        refine zJ_geti dX8_on_35 fX8_358 (by first | rfl | assumption | exact hC.1 _ (by decide)) rfl ?_
        rw [hWw.2.2.2.2.1]
        refine zJ_iload_n dX8_on_38 rfl ?_
        refine zJ_iadd dX8_on_39 ?_
        rw [na_add]
        refine zJ_bipush (v := 100) dX8_on_40 (by decide) ?_
        refine zJ_icmp_le (tgt := 47) dX8_on_42 (by decide) (fun h42 => ?_) (fun h42 => ?_)
        · have hnm : n + m ≤ 100 := (nI_leI (b := 100) (by omega) (by decide)).mp h42
          refine zJ_aload_n dX8_on_47 rfl ?_
          refine zJ_getr dX8_on_48 fX8_36 (by first | rfl | assumption | exact hC.1 _ (by decide)) rfl (by first | rfl | assumption | exact hC.2 _ _ rfl) ?_
          refine zJ_aload_n dX8_on_51 rfl ?_
          refine zJ_getr dX8_on_52 fX8_32 (by first | rfl | assumption | exact hC.1 _ (by decide)) rfl (by first | rfl | assumption | exact hC.2 _ _ rfl) ?_
          refine zJ_cV1 dX8_on_55 sX8_110 mfX5_copy (c_Town_copy Δ w 14 9 (zTn14 hC) hB.2.1.1 (by decide)) (hC.1 14 (by decide)) rfl (Nat.le_of_ble_eq_true rfl) ⟨Nat.le_of_ble_eq_true rfl, Nat.le_of_ble_eq_true rfl⟩ ⟨by show _ ≤ mc; omega, by show _ ≤ ms; omega⟩ ?_
          refine zJ_aload_n dX8_on_58 rfl ?_
          have hAs := (zAs.copy hB)
          have hk1 : (ztowc w 14 9).1 0 = some (.inl 8) := hAs.2.2.1.1.1 0 (by decide)
          refine zJ_yV0 dX8_on_59 sX8_178 pX8_178 mfX8_playAsked (c_playAsked Δ (ztowc w 14 9) U U hAs.2.2.1.1 hAs.2.2.1.2.2.2 hAs.2.2.2 hU hcU (zsame.rf U) (mc - 10) (ms - 60) (by omega) (fun h1 h2 => by have := hm3 ⟨⟨m, hm60, rfl, hbg1, hnm⟩, h1⟩ (by rw [← hAs.2.1]; exact h2); omega)) rfl hk1 rfl ⟨rfl, by simp [zokv, zpush], by simp [lv_args, Value.category, zokv, hk1]⟩ (Nat.le_of_ble_eq_true rfl) ⟨Nat.le_of_ble_eq_true rfl, Nat.le_of_ble_eq_true rfl⟩ ⟨by show _ ≤ mc; omega, by show _ ≤ ms; omega⟩ (fun r d hP9 => ?_) (fun E d hX => hX0 _ _ (Or.inr ⟨m, hm60, rfl, hbg1, hnm, hX.sp hAs⟩))
          obtain ⟨hFa, hfit, b, R, m9, K, rfl, hO, hx, hR, hl1, hl2⟩ := hP9
          refine zJ_astore_n (ls2 := fun q9 => [(2, .ref q9), (0, .ref 0), (1, .int (nI m))]) dX8_on_62 (by decide) (fun _ => rfl) (fun q9 eq9 => ?_)
          obtain rfl := eq9.symm
          refine zJ_aload_n dX8_on_63 rfl ?_
          refine zJ_eV0 dX8_on_64 sX8_247 mfX1_choose (o_choose Δ d b R m9 U U K hO) hO.1.1.1 rfl (Nat.le_of_ble_eq_true rfl) ⟨Nat.le_of_ble_eq_true rfl, Nat.le_of_ble_eq_true rfl⟩ ⟨by show _ ≤ mc; omega, by show _ ≤ ms; omega⟩ (fun r e hP9 => ?_)
          obtain ⟨rfl, hf, hO2, hcs⟩ := hP9
          refine zJ_iconst (v := 0) dX8_on_67 (by decide) ?_
          refine zJ_istore_n (ls2 := fun x68 => [(3, .int x68), (2, .ref b), (0, .ref 0), (1, .int (nI m))]) dX8_on_68 (by decide) (fun _ => rfl) (fun x68 ex68 => ?_)
          obtain ⟨g1, g2⟩ := zfin hAs hFa hf hO2 hx hR
          have hk12 : ∀ (ot : Nat → Nat) (n2 : Nat) (s2 : Int32) (k : zKy), (zwn U ot n2 s2).1 = some k → k.2.1 ≤ 12 := fun ot n2 s2 k hk => by
            have h7 := hU.2.2.2.1.2
            have := (zwn_ok hU hk).2.1.2
            omega
          have L : ∀ (kk nn : Nat), kk ≤ mc → nn ≤ ms → ∀ j, j ≤ m → ∀ c9, zFw e c9 53 → zWr c9 53 wo (n + j) (zrx U wo n S j) → zJ Δ mX8_on (zRm 8 mc ms) false w.1 QR QX kk nn 69 [(3, .int (nI j)), (2, .ref b), (0, .ref 0), (1, .int (nI m))] [] c9 := by
            intro kk nn hkk hnn
            refine zup (fun j hj ih => ?_)
            intro c9 hf9 hw9
            have hCe : zCs c9 := g2.1.fk hf9.1 hf9.2.1
            have hb53 : ∀ a : Nat, 53 ≤ a → a ≤ 56 → ∀ bb : Nat, bb = b → bb ≤ a → a ≤ bb + 18 → False := by
              intro a h1 h2 bb h3 h4 h5
              rcases hR with ⟨h9, -⟩ | ⟨h9, -⟩
              · have h6 : bb = 19 := h3.trans h9
                omega
              · have h6 : bb = 61 := h3.trans h9
                omega
            have hG9 : zGr c9 b R m9 U K := hO2.1.eq hf9.1 (congrArg Prod.snd hf9.2.1) (fun a j2 x y => hf9.2.2 a j2 (Classical.byContradiction fun h => hb53 a (by omega) (by omega) b rfl x y)) (fun a j2 x y => by rw [hf9.2.1])
            have hcs9 : zChs c9 b U K := hcs.out (fun j2 => hf9.2.2 _ j2 (by rcases hR with ⟨rfl, -⟩ | ⟨rfl, -⟩ <;> decide))
            refine zJ_iload_n dX8_on_69 rfl ?_
            refine zJ_iload_n dX8_on_70 rfl ?_
            refine zJ_icmp_ge (tgt := 88) dX8_on_71 (by decide) (fun h71 => ?_) (fun h71 => ?_)
            · have hj9 : j = m := by exact Nat.le_antisymm hj ((nI_leI (a := m) (b := j) (by omega) (by omega)).mp h71)
              subst hj9
              refine zJ_aload_n dX8_on_88 rfl ?_
              refine zJ_getr dX8_on_89 fX8_79 (by first | rfl | assumption | exact hCe.1 _ (by decide)) rfl (by first | rfl | assumption | exact hCe.2 _ _ rfl) ?_
              refine zJ_geti dX8_on_92 fX8_358 (by first | rfl | assumption | exact hCe.1 _ (by decide)) rfl ?_
              rw [hw9.2.2.2.2.1]
              exact zJ_iret dX8_on_95 rfl (by show _ ≤ mc; omega) (by show _ ≤ ms; omega) (hQ _ _ ⟨j, hm60, rfl, Or.inr ⟨hbg1, hnm, hfit, rfl, e, g1, g2, zlf hAs hl1 hl2 hf, hf9, hw9⟩⟩)
            · have hj9 : j < m := Nat.lt_of_not_le fun hq9 => h71 (by exact (nI_leI (a := m) (b := j) (by omega) (by omega)).mpr hq9)
              refine zJ_aload_n dX8_on_74 rfl ?_
              refine zJ_getr dX8_on_75 fX8_79 (by first | rfl | assumption | exact hCe.1 _ (by decide)) rfl (by first | rfl | assumption | exact hCe.2 _ _ rfl) ?_
              refine zJ_aload_n dX8_on_78 rfl ?_
              refine zJ_eV1 dX8_on_79 sX8_359 mfX7_runOne (c_Weeks_runOne Δ c9 b R m9 U K hG9 hcs9 53 (⟨hCe.1 _ (by decide), hCe.2 _ _ rfl, hCe.2 _ _ rfl, hCe.2 _ _ rfl, hCe.1 _ (by decide), hCe.1 _ (by decide), hCe.1 _ (by decide)⟩ : zWk c9 53) (by rcases hR with ⟨rfl, -⟩ | ⟨rfl, -⟩ <;> decide) (n + j) wo (zrx U wo n S j).2.1 (by omega) hw9.2.2.2.1 hw9.2.2.2.2.1 hw9.2.2.1 hw9.2.2.2.2.2.2.2) (hCe.1 53 (by decide)) rfl (Nat.le_of_ble_eq_true rfl) ⟨Nat.le_of_ble_eq_true rfl, Nat.le_of_ble_eq_true rfl⟩ ⟨by show _ ≤ mc; omega, by show _ ≤ ms; omega⟩ (fun r c10 hP9 => ?_)
              obtain ⟨rfl, hwn⟩ := hP9
              refine zJ_iinc (ls2 := fun x82 => [(3, .int x82), (2, .ref b), (0, .ref 0), (1, .int (nI m))]) dX8_on_82 rfl (by decide) (fun _ => rfl) (fun x82 ex82 => ?_)
              refine zJ_goto (tgt := 69) dX8_on_85 (by decide) ?_
              refine zJ_ls [(3, .int x82), (2, .ref b), (0, .ref 0), (1, .int (nI m))] (by simp) ?_
              rw [ex82, show nI j + Int32.ofInt 1 = nI (j + 1) from nI_1 _]
              refine ih (j + 1) (by omega) (by omega) c10 (hf9.tr ⟨hwn.1, hwn.2.1, hwn.2.2.1⟩) ?_
              exact hw9.step (n := n + j) hU (by omega) (fun k hk => hk12 _ _ _ _ hk) hwn
          rw [ex68]
          exact L _ _ (by omega) (by omega) 0 (Nat.zero_le _) e ⟨rfl, rfl, fun _ _ _ => rfl⟩ (hWw.fb g1)
        · have hno : ¬ (bg ∧ n + m ≤ 100) := fun h => h42 ((nI_leI (b := 100) (by omega) (by decide)).mpr h.2)
          refine zJ_iconst (v := -1) dX8_on_45 (by decide) ?_
          exact zJ_iret dX8_on_46 rfl (by show _ ≤ mc; omega) (by show _ ≤ ms; omega) (hQ _ _ ⟨m, hm60, rfl, Or.inl ⟨hno, rfl, rfl⟩⟩)
    · have hno : ¬ (∃ m, m ≤ 60 ∧ x = nI m) := fun ⟨h, h1, h2⟩ => by
        rw [h2] at h7
        exact h7 ((nI_leI (b := 60) (by omega) (by decide)).mpr h1)
      exact zJ_throwIW (text := "weeks not as told") (j := 27) dX8_on_10 dX8_on_13 dX8_on_14 dX8_on_17 dX8_on_20 rfl rfl (by decide +kernel) (Nat.le_of_ble_eq_true rfl) (Nat.le_of_ble_eq_true rfl) (by show _ ≤ mc; omega) (by show _ ≤ ms; omega) (hX0 _ _ (Or.inl ⟨rfl, rfl, hno⟩))
