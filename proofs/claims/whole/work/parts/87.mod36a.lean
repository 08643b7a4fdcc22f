/-! lines go on; SENDS has no number -/
def zAt (tx : Nat → Nat) (n a : Nat) (t : zTkn) : Prop := ∃ b, a ≤ b ∧ b ≤ n ∧ t = ztk tx n b
theorem zAt.nx {tx : Nat → Nat} {n a : Nat} {t : zTkn} (h : zAt tx n a t) : zAt tx n a (ztk tx n t.2.2.1) := by
  obtain ⟨b, h1, h2, rfl⟩ := h
  have := ztk_le (tx := tx) h2
  exact ⟨_, by omega, this.2.2, rfl⟩
theorem zAt.pr {tx : Nat → Nat} {n a i lo hi wo : Nat} {t : zTkn} {q : Nat × zTkn} (h : zAt tx n a t) (hq : zrP tx n i lo hi wo t = .inr q) : zAt tx n a q.2 := by
  simp only [zrP] at hq
  split at hq
  · split at hq
    · cases hq
    · cases hq; exact h.nx.nx
  · cases hq; exact h
theorem ztk_3 {tx : Nat → Nat} {n b : Nat} (h : (ztk tx n b).1 = 3) : (ztk tx n b).2.1 < (ztk tx n b).2.2.1 := by
  revert h
  simp only [ztk, ztk0]
  split
  · intro h; exact absurd h (by simp)
  · split
    · intro h; exact absurd h (by simp)
    · split
      · intro h; exact absurd h (by simp)
      · intro _; exact Nat.lt_succ_self _
theorem zmB_at {B : Nat} {x : zLX} {q : (zTo × Nat) × Nat} (h : zmB B (zcl x) = .inr q) : ∃ p : zTo × zTkn, x = .inr p ∧ p.2.1 = 3 ∧ q.2 = p.2.2.2.1 ∧ q.1.1 = p.1 := by
  cases x with
  | inl e => cases h
  | inr p =>
    by_cases h3 : p.2.1 = 3
    · simp only [zcl, if_pos h3] at h
      cases h
      exact ⟨p, rfl, h3, rfl, rfl⟩
    · simp only [zcl, if_neg h3] at h
      cases h
theorem zon_at {B k : Nat} {t : zTkn} {x : zLX} {q : (zTo × Nat) × Nat} (h : zon B k t (zcl x) = .inr q) : ∃ p : zTo × zTkn, x = .inr p ∧ p.2.1 = 3 ∧ q.2 = p.2.2.2.1 ∧ q.1.1 = p.1 := by
  simp only [zon] at h
  split at h
  · cases h
  · exact zmB_at h
def zTsd (T : zTo) : Prop := ∀ p, T.2.1 p = 1 → T.2.2.1 p = 0
theorem zln_at {tx : Nat → Nat} {n a : Nat} {S : zTo × Nat} {t : zTkn} {q : (zTo × Nat) × Nat} (ht : zAt tx n a t) (hs : zTsd S.1) (h : zln tx n S t = .inr q) : zTsd q.1.1 ∧ ∃ t2, zAt tx n a t2 ∧ t2.1 = 3 ∧ q.2 = t2.2.2.1 := by
  have fin : ∀ {x : zLX}, (∀ p : zTo × zTkn, x = .inr p → zTsd p.1 ∧ zAt tx n a p.2) → (∃ p : zTo × zTkn, x = .inr p ∧ p.2.1 = 3 ∧ q.2 = p.2.2.2.1 ∧ q.1.1 = p.1) → zTsd q.1.1 ∧ ∃ t2, zAt tx n a t2 ∧ t2.1 = 3 ∧ q.2 = t2.2.2.1 := fun {x} h1 h2 => by
    obtain ⟨p, e1, e2, e3, e4⟩ := h2
    have := h1 p e1
    exact ⟨by rw [e4]; exact this.1, p.2, this.2, e2, e3⟩
  have hts : ∀ {T : zTo} {k v : Nat}, zTsd T → zTsd (zTs T k v) := fun h => h
  simp only [zln] at h
  split at h
  · refine fin (fun p hx => ?_) (zmB_at h)
    simp only [zlP] at hx
    have htp : ∀ {s v : Nat}, (s = 1 → v = 0) → zTsd (zTp S.1 s v) := fun {s v} h1 p hp => by
      simp only [zTp] at hp ⊢
      by_cases he : p = S.1.1 0
      · rw [if_pos he] at hp ⊢; exact h1 hp
      · rw [if_neg he] at hp ⊢; exact hs p hp
    split at hx
    · cases hx
    · split at hx
      · cases hx
      · split at hx
        · rename_i h02
          split at hx
          · cases hx
          · cases hx; exact ⟨htp (fun h => by omega), ht.nx.nx.nx⟩
        · split at hx
          · split at hx
            · cases hx
            · rename_i h2; cases hx; exact ⟨htp (fun h => by omega), ht.nx.nx.pr h2⟩
          · cases hx; exact ⟨htp (fun _ => rfl), ht.nx.nx⟩
  · split at h
    · refine fin (fun p hx => ?_) (zmB_at h)
      simp only [zlK] at hx
      split at hx
      · cases hx
      · split at hx
        · cases hx
        · split at hx
          · cases hx
          · split at hx
            · cases hx
            · rename_i h2; cases hx; exact ⟨hs, ht.nx.nx.nx.pr h2⟩
    · split at h
      · refine fin (fun p hx => ?_) (zon_at h)
        simp only [zlL] at hx
        split at hx
        · cases hx
        · split at hx
          · cases hx
          · split at hx
            · cases hx
            · split at hx
              · cases hx
              · rename_i h4
                split at hx
                · cases hx
                · rename_i h5; cases hx; exact ⟨hs, (ht.nx.nx.nx.nx.pr h4).pr h5⟩
      · split at h
        · refine fin (fun p hx => ?_) (zon_at h)
          simp only [zlW] at hx
          split at hx
          · cases hx; exact ⟨hs, ht.nx.nx⟩
          · split at hx
            · cases hx; exact ⟨hs, ht.nx.nx⟩
            · split at hx
              · cases hx; exact ⟨hs, ht.nx.nx⟩
              · cases hx
        · split at h
          · refine fin (fun p hx => ?_) (zon_at h)
            simp only [zlX] at hx
            split at hx
            · cases hx
            · cases hx; exact ⟨hs, ht.nx.nx⟩
          · split at h
            · refine fin (fun p hx => ?_) (zon_at h)
              simp only [zlF] at hx
              split at hx
              · cases hx
              · cases hx; exact ⟨hs, ht.nx.nx⟩
            · cases h
theorem zln_adv {tx : Nat → Nat} {n a : Nat} {S : zTo × Nat} {q : (zTo × Nat) × Nat} (ha : a ≤ n) (hs : zTsd S.1) (h : zln tx n S (ztk tx n a) = .inr q) : a < q.2 ∧ q.2 ≤ n ∧ zTsd q.1.1 := by
  obtain ⟨h1, t2, ⟨b, hb1, hb2, rfl⟩, h3, h4⟩ := zln_at (a := a) ⟨a, Nat.le_refl _, ha, rfl⟩ hs h
  have := ztk_3 h3
  have h5 := ztk_le (tx := tx) hb2
  exact ⟨by omega, by omega, h1⟩
abbrev zFtw : List Nat := [0, 1, 2, 3, 4, 5, 6, 7, 8, 9, 10, 11, 12, 14, 15, 16, 17, 18, 19, 20, 21, 22, 23, 24, 25, 26, 27, 28, 29, 30, 31, 32, 33, 34, 35, 36, 37, 55, 56, 62, 66, 71, 76, 77]
abbrev zFtb : List Nat := [0, 14, 15, 16, 17, 18, 19, 20, 21, 22, 23, 24, 25, 26, 27, 28, 29, 30, 31, 32, 33, 34, 35, 36, 37]
/-- what town leaves behind in the model -/
def zTwn (w c : zW) (r : Option Value) (x : (Nat × Nat) ⊕ (zTo × Nat)) : Prop := match x with
  | .inl e => r = some (.int (nI e.1)) ∧ zFM zFtb w c ∧ c.2.1 100 16 = nI e.2 ∧ c.2.1 117 0 = w.2.1 117 0 + 1 ∧ ∀ j, ¬ j = 0 → c.2.1 117 j = w.2.1 117 j
  | .inr S => r = some (.int 0) ∧ zFM zFtw w c ∧ c.2.1 100 16 = -1 ∧ (∀ j, c.2.1 117 j = w.2.1 117 j) ∧ zMu c S.1 ∧ zPk S ∧ zTsd S.1 ∧ c.2.1 100 55 = 0 ∧ c.2.1 100 56 = 0 ∧ (∀ k, k < 32 → c.2.1 162 k = -1) ∧ c.2.1 100 71 = 0 ∧ c.2.1 100 66 = 0 ∧ c.2.1 100 76 = 0 ∧ c.2.1 100 77 = 0
set_option maxRecDepth 100000 in
theorem c_Mo_town (Δ : zD) (w : zW) (hM : zMs w) (tx : Nat → Nat) (N : Nat) (hN : N ≤ 700) (h14 : w.2.1 100 14 = nI N) (htx : ∀ i, i < 700 → w.2.1 113 i = nI (tx i) ∧ tx i < 256) (x : Int32) : zMp Δ 6 yX9_town mX9_town [.ref 100, .int x] w (fun r c => (¬ (∃ n, n ≤ N ∧ x = nI n) ∧ c = zsi (zsi w 100 0 0) 100 0 1) ∨ (∃ n, n ≤ N ∧ x = nI n ∧ c.2.1 100 0 = 0 ∧ c.2.1 100 14 = 0 ∧ zTwn w c r (zpa tx n 701 (zT0, 0) 0))) := by
  refine zMp.of mfX9_town (Nat.le_of_ble_eq_true rfl) (fun QR hQ => ?_)
  have M0 : zMs (zsi w 100 0 0) := hM
  have z0 : (zsi w 100 0 0).2.1 100 0 = 0 := by simp [zsi]
  have e14 : (zsi w 100 0 0).2.1 100 14 = nI N := by simp [zsi, h14]
  by_cases hx : ∃ n, n ≤ N ∧ x = nI n
  · obtain ⟨n, hn, rfl⟩ := hx
    have hW : ∃ W, W = (zsi (zsi (zsi (zsi (zsi (zsi (zsi (zsi (zsi (zsi (zsi (zsi (zsi (zsi (zsi (zsi w 100 0 0) 100 14 0) 100 16 (-1)) 100 15 0) 100 18 (nI n)) 100 19 0) 100 25 0) 100 26 0) 100 27 1) 100 28 1) 100 29 8) 100 30 0) 100 31 0) 100 32 0) 100 33 1) 100 34 0) := ⟨_, rfl⟩
    obtain ⟨W, hW⟩ := hW
    have hfW : zFM [0, 14, 15, 16, 18, 19, 25, 26, 27, 28, 29, 30, 31, 32, 33, 34] w W := by
      rw [hW]
      exact ((((((((((((((((zFM.i (by decide)).tr (zFM.i (by decide))).tr (zFM.i (by decide))).tr (zFM.i (by decide))).tr (zFM.i (by decide))).tr (zFM.i (by decide))).tr (zFM.i (by decide))).tr (zFM.i (by decide))).tr (zFM.i (by decide))).tr (zFM.i (by decide))).tr (zFM.i (by decide))).tr (zFM.i (by decide))).tr (zFM.i (by decide))).tr (zFM.i (by decide))).tr (zFM.i (by decide))).tr (zFM.i (by decide)))
    have MW : zMs W := hM.fm hfW
    have RW : zRm9 W tx n := ⟨MW, by rw [hW]; simp [zsi], by omega, fun i hi => ⟨(hfW.ar (k := 13) (by decide) (by decide)).trans (htx i hi).1, (htx i hi).2⟩⟩
    have k0 : W.2.1 100 0 = 0 := by rw [hW]; simp [zsi]
    have k14 : W.2.1 100 14 = 0 := by rw [hW]; simp [zsi]
    have k15 : W.2.1 100 15 = nI 0 := by rw [hW]; simp [zsi]; rfl
    have k16 : W.2.1 100 16 = -1 := by rw [hW]; simp [zsi]
    have k19 : W.2.1 100 19 = nI 0 := by rw [hW]; simp [zsi]; rfl
    have kN : zNw W (zT0, 0) := by
      rw [hW]
      refine ⟨?_, ?_, ?_, ?_, ?_, ?_, ?_, ?_, ?_, ?_, fun p hp => absurd hp (by simp [zT0]), fun p hp => absurd hp (by simp [zT0]), fun p q hp => absurd hp (by simp [zT0])⟩ <;> simp [zsi, zT0] <;> rfl
    have hZ : ∃ Z, Z = zpa tx n 701 (zT0, 0) 0 := ⟨_, rfl⟩
    obtain ⟨Z, hZ⟩ := hZ
    have B133 : ∀ (e : Nat × Nat) (c : zW), zBd W c tx n e → Z = .inl e → zJ Δ mX9_town (zRm 6 0 0) true w.1 QR (fun _ _ => False) 0 0 133 [(0, .ref 100), (1, .int (nI n))] [] c := by
      intro e c hb hz
      have M1 := hb.2.1.1
      have f15 := hb.2.2.1
      have q117 : ∀ j, c.2.1 117 j = w.2.1 117 j := fun j => ((hb.1.ar (k := 17) (by decide) (by decide)).trans (hfW.ar (k := 17) (by decide) (by decide)))
      refine zJ_aload_n dX9_town_133 rfl ?_
      refine zJ_cV0 dX9_town_134 sX9_224 mfX9_isGood (c_Mo_igB Δ hb) (by first | rfl | assumption | exact hM.at (by decide) (by decide) | exact M1.at (by decide) (by decide) | exact M2.at (by decide) (by decide) | exact M3.at (by decide) (by decide) | exact M4.at (by decide) (by decide) | exact M5.at (by decide) (by decide) | exact M6.at (by decide) (by decide)) rfl (Nat.le_of_ble_eq_true rfl) (by decide) (by decide) ?_
      refine zJ_if_ne (tgt := 155) dX9_town_137 (by decide) (fun h9 => False.elim (by revert h9; decide)) (fun _ => ?_)
      refine zJ_aload_n dX9_town_140 rfl ?_
      refine zJ_getr (j := 117) dX9_town_141 fX9_38 (by first | rfl | assumption | exact hM.at (by decide) (by decide) | exact M1.at (by decide) (by decide) | exact M2.at (by decide) (by decide) | exact M3.at (by decide) (by decide) | exact M4.at (by decide) (by decide) | exact M5.at (by decide) (by decide) | exact M6.at (by decide) (by decide)) rfl (by first | rfl | assumption | exact hM.rf (by decide) rfl | exact M1.rf (by decide) rfl | exact M2.rf (by decide) rfl | exact M3.rf (by decide) rfl | exact M4.rf (by decide) rfl | exact M5.rf (by decide) rfl | exact M6.rf (by decide) rfl) ?_
      refine zJ_iconst (v := 0) dX9_town_144 (by decide) ?_
      refine zJ_dup2_11 dX9_town_145 rfl rfl ?_
      refine zJ_ialdN (i := 0) (v := (c.2.1 117 0)) dX9_town_146 (by first | rfl | assumption | exact hM.at (by decide) (by decide) | exact M1.at (by decide) (by decide) | exact M2.at (by decide) (by decide) | exact M3.at (by decide) (by decide) | exact M4.at (by decide) (by decide) | exact M5.at (by decide) (by decide) | exact M6.at (by decide) (by decide)) rfl (by omega) (by decide) rfl ?_
      refine zJ_iconst (v := 1) dX9_town_147 (by decide) ?_
      refine zJ_iadd dX9_town_148 ?_
      refine zJ_iastN (i := 0) dX9_town_149 (by first | rfl | assumption | exact hM.at (by decide) (by decide) | exact M1.at (by decide) (by decide) | exact M2.at (by decide) (by decide) | exact M3.at (by decide) (by decide) | exact M4.at (by decide) (by decide) | exact M5.at (by decide) (by decide) | exact M6.at (by decide) (by decide)) rfl (by omega) (by decide) ?_
      refine zJ_aload_n dX9_town_150 rfl ?_
      refine zJ_getiN dX9_town_151 fX9_221 (by first | rfl | assumption | exact hM.at (by decide) (by decide) | exact M1.at (by decide) (by decide) | exact M2.at (by decide) (by decide) | exact M3.at (by decide) (by decide) | exact M4.at (by decide) (by decide) | exact M5.at (by decide) (by decide) | exact M6.at (by decide) (by decide)) rfl f15 ?_
      refine zJ_iret dX9_town_154 rfl (by decide) (by decide) (hQ _ _ (Or.inr ⟨n, hn, rfl, ?_, ?_, ?_⟩))
      · exact (zsi_o (by decide)).trans ((hb.1.at (by decide)).trans k0)
      · exact (zsi_o (by decide)).trans ((hb.1.at (by decide)).trans k14)
      · rw [← hZ, hz]
        refine ⟨rfl, ?_, ?_, ?_, ?_⟩
        · exact ((hfW.mono (by decide)).tr (hb.1.mono (by decide))).tr (zFM.i (by decide))
        · exact (zsi_o (by decide)).trans hb.2.2.2.1
        · simp [zsi, q117]
        · intro j hj
          simp [zsi, hj, q117]
    have G133 : ∀ (S : zTo × Nat) (t : zTkn) (c : zW), zGd W c tx n S t → zPk S → zTsd S.1 → Z = .inr S → zJ Δ mX9_town (zRm 6 0 0) true w.1 QR (fun _ _ => False) 0 0 133 [(0, .ref 100), (1, .int (nI n))] [] c := by
      intro S t c hg hS hsd hz
      have M1 := hg.2.1.1
      obtain ⟨g0, g1, g2, g3, g4, g5, g6, g7, g8, g9, g10, g11, g12⟩ := hg.2.2.2.2.2.2
      have hC9 : ∃ D, D = (zsi (zsi (zsi (zsi (zsi (zsi (zsi (zsi (zsi c 100 1 (nI (S.1.1 0))) 100 2 (nI (S.1.1 12))) 100 3 (nI (S.1.1 5))) 100 4 (nI (S.1.1 6))) 100 5 (nI (S.1.1 7))) 100 6 (nI (S.1.1 8))) 100 7 (nI (S.1.1 9))) 100 8 (nI (S.1.1 10))) 100 9 (nI (S.1.1 11))) := ⟨_, rfl⟩
      obtain ⟨D, hD⟩ := hC9
      have hfD : zFM [1, 2, 3, 4, 5, 6, 7, 8, 9] c D := by
        rw [hD]
        exact (((((((((zFM.i (by decide)).tr (zFM.i (by decide))).tr (zFM.i (by decide))).tr (zFM.i (by decide))).tr (zFM.i (by decide))).tr (zFM.i (by decide))).tr (zFM.i (by decide))).tr (zFM.i (by decide))).tr (zFM.i (by decide)))
      have M2 : zMs D := M1.fm hfD
      have d1 : D.2.1 100 1 = nI (S.1.1 0) := by rw [hD]; simp [zsi]
      have d2 : D.2.1 100 2 = nI (S.1.1 12) := by rw [hD]; simp [zsi]
      have d3 : D.2.1 100 3 = nI (S.1.1 5) := by rw [hD]; simp [zsi]
      have d4 : D.2.1 100 4 = nI (S.1.1 6) := by rw [hD]; simp [zsi]
      have d5 : D.2.1 100 5 = nI (S.1.1 7) := by rw [hD]; simp [zsi]
      have d6 : D.2.1 100 6 = nI (S.1.1 8) := by rw [hD]; simp [zsi]
      have d7 : D.2.1 100 7 = nI (S.1.1 9) := by rw [hD]; simp [zsi]
      have d8 : D.2.1 100 8 = nI (S.1.1 10) := by rw [hD]; simp [zsi]
      have d9 : D.2.1 100 9 = nI (S.1.1 11) := by rw [hD]; simp [zsi]
      have hE : ∃ E, E = (zsi (zsi (zrow (zrow (zrow D 110 (fun j => if j < 8 then D.2.1 135 j else D.2.1 110 j)) 111 (fun j => if j < 8 then (zrow D 110 (fun j => if j < 8 then D.2.1 135 j else D.2.1 110 j)).2.1 136 j else (zrow D 110 (fun j => if j < 8 then D.2.1 135 j else D.2.1 110 j)).2.1 111 j)) 112 (fun j => if j < 64 then (zrow (zrow D 110 (fun j => if j < 8 then D.2.1 135 j else D.2.1 110 j)) 111 (fun j => if j < 8 then (zrow D 110 (fun j => if j < 8 then D.2.1 135 j else D.2.1 110 j)).2.1 136 j else (zrow D 110 (fun j => if j < 8 then D.2.1 135 j else D.2.1 110 j)).2.1 111 j)).2.1 137 j else (zrow (zrow D 110 (fun j => if j < 8 then D.2.1 135 j else D.2.1 110 j)) 111 (fun j => if j < 8 then (zrow D 110 (fun j => if j < 8 then D.2.1 135 j else D.2.1 110 j)).2.1 136 j else (zrow D 110 (fun j => if j < 8 then D.2.1 135 j else D.2.1 110 j)).2.1 111 j)).2.1 112 j)) 100 55 0) 100 56 0) := ⟨_, rfl⟩
      obtain ⟨E, hE⟩ := hE
      have hfE : zFM [10, 11, 12, 55, 56] D E := by
        rw [hE]
        exact ((((zFM.row (by decide)).tr (zFM.row (by decide))).tr (zFM.row (by decide))).tr (zFM.i (by decide))).tr (zFM.i (by decide))
      have M3 : zMs E := M2.fm hfE
      have r10 : ∀ p, p < 8 → E.2.1 110 p = c.2.1 135 p := fun p hp => by
        rw [hE]; simp only [zsi, zrow]; simp [hp]; exact hfD.ar (k := 35) (by decide) (by decide)
      have r11 : ∀ p, p < 8 → E.2.1 111 p = c.2.1 136 p := fun p hp => by
        rw [hE]; simp only [zsi, zrow]; simp [hp]; exact hfD.ar (k := 36) (by decide) (by decide)
      have r12 : ∀ p, p < 64 → E.2.1 112 p = c.2.1 137 p := fun p hp => by
        rw [hE]; simp only [zsi, zrow]; simp [hp]; exact hfD.ar (k := 37) (by decide) (by decide)
      have x55 : E.2.1 100 55 = 0 := by rw [hE]; simp [zsi]
      have x56 : E.2.1 100 56 = 0 := by rw [hE]; simp [zsi]
      have hfc : zFM zFtw w E := (((hfW.mono (by decide)).tr (hg.1.mono (by decide))).tr (hfD.mono (by decide))).tr (hfE.mono (by decide))
      have p8 := hS.1.1
      have L : ∀ j, j ≤ 32 → ∀ d, zFM [62] E d → (∀ q, q < j → d.2.1 162 q = -1) → zJ Δ mX9_town (zRm 6 0 0) true w.1 QR (fun _ _ => False) 0 0 275 [(2, .int (nI j)), (0, .ref 100), (1, .int (nI n))] [] d := by
        refine zup (fun j hj ih => ?_)
        intro d hf h0
        have M4 : zMs d := M3.fm hf
        refine zJ_iload_n dX9_town_275 rfl ?_
        refine zJ_bipush (v := 32) dX9_town_276 (by decide) ?_
        refine zJ_icmp_ge (tgt := 294) dX9_town_278 (by decide) (fun h278 => ?_) (fun h278 => ?_)
        · have hj9 : j = 32 := by exact Nat.le_antisymm hj ((nI_leI (a := 32) (b := j) (by omega) (by omega)).mp h278)
          subst hj9
          refine zJ_aload_n dX9_town_294 rfl ?_
          refine zJ_iconst (v := 0) dX9_town_295 (by decide) ?_
          refine zJ_puti dX9_town_296 fX9_323 (fun q h => by cases h; rfl) (by first | rfl | assumption | exact hM.at (by decide) (by decide) | exact M1.at (by decide) (by decide) | exact M2.at (by decide) (by decide) | exact M3.at (by decide) (by decide) | exact M4.at (by decide) (by decide) | exact M5.at (by decide) (by decide) | exact M6.at (by decide) (by decide)) rfl rfl rfl ?_
          refine zJ_aload_n dX9_town_299 rfl ?_
          refine zJ_iconst (v := 0) dX9_town_300 (by decide) ?_
          refine zJ_puti dX9_town_301 fX9_326 (fun q h => by cases h; rfl) (by first | rfl | assumption | exact hM.at (by decide) (by decide) | exact M1.at (by decide) (by decide) | exact M2.at (by decide) (by decide) | exact M3.at (by decide) (by decide) | exact M4.at (by decide) (by decide) | exact M5.at (by decide) (by decide) | exact M6.at (by decide) (by decide)) rfl rfl rfl ?_
          refine zJ_aload_n dX9_town_304 rfl ?_
          refine zJ_iconst (v := 0) dX9_town_305 (by decide) ?_
          refine zJ_puti dX9_town_306 fX9_329 (fun q h => by cases h; rfl) (by first | rfl | assumption | exact hM.at (by decide) (by decide) | exact M1.at (by decide) (by decide) | exact M2.at (by decide) (by decide) | exact M3.at (by decide) (by decide) | exact M4.at (by decide) (by decide) | exact M5.at (by decide) (by decide) | exact M6.at (by decide) (by decide)) rfl (by decide) (by decide) ?_
          refine zJ_aload_n dX9_town_309 rfl ?_
          refine zJ_iconst (v := 0) dX9_town_310 (by decide) ?_
          refine zJ_puti dX9_town_311 fX9_333 (fun q h => by cases h; rfl) (by first | rfl | assumption | exact hM.at (by decide) (by decide) | exact M1.at (by decide) (by decide) | exact M2.at (by decide) (by decide) | exact M3.at (by decide) (by decide) | exact M4.at (by decide) (by decide) | exact M5.at (by decide) (by decide) | exact M6.at (by decide) (by decide)) rfl (by decide) (by decide) ?_
          refine zJ_iconst (v := 0) dX9_town_314 (by decide) ?_
          have hfF : zFM [66, 71, 76, 77] d (zsi (zsi (zsi (zsi d 100 71 0) 100 66 0) 100 76 0) 100 77 0) := (((zFM.i (by decide)).tr (zFM.i (by decide))).tr (zFM.i (by decide))).tr (zFM.i (by decide))
          have hfA : zFM zFtw w (zsi (zsi (zsi (zsi d 100 71 0) 100 66 0) 100 76 0) 100 77 0) := (hfc.tr (hf.mono (by decide))).tr (hfF.mono (by decide))
          have at9 : ∀ k, 1 ≤ k → k ≤ 9 → (zsi (zsi (zsi (zsi d 100 71 0) 100 66 0) 100 76 0) 100 77 0).2.1 100 k = D.2.1 100 k := fun k h1 h2 => ((hfF.at (by simp only [List.mem_cons, List.not_mem_nil, or_false]; omega)).trans ((hf.at (by simp only [List.mem_cons, List.not_mem_nil, or_false]; omega)).trans (hfE.at (by simp only [List.mem_cons, List.not_mem_nil, or_false]; omega))))
          have atg : ∀ k, k = 0 ∨ k = 14 ∨ k = 16 → (zsi (zsi (zsi (zsi d 100 71 0) 100 66 0) 100 76 0) 100 77 0).2.1 100 k = W.2.1 100 k ∨ k = 16 := fun k h1 => by
            rcases h1 with rfl | rfl | rfl
            · exact Or.inl ((hfF.at (by decide)).trans ((hf.at (by decide)).trans ((hfE.at (by decide)).trans ((hfD.at (by decide)).trans (hg.1.at (by decide))))))
            · exact Or.inl ((hfF.at (by decide)).trans ((hf.at (by decide)).trans ((hfE.at (by decide)).trans ((hfD.at (by decide)).trans (hg.1.at (by decide))))))
            · exact Or.inr rfl
          have at16 : (zsi (zsi (zsi (zsi d 100 71 0) 100 66 0) 100 76 0) 100 77 0).2.1 100 16 = -1 := (hfF.at (by decide)).trans ((hf.at (by decide)).trans ((hfE.at (by decide)).trans ((hfD.at (by decide)).trans hg.2.2.2.2.2.1)))
          have rw_ : ∀ k j, k = 10 ∨ k = 11 ∨ k = 12 → (zsi (zsi (zsi (zsi d 100 71 0) 100 66 0) 100 76 0) 100 77 0).2.1 (100 + k) j = E.2.1 (100 + k) j := fun k j h1 => (hfF.ar (by simp only [List.mem_cons, List.not_mem_nil, or_false]; omega) (by omega)).trans (hf.ar (by simp only [List.mem_cons, List.not_mem_nil, or_false]; omega) (by omega))
          refine zJ_iret dX9_town_315 rfl (by decide) (by decide) (hQ _ _ (Or.inr ⟨n, hn, rfl, ?_, ?_, ?_⟩))
          · exact ((atg 0 (by decide)).resolve_right (by decide)).trans k0
          · exact ((atg 14 (by decide)).resolve_right (by decide)).trans k14
          · rw [← hZ, hz]
            refine ⟨rfl, hfA, at16, fun j => ?_, ⟨hM.fm hfA, (at9 1 (by decide) (by decide)).trans d1, (at9 2 (by decide) (by decide)).trans d2, (at9 3 (by decide) (by decide)).trans d3, (at9 4 (by decide) (by decide)).trans d4, (at9 5 (by decide) (by decide)).trans d5, (at9 6 (by decide) (by decide)).trans d6, (at9 7 (by decide) (by decide)).trans d7, (at9 8 (by decide) (by decide)).trans d8, (at9 9 (by decide) (by decide)).trans d9, fun p hp => (rw_ 10 p (by decide)).trans ((r10 p (by omega)).trans (g10 p hp)), fun p hp => (rw_ 11 p (by decide)).trans ((r11 p (by omega)).trans (g11 p hp)), fun p q hp hq => (rw_ 12 _ (by decide)).trans ((r12 _ (by omega)).trans (g12 p q hp hq))⟩, hS, hsd, ?_, ?_, fun k hk => ?_, ?_, ?_, ?_, ?_⟩
            · exact (hfF.ar (k := 17) (by decide) (by decide)).trans ((hf.ar (k := 17) (by decide) (by decide)).trans ((hfE.ar (k := 17) (by decide) (by decide)).trans ((hfD.ar (k := 17) (by decide) (by decide)).trans ((hg.1.ar (k := 17) (by decide) (by decide)).trans (hfW.ar (k := 17) (by decide) (by decide))))))
            · exact (hfF.at (by decide)).trans ((hf.at (by decide)).trans x55)
            · exact (hfF.at (by decide)).trans ((hf.at (by decide)).trans x56)
            · exact (hfF.ar (k := 62) (by decide) (by decide)).trans (h0 k hk)
            · simp [zsi]
            · simp [zsi]
            · simp [zsi]
            · simp [zsi]
        · have hj9 : j < 32 := Nat.lt_of_not_le fun hq9 => h278 (by exact (nI_leI (a := 32) (b := j) (by omega) (by omega)).mpr hq9)
          refine zJ_aload_n dX9_town_281 rfl ?_
          refine zJ_getr (j := 162) dX9_town_282 fX9_104 (by first | rfl | assumption | exact hM.at (by decide) (by decide) | exact M1.at (by decide) (by decide) | exact M2.at (by decide) (by decide) | exact M3.at (by decide) (by decide) | exact M4.at (by decide) (by decide) | exact M5.at (by decide) (by decide) | exact M6.at (by decide) (by decide)) rfl (by first | rfl | assumption | exact hM.rf (by decide) rfl | exact M1.rf (by decide) rfl | exact M2.rf (by decide) rfl | exact M3.rf (by decide) rfl | exact M4.rf (by decide) rfl | exact M5.rf (by decide) rfl | exact M6.rf (by decide) rfl) ?_
          refine zJ_iload_n dX9_town_285 rfl ?_
          refine zJ_iconst (v := (-1)) dX9_town_286 (by decide) ?_
          refine zJ_iastN (i := j) dX9_town_287 (by first | rfl | assumption | exact hM.at (by decide) (by decide) | exact M1.at (by decide) (by decide) | exact M2.at (by decide) (by decide) | exact M3.at (by decide) (by decide) | exact M4.at (by decide) (by decide) | exact M5.at (by decide) (by decide) | exact M6.at (by decide) (by decide)) rfl (by omega) (by decide) ?_
          refine zJ_iinc (ls2 := fun x288 => [(2, .int x288), (0, .ref 100), (1, .int (nI n))]) dX9_town_288 rfl (by decide) (fun _ => rfl) (fun x288 ex288 => ?_)
          refine zJ_goto (tgt := 275) dX9_town_291 (by decide) ?_
          refine zJ_ls [(2, .int x288), (0, .ref 100), (1, .int (nI n))] (by simp) ?_
          rw [ex288, show nI j + Int32.ofInt 1 = nI (j + 1) from nI_1 _]
          refine ih (j + 1) (by omega) (by omega) _ (hf.tr (zFM.i (Or.inr (by decide)))) (fun q hq => ?_)
          by_cases hqj : q = j
          · subst hqj; simp [zsi]
          · have := h0 q (by omega)
            simp [zsi, hqj, this]
      refine zJ_aload_n dX9_town_133 rfl ?_
      refine zJ_cV0 dX9_town_134 sX9_224 mfX9_isGood (c_Mo_ig Δ hg) (by first | rfl | assumption | exact hM.at (by decide) (by decide) | exact M1.at (by decide) (by decide) | exact M2.at (by decide) (by decide) | exact M3.at (by decide) (by decide) | exact M4.at (by decide) (by decide) | exact M5.at (by decide) (by decide) | exact M6.at (by decide) (by decide)) rfl (Nat.le_of_ble_eq_true rfl) (by decide) (by decide) ?_
      refine zJ_if_ne (tgt := 155) dX9_town_137 (by decide) (fun _ => ?_) (fun h9 => False.elim (by revert h9; decide))
      refine zJ_aload_n dX9_town_155 rfl ?_
      refine zJ_aload_n dX9_town_156 rfl ?_
      refine zJ_getiN dX9_town_157 fX9_241 (by first | rfl | assumption | exact hM.at (by decide) (by decide) | exact M1.at (by decide) (by decide) | exact M2.at (by decide) (by decide) | exact M3.at (by decide) (by decide) | exact M4.at (by decide) (by decide) | exact M5.at (by decide) (by decide) | exact M6.at (by decide) (by decide)) rfl g0 ?_
      refine zJ_puti dX9_town_160 fX9_298 (fun q h => by cases h; rfl) (by first | rfl | assumption | exact hM.at (by decide) (by decide) | exact M1.at (by decide) (by decide) | exact M2.at (by decide) (by decide) | exact M3.at (by decide) (by decide) | exact M4.at (by decide) (by decide) | exact M5.at (by decide) (by decide) | exact M6.at (by decide) (by decide)) rfl rfl rfl ?_
      refine zJ_aload_n dX9_town_163 rfl ?_
      refine zJ_aload_n dX9_town_164 rfl ?_
      refine zJ_getiN dX9_town_165 fX9_288 (by first | rfl | assumption | exact hM.at (by decide) (by decide) | exact M1.at (by decide) (by decide) | exact M2.at (by decide) (by decide) | exact M3.at (by decide) (by decide) | exact M4.at (by decide) (by decide) | exact M5.at (by decide) (by decide) | exact M6.at (by decide) (by decide)) rfl g1 ?_
      refine zJ_puti dX9_town_168 fX9_301 (fun q h => by cases h; rfl) (by first | rfl | assumption | exact hM.at (by decide) (by decide) | exact M1.at (by decide) (by decide) | exact M2.at (by decide) (by decide) | exact M3.at (by decide) (by decide) | exact M4.at (by decide) (by decide) | exact M5.at (by decide) (by decide) | exact M6.at (by decide) (by decide)) rfl rfl rfl ?_
      refine zJ_aload_n dX9_town_171 rfl ?_
      refine zJ_aload_n dX9_town_172 rfl ?_
      refine zJ_getiN dX9_town_173 fX9_251 (by first | rfl | assumption | exact hM.at (by decide) (by decide) | exact M1.at (by decide) (by decide) | exact M2.at (by decide) (by decide) | exact M3.at (by decide) (by decide) | exact M4.at (by decide) (by decide) | exact M5.at (by decide) (by decide) | exact M6.at (by decide) (by decide)) rfl g2 ?_
      refine zJ_puti dX9_town_176 fX9_7 (fun q h => by cases h; rfl) (by first | rfl | assumption | exact hM.at (by decide) (by decide) | exact M1.at (by decide) (by decide) | exact M2.at (by decide) (by decide) | exact M3.at (by decide) (by decide) | exact M4.at (by decide) (by decide) | exact M5.at (by decide) (by decide) | exact M6.at (by decide) (by decide)) rfl rfl rfl ?_
      refine zJ_aload_n dX9_town_179 rfl ?_
      refine zJ_aload_n dX9_town_180 rfl ?_
      refine zJ_getiN dX9_town_181 fX9_254 (by first | rfl | assumption | exact hM.at (by decide) (by decide) | exact M1.at (by decide) (by decide) | exact M2.at (by decide) (by decide) | exact M3.at (by decide) (by decide) | exact M4.at (by decide) (by decide) | exact M5.at (by decide) (by decide) | exact M6.at (by decide) (by decide)) rfl g3 ?_
      refine zJ_puti dX9_town_184 fX9_13 (fun q h => by cases h; rfl) (by first | rfl | assumption | exact hM.at (by decide) (by decide) | exact M1.at (by decide) (by decide) | exact M2.at (by decide) (by decide) | exact M3.at (by decide) (by decide) | exact M4.at (by decide) (by decide) | exact M5.at (by decide) (by decide) | exact M6.at (by decide) (by decide)) rfl rfl rfl ?_
      refine zJ_aload_n dX9_town_187 rfl ?_
      refine zJ_aload_n dX9_town_188 rfl ?_
      refine zJ_getiN dX9_town_189 fX9_257 (by first | rfl | assumption | exact hM.at (by decide) (by decide) | exact M1.at (by decide) (by decide) | exact M2.at (by decide) (by decide) | exact M3.at (by decide) (by decide) | exact M4.at (by decide) (by decide) | exact M5.at (by decide) (by decide) | exact M6.at (by decide) (by decide)) rfl g4 ?_
      refine zJ_puti dX9_town_192 fX9_16 (fun q h => by cases h; rfl) (by first | rfl | assumption | exact hM.at (by decide) (by decide) | exact M1.at (by decide) (by decide) | exact M2.at (by decide) (by decide) | exact M3.at (by decide) (by decide) | exact M4.at (by decide) (by decide) | exact M5.at (by decide) (by decide) | exact M6.at (by decide) (by decide)) rfl rfl rfl ?_
      refine zJ_aload_n dX9_town_195 rfl ?_
      refine zJ_aload_n dX9_town_196 rfl ?_
      refine zJ_getiN dX9_town_197 fX9_260 (by first | rfl | assumption | exact hM.at (by decide) (by decide) | exact M1.at (by decide) (by decide) | exact M2.at (by decide) (by decide) | exact M3.at (by decide) (by decide) | exact M4.at (by decide) (by decide) | exact M5.at (by decide) (by decide) | exact M6.at (by decide) (by decide)) rfl g5 ?_
      refine zJ_puti dX9_town_200 fX9_304 (fun q h => by cases h; rfl) (by first | rfl | assumption | exact hM.at (by decide) (by decide) | exact M1.at (by decide) (by decide) | exact M2.at (by decide) (by decide) | exact M3.at (by decide) (by decide) | exact M4.at (by decide) (by decide) | exact M5.at (by decide) (by decide) | exact M6.at (by decide) (by decide)) rfl rfl rfl ?_
      refine zJ_aload_n dX9_town_203 rfl ?_
      refine zJ_aload_n dX9_town_204 rfl ?_
      refine zJ_getiN dX9_town_205 fX9_263 (by first | rfl | assumption | exact hM.at (by decide) (by decide) | exact M1.at (by decide) (by decide) | exact M2.at (by decide) (by decide) | exact M3.at (by decide) (by decide) | exact M4.at (by decide) (by decide) | exact M5.at (by decide) (by decide) | exact M6.at (by decide) (by decide)) rfl g6 ?_
      refine zJ_puti dX9_town_208 fX9_307 (fun q h => by cases h; rfl) (by first | rfl | assumption | exact hM.at (by decide) (by decide) | exact M1.at (by decide) (by decide) | exact M2.at (by decide) (by decide) | exact M3.at (by decide) (by decide) | exact M4.at (by decide) (by decide) | exact M5.at (by decide) (by decide) | exact M6.at (by decide) (by decide)) rfl rfl rfl ?_
      refine zJ_aload_n dX9_town_211 rfl ?_
      refine zJ_aload_n dX9_town_212 rfl ?_
      refine zJ_getiN dX9_town_213 fX9_278 (by first | rfl | assumption | exact hM.at (by decide) (by decide) | exact M1.at (by decide) (by decide) | exact M2.at (by decide) (by decide) | exact M3.at (by decide) (by decide) | exact M4.at (by decide) (by decide) | exact M5.at (by decide) (by decide) | exact M6.at (by decide) (by decide)) rfl g7 ?_
      refine zJ_puti dX9_town_216 fX9_310 (fun q h => by cases h; rfl) (by first | rfl | assumption | exact hM.at (by decide) (by decide) | exact M1.at (by decide) (by decide) | exact M2.at (by decide) (by decide) | exact M3.at (by decide) (by decide) | exact M4.at (by decide) (by decide) | exact M5.at (by decide) (by decide) | exact M6.at (by decide) (by decide)) rfl rfl rfl ?_
      refine zJ_aload_n dX9_town_219 rfl ?_
      refine zJ_aload_n dX9_town_220 rfl ?_
      refine zJ_getiN dX9_town_221 fX9_285 (by first | rfl | assumption | exact hM.at (by decide) (by decide) | exact M1.at (by decide) (by decide) | exact M2.at (by decide) (by decide) | exact M3.at (by decide) (by decide) | exact M4.at (by decide) (by decide) | exact M5.at (by decide) (by decide) | exact M6.at (by decide) (by decide)) rfl g8 ?_
      refine zJ_puti dX9_town_224 fX9_19 (fun q h => by cases h; rfl) (by first | rfl | assumption | exact hM.at (by decide) (by decide) | exact M1.at (by decide) (by decide) | exact M2.at (by decide) (by decide) | exact M3.at (by decide) (by decide) | exact M4.at (by decide) (by decide) | exact M5.at (by decide) (by decide) | exact M6.at (by decide) (by decide)) rfl rfl rfl ?_
      refine zJ_w (show D = _ from hD).symm ?_
      refine zJ_aload_n dX9_town_227 rfl ?_
      refine zJ_aload_n dX9_town_228 rfl ?_
      refine zJ_getr (j := 135) dX9_town_229 fX9_41 (by first | rfl | assumption | exact hM.at (by decide) (by decide) | exact M1.at (by decide) (by decide) | exact M2.at (by decide) (by decide) | exact M3.at (by decide) (by decide) | exact M4.at (by decide) (by decide) | exact M5.at (by decide) (by decide) | exact M6.at (by decide) (by decide)) rfl (by first | rfl | assumption | exact hM.rf (by decide) rfl | exact M1.rf (by decide) rfl | exact M2.rf (by decide) rfl | exact M3.rf (by decide) rfl | exact M4.rf (by decide) rfl | exact M5.rf (by decide) rfl | exact M6.rf (by decide) rfl) ?_
      refine zJ_aload_n dX9_town_232 rfl ?_
      refine zJ_getr (j := 110) dX9_town_233 fX9_22 (by first | rfl | assumption | exact hM.at (by decide) (by decide) | exact M1.at (by decide) (by decide) | exact M2.at (by decide) (by decide) | exact M3.at (by decide) (by decide) | exact M4.at (by decide) (by decide) | exact M5.at (by decide) (by decide) | exact M6.at (by decide) (by decide)) rfl (by first | rfl | assumption | exact hM.rf (by decide) rfl | exact M1.rf (by decide) rfl | exact M2.rf (by decide) rfl | exact M3.rf (by decide) rfl | exact M4.rf (by decide) rfl | exact M5.rf (by decide) rfl | exact M6.rf (by decide) rfl) ?_
      refine zJ_cV2 dX9_town_236 sX9_313 mfX9_copies (c_Mo_copies Δ D 135 110 8 8 (by decide) (by decide) (by decide) (by decide) (M2.at (by decide) (by decide)) (M2.at (by decide) (by decide))) (by first | rfl | assumption | exact hM.at (by decide) (by decide) | exact M1.at (by decide) (by decide) | exact M2.at (by decide) (by decide) | exact M3.at (by decide) (by decide) | exact M4.at (by decide) (by decide) | exact M5.at (by decide) (by decide) | exact M6.at (by decide) (by decide)) rfl (Nat.le_of_ble_eq_true rfl) (by decide) (by decide) ?_
      refine zJ_aload_n dX9_town_239 rfl ?_
      refine zJ_aload_n dX9_town_240 rfl ?_
      refine zJ_getr (j := 136) dX9_town_241 fX9_44 (by first | rfl | assumption | exact hM.at (by decide) (by decide) | exact M1.at (by decide) (by decide) | exact M2.at (by decide) (by decide) | exact M3.at (by decide) (by decide) | exact M4.at (by decide) (by decide) | exact M5.at (by decide) (by decide) | exact M6.at (by decide) (by decide)) rfl (by first | rfl | assumption | exact hM.rf (by decide) rfl | exact M1.rf (by decide) rfl | exact M2.rf (by decide) rfl | exact M3.rf (by decide) rfl | exact M4.rf (by decide) rfl | exact M5.rf (by decide) rfl | exact M6.rf (by decide) rfl) ?_
      refine zJ_aload_n dX9_town_244 rfl ?_
      refine zJ_getr (j := 111) dX9_town_245 fX9_26 (by first | rfl | assumption | exact hM.at (by decide) (by decide) | exact M1.at (by decide) (by decide) | exact M2.at (by decide) (by decide) | exact M3.at (by decide) (by decide) | exact M4.at (by decide) (by decide) | exact M5.at (by decide) (by decide) | exact M6.at (by decide) (by decide)) rfl (by first | rfl | assumption | exact hM.rf (by decide) rfl | exact M1.rf (by decide) rfl | exact M2.rf (by decide) rfl | exact M3.rf (by decide) rfl | exact M4.rf (by decide) rfl | exact M5.rf (by decide) rfl | exact M6.rf (by decide) rfl) ?_
      refine zJ_cV2 dX9_town_248 sX9_313 mfX9_copies (c_Mo_copies Δ (zrow D 110 (fun j => if j < 8 then D.2.1 135 j else D.2.1 110 j)) 136 111 8 8 (by decide) (by decide) (by decide) (by decide) (M2.at (by decide) (by decide)) (M2.at (by decide) (by decide))) (by first | rfl | assumption | exact hM.at (by decide) (by decide) | exact M1.at (by decide) (by decide) | exact M2.at (by decide) (by decide) | exact M3.at (by decide) (by decide) | exact M4.at (by decide) (by decide) | exact M5.at (by decide) (by decide) | exact M6.at (by decide) (by decide)) rfl (Nat.le_of_ble_eq_true rfl) (by decide) (by decide) ?_
      refine zJ_aload_n dX9_town_251 rfl ?_
      refine zJ_aload_n dX9_town_252 rfl ?_
      refine zJ_getr (j := 137) dX9_town_253 fX9_47 (by first | rfl | assumption | exact hM.at (by decide) (by decide) | exact M1.at (by decide) (by decide) | exact M2.at (by decide) (by decide) | exact M3.at (by decide) (by decide) | exact M4.at (by decide) (by decide) | exact M5.at (by decide) (by decide) | exact M6.at (by decide) (by decide)) rfl (by first | rfl | assumption | exact hM.rf (by decide) rfl | exact M1.rf (by decide) rfl | exact M2.rf (by decide) rfl | exact M3.rf (by decide) rfl | exact M4.rf (by decide) rfl | exact M5.rf (by decide) rfl | exact M6.rf (by decide) rfl) ?_
      refine zJ_aload_n dX9_town_256 rfl ?_
      refine zJ_getr (j := 112) dX9_town_257 fX9_29 (by first | rfl | assumption | exact hM.at (by decide) (by decide) | exact M1.at (by decide) (by decide) | exact M2.at (by decide) (by decide) | exact M3.at (by decide) (by decide) | exact M4.at (by decide) (by decide) | exact M5.at (by decide) (by decide) | exact M6.at (by decide) (by decide)) rfl (by first | rfl | assumption | exact hM.rf (by decide) rfl | exact M1.rf (by decide) rfl | exact M2.rf (by decide) rfl | exact M3.rf (by decide) rfl | exact M4.rf (by decide) rfl | exact M5.rf (by decide) rfl | exact M6.rf (by decide) rfl) ?_
      refine zJ_cV2 dX9_town_260 sX9_313 mfX9_copies (c_Mo_copies Δ (zrow (zrow D 110 (fun j => if j < 8 then D.2.1 135 j else D.2.1 110 j)) 111 (fun j => if j < 8 then (zrow D 110 (fun j => if j < 8 then D.2.1 135 j else D.2.1 110 j)).2.1 136 j else (zrow D 110 (fun j => if j < 8 then D.2.1 135 j else D.2.1 110 j)).2.1 111 j)) 137 112 64 64 (by decide) (by decide) (by decide) (by decide) (M2.at (by decide) (by decide)) (M2.at (by decide) (by decide))) (by first | rfl | assumption | exact hM.at (by decide) (by decide) | exact M1.at (by decide) (by decide) | exact M2.at (by decide) (by decide) | exact M3.at (by decide) (by decide) | exact M4.at (by decide) (by decide) | exact M5.at (by decide) (by decide) | exact M6.at (by decide) (by decide)) rfl (Nat.le_of_ble_eq_true rfl) (by decide) (by decide) ?_
      refine zJ_aload_n dX9_town_263 rfl ?_
      refine zJ_iconst (v := 0) dX9_town_264 (by decide) ?_
      refine zJ_puti dX9_town_265 fX9_317 (fun q h => by cases h; rfl) (by first | rfl | assumption | exact hM.at (by decide) (by decide) | exact M1.at (by decide) (by decide) | exact M2.at (by decide) (by decide) | exact M3.at (by decide) (by decide) | exact M4.at (by decide) (by decide) | exact M5.at (by decide) (by decide) | exact M6.at (by decide) (by decide)) rfl rfl rfl ?_
      refine zJ_aload_n dX9_town_268 rfl ?_
      refine zJ_iconst (v := 0) dX9_town_269 (by decide) ?_
      refine zJ_puti dX9_town_270 fX9_320 (fun q h => by cases h; rfl) (by first | rfl | assumption | exact hM.at (by decide) (by decide) | exact M1.at (by decide) (by decide) | exact M2.at (by decide) (by decide) | exact M3.at (by decide) (by decide) | exact M4.at (by decide) (by decide) | exact M5.at (by decide) (by decide) | exact M6.at (by decide) (by decide)) rfl rfl rfl ?_
      refine zJ_iconst (v := 0) dX9_town_273 (by decide) ?_
      refine zJ_istore_n (ls2 := fun x274k => [(2, .int x274k), (0, .ref 100), (1, .int (nI n))]) dX9_town_274 (by decide) (fun _ => rfl) (fun x274k ex274k => ?_)
      obtain rfl : x274k = (nI 0) := ex274k
      refine zJ_w (show E = _ from hE).symm ?_
      exact L 0 (Nat.zero_le _) E (zFM.rf _) (fun q hq => absurd hq (Nat.not_lt_zero q))
    have LO : ∀ (m : Nat) (S : zTo × Nat) (a : Nat) (c : zW), 701 ≤ a + m → a ≤ n → zGd W c tx n S (ztk tx n a) → zPk S → zTsd S.1 → zpa tx n m S a = Z → zJ Δ mX9_town (zRm 6 0 0) true w.1 QR (fun _ _ => False) 0 0 112 [(0, .ref 100), (1, .int (nI n))] [] c := by
      intro m
      induction m with
      | zero => intro S a c h1 h2; exact absurd h1 (by omega)
      | succ m ih =>
        intro S a c h1 h2 hg hS hsd hz
        have M1 := hg.2.1.1
        have f20 := hg.2.2.1.2.1
        have hk4 := hg.2.2.2.1.2.1.1
        simp only [zpa] at hz
        by_cases hk0 : (ztk tx n a).1 = 0
        · rw [if_pos hk0] at hz
          refine zJ_aload_n dX9_town_112 rfl ?_
          refine zJ_cV0 dX9_town_113 sX9_224 mfX9_isGood (c_Mo_ig Δ hg) (by first | rfl | assumption | exact hM.at (by decide) (by decide) | exact M1.at (by decide) (by decide) | exact M2.at (by decide) (by decide) | exact M3.at (by decide) (by decide) | exact M4.at (by decide) (by decide) | exact M5.at (by decide) (by decide) | exact M6.at (by decide) (by decide)) rfl (Nat.le_of_ble_eq_true rfl) (by decide) (by decide) ?_
          refine zJ_if_eq (tgt := 133) dX9_town_116 (by decide) (fun h9 => False.elim (by revert h9; decide)) (fun _ => ?_)
          refine zJ_aload_n dX9_town_119 rfl ?_
          refine zJ_getiN dX9_town_120 fX9_200 (by first | rfl | assumption | exact hM.at (by decide) (by decide) | exact M1.at (by decide) (by decide) | exact M2.at (by decide) (by decide) | exact M3.at (by decide) (by decide) | exact M4.at (by decide) (by decide) | exact M5.at (by decide) (by decide) | exact M6.at (by decide) (by decide)) rfl f20 ?_
          refine zJ_if_eq (tgt := 133) dX9_town_123 (by decide) (fun h123m => ?_) (fun h9 => absurd (by rw [hk0]; rfl) h9)
          exact G133 S _ c hg hS hsd hz.symm
        · rw [if_neg hk0] at hz
          refine zJ_aload_n dX9_town_112 rfl ?_
          refine zJ_cV0 dX9_town_113 sX9_224 mfX9_isGood (c_Mo_ig Δ hg) (by first | rfl | assumption | exact hM.at (by decide) (by decide) | exact M1.at (by decide) (by decide) | exact M2.at (by decide) (by decide) | exact M3.at (by decide) (by decide) | exact M4.at (by decide) (by decide) | exact M5.at (by decide) (by decide) | exact M6.at (by decide) (by decide)) rfl (Nat.le_of_ble_eq_true rfl) (by decide) (by decide) ?_
          refine zJ_if_eq (tgt := 133) dX9_town_116 (by decide) (fun h9 => False.elim (by revert h9; decide)) (fun _ => ?_)
          refine zJ_aload_n dX9_town_119 rfl ?_
          refine zJ_getiN dX9_town_120 fX9_200 (by first | rfl | assumption | exact hM.at (by decide) (by decide) | exact M1.at (by decide) (by decide) | exact M2.at (by decide) (by decide) | exact M3.at (by decide) (by decide) | exact M4.at (by decide) (by decide) | exact M5.at (by decide) (by decide) | exact M6.at (by decide) (by decide)) rfl f20 ?_
          refine zJ_if_eq (tgt := 133) dX9_town_123 (by decide) (fun h9 => absurd h9 (fun h => hk0 ((nI_eq (b := 0) (by omega) (by decide)).mp h))) (fun h123n => ?_)
          refine zJ_aload_n dX9_town_126 rfl ?_
          refine zJ_eV0 dX9_town_127 sX9_295 mfX9_line (c_Mo_line Δ hg hS) (by first | exact hM.at (by decide) (by decide) | exact M1.at (by decide) (by decide) | exact M2.at (by decide) (by decide) | exact M3.at (by decide) (by decide) | exact M4.at (by decide) (by decide) | exact M5.at (by decide) (by decide) | exact M6.at (by decide) (by decide)) rfl (Nat.le_of_ble_eq_true rfl) (by decide) (by decide) (fun r c2 hP => ?_)
          obtain ⟨rfl, hP⟩ := hP
          cases hl : zln tx n S (ztk tx n a) with
          | inl e =>
            rw [hl] at hP hz
            have hP : zBd W c2 tx n e := hP
            have M2 := hP.2.1.1
            refine zJ_goto (tgt := 112) dX9_town_130 (by decide) ?_
            refine zJ_aload_n dX9_town_112 rfl ?_
            refine zJ_cV0 dX9_town_113 sX9_224 mfX9_isGood (c_Mo_igB Δ hP) (by first | rfl | assumption | exact hM.at (by decide) (by decide) | exact M1.at (by decide) (by decide) | exact M2.at (by decide) (by decide) | exact M3.at (by decide) (by decide) | exact M4.at (by decide) (by decide) | exact M5.at (by decide) (by decide) | exact M6.at (by decide) (by decide)) rfl (Nat.le_of_ble_eq_true rfl) (by decide) (by decide) ?_
            refine zJ_if_eq (tgt := 133) dX9_town_116 (by decide) (fun _ => ?_) (fun h9 => False.elim (by revert h9; decide))
            exact B133 e c2 hP hz.symm
          | inr q =>
            rw [hl] at hP hz
            have hP : zGd W c2 tx n q.1 (ztk tx n q.2) := hP
            have ad := zln_adv h2 hsd hl
            refine zJ_goto (tgt := 112) dX9_town_130 (by decide) ?_
            exact ih q.1 q.2 c2 (by omega) ad.2.1 hP (zln_ok hS hl) ad.2.2 hz
    refine zJ_aload_n dX9_town_0 rfl ?_
    refine zJ_iconst (v := 0) dX9_town_1 (by decide) ?_
    refine zJ_puti dX9_town_2 fX9_170 (fun q h => by cases h; rfl) (by first | rfl | assumption | exact hM.at (by decide) (by decide) | exact M1.at (by decide) (by decide) | exact M2.at (by decide) (by decide) | exact M3.at (by decide) (by decide) | exact M4.at (by decide) (by decide) | exact M5.at (by decide) (by decide) | exact M6.at (by decide) (by decide)) rfl rfl rfl ?_
    refine zJ_aload_n dX9_town_5 rfl ?_
    refine zJ_iload_n dX9_town_6 rfl ?_
    refine zJ_if_lt (tgt := 22) dX9_town_7 (by decide) (fun h9 => absurd h9 (fun h => absurd h (Int32.not_lt.mpr ((nI_leI (a := 0) (by decide) (by omega)).mpr (Nat.zero_le _))))) (fun h7 => ?_)
    refine zJ_iload_n dX9_town_10 rfl ?_
    refine zJ_aload_n dX9_town_11 rfl ?_
    refine zJ_getiN dX9_town_12 fX9_173 (by first | rfl | assumption | exact hM.at (by decide) (by decide) | exact M1.at (by decide) (by decide) | exact M2.at (by decide) (by decide) | exact M3.at (by decide) (by decide) | exact M4.at (by decide) (by decide) | exact M5.at (by decide) (by decide) | exact M6.at (by decide) (by decide)) rfl e14 ?_
    refine zJ_icmp_gt (tgt := 22) dX9_town_15 (by decide) (fun h9 => absurd h9 (fun h => absurd ((nI_ltI (by omega) (by omega)).mp h) (by omega))) (fun h15 => ?_)
    refine zJ_iconst (v := 1) dX9_town_18 (by decide) ?_
    refine zJ_goto (tgt := 23) dX9_town_19 (by decide) ?_
    refine zJ_iconst (v := 1) dX9_town_23 (by decide) ?_
    refine zJ_cV2 dX9_town_24 sX9_291 mfX9_right (c_Mo_right1 Δ (zsi w 100 0 0) M0 z0 1) (by first | rfl | assumption | exact hM.at (by decide) (by decide) | exact M1.at (by decide) (by decide) | exact M2.at (by decide) (by decide) | exact M3.at (by decide) (by decide) | exact M4.at (by decide) (by decide) | exact M5.at (by decide) (by decide) | exact M6.at (by decide) (by decide)) rfl (Nat.le_of_ble_eq_true rfl) (by decide) (by decide) ?_
    refine zJ_if_ne (tgt := 32) dX9_town_27 (by decide) (fun _ => ?_) (fun h9 => False.elim (by revert h9; decide))
    refine zJ_aload_n dX9_town_32 rfl ?_
    refine zJ_iconst (v := 0) dX9_town_33 (by decide) ?_
    refine zJ_puti dX9_town_34 fX9_173 (fun q h => by cases h; rfl) (by first | rfl | assumption | exact hM.at (by decide) (by decide) | exact M1.at (by decide) (by decide) | exact M2.at (by decide) (by decide) | exact M3.at (by decide) (by decide) | exact M4.at (by decide) (by decide) | exact M5.at (by decide) (by decide) | exact M6.at (by decide) (by decide)) rfl rfl rfl ?_
    refine zJ_aload_n dX9_town_37 rfl ?_
    refine zJ_iconst (v := (-1)) dX9_town_38 (by decide) ?_
    refine zJ_puti dX9_town_39 fX9_35 (fun q h => by cases h; rfl) (by first | rfl | assumption | exact hM.at (by decide) (by decide) | exact M1.at (by decide) (by decide) | exact M2.at (by decide) (by decide) | exact M3.at (by decide) (by decide) | exact M4.at (by decide) (by decide) | exact M5.at (by decide) (by decide) | exact M6.at (by decide) (by decide)) rfl rfl rfl ?_
    refine zJ_aload_n dX9_town_42 rfl ?_
    refine zJ_iconst (v := 0) dX9_town_43 (by decide) ?_
    refine zJ_puti dX9_town_44 fX9_221 (fun q h => by cases h; rfl) (by first | rfl | assumption | exact hM.at (by decide) (by decide) | exact M1.at (by decide) (by decide) | exact M2.at (by decide) (by decide) | exact M3.at (by decide) (by decide) | exact M4.at (by decide) (by decide) | exact M5.at (by decide) (by decide) | exact M6.at (by decide) (by decide)) rfl rfl rfl ?_
    refine zJ_aload_n dX9_town_47 rfl ?_
    refine zJ_iload_n dX9_town_48 rfl ?_
    refine zJ_puti dX9_town_49 fX9_180 (fun q h => by cases h; rfl) (by first | rfl | assumption | exact hM.at (by decide) (by decide) | exact M1.at (by decide) (by decide) | exact M2.at (by decide) (by decide) | exact M3.at (by decide) (by decide) | exact M4.at (by decide) (by decide) | exact M5.at (by decide) (by decide) | exact M6.at (by decide) (by decide)) rfl rfl rfl ?_
    refine zJ_aload_n dX9_town_52 rfl ?_
    refine zJ_iconst (v := 0) dX9_town_53 (by decide) ?_
    refine zJ_puti dX9_town_54 fX9_183 (fun q h => by cases h; rfl) (by first | rfl | assumption | exact hM.at (by decide) (by decide) | exact M1.at (by decide) (by decide) | exact M2.at (by decide) (by decide) | exact M3.at (by decide) (by decide) | exact M4.at (by decide) (by decide) | exact M5.at (by decide) (by decide) | exact M6.at (by decide) (by decide)) rfl rfl rfl ?_
    refine zJ_aload_n dX9_town_57 rfl ?_
    refine zJ_iconst (v := 0) dX9_town_58 (by decide) ?_
    refine zJ_puti dX9_town_59 fX9_241 (fun q h => by cases h; rfl) (by first | rfl | assumption | exact hM.at (by decide) (by decide) | exact M1.at (by decide) (by decide) | exact M2.at (by decide) (by decide) | exact M3.at (by decide) (by decide) | exact M4.at (by decide) (by decide) | exact M5.at (by decide) (by decide) | exact M6.at (by decide) (by decide)) rfl rfl rfl ?_
    refine zJ_aload_n dX9_town_62 rfl ?_
    refine zJ_iconst (v := 0) dX9_town_63 (by decide) ?_
    refine zJ_puti dX9_town_64 fX9_288 (fun q h => by cases h; rfl) (by first | rfl | assumption | exact hM.at (by decide) (by decide) | exact M1.at (by decide) (by decide) | exact M2.at (by decide) (by decide) | exact M3.at (by decide) (by decide) | exact M4.at (by decide) (by decide) | exact M5.at (by decide) (by decide) | exact M6.at (by decide) (by decide)) rfl rfl rfl ?_
    refine zJ_aload_n dX9_town_67 rfl ?_
    refine zJ_iconst (v := 1) dX9_town_68 (by decide) ?_
    refine zJ_puti dX9_town_69 fX9_251 (fun q h => by cases h; rfl) (by first | rfl | assumption | exact hM.at (by decide) (by decide) | exact M1.at (by decide) (by decide) | exact M2.at (by decide) (by decide) | exact M3.at (by decide) (by decide) | exact M4.at (by decide) (by decide) | exact M5.at (by decide) (by decide) | exact M6.at (by decide) (by decide)) rfl rfl rfl ?_
    refine zJ_aload_n dX9_town_72 rfl ?_
    refine zJ_iconst (v := 1) dX9_town_73 (by decide) ?_
    refine zJ_puti dX9_town_74 fX9_254 (fun q h => by cases h; rfl) (by first | rfl | assumption | exact hM.at (by decide) (by decide) | exact M1.at (by decide) (by decide) | exact M2.at (by decide) (by decide) | exact M3.at (by decide) (by decide) | exact M4.at (by decide) (by decide) | exact M5.at (by decide) (by decide) | exact M6.at (by decide) (by decide)) rfl rfl rfl ?_
    refine zJ_aload_n dX9_town_77 rfl ?_
    refine zJ_bipush (v := 8) dX9_town_78 (by decide) ?_
    refine zJ_puti dX9_town_80 fX9_257 (fun q h => by cases h; rfl) (by first | rfl | assumption | exact hM.at (by decide) (by decide) | exact M1.at (by decide) (by decide) | exact M2.at (by decide) (by decide) | exact M3.at (by decide) (by decide) | exact M4.at (by decide) (by decide) | exact M5.at (by decide) (by decide) | exact M6.at (by decide) (by decide)) rfl rfl rfl ?_
    refine zJ_aload_n dX9_town_83 rfl ?_
    refine zJ_iconst (v := 0) dX9_town_84 (by decide) ?_
    refine zJ_puti dX9_town_85 fX9_260 (fun q h => by cases h; rfl) (by first | rfl | assumption | exact hM.at (by decide) (by decide) | exact M1.at (by decide) (by decide) | exact M2.at (by decide) (by decide) | exact M3.at (by decide) (by decide) | exact M4.at (by decide) (by decide) | exact M5.at (by decide) (by decide) | exact M6.at (by decide) (by decide)) rfl rfl rfl ?_
    refine zJ_aload_n dX9_town_88 rfl ?_
    refine zJ_iconst (v := 0) dX9_town_89 (by decide) ?_
    refine zJ_puti dX9_town_90 fX9_263 (fun q h => by cases h; rfl) (by first | rfl | assumption | exact hM.at (by decide) (by decide) | exact M1.at (by decide) (by decide) | exact M2.at (by decide) (by decide) | exact M3.at (by decide) (by decide) | exact M4.at (by decide) (by decide) | exact M5.at (by decide) (by decide) | exact M6.at (by decide) (by decide)) rfl rfl rfl ?_
    refine zJ_aload_n dX9_town_93 rfl ?_
    refine zJ_iconst (v := 0) dX9_town_94 (by decide) ?_
    refine zJ_puti dX9_town_95 fX9_278 (fun q h => by cases h; rfl) (by first | rfl | assumption | exact hM.at (by decide) (by decide) | exact M1.at (by decide) (by decide) | exact M2.at (by decide) (by decide) | exact M3.at (by decide) (by decide) | exact M4.at (by decide) (by decide) | exact M5.at (by decide) (by decide) | exact M6.at (by decide) (by decide)) rfl rfl rfl ?_
    refine zJ_aload_n dX9_town_98 rfl ?_
    refine zJ_iconst (v := 1) dX9_town_99 (by decide) ?_
    refine zJ_puti dX9_town_100 fX9_285 (fun q h => by cases h; rfl) (by first | rfl | assumption | exact hM.at (by decide) (by decide) | exact M1.at (by decide) (by decide) | exact M2.at (by decide) (by decide) | exact M3.at (by decide) (by decide) | exact M4.at (by decide) (by decide) | exact M5.at (by decide) (by decide) | exact M6.at (by decide) (by decide)) rfl rfl rfl ?_
    refine zJ_aload_n dX9_town_103 rfl ?_
    refine zJ_iconst (v := 0) dX9_town_104 (by decide) ?_
    refine zJ_puti dX9_town_105 fX9_272 (fun q h => by cases h; rfl) (by first | rfl | assumption | exact hM.at (by decide) (by decide) | exact M1.at (by decide) (by decide) | exact M2.at (by decide) (by decide) | exact M3.at (by decide) (by decide) | exact M4.at (by decide) (by decide) | exact M5.at (by decide) (by decide) | exact M6.at (by decide) (by decide)) rfl rfl rfl ?_
    refine zJ_w (show W = _ from hW).symm ?_
    have M1 := MW
    refine zJ_aload_n dX9_town_108 rfl ?_
    refine zJ_eV0 dX9_town_109 sX9_228 mfX9_steps (c_Mo_steps Δ W tx n 0 RW (Nat.zero_le _) k19) (by first | exact hM.at (by decide) (by decide) | exact M1.at (by decide) (by decide) | exact M2.at (by decide) (by decide) | exact M3.at (by decide) (by decide) | exact M4.at (by decide) (by decide) | exact M5.at (by decide) (by decide) | exact M6.at (by decide) (by decide)) rfl (Nat.le_of_ble_eq_true rfl) (by decide) (by decide) (fun r c1 hP => ?_)
    obtain ⟨rfl, hfc, hkc⟩ := hP
    exact LO 701 (zT0, 0) 0 c1 (by omega) (Nat.zero_le _) ⟨hfc.mono (by decide), RW.fm hfc (by decide), hkc, ztk_q (Nat.zero_le _), (hfc.at (by decide)).trans k15, (hfc.at (by decide)).trans k16, kN.fm hfc (fun k h1 h2 h3 => by simp only [List.mem_cons, List.not_mem_nil, or_false] at h3; omega)⟩ zPk_0 (fun p hp => absurd hp (by simp [zT0])) hZ.symm
  · skip
    refine zJ_aload_n dX9_town_0 rfl ?_
    refine zJ_iconst (v := 0) dX9_town_1 (by decide) ?_
    refine zJ_puti dX9_town_2 fX9_170 (fun q h => by cases h; rfl) (by first | rfl | assumption | exact hM.at (by decide) (by decide) | exact M1.at (by decide) (by decide) | exact M2.at (by decide) (by decide) | exact M3.at (by decide) (by decide) | exact M4.at (by decide) (by decide) | exact M5.at (by decide) (by decide) | exact M6.at (by decide) (by decide)) rfl rfl rfl ?_
    refine zJ_aload_n dX9_town_5 rfl ?_
    refine zJ_iload_n dX9_town_6 rfl ?_
    refine zJ_if_lt (tgt := 22) dX9_town_7 (by decide) (fun h7 => ?_) (fun h7 => ?_)
    · refine zJ_iconst (v := 0) dX9_town_22 (by decide) ?_
      refine zJ_iconst (v := 1) dX9_town_23 (by decide) ?_
      refine zJ_cV2 dX9_town_24 sX9_291 mfX9_right (c_Mo_right0 Δ (zsi w 100 0 0) M0 z0 1 (by decide)) (by first | rfl | assumption | exact hM.at (by decide) (by decide) | exact M1.at (by decide) (by decide) | exact M2.at (by decide) (by decide) | exact M3.at (by decide) (by decide) | exact M4.at (by decide) (by decide) | exact M5.at (by decide) (by decide) | exact M6.at (by decide) (by decide)) rfl (Nat.le_of_ble_eq_true rfl) (by decide) (by decide) ?_
      refine zJ_if_ne (tgt := 32) dX9_town_27 (by decide) (fun h9 => False.elim (by revert h9; decide)) (fun _ => ?_)
      refine zJ_iconst (v := 0) dX9_town_30 (by decide) ?_
      exact zJ_iret dX9_town_31 rfl (by decide) (by decide) (hQ _ _ (Or.inl ⟨hx, rfl⟩))
    · refine zJ_iload_n dX9_town_10 rfl ?_
      refine zJ_aload_n dX9_town_11 rfl ?_
      refine zJ_getiN dX9_town_12 fX9_173 (by first | rfl | assumption | exact hM.at (by decide) (by decide) | exact M1.at (by decide) (by decide) | exact M2.at (by decide) (by decide) | exact M3.at (by decide) (by decide) | exact M4.at (by decide) (by decide) | exact M5.at (by decide) (by decide) | exact M6.at (by decide) (by decide)) rfl e14 ?_
      refine zJ_icmp_gt (tgt := 22) dX9_town_15 (by decide) (fun h15 => ?_) (fun h15 => ?_)
      · refine zJ_iconst (v := 0) dX9_town_22 (by decide) ?_
        refine zJ_iconst (v := 1) dX9_town_23 (by decide) ?_
        refine zJ_cV2 dX9_town_24 sX9_291 mfX9_right (c_Mo_right0 Δ (zsi w 100 0 0) M0 z0 1 (by decide)) (by first | rfl | assumption | exact hM.at (by decide) (by decide) | exact M1.at (by decide) (by decide) | exact M2.at (by decide) (by decide) | exact M3.at (by decide) (by decide) | exact M4.at (by decide) (by decide) | exact M5.at (by decide) (by decide) | exact M6.at (by decide) (by decide)) rfl (Nat.le_of_ble_eq_true rfl) (by decide) (by decide) ?_
        refine zJ_if_ne (tgt := 32) dX9_town_27 (by decide) (fun h9 => False.elim (by revert h9; decide)) (fun _ => ?_)
        refine zJ_iconst (v := 0) dX9_town_30 (by decide) ?_
        exact zJ_iret dX9_town_31 rfl (by decide) (by decide) (hQ _ _ (Or.inl ⟨hx, rfl⟩))
      · obtain ⟨t, ht31, rfl⟩ := nI_of h7
        exact absurd ⟨t, (nI_leI (by omega) (by omega)).mp (Int32.not_lt.mp h15), rfl⟩ hx
