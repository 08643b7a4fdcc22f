/-! LetterTown$Reader: the TOWN -/
def zmB (B : Nat) (x : (Nat × Nat) ⊕ (zTo × Nat)) : (Nat × Nat) ⊕ ((zTo × Nat) × Nat) := match x with
  | .inl e => .inl e
  | .inr q => .inr ((q.1, B), q.2)
def zon (B q : Nat) (t : zTkn) (x : (Nat × Nat) ⊕ (zTo × Nat)) : (Nat × Nat) ⊕ ((zTo × Nat) × Nat) := if B.testBit q then .inl (5, t.2.1) else zmB (B ||| 2 ^ q) x
def zln (tx : Nat → Nat) (n : Nat) (S : zTo × Nat) (t : zTkn) : (Nat × Nat) ⊕ ((zTo × Nat) × Nat) :=
  if zwd tx t 0 then zmB S.2 (zcl (zlP tx n S.1 t)) else if zwd tx t 1 then zmB S.2 (zcl (zlK tx n S.1 t))
  else if zwd tx t 2 then zon S.2 0 t (zcl (zlL tx n S.1 t)) else if zwd tx t 3 then zon S.2 1 t (zcl (zlW tx n S.1 t))
  else if zwd tx t 4 then zon S.2 2 t (zcl (zlX tx n S.1 t)) else if zwd tx t 5 then zon S.2 3 t (zcl (zlF tx n S.1 t)) else .inl (1, t.2.1)
/-- the TOWN that is told, or its first FAULT -/
def zpa (tx : Nat → Nat) (n : Nat) : Nat → (zTo × Nat) → Nat → (Nat × Nat) ⊕ (zTo × Nat)
  | 0, S, _ => .inr S
  | m + 1, S, a => if (ztk tx n a).1 = 0 then .inr S else match zln tx n S (ztk tx n a) with
    | .inl e => .inl e
    | .inr q => zpa tx n m q.1 q.2
def zPk (S : zTo × Nat) : Prop := zTok S.1 ∧ zcan S.1 ∧ (S.1.1 0 = 0 → S.1.1 12 = 0) ∧ S.2 < 16 ∧ S.1.1 13 = 0
theorem zrN_v {lo hi v : Nat} {t : zTkn} (h : zrN lo hi t = .inr v) : lo ≤ v ∧ v ≤ hi := by
  simp only [zrN] at h
  split at h
  · cases h
  · split at h
    · cases h
    · cases h; omega
theorem zrK_v {pp v : Nat} {t : zTkn} (h : zrK pp t = .inr v) : v < pp := by
  simp only [zrK] at h
  split at h
  · cases h
  · split at h
    · cases h; assumption
    · cases h
theorem zrP_v {tx : Nat → Nat} {n i lo hi wo : Nat} {t : zTkn} {q : Nat × zTkn} (h : zrP tx n i lo hi wo t = .inr q) (hw : lo ≤ wo ∧ wo ≤ hi) : lo ≤ q.1 ∧ q.1 ≤ hi := by
  simp only [zrP] at h
  split at h
  · split at h
    · cases h
    · rename_i h2
      cases h; exact zrN_v h2
  · cases h; exact hw
theorem zTok.s {T : zTo} (hT : zTok T) {k v : Nat} (h : (k = 5 ∧ v ≤ 9999) ∨ (k = 6 ∧ v ≤ 99) ∨ (k = 7 ∧ 1 ≤ v ∧ v ≤ 12) ∨ (k = 8 ∧ v ≤ 9999) ∨ (k = 9 ∧ v ≤ 9999) ∨ (k = 10 ∧ v ≤ 2) ∨ (k = 11 ∧ 1 ≤ v ∧ v ≤ 99) ∨ (k = 12 ∧ v < T.1 0) ∨ (k = 13 ∧ v < 256)) : zTok (zTs T k v) := by
  obtain ⟨h0, h5, h6, h7, h8, h9, h10, h11, h12, h13, hp, hw⟩ := hT
  have e : ∀ j, (zTs T k v).1 j = if j = k then v else T.1 j := fun _ => rfl
  have e0 : (zTs T k v).1 0 = T.1 0 := by rw [e, if_neg (by omega)]
  refine ⟨?_, ?_, ?_, ?_, ?_, ?_, ?_, ?_, ?_, ?_, fun p => ?_, fun p q a b => ?_⟩
  · rw [e0]; exact h0
  · rw [e]; split <;> omega
  · rw [e]; split <;> omega
  · rw [e]; split <;> omega
  · rw [e]; split <;> omega
  · rw [e]; split <;> omega
  · rw [e]; split <;> omega
  · rw [e]; split <;> omega
  · rw [e0, e]
    have := h12.2
    split <;> omega
  · rw [e]; split <;> omega
  · rw [e0]; exact hp p
  · rw [e0]; exact hw p q a b
theorem zcan.s {T : zTo} (h : zcan T) {k v : Nat} (hk : k < 14 ∧ (k = 0 ∨ 5 ≤ k)) : zcan (zTs T k v) := ⟨fun j hj => by
  have : ¬ j = k := fun e => hj (e ▸ hk)
  simp only [zTs, this, if_false]; exact h.1 j hj, h.2.1, h.2.2⟩
theorem zPk.s {S : zTo × Nat} (h : zPk S) {k v B : Nat} (hk : (k = 5 ∧ v ≤ 9999) ∨ (k = 6 ∧ v ≤ 99) ∨ (k = 7 ∧ 1 ≤ v ∧ v ≤ 12) ∨ (k = 8 ∧ v ≤ 9999) ∨ (k = 9 ∧ v ≤ 9999) ∨ (k = 10 ∧ v ≤ 2) ∨ (k = 11 ∧ 1 ≤ v ∧ v ≤ 99) ∨ (k = 12 ∧ v < S.1.1 0)) (hB : B < 16) : zPk (zTs S.1 k v, B) := by
  obtain ⟨h1, h2, h3, h4, h5⟩ := h
  refine ⟨h1.s (by omega), h2.s (by omega), ?_, hB, ?_⟩
  · simp only [zTs]
    intro h0
    have h00 : S.1.1 0 = 0 := by
      rw [if_neg (by omega)] at h0; exact h0
    by_cases h12 : 12 = k
    · omega
    · rw [if_neg h12]; exact h3 h00
  · simp only [zTs]; rw [if_neg (by omega)]; exact h5
theorem zPk.p {S : zTo × Nat} (h : zPk S) {s v : Nat} (h8 : S.1.1 0 < 8) (hs : s ≤ 3) (hv : v ≤ 9999) (h2 : s = 2 → v ≤ 1000) : zPk (zTp S.1 s v, S.2) := by
  obtain ⟨⟨a0, a5, a6, a7, a8, a9, a10, a11, a12, a13, ap, aw⟩, ⟨c1, c2, c3⟩, b1, b2, b3⟩ := h
  refine ⟨⟨?_, a5, a6, a7, a8, a9, a10, a11, ?_, a13, fun p => ?_, fun p q hp hq => ?_⟩, ⟨fun k hk => ?_, fun p hp => ?_, c3⟩, ?_, b2, b3⟩
  · simp only [zTp, if_true]; omega
  · simp only [zTp, if_true]
    refine ⟨a12.1, fun _ => ?_⟩
    simp
    by_cases h0 : S.1.1 0 = 0
    · rw [b1 h0]; omega
    · have := a12.2 (by omega); omega
  · have := ap p
    simp only [zTp]
    by_cases hp : p = S.1.1 0
    · simp only [hp, if_true]; exact ⟨hs, hv, h2, fun h => by omega⟩
    · simp only [hp, if_false]; exact ⟨this.1, this.2.1, this.2.2.1, fun h => this.2.2.2 (by simp at h; omega)⟩
  · have := aw p q hp hq
    simp only [zTp]
    exact ⟨this.1, fun h => by have := this.2 h; simp; omega⟩
  · have : ¬ k = 0 := fun e => hk ⟨by omega, Or.inl e⟩
    simp only [zTp, this, if_false]; exact c1 k hk
  · have : ¬ p = S.1.1 0 := by omega
    simp only [zTp, this, if_false]; exact c2 p hp
  · simp [zTp]
theorem zPk.e {S : zTo × Nat} (h : zPk S) {a b v : Nat} (ha : a < S.1.1 0) (hb : b < S.1.1 0) (hv : v ≤ 99) : zPk (zTe S.1 a b v, S.2) := by
  obtain ⟨⟨a0, a5, a6, a7, a8, a9, a10, a11, a12, a13, ap, aw⟩, ⟨c1, c2, c3⟩, b1, b2, b3⟩ := h
  refine ⟨⟨a0, a5, a6, a7, a8, a9, a10, a11, a12, a13, ap, fun p q hp hq => ?_⟩, ⟨c1, c2, fun i hi => ?_⟩, b1, b2, b3⟩
  · have := aw p q hp hq
    simp only [zTe]
    by_cases he : p * 8 + q = a * 8 + b
    · have h1 : p = a := by omega
      have h2 : q = b := by omega
      rw [if_pos he]; exact ⟨hv, fun _ => by omega⟩
    · rw [if_neg he]; exact this
  · simp only [zTe]; rw [if_neg (by omega)]; exact c3 i hi
theorem or_16 {B q : Nat} (hB : B < 16) (hq : q < 4) : B ||| 2 ^ q < 16 := Nat.or_lt_two_pow (n := 4) hB (by
  have := Nat.pow_lt_pow_right (a := 2) (m := q) (n := 4) (by decide) hq
  omega)
theorem zcl_in {x : zLX} {T : zTo} {a : Nat} (h : zcl x = .inr (T, a)) : ∃ t, x = .inr (T, t) := by
  cases x with
  | inl e => cases h
  | inr q =>
    simp only [zcl] at h
    split at h
    · cases h; exact ⟨q.2, rfl⟩
    · cases h
theorem zmB_in {B : Nat} {x : zLX} {q : (zTo × Nat) × Nat} (h : zmB B (zcl x) = .inr q) : q.1.2 = B ∧ ∃ t, x = .inr (q.1.1, t) := by
  cases hx : zcl x with
  | inl e => rw [hx] at h; cases h
  | inr y => rw [hx] at h; cases h; exact ⟨rfl, zcl_in hx⟩
theorem zon_in {B k : Nat} {t : zTkn} {x : zLX} {q : (zTo × Nat) × Nat} (h : zon B k t (zcl x) = .inr q) : q.1.2 = B ||| 2 ^ k ∧ ∃ t, x = .inr (q.1.1, t) := by
  simp only [zon] at h
  split at h
  · cases h
  · exact zmB_in h
theorem zln_ok {tx : Nat → Nat} {n : Nat} {S : zTo × Nat} {t : zTkn} {q : (zTo × Nat) × Nat} (hS : zPk S) (h : zln tx n S t = .inr q) : zPk q.1 := by
  obtain ⟨⟨T', B'⟩, a'⟩ := q
  simp only [zln] at h
  split at h
  · obtain ⟨rfl, t2, hx⟩ := zmB_in h
    simp only [zlP] at hx
    split at hx
    · cases hx
    · rename_i h8
      split at hx
      · cases hx
      · rename_i s hs
        have hs4 := zso_4 hs
        split at hx
        · rename_i h02
          split at hx
          · cases hx
          · rename_i v hv
            cases hx
            have := zrN_v hv
            refine hS.p (by omega) (by omega) ?_ (fun h => ?_)
            · split at this <;> omega
            · rw [if_pos h] at this; omega
        · split at hx
          · split at hx
            · cases hx
            · rename_i q hq
              cases hx
              have := zrP_v hq (by decide)
              exact hS.p (by omega) (by omega) (by omega) (fun h => by omega)
          · cases hx
            exact hS.p (by omega) (by omega) (by omega) (fun h => by omega)
  · split at h
    · obtain ⟨rfl, t2, hx⟩ := zmB_in h
      simp only [zlK] at hx
      split at hx
      · cases hx
      · rename_i a ha
        split at hx
        · cases hx
        · rename_i b hb
          split at hx
          · cases hx
          · split at hx
            · cases hx
            · rename_i q hq
              cases hx
              have := zrP_v hq (by decide)
              exact hS.e (zrK_v ha) (zrK_v hb) (by omega)
    · split at h
      · obtain ⟨rfl, t2, hx⟩ := zon_in h
        simp only [zlL] at hx
        split at hx
        · cases hx
        · rename_i v1 h1
          split at hx
          · cases hx
          · rename_i v2 h2
            split at hx
            · cases hx
            · rename_i v3 h3
              split at hx
              · cases hx
              · rename_i q4 h4
                split at hx
                · cases hx
                · rename_i q5 h5
                  cases hx
                  have e1 := zrN_v h1
                  have e2 := zrN_v h2
                  have e3 := zrN_v h3
                  have e4 := zrP_v h4 (by decide)
                  have e5 := zrP_v h5 (by decide)
                  have hB := or_16 (q := 0) hS.2.2.2.1 (by decide)
                  exact ((((hS.s (k := 5) (B := S.2) (by omega) hS.2.2.2.1).s (k := 6) (B := S.2) (by simp; omega) hS.2.2.2.1).s (k := 7) (B := S.2) (by simp; omega) hS.2.2.2.1).s (k := 8) (B := S.2) (by simp; omega) hS.2.2.2.1).s (k := 9) (by simp; omega) hB
      · split at h
        · obtain ⟨rfl, t2, hx⟩ := zon_in h
          have hB := or_16 (q := 1) hS.2.2.2.1 (by decide)
          simp only [zlW] at hx
          split at hx
          · cases hx; exact hS.s (by omega) hB
          · split at hx
            · cases hx; exact hS.s (by omega) hB
            · split at hx
              · cases hx; exact hS.s (by omega) hB
              · cases hx
        · split at h
          · obtain ⟨rfl, t2, hx⟩ := zon_in h
            have hB := or_16 (q := 2) hS.2.2.2.1 (by decide)
            simp only [zlX] at hx
            split at hx
            · cases hx
            · rename_i v hv
              cases hx
              have := zrN_v hv
              exact hS.s (by omega) hB
          · split at h
            · obtain ⟨rfl, t2, hx⟩ := zon_in h
              have hB := or_16 (q := 3) hS.2.2.2.1 (by decide)
              simp only [zlF] at hx
              split at hx
              · cases hx
              · rename_i v hv
                cases hx
                have := zrK_v hv
                exact hS.s (by omega) hB
            · cases h
def zLs (w c : zW) (n : Nat) (r : Option Value) (x : (Nat × Nat) ⊕ ((zTo × Nat) × Nat)) : Prop := match x with
  | .inl e => r = some (.int 0) ∧ zEr w c e
  | .inr q => r = some (.int 1) ∧ zFd w c ∧ zTi c 4 q.1.1 ∧ c.2.1 3 8 = nI q.1.2 ∧ c.2.1 3 3 = nI q.2 ∧ q.2 ≤ n ∧ c.2.1 3 9 = w.2.1 3 9 ∧ c.2.1 3 10 = w.2.1 3 10
theorem zLr.s {w w1 c : zW} {n B : Nat} {r : Option Value} {X : (Nat × Nat) ⊕ (zTo × Nat)} (h : zLr w1 c n r X) (hf : zFd w w1) (h8 : w1.2.1 3 8 = nI B) (h9 : w1.2.1 3 9 = w.2.1 3 9) (h10 : w1.2.1 3 10 = w.2.1 3 10) : zLs w c n r (zmB B X) := by
  cases X with
  | inl e => exact ⟨h.1, h.2.pre hf⟩
  | inr q =>
    obtain ⟨a1, a2, a3, a4, a5⟩ := h
    exact ⟨a1, hf.tr a2.d, a3, (a2.2.2 3 8 (by omega)).trans h8, a4, a5, (a2.2.2 3 9 (by omega)).trans h9, (a2.2.2 3 10 (by omega)).trans h10⟩
theorem zLr.r {w c : zW} {n : Nat} {r : Option Value} {X : (Nat × Nat) ⊕ (zTo × Nat)} (h : zLr w c n r X) : r = some (.int 0) ∨ r = some (.int 1) := by
  cases X with
  | inl e => exact Or.inl h.1
  | inr q => exact Or.inr h.1
set_option maxRecDepth 100000 in
theorem c_Rd_readLine (Δ : zD) (w : zW) (tx : Nat → Nat) (n : Nat) (t : zTkn) (S : zTo × Nat) (hR : zRe w tx n) (hi : zTi w 4 S.1) (hS : zPk S) (ht : zRp w t) (hk4 : t.1 ≤ 4) (hle : t.2.1 ≤ t.2.2.1 ∧ t.2.2.1 ≤ n) (h8 : w.2.1 3 8 = nI S.2) : zMp Δ 7 yX2_readLine mX2_readLine [.ref 3] w (fun r c => zLs w c n r (zln tx n S t)) := by
  refine zMp.of mfX2_readLine (Nat.le_of_ble_eq_true rfl) (fun QR hQ => ?_)
  have hC := hR.1
  have hT := hS.1
  have hB := hS.2.2.2.1
  refine zJ_aload_n dX2_readLine_0 rfl ?_
  refine zJ_ldcS (j := 0) (tx := "person") dX2_readLine_1 (by decide +kernel) ?_
  refine zJ_cV1 dX2_readLine_3 sX2_84 mfX2_isWord (c_Rd_isWord Δ w tx n 0 t hR (by decide) ht hk4 hle) (by first | rfl | assumption | exact hC.1 _ (by decide)) rfl (Nat.le_of_ble_eq_true rfl) (by decide) (by decide) ?_
  refine zJ_if_eq (tgt := 14) dX2_readLine_6 (by decide) (fun h6 => ?_) (fun h6 => ?_)
  · have hw0 : zwd tx t 0 = false := by
      cases hz : zwd tx t 0 with
      | false => rfl
      | true => rw [hz] at h6; exact absurd h6 (by decide)
    refine zJ_aload_n dX2_readLine_14 rfl ?_
    refine zJ_ldcS (j := 1) (tx := "knows") dX2_readLine_15 (by decide +kernel) ?_
    refine zJ_cV1 dX2_readLine_17 sX2_84 mfX2_isWord (c_Rd_isWord Δ w tx n 1 t hR (by decide) ht hk4 hle) (by first | rfl | assumption | exact hC.1 _ (by decide)) rfl (Nat.le_of_ble_eq_true rfl) (by decide) (by decide) ?_
    refine zJ_if_eq (tgt := 28) dX2_readLine_20 (by decide) (fun h20 => ?_) (fun h20 => ?_)
    · have hw1 : zwd tx t 1 = false := by
        cases hz : zwd tx t 1 with
        | false => rfl
        | true => rw [hz] at h20; exact absurd h20 (by decide)
      refine zJ_aload_n dX2_readLine_28 rfl ?_
      refine zJ_ldcS (j := 2) (tx := "letter") dX2_readLine_29 (by decide +kernel) ?_
      refine zJ_cV1 dX2_readLine_31 sX2_84 mfX2_isWord (c_Rd_isWord Δ w tx n 2 t hR (by decide) ht hk4 hle) (by first | rfl | assumption | exact hC.1 _ (by decide)) rfl (Nat.le_of_ble_eq_true rfl) (by decide) (by decide) ?_
      refine zJ_if_eq (tgt := 58) dX2_readLine_34 (by decide) (fun h34 => ?_) (fun h34 => ?_)
      · have hw2 : zwd tx t 2 = false := by
          cases hz : zwd tx t 2 with
          | false => rfl
          | true => rw [hz] at h34; exact absurd h34 (by decide)
        refine zJ_aload_n dX2_readLine_58 rfl ?_
        refine zJ_ldcS (j := 3) (tx := "law") dX2_readLine_59 (by decide +kernel) ?_
        refine zJ_cV1 dX2_readLine_61 sX2_84 mfX2_isWord (c_Rd_isWord Δ w tx n 3 t hR (by decide) ht hk4 hle) (by first | rfl | assumption | exact hC.1 _ (by decide)) rfl (Nat.le_of_ble_eq_true rfl) (by decide) (by decide) ?_
        refine zJ_if_eq (tgt := 88) dX2_readLine_64 (by decide) (fun h64 => ?_) (fun h64 => ?_)
        · have hw3 : zwd tx t 3 = false := by
            cases hz : zwd tx t 3 with
            | false => rfl
            | true => rw [hz] at h64; exact absurd h64 (by decide)
          refine zJ_aload_n dX2_readLine_88 rfl ?_
          refine zJ_ldcS (j := 4) (tx := "wax") dX2_readLine_89 (by decide +kernel) ?_
          refine zJ_cV1 dX2_readLine_91 sX2_84 mfX2_isWord (c_Rd_isWord Δ w tx n 4 t hR (by decide) ht hk4 hle) (by first | rfl | assumption | exact hC.1 _ (by decide)) rfl (Nat.le_of_ble_eq_true rfl) (by decide) (by decide) ?_
          refine zJ_if_eq (tgt := 118) dX2_readLine_94 (by decide) (fun h94 => ?_) (fun h94 => ?_)
          · have hw4 : zwd tx t 4 = false := by
              cases hz : zwd tx t 4 with
              | false => rfl
              | true => rw [hz] at h94; exact absurd h94 (by decide)
            refine zJ_aload_n dX2_readLine_118 rfl ?_
            refine zJ_ldcS (j := 5) (tx := "first") dX2_readLine_119 (by decide +kernel) ?_
            refine zJ_cV1 dX2_readLine_121 sX2_84 mfX2_isWord (c_Rd_isWord Δ w tx n 5 t hR (by decide) ht hk4 hle) (by first | rfl | assumption | exact hC.1 _ (by decide)) rfl (Nat.le_of_ble_eq_true rfl) (by decide) (by decide) ?_
            refine zJ_if_eq (tgt := 149) dX2_readLine_124 (by decide) (fun h124 => ?_) (fun h124 => ?_)
            · have hw5 : zwd tx t 5 = false := by
                cases hz : zwd tx t 5 with
                | false => rfl
                | true => rw [hz] at h124; exact absurd h124 (by decide)
              refine zJ_aload_n dX2_readLine_149 rfl ?_
              refine zJ_iconst (v := 1) dX2_readLine_150 (by decide) ?_
              refine zJ_cV1 dX2_readLine_151 sX2_119 mfX2_refuse (c_Rd_refuse Δ w hC 1) (by first | rfl | assumption | exact hC.1 _ (by decide)) rfl (Nat.le_of_ble_eq_true rfl) (by decide) (by decide) ?_
              exact zJ_zret dX2_readLine_154 rfl rfl (by decide) (by decide) (hQ _ _ (by simp only [zln, hw0, hw1, hw2, hw3, hw4, hw5, if_false, Bool.false_eq_true]; exact ⟨rfl, zEr.of ht.2.2⟩))
            · have hw5 : zwd tx t 5 = true := by
                cases hz : zwd tx t 5 with
                | true => rfl
                | false => rw [hz] at h124; exact absurd rfl h124
              refine zJ_aload_n dX2_readLine_127 rfl ?_
              refine zJ_bipush (v := 8) dX2_readLine_128 (by decide) ?_
              refine zJ_st (st2 := [.int (nI (2 ^ 3)), .ref 3]) rfl ?_
              refine zJ_eV1 dX2_readLine_130 sX2_98 mfX2_tellOnce (c_Rd_tellOnce Δ w hC t ht S.2 3 hB (by decide) h8) (hC.1 _ (by decide)) rfl (Nat.le_of_ble_eq_true rfl) (by decide) (by decide) (fun r c hP => ?_)
              rcases hP with ⟨b1, rfl, b2⟩ | ⟨b1, rfl, rfl⟩
              · refine zJ_if_eq (tgt := 147) dX2_readLine_133 (by decide) (fun _ => ?_) (fun h9 => absurd rfl h9)
                refine zJ_iconst (v := 0) dX2_readLine_147 (by decide) ?_
                exact zJ_zret dX2_readLine_148 rfl rfl (by decide) (by decide) (hQ _ _ (by simp only [zln, hw0, hw1, hw2, hw3, hw4, hw5, if_true, if_false, Bool.false_eq_true, zon]; rw [if_pos b1]; exact ⟨rfl, b2⟩))
              · refine zJ_if_eq (tgt := 147) dX2_readLine_133 (by decide) (fun h9 => absurd h9 (by decide)) (fun _ => ?_)
                refine zJ_aload_n dX2_readLine_136 rfl ?_
                refine zJ_eV0 dX2_readLine_137 sX2_116 mfX2_readFirst (c_Rd_readFirst Δ (zsi w 3 8 (nI (S.2 ||| 2 ^ 3))) tx n t S.1 (hR.fd (zFd.i (by omega))) (hi.eq hi.1 (fun a j ha => by simp [zsi]; omega)) hT ⟨by simp [zsi, ht.1], by simp [zsi, ht.2.1], by simp [zsi, ht.2.2]⟩ hle.2) (hC.1 _ (by decide)) rfl (Nat.le_of_ble_eq_true rfl) (by decide) (by decide) (fun r c hP => ?_)
                have hz := hP.s (w := w) (B := S.2 ||| 2 ^ 3) (zFd.i (by omega)) (by simp [zsi]) (by simp [zsi]) (by simp [zsi])
                have hno : ¬ S.2.testBit 3 = true := by rw [b1]; decide
                rcases hP.r with rfl | rfl
                · refine zJ_if_eq (tgt := 147) dX2_readLine_140 (by decide) (fun _ => ?_) (fun h9 => absurd rfl h9)
                  refine zJ_iconst (v := 0) dX2_readLine_147 (by decide) ?_
                  exact zJ_zret dX2_readLine_148 rfl rfl (by decide) (by decide) (hQ _ _ (by simp only [zln, hw0, hw1, hw2, hw3, hw4, hw5, if_true, if_false, Bool.false_eq_true, zon]; rw [if_neg hno]; exact hz))
                · refine zJ_if_eq (tgt := 147) dX2_readLine_140 (by decide) (fun h9 => absurd h9 (by decide)) (fun _ => ?_)
                  refine zJ_iconst (v := 1) dX2_readLine_143 (by decide) ?_
                  refine zJ_goto (tgt := 148) dX2_readLine_144 (by decide) ?_
                  exact zJ_zret dX2_readLine_148 rfl rfl (by decide) (by decide) (hQ _ _ (by simp only [zln, hw0, hw1, hw2, hw3, hw4, hw5, if_true, if_false, Bool.false_eq_true, zon]; rw [if_neg hno]; exact hz))
          · have hw4 : zwd tx t 4 = true := by
              cases hz : zwd tx t 4 with
              | true => rfl
              | false => rw [hz] at h94; exact absurd rfl h94
            refine zJ_aload_n dX2_readLine_97 rfl ?_
            refine zJ_iconst (v := 4) dX2_readLine_98 (by decide) ?_
            refine zJ_st (st2 := [.int (nI (2 ^ 2)), .ref 3]) rfl ?_
            refine zJ_eV1 dX2_readLine_99 sX2_98 mfX2_tellOnce (c_Rd_tellOnce Δ w hC t ht S.2 2 hB (by decide) h8) (hC.1 _ (by decide)) rfl (Nat.le_of_ble_eq_true rfl) (by decide) (by decide) (fun r c hP => ?_)
            rcases hP with ⟨b1, rfl, b2⟩ | ⟨b1, rfl, rfl⟩
            · refine zJ_if_eq (tgt := 116) dX2_readLine_102 (by decide) (fun _ => ?_) (fun h9 => absurd rfl h9)
              refine zJ_iconst (v := 0) dX2_readLine_116 (by decide) ?_
              exact zJ_zret dX2_readLine_117 rfl rfl (by decide) (by decide) (hQ _ _ (by simp only [zln, hw0, hw1, hw2, hw3, hw4, if_true, if_false, Bool.false_eq_true, zon]; rw [if_pos b1]; exact ⟨rfl, b2⟩))
            · refine zJ_if_eq (tgt := 116) dX2_readLine_102 (by decide) (fun h9 => absurd h9 (by decide)) (fun _ => ?_)
              refine zJ_aload_n dX2_readLine_105 rfl ?_
              refine zJ_eV0 dX2_readLine_106 sX2_111 mfX2_readWax (c_Rd_readWax Δ (zsi w 3 8 (nI (S.2 ||| 2 ^ 2))) tx n t S.1 (hR.fd (zFd.i (by omega))) (hi.eq hi.1 (fun a j ha => by simp [zsi]; omega)) hT ⟨by simp [zsi, ht.1], by simp [zsi, ht.2.1], by simp [zsi, ht.2.2]⟩ hle.2) (hC.1 _ (by decide)) rfl (Nat.le_of_ble_eq_true rfl) (by decide) (by decide) (fun r c hP => ?_)
              have hz := hP.s (w := w) (B := S.2 ||| 2 ^ 2) (zFd.i (by omega)) (by simp [zsi]) (by simp [zsi]) (by simp [zsi])
              have hno : ¬ S.2.testBit 2 = true := by rw [b1]; decide
              rcases hP.r with rfl | rfl
              · refine zJ_if_eq (tgt := 116) dX2_readLine_109 (by decide) (fun _ => ?_) (fun h9 => absurd rfl h9)
                refine zJ_iconst (v := 0) dX2_readLine_116 (by decide) ?_
                exact zJ_zret dX2_readLine_117 rfl rfl (by decide) (by decide) (hQ _ _ (by simp only [zln, hw0, hw1, hw2, hw3, hw4, if_true, if_false, Bool.false_eq_true, zon]; rw [if_neg hno]; exact hz))
              · refine zJ_if_eq (tgt := 116) dX2_readLine_109 (by decide) (fun h9 => absurd h9 (by decide)) (fun _ => ?_)
                refine zJ_iconst (v := 1) dX2_readLine_112 (by decide) ?_
                refine zJ_goto (tgt := 117) dX2_readLine_113 (by decide) ?_
                exact zJ_zret dX2_readLine_117 rfl rfl (by decide) (by decide) (hQ _ _ (by simp only [zln, hw0, hw1, hw2, hw3, hw4, if_true, if_false, Bool.false_eq_true, zon]; rw [if_neg hno]; exact hz))
        · have hw3 : zwd tx t 3 = true := by
            cases hz : zwd tx t 3 with
            | true => rfl
            | false => rw [hz] at h64; exact absurd rfl h64
          refine zJ_aload_n dX2_readLine_67 rfl ?_
          refine zJ_iconst (v := 2) dX2_readLine_68 (by decide) ?_
          refine zJ_st (st2 := [.int (nI (2 ^ 1)), .ref 3]) rfl ?_
          refine zJ_eV1 dX2_readLine_69 sX2_98 mfX2_tellOnce (c_Rd_tellOnce Δ w hC t ht S.2 1 hB (by decide) h8) (hC.1 _ (by decide)) rfl (Nat.le_of_ble_eq_true rfl) (by decide) (by decide) (fun r c hP => ?_)
          rcases hP with ⟨b1, rfl, b2⟩ | ⟨b1, rfl, rfl⟩
          · refine zJ_if_eq (tgt := 86) dX2_readLine_72 (by decide) (fun _ => ?_) (fun h9 => absurd rfl h9)
            refine zJ_iconst (v := 0) dX2_readLine_86 (by decide) ?_
            exact zJ_zret dX2_readLine_87 rfl rfl (by decide) (by decide) (hQ _ _ (by simp only [zln, hw0, hw1, hw2, hw3, if_true, if_false, Bool.false_eq_true, zon]; rw [if_pos b1]; exact ⟨rfl, b2⟩))
          · refine zJ_if_eq (tgt := 86) dX2_readLine_72 (by decide) (fun h9 => absurd h9 (by decide)) (fun _ => ?_)
            refine zJ_aload_n dX2_readLine_75 rfl ?_
            refine zJ_eV0 dX2_readLine_76 sX2_106 mfX2_readLaw (c_Rd_readLaw Δ (zsi w 3 8 (nI (S.2 ||| 2 ^ 1))) tx n t S.1 (hR.fd (zFd.i (by omega))) (hi.eq hi.1 (fun a j ha => by simp [zsi]; omega)) hT ⟨by simp [zsi, ht.1], by simp [zsi, ht.2.1], by simp [zsi, ht.2.2]⟩ hle.2) (hC.1 _ (by decide)) rfl (Nat.le_of_ble_eq_true rfl) (by decide) (by decide) (fun r c hP => ?_)
            have hz := hP.s (w := w) (B := S.2 ||| 2 ^ 1) (zFd.i (by omega)) (by simp [zsi]) (by simp [zsi]) (by simp [zsi])
            have hno : ¬ S.2.testBit 1 = true := by rw [b1]; decide
            rcases hP.r with rfl | rfl
            · refine zJ_if_eq (tgt := 86) dX2_readLine_79 (by decide) (fun _ => ?_) (fun h9 => absurd rfl h9)
              refine zJ_iconst (v := 0) dX2_readLine_86 (by decide) ?_
              exact zJ_zret dX2_readLine_87 rfl rfl (by decide) (by decide) (hQ _ _ (by simp only [zln, hw0, hw1, hw2, hw3, if_true, if_false, Bool.false_eq_true, zon]; rw [if_neg hno]; exact hz))
            · refine zJ_if_eq (tgt := 86) dX2_readLine_79 (by decide) (fun h9 => absurd h9 (by decide)) (fun _ => ?_)
              refine zJ_iconst (v := 1) dX2_readLine_82 (by decide) ?_
              refine zJ_goto (tgt := 87) dX2_readLine_83 (by decide) ?_
              exact zJ_zret dX2_readLine_87 rfl rfl (by decide) (by decide) (hQ _ _ (by simp only [zln, hw0, hw1, hw2, hw3, if_true, if_false, Bool.false_eq_true, zon]; rw [if_neg hno]; exact hz))
      · have hw2 : zwd tx t 2 = true := by
          cases hz : zwd tx t 2 with
          | true => rfl
          | false => rw [hz] at h34; exact absurd rfl h34
        refine zJ_aload_n dX2_readLine_37 rfl ?_
        refine zJ_iconst (v := 1) dX2_readLine_38 (by decide) ?_
        refine zJ_st (st2 := [.int (nI (2 ^ 0)), .ref 3]) rfl ?_
        refine zJ_eV1 dX2_readLine_39 sX2_98 mfX2_tellOnce (c_Rd_tellOnce Δ w hC t ht S.2 0 hB (by decide) h8) (hC.1 _ (by decide)) rfl (Nat.le_of_ble_eq_true rfl) (by decide) (by decide) (fun r c hP => ?_)
        rcases hP with ⟨b1, rfl, b2⟩ | ⟨b1, rfl, rfl⟩
        · refine zJ_if_eq (tgt := 56) dX2_readLine_42 (by decide) (fun _ => ?_) (fun h9 => absurd rfl h9)
          refine zJ_iconst (v := 0) dX2_readLine_56 (by decide) ?_
          exact zJ_zret dX2_readLine_57 rfl rfl (by decide) (by decide) (hQ _ _ (by simp only [zln, hw0, hw1, hw2, if_true, if_false, Bool.false_eq_true, zon]; rw [if_pos b1]; exact ⟨rfl, b2⟩))
        · refine zJ_if_eq (tgt := 56) dX2_readLine_42 (by decide) (fun h9 => absurd h9 (by decide)) (fun _ => ?_)
          refine zJ_aload_n dX2_readLine_45 rfl ?_
          refine zJ_eV0 dX2_readLine_46 sX2_101 mfX2_readLetter (c_Rd_readLetter Δ (zsi w 3 8 (nI (S.2 ||| 2 ^ 0))) tx n t S.1 (hR.fd (zFd.i (by omega))) (hi.eq hi.1 (fun a j ha => by simp [zsi]; omega)) hT ⟨by simp [zsi, ht.1], by simp [zsi, ht.2.1], by simp [zsi, ht.2.2]⟩ hle.2) (hC.1 _ (by decide)) rfl (Nat.le_of_ble_eq_true rfl) (by decide) (by decide) (fun r c hP => ?_)
          have hz := hP.s (w := w) (B := S.2 ||| 2 ^ 0) (zFd.i (by omega)) (by simp [zsi]) (by simp [zsi]) (by simp [zsi])
          have hno : ¬ S.2.testBit 0 = true := by rw [b1]; decide
          rcases hP.r with rfl | rfl
          · refine zJ_if_eq (tgt := 56) dX2_readLine_49 (by decide) (fun _ => ?_) (fun h9 => absurd rfl h9)
            refine zJ_iconst (v := 0) dX2_readLine_56 (by decide) ?_
            exact zJ_zret dX2_readLine_57 rfl rfl (by decide) (by decide) (hQ _ _ (by simp only [zln, hw0, hw1, hw2, if_true, if_false, Bool.false_eq_true, zon]; rw [if_neg hno]; exact hz))
          · refine zJ_if_eq (tgt := 56) dX2_readLine_49 (by decide) (fun h9 => absurd h9 (by decide)) (fun _ => ?_)
            refine zJ_iconst (v := 1) dX2_readLine_52 (by decide) ?_
            refine zJ_goto (tgt := 57) dX2_readLine_53 (by decide) ?_
            exact zJ_zret dX2_readLine_57 rfl rfl (by decide) (by decide) (hQ _ _ (by simp only [zln, hw0, hw1, hw2, if_true, if_false, Bool.false_eq_true, zon]; rw [if_neg hno]; exact hz))
    · have hw1 : zwd tx t 1 = true := by
        cases hz : zwd tx t 1 with
        | true => rfl
        | false => rw [hz] at h20; exact absurd rfl h20
      refine zJ_aload_n dX2_readLine_23 rfl ?_
      refine zJ_eV0 dX2_readLine_24 sX2_93 mfX2_readKnows (c_Rd_readKnows Δ w tx n t S.1 hR hi hT ht hle.2) (hC.1 _ (by decide)) rfl (Nat.le_of_ble_eq_true rfl) (by decide) (by decide) (fun r c hP => ?_)
      have hz := hP.s (zFd.rf w) h8 rfl rfl
      rcases hP.r with rfl | rfl
      · exact zJ_zret dX2_readLine_27 rfl rfl (by decide) (by decide) (hQ _ _ (by simp only [zln, hw0, hw1, if_true, if_false, Bool.false_eq_true]; exact hz))
      · exact zJ_zret dX2_readLine_27 rfl rfl (by decide) (by decide) (hQ _ _ (by simp only [zln, hw0, hw1, if_true, if_false, Bool.false_eq_true]; exact hz))
  · have hw0 : zwd tx t 0 = true := by
      cases hz : zwd tx t 0 with
      | true => rfl
      | false => rw [hz] at h6; exact absurd rfl h6
    refine zJ_aload_n dX2_readLine_9 rfl ?_
    refine zJ_eV0 dX2_readLine_10 sX2_88 mfX2_readPerson (c_Rd_readPerson Δ w tx n t S.1 hR hi hT ht hle.2) (hC.1 _ (by decide)) rfl (Nat.le_of_ble_eq_true rfl) (by decide) (by decide) (fun r c hP => ?_)
    have hz := hP.s (zFd.rf w) h8 rfl rfl
    rcases hP.r with rfl | rfl
    · exact zJ_zret dX2_readLine_13 rfl rfl (by decide) (by decide) (hQ _ _ (by simp only [zln, hw0, if_true, if_false, Bool.false_eq_true]; exact hz))
    · exact zJ_zret dX2_readLine_13 rfl rfl (by decide) (by decide) (hQ _ _ (by simp only [zln, hw0, if_true, if_false, Bool.false_eq_true]; exact hz))
def zFz (w c : zW) : Prop := c.1 = w.1 ∧ c.2.2 = w.2.2 ∧ ∀ a j, (a < 3 ∨ 8 < a) → c.2.1 a j = w.2.1 a j
theorem zFz.tr {w c d : zW} (h1 : zFz w c) (h2 : zFz c d) : zFz w d := ⟨h2.1.trans h1.1, h2.2.1.trans h1.2.1, fun a j h => (h2.2.2 a j h).trans (h1.2.2 a j h)⟩
theorem zFd.z {w c : zW} (h : zFd w c) : zFz w c := ⟨h.1, h.2.1, fun a j h1 => h.2.2 a j (by omega)⟩
theorem zFz.i {w : zW} {a j : Nat} {x : Int32} (h : 3 ≤ a ∧ a ≤ 8) : zFz w (zsi w a j x) := ⟨rfl, rfl, fun a2 j2 h2 => by
  have h3 : ¬ (a2 = a ∧ j2 = j) := by omega
  simp [zsi, h3]⟩
theorem zln_e {tx : Nat → Nat} {n : Nat} {S : zTo × Nat} {t : zTkn} {e : Nat × Nat} (h : zln tx n S t = .inl e) : 1 ≤ e.1 ∧ e.1 ≤ 5 := by
  have hN : ∀ {lo hi : Nat} {t : zTkn} {e : Nat × Nat}, zrN lo hi t = .inl e → 1 ≤ e.1 ∧ e.1 ≤ 5 := fun {lo hi t e} h => by
    simp only [zrN] at h
    split at h
    · cases h; simp
    · split at h
      · cases h; simp
      · cases h
  have hK : ∀ {p : Nat} {t : zTkn} {e : Nat × Nat}, zrK p t = .inl e → 1 ≤ e.1 ∧ e.1 ≤ 5 := fun {p t e} h => by
    simp only [zrK] at h
    split at h
    · rename_i h2; cases h; exact hN h2
    · split at h
      · cases h
      · cases h; simp
  have hP : ∀ {i lo hi wo : Nat} {t : zTkn} {e : Nat × Nat}, zrP tx n i lo hi wo t = .inl e → 1 ≤ e.1 ∧ e.1 ≤ 5 := fun {i lo hi wo t e} h => by
    simp only [zrP] at h
    split at h
    · split at h
      · rename_i h2; cases h; exact hN h2
      · cases h
    · cases h
  have hc : ∀ {x : zLX} {e : Nat × Nat}, (∀ e, x = .inl e → 1 ≤ e.1 ∧ e.1 ≤ 5) → zcl x = .inl e → 1 ≤ e.1 ∧ e.1 ≤ 5 := fun {x e} hx h => by
    cases x with
    | inl e2 => cases h; exact hx _ rfl
    | inr q =>
      simp only [zcl] at h
      split at h
      · cases h
      · cases h; simp
  have hm : ∀ {B : Nat} {x : zLX} {e : Nat × Nat}, (∀ e, x = .inl e → 1 ≤ e.1 ∧ e.1 ≤ 5) → zmB B (zcl x) = .inl e → 1 ≤ e.1 ∧ e.1 ≤ 5 := fun {B x e} hx h => by
    cases h2 : zcl x with
    | inl e2 => rw [h2] at h; cases h; exact hc hx h2
    | inr q => rw [h2] at h; cases h
  have ho : ∀ {B k : Nat} {t : zTkn} {x : zLX} {e : Nat × Nat}, (∀ e, x = .inl e → 1 ≤ e.1 ∧ e.1 ≤ 5) → zon B k t (zcl x) = .inl e → 1 ≤ e.1 ∧ e.1 ≤ 5 := fun {B k t x e} hx h => by
    simp only [zon] at h
    split at h
    · cases h; simp
    · exact hm hx h
  simp only [zln] at h
  split at h
  · refine hm (fun e hx => ?_) h
    simp only [zlP] at hx
    split at hx
    · cases hx; simp
    · split at hx
      · cases hx; simp
      · split at hx
        · split at hx
          · rename_i h2; cases hx; exact hN h2
          · cases hx
        · split at hx
          · split at hx
            · rename_i h2; cases hx; exact hP h2
            · cases hx
          · cases hx
  · split at h
    · refine hm (fun e hx => ?_) h
      simp only [zlK] at hx
      split at hx
      · rename_i h2; cases hx; exact hK h2
      · split at hx
        · rename_i h2; cases hx; exact hK h2
        · split at hx
          · cases hx; simp
          · split at hx
            · rename_i h2; cases hx; exact hP h2
            · cases hx
    · split at h
      · refine ho (fun e hx => ?_) h
        simp only [zlL] at hx
        split at hx
        · rename_i h2; cases hx; exact hN h2
        · split at hx
          · rename_i h2; cases hx; exact hN h2
          · split at hx
            · rename_i h2; cases hx; exact hN h2
            · split at hx
              · rename_i h2; cases hx; exact hP h2
              · split at hx
                · rename_i h2; cases hx; exact hP h2
                · cases hx
      · split at h
        · refine ho (fun e hx => ?_) h
          simp only [zlW] at hx
          split at hx
          · cases hx
          · split at hx
            · cases hx
            · split at hx
              · cases hx
              · cases hx; simp
        · split at h
          · refine ho (fun e hx => ?_) h
            simp only [zlX] at hx
            split at hx
            · rename_i h2; cases hx; exact hN h2
            · cases hx
          · split at h
            · refine ho (fun e hx => ?_) h
              simp only [zlF] at hx
              split at hx
              · rename_i h2; cases hx; exact hK h2
              · cases hx
            · cases h; simp
def zRd (c : zW) (r : Option Value) (x : (Nat × Nat) ⊕ (zTo × Nat)) : Prop := match x with
  | .inl e => r = some (.int (nI e.1)) ∧ c.2.1 3 10 = nI e.2 ∧ 1 ≤ e.1 ∧ e.1 ≤ 5
  | .inr S => r = some (.int 0) ∧ c.2.1 3 10 = -1 ∧ zTi c 4 S.1 ∧ zPk S
theorem ztow_o {w : zW} {t a j : Nat} {sc a1 a2 a3 a4 : Nat → Int32} (h : a < t ∨ t + 4 < a) : (ztow w t sc a1 a2 a3 a4).2.1 a j = w.2.1 a j := by
  have h1 : ¬ a = t := by omega
  have h2 : ¬ a = t + 1 := by omega
  have h3 : ¬ a = t + 2 := by omega
  have h4 : ¬ a = t + 3 := by omega
  have h5 : ¬ a = t + 4 := by omega
  simp [ztow, h1, h2, h3, h4, h5]
theorem zFz.t0 (w : zW) : zFz w (ztow0 w 4) := ⟨rfl, rfl, fun a j h => ztow_o (by omega)⟩
theorem zsc0_n : ∀ k, k < 14 → (k = 0 ∨ 5 ≤ k) → zsc0 k = nI (zT0.1 k) := by decide
theorem zPk_0 : zPk (zT0, 0) := by
  refine ⟨⟨by decide, by decide, by decide, by decide, by decide, by decide, by decide, by decide, by decide, by decide, fun p => ⟨by simp [zT0], by simp [zT0], fun _ => by simp [zT0], fun _ => rfl⟩, fun p q _ _ => ⟨by simp [zT0], fun h => absurd rfl h⟩⟩, ⟨fun k hk => ?_, fun _ _ => rfl, fun _ _ => rfl⟩, fun _ => rfl, by decide, rfl⟩
  have h1 : ¬ (k = 5 ∨ k = 6 ∨ k = 11) := by omega
  have h2 : ¬ k = 7 := by omega
  simp [zT0, h1, h2]
set_option maxRecDepth 100000 in
theorem c_Rd_read (Δ : zD) (w : zW) (tx : Nat → Nat) (n : Nat) (hC : zCs w) (hn : n ≤ 700) (htx : ∀ i, i < 700 → w.2.1 1 i = nI (tx i) ∧ tx i < 256) : zMp Δ 8 yX2_read mX2_read [.ref 3, .int (nI n)] w (fun r c => zFz w c ∧ zRd c r (zpa tx n 701 (zT0, 0) 0)) := by
  refine zMp.of mfX2_read (Nat.le_of_ble_eq_true rfl) (fun QR hQ => ?_)
  have L : ∀ j, j ≤ 701 → ∀ (w1 : zW) (S : zTo × Nat) (a : Nat), zFz w w1 → zRe w1 tx n → zTi w1 4 S.1 → zPk S → a ≤ n → w1.2.1 3 3 = nI a → w1.2.1 3 8 = nI S.2 → w1.2.1 3 9 = 0 → w1.2.1 3 10 = -1 → zpa tx n (701 - j) S a = zpa tx n 701 (zT0, 0) 0 → zJ Δ mX2_read (zRm 8 0 0) true w.1 QR (fun _ _ => False) 0 0 42 [(2, .int (nI j)), (0, .ref 3), (1, .int (nI n))] [] w1 := by
    refine zup (fun j hj ih w1 S a hf hR1 hi1 hS1 ha f3 f8 f9 f10 he => ?_)
    have hC1 := hR1.1
    refine zJ_iload_n dX2_read_42 rfl ?_
    refine zJ_sipush (v := 700) dX2_read_43 (by decide) ?_
    refine zJ_icmp_gt (tgt := 76) dX2_read_46 (by decide) (fun h46 => ?_) (fun h46 => ?_)
    · have hj9 : j = 701 := by have := (nI_ltI (a := 700) (by decide) (by omega)).mp h46; omega
      have hx : (.inr S : (Nat × Nat) ⊕ (zTo × Nat)) = zpa tx n 701 (zT0, 0) 0 := by rw [← he, hj9]; rfl
      refine zJ_aload_n dX2_read_76 rfl ?_
      refine zJ_geti dX2_read_77 fX2_41 (by first | rfl | assumption | exact hC1.1 _ (by decide)) rfl ?_
      rw [f9]
      exact zJ_iret dX2_read_80 rfl (by decide) (by decide) (hQ _ _ ⟨hf, by rw [← hx]; exact ⟨rfl, f10, hi1, hS1⟩⟩)
    · have hj9 : j < 701 := Nat.lt_of_not_le fun h => h46 ((nI_ltI (a := 700) (by decide) (by omega)).mpr (by omega))
      refine zJ_aload_n dX2_read_49 rfl ?_
      refine zJ_eV0 dX2_read_50 sX2_47 mfX2_takeToken (c_Rd_takeToken Δ w1 tx n _ hR1 ha f3) (hC1.1 _ (by decide)) rfl (Nat.le_of_ble_eq_true rfl) (by decide) (by decide) (fun r c hP => ?_)
      obtain ⟨rfl, c1, c2⟩ := hP
      have hcC := hC1.fk c1.1 c1.2.1
      refine zJ_aload_n dX2_read_53 rfl ?_
      refine zJ_geti dX2_read_54 fX2_50 (by first | rfl | assumption | exact hcC.1 _ (by decide)) rfl ?_
      rw [c2.2.1]
      refine zJ_if_eq (tgt := 76) dX2_read_57 (by decide) (fun h57 => ?_) (fun h57 => ?_)
      · have hk0 : (ztk tx n a).1 = 0 := (nI_eq (b := 0) (by have := ztk_k (tx := tx) (n := n) (a := a); omega) (by decide)).mp h57
        have hx : (.inr S : (Nat × Nat) ⊕ (zTo × Nat)) = zpa tx n 701 (zT0, 0) 0 := by
          rw [← he, show 701 - j = (701 - (j + 1)) + 1 by omega]
          simp only [zpa]
          rw [if_pos hk0]
        refine zJ_aload_n dX2_read_76 rfl ?_
        refine zJ_geti dX2_read_77 fX2_41 (by first | rfl | assumption | exact hcC.1 _ (by decide)) rfl ?_
        rw [(c1.2.2 3 9 (by omega)).trans f9]
        exact zJ_iret dX2_read_80 rfl (by decide) (by decide) (hQ _ _ ⟨hf.tr c1.d.z, by rw [← hx]; exact ⟨rfl, (c1.2.2 3 10 (by omega)).trans f10, hi1.fk c1, hS1⟩⟩)
      · have hk0 : ¬ (ztk tx n a).1 = 0 := fun h => h57 (by rw [h]; rfl)
        refine zJ_aload_n dX2_read_60 rfl ?_
        refine zJ_eV0 dX2_read_61 sX2_53 mfX2_readLine (c_Rd_readLine Δ c tx n (ztk tx n a) S (hR1.fk c1) (hi1.fk c1) hS1 c2.p ztk_k.1 ⟨(ztk_le (tx := tx) ha).2.1, (ztk_le (tx := tx) ha).2.2⟩ ((c1.2.2 3 8 (by omega)).trans f8)) (hcC.1 _ (by decide)) rfl (Nat.le_of_ble_eq_true rfl) (by decide) (by decide) (fun r d hP => ?_)
        cases hl : zln tx n S (ztk tx n a) with
        | inl e =>
          rw [hl] at hP
          obtain ⟨rfl, y2⟩ := hP
          have hdC := hcC.fk y2.1.1 y2.1.2.1
          have hx : (.inl e : (Nat × Nat) ⊕ (zTo × Nat)) = zpa tx n 701 (zT0, 0) 0 := by
            rw [← he, show 701 - j = (701 - (j + 1)) + 1 by omega]
            simp only [zpa]
            rw [if_neg hk0, hl]
          refine zJ_if_ne (tgt := 70) dX2_read_64 (by decide) (fun h9 => False.elim (by revert h9; decide)) (fun _ => ?_)
          refine zJ_goto (tgt := 76) dX2_read_67 (by decide) ?_
          refine zJ_aload_n dX2_read_76 rfl ?_
          refine zJ_geti dX2_read_77 fX2_41 (by first | rfl | assumption | exact hdC.1 _ (by decide)) rfl ?_
          rw [y2.2.1]
          exact zJ_iret dX2_read_80 rfl (by decide) (by decide) (hQ _ _ ⟨(hf.tr c1.d.z).tr y2.1.z, by rw [← hx]; exact ⟨rfl, y2.2.2, zln_e hl⟩⟩)
        | inr q =>
          rw [hl] at hP
          obtain ⟨rfl, y2, y3, y4, y5, y6, y7, y8⟩ := hP
          have hdC := hcC.fk y2.1 y2.2.1
          refine zJ_if_ne (tgt := 70) dX2_read_64 (by decide) (fun _ => ?_) (fun h9 => False.elim (by revert h9; decide))
          refine zJ_iinc (ls2 := fun x70ye => [(2, .int x70ye), (0, .ref 3), (1, .int (nI n))]) dX2_read_70 rfl (by decide) (fun _ => rfl) (fun x70ye ex70ye => ?_)
          refine zJ_goto (tgt := 42) dX2_read_73 (by decide) ?_
          refine zJ_ls [(2, .int x70ye), (0, .ref 3), (1, .int (nI n))] (by simp) ?_
          rw [ex70ye, show nI j + Int32.ofInt 1 = nI (j + 1) from nI_1 _]
          refine ih (j + 1) (by omega) (by omega) d q.1 q.2 ((hf.tr c1.d.z).tr y2.z) ((hR1.fk c1).fd y2) y3 (zln_ok hS1 hl) y6 y5 y4 (y7.trans ((c1.2.2 3 9 (by omega)).trans f9)) (y8.trans ((c1.2.2 3 10 (by omega)).trans f10)) ?_
          rw [← he, show 701 - j = (701 - (j + 1)) + 1 by omega]
          simp only [zpa]
          rw [if_neg hk0, hl]
  have hTn : zTn w 4 := (⟨hC.1 _ (by decide), hC.2 _ _ rfl, hC.2 _ _ rfl, hC.2 _ _ rfl, hC.2 _ _ rfl, hC.1 _ (by decide), hC.1 _ (by decide), hC.1 _ (by decide), hC.1 _ (by decide)⟩ : zTn w 4)
  have hmin : (if nI n ≤ 700 then nI n else 700) = nI n := by
    rw [if_pos (show nI n ≤ 700 from (nI_leI (b := 700) (by omega) (by decide)).mpr hn)]
  refine zJ_aload_n dX2_read_0 rfl ?_
  refine zJ_getr dX2_read_1 fX2_12 (by first | rfl | assumption | exact hC.1 _ (by decide)) rfl (by first | rfl | assumption | exact hC.2 _ _ rfl) ?_
  refine zJ_cV0 dX2_read_4 sX2_22 mfX5_reset (c_Town_reset Δ w 4 hTn) (by first | rfl | assumption | exact hC.1 _ (by decide)) rfl (Nat.le_of_ble_eq_true rfl) (by decide) (by decide) ?_
  refine zJ_aload_n dX2_read_7 rfl ?_
  refine zJ_iload_n dX2_read_8 rfl ?_
  refine zJ_aload_n dX2_read_9 rfl ?_
  refine zJ_getr dX2_read_10 fX2_18 (by first | rfl | assumption | exact hC.1 _ (by decide)) rfl (by first | rfl | assumption | exact hC.2 _ _ rfl) ?_
  refine zJ_alen (x := _) dX2_read_13 (by first | rfl | assumption | exact hC.1 _ (by decide)) rfl ?_
  refine zJ_cS2 dX2_read_14 sX2_25 mfJ9_min_7cf53 (c_min Δ _ (nI n) 700) (Nat.le_of_ble_eq_true rfl) (by decide) (by decide) ?_
  rw [hmin]
  refine zJ_puti dX2_read_17 fX2_31 (fun q h => by cases h; rfl) (by first | rfl | assumption | exact hC.1 _ (by decide)) rfl rfl rfl ?_
  refine zJ_aload_n dX2_read_20 rfl ?_
  refine zJ_iconst (v := 0) dX2_read_21 (by decide) ?_
  refine zJ_puti dX2_read_22 fX2_35 (fun q h => by cases h; rfl) (by first | rfl | assumption | exact hC.1 _ (by decide)) rfl rfl rfl ?_
  refine zJ_aload_n dX2_read_25 rfl ?_
  refine zJ_iconst (v := 0) dX2_read_26 (by decide) ?_
  refine zJ_puti dX2_read_27 fX2_38 (fun q h => by cases h; rfl) (by first | rfl | assumption | exact hC.1 _ (by decide)) rfl rfl rfl ?_
  refine zJ_aload_n dX2_read_30 rfl ?_
  refine zJ_iconst (v := 0) dX2_read_31 (by decide) ?_
  refine zJ_puti dX2_read_32 fX2_41 (fun q h => by cases h; rfl) (by first | rfl | assumption | exact hC.1 _ (by decide)) rfl rfl rfl ?_
  refine zJ_aload_n dX2_read_35 rfl ?_
  refine zJ_iconst (v := (-1)) dX2_read_36 (by decide) ?_
  refine zJ_puti dX2_read_37 fX2_44 (fun q h => by cases h; rfl) (by first | rfl | assumption | exact hC.1 _ (by decide)) rfl rfl rfl ?_
  refine zJ_iconst (v := 0) dX2_read_40 (by decide) ?_
  refine zJ_istore_n (ls2 := fun x41 => [(2, .int x41), (0, .ref 3), (1, .int (nI n))]) dX2_read_41 (by decide) (fun _ => rfl) (fun x41 ex41 => ?_)
  obtain rfl : x41 = (nI 0) := ex41
  refine L 0 (by decide) _ (zT0, 0) 0 ?_ ?_ ?_ ?_ (Nat.zero_le _) ?_ ?_ ?_ ?_ rfl
  · exact ((((((zFz.t0 w).tr (zFz.i (by omega))).tr (zFz.i (by omega))).tr (zFz.i (by omega))).tr (zFz.i (by omega))).tr (zFz.i (by omega)))
  · refine ⟨hC, by simp [zsi], hn, fun i hi => ⟨?_, (htx i hi).2⟩⟩
    rw [← (htx i hi).1]
    simp [zsi, ztow0, ztow]
  · refine ⟨hTn, fun k a b => ?_, fun p a => ?_, fun p a => ?_, fun p a => ?_, fun p a => ?_⟩
    · simp only [zsi, ztow0, ztow]
      simp only [show ¬ (4 : Nat) = 3 by decide, false_and, if_false, if_true]
      exact zsc0_n k a b
    · simp [zsi, ztow0, ztow, zT0]; rfl
    · simp [zsi, ztow0, ztow, zT0]; rfl
    · simp [zsi, ztow0, ztow, zT0, zkn]
      have : zbits (fun _ => false) 8 = 0 := by decide
      rw [this]; rfl
    · simp [zsi, ztow0, ztow, zT0]; rfl
  · exact zPk_0
  · simp [zsi]; rfl
  · simp [zsi]; rfl
  · simp [zsi]
  · simp [zsi]
