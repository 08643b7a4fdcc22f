/-! what is asked: credit, count, person, weight, chained, thieves, luck, week, odds -/
theorem zcv_m {a : Nat} (h : a ≤ 1000000000) : (if lN a / 1000 ≤ 1 then (1 : Int64) else lN a / 1000) = lN (if a / 1000 < 1 then 1 else a / 1000) := by
  have e : lN a / 1000 = lN (a / 1000) := lN_div (b := 1000) (by omega) (by decide)
  have e2 : lN (a / 1000) ≤ 1 ↔ a / 1000 ≤ 1 := lN_leL (b := 1) (by omega) (by decide)
  rw [e]
  by_cases h1 : a / 1000 ≤ 1
  · rw [if_pos (e2.mpr h1)]
    by_cases h2 : a / 1000 < 1
    · rw [if_pos h2]; rfl
    · rw [if_neg h2, show a / 1000 = 1 by omega]; rfl
  · rw [if_neg (fun h => h1 (e2.mp h)), if_neg (by omega)]
theorem zpop_cnt {tb : Nat} {t : Nat → Bool} (htb : tb < 16) (ht : ∀ g, g < 4 → (tb / 2 ^ g % 2 = 1 ↔ t g = true)) : zpop tb = zcnt t 4 := by
  have e : ∀ g, g < 4 → (if t g = true then 1 else 0) = tb / 2 ^ g % 2 := fun g hg => by
    by_cases h : t g = true
    · rw [if_pos h, (ht g hg).mpr h]
    · rw [if_neg h]
      have := mt (ht g hg).mp h
      omega
  have e0 := e 0 (by decide)
  have e1 := e 1 (by decide)
  have e2 := e 2 (by decide)
  have e3 := e 3 (by decide)
  simp only [zcnt, e0, e1, e2, e3, zpop]
  simp only [Nat.pow_zero, Nat.div_one, Nat.pow_one, Nat.reducePow]
  omega
theorem zcv_eq {tb e : Nat} {t : Nat → Bool} {o : Nat → Int64} {o2 : Nat → Nat → Nat} (htb : tb < 16) (ht : ∀ g, g < 4 → (tb / 2 ^ g % 2 = 1 ↔ t g = true)) (ho : ∀ g r, g < 4 → t g = true → r < e → o (g * 20 + r) = lN (o2 g r) ∧ o2 g r ≤ 1000000000) : ∀ r, r ≤ e → ∀ g, g < 4 → t g = true → zcv tb o r g = lN (zcr9 t o2 r g) := by
  intro r
  induction r with
  | zero =>
    intro _ g hg htg
    simp only [zcv, zcr9]
    rw [zpop_cnt htb ht]
  | succ r ih =>
    intro hr g hg htg
    have ih2 := ih (by omega)
    have hP : ∀ g, g < 4 → t g = true → zw1 tb (zcv tb o r) (fun g => o (g * 20 + r)) g = lN (zcr9 t o2 r g * zcm o2 g r) := fun g hg htg => by
      simp only [zw1, zcm]
      rw [if_pos ((ht g hg).mpr htg), ih2 g hg htg, (ho g r hg htg (by omega)).1, zcv_m (ho g r hg htg (by omega)).2, lN_mul]
    have hle : ∀ g, g < 4 → t g = true → zcr9 t o2 r g * zcm o2 g r ≤ 1000000 * 1000000 := fun g hg htg => Nat.mul_le_mul (zcr9_le r g hg htg) (zcm_le (ho g r hg htg (by omega)).2)
    have hS : ∀ n, n ≤ 4 → ztg tb (zw1 tb (zcv tb o r) (fun g => o (g * 20 + r))) n = lN (fb_sm (fun g => if t g then zcr9 t o2 r g * zcm o2 g r else 0) n) := by
      intro n
      induction n with
      | zero => intro _; rfl
      | succ n ihn =>
        intro hn
        rw [fb_sm_succ]
        simp only [ztg]
        by_cases h1 : t n = true
        · rw [if_pos ((ht n (by omega)).mpr h1), ihn (by omega), hP n (by omega) h1, lN_add, if_pos h1]
        · rw [if_neg (fun h => h1 ((ht n (by omega)).mp h)), ihn (by omega), if_neg h1, Nat.add_zero]
    have hb : fb_sm (fun g => if t g then zcr9 t o2 r g * zcm o2 g r else 0) 4 ≤ 4 * (1000000 * 1000000) := fb_sm_bound (fun k hk => by
      by_cases h1 : t k = true
      · rw [if_pos h1]; exact hle k hk h1
      · rw [if_neg h1]; exact Nat.zero_le _)
    have hg1 := fb_sm_part (fun g => if t g then zcr9 t o2 r g * zcm o2 g r else 0) hg
    simp only [htg, if_true] at hg1
    have hg2 := hle g hg htg
    simp only [zcv, zcr9, zw2]
    rw [hS 4 (Nat.le_refl _), hP g hg htg, if_pos (show tb / 2 ^ g % 2 = 1 from (ht g hg).mpr htg)]
    generalize zcr9 t o2 r g * zcm o2 g r = P at hg1 hg2 ⊢
    generalize fb_sm (fun g => if t g then zcr9 t o2 r g * zcm o2 g r else 0) g = Q at hg1
    generalize fb_sm (fun g => if t g then zcr9 t o2 r g * zcm o2 g r else 0) 4 = S at hg1 hb ⊢
    have e0 : lN S ≤ 0 ↔ S ≤ 0 := lN_leL (b := 0) (by omega) (by decide)
    by_cases h0 : S ≤ 0
    · rw [if_pos (e0.mpr h0), show S = 0 by omega, Nat.div_zero, show P = 0 by omega]
    · rw [if_neg (fun h => h0 (e0.mp h)), show lN P * 1000000 = lN (P * 1000000) from lN_mul P 1000000, lN_div (by omega) (by omega)]
section ZOR
variable {Δ : zD} {w d : zW} {U : zTo}
def zv_cr (x : Int32) : Prop := ∃ g, g < 4 ∧ x = nI g
def zb_cr (U : zTo) (tb : Nat) (x : Int32) : Prop := ∃ g, g < 4 ∧ x = nI g ∧ tb / 2 ^ g % 2 = 1 ∧ ¬ zfit U 640
def zX_cr (U : zTo) (t : Nat → Bool) (x : Int32) : Prop := ∃ g, g < 4 ∧ x = nI g ∧ t g = true ∧ ¬ zfit U 20000
def zV_cr (U : zTo) (t : Nat → Bool) (o : Nat → Nat → Nat) (e : Nat) (x : Int32) (r : Option Value) : Prop := ∃ g, g < 4 ∧ x = nI g ∧ ((¬ t g = true ∧ r = some (.int (-1))) ∨ (t g = true ∧ zfit U 20000 ∧ r = some (.int (lN (zcr9 t o e g)).toInt32)))
/-- what credit reads stands so in the class -/
def zI_cr (w : zW) (U : zTo) (tb e : Nat) (t : Nat → Bool) (G : zGt) (fr : Nat → Nat → Nat) (ln : Nat → Nat) : Prop := (¬ tb = 0 → 0 < U.1 0) ∧ w.2.1 42 2 = nI tb ∧ tb < 16 ∧ zGok U G ∧ zGi (w.2.1 43) (w.2.1 44) G ∧ e ≤ 20 ∧ w.2.1 38 4 = nI e ∧ (∀ r, r < e → w.2.1 41 r = nI (ln r) ∧ ln r ≤ 20) ∧ (∀ r i, r < e → i < ln r → w.2.1 40 (r * 20 + i) = nI (fr r i)) ∧ (∀ r i, fr r i < 8) ∧ ∀ g, g < 4 → (tb / 2 ^ g % 2 = 1 ↔ t g = true)
theorem zna_cr {tb e : Nat} {t : Nat → Bool} {G : zGt} {fr : Nat → Nat → Nat} {ln : Nat → Nat} (hC : zKC w U) (hI : zI_cr w U tb e t G fr ln) (x : Int32) (mc ms : Nat) (hm : zRo w (zb_cr U tb x) mc ms) : zM Δ 8 mc ms false yX8_credit mX8_credit [.ref 0, .int x] w (zNA w U (zb_cr U tb x) (zV_cr U t (zog U G fr ln) e x)) (zNX2 w U (zb_cr U tb x) (¬ zv_cr x) (zX_cr U t x)) := by
  obtain ⟨i1, i2, i3, i4, i5, i6, i7, i8, i9, i10, i11⟩ := hI
  refine (c_credit Δ w U hC.1 x tb e G fr ln i1 i2 i3 i4 i5 i6 i7 i8 i9 i10 mc ms hm).mono (fun r d h => ?_) (fun E d h => ?_)
  · obtain ⟨h1, h2, h3, g, h4, h5, h6⟩ := h
    refine ⟨zkcl hC h1 h2 h3, g, h4, h5, ?_⟩
    rcases h6 with ⟨h6, h7⟩ | ⟨h6, h7, o, h8, h9⟩
    · exact Or.inl ⟨fun h => h6 ((i11 g h4).mpr h), h7⟩
    · have ht := (i11 g h4).mp h6
      refine Or.inr ⟨ht, h7, ?_⟩
      rw [h9, zcv_eq i3 i11 (fun g r hg htg hr => ⟨h8 g r hg ((i11 g hg).mpr htg) hr, zodds_le9 (zTg_ok hC.tok i4 hg) (fr r) (i10 r) (ln r)⟩) e (Nat.le_refl _) g h4 ht]
  · rcases h with ⟨rfl, rfl, h⟩ | ⟨g, h1, h2, h3, h4⟩
    · exact ⟨zkcl0 hC (fun h9 => by obtain ⟨g, g1, g2, -⟩ := h9; exact h ⟨g, g1, g2⟩), Or.inl ⟨rfl, h⟩⟩
    · exact ⟨zkcls hC h4, Or.inr ⟨h4.1, g, h1, h2, (i11 g h1).mp h3, h4.2.1⟩⟩
theorem znb_cr {e : Nat} {G : zGt} {fr : Nat → Nat → Nat} {ln : Nat → Nat} (hC : zKC d U) (hGk : zGok U G) (hGi : zGi (d.2.1 162) (d.2.1 163) G) (he : e ≤ 20) (h56 : d.2.1 100 56 = nI e) (hln : ∀ r, r < e → d.2.1 159 r = nI (ln r) ∧ ln r ≤ 20) (hfr : ∀ r i, r < e → i < ln r → d.2.1 158 (r * 20 + i) = nI (fr r i) ∧ fr r i < U.1 0) (hf8 : ∀ r i, fr r i < 8) (x : Int32) : zMp Δ 5 yX9_credit mX9_credit [.ref 100, .int x] d (zNB d U (¬ zv_cr x) (zX_cr U (fun g => zits (d.2.1 162) g 8) x) (zV_cr U (fun g => zits (d.2.1 162) g 8) (zog U G fr ln) e x)) :=
  (c_Mo_credit Δ d U hC.2.1 hC.tok hC.u13 x G hGk hGi e fr ln he h56 hln hfr hf8).mono (fun r c h => by
    obtain ⟨hf, h⟩ := h
    refine zNB.of hC hf ?_
    rcases h with ⟨h, h0⟩ | ⟨g, h1, h2, h3⟩
    · exact Or.inl ⟨h, h0⟩
    · rcases h3 with ⟨h3, h0, h4⟩ | ⟨h3, h4, h0⟩ | ⟨h3, h4, h0, h5⟩
      · exact Or.inr (Or.inr ⟨⟨g, h1, h2, Or.inl ⟨h3, h4⟩⟩, h0⟩)
      · exact Or.inr (Or.inl ⟨⟨g, h1, h2, h3, h4⟩, h0⟩)
      · exact Or.inr (Or.inr ⟨⟨g, h1, h2, Or.inr ⟨h3, h4, h5⟩⟩, h0⟩))
theorem zex_cr (t : Nat → Bool) (o : Nat → Nat → Nat) (e : Nat) (x : Int32) : zEx (¬ zv_cr x) (zX_cr U t x) (zV_cr U t o e x) := by
  refine ⟨fun h => ?_, fun r h => ?_, fun r s k1 k2 => ?_⟩
  · obtain ⟨h1, g, h2, h3, -⟩ := h
    exact h1 ⟨g, h2, h3⟩
  · obtain ⟨g, h1, h2, h3⟩ := h
    refine ⟨fun h9 => h9 ⟨g, h1, h2⟩, fun h9 => ?_⟩
    obtain ⟨g2, a1, a2, a3, a4⟩ := h9
    obtain rfl := nI_u h2 a2 (by omega) (by omega)
    rcases h3 with h3 | h3
    · exact h3.1 a3
    · exact a4 h3.2.1
  · obtain ⟨g, h1, h2, h3⟩ := k1
    obtain ⟨g2, a1, a2, a3⟩ := k2
    obtain rfl := nI_u h2 a2 (by omega) (by omega)
    rcases h3 with h3 | h3
    · rcases a3 with a3 | a3
      · rw [h3.2, a3.2]
      · exact (h3.1 a3.1).elim
    · rcases a3 with a3 | a3
      · exact (a3.1 h3.1).elim
      · rw [h3.2.2, a3.2.2]
/-! count -/
def zv_co (x : Int32) : Prop := ∃ q, q ≤ 15 ∧ x = nI q
def zV_co (w : zW) (x : Int32) (r : Option Value) : Prop := ∃ q, q ≤ 15 ∧ x = nI q ∧ r = some (.int (zcnv w q))
theorem zmnv_hi (h : zHi w d) (q : Nat) : zmnv d q = zmnv w q := by
  unfold zmnv
  split <;> exact (h.2 _ _ (by decide)).1
theorem zcn_eq (hC : zKC w U) {q : Nat} (hq : q ≤ 15) : zmnv w q = zcnv w q := by
  obtain ⟨hB, hMu, -, -, h1, h2, h3, h4, -, h6, -, -, -⟩ := hC
  have hT := hB.2.1.2.1
  obtain ⟨-, m1, m2, m3, m4, m5, m6, m7, m8, m9, -⟩ := hMu
  obtain ⟨_, _, -, a1, a2, -⟩ := h1
  obtain ⟨_, _, -, b1, b2, -⟩ := h3
  obtain ⟨_, _, _, -, c1, c2, -⟩ := h4
  obtain ⟨_, _, _, -, e1, e2, -⟩ := h6
  match q, hq with
  | 0, _ => exact m1.trans (hT 0 (by decide) (by decide)).symm
  | 1, _ => exact m3.trans (hT 5 (by decide) (by decide)).symm
  | 2, _ => exact m4.trans (hT 6 (by decide) (by decide)).symm
  | 3, _ => exact m5.trans (hT 7 (by decide) (by decide)).symm
  | 4, _ => exact m6.trans (hT 8 (by decide) (by decide)).symm
  | 5, _ => exact m7.trans (hT 9 (by decide) (by decide)).symm
  | 6, _ => exact m8.trans (hT 10 (by decide) (by decide)).symm
  | 7, _ => exact m9.trans (hT 11 (by decide) (by decide)).symm
  | 8, _ => exact m2.trans (hT 12 (by decide) (by decide)).symm
  | 9, _ => exact a2.trans a1.symm
  | 10, _ => exact b2.trans b1.symm
  | 11, _ => exact c2.trans c1.symm
  | 12, _ => exact e2.trans e1.symm
  | 13, _ => exact (congrFun h2.2 0).symm
  | 14, _ => exact (congrFun h2.2 1).symm
  | 15, _ => exact (congrFun h2.2 2).symm
  | q + 16, h => exact absurd h (by omega)
theorem zna_co (hC : zKC w U) (x : Int32) : zM Δ 6 10 60 true yX8_count mX8_count [.ref 0, .int x] w (zNA w U False (zV_co w x)) (zNX1 zNS w U False (¬ zv_co x)) :=
  (c_count Δ w U hC.1 x).mono (fun r d h => by
    obtain ⟨rfl, h⟩ := h
    exact ⟨zkcl0 hC (fun h => h), h⟩) (fun E d h => by
    obtain ⟨rfl, rfl, h⟩ := h
    exact ⟨zkcl0 hC (fun h => h), rfl, h⟩)
theorem znb_co (hw : zKC w U) (hC : zKC d U) (hh : zHi w d) (x : Int32) : zMp Δ 1 yX9_count mX9_count [.ref 100, .int x] d (zNB d U (¬ zv_co x) False (zV_co w x)) :=
  (c_Mo_count Δ d hC.2.1.1 x).mono (fun r c h => by
    rcases h with ⟨h, rfl⟩ | ⟨q, h1, h2, rfl, h3⟩
    · exact zNB.of hC (zFM.t0.tr zFM.t0) (Or.inl ⟨h, by simp [zsi]⟩)
    · exact zNB.of hC zFM.t0 (Or.inr (Or.inr ⟨⟨q, h1, h2, by rw [h3, zmnv_hi hh, zcn_eq hw h1]⟩, by simp [zsi]⟩)))
theorem zex_co (x : Int32) : zEx (¬ zv_co x) False (zV_co w x) := by
  refine ⟨fun h => h.2, fun r h => ?_, fun r s k1 k2 => ?_⟩
  · obtain ⟨q, h1, h2, -⟩ := h
    exact ⟨fun h9 => h9 ⟨q, h1, h2⟩, fun h9 => h9⟩
  · obtain ⟨q, h1, h2, rfl⟩ := k1
    obtain ⟨q2, a1, a2, rfl⟩ := k2
    obtain rfl := nI_u h2 a2 (by omega) (by omega)
    rfl
/-! person -/
def zv_pe (U : zTo) (x y : Int32) : Prop := (∃ p, p < U.1 0 ∧ x = nI p) ∧ ∃ q, q ≤ 2 ∧ y = nI q
def zV_pe (U : zTo) (x y : Int32) (r : Option Value) : Prop := ∃ p q, p < U.1 0 ∧ x = nI p ∧ q ≤ 2 ∧ y = nI q ∧ r = some (.int (nI (if q = 0 then U.2.1 p else if q = 1 then U.2.2.1 p else zkn U p)))
theorem zna_pe (hC : zKC w U) (x y : Int32) : zM Δ 7 10 60 true yX8_person mX8_person [.ref 0, .int x, .int y] w (zNA w U False (zV_pe U x y)) (zNX1 zNS w U False (¬ zv_pe U x y)) :=
  (c_person Δ w U hC.1 x y).mono (fun r d h => by
    obtain ⟨rfl, h⟩ := h
    exact ⟨zkcl0 hC (fun h => h), h⟩) (fun E d h => by
    obtain ⟨rfl, rfl, h⟩ := h
    exact ⟨zkcl0 hC (fun h => h), rfl, h⟩)
theorem znb_pe (hC : zKC d U) (x y : Int32) : zMp Δ 2 yX9_person mX9_person [.ref 100, .int x, .int y] d (zNB d U (¬ zv_pe U x y) False (zV_pe U x y)) :=
  (c_Mo_person Δ d U hC.2.1 hC.tok hC.u13 x y).mono (fun r c h => by
    rcases h with ⟨h, rfl⟩ | ⟨p, q, h1, h2, h3, h4, rfl, h5⟩
    · exact zNB.of hC (zFM.t0.tr zFM.t0) (Or.inl ⟨h, by simp [zsi]⟩)
    · refine zNB.of hC zFM.t0 (Or.inr (Or.inr ⟨⟨p, q, h1, h2, h3, h4, ?_⟩, by simp [zsi]⟩))
      have hs : (if U.2.1 p = 1 then 0 else U.2.2.1 p) = U.2.2.1 p := by
        by_cases h : U.2.1 p = 1
        · rw [if_pos h, hC.2.2.1 p h]
        · rw [if_neg h]
      rw [h5, hs])
theorem zex_pe (hU : zTok U) (x y : Int32) : zEx (¬ zv_pe U x y) False (zV_pe U x y) := by
  have hb1 := hU.1
  refine ⟨fun h => h.2, fun r h => ?_, fun r s k1 k2 => ?_⟩
  · obtain ⟨p, q, h1, h2, h3, h4, -⟩ := h
    exact ⟨fun h9 => h9 ⟨⟨p, h1, h2⟩, q, h3, h4⟩, fun h9 => h9⟩
  · obtain ⟨p, q, h1, h2, h3, h4, rfl⟩ := k1
    obtain ⟨p2, q2, a1, a2, a3, a4, rfl⟩ := k2
    obtain rfl := nI_u h2 a2 (by omega) (by omega)
    obtain rfl := nI_u h4 a4 (by omega) (by omega)
    rfl
/-! weight -/
def zV_we (U : zTo) (x y : Int32) (r : Option Value) : Prop := ∃ p q, p < U.1 0 ∧ x = nI p ∧ q < U.1 0 ∧ y = nI q ∧ r = some (.int (nI (U.2.2.2 (p * 8 + q))))
theorem zna_we (hC : zKC w U) (x y : Int32) : zM Δ 7 10 60 true yX8_weight mX8_weight [.ref 0, .int x, .int y] w (zNA w U False (zV_we U x y)) (zNX1 zNS w U False (¬ zv_tw U x y)) :=
  (c_weight Δ w U hC.1 x y).mono (fun r d h => by
    obtain ⟨rfl, h⟩ := h
    exact ⟨zkcl0 hC (fun h => h), h⟩) (fun E d h => by
    obtain ⟨rfl, rfl, h⟩ := h
    exact ⟨zkcl0 hC (fun h => h), rfl, h⟩)
theorem znb_we (hC : zKC d U) (x y : Int32) : zMp Δ 2 yX9_weight mX9_weight [.ref 100, .int x, .int y] d (zNB d U (¬ zv_tw U x y) False (zV_we U x y)) :=
  (c_Mo_weight Δ d U hC.2.1 hC.tok hC.u13 x y).mono (fun r c h => by
    rcases h with ⟨h, rfl⟩ | ⟨p, q, h1, h2, h3, h4, rfl, h5⟩
    · exact zNB.of hC (zFM.t0.tr zFM.t0) (Or.inl ⟨h, by simp [zsi]⟩)
    · exact zNB.of hC zFM.t0 (Or.inr (Or.inr ⟨⟨p, q, h1, h2, h3, h4, h5⟩, by simp [zsi]⟩)))
theorem zex_we (hU : zTok U) (x y : Int32) : zEx (¬ zv_tw U x y) False (zV_we U x y) := by
  have hb1 := hU.1
  refine ⟨fun h => h.2, fun r h => ?_, fun r s k1 k2 => ?_⟩
  · obtain ⟨p, q, h1, h2, h3, h4, -⟩ := h
    exact ⟨fun h9 => h9 ⟨⟨p, h1, h2⟩, q, h3, h4⟩, fun h9 => h9⟩
  · obtain ⟨p, q, h1, h2, h3, h4, rfl⟩ := k1
    obtain ⟨p2, q2, a1, a2, a3, a4, rfl⟩ := k2
    obtain rfl := nI_u h2 a2 (by omega) (by omega)
    obtain rfl := nI_u h4 a4 (by omega) (by omega)
    rfl
/-! chained -/
def zv_cd (len : Nat) (x : Int32) : Prop := ∃ i, i < len ∧ x = nI i
def zV_cd (code len : Nat) (x : Int32) (r : Option Value) : Prop := ∃ i, i < len ∧ x = nI i ∧ r = some (.int (nI (code / 2 ^ (3 * (len - 1 - i)) % 8)))
theorem zna_cd {code len : Nat} (hC : zKC w U) (hl : len ≤ 12) (hc : code < 2 ^ 36) (h14 : w.2.2.1 0 14 = lN code) (h15 : w.2.1 0 15 = nI len) (x : Int32) : zM Δ 6 10 60 true yX8_chained mX8_chained [.ref 0, .int x] w (zNA w U False (zV_cd code len x)) (zNX1 zNS w U False (¬ zv_cd len x)) :=
  (c_chained Δ w U hC.1 x code len hl hc h14 h15).mono (fun r d h => by
    obtain ⟨rfl, h⟩ := h
    exact ⟨zkcl0 hC (fun h => h), h⟩) (fun E d h => by
    obtain ⟨rfl, rfl, h⟩ := h
    exact ⟨zkcl0 hC (fun h => h), rfl, h⟩)
theorem znb_cd {code len : Nat} (hC : zKC d U) (hl : len ≤ 12) (h66 : d.2.1 100 66 = nI len) (h67 : ∀ i, i < len → d.2.1 167 i = nI (code / 2 ^ (3 * (len - 1 - i)) % 8)) (x : Int32) : zMp Δ 1 yX9_chained mX9_chained [.ref 100, .int x] d (zNB d U (¬ zv_cd len x) False (zV_cd code len x)) :=
  (c_Mo_chained Δ d hC.2.1.1 x len hl h66).mono (fun r c h => by
    rcases h with ⟨h, rfl⟩ | ⟨i, h1, h2, rfl, h3⟩
    · exact zNB.of hC (zFM.t0.tr zFM.t0) (Or.inl ⟨h, by simp [zsi]⟩)
    · exact zNB.of hC zFM.t0 (Or.inr (Or.inr ⟨⟨i, h1, h2, by rw [h3, h67 i h1]⟩, by simp [zsi]⟩)))
theorem zex_cd {code len : Nat} (hl : len ≤ 12) (x : Int32) : zEx (¬ zv_cd len x) False (zV_cd code len x) := by
  refine ⟨fun h => h.2, fun r h => ?_, fun r s k1 k2 => ?_⟩
  · obtain ⟨p, h1, h2, -⟩ := h
    exact ⟨fun h9 => h9 ⟨p, h1, h2⟩, fun h9 => h9⟩
  · obtain ⟨p, h1, h2, rfl⟩ := k1
    obtain ⟨p2, a1, a2, rfl⟩ := k2
    obtain rfl := nI_u h2 a2 (by omega) (by omega)
    rfl
/-! thieves -/
def zv_th (x : Int32) : Prop := ∃ q, q ≤ 4 ∧ x = nI q
def zV_th (U : zTo) (thr few : Nat → Nat) (n : Nat) (x : Int32) (r : Option Value) : Prop := ∃ q, q ≤ 4 ∧ x = nI q ∧ r = some (.int (if q = 0 then nI (if zcnt (fun s => zexp thr few s n) (2 ^ U.1 0) = 0 then 0 else zsu (fun s => zexp thr few s n) ((2 ^ U.1 0) - 1) (2 ^ U.1 0)) else if q = 1 then nI (zpo (fun s => zexp thr few s n) (2 ^ U.1 0)) else if q = 2 then nI (zcnt (fun s => zexp thr few s n) (2 ^ U.1 0)) else if q = 3 then zoi (zfw (fun s => zexp thr few s n) (2 ^ U.1 0)) else if zcnt (fun s => zexp thr few s n) (2 ^ U.1 0) = 0 then -1 else zoi (zwa (fun p => zwi (fun s => zexp thr few s n) p (2 ^ U.1 0)) (zcnt (fun s => zexp thr few s n) (2 ^ U.1 0)) (U.1 0))))
theorem zthw_i {su po se fw : Int32} {wi : Nat → Int32} {a j : Nat} (h : ¬ a = 50) (h2 : a = 47 → ¬ (3 ≤ j ∧ j ≤ 6)) : (zthw w 47 su po se fw wi).2.1 a j = w.2.1 a j := by
  simp only [zthw]
  by_cases h3 : a = 47
  · have := h2 h3
    rw [if_pos h3, if_neg (by omega), if_neg (by omega), if_neg (by omega), if_neg (by omega)]
  · rw [if_neg h3, if_neg h]
theorem zKC.th (h : zKC w U) {su po se fw : Int32} {wi : Nat → Int32} : zKC (zthw w 47 su po se fw wi) U ∧ zHi w (zthw w 47 su po se fw wi) := by
  have hh : zHi w (zthw w 47 su po se fw wi) := ⟨fun _ _ => rfl, fun a j x => ⟨zthw_i (by omega) (by omega), rfl⟩⟩
  exact ⟨⟨h.1.out rfl rfl (fun a j ha => ⟨zthw_i (by omega) (by omega), rfl⟩), h.2.1.hi hh, h.2.2.1, h.2.2.2.1, h.2.2.2.2.ob (fun a j x => zthw_i (by have := zob_r x; omega) (by have := zob_r x; omega)) rfl⟩, hh⟩
theorem zna_th {n : Nat} {thr few : Nat → Nat} (hC : zKC w U) (hn : n ≤ 30) (h2 : w.2.1 47 2 = nI n) (h48 : ∀ k, k < n → w.2.1 48 k = nI (thr k)) (h49 : ∀ k, k < n → w.2.1 49 k = nI (few k) ∧ few k ≤ 8) (x : Int32) : zM Δ 7 10 60 true yX8_thieves mX8_thieves [.ref 0, .int x] w (zNA w U False (zV_th U thr few n x)) (zNX1 zNS w U False (¬ zv_th x)) :=
  (c_thieves Δ w U hC.1 x n hn thr few h2 h48 h49).mono (fun r d h => by
    obtain ⟨q, h1, h2, h3, su, po, se, fw, wi, rfl⟩ := h
    exact ⟨⟨hC.th.1, hC.th.2, zLw.q rfl⟩, q, h1, h2, h3⟩) (fun E d h => by
    obtain ⟨rfl, rfl, h⟩ := h
    exact ⟨zkcl0 hC (fun h => h), rfl, h⟩)
theorem znb_th {n : Nat} {thr few : Nat → Nat} (hC : zKC d U) (hn : n ≤ 30) (h71 : d.2.1 100 71 = nI n) (h72 : ∀ k, k < n → d.2.1 172 k = nI (thr k)) (h73 : ∀ k, k < n → d.2.1 173 k = nI (few k) ∧ few k ≤ 8) (x : Int32) : zMp Δ 2 yX9_thieves mX9_thieves [.ref 100, .int x] d (zNB d U (¬ zv_th x) False (zV_th U thr few n x)) :=
  (c_Mo_thieves Δ d U hC.2.1 hC.tok hC.u13 x n hn thr few h71 h72 h73).mono (fun r c h => by
    obtain ⟨hf, h⟩ := h
    refine zNB.of hC hf ?_
    rcases h with ⟨h, h0⟩ | ⟨q, h1, h2, h0, h3⟩
    · exact Or.inl ⟨h, h0⟩
    · exact Or.inr (Or.inr ⟨⟨q, h1, h2, h3⟩, h0⟩))
theorem zex_th {n : Nat} {thr few : Nat → Nat} (x : Int32) : zEx (¬ zv_th x) False (zV_th U thr few n x) := by
  refine ⟨fun h => h.2, fun r h => ?_, fun r s k1 k2 => ?_⟩
  · obtain ⟨p, h1, h2, -⟩ := h
    exact ⟨fun h9 => h9 ⟨p, h1, h2⟩, fun h9 => h9⟩
  · obtain ⟨p, h1, h2, h3⟩ := k1
    obtain ⟨p2, a1, a2, a3⟩ := k2
    obtain rfl := nI_u h2 a2 (by omega) (by omega)
    rw [h3, a3]
/-! luck -/
def zv_lu (a b e : Int32) : Prop := ∃ n k c, n ≤ 30 ∧ a = nI n ∧ k ≤ n ∧ b = nI k ∧ c ≤ 1000 ∧ e = nI c
def zV_lu (a b e : Int32) (r : Option Value) : Prop := ∃ n k c, n ≤ 30 ∧ a = nI n ∧ k ≤ n ∧ b = nI k ∧ c ≤ 1000 ∧ e = nI c ∧ r = some (.int (lN (zlsum c n k (n + 1 - k))).toInt32)
theorem zna_lu (hC : zKC w U) (a b e : Int32) : zM Δ 6 10 60 true yX8_luck mX8_luck [.ref 0, .int a, .int b, .int e] w (zNA w U False (zV_lu a b e)) (zNX1 "java/lang/IllegalArgumentException" w U False (¬ zv_lu a b e)) :=
  (c_luck Δ w U hC.1 a b e).mono (fun r d h => by
    obtain ⟨n, k, c, h1, h2, h3, h4, h5, h6, h7, f, rfl⟩ := h
    exact ⟨zkcl hC (zFc.rol (by decide)) (hC.1.rol2 (by decide) f) (zLw.q rfl), n, k, c, h1, h2, h3, h4, h5, h6, h7⟩) (fun E d h => by
    obtain ⟨rfl, rfl, h⟩ := h
    exact ⟨zkcl0 hC (fun h => h), rfl, h⟩)
theorem znb_lu (hC : zKC d U) (a b e : Int32) : zMp Δ 1 yX9_luck mX9_luck [.ref 100, .int a, .int b, .int e] d (zNB d U (¬ zv_lu a b e) False (zV_lu a b e)) :=
  (c_Mo_luck Δ d hC.2.1.1 a b e).mono (fun r c h => by
    obtain ⟨hf, h⟩ := h
    refine zNB.of hC hf ?_
    rcases h with ⟨h, h0⟩ | ⟨n, k, c9, h1, h2, h3, h4, h5, h6, h0, h7⟩
    · exact Or.inl ⟨h, h0⟩
    · exact Or.inr (Or.inr ⟨⟨n, k, c9, h1, h2, h3, h4, h5, h6, h7⟩, h0⟩))
theorem zex_lu (a b e : Int32) : zEx (¬ zv_lu a b e) False (zV_lu a b e) := by
  refine ⟨fun h => h.2, fun r h => ?_, fun r s k1 k2 => ?_⟩
  · obtain ⟨n, k, c, h1, h2, h3, h4, h5, h6, -⟩ := h
    exact ⟨fun h9 => h9 ⟨n, k, c, h1, h2, h3, h4, h5, h6⟩, fun h9 => h9⟩
  · obtain ⟨n, k, c, h1, h2, h3, h4, h5, h6, h7⟩ := k1
    obtain ⟨n2, k2, c2, a1, a2, a3, a4, a5, a6, a7⟩ := k2
    obtain rfl := nI_u h2 a2 (by omega) (by omega)
    obtain rfl := nI_u h4 a4 (by omega) (by omega)
    obtain rfl := nI_u h6 a6 (by omega) (by omega)
    rw [h7, a7]
/-! week -/
def zv_wk (bg : Prop) (n : Nat) (x y : Int32) : Prop := bg ∧ (∃ i, i < n ∧ x = nI i) ∧ ∃ q, q ≤ 2 ∧ y = nI q
def zV_wk (U : zTo) (bg : Prop) (n : Nat) (S : zRs) (x y : Int32) (r : Option Value) : Prop := bg ∧ ∃ q i, q ≤ 2 ∧ y = nI q ∧ i < n ∧ x = nI i ∧ r = some (.int (if q = 0 then zeb (S.2.2 i) else if q = 1 then nI (zeh (S.2.2 i)) else nI (if zeh (S.2.2 i) = 0 then 0 else zpe U (zeh (S.2.2 i)))))
theorem zna_wk {bg : Prop} {wo n : Nat} {S : zRs} (hC : zKC w U) (hb : (bg ∧ zWr w 53 wo n S) ∨ (¬ bg ∧ n = 0 ∧ w.2.1 53 3 = 0)) (x y : Int32) : zM Δ 7 10 60 true yX8_week mX8_week [.ref 0, .int x, .int y] w (zNA w U False (zV_wk U bg n S x y)) (zNX1 zNS w U False (¬ zv_wk bg n x y)) := by
  have h3 : w.2.1 53 3 = nI n := by
    rcases hb with h | ⟨-, rfl, h⟩
    · exact h.2.2.2.2.2.1
    · exact h
  have hn : n ≤ 100 := by
    rcases hb with h | ⟨-, rfl, h⟩
    · exact h.2.2.2.2.2.2.1
    · exact Nat.zero_le _
  have hh : ∀ i, i < n → w.2.1 54 i = zeb (S.2.2 i) ∧ w.2.1 55 i = nI (zeh (S.2.2 i)) ∧ zeh (S.2.2 i) ≤ 12 := fun i hi => by
    rcases hb with h | ⟨-, rfl, h⟩
    · exact h.2.2.2.2.2.2.2.1 i hi
    · omega
  have hbg : ∀ i, i < n → bg := fun i hi => by
    rcases hb with h | ⟨-, rfl, h⟩
    · exact h.1
    · omega
  refine (c_week Δ w U hC.1 x y n hn h3 (fun i => zeh (S.2.2 i)) (fun i hi => (hh i hi).2)).mono (fun r d h => ?_) (fun E d h => ?_)
  · obtain ⟨h0, q, i, h1, h2, h3, h4, h5⟩ := h
    refine ⟨by rw [h0]; exact zkcl0 hC (fun h => h), hbg i h3, q, i, h1, h2, h3, h4, ?_⟩
    rw [h5, (hh i h3).1]
  · obtain ⟨rfl, h0, h⟩ := h
    exact ⟨by rw [h0]; exact zkcl0 hC (fun h => h), rfl, fun h9 => h ⟨h9.2.2, h9.2.1⟩⟩
theorem znb_wk {bg : Prop} {wo n : Nat} {S : zRs} (hC : zKC d U) (hn : n ≤ 100) (hb : (bg ∧ d.2.1 100 76 = 1 ∧ zMwk d U wo n S) ∨ (¬ bg ∧ d.2.1 100 76 = 0)) (x y : Int32) : zMp Δ 1 yX9_week mX9_week [.ref 100, .int x, .int y] d (zNB d U (¬ zv_wk bg n x y) False (zV_wk U bg n S x y)) :=
  (c_Mo_week Δ d hC.2.1.1 x y bg n hn (hb.imp (fun h => ⟨h.1, h.2.1, h.2.2.2.2.2.1⟩) (fun h => h))).mono (fun r c h => by
    rcases h with ⟨h, rfl⟩ | ⟨h1, q, i, h2, h3, h4, h5, rfl, h6⟩
    · exact zNB.of hC (zFM.t0.tr zFM.t0) (Or.inl ⟨h, by simp [zsi]⟩)
    · refine zNB.of hC zFM.t0 (Or.inr (Or.inr ⟨⟨h1, q, i, h2, h3, h4, h5, ?_⟩, by simp [zsi]⟩))
      rcases hb with hb | hb
      · have := hb.2.2.2.2.2.2.2.1 i h4
        rw [h6, this.1, this.2.1, this.2.2]
      · exact (hb.1 h1).elim)
theorem zex_wk {bg : Prop} {n : Nat} {S : zRs} (hn : n ≤ 100) (x y : Int32) : zEx (¬ zv_wk bg n x y) False (zV_wk U bg n S x y) := by
  refine ⟨fun h => h.2, fun r h => ?_, fun r s k1 k2 => ?_⟩
  · obtain ⟨h0, q, i, h1, h2, h3, h4, -⟩ := h
    exact ⟨fun h9 => h9 ⟨h0, ⟨i, h3, h4⟩, q, h1, h2⟩, fun h9 => h9⟩
  · obtain ⟨-, q, i, h1, h2, h3, h4, h5⟩ := k1
    obtain ⟨-, q2, i2, a1, a2, a3, a4, a5⟩ := k2
    obtain rfl := nI_u h2 a2 (by omega) (by omega)
    obtain rfl := nI_u h4 a4 (by omega) (by omega)
    rw [h5, a5]
/-! odds -/
def zV_od (U : zTo) (f : Nat → Nat) (n : Nat) (r : Option Value) : Prop := (U.1 0 = 0 ∧ r = some (.int 0)) ∨ (0 < U.1 0 ∧ zfit U 20000 ∧ r = some (.int (lN (zodds U f n)).toInt32))
theorem zna_od {n : Nat} {f : Nat → Nat} (hC : zKC w U) (hn : n ≤ 20) (h1 : w.2.1 38 1 = nI n) (hf1 : ∀ i, i < n → w.2.1 39 i = nI (f i)) (hf8 : ∀ i, f i < 8) (mc ms : Nat) (hm : zRo w (0 < U.1 0 ∧ ¬ zfit U 640) mc ms) : zM Δ 8 mc ms false yX8_odds mX8_odds [.ref 0] w (zNA w U (0 < U.1 0 ∧ ¬ zfit U 640) (zV_od U f n)) (zNX1 "java/lang/IllegalArgumentException" w U (0 < U.1 0 ∧ ¬ zfit U 640) (0 < U.1 0 ∧ ¬ zfit U 20000)) :=
  (d_odds Δ w U hC.1 n f hn h1 hf1 hf8 mc ms hm).mono (fun r d h => by
    obtain ⟨h1, h2, h3⟩ := h
    rcases h3 with ⟨h3, h4, h5⟩ | ⟨h3, h4, h5, h6⟩
    · exact ⟨by rw [h4]; exact zkcl0 hC (fun h => by omega), Or.inl ⟨h3, h5⟩⟩
    · exact ⟨zkcl hC h1.c h2 (h4.w.s (fun h => h.2)), Or.inr ⟨h3, h5, h6⟩⟩) (fun E d h => ⟨zkcls hC h.2, h.2.1, h.1, h.2.2.1⟩)
theorem znb_od {n : Nat} {f : Nat → Nat} (hC : zKC d U) (hr : zRo9 d U n f) : zMp Δ 5 yX9_odds mX9_odds [.ref 100] d (zNB d U (0 < U.1 0 ∧ ¬ zfit U 20000) False (zV_od U f n)) :=
  (c_Mo_odds Δ d U hC.2.1 hC.tok hC.u13 n f hr).mono (fun r c h => by
    obtain ⟨hf, h⟩ := h
    refine zNB.of hC hf ?_
    rcases h with ⟨h, h0, h1⟩ | ⟨h, h1, h0⟩ | ⟨h, h1, h0, h2⟩
    · exact Or.inr (Or.inr ⟨Or.inl ⟨h, h1⟩, h0⟩)
    · exact Or.inl ⟨⟨h, h1⟩, h0⟩
    · exact Or.inr (Or.inr ⟨Or.inr ⟨h, h1, h2⟩, h0⟩))
theorem zex_od {n : Nat} {f : Nat → Nat} : zEx (0 < U.1 0 ∧ ¬ zfit U 20000) False (zV_od U f n) := by
  refine ⟨fun h => h.2, fun r h => ⟨fun h9 => ?_, fun h9 => h9⟩, fun r s k1 k2 => ?_⟩
  · rcases h with h | h
    · omega
    · exact h9.2 h.2.1
  · rcases k1 with ⟨h1, h2⟩ | ⟨h1, -, h2⟩
    · rcases k2 with ⟨a1, a2⟩ | ⟨a1, -, a2⟩
      · rw [h2, a2]
      · omega
    · rcases k2 with ⟨a1, a2⟩ | ⟨a1, -, a2⟩
      · omega
      · rw [h2, a2]
end ZOR
