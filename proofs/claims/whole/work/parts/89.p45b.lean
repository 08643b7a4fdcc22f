/-! what is asked: one, least, two -/
section ZOQ
variable {Δ : zD} {w d : zW} {U : zTo}
def zv_on (U : zTo) (x wh : Int32) : Prop := (∃ p, p < U.1 0 ∧ x = nI p) ∧ ∃ q, q ≤ 1 ∧ wh = nI q
def zu_on (a b : Int32) : Prop := ∃ to s, to ≤ 9999 ∧ a = nI to ∧ (1 ≤ s ∧ s < 2 ^ 31) ∧ b = nI s ∧ to / s < 60
def zX_on (U : zTo) (x a b wh : Int32) : Prop := zv_on U x wh ∧ (¬ zu_on a b ∨ (zu_on a b ∧ ¬ zfit U 20000))
def zV_on (U : zTo) (x a b wh : Int32) (r : Option Value) : Prop := ∃ p wq to s, p < U.1 0 ∧ x = nI p ∧ wq ≤ 1 ∧ wh = nI wq ∧ to ≤ 9999 ∧ a = nI to ∧ (1 ≤ s ∧ s < 2 ^ 31) ∧ b = nI s ∧ to / s < 60 ∧ zfit U 20000 ∧ r = some (.long (if wq = 0 then lN (zbx (fun k => zgn U p (k * s)) (to / s) * s) else lZ (zgn U p (zbx (fun k => zgn U p (k * s)) (to / s) * s))))
theorem zna_on (hC : zKC w U) (x a b wh : Int32) (mc ms : Nat) (hm : zRo w (zv_on U x wh ∧ zu_on a b ∧ ¬ zfit U 640) mc ms) : zM Δ 8 mc ms false yX8_one mX8_one [.ref 0, .int x, .int a, .int b, .int wh] w (zNA w U (zv_on U x wh ∧ zu_on a b ∧ ¬ zfit U 640) (zV_on U x a b wh)) (zNX2 w U (zv_on U x wh ∧ zu_on a b ∧ ¬ zfit U 640) (¬ zv_on U x wh) (zX_on U x a b wh)) :=
  (c_one Δ w U hC.1 x a b wh mc ms hm).mono (fun r d h => by
    obtain ⟨h1, h2, h3, h4⟩ := h
    exact ⟨zkcl hC h1.c h2 h3, h4⟩) (fun E d h => by
    rcases h with ⟨rfl, rfl, h⟩ | ⟨h, rfl, rfl, h2⟩ | ⟨h, h2, h3⟩
    · exact ⟨zkcl0 hC (fun h9 => h h9.1), Or.inl ⟨rfl, h⟩⟩
    · exact ⟨zkcl0 hC (fun h9 => h2 h9.2.1), Or.inr ⟨rfl, h, Or.inl h2⟩⟩
    · exact ⟨zkcls hC h3, Or.inr ⟨h3.1, h, Or.inr ⟨h2, h3.2.1⟩⟩⟩)
theorem znb_on (hC : zKC d U) (x a b wh : Int32) : zMp Δ 5 yX9_one mX9_one [.ref 100, .int x, .int a, .int b, .int wh] d (zNB d U (¬ zv_on U x wh) (zX_on U x a b wh) (zV_on U x a b wh)) :=
  (c_Mo_one Δ d U hC.2.1 hC.tok hC.u13 x a b wh).mono (fun r c h => by
    obtain ⟨hf, h⟩ := h
    refine zNB.of hC hf ?_
    rcases h with ⟨h, h0⟩ | ⟨h, h1, h0⟩ | ⟨h, h1, h2, h0⟩ | ⟨p, wq, to, s, h1, h2, h3, h4, h5, h6, h7, h8, h9, h10, h0, h11⟩
    · exact Or.inl ⟨h, h0⟩
    · exact Or.inr (Or.inl ⟨⟨h, Or.inl h1⟩, h0⟩)
    · exact Or.inr (Or.inl ⟨⟨h, Or.inr ⟨h1, h2⟩⟩, h0⟩)
    · exact Or.inr (Or.inr ⟨⟨p, wq, to, s, h1, h2, h3, h4, h5, h6, h7, h8, h9, h10, h11⟩, h0⟩))
theorem zex_on (hU : zTok U) (x a b wh : Int32) : zEx (¬ zv_on U x wh) (zX_on U x a b wh) (zV_on U x a b wh) := by
  have hb1 := hU.1
  refine ⟨fun h => h.1 h.2.1, fun r h => ?_, fun r s k1 k2 => ?_⟩
  · obtain ⟨p, wq, to, s, h1, h2, h3, h4, h5, h6, h7, h8, h9, h10, -⟩ := h
    refine ⟨fun g => g ⟨⟨p, h1, h2⟩, wq, h3, h4⟩, fun g => ?_⟩
    rcases g.2 with g | g
    · exact g ⟨to, s, h5, h6, h7, h8, h9⟩
    · exact g.2 h10
  · obtain ⟨p, wq, to, s, h1, h2, h3, h4, h5, h6, h7, h8, h9, -, rfl⟩ := k1
    obtain ⟨p', wq', to', s', g1, g2, g3, g4, g5, g6, g7, g8, g9, -, rfl⟩ := k2
    obtain rfl := nI_u h2 g2 (by omega) (by omega)
    obtain rfl := nI_u h4 g4 (by omega) (by omega)
    obtain rfl := nI_u h6 g6 (by omega) (by omega)
    obtain rfl := nI_u h8 g8 (by omega) (by omega)
    rfl
/-! least -/
def zk_le (bI : Int32) : Nat := if bI = 1 then 9 else 8
def zu_le (a b st : Int32) : Prop := ∃ f t s, f ≤ t ∧ t ≤ 9999 ∧ a = nI f ∧ b = nI t ∧ (1 ≤ s ∧ s < 2 ^ 31) ∧ st = nI s ∧ (t - f) / s < 60
def zb_le (U : zTo) (bI a b st : Int32) : Prop := zu_le a b st ∧ 0 < U.1 0 ∧ ∃ f t s, a = nI f ∧ b = nI t ∧ st = nI s ∧ s < 2 ^ 31 ∧ f ≤ t ∧ t ≤ 9999 ∧ zlsB U (if bI = 1 then 9 else 8) f s ((t - f) / s)
def zlsN (U : zTo) (kf f s n : Nat) : Prop := ∃ i, i ≤ n ∧ (∀ j, j < i → zfit (zZl U kf f s j) 20000 ∧ ¬ zZh U kf f s j) ∧ ¬ zfit (zZl U kf f s i) 20000
def zX_le (U : zTo) (bI a b st : Int32) : Prop := 0 < U.1 0 ∧ (¬ zu_le a b st ∨ ∃ f t s, f ≤ t ∧ t ≤ 9999 ∧ a = nI f ∧ b = nI t ∧ (1 ≤ s ∧ s < 2 ^ 31) ∧ st = nI s ∧ (t - f) / s < 60 ∧ zlsN U (zk_le bI) f s ((t - f) / s))
def zV_le (U : zTo) (bI a b st : Int32) (r : Option Value) : Prop := 0 < U.1 0 ∧ ∃ f t s, f ≤ t ∧ t ≤ 9999 ∧ a = nI f ∧ b = nI t ∧ (1 ≤ s ∧ s < 2 ^ 31) ∧ st = nI s ∧ (t - f) / s < 60 ∧ zlsR U (zk_le bI) f s ((t - f) / s) r
theorem zna_le (hC : zKC w U) (bI a b st : Int32) (hbI : bI = 0 ∨ bI = 1) (mc ms : Nat) (hm : zRo w (zb_le U bI a b st) mc ms) : zM Δ 8 mc ms false yX8_least mX8_least [.ref 0, .int bI, .int a, .int b, .int st] w (zNA w U (zb_le U bI a b st) (zV_le U bI a b st)) (zNX2 w U (zb_le U bI a b st) (¬ 0 < U.1 0) (zX_le U bI a b st)) :=
  (c_least Δ w U hC.1 bI a b st hbI mc ms hm).mono (fun r d h => by
    obtain ⟨h1, h2, h3, h4⟩ := h
    exact ⟨zkcl hC h1.c h2 h3, h4⟩) (fun E d h => by
    rcases h with ⟨rfl, rfl, h⟩ | ⟨h, rfl, rfl, h2⟩ | ⟨h, f, t, s, h1, h2, h3, h4, h5, h6, h7, i, h8, h9, h10⟩
    · exact ⟨zkcl0 hC (fun h9 => h h9.2.1), Or.inl ⟨rfl, h⟩⟩
    · exact ⟨zkcl0 hC (fun h9 => h2 h9.1), Or.inr ⟨rfl, h, Or.inl h2⟩⟩
    · exact ⟨zkcls hC h10, Or.inr ⟨h10.1, h, Or.inr ⟨f, t, s, h1, h2, h3, h4, h5, h6, h7, i, h8, h9, h10.2.1⟩⟩⟩)
theorem znb_le (hC : zKC d U) (bI a b st : Int32) (hbI : bI = 0 ∨ bI = 1) : zMp Δ 6 yX9_least mX9_least [.ref 100, .int bI, .int a, .int b, .int st] d (zNB d U (¬ 0 < U.1 0) (zX_le U bI a b st) (zV_le U bI a b st)) :=
  (c_Mo_least Δ d U hC.2.1 hC.tok hC.u13 bI a b st hbI).mono (fun r c h => by
    obtain ⟨hf, h⟩ := h
    refine zNB.of hC hf ?_
    rcases h with ⟨h, h0⟩ | ⟨h, h1, h0⟩ | ⟨h, f, t, s, h1, h2, h3, h4, h5, h6, h7, h8⟩
    · exact Or.inl ⟨h, h0⟩
    · exact Or.inr (Or.inl ⟨⟨h, Or.inl h1⟩, h0⟩)
    · have h9 : zlsP U (zk_le bI) f s ((t - f) / s) c r := by
        rcases h8 with ⟨rfl, h8⟩ | ⟨rfl, h8⟩
        · exact h8
        · exact h8
      obtain ⟨i, g1, g2, g3⟩ := h9
      rcases g3 with ⟨g3, h0⟩ | ⟨g3, g4, h0, g5⟩ | ⟨g3, g4, g5, h0, g6⟩
      · exact Or.inr (Or.inl ⟨⟨h, Or.inr ⟨f, t, s, h1, h2, h3, h4, h5, h6, h7, i, g1, g2, g3⟩⟩, h0⟩)
      · exact Or.inr (Or.inr ⟨⟨h, f, t, s, h1, h2, h3, h4, h5, h6, h7, i, g1, g2, Or.inl ⟨g3, g4, g5⟩⟩, h0⟩)
      · exact Or.inr (Or.inr ⟨⟨h, f, t, s, h1, h2, h3, h4, h5, h6, h7, i, g1, g2, Or.inr ⟨g3, g4, g5, g6⟩⟩, h0⟩))
theorem zls_x {kf f s n : Nat} {r : Option Value} (h1 : zlsN U kf f s n) (h2 : zlsR U kf f s n r) : False := by
  obtain ⟨i, a1, a2, a3⟩ := h1
  obtain ⟨j, b1, b2, b3⟩ := h2
  rcases Nat.lt_trichotomy i j with h | h | h
  · exact a3 (b2 i h).1
  · subst h
    rcases b3 with b3 | b3
    · exact a3 b3.1
    · exact a3 b3.2.1
  · rcases b3 with b3 | b3
    · exact (a2 j h).2 b3.2.1
    · have := b3.1; omega
theorem zls_u {kf f s n : Nat} {r q : Option Value} (h1 : zlsR U kf f s n r) (h2 : zlsR U kf f s n q) : r = q := by
  obtain ⟨i, a1, a2, a3⟩ := h1
  obtain ⟨j, b1, b2, b3⟩ := h2
  rcases Nat.lt_trichotomy i j with h | h | h
  · rcases a3 with a3 | a3
    · exact ((b2 i h).2 a3.2.1).elim
    · have := a3.1; omega
  · subst h
    rcases a3 with a3 | a3
    · rcases b3 with b3 | b3
      · rw [a3.2.2, b3.2.2]
      · exact (b3.2.2.1 a3.2.1).elim
    · rcases b3 with b3 | b3
      · exact (a3.2.2.1 b3.2.1).elim
      · rw [a3.2.2.2, b3.2.2.2]
  · rcases b3 with b3 | b3
    · exact ((a2 j h).2 b3.2.1).elim
    · have := b3.1; omega
theorem zex_le (bI a b st : Int32) : zEx (¬ 0 < U.1 0) (zX_le U bI a b st) (zV_le U bI a b st) := by
  refine ⟨fun h => h.1 h.2.1, fun r h => ?_, fun r s k1 k2 => ?_⟩
  · obtain ⟨h0, f, t, s, h1, h2, h3, h4, h5, h6, h7, h8⟩ := h
    refine ⟨fun h9 => h9 h0, fun h9 => ?_⟩
    rcases h9.2 with g | ⟨f', t', s', g1, g2, g3, g4, g5, g6, g7, g8⟩
    · exact g ⟨f, t, s, h1, h2, h3, h4, h5, h6, h7⟩
    · obtain rfl := nI_u h3 g3 (by omega) (by omega)
      obtain rfl := nI_u h4 g4 (by omega) (by omega)
      obtain rfl := nI_u h6 g6 (by omega) (by omega)
      exact zls_x g8 h8
  · obtain ⟨-, f, t, s, h1, h2, h3, h4, h5, h6, h7, h8⟩ := k1
    obtain ⟨-, f', t', s', g1, g2, g3, g4, g5, g6, g7, g8⟩ := k2
    obtain rfl := nI_u h3 g3 (by omega) (by omega)
    obtain rfl := nI_u h4 g4 (by omega) (by omega)
    obtain rfl := nI_u h6 g6 (by omega) (by omega)
    exact zls_u h8 g8
/-! two -/
def zv_tw (U : zTo) (x y : Int32) : Prop := (∃ p, p < U.1 0 ∧ x = nI p) ∧ ∃ q, q < U.1 0 ∧ y = nI q
def zb_tw (U : zTo) (x y : Int32) : Prop := ∃ p q, p < U.1 0 ∧ x = nI p ∧ q < U.1 0 ∧ y = nI q ∧ ztwB U p q
def zX_tw (U : zTo) (x y : Int32) : Prop := ∃ p q, p < U.1 0 ∧ x = nI p ∧ q < U.1 0 ∧ y = nI q ∧ ztwX U p q
def zV_tw (U : zTo) (x y : Int32) (r : Option Value) : Prop := ∃ p q, p < U.1 0 ∧ x = nI p ∧ q < U.1 0 ∧ y = nI q ∧ ztwR U p q r
theorem zna_tw (hC : zKC w U) (x y : Int32) (mc ms : Nat) (hm : zRo w (zb_tw U x y) mc ms) : zM Δ 8 mc ms false yX8_two mX8_two [.ref 0, .int x, .int y] w (zNA w U (zb_tw U x y) (zV_tw U x y)) (zNX2 w U (zb_tw U x y) (¬ zv_tw U x y) (zX_tw U x y)) :=
  (c_two Δ w U hC.1 x y mc ms hm).mono (fun r d h => by
    obtain ⟨h1, h2, h3, h4⟩ := h
    exact ⟨zkcl hC h1.c h2 h3, h4⟩) (fun E d h => by
    rcases h with ⟨rfl, rfl, h⟩ | ⟨p, q, h1, h2, h3, h4, h5, rfl, h6, h7, h8⟩
    · exact ⟨zkcl0 hC (fun h9 => by obtain ⟨p, q, g1, g2, g3, g4, -⟩ := h9; exact h ⟨⟨p, g1, g2⟩, q, g3, g4⟩), Or.inl ⟨rfl, h⟩⟩
    · exact ⟨zkcl hC h6.c h7 (zLw.y h8), Or.inr ⟨rfl, p, q, h1, h2, h3, h4, h5⟩⟩)
theorem znb_tw (hC : zKC d U) (x y : Int32) : zMp Δ 5 yX9_two mX9_two [.ref 100, .int x, .int y] d (zNB d U (¬ zv_tw U x y) (zX_tw U x y) (zV_tw U x y)) :=
  (c_Mo_two Δ d U hC.2.1 hC.tok hC.u13 x y).mono (fun r c h => by
    obtain ⟨hf, h⟩ := h
    refine zNB.of hC hf ?_
    rcases h with ⟨h, h0⟩ | ⟨p, q, h1, h2, h3, h4, h5⟩
    · exact Or.inl ⟨h, h0⟩
    · rcases h5 with ⟨h5, h0⟩ | ⟨K, h5, h6, h7⟩
      · exact Or.inr (Or.inl ⟨⟨p, q, h1, h2, h3, h4, Or.inl h5⟩, h0⟩)
      · rcases h7 with ⟨k, g1, g2, g3, g4, h0⟩ | ⟨g1, h0, g2⟩
        · exact Or.inr (Or.inl ⟨⟨p, q, h1, h2, h3, h4, Or.inr ⟨K, h5, h6, k, g1, g2, g3, g4⟩⟩, h0⟩)
        · exact Or.inr (Or.inr ⟨⟨p, q, h1, h2, h3, h4, K, h5, h6, g1, g2⟩, h0⟩))
theorem zex_tw (hU : zTok U) (x y : Int32) : zEx (¬ zv_tw U x y) (zX_tw U x y) (zV_tw U x y) := by
  have hb1 := hU.1
  refine ⟨fun h => ?_, fun r h => ?_, fun r s k1 k2 => ?_⟩
  · obtain ⟨h1, p, q, h2, h3, h4, h5, -⟩ := h
    exact h1 ⟨⟨p, h2, h3⟩, q, h4, h5⟩
  · obtain ⟨p, q, h1, h2, h3, h4, K, h5, h6, h7, -⟩ := h
    refine ⟨fun h9 => h9 ⟨⟨p, h1, h2⟩, q, h3, h4⟩, fun h9 => ?_⟩
    obtain ⟨p', q', g1, g2, g3, g4, g5⟩ := h9
    obtain rfl := nI_u h2 g2 (by omega) (by omega)
    obtain rfl := nI_u h4 g4 (by omega) (by omega)
    rcases g5 with g5 | ⟨K', g5, g6, k, g7, g8, g9, g10⟩
    · exact g5 ⟨K, h5, h6⟩
    · obtain rfl := zall_one h5 g5
      exact g10 (h7 k g7 g8 g9)
  · obtain ⟨p, q, h1, h2, h3, h4, K, h5, h6, h7, rfl⟩ := k1
    obtain ⟨p', q', g1, g2, g3, g4, K', g5, g6, g7, rfl⟩ := k2
    obtain rfl := nI_u h2 g2 (by omega) (by omega)
    obtain rfl := nI_u h4 g4 (by omega) (by omega)
    obtain rfl := zall_one h5 g5
    rfl
end ZOQ
