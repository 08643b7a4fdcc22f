/-! what is asked: class and model in one form -/
theorem nI_u {p q : Nat} {x : Int32} (h1 : x = nI p) (h2 : x = nI q) (hp : p < 2 ^ 31) (hq : q < 2 ^ 31) : p = q := (nI_eq hp hq).mp (h1.symm.trans h2)
section ZP
variable {w d : zW} {U : zTo} {big : Prop}
theorem zkcl (hC : zKC w U) (hf : zFc w d) (hb : zB d U) (hl : zLw w d big) : zKC d U ∧ zHi w d ∧ zLw w d big := ⟨hC.cl hf hb, hf.hi, hl⟩
theorem zkcl0 (hC : zKC w U) (hn : ¬ big) : zKC w U ∧ zHi w w ∧ zLw w w big := ⟨hC, zHi.rf w, zLw.rf w hn⟩
theorem zkcls {T : zTo} {E : String} (hC : zKC w U) (h : zSp w U T E d) : zKC d U ∧ zHi w d ∧ zLw w d big := ⟨hC.cl h.2.2.1.c h.2.2.2.1, h.2.2.1.c.hi, zLw.y h.2.2.2.2⟩
theorem zKC.tok (hC : zKC w U) : zTok U := hC.1.2.2.1.1
theorem zKC.u13 (hC : zKC w U) : U.1 13 = 0 := hC.1.2.2.1.2.2
end ZP
section ZOP
variable {Δ : zD} {w d : zW} {U : zTo}
/-! opened -/
def zv_op (U : zTo) (x y : Int32) : Prop := (∃ p, p < U.1 0 ∧ x = nI p) ∧ ∃ h, (1 ≤ h ∧ h ≤ U.1 7) ∧ y = nI h
def zV_op (U : zTo) (x y : Int32) (r : Option Value) : Prop := zfit U 20000 ∧ ∃ p h, p < U.1 0 ∧ x = nI p ∧ (1 ≤ h ∧ h ≤ U.1 7) ∧ y = nI h ∧ ∃ K, zall U K ∧ r = some (.int (lN (zcas U K (p * 12 + (h - 1)))).toInt32)
theorem zna_op (hC : zKC w U) (x y : Int32) (mc ms : Nat) (hm : zRo w (zv_op U x y ∧ ¬ zfit U 640) mc ms) : zM Δ 8 mc ms false yX8_opened mX8_opened [.ref 0, .int x, .int y] w (zNA w U (zv_op U x y ∧ ¬ zfit U 640) (zV_op U x y)) (zNX2 w U (zv_op U x y ∧ ¬ zfit U 640) (¬ zv_op U x y) (zv_op U x y ∧ ¬ zfit U 20000)) :=
  (d_opened Δ w U hC.1 x y mc ms hm).mono (fun r d h => by
    obtain ⟨h1, h2, h3, h4, h5⟩ := h
    exact ⟨zkcl hC h1.c h2 (h3.w.s (fun h => h.2)), h4, h5⟩) (fun E d h => by
    rcases h with ⟨rfl, rfl, h⟩ | ⟨h, h2⟩
    · exact ⟨zkcl0 hC (fun h9 => h h9.1), Or.inl ⟨rfl, h⟩⟩
    · exact ⟨zkcls hC h2, Or.inr ⟨h2.1, h, h2.2.1⟩⟩)
theorem znb_op (hC : zKC d U) (x y : Int32) : zMp Δ 5 yX9_opened mX9_opened [.ref 100, .int x, .int y] d (zNB d U (¬ zv_op U x y) (zv_op U x y ∧ ¬ zfit U 20000) (zV_op U x y)) :=
  (c_Mo_opened Δ d U hC.2.1 hC.tok hC.u13 x y).mono (fun r c h => by
    obtain ⟨hf, h⟩ := h
    refine zNB.of hC hf ?_
    rcases h with ⟨h, h0⟩ | ⟨h, h1, h0⟩ | ⟨h, h1, h0, h2⟩
    · exact Or.inl ⟨h, h0⟩
    · exact Or.inr (Or.inl ⟨⟨h, h1⟩, h0⟩)
    · exact Or.inr (Or.inr ⟨⟨h1, h2⟩, h0⟩))
theorem zex_op (hU : zTok U) (x y : Int32) : zEx (¬ zv_op U x y) (zv_op U x y ∧ ¬ zfit U 20000) (zV_op U x y) := by
  have hb1 := hU.1
  have hb2 := hU.2.2.2.1
  refine ⟨fun h => h.1 h.2.1, fun r h => ?_, fun r s h1 h2 => ?_⟩
  · obtain ⟨h1, p, a, h2, h3, h4, h5, -⟩ := h
    exact ⟨fun h9 => h9 ⟨⟨p, h2, h3⟩, a, h4, h5⟩, fun h9 => h9.2 h1⟩
  · obtain ⟨-, p, a, h3, h4, h5, h6, K, h7, rfl⟩ := h1
    obtain ⟨-, p2, a2, g3, g4, g5, g6, K2, g7, rfl⟩ := h2
    obtain rfl := nI_u h4 g4 (by omega) (by omega)
    obtain rfl := nI_u h6 g6 (by omega) (by omega)
    rw [zall_one h7 g7]
/-! goes -/
def zv_go (U : zTo) (x : Int32) : Prop := 0 < U.1 0 ∧ ∃ q, q ≤ 1 ∧ x = nI q
def zV_go (U : zTo) (x : Int32) (r : Option Value) : Prop := zfit U 20000 ∧ 0 < U.1 0 ∧ ∃ q, q ≤ 1 ∧ x = nI q ∧ ∃ K, zall U K ∧ r = some (.long (lN (if q = 0 then zca (zcas U K) (U.1 7) 8 else zla (zcas U K) 12)))
theorem zna_go (hC : zKC w U) (x : Int32) (mc ms : Nat) (hm : zRo w (zv_go U x ∧ ¬ zfit U 640) mc ms) : zM Δ 8 mc ms false yX8_goes mX8_goes [.ref 0, .int x] w (zNA w U (zv_go U x ∧ ¬ zfit U 640) (zV_go U x)) (zNX2 w U (zv_go U x ∧ ¬ zfit U 640) (¬ zv_go U x) (zv_go U x ∧ ¬ zfit U 20000)) :=
  (d_goes Δ w U hC.1 x mc ms hm).mono (fun r d h => by
    obtain ⟨h1, h2, h3, h4, h5⟩ := h
    exact ⟨zkcl hC h1.c h2 (h3.w.s (fun h => h.2)), h4, h5⟩) (fun E d h => by
    rcases h with ⟨rfl, rfl, h⟩ | ⟨h, h2⟩
    · exact ⟨zkcl0 hC (fun h9 => h h9.1), Or.inl ⟨rfl, h⟩⟩
    · exact ⟨zkcls hC h2, Or.inr ⟨h2.1, h, h2.2.1⟩⟩)
theorem znb_go (hC : zKC d U) (x : Int32) : zMp Δ 5 yX9_goes mX9_goes [.ref 100, .int x] d (zNB d U (¬ zv_go U x) (zv_go U x ∧ ¬ zfit U 20000) (zV_go U x)) :=
  (c_Mo_goes Δ d U hC.2.1 hC.tok hC.u13 x).mono (fun r c h => by
    obtain ⟨hf, h⟩ := h
    refine zNB.of hC hf ?_
    rcases h with ⟨h, h0⟩ | ⟨h, h1, h0⟩ | ⟨h, h1, h0, h2⟩
    · exact Or.inl ⟨h, h0⟩
    · exact Or.inr (Or.inl ⟨⟨h, h1⟩, h0⟩)
    · exact Or.inr (Or.inr ⟨⟨h1, h.1, h2⟩, h0⟩))
theorem zex_go (x : Int32) : zEx (¬ zv_go U x) (zv_go U x ∧ ¬ zfit U 20000) (zV_go U x) := by
  refine ⟨fun h => h.1 h.2.1, fun r h => ?_, fun r s h1 h2 => ?_⟩
  · obtain ⟨h1, h2, q, h3, h4, -⟩ := h
    exact ⟨fun h9 => h9 ⟨h2, q, h3, h4⟩, fun h9 => h9.2 h1⟩
  · obtain ⟨-, -, p, h3, h4, K, h7, rfl⟩ := h1
    obtain ⟨-, -, p2, g3, g4, K2, g7, rfl⟩ := h2
    obtain rfl := nI_u h4 g4 (by omega) (by omega)
    rw [zall_one h7 g7]
/-! gets -/
def zv_ge (U : zTo) (x : Int32) : Prop := ∃ p, p < U.1 0 ∧ x = nI p
def zV_ge (U : zTo) (x : Int32) (r : Option Value) : Prop := zfit U 20000 ∧ ∃ p, p < U.1 0 ∧ x = nI p ∧ r = some (.long (lZ ((zvl U (zfk U)).2.1 p)))
theorem zna_ge (hC : zKC w U) (x : Int32) (mc ms : Nat) (hm : zRo w (zv_ge U x ∧ ¬ zfit U 640) mc ms) : zM Δ 8 mc ms false yX8_gets mX8_gets [.ref 0, .int x] w (zNA w U (zv_ge U x ∧ ¬ zfit U 640) (zV_ge U x)) (zNX2 w U (zv_ge U x ∧ ¬ zfit U 640) (¬ zv_ge U x) (zv_ge U x ∧ ¬ zfit U 20000)) :=
  (d_gets Δ w U hC.1 x mc ms hm).mono (fun r d h => by
    obtain ⟨h1, h2, h3, h4, h5⟩ := h
    exact ⟨zkcl hC h1.c h2 (h3.w.s (fun h => h.2)), h4, h5⟩) (fun E d h => by
    rcases h with ⟨rfl, rfl, h⟩ | ⟨h, h2⟩
    · exact ⟨zkcl0 hC (fun h9 => h h9.1), Or.inl ⟨rfl, h⟩⟩
    · exact ⟨zkcls hC h2, Or.inr ⟨h2.1, h, h2.2.1⟩⟩)
theorem znb_ge (hC : zKC d U) (x : Int32) : zMp Δ 5 yX9_gets mX9_gets [.ref 100, .int x] d (zNB d U (¬ zv_ge U x) (zv_ge U x ∧ ¬ zfit U 20000) (zV_ge U x)) :=
  (c_Mo_gets Δ d U hC.2.1 hC.tok hC.u13 x).mono (fun r c h => by
    obtain ⟨hf, h⟩ := h
    refine zNB.of hC hf ?_
    rcases h with ⟨h, h0⟩ | ⟨h, h1, h0⟩ | ⟨h, h1, h0, h2⟩
    · exact Or.inl ⟨h, h0⟩
    · exact Or.inr (Or.inl ⟨⟨h, h1⟩, h0⟩)
    · exact Or.inr (Or.inr ⟨⟨h1, h2⟩, h0⟩))
theorem zex_ge (hU : zTok U) (x : Int32) : zEx (¬ zv_ge U x) (zv_ge U x ∧ ¬ zfit U 20000) (zV_ge U x) := by
  have hb1 := hU.1
  refine ⟨fun h => h.1 h.2.1, fun r h => ?_, fun r s h1 h2 => ?_⟩
  · obtain ⟨h1, q, h3, h4, -⟩ := h
    exact ⟨fun h9 => h9 ⟨q, h3, h4⟩, fun h9 => h9.2 h1⟩
  · obtain ⟨-, p, h3, h4, rfl⟩ := h1
    obtain ⟨-, p2, g3, g4, rfl⟩ := h2
    obtain rfl := nI_u h4 g4 (by omega) (by omega)
    rfl
/-! all -/
def zV_al (U : zTo) (x : Int32) (r : Option Value) : Prop := zfit (zTal U) 20000 ∧ 0 < U.1 0 ∧ ∃ q, q ≤ 1 ∧ x = nI q ∧ r = some (.int (nI (if q = 0 then (zlst (zTal U) 11 (zfk (zTal U))).1 else (zlst (zTal U) 11 (zfk (zTal U))).2.1)))
theorem zna_al (hC : zKC w U) (x : Int32) (mc ms : Nat) (hm : zRo w (zv_go U x ∧ ¬ zfit (zTal U) 640) mc ms) : zM Δ 8 mc ms false yX8_all mX8_all [.ref 0, .int x] w (zNA w U (zv_go U x ∧ ¬ zfit (zTal U) 640) (zV_al U x)) (zNX2 w U (zv_go U x ∧ ¬ zfit (zTal U) 640) (¬ zv_go U x) (zv_go U x ∧ ¬ zfit (zTal U) 20000)) :=
  (d_all Δ w U hC.1 x mc ms hm).mono (fun r d h => by
    obtain ⟨h1, h2, h3, h4, h5⟩ := h
    exact ⟨zkcl hC h1.c h2 (h3.w.s (fun h => h.2)), h4, h5⟩) (fun E d h => by
    rcases h with ⟨rfl, rfl, h⟩ | ⟨h, h2⟩
    · exact ⟨zkcl0 hC (fun h9 => h h9.1), Or.inl ⟨rfl, h⟩⟩
    · exact ⟨zkcls hC h2, Or.inr ⟨h2.1, h, h2.2.1⟩⟩)
theorem znb_al (hC : zKC d U) (x : Int32) : zMp Δ 6 yX9_all mX9_all [.ref 100, .int x] d (zNB d U (¬ zv_go U x) (zv_go U x ∧ ¬ zfit (zTal U) 20000) (zV_al U x)) :=
  (c_Mo_all Δ d U hC.2.1 hC.tok hC.u13 x).mono (fun r c h => by
    obtain ⟨hf, h⟩ := h
    refine zNB.of hC hf ?_
    rcases h with ⟨h, h0⟩ | ⟨h, h1, h0⟩ | ⟨h, h1, h0, h2⟩
    · exact Or.inl ⟨h, h0⟩
    · exact Or.inr (Or.inl ⟨⟨h, h1⟩, h0⟩)
    · exact Or.inr (Or.inr ⟨⟨h1, h.1, h2⟩, h0⟩))
theorem zex_al (x : Int32) : zEx (¬ zv_go U x) (zv_go U x ∧ ¬ zfit (zTal U) 20000) (zV_al U x) := by
  refine ⟨fun h => h.1 h.2.1, fun r h => ?_, fun r s h1 h2 => ?_⟩
  · obtain ⟨h1, h2, q, h3, h4, -⟩ := h
    exact ⟨fun h9 => h9 ⟨h2, q, h3, h4⟩, fun h9 => h9.2 h1⟩
  · obtain ⟨-, -, p, h3, h4, rfl⟩ := h1
    obtain ⟨-, -, p2, g3, g4, rfl⟩ := h2
    obtain rfl := nI_u h4 g4 (by omega) (by omega)
    rfl
/-! feeling -/
def zb_fe (U : zTo) (x : Int32) : Prop := 0 < U.1 0 ∧ ∃ q, (1 ≤ q ∧ q ≤ 99) ∧ x = nI q ∧ ¬ zfit (zTs U 11 q) 640
def zX_fe (U : zTo) (x : Int32) : Prop := 0 < U.1 0 ∧ ((¬ ∃ q, (1 ≤ q ∧ q ≤ 99) ∧ x = nI q) ∨ ∃ q, (1 ≤ q ∧ q ≤ 99) ∧ x = nI q ∧ ¬ zfit (zTs U 11 q) 20000)
def zV_fe (U : zTo) (x : Int32) (r : Option Value) : Prop := 0 < U.1 0 ∧ ∃ q, (1 ≤ q ∧ q ≤ 99) ∧ x = nI q ∧ zfit (zTs U 11 q) 20000 ∧ ∃ K, zall (zTs U 11 q) K ∧ r = some (.long (lN (zla (zcas (zTs U 11 q) K) 12)))
theorem zna_fe (hC : zKC w U) (x : Int32) (mc ms : Nat) (hm : zRo w (zb_fe U x) mc ms) : zM Δ 8 mc ms false yX8_feeling mX8_feeling [.ref 0, .int x] w (zNA w U (zb_fe U x) (zV_fe U x)) (zNX2 w U (zb_fe U x) (¬ 0 < U.1 0) (zX_fe U x)) :=
  (d_feeling Δ w U hC.1 x mc ms hm).mono (fun r d h => by
    obtain ⟨h1, h2, h3, q, h4, h5, h6, h7, h8⟩ := h
    exact ⟨zkcl hC h1.c h2 (h7.w.s (fun h => by
      obtain ⟨-, q2, g1, g2, g3⟩ := h
      obtain rfl := nI_u h5 g2 (by omega) (by omega)
      exact g3)), h3, q, h4, h5, h6, h8⟩) (fun E d h => by
    rcases h with ⟨rfl, rfl, h⟩ | ⟨h, rfl, rfl, h2⟩ | ⟨h, q, h2, h3, h4⟩
    · exact ⟨zkcl0 hC (fun h9 => h h9.1), Or.inl ⟨rfl, h⟩⟩
    · exact ⟨zkcl0 hC (fun h9 => by obtain ⟨-, q, g1, g2, -⟩ := h9; exact h2 ⟨q, g1, g2⟩), Or.inr ⟨rfl, h, Or.inl h2⟩⟩
    · exact ⟨zkcls hC h4, Or.inr ⟨h4.1, h, Or.inr ⟨q, h2, h3, h4.2.1⟩⟩⟩)
theorem znb_fe (hC : zKC d U) (x : Int32) : zMp Δ 5 yX9_feeling mX9_feeling [.ref 100, .int x] d (zNB d U (¬ 0 < U.1 0) (zX_fe U x) (zV_fe U x)) :=
  (c_Mo_feeling Δ d U hC.2.1 hC.tok hC.u13 x).mono (fun r c h => by
    obtain ⟨hf, h⟩ := h
    refine zNB.of hC hf ?_
    rcases h with ⟨h, h0⟩ | ⟨h, h1, h0⟩ | ⟨h, q, h1, h2, h3⟩
    · exact Or.inl ⟨h, h0⟩
    · exact Or.inr (Or.inl ⟨⟨h, Or.inl h1⟩, h0⟩)
    · rcases h3 with ⟨h3, h0⟩ | ⟨h3, h0, h4⟩
      · exact Or.inr (Or.inl ⟨⟨h, Or.inr ⟨q, h1, h2, h3⟩⟩, h0⟩)
      · exact Or.inr (Or.inr ⟨⟨h, q, h1, h2, h3, h4⟩, h0⟩))
theorem zex_fe (x : Int32) : zEx (¬ 0 < U.1 0) (zX_fe U x) (zV_fe U x) := by
  refine ⟨fun h => h.1 h.2.1, fun r h => ?_, fun r s h1 h2 => ?_⟩
  · obtain ⟨h1, q, h2, h3, h4, -⟩ := h
    refine ⟨fun h9 => h9 h1, fun h9 => ?_⟩
    rcases h9.2 with g | ⟨q2, g1, g2, g3⟩
    · exact g ⟨q, h2, h3⟩
    · obtain rfl := nI_u h3 g2 (by omega) (by omega)
      exact g3 h4
  · obtain ⟨-, p, h3, h4, -, K, h7, rfl⟩ := h1
    obtain ⟨-, p2, g3, g4, -, K2, g7, rfl⟩ := h2
    obtain rfl := nI_u h4 g4 (by omega) (by omega)
    rw [zall_one h7 g7]
/-! named -/
def zb_nm (U : zTo) (x : Int32) : Prop := ∃ p, p < U.1 0 ∧ x = nI p ∧ ¬ zfit (zTnm U p) 640
def zX_nm (U : zTo) (x : Int32) : Prop := ∃ p, p < U.1 0 ∧ x = nI p ∧ ¬ zfit (zTnm U p) 20000
def zV_nm (U : zTo) (x : Int32) (r : Option Value) : Prop := ∃ p, p < U.1 0 ∧ x = nI p ∧ zfit (zTnm U p) 20000 ∧ r = some (.long (lZ (znm (zTnm U p))))
theorem zna_nm (hC : zKC w U) (x : Int32) (mc ms : Nat) (hm : zRo w (zb_nm U x) mc ms) : zM Δ 8 mc ms false yX8_named mX8_named [.ref 0, .int x] w (zNA w U (zb_nm U x) (zV_nm U x)) (zNX2 w U (zb_nm U x) (¬ zv_ge U x) (zX_nm U x)) :=
  (d_named Δ w U hC.1 x mc ms hm).mono (fun r d h => by
    have hb1 := hC.tok.1
    obtain ⟨h1, h2, p, h3, h4, h5, h6, h7⟩ := h
    exact ⟨zkcl hC h1.c h2 (h6.w.s (fun h => by
      obtain ⟨q2, g1, g2, g3⟩ := h
      obtain rfl := nI_u h4 g2 (by omega) (by omega)
      exact g3)), p, h3, h4, h5, h7⟩) (fun E d h => by
    rcases h with ⟨rfl, rfl, h⟩ | ⟨p, h2, h3, h4⟩
    · exact ⟨zkcl0 hC (fun h9 => by obtain ⟨q, g1, g2, -⟩ := h9; exact h ⟨q, g1, g2⟩), Or.inl ⟨rfl, h⟩⟩
    · exact ⟨zkcls hC h4, Or.inr ⟨h4.1, p, h2, h3, h4.2.1⟩⟩)
theorem znb_nm (hC : zKC d U) (x : Int32) : zMp Δ 5 yX9_named mX9_named [.ref 100, .int x] d (zNB d U (¬ zv_ge U x) (zX_nm U x) (zV_nm U x)) :=
  (c_Mo_named Δ d U hC.2.1 hC.tok hC.u13 x).mono (fun r c h => by
    obtain ⟨hf, h⟩ := h
    refine zNB.of hC hf ?_
    rcases h with ⟨h, h0⟩ | ⟨p, h1, h2, h3⟩
    · exact Or.inl ⟨h, h0⟩
    · rcases h3 with ⟨h3, h0⟩ | ⟨h3, h0, h4⟩
      · exact Or.inr (Or.inl ⟨⟨p, h1, h2, h3⟩, h0⟩)
      · exact Or.inr (Or.inr ⟨⟨p, h1, h2, h3, h4⟩, h0⟩))
theorem zex_nm (hU : zTok U) (x : Int32) : zEx (¬ zv_ge U x) (zX_nm U x) (zV_nm U x) := by
  have hb1 := hU.1
  refine ⟨fun h => ?_, fun r h => ?_, fun r s h1 h2 => ?_⟩
  · obtain ⟨h1, p, h2, h3, -⟩ := h
    exact h1 ⟨p, h2, h3⟩
  · obtain ⟨q, h2, h3, h4, -⟩ := h
    refine ⟨fun h9 => h9 ⟨q, h2, h3⟩, fun h9 => ?_⟩
    obtain ⟨q2, g1, g2, g3⟩ := h9
    obtain rfl := nI_u h3 g2 (by omega) (by omega)
    exact g3 h4
  · obtain ⟨p, h3, h4, -, rfl⟩ := h1
    obtain ⟨p2, g3, g4, -, rfl⟩ := h2
    obtain rfl := nI_u h4 g4 (by omega) (by omega)
    rfl
end ZOP
