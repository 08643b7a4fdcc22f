/-! LetterTown: the Play that is asked -/
def zFa (w c : zW) : Prop := (∀ a, (a < 61 ∨ 79 < a) → c.1 a = w.1 a) ∧ (∀ a j, (a < 19 ∨ (37 < a ∧ a < 61) ∨ 79 < a) → c.2.1 a j = w.2.1 a j ∧ c.2.2.1 a j = w.2.2.1 a j) ∧ (∀ a j, (a < 61 ∨ 79 < a) → (a ≠ 0 ∨ j ≠ 8) → c.2.2.2 a j = w.2.2.2 a j)
theorem zFa.rf (w : zW) : zFa w w := ⟨fun _ _ => rfl, fun _ _ _ => ⟨rfl, rfl⟩, fun _ _ _ _ => rfl⟩
theorem zFa.tr {w c d : zW} (h1 : zFa w c) (h2 : zFa c d) : zFa w d := ⟨fun a h => (h2.1 a h).trans (h1.1 a h), fun a j h => ⟨(h2.2.1 a j h).1.trans (h1.2.1 a j h).1, (h2.2.1 a j h).2.trans (h1.2.1 a j h).2⟩, fun a j x y => (h2.2.2 a j x y).trans (h1.2.2 a j x y)⟩
theorem zFf.a {w c : zW} {b : Nat} (h : zFf w c b) (hb : b = 19 ∨ b = 61) : zFa w c := ⟨fun a _ => by rw [h.1], fun a j ha => ⟨h.2.2.1 a j (by omega), h.2.2.2 a j (by omega)⟩, fun a j _ _ => by rw [h.2.1]⟩
theorem zCs.fa {w c : zW} (h : zCs w) (hf : zFa w c) : zCs c := by
  refine ⟨fun i hi => (hf.1 i (Or.inl hi)).trans (h.1 i hi), fun i k hs => ?_⟩
  have hi : i < 61 := Nat.lt_of_not_le fun hi => by
    have : zRC i k = none := by
      simp only [zRC]
      rw [List.getElem?_eq_none (l := zRCl) (show zRCl.length ≤ i from Nat.le_trans (by decide) hi)]
      simp
    rw [this] at hs; cases hs
  have h8 : i ≠ 0 ∨ k ≠ 8 := Classical.byContradiction fun hn => by
    have h1 : i = 0 := by omega
    have h2 : k = 8 := by omega
    subst h1; subst h2
    exact absurd hs (by decide)
  exact (hf.2.2 i k (Or.inl hi) h8).trans (h.2 i k hs)
/-- the large Play: not yet made, or standing -/
def zLp (w : zW) (U : zTo) : Prop := (w.2.2.2 0 8 = none ∧ ∀ a, 61 ≤ a → a ≤ 79 → w.1 a = none) ∨ (w.2.2.2 0 8 = some 61 ∧ zPI w 61 20000 15 U)
def zPy (w : zW) (U : zTo) : Prop := zPI w 19 640 10 U ∧ zLp w U
/-- the other Play, while the one at b is open -/
def zPx (w : zW) (b : Nat) (U : zTo) : Prop := (b = 19 ∧ zLp w U) ∨ (b = 61 ∧ w.2.2.2 0 8 = some 61 ∧ zPI w 19 640 10 U)
theorem zLp.ff {w c : zW} {U : zTo} (h : zLp w U) (hf : zFf w c 19) : zLp c U := by
  rcases h with ⟨h1, h2⟩ | ⟨h1, h2⟩
  · exact Or.inl ⟨by rw [hf.2.1]; exact h1, fun a x y => by rw [hf.1]; exact h2 a x y⟩
  · exact Or.inr ⟨by rw [hf.2.1]; exact h1, h2.out hf.1 hf.2.1 (fun a j x y => hf.2.2.1 a j (by omega)) (fun a j x y => hf.2.2.2 a j (by omega))⟩
theorem zPx.ff {w c : zW} {b : Nat} {U : zTo} (h : zPx w b U) (hf : zFf w c b) : zPx c b U := by
  rcases h with ⟨rfl, h⟩ | ⟨rfl, h1, h2⟩
  · exact Or.inl ⟨rfl, h.ff hf⟩
  · exact Or.inr ⟨rfl, by rw [hf.2.1]; exact h1, h2.out hf.1 hf.2.1 (fun a j x y => hf.2.2.1 a j (by omega)) (fun a j x y => hf.2.2.2 a j (by omega))⟩
theorem zPx.b {w : zW} {b : Nat} {U : zTo} (h : zPx w b U) : b = 19 ∨ b = 61 := h.elim (fun h => Or.inl h.1) (fun h => Or.inr h.1)
theorem zPO.py {w : zW} {b R m : Nat} {U T : zTo} {K : List zKy} (h : zPO w b R m U T K) (hx : zPx w b U) (hR : (b = 19 ∧ R = 640 ∧ m = 10) ∨ (b = 61 ∧ R = 20000 ∧ m = 15)) : zPy w U := by
  have hp := h.pi
  rcases hx with ⟨rfl, hx⟩ | ⟨rfl, h1, h2⟩
  · rcases hR with ⟨-, rfl, rfl⟩ | ⟨h9, -⟩
    · exact ⟨hp, hx⟩
    · cases h9
  · rcases hR with ⟨h9, -⟩ | ⟨-, rfl, rfl⟩
    · cases h9
    · exact ⟨h2, Or.inr ⟨h1, hp⟩⟩
/-- outside changes leave the Plays -/
theorem zPy.out {w c : zW} {U : zTo} (h : zPy w U) (h1 : ∀ a, 19 ≤ a → c.1 a = w.1 a) (h2 : ∀ a j, (19 ≤ a ∨ (a = 0 ∧ j = 8)) → c.2.2.2 a j = w.2.2.2 a j) (h3 : ∀ a j, (19 ≤ a ∧ a ≤ 37) ∨ (61 ≤ a ∧ a ≤ 79) → c.2.1 a j = w.2.1 a j ∧ c.2.2.1 a j = w.2.2.1 a j) (hs : c.1 = w.1) (hr : c.2.2.2 = w.2.2.2) : zPy c U := by
  refine ⟨h.1.out hs hr (fun a j x y => (h3 a j (by omega)).1) (fun a j x y => (h3 a j (by omega)).2), ?_⟩
  rcases h.2 with ⟨a1, a2⟩ | ⟨a1, a2⟩
  · exact Or.inl ⟨by rw [hr]; exact a1, fun a x y => by rw [hs]; exact a2 a x y⟩
  · exact Or.inr ⟨by rw [hr]; exact a1, a2.out hs hr (fun a j x y => (h3 a j (by omega)).1) (fun a j x y => (h3 a j (by omega)).2)⟩
theorem zfit_le {T : zTo} {R S : Nat} (h : zfit T R) (hl : R ≤ S) : zfit T S := by
  obtain ⟨K, h1, h2⟩ := h
  exact ⟨K, h1, by omega⟩
/-- what playAsked leaves -/
def zQp (w : zW) (U T : zTo) (r : Option Value) (c : zW) : Prop := zFa w c ∧ zfit T 20000 ∧ ∃ b R m K, r = some (.ref b) ∧ zPO c b R m U T K ∧ zPx c b U ∧ ((b = 19 ∧ R = 640 ∧ m = 10) ∨ (b = 61 ∧ R = 20000 ∧ m = 15)) ∧ (zfit T 640 → c.2.2.2 0 8 = w.2.2.2 0 8) ∧ (¬ zfit T 640 → c.2.2.2 0 8 = some 61)
def zXp (w : zW) (U T : zTo) (E : String) (c : zW) : Prop := E = "java/lang/IllegalArgumentException" ∧ zFa w c ∧ ¬ zfit T 20000 ∧ zPy c U ∧ c.2.2.2 0 8 = some 61
theorem zTn.ff2 {w c : zW} {t : Nat} (h : zTn w t) (h1 : ∀ a, a ≤ 4 → c.1 (t + a) = w.1 (t + a)) (h2 : ∀ j, True → c.2.2.2 t j = w.2.2.2 t j) : zTn c t := by
  obtain ⟨a1, a2, a3, a4, a5, a6, a7, a8, a9⟩ := h
  exact ⟨(h1 0 (by decide)).trans a1, (h2 1 trivial).trans a2, (h2 2 trivial).trans a3, (h2 3 trivial).trans a4, (h2 4 trivial).trans a5, (h1 1 (by decide)).trans a6, (h1 2 (by decide)).trans a7, (h1 3 (by decide)).trans a8, (h1 4 (by decide)).trans a9⟩
theorem zEq_r0 {w : zW} {a k : Nat} {x : Option Nat} (h : ¬ a = 0) : zEq w (zsr w 0 k x) a := ⟨rfl, fun _ => rfl, fun _ => rfl, fun j => by simp [zsr, h]⟩
theorem zPI_new {w : zW} {b R m : Nat} {U : zTo} (hS : zPs w b R m) (hn : zTn w (b + 1)) (h1 : w.2.1 b 11 = 0) (h6 : w.2.1 (b + 6) 6 = -1) : zPI w b R m U := by
  refine ⟨hS, hn, fun S a1 _ a3 => ?_, Or.inl h1⟩
  rw [h6] at a3
  exact absurd a3 (zwant_ne a1)
theorem zPI.out2 {w c : zW} {b R m : Nat} {U : zTo} (h : zPI w b R m U) (he : ∀ a, b ≤ a → a ≤ b + 18 → zEq w c a) : zPI c b R m U := by
  obtain ⟨hS, hn, hl, hs⟩ := h
  have ei : ∀ a, b ≤ a → a ≤ b + 18 → c.2.1 a = w.2.1 a := fun a x y => funext fun j => (he a x y).2.1 j
  have el : ∀ a, b ≤ a → a ≤ b + 18 → c.2.2.1 a = w.2.2.1 a := fun a x y => funext fun j => (he a x y).2.2.1 j
  have hn2 : zTn c (b + 1) := hn.eq (fun a x y => he a (by omega) (by omega))
  refine ⟨hS.eq he, hn2, fun S a1 a2 a3 => (hl S a1 a2 (by rw [← (he (b + 6) (by omega) (by omega)).2.1 6]; exact a3)).eq (fun a j ha => (he _ (by omega) (by omega)).2.1 j) (fun j => (he _ (by omega) (by omega)).2.2.1 j), ?_⟩
  rw [(he b (by omega) (by omega)).2.1 11]
  refine hs.imp (fun h => h) (fun ⟨a0, T, a1, a2, a3, a4, a5⟩ => ⟨a0, T, a1.eq hn2 (fun a j ha => (he _ (by omega) (by omega)).2.1 j), a2, a3, a4, fun K hK => ⟨(a5 K hK).1.eq (ei _ (by omega) (by omega)) (ei _ (by omega) (by omega)) (el _ (by omega) (by omega)) (el _ (by omega) (by omega)), (a5 K hK).2.eq ((he _ (by omega) (by omega)).2.1 12) (el _ (by omega) (by omega))⟩⟩)
set_option maxRecDepth 100000 in
theorem c_playAsked (Δ : zD) (w : zW) (U T : zTo) (hC : zCs w) (hP : zPy w U) (hi : zTi w 14 T) (hT : zTok T) (hcan : zcan T) (hU : zsame U T) (mc ms : Nat) (hm1 : 1 ≤ mc ∧ 6 ≤ ms) (hm2 : ¬ zfit T 640 → w.2.2.2 0 8 = none → 20 ≤ mc ∧ 473011 ≤ ms) : zM Δ 6 mc ms false yX8_playAsked mX8_playAsked [.ref 0] w (zQp w U T) (zXp w U T) := by
  refine zM.of mfX8_playAsked (Nat.le_of_ble_eq_true rfl) ?_
  have LT : ∀ (k n : Nat) (c : zW), k + 1 ≤ mc → n + 6 ≤ ms → zFa w c → c.2.2.2 0 8 = some 61 → zPI c 61 20000 15 U → zPI c 19 640 10 U → ¬ zfit T 640 → zJ Δ mX8_playAsked (zRm 6 mc ms) false w.1 (zQp w U T) (zXp w U T) k n 43 [(0, .ref 0)] [] c := by
    intro k n c hk hn hF h8 hP61 hP19 hno
    have hCc := hC.fa hF
    have hic : zTi c 14 T := hi.eq (hi.1.ff2 (fun a ha => hF.1 _ (by omega)) (fun j ha => hF.2.2 14 j (by omega) (by omega))) (fun a j ha => (hF.2.1 (14 + a) j (by omega)).1)
    refine zJ_aload_n dX8_playAsked_43 rfl ?_
    refine zJ_getr (j := 61) dX8_playAsked_44 fX8_385 (hCc.1 _ (by decide)) rfl h8 ?_
    refine zJ_aload_n dX8_playAsked_47 rfl ?_
    refine zJ_getr (j := 14) dX8_playAsked_48 fX8_36 (hCc.1 _ (by decide)) rfl (hCc.2 _ _ rfl) ?_
    refine zJ_eV1 dX8_playAsked_51 sX8_396 mfX1_follow (c_Play_follow Δ c 61 20000 15 14 U T hP61 hic hT hcan hU (by decide)) hP61.1.1 rfl (Nat.le_of_ble_eq_true rfl) ⟨Nat.le_of_ble_eq_true rfl, Nat.le_of_ble_eq_true rfl⟩ ⟨by show k ≤ mc; omega, by show n ≤ ms; omega⟩ (fun r d hQ => ?_)
    obtain ⟨f1, ⟨rfl, K, f2⟩ | ⟨rfl, f2, f3⟩⟩ := hQ
    · refine zJ_if_ne (tgt := 68) dX8_playAsked_54 (by decide) (fun _ => ?_) (fun h9 => False.elim (by revert h9; decide))
      have hd8 : d.2.2.2 0 8 = some 61 := by rw [f1.2.1]; exact h8
      refine zJ_aload_n dX8_playAsked_68 rfl ?_
      refine zJ_getr (j := 61) dX8_playAsked_69 fX8_385 (by rw [f1.1]; exact hCc.1 _ (by decide)) rfl hd8 ?_
      exact zJ_aret dX8_playAsked_72 rfl (by show k ≤ mc; omega) (by show n ≤ ms; omega) ⟨hF.tr (f1.a (Or.inr rfl)), ⟨K, f2.1.2.2.2.1, f2.1.2.2.2.2.1.2.2.1⟩, 61, 20000, 15, K, rfl, f2, Or.inr ⟨rfl, hd8, hP19.out f1.1 f1.2.1 (fun a j x y => f1.2.2.1 a j (by omega)) (fun a j x y => f1.2.2.2 a j (by omega))⟩, Or.inr ⟨rfl, rfl, rfl⟩, fun h => absurd h hno, fun _ => hd8⟩
    · refine zJ_if_ne (tgt := 68) dX8_playAsked_54 (by decide) (fun h9 => absurd rfl h9) (fun _ => ?_)
      have hd8 : d.2.2.2 0 8 = some 61 := by rw [f1.2.1]; exact h8
      exact zJ_throwIW (text := "SPENT") (j := 33) dX8_playAsked_57 dX8_playAsked_60 dX8_playAsked_61 dX8_playAsked_64 dX8_playAsked_67 rfl rfl (by decide +kernel) (Nat.le_of_ble_eq_true rfl) (Nat.le_of_ble_eq_true rfl) (by show k + 1 ≤ mc; omega) (by show n + 6 ≤ ms; omega) ⟨rfl, hF.tr (f1.a (Or.inr rfl)), f2, ⟨hP19.out f1.1 f1.2.1 (fun a j x y => f1.2.2.1 a j (by omega)) (fun a j x y => f1.2.2.2 a j (by omega)), Or.inr ⟨hd8, f3⟩⟩, hd8⟩
  refine zJ_aload_n dX8_playAsked_0 rfl ?_
  refine zJ_getr (j := 19) dX8_playAsked_1 fX8_44 (hC.1 _ (by decide)) rfl (hC.2 _ _ rfl) ?_
  refine zJ_aload_n dX8_playAsked_4 rfl ?_
  refine zJ_getr (j := 14) dX8_playAsked_5 fX8_36 (hC.1 _ (by decide)) rfl (hC.2 _ _ rfl) ?_
  refine zJ_eV1 dX8_playAsked_8 sX8_396 mfX1_follow (c_Play_follow Δ w 19 640 10 14 U T hP.1 hi hT hcan hU (by decide)) hP.1.1.1 rfl (Nat.le_of_ble_eq_true rfl) ⟨Nat.le_of_ble_eq_true rfl, Nat.le_of_ble_eq_true rfl⟩ ⟨Nat.zero_le _, Nat.zero_le _⟩ (fun r c hQ => ?_)
  obtain ⟨f1, ⟨rfl, K, f2⟩ | ⟨rfl, f2, f3⟩⟩ := hQ
  · refine zJ_if_eq (tgt := 19) dX8_playAsked_11 (by decide) (fun h9 => False.elim (by revert h9; decide)) (fun _ => ?_)
    refine zJ_aload_n dX8_playAsked_14 rfl ?_
    refine zJ_getr (j := 19) dX8_playAsked_15 fX8_44 (by rw [f1.1]; exact hC.1 _ (by decide)) rfl (by rw [f1.2.1]; exact hC.2 _ _ rfl) ?_
    have hfit : zfit T 640 := ⟨K, f2.1.2.2.2.1, f2.1.2.2.2.2.1.2.2.1⟩
    exact zJ_aret dX8_playAsked_18 rfl (Nat.zero_le _) (Nat.zero_le _) ⟨f1.a (Or.inl rfl), zfit_le hfit (by decide), 19, 640, 10, K, rfl, f2, Or.inl ⟨rfl, hP.2.ff f1⟩, Or.inl ⟨rfl, rfl, rfl⟩, fun _ => by rw [f1.2.1], fun h => absurd hfit h⟩
  · refine zJ_if_eq (tgt := 19) dX8_playAsked_11 (by decide) (fun _ => ?_) (fun h9 => absurd rfl h9)
    have hLc := hP.2.ff f1
    have hCc := hC.fa (f1.a (Or.inl rfl))
    refine zJ_aload_n dX8_playAsked_19 rfl ?_
    rcases hLc with ⟨h8, hno⟩ | ⟨h8, hP61⟩
    · refine zJ_getN dX8_playAsked_20 fX8_385 (hCc.1 _ (by decide)) rfl h8 ?_
      refine zJ_ifnonnullN dX8_playAsked_23 ?_
      obtain ⟨hm20, hmS⟩ := hm2 f2 (by rw [← h8, f1.2.1])
      refine zJ_aload_n dX8_playAsked_26 rfl ?_
      refine zJ_new (ci := 1) 61 dX8_playAsked_27 rfl (List.mem_of_getElem? (i := 321) rfl) (List.mem_of_getElem? (i := 322) rfl) (List.mem_of_getElem? (i := 146) rfl) rfl (hno 61 (by decide) (by decide)) (by decide) (by simp [lv_args, znr, Value.category]) (by simp [znr]) (by show 0 + 1 ≤ mc; omega) (by show 0 + 15 ≤ ms; omega) ?_
      refine zJ_dup dX8_playAsked_30 rfl ?_
      refine zJ_sipush (v := 20000) dX8_playAsked_31 (by decide) ?_
      refine zJ_ldc_w dX8_playAsked_34 kX8_400 ?_
      refine zJ_st (st2 := [.int (nI 32768), .int (nI 20000), .ref 61, .ref 61, .ref 0]) rfl ?_
      refine zJ_callI (As := [.int (nI 20000), .int (nI 32768)]) dX8_playAsked_37 sX8_41 mfX1_init rfl (c_Play_init_l Δ (znew c 61 (.inl 1)) 61 (by decide) (by simp [znew]) (by simp [znew]) (fun a h1 h2 => by have : ¬ a = 61 := (by omega); simp [znew, this]; exact hno a (by omega) h2)) (fun _ _ h => h) rfl (Or.inr ⟨rfl, by simp [zokv, znew, hCc.1 0 (by decide)]; decide, by simp [lv_args, zokv, Value.category, znew, hCc.1 0 (by decide)]; decide⟩) (Nat.le_of_ble_eq_true rfl) ⟨Nat.le_of_ble_eq_true rfl, Nat.le_of_ble_eq_true rfl⟩ ⟨by show 0 + 1 + _ ≤ mc; omega, by show 0 + 15 + _ ≤ ms; omega⟩ (fun r d hQ => ?_)
      obtain ⟨rfl, g1, g2, g3, g4, g5⟩ := hQ
      have gF : zFo c d 61 79 := (zFo.new (by omega)).tr g1
      refine zJ_putr dX8_playAsked_40 fX8_385 (fun q h => by cases h; rfl) ((gF 0 (by omega)).1.trans (hCc.1 _ (by decide))) rfl (by rw [g2.1]; simp) ?_
      refine LT _ _ _ (by omega) (by omega) ?_ (by simp [zsr]) ?_ ?_ f2
      · refine (f1.a (Or.inl rfl)).tr ⟨fun a ha => (gF a (by omega)).1, fun a j ha => ⟨(gF a (by omega)).2.1 j, (gF a (by omega)).2.2.1 j⟩, fun a j ha h0 => ?_⟩
        have : ¬ (a = 0 ∧ j = 8) := by omega
        simp only [zsr, this, if_false]
        exact (gF a (by omega)).2.2.2 j
      · exact zPI_new (g2.eq (fun a h1 h2 => zEq_r0 (by omega))) (g3.eq (fun a h1 h2 => zEq_r0 (by omega))) g4 g5
      · exact f3.out2 (fun a h1 h2 => ⟨(gF a (by omega)).1, (gF a (by omega)).2.1, (gF a (by omega)).2.2.1, fun j => by
          have : ¬ a = 0 := by omega
          simp [zsr, this]; exact (gF a (by omega)).2.2.2 j⟩)
    · refine zJ_getr (j := 61) dX8_playAsked_20 fX8_385 (hCc.1 _ (by decide)) rfl h8 ?_
      refine zJ_ifnonnull (tgt := 43) dX8_playAsked_23 (by decide) ?_
      exact LT 0 0 c (by omega) (by omega) (f1.a (Or.inl rfl)) h8 hP61 f3 f2
