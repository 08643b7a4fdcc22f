/-! LetterTown$Play: a play between calls, and opened for a town -/
/-- alike in what lays the ways -/
def zLk (T S : zTo) : Prop := T.1 7 = S.1 7 ∧ T.1 10 = S.1 10 ∧ T.1 12 = S.1 12 ∧ T.1 13 = S.1 13 ∧ zcs T = zcs S ∧ T.2.2.2 = S.2.2.2
theorem zLk.may {T S : zTo} (h : zLk T S) : zmay T = zmay S := by
  obtain ⟨h1, h2, h3, h4, h5, h6⟩ := h
  funext k y; simp only [zmay, h1, h2, h4, h6]
theorem zLk.bk {T S : zTo} (h : zLk T S) : zbk T = zbk S := by
  obtain ⟨h1, h2, h3, h4, h5, h6⟩ := h
  funext k y; simp only [zbk, h2, h5]
theorem zLk.fk {T S : zTo} (h : zLk T S) : zfk T = zfk S := by
  obtain ⟨h1, h2, h3, h4, h5, h6⟩ := h
  simp only [zfk, h2, h3]
theorem zLk.enc {T S : zTo} (h : zLk T S) : zenc T = zenc S := by
  obtain ⟨h1, h2, h3, h4, h5, h6⟩ := h
  funext k; simp only [zenc, h2]
theorem zLk.kok {T S : zTo} (h : zLk T S) : zkok T = zkok S := by
  obtain ⟨h1, h2, h3, h4, h5, h6⟩ := h
  funext k; simp only [zkok, h1, h2]
theorem zLk.gx {T S : zTo} (h : zLk T S) (k : zKy) (K : List zKy) : ∀ y, zgx T k K y = zgx S k K y
  | 0 => rfl
  | y + 1 => by simp only [zgx, zLk.gx h k K y, h.may, h.bk]
theorem zLk.gr {T S : zTo} (h : zLk T S) : ∀ n, zgr T n = zgr S n
  | 0 => by simp only [zgr, h.fk]
  | n + 1 => by
    simp only [zgr, zLk.gr h n]
    cases (zgr S n)[n]? with
    | none => rfl
    | some k => exact h.gx k _ 8
theorem zLk.all {T S : zTo} (h : zLk T S) : zall T = zall S := by
  funext K; simp only [zall, h.gr]
theorem zLk.fit {T S : zTo} (h : zLk T S) : zfit T = zfit S := by
  funext R; simp only [zfit, h.all]
theorem zLk.wl {T S : zTo} (h : zLk T S) (w : zW) (i R m : Nat) (K : List zKy) : zWl w i R m T K = zWl w i R m S K := by
  have e : zhc T m = zhc S m := by funext k; simp only [zhc, h.enc]
  simp only [zWl, h.enc, h.kok, e]
theorem zLk.laid {T S : zTo} (h : zLk T S) {w : zW} {i R m : Nat} (hl : zLaid w i R m T) : zLaid w i R m S := by
  unfold zLaid zNx at *
  rw [h.all, h.fit] at hl
  simp only [h.may, h.bk, h.wl] at hl
  exact hl
/-- what is told once and for all -/
def zsame (U T : zTo) : Prop := T.1 0 = U.1 0 ∧ T.1 5 = U.1 5 ∧ T.1 6 = U.1 6 ∧ T.1 7 = U.1 7 ∧ T.2.2.2 = U.2.2.2
def zcan (T : zTo) : Prop := (∀ k, ¬ (k < 14 ∧ (k = 0 ∨ 5 ≤ k)) → T.1 k = 0) ∧ (∀ p, 8 ≤ p → T.2.2.1 p = 0) ∧ (∀ i, 64 ≤ i → T.2.2.2 i = 0)
theorem zwant_lk {U T S : zTo} (hT : zTok T) (hS : zTok S) (h1 : zsame U T) (h2 : zsame U S) (h : nI (zwant T) = nI (zwant S)) : zLk T S := by
  obtain ⟨-, -, -, -, -, -, hp10, -, ⟨hp12, -⟩, hp13, -, -⟩ := hT
  obtain ⟨-, -, -, -, -, -, hs10, -, ⟨hs12, -⟩, hs13, -, -⟩ := hS
  have a1 : zwant T < 2 ^ 15 := by simp only [zwant]; split <;> omega
  have a2 : zwant S < 2 ^ 15 := by simp only [zwant]; split <;> omega
  have e := (nI_eq (by omega) (by omega)).mp h
  simp only [zwant] at e
  have c1 : (if zcs T then 1 else 0) = (if zcs S then 1 else 0) := by
    have b1 : (if zcs T then 1 else 0) ≤ 1 := by split <;> omega
    have b2 : (if zcs S then 1 else 0) ≤ 1 := by split <;> omega
    omega
  have c2 : zcs T = zcs S := by
    cases hT : zcs T <;> cases hS : zcs S <;> simp [hT, hS] at c1 <;> rfl
  rw [c2] at e
  exact ⟨h1.2.2.2.1.trans h2.2.2.2.1.symm, by omega, by omega, by omega, c2, h1.2.2.2.2.trans h2.2.2.2.2.symm⟩
theorem zwant_ne {T : zTo} (hT : zTok T) : ¬ (-1 : Int32) = nI (zwant T) := by
  obtain ⟨-, -, -, -, -, -, hp10, -, ⟨hp12, -⟩, hp13, -, -⟩ := hT
  have a1 : zwant T < 2 ^ 15 := by simp only [zwant]; split <;> omega
  intro h
  have h1 : (0 : Int32) ≤ nI (zwant T) := (nI_leI (a := 0) (by decide) (by omega)).mpr (Nat.zero_le _)
  rw [← h] at h1
  exact absurd h1 (by decide)
/-- a Play between calls, the town told being U -/
def zPI (w : zW) (b R m : Nat) (U : zTo) : Prop := zPs w b R m ∧ zTn w (b + 1) ∧ (∀ S, zTok S → zsame U S → w.2.1 (b + 6) 6 = nI (zwant S) → zLaid w (b + 6) R m S) ∧ (w.2.1 b 11 = 0 ∨ (w.2.1 b 11 = 1 ∧ ∃ T, zTi w (b + 1) T ∧ zTok T ∧ zcan T ∧ zsame U T ∧ ∀ K, zall T K → zGa w b T K ∧ zCa w b T K))
/-- a Play opened for T -/
def zPO (w : zW) (b R m : Nat) (U T : zTo) (K : List zKy) : Prop := zGr w b R m T K ∧ zGa w b T K ∧ zCa w b T K ∧ w.2.1 b 11 = 1 ∧ w.2.1 (b + 6) 6 = nI (zwant T) ∧ w.2.1 (b + 6) 7 = 1 ∧ zcan T ∧ zsame U T
/-- all that is changed lies in the Play at b -/
def zFf (w c : zW) (b : Nat) : Prop := c.1 = w.1 ∧ c.2.2.2 = w.2.2.2 ∧ (∀ a j, (a < b ∨ b + 18 < a) → c.2.1 a j = w.2.1 a j) ∧ (∀ a j, (a < b ∨ b + 18 < a) → c.2.2.1 a j = w.2.2.1 a j)
theorem zFf.rf (w : zW) (b : Nat) : zFf w w b := ⟨rfl, rfl, fun _ _ _ => rfl, fun _ _ _ => rfl⟩
theorem zFf.tr {w c d : zW} {b : Nat} (h1 : zFf w c b) (h2 : zFf c d b) : zFf w d b := ⟨h2.1.trans h1.1, h2.2.1.trans h1.2.1, fun a j h => (h2.2.2.1 a j h).trans (h1.2.2.1 a j h), fun a j h => (h2.2.2.2 a j h).trans (h1.2.2.2 a j h)⟩
theorem zFp.ff {w c : zW} {b : Nat} (h : zFp w c b) : zFf w c b := ⟨h.1, h.2.1, fun a j h1 => h.2.2.1 a j (by omega) (by omega) (Or.inl (by omega)), fun a j h1 => h.2.2.2 a j (by omega)⟩
theorem zFl.ff {w c : zW} {b : Nat} (h : zFl w c (b + 6)) : zFf w c b := ⟨h.1, h.2.1, fun a j h1 => h.2.2.1 a j (by omega), fun a j h1 => h.2.2.2.2 a j (by omega)⟩
theorem zFf.i {w : zW} {b a j : Nat} {x : Int32} (h : b ≤ a ∧ a ≤ b + 18) : zFf w (zsi w a j x) b := ⟨rfl, rfl, fun a2 j2 h2 => by
  have h3 : ¬ a2 = a := by omega
  simp [zsi, h3], fun _ _ _ => rfl⟩
theorem zTn.ff {w c : zW} {t : Nat} (h : zTn w t) (h1 : c.1 = w.1) (h2 : c.2.2.2 = w.2.2.2) : zTn c t := by
  unfold zTn at *; rw [h1, h2]; exact h
theorem zTi.eq {w c : zW} {t s : Nat} {T : zTo} (h : zTi w t T) (hn : zTn c s) (hi : ∀ a j, a < 5 → c.2.1 (s + a) j = w.2.1 (t + a) j) : zTi c s T := by
  obtain ⟨h0, h1, h2, h3, h4, h5⟩ := h
  refine ⟨hn, fun k a b => ?_, fun p a => ?_, fun p a => ?_, fun p a => ?_, fun p a => ?_⟩
  · rw [show c.2.1 s k = w.2.1 t k from hi 0 k (by decide)]; exact h1 k a b
  · rw [hi 1 p (by decide)]; exact h2 p a
  · rw [hi 2 p (by decide)]; exact h3 p a
  · rw [hi 3 p (by decide)]; exact h4 p a
  · rw [hi 4 p (by decide)]; exact h5 p a
theorem zLaid.eq {w c : zW} {i R m : Nat} {T : zTo} (h : zLaid w i R m T) (hi : ∀ a j, a < 5 → c.2.1 (i + a) j = w.2.1 (i + a) j) (hl : ∀ j, c.2.2.1 (i + 1) j = w.2.2.1 (i + 1) j) : zLaid c i R m T := by
  have e0 : c.2.1 i = w.2.1 i := funext fun j => hi 0 j (by decide)
  have e2 : c.2.1 (i + 2) = w.2.1 (i + 2) := funext fun j => hi 2 j (by decide)
  have e3 : c.2.1 (i + 3) = w.2.1 (i + 3) := funext fun j => hi 3 j (by decide)
  have e4 : c.2.1 (i + 4) = w.2.1 (i + 4) := funext fun j => hi 4 j (by decide)
  have e1 : c.2.2.1 (i + 1) = w.2.2.1 (i + 1) := funext fun j => hl j
  unfold zLaid zWl at *
  rw [e0, e1, e2, e3, e4]; exact h
theorem zPs.ff {w c : zW} {b R m : Nat} (h : zPs w b R m) (h1 : c.1 = w.1) (h2 : c.2.2.2 = w.2.2.2) (h3 : c.2.1 (b + 6) 0 = w.2.1 (b + 6) 0) : zPs c b R m := by
  unfold zPs zWs at *; rw [h1, h2, h3]; exact h
theorem zGa.eq {w c : zW} {b : Nat} {T : zTo} {K : List zKy} (h : zGa w b T K) (h0 : c.2.1 b = w.2.1 b) (h1 : c.2.1 (b + 13) = w.2.1 (b + 13)) (h2 : c.2.2.1 (b + 11) = w.2.2.1 (b + 11)) (h3 : c.2.2.1 (b + 12) = w.2.2.1 (b + 12)) : zGa c b T K := by
  unfold zGa zUp at *; rw [h0, h1, h2, h3]; exact h
theorem zCa.eq {w c : zW} {b : Nat} {T : zTo} {K : List zKy} (h : zCa w b T K) (h0 : c.2.1 b 12 = w.2.1 b 12) (h1 : c.2.2.1 (b + 16) = w.2.2.1 (b + 16)) : zCa c b T K := by
  unfold zCa zCc at *; rw [h0, h1]; exact h
theorem zPO.pi {w : zW} {b R m : Nat} {U T : zTo} {K : List zKy} (h : zPO w b R m U T K) : zPI w b R m U := by
  obtain ⟨⟨hS, hi, hT, hall, hL, hrow⟩, hga, hca, h11, h6, h7, hcan, hU⟩ := h
  refine ⟨hS, hi.1, fun S hS1 hS2 hw => ?_, Or.inr ⟨h11, T, hi, hT, hcan, hU, fun K2 hK2 => ?_⟩⟩
  · refine (zwant_lk hT hS1 hU hS2 (h6.symm.trans hw)).laid (Or.inl ⟨h7, K, hall, hL.2.2.1, hL, hrow⟩)
  · rw [zall_one hK2 hall]; exact ⟨hga, hca⟩
/-- kept over what is changed outside -/
theorem zPI.out {w c : zW} {b R m : Nat} {U : zTo} (h : zPI w b R m U) (h1 : c.1 = w.1) (h2 : c.2.2.2 = w.2.2.2) (h3 : ∀ a j, b ≤ a → a ≤ b + 18 → c.2.1 a j = w.2.1 a j) (h4 : ∀ a j, b ≤ a → a ≤ b + 18 → c.2.2.1 a j = w.2.2.1 a j) : zPI c b R m U := by
  have ei : ∀ a, b ≤ a → a ≤ b + 18 → c.2.1 a = w.2.1 a := fun a x y => funext fun j => h3 a j x y
  have el : ∀ a, b ≤ a → a ≤ b + 18 → c.2.2.1 a = w.2.2.1 a := fun a x y => funext fun j => h4 a j x y
  obtain ⟨hS, hn, hl, hs⟩ := h
  refine ⟨hS.ff h1 h2 (h3 _ _ (by omega) (by omega)), hn.ff h1 h2, fun S a1 a2 a3 => (hl S a1 a2 (by rw [← h3 (b + 6) 6 (by omega) (by omega)]; exact a3)).eq (fun a j ha => h3 _ _ (by omega) (by omega)) (fun j => h4 _ _ (by omega) (by omega)), ?_⟩
  rw [h3 b 11 (by omega) (by omega)]
  refine hs.imp (fun h => h) (fun ⟨a0, T, a1, a2, a3, a4, a5⟩ => ⟨a0, T, a1.eq (hn.ff h1 h2) (fun a j ha => h3 _ _ (by omega) (by omega)), a2, a3, a4, fun K hK => ⟨(a5 K hK).1.eq (ei _ (by omega) (by omega)) (ei _ (by omega) (by omega)) (el _ (by omega) (by omega)) (el _ (by omega) (by omega)), (a5 K hK).2.eq (h3 _ _ (by omega) (by omega)) (el _ (by omega) (by omega))⟩⟩)
theorem zTi_one {w : zW} {t : Nat} {T S : zTo} (h1 : zTi w t T) (h2 : zTi w t S) (hT : zTok T) (hS : zTok S) (c1 : zcan T) (c2 : zcan S) : T = S := by
  obtain ⟨-, a1, a2, a3, -, a5⟩ := h1
  obtain ⟨-, b1, b2, b3, -, b5⟩ := h2
  obtain ⟨hp0, hp5, hp6, hp7, hp8, hp9, hp10, hp11, hp12, hp13, hpp, hpw⟩ := hT
  obtain ⟨hs0, hs5, hs6, hs7, hs8, hs9, hs10, hs11, hs12, hs13, hsp, hsw⟩ := hS
  have e1 : T.1 = S.1 := by
    funext k
    by_cases hk : k < 14 ∧ (k = 0 ∨ 5 ≤ k)
    · have h := (a1 k hk.1 hk.2).symm.trans (b1 k hk.1 hk.2)
      refine (nI_eq ?_ ?_).mp h
      · rcases (by omega : k = 0 ∨ k = 5 ∨ k = 6 ∨ k = 7 ∨ k = 8 ∨ k = 9 ∨ k = 10 ∨ k = 11 ∨ k = 12 ∨ k = 13) with h | h | h | h | h | h | h | h | h | h <;> subst h <;> omega
      · rcases (by omega : k = 0 ∨ k = 5 ∨ k = 6 ∨ k = 7 ∨ k = 8 ∨ k = 9 ∨ k = 10 ∨ k = 11 ∨ k = 12 ∨ k = 13) with h | h | h | h | h | h | h | h | h | h <;> subst h <;> omega
    · rw [c1.1 k hk, c2.1 k hk]
  have e2 : T.2.1 = S.2.1 := by
    funext p
    by_cases hp : p < 8
    · exact (nI_eq (by have := (hpp p).1; omega) (by have := (hsp p).1; omega)).mp ((a2 p hp).symm.trans (b2 p hp))
    · rw [(hpp p).2.2.2 (by omega), (hsp p).2.2.2 (by omega)]
  have e3 : T.2.2.1 = S.2.2.1 := by
    funext p
    by_cases hp : p < 8
    · exact (nI_eq (by have := (hpp p).2.1; omega) (by have := (hsp p).2.1; omega)).mp ((a3 p hp).symm.trans (b3 p hp))
    · rw [c1.2.1 p (by omega), c2.2.1 p (by omega)]
  have e4 : T.2.2.2 = S.2.2.2 := by
    funext i
    by_cases hi : i < 64
    · have x1 := (hpw (i / 8) (i % 8) (by omega) (by omega)).1
      have x2 := (hsw (i / 8) (i % 8) (by omega) (by omega)).1
      rw [show i / 8 * 8 + i % 8 = i by omega] at x1 x2
      exact (nI_eq (by omega) (by omega)).mp ((a5 i hi).symm.trans (b5 i hi))
    · rw [c1.2.2 i (by omega), c2.2.2 i (by omega)]
  obtain ⟨t1, t2, t3, t4⟩ := T
  obtain ⟨s1, s2, s3, s4⟩ := S
  simp only at e1 e2 e3 e4
  rw [e1, e2, e3, e4]
set_option maxRecDepth 100000 in
theorem c_Ways_forget (Δ : zD) (w : zW) (i : Nat) (hi : w.1 i = some (.inl 6)) : zMd Δ 0 0 0 true yX6_forget mX6_forget [.ref i] w none (zsi w i 6 (-1)) := by
  refine zMd.of mfX6_forget (Nat.le_of_ble_eq_true rfl) (fun QR hQ => ?_)
  refine zJ_aload_n dX6_forget_0 rfl ?_
  refine zJ_iconst (v := (-1)) dX6_forget_1 (by decide) ?_
  refine zJ_puti dX6_forget_2 fX6_11 (fun q h => by cases h; rfl) (by first | rfl | assumption) rfl rfl rfl ?_
  exact zJ_vret dX6_forget_5 rfl (by decide) (by decide) hQ
set_option maxRecDepth 100000 in
theorem c_Play_forget (Δ : zD) (w : zW) (b R m : Nat) (hS : zPs w b R m) : zMd Δ 1 0 0 true yX1_forget mX1_forget [.ref b] w none (zsi (zsi w b 11 0) (b + 6) 6 (-1)) := by
  refine zMd.of mfX1_forget (Nat.le_of_ble_eq_true rfl) (fun QR hQ => ?_)
  obtain ⟨p0, q0, q1, q2, q3, q4, q5, q6, q7, q8, q9, s11, s12, s13, s14, s15, s16, s17, s18, hSw⟩ := hS
  have g0 := hSw.1
  refine zJ_aload_n dX1_forget_0 rfl ?_
  refine zJ_iconst (v := 0) dX1_forget_1 (by decide) ?_
  refine zJ_puti dX1_forget_2 fX1_53 (fun q h => by cases h; rfl) (by first | rfl | assumption) rfl rfl rfl ?_
  refine zJ_aload_n dX1_forget_5 rfl ?_
  refine zJ_getr dX1_forget_6 fX1_34 (by first | rfl | assumption) rfl (by first | rfl | assumption) ?_
  refine zJ_cV0 dX1_forget_9 sX1_57 mfX6_forget (c_Ways_forget Δ _ (b + 6) g0) (by first | rfl | assumption) rfl (Nat.le_of_ble_eq_true rfl) (by decide) (by decide) ?_
  exact zJ_vret dX1_forget_12 rfl (by decide) (by decide) hQ
theorem zPI.forget {w : zW} {b R m : Nat} (U : zTo) (hS : zPs w b R m) (hn : zTn w (b + 1)) : zPI (zsi (zsi w b 11 0) (b + 6) 6 (-1)) b R m U := by
  refine ⟨hS.ff rfl rfl (by simp [zsi]), hn, fun S a1 _ a3 => ?_, Or.inl (by simp [zsi])⟩
  rw [show (zsi (zsi w b 11 0) (b + 6) 6 (-1)).2.1 (b + 6) 6 = -1 by simp [zsi]] at a3
  exact absurd a3 (zwant_ne a1)
set_option maxRecDepth 100000 in
theorem c_Play_follow (Δ : zD) (w : zW) (b R m t : Nat) (U T : zTo) (hP : zPI w b R m U) (hi : zTi w t T) (hT : zTok T) (hcan : zcan T) (hU : zsame U T) (ht : t + 4 < b) : zMp Δ 4 yX1_follow mX1_follow [.ref b, .ref t] w (fun a c => zFf w c b ∧ ((a = some (.int 1) ∧ ∃ K, zPO c b R m U T K) ∨ (a = some (.int 0) ∧ ¬ zfit T R ∧ zPI c b R m U))) := by
  refine zMp.of mfX1_follow (Nat.le_of_ble_eq_true rfl) (fun QR hQ => ?_)
  obtain ⟨hS, hn, hl, hs⟩ := hP
  have hSw : zWs w (b + 6) R m := hS.2.2.2.2.2.2.2.2.2.2.2.2.2.2.2.2.2.2.2
  have p0 := hS.1
  have q0 := hS.2.1
  have q1 := hS.2.2.1
  have g0 := hSw.1
  have t0 := hn.1
  have L : ∀ w1 : zW, zFf w w1 b → zPs w1 b R m → zTi w1 (b + 1) T → (w1.2.1 (b + 6) 6 = nI (zwant T) → zLaid w1 (b + 6) R m T) → w1.2.1 b 11 = 1 → (∀ K, zall T K → zGa w1 b T K ∧ zCa w1 b T K) → zJ Δ mX1_follow (zRm 4 0 0) true w.1 QR (fun _ _ => False) 0 0 41 [(0, .ref b), (1, .ref t)] [] w1 := by
    intro w1 hf hS1 hi1 hl1 h11 hgc
    have p1 := hS1.1
    have p2 := hS1.2.2.1
    have p3 := hS1.2.1
    have hSw1 : zWs w1 (b + 6) R m := hS1.2.2.2.2.2.2.2.2.2.2.2.2.2.2.2.2.2.2.2
    have p4 := hSw1.1
    refine zJ_aload_n dX1_follow_41 rfl ?_
    refine zJ_getr dX1_follow_42 fX1_34 (by first | rfl | assumption) rfl (by first | rfl | assumption) ?_
    refine zJ_aload_n dX1_follow_45 rfl ?_
    refine zJ_getr dX1_follow_46 fX1_12 (by first | rfl | assumption) rfl (by first | rfl | assumption) ?_
    refine zJ_eV1 dX1_follow_49 sX1_74 mfX6_lay (c_Ways_lay Δ w1 (b + 6) (b + 1) R m T hSw1 hi1 hT (by omega) hl1) p4 rfl (Nat.le_of_ble_eq_true rfl) (by decide) (by decide) (fun r w2 hP => ?_)
    obtain ⟨rfl, a1, a2, a3⟩ := hP
    have e0 : ∀ a, a < b + 6 ∨ b + 10 < a → w2.2.1 a = w1.2.1 a := fun a h => funext fun j => a1.2.2.1 a j (by omega)
    have el : ∀ a, a ≠ b + 6 + 1 → w2.2.2.1 a = w1.2.2.1 a := fun a h => funext fun j => a1.2.2.2.2 a j h
    have hgc2 : ∀ K, zall T K → zGa w2 b T K ∧ zCa w2 b T K := fun K hK => ⟨(hgc K hK).1.eq (e0 _ (by omega)) (e0 _ (by omega)) (el _ (by omega)) (el _ (by omega)), (hgc K hK).2.eq (congrFun (e0 _ (by omega)) 12) (el _ (by omega))⟩
    have hS2 : zPs w2 b R m := hS1.ff a1.1 a1.2.1 (a1.2.2.2.1 0 (by decide) (by decide) (by decide))
    have hi2 : zTi w2 (b + 1) T := hi1.fl a1 (by omega)
    have hf2 : zFf w w2 b := hf.tr a1.ff
    have h11b : w2.2.1 b 11 = 1 := (congrFun (e0 b (by omega)) 11).trans h11
    have hz : w2.2.1 (b + 6) 7 = 0 ∨ w2.2.1 (b + 6) 7 = 1 := by
      rcases a3 with h | h
      · exact Or.inr h.1
      · exact Or.inl h.1
    exact zJ_zret dX1_follow_52 rfl (by rcases hz with h | h <;> rw [h] <;> rfl) (by decide) (by decide) (hQ _ _ ⟨hf2, by
  have a30 := a3
  rcases a3 with ⟨h7, K, b1, b2, b3, b4⟩ | ⟨h7, b1⟩
  · rw [h7]
    exact Or.inl ⟨rfl, K, ⟨hS2, hi2, hT, b1, b3, b4⟩, (hgc2 K b1).1, (hgc2 K b1).2, h11b, a2, h7, hcan, hU⟩
  · rw [h7]
    exact Or.inr ⟨rfl, b1, hS2, hi2.1, fun S c1 c2 c3 => (zwant_lk hT c1 hU c2 (a2.symm.trans c3)).laid a30, Or.inr ⟨h11b, T, hi2, hT, hcan, hU, hgc2⟩⟩⟩)
  have hCP : zJ Δ mX1_follow (zRm 4 0 0) true w.1 QR (fun _ _ => False) 0 0 18 [(0, .ref b), (1, .ref t)] [] w := by
    refine zJ_aload_n dX1_follow_18 rfl ?_
    refine zJ_getr dX1_follow_19 fX1_12 (by first | rfl | assumption) rfl (by first | rfl | assumption) ?_
    refine zJ_aload_n dX1_follow_22 rfl ?_
    refine zJ_cV1 dX1_follow_23 sX1_64 mfX5_copy (c_Town_copy Δ w (b + 1) t hn hi.1 (by omega)) (by first | rfl | assumption) rfl (Nat.le_of_ble_eq_true rfl) (by decide) (by decide) ?_
    refine zJ_aload_n dX1_follow_26 rfl ?_
    refine zJ_iconst (v := 1) dX1_follow_27 (by decide) ?_
    refine zJ_puti dX1_follow_28 fX1_53 (fun q h => by cases h; rfl) (by first | rfl | assumption) rfl rfl rfl ?_
    refine zJ_aload_n dX1_follow_31 rfl ?_
    refine zJ_iconst (v := 0) dX1_follow_32 (by decide) ?_
    refine zJ_puti dX1_follow_33 fX1_68 (fun q h => by cases h; rfl) (by first | rfl | assumption) rfl rfl rfl ?_
    refine zJ_aload_n dX1_follow_36 rfl ?_
    refine zJ_iconst (v := 0) dX1_follow_37 (by decide) ?_
    refine zJ_puti dX1_follow_38 fX1_71 (fun q h => by cases h; rfl) (by first | rfl | assumption) rfl rfl rfl ?_
    have hne : ∀ a, a < 5 → ¬ b = b + 1 + a := fun a h => by omega
    have ec : ∀ a j, ¬ a = b → ∀ y : zW, y = ztowc w (b + 1) t → (zsi (zsi (zsi y b 11 1) b 12 0) b 13 0).2.1 a j = (ztowc w (b + 1) t).2.1 a j := fun a j h y e => by subst e; simp [zsi, h]
    have eo : ∀ a j, (a < b + 1 ∨ b + 5 < a) → (ztowc w (b + 1) t).2.1 a j = w.2.1 a j := fun a j h => by
      have h1 : ¬ a = b + 1 := by omega
      have h2 : ¬ a = b + 1 + 1 := by omega
      have h3 : ¬ a = b + 1 + 2 := by omega
      have h4 : ¬ a = b + 1 + 3 := by omega
      have h5 : ¬ a = b + 1 + 4 := by omega
      simp [ztowc, ztow, h1, h2, h3, h4, h5]
    have et : ∀ a j, a < 5 → (ztowc w (b + 1) t).2.1 (b + 1 + a) j = w.2.1 (t + a) j := fun a j h => by
      rcases (by omega : a = 0 ∨ a = 1 ∨ a = 2 ∨ a = 3 ∨ a = 4) with h | h | h | h | h <;> subst h <;> simp [ztowc, ztow]
    refine L _ ⟨rfl, rfl, fun a j h => (ec a j (by omega) _ rfl).trans (eo a j (by omega)), fun _ _ _ => rfl⟩ (hS.ff rfl rfl ((ec _ _ (by omega) _ rfl).trans (eo _ _ (by omega)))) (hi.eq hn (fun a j h => (ec _ _ (by omega) _ rfl).trans (et a j h))) (fun h6 => (hl T hT hU (by rw [← h6]; exact ((ec _ _ (by omega) _ rfl).trans (eo _ _ (by omega))).symm)).eq (fun a j h => (ec _ _ (by omega) _ rfl).trans (eo _ _ (by omega))) (fun j => rfl)) (by simp [zsi]) (fun K _ => ⟨Or.inl (by simp [zsi]), Or.inl (by simp [zsi])⟩)
  obtain ⟨r, hr, hc⟩ := c_Town_isAsked Δ w (b + 1) t hn hi.1
  refine zJ_aload_n dX1_follow_0 rfl ?_
  refine zJ_geti dX1_follow_1 fX1_53 (by first | rfl | assumption) rfl ?_
  refine zJ_if_eq (tgt := 18) dX1_follow_4 (by decide) (fun h4 => ?_) (fun h4 => ?_)
  · exact hCP
  · refine zJ_aload_n dX1_follow_7 rfl ?_
    refine zJ_getr dX1_follow_8 fX1_12 (by first | rfl | assumption) rfl (by first | rfl | assumption) ?_
    refine zJ_aload_n dX1_follow_11 rfl ?_
    refine zJ_cV1 dX1_follow_12 sX1_60 mfX5_isAsked hc (by first | rfl | assumption) rfl (Nat.le_of_ble_eq_true rfl) (by decide) (by decide) ?_
    refine zJ_if_ne (tgt := 41) dX1_follow_15 (by decide) (fun h15 => ?_) (fun h15 => ?_)
    · have hst : w.2.1 b 11 = 1 ∧ ∃ S, zTi w (b + 1) S ∧ zTok S ∧ zcan S ∧ zsame U S ∧ ∀ K, zall S K → zGa w b S K ∧ zCa w b S K := hs.elim (fun h => absurd h h4) (fun h => h)
      obtain ⟨h11, S, a1, a2, a3, a4, a5⟩ := hst
      have hz : zas w (b + 1) t := by
        rcases hr with h | h
        · exact h.2
        · exact absurd h.1 h15
      obtain ⟨-, d1, d2, d3, d4, d5⟩ := a1
      obtain ⟨-, e1, e2, e3, e4, e5⟩ := hi
      have hW : T.2.2.2 = S.2.2.2 := hU.2.2.2.2.trans a4.2.2.2.2.symm
      have hiT : zTi w (b + 1) T := by
        refine ⟨hn, fun k k1 k2 => ?_, fun p hp => ?_, fun p hp => ?_, fun p hp => ?_, fun i hi => ?_⟩
        · by_cases hk : k < 8
          · rw [d1 k k1 k2]
            rcases (by omega : k = 0 ∨ k = 5 ∨ k = 6 ∨ k = 7) with h | h | h | h <;> subst h
            · rw [a4.1, hU.1]
            · rw [a4.2.1, hU.2.1]
            · rw [a4.2.2.1, hU.2.2.1]
            · rw [a4.2.2.2.1, hU.2.2.2.1]
          · rw [← e1 k k1 k2]
            obtain ⟨⟨z8, z9, z10, z11, z12, z13⟩, -⟩ := hz
            rcases (by omega : k = 8 ∨ k = 9 ∨ k = 10 ∨ k = 11 ∨ k = 12 ∨ k = 13) with h | h | h | h | h | h <;> subst h <;> assumption
        · rw [(hz.2 p hp).1]; exact e2 p hp
        · rw [(hz.2 p hp).2]; exact e3 p hp
        · rw [d4 p hp]; simp only [zkn, hW]
        · rw [d5 i hi, hW]
      have hTS : T = S := zTi_one hiT ⟨hn, d1, d2, d3, d4, d5⟩ hT a2 hcan a3
      refine L w (zFf.rf w b) hS hiT (fun h => hl T hT hU h) h11 (fun K hK => ?_)
      rw [hTS] at hK ⊢
      exact a5 K hK
    · exact hCP
