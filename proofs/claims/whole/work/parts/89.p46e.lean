/-! town: its end -/
section ZUE
variable {w d c : zW} {U : zTo} {kv b : Int32}
theorem zFtb_in : ∀ k ∈ zFtb, k = 0 ∨ (14 ≤ k ∧ k ≤ 37) := by decide
theorem zFtw_in : ∀ k ∈ zFtw, k ≤ 12 ∨ (14 ≤ k ∧ k ≤ 37) ∨ k = 55 ∨ k = 56 ∨ k = 62 ∨ k = 66 ∨ k = 71 ∨ k = 76 ∨ k = 77 := by decide
theorem zfin_to {len : Nat} {tx : Nat → Nat} {x : Int32} (hC : zKC w U) (hlen : len ≤ 700) (hres : (kv = 1 ∧ ¬ zv_to len x ∧ zKC d U) ∨ (kv = 0 ∧ ∃ v c, zN_to w tx len x (some (.int v)) c ∧ d = zsl c 190 0 v.toInt64)) (htx : ∀ i, i < 700 → w.2.1 1 i = nI (tx i) ∧ w.2.1 113 i = nI (tx i) ∧ tx i < 256) (hq : (¬ zv_to len x ∧ c = zsi (zsi d 100 0 0) 100 0 1) ∨ (∃ n, n ≤ len ∧ x = nI n ∧ c.2.1 100 0 = 0 ∧ c.2.1 100 14 = 0 ∧ zTwn d c (some (.int b)) (zpa tx n 701 (zT0, 0) 0))) : zOK d kv b c := by
  rcases hres with ⟨rfl, h2, h3⟩ | ⟨rfl, v, D, h2, rfl⟩
  · rcases hq with ⟨-, rfl⟩ | ⟨n, g1, g2, -⟩
    · exact ⟨⟨by simp [zsi], fun h => absurd h (by decide)⟩, ⟨U, h3.mo (zFM.t0.tr zFM.t0)⟩, rfl⟩
    · exact (h2 ⟨n, g1, g2⟩).elim
  · obtain ⟨n, h3, h4, h5⟩ := h2
    rcases hq with ⟨g1, -⟩ | ⟨n2, g1, g2, g3, g4, g5⟩
    · exact (g1 ⟨n, h3, h4⟩).elim
    · obtain rfl := nI_u h4 g2 (by omega) (by omega)
      obtain ⟨k1, k2, k3, k4, k5, k6, k7, k8, k9⟩ := hC.2.2.2.2
      have hs := h5.s
      have hs9 : D.2.2.2 = w.2.2.2 := congrArg Prod.snd hs.2.1
      unfold zTd at h5
      obtain ⟨c0, hz, h5⟩ := h5
      cases hpa : zpa tx n 701 (zT0, 0) 0 with
      | inl e =>
        rw [hpa] at h5 g5
        obtain ⟨e1, -, -, hD⟩ := h5
        obtain ⟨f1, hf, f2, f3, f4⟩ := g5
        simp only [Option.some.injEq, Value.int.injEq] at e1 f1
        refine ⟨⟨g3, fun _ => by rw [(hf.lo (Or.inr (by decide)) (by decide)).2, e1, f1]; simp [zsl]⟩, ⟨U, ?_⟩, by rw [hf.2.1]⟩
        have nD : ∀ a j, ¬ (3 ≤ a ∧ a ≤ 8) → ¬ (a = 0 ∧ (j = 1 ∨ j = 2)) → ¬ (a = 2 ∧ j = 0) → D.2.1 a j = w.2.1 a j := fun a j x1 x2 x3 => by
          rw [hD]
          simp only [zsi]
          rw [if_neg x3, if_neg (by omega)]
          exact hz.at (by omega) (by omega)
        have ne : ∀ {p : Nat → Nat → Prop}, (∀ a j, p a j → ¬ (3 ≤ a ∧ a ≤ 8) ∧ ¬ (a = 0 ∧ (j = 1 ∨ j = 2)) ∧ ¬ (a = 2 ∧ j = 0) ∧ ¬ (a = 100 ∧ (j = 0 ∨ (14 ≤ j ∧ j ≤ 37))) ∧ ¬ (114 ≤ a ∧ a ≤ 137)) → zAg p w c := fun h a j x => by
          obtain ⟨x1, x2, x3, x4, x5⟩ := h a j x
          refine Eq.trans ?_ (nD a j x1 x2 x3)
          show c.2.1 a j = (zsl D 190 0 v.toInt64).2.1 a j
          by_cases ha : a = 100
          · subst ha
            exact hf.at (fun hj => by have := zFtb_in j hj; omega)
          · exact (hf.2.2.2 a j ha (fun k hk => by have := zFtb_in k hk; omega)).1
        refine hC.kp ⟨hf.1.trans hs.1, hf.2.1.trans hs9, fun a j x => ⟨ne (p := zoT) (fun a j x => by unfold zoT at x; omega) a j x, ?_⟩, ne (p := zoM) (fun a j x => by unfold zoM at x; omega)⟩ ⟨⟨0, tx, by decide, ?_, g4, fun i hi => ⟨?_, ?_, (htx i hi).2.2⟩⟩, ⟨?_, ?_⟩, k3.ob (ne (fun a j x => by unfold zo3 at x; omega)), k4.ob (ne (fun a j x => by unfold zo4 at x; omega)), k5.ob (ne (fun a j x => by unfold zo5 at x; omega)), k6.ob (ne (fun a j x => by unfold zo6 at x; omega)), k7.ob (ne (fun a j x => by unfold zo7 at x; omega)) ?_, k8.ob (ne (fun a j x => by unfold zo8 at x; omega)), k9.ob (ne (fun a j x => by unfold zo9 at x; omega))⟩
        · refine ((hf.low (by omega)).2).trans ?_
          simp only [zsl]
          rw [if_neg (by omega), hs.2.1]
        · refine ((hf.low (by decide)).1).trans ?_
          show D.2.1 0 1 = nI 0
          rw [hD]
          simp only [zsi]
          rw [if_neg (by decide), if_neg (by decide), hz.2.2 0 1 (by decide)]
          simp [zsi]
          rfl
        · exact (ne (p := zoPt 1 i) (fun a j x => by unfold zoPt at x; omega) 1 i ⟨rfl, rfl⟩).trans (htx i hi).1
        · exact (ne (p := zoPt 113 i) (fun a j x => by unfold zoPt at x; omega) 113 i ⟨rfl, rfl⟩).trans (htx i hi).2.1
        · rw [f2]
          refine ((hf.low (by decide)).1).trans ?_
          show D.2.1 0 2 = nI e.2
          rw [hD]
          simp [zsi]
        · funext j
          have h8 := congrFun k2.2 j
          by_cases hj : j = 0
          · subst hj
            rw [f3]
            refine ((hf.low (by decide)).1).trans ?_
            show D.2.1 2 0 = D.2.1 117 0 + 1
            rw [nD 117 0 (by decide) (by decide) (by decide), hD]
            simp [zsi, h8]
          · rw [f4 j hj]
            refine ((hf.low (by decide)).1).trans ?_
            show D.2.1 2 j = D.2.1 117 j
            rw [nD 117 j (by omega) (by omega) (by omega), nD 2 j (by omega) (by omega) (by omega)]
            exact h8
        · refine ((hf.low (by decide)).2).trans ?_
          simp only [zsl]
          rw [if_neg (by decide), hs.2.1]
      | inr S =>
        rw [hpa] at h5 g5
        obtain ⟨e1, hi4, hpk, hA⟩ := h5
        obtain ⟨f1, hf, f2, f3, hMu, -, hsd, f5, f6, f7, f8, f9, f10, f11⟩ := g5
        simp only [Option.some.injEq, Value.int.injEq] at e1 f1
        obtain ⟨A1, A2, A3, A4, A5, A6, A7, A8, A9, A10, A11, A12, A13, A14⟩ := hA
        have nD : ∀ a j, a < 3 → ¬ (a = 0 ∧ (j = 1 ∨ j = 2 ∨ j = 15)) → D.2.1 a j = w.2.1 a j := fun a j x1 x2 => by
          rw [A3 a j (by omega) (by omega)]
          refine (ztow_o (by omega)).trans ?_
          simp only [zsi]
          rw [if_neg (by omega)]
          exact hz.at (by omega) (by omega)
        have lo : ∀ a j, a < 100 → c.2.1 a j = D.2.1 a j := fun a j ha => (hf.low ha).1
        have hBD : zB D S.1 := by
          refine ⟨hC.1.1.fk hs.1 hs.2.1, hi4.eq (hC.1.2.1.1.ff hs.1 (congrArg Prod.snd hs.2.1)) (fun a j ha => ?_), ⟨hpk.1, hpk.2.1, hpk.2.2.2.2⟩, A14 S.1⟩
          rw [A3 (9 + a) j (by omega) (by omega)]
          rcases (by omega : a = 0 ∨ a = 1 ∨ a = 2 ∨ a = 3 ∨ a = 4) with h | h | h | h | h <;> subst h <;> simp [ztowc, ztow, zsi]
        have hBc : zB c S.1 := (hBD.out (c := zsl D 190 0 v.toInt64) rfl rfl (fun a j ha => ⟨rfl, by simp only [zsl]; rw [if_neg (by omega)]⟩)).fm hf
        refine ⟨⟨g3, fun _ => by rw [(hf.lo (Or.inr (by decide)) (by decide)).2, e1, f1]; simp [zsl]⟩, ⟨S.1, hBc, hMu, hsd, ?_, ?_⟩, by rw [hf.2.1]⟩
        · have hc1 : c.1 = w.1 := hf.1.trans hs.1
          rw [hc1]; exact hC.2.2.2.1
        · obtain ⟨cd, len7, l1, l2, l3, -⟩ := k7
          have q1 : zc1 c := by
            refine ⟨0, tx, by decide, ?_, g4, fun i hi => ⟨?_, ?_, (htx i hi).2.2⟩⟩
            · rw [lo 0 1 (by decide), A3 0 1 (by decide) (by decide)]
              refine (ztow_o (by decide)).trans ?_
              simp only [zsi]
              rw [if_neg (by decide), hz.2.2 0 1 (by decide)]
              simp [zsi]
              rfl
            · rw [lo 1 i (by decide), nD 1 i (by decide) (by omega)]
              exact (htx i hi).1
            · have e13 : c.2.1 113 i = D.2.1 113 i := (hf.2.2.2 113 i (by decide) (fun k hk => by have := zFtw_in k hk; omega)).1
              rw [e13, hs.2.2 113 i (by decide)]
              exact (htx i hi).2.1
          have q2 : zc2 c := by
            refine ⟨?_, ?_⟩
            · rw [f2, lo 0 2 (by decide), A3 0 2 (by decide) (by decide)]
              refine (ztow_o (by decide)).trans ?_
              simp [zsi]
            · funext j
              rw [f3 j, lo 2 j (by decide), nD 2 j (by decide) (by omega)]
              show w.2.1 2 j = D.2.1 117 j
              rw [hs.2.2 117 j (by decide)]
              exact congrFun k2.2 j
          have q3 : zc3 c S.1 := ⟨0, fun _ => 0, by decide, (lo 38 1 (by decide)).trans A4, f5, fun i hi => absurd hi (by omega), fun _ => Nat.zero_lt_succ 7⟩
          have q4 : zc4 c S.1 := ⟨0, fun _ _ => 0, fun _ => 0, by decide, (lo 38 4 (by decide)).trans A5, f6, fun i hi => absurd hi (by omega), fun r i hr => absurd hr (by omega), fun _ _ => Nat.zero_lt_succ 7⟩
          have q5 : zc5 c S.1 := by
            refine ⟨0, fun _ => none, by decide, (lo 42 2 (by decide)).trans A7, ?_, ?_, ?_, ?_, fun h => (h rfl).elim⟩
            · intro g p q h1 h2 hq
              cases hq
            · intro i hi
              show c.2.1 43 i = -1
              rw [lo 43 i (by decide)]
              exact A6 i hi
            · intro i hi
              exact f7 i hi
            · intro g hg
              constructor
              · intro h
                rw [Nat.zero_div] at h
                exact absurd h (by decide)
              · intro h
                obtain ⟨p, p1, p2⟩ := (zits_iff 8).mp h
                exact (p2 (f7 _ (by omega))).elim
          have q6 : zc6 c := ⟨0, fun _ => 0, fun _ => 0, by decide, (lo 47 2 (by decide)).trans A8, f8, fun i hi => absurd hi (by omega), fun i hi => absurd hi (by omega)⟩
          have q7 : zc7 c := by
            refine ⟨cd, 0, by decide, l2, ?_, (lo 0 15 (by decide)).trans A9, f9, fun i hi => absurd hi (by omega)⟩
            refine ((hf.low (by decide)).2).trans ?_
            simp only [zsl]
            rw [if_neg (by decide), hs.2.1]
            exact l3
          exact ⟨q1, q2, q3, q4, q5, q6, q7, Or.inr ⟨(lo 53 0 (by decide)).trans A10, (lo 53 3 (by decide)).trans A11, f10⟩, Or.inr ⟨(lo 57 0 (by decide)).trans A12, (lo 57 3 (by decide)).trans A13, f11⟩⟩
end ZUE
