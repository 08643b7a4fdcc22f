/-! the constructor of LetterTown -/
def zEq (w c : zW) (a : Nat) : Prop := c.1 a = w.1 a ∧ (∀ j, c.2.1 a j = w.2.1 a j) ∧ (∀ j, c.2.2.1 a j = w.2.2.1 a j) ∧ ∀ j, c.2.2.2 a j = w.2.2.2 a j
theorem zEq.tr {w c d : zW} {a : Nat} (h1 : zEq w c a) (h2 : zEq c d a) : zEq w d a := ⟨h2.1.trans h1.1, fun j => (h2.2.1 j).trans (h1.2.1 j), fun j => (h2.2.2.1 j).trans (h1.2.2.1 j), fun j => (h2.2.2.2 j).trans (h1.2.2.2 j)⟩
theorem zTn.eq {w c : zW} {t : Nat} (h : zTn w t) (he : ∀ a, t ≤ a → a ≤ t + 4 → zEq w c a) : zTn c t := by
  obtain ⟨a1, a2, a3, a4, a5, a6, a7, a8, a9⟩ := h
  have e0 := he t (by omega) (by omega)
  exact ⟨e0.1.trans a1, (e0.2.2.2 1).trans a2, (e0.2.2.2 2).trans a3, (e0.2.2.2 3).trans a4, (e0.2.2.2 4).trans a5, (he _ (by omega) (by omega)).1.trans a6, (he _ (by omega) (by omega)).1.trans a7, (he _ (by omega) (by omega)).1.trans a8, (he _ (by omega) (by omega)).1.trans a9⟩
theorem zPs.eq {w c : zW} {b R m : Nat} (h : zPs w b R m) (he : ∀ a, b ≤ a → a ≤ b + 18 → zEq w c a) : zPs c b R m := by
  have s : ∀ a, b ≤ a → a ≤ b + 18 → c.1 a = w.1 a := fun a x y => (he a x y).1
  have r : ∀ a j, b ≤ a → a ≤ b + 18 → c.2.2.2 a j = w.2.2.2 a j := fun a j x y => (he a x y).2.2.2 j
  unfold zPs zWs at *
  rw [s b (by omega) (by omega), s (b + 11) (by omega) (by omega), s (b + 12) (by omega) (by omega), s (b + 13) (by omega) (by omega), s (b + 14) (by omega) (by omega), s (b + 15) (by omega) (by omega), s (b + 16) (by omega) (by omega), s (b + 17) (by omega) (by omega), s (b + 18) (by omega) (by omega), s (b + 6) (by omega) (by omega), s (b + 6 + 1) (by omega) (by omega), s (b + 6 + 2) (by omega) (by omega), s (b + 6 + 3) (by omega) (by omega), s (b + 6 + 4) (by omega) (by omega), r b 0 (by omega) (by omega), r b 1 (by omega) (by omega), r b 2 (by omega) (by omega), r b 3 (by omega) (by omega), r b 4 (by omega) (by omega), r b 5 (by omega) (by omega), r b 6 (by omega) (by omega), r b 7 (by omega) (by omega), r b 8 (by omega) (by omega), r b 9 (by omega) (by omega), r (b + 6) 1 (by omega) (by omega), r (b + 6) 2 (by omega) (by omega), r (b + 6) 3 (by omega) (by omega), r (b + 6) 4 (by omega) (by omega), (he (b + 6) (by omega) (by omega)).2.1 0]
  exact h
def zRf : List (Nat × Nat × Nat) := (List.range 61).flatMap fun i => (List.range 20).flatMap fun k => match zRC i k with
  | none => []
  | some x => [(i, k, x)]
theorem zCs_of {c : zW} (h1 : ∀ i, i < 61 → c.1 i = zSC i) (h2 : ∀ q ∈ zRf, c.2.2.2 q.1 q.2.1 = some q.2.2) : zCs c := by
  refine ⟨h1, fun i k h => ?_⟩
  have hi : i < 61 := Nat.lt_of_not_le fun hi => by
    have : zRC i k = none := by
      simp only [zRC]
      rw [List.getElem?_eq_none (l := zRCl) (show zRCl.length ≤ i from Nat.le_trans (by decide) hi)]
      simp
    rw [this] at h; cases h
  have hk : k < 20 := Nat.lt_of_not_le fun hk => by
    have hl : ∀ i, i < 61 → ((zRCl[i]?).getD []).length ≤ 20 := by decide
    have : zRC i k = none := by
      simp only [zRC]
      rw [List.getElem?_eq_none (Nat.le_trans (hl i hi) hk)]
      rfl
    rw [this] at h; cases h
  cases hx : zRC i k with
  | none => rw [hx] at h; cases h
  | some x =>
    have hm : (i, k, x) ∈ zRf := by
      simp only [zRf, List.mem_flatMap, List.mem_range]
      exact ⟨i, hi, k, hk, by rw [hx]; simp⟩
    exact h2 _ hm
/-- a LetterTown as it is made -/
def zC0 (c : zW) : Prop := zCs c ∧ (∀ j, c.2.1 1 j = 0) ∧ c.2.1 0 1 = 0 ∧ c.2.1 0 2 = -1 ∧ (∀ j, c.2.1 2 j = 0) ∧ zTi c 9 zT0 ∧ zTn c 14 ∧ zPs c 19 640 10 ∧ zTn c 20 ∧ c.2.1 19 11 = 0 ∧ c.2.1 25 6 = -1 ∧ (∀ j, c.2.1 38 j = 0) ∧ (∀ j, j < 32 → c.2.1 43 j = -1) ∧ c.2.1 42 2 = 0 ∧ c.2.1 47 2 = 0 ∧ (∀ j, c.2.1 53 j = 0) ∧ (∀ j, c.2.1 57 j = 0) ∧ c.2.2.1 0 14 = 0 ∧ c.2.1 0 15 = 0 ∧ c.2.2.2 0 8 = none
theorem zFo.row {w : zW} {i lo hi : Nat} {f : Nat → Int32} (h : lo ≤ i ∧ i ≤ hi) : zFo w (zrow w i f) lo hi := fun a ha => by
  have : ¬ a = i := by omega
  simp [zrow, this]
set_option maxRecDepth 100000 in
theorem c_LetterTown_init (Δ : zD) (w : zW) (hk : w.1 0 = some (.inl 8)) (hz1 : ∀ j, w.2.1 0 j = 0) (hz2 : ∀ j, w.2.2.1 0 j = 0) (hz3 : ∀ j, w.2.2.2 0 j = none) (hno : ∀ a, 0 < a → a ≤ 60 → w.1 a = none) : zMn Δ 4 60 17504 yX8_init mX8_init [.ref 0] w (fun r c => r = none ∧ zFo w c 0 60 ∧ zC0 c) := by
  refine zM.of mfX8_init (Nat.le_of_ble_eq_true rfl) ?_
  have k_w := hk
  have r_w := hz3
  have nn_w : ∀ a, 0 < a → a ≤ 60 → w.1 a = none := hno
  have i_w : ∀ j, ¬ j = 2 → w.2.1 0 j = 0 := fun j _ => hz1 j
  have l_w : ∀ j, w.2.2.1 0 j = 0 := hz2
  have F_w := zFo.rf w 0 60
  refine zJ_aload_n dX8_init_0 rfl ?_
  refine zJ_obj dX8_init_1 (List.mem_of_getElem? (i := 170) rfl) (by decide) (by decide) ?_
  refine zJ_aload_n dX8_init_4 rfl ?_
  refine zJ_sipush (v := 700) dX8_init_5 (by decide) ?_
  refine zJ_newi (len := 700) 1 dX8_init_8 (by decide) rfl (by decide) rfl (hno 1 (by decide) (by decide)) (by decide) (by simp [lv_args, znr, Value.category]) (by simp [znr]) (by decide) (by decide) ?_
  refine zJ_putF dX8_init_10 rfl fX8_9 (fun q hq => by cases hq; exact ⟨(List.mem_of_getElem? (i := 540) rfl), rfl, rfl⟩) (by simp [znew, hk]) rfl (fun _ => rfl) (fun _ => rfl) (by simp [znew]) ?_
  refine zJ_aload_n dX8_init_13 rfl ?_
  refine zJ_iconst (v := -1) dX8_init_14 (by decide) ?_
  refine zJ_puti dX8_init_15 fX8_13 (fun q h => by cases h; rfl) (by simp [znew, zsr, hk]) rfl rfl rfl ?_
  refine zJ_aload_n dX8_init_18 rfl ?_
  refine zJ_iconst (v := 3) dX8_init_19 (by decide) ?_
  refine zJ_newi (len := 3) 2 dX8_init_20 (by decide) rfl (by decide) rfl (by simp [znew, zsr, zsi, hno]) (by decide) (by simp [lv_args, znr, Value.category]) (by simp [znr]) (by decide) (by decide) ?_
  refine zJ_putF dX8_init_22 rfl fX8_17 (fun q hq => by cases hq; exact ⟨(List.mem_of_getElem? (i := 543) rfl), rfl, rfl⟩) (by simp [znew, zsr, zsi, hk]) rfl (fun _ => rfl) (fun _ => rfl) (by simp [znew]) ?_
  generalize hu1 : zsr (znew (zsi (zsr (znew w 1 (.inr (false, 700))) 0 0 (some 1)) 0 2 (-1)) 2 (.inr (false, 3))) 0 3 (some 2) = u1
  have F_u1 : zFo w u1 0 60 := by rw [← hu1]; exact ((((zFo.new (by omega)).tr (zFo.r (by omega))).tr (zFo.i (by omega))).tr (zFo.new (by omega))).tr (zFo.r (by omega))
  have k_u1 : u1.1 0 = some (.inl 8) := by rw [← hu1]; simp [znew, zsr, zsi, hk]
  have i_u1 : ∀ j, u1.2.1 0 j = if j = 2 then -1 else 0 := fun j => by rw [← hu1]; simp [znew, zsr, zsi, hz1]
  have l_u1 : ∀ j, u1.2.2.1 0 j = 0 := fun j => by rw [← hu1]; simp [znew, zsr, zsi, hz2]
  have r_u1 : ∀ j, u1.2.2.2 0 j = if j = 3 then some 2 else if j = 0 then some 1 else none := fun j => by rw [← hu1]; simp [znew, zsr, zsi, hz3]
  have nn_u1 : ∀ a, 2 < a → a ≤ 60 → u1.1 a = none := fun a h1 h2 => by
    rw [← hu1]
    have x1 : ¬ a = 1 := by omega
    have x2 : ¬ a = 2 := by omega
    simp [znew, zsr, zsi, x1, x2]; exact hno a (by omega) h2
  have own1 : u1.1 1 = some (.inr (false, 700)) ∧ u1.1 2 = some (.inr (false, 3)) ∧ (∀ j, u1.2.1 1 j = 0) ∧ ∀ j, u1.2.1 2 j = 0 := by rw [← hu1]; simp [znew, zsr, zsi]
  refine zJ_aload_n dX8_init_25 rfl ?_
  refine zJ_new (ci := 2) 3 dX8_init_26 rfl (List.mem_of_getElem? (i := 173) rfl) (List.mem_of_getElem? (i := 174) rfl) (List.mem_of_getElem? (i := 143) rfl) rfl (nn_u1 3 (by decide) (by decide)) (by decide) (by simp [lv_args, znr, Value.category]) (by simp [znr]) (by decide) (by decide) ?_
  refine zJ_dup dX8_init_29 rfl ?_
  refine zJ_aload_n dX8_init_30 rfl ?_
  refine zJ_getr (j := 1) dX8_init_31 fX8_9 (by simp [znew, k_u1]) rfl (by simp [znew, r_u1]) ?_
  refine zJ_callI (As := [.ref 1]) dX8_init_34 sX8_22 mfX2_init rfl (c_Reader_init Δ (znew u1 3 (.inl 2)) 3 1 (by decide) (by decide) (by simp [znew]) (by simp [znew, own1.1]) (by simp [znew]; exact nn_u1 4 (by decide) (by decide)) (by simp [znew]; exact nn_u1 5 (by decide) (by decide)) (by simp [znew]; exact nn_u1 6 (by decide) (by decide)) (by simp [znew]; exact nn_u1 7 (by decide) (by decide)) (by simp [znew]; exact nn_u1 8 (by decide) (by decide))) (fun _ _ h => h) rfl (Or.inr ⟨rfl, by simp [zokv, znew, k_u1], by simp [lv_args, zokv, Value.category, znew, k_u1]⟩) (Nat.le_of_ble_eq_true rfl) (by decide) (by decide) (fun r c3 hP => ?_)
  obtain ⟨rfl, hFc3, own3⟩ := hP
  have Fc3 : zFo u1 c3 0 60 := (zFo.new (by omega)).tr (hFc3.mono (by omega) (by omega))
  have Ec3 : ∀ a, (a < 3 ∨ 8 < a) → zEq u1 c3 a := fun a h => (zFo.new (w := u1) (i := 3) (x := .inl 2) (lo := 3) (hi := 8) (by omega)).tr hFc3 a (by omega)
  refine zJ_putF dX8_init_37 rfl fX8_25 (fun q hq => by cases hq; exact ⟨(List.mem_of_getElem? (i := 544) rfl), rfl, rfl⟩) ((Ec3 0 (by omega)).1.trans k_u1) rfl (fun _ => rfl) (fun _ => rfl) (by rw [own3.1]; simp) ?_
  generalize hu2 : zsr c3 0 4 (some 3) = u2
  have e_u2 : ∀ a, ¬ a = 0 → zEq c3 u2 a := fun a ha => by rw [← hu2]; exact ⟨rfl, fun _ => rfl, fun _ => rfl, fun j => by simp [zsr, ha]⟩
  have F_u2 : zFo w u2 0 60 := by rw [← hu2]; exact (F_u1.tr Fc3).tr (zFo.r (by omega))
  have k_u2 : u2.1 0 = some (.inl 8) := by rw [← hu2]; exact (Ec3 0 (by omega)).1.trans k_u1
  have i_u2 : ∀ j, u2.2.1 0 j = u1.2.1 0 j := fun j => by rw [← hu2]; exact (Ec3 0 (by omega)).2.1 j
  have l_u2 : ∀ j, u2.2.2.1 0 j = u1.2.2.1 0 j := fun j => by rw [← hu2]; exact (Ec3 0 (by omega)).2.2.1 j
  have r_u2 : ∀ j, u2.2.2.2 0 j = if j = 4 then some 3 else u1.2.2.2 0 j := fun j => by rw [← hu2]; simp only [zsr, true_and]; simp only [(Ec3 0 (by omega)).2.2.2 j]
  have nn_u2 : ∀ a, 8 < a → a ≤ 60 → u2.1 a = none := fun a h1 h2 => by rw [(e_u2 a (by omega)).1, (Ec3 a (by omega)).1]; exact nn_u1 a (by omega) h2
  have o_u2 : ∀ a, 0 < a → a < 3 → zEq u1 u2 a := fun a h1 h2 => (Ec3 a (by omega)).tr (e_u2 a (by omega))
  refine zJ_aload_n dX8_init_40 rfl ?_
  refine zJ_new (ci := 5) 9 dX8_init_41 rfl (List.mem_of_getElem? (i := 319) rfl) (List.mem_of_getElem? (i := 180) rfl) (List.mem_of_getElem? (i := 144) rfl) rfl (nn_u2 9 (by decide) (by decide)) (by decide) (by simp [lv_args, znr, Value.category]) (by simp [znr]) (by decide) (by decide) ?_
  refine zJ_dup dX8_init_44 rfl ?_
  refine zJ_callI (As := []) dX8_init_45 sX8_31 mfX5_init rfl (c_Town_init Δ (znew u2 9 (.inl 5)) 9 (by decide) (by simp [znew]) (by simp [znew]; exact nn_u2 10 (by decide) (by decide)) (by simp [znew]; exact nn_u2 11 (by decide) (by decide)) (by simp [znew]; exact nn_u2 12 (by decide) (by decide)) (by simp [znew]; exact nn_u2 13 (by decide) (by decide))) (fun _ _ h => h) rfl (Or.inr ⟨rfl, by simp [zokv, znew, k_u2], by simp [lv_args, zokv, Value.category, znew, k_u2]⟩) (Nat.le_of_ble_eq_true rfl) (by decide) (by decide) (fun r c9 hP => ?_)
  obtain ⟨rfl, hFc9, -, own9⟩ := hP
  have Fc9 : zFo u2 c9 0 60 := (zFo.new (by omega)).tr (hFc9.mono (by omega) (by omega))
  have Ec9 : ∀ a, (a < 9 ∨ 13 < a) → zEq u2 c9 a := fun a h => (zFo.new (w := u2) (i := 9) (x := .inl 5) (lo := 9) (hi := 13) (by omega)).tr hFc9 a (by omega)
  refine zJ_putF dX8_init_48 rfl fX8_32 (fun q hq => by cases hq; exact ⟨(List.mem_of_getElem? (i := 545) rfl), rfl, rfl⟩) ((Ec9 0 (by omega)).1.trans k_u2) rfl (fun _ => rfl) (fun _ => rfl) (by rw [own9.1.1]; simp) ?_
  generalize hu3 : zsr c9 0 5 (some 9) = u3
  have e_u3 : ∀ a, ¬ a = 0 → zEq c9 u3 a := fun a ha => by rw [← hu3]; exact ⟨rfl, fun _ => rfl, fun _ => rfl, fun j => by simp [zsr, ha]⟩
  have F_u3 : zFo w u3 0 60 := by rw [← hu3]; exact (F_u2.tr Fc9).tr (zFo.r (by omega))
  have k_u3 : u3.1 0 = some (.inl 8) := by rw [← hu3]; exact (Ec9 0 (by omega)).1.trans k_u2
  have i_u3 : ∀ j, u3.2.1 0 j = u2.2.1 0 j := fun j => by rw [← hu3]; exact (Ec9 0 (by omega)).2.1 j
  have l_u3 : ∀ j, u3.2.2.1 0 j = u2.2.2.1 0 j := fun j => by rw [← hu3]; exact (Ec9 0 (by omega)).2.2.1 j
  have r_u3 : ∀ j, u3.2.2.2 0 j = if j = 5 then some 9 else u2.2.2.2 0 j := fun j => by rw [← hu3]; simp only [zsr, true_and]; simp only [(Ec9 0 (by omega)).2.2.2 j]
  have nn_u3 : ∀ a, 13 < a → a ≤ 60 → u3.1 a = none := fun a h1 h2 => by rw [(e_u3 a (by omega)).1, (Ec9 a (by omega)).1]; exact nn_u2 a (by omega) h2
  have o_u3 : ∀ a, 0 < a → a < 9 → zEq u2 u3 a := fun a h1 h2 => (Ec9 a (by omega)).tr (e_u3 a (by omega))
  refine zJ_aload_n dX8_init_51 rfl ?_
  refine zJ_new (ci := 5) 14 dX8_init_52 rfl (List.mem_of_getElem? (i := 319) rfl) (List.mem_of_getElem? (i := 180) rfl) (List.mem_of_getElem? (i := 144) rfl) rfl (nn_u3 14 (by decide) (by decide)) (by decide) (by simp [lv_args, znr, Value.category]) (by simp [znr]) (by decide) (by decide) ?_
  refine zJ_dup dX8_init_55 rfl ?_
  refine zJ_callI (As := []) dX8_init_56 sX8_31 mfX5_init rfl (c_Town_init Δ (znew u3 14 (.inl 5)) 14 (by decide) (by simp [znew]) (by simp [znew]; exact nn_u3 15 (by decide) (by decide)) (by simp [znew]; exact nn_u3 16 (by decide) (by decide)) (by simp [znew]; exact nn_u3 17 (by decide) (by decide)) (by simp [znew]; exact nn_u3 18 (by decide) (by decide))) (fun _ _ h => h) rfl (Or.inr ⟨rfl, by simp [zokv, znew, k_u3], by simp [lv_args, zokv, Value.category, znew, k_u3]⟩) (Nat.le_of_ble_eq_true rfl) (by decide) (by decide) (fun r c14 hP => ?_)
  obtain ⟨rfl, hFc14, -, own14⟩ := hP
  have Fc14 : zFo u3 c14 0 60 := (zFo.new (by omega)).tr (hFc14.mono (by omega) (by omega))
  have Ec14 : ∀ a, (a < 14 ∨ 18 < a) → zEq u3 c14 a := fun a h => (zFo.new (w := u3) (i := 14) (x := .inl 5) (lo := 14) (hi := 18) (by omega)).tr hFc14 a (by omega)
  refine zJ_putF dX8_init_59 rfl fX8_36 (fun q hq => by cases hq; exact ⟨(List.mem_of_getElem? (i := 546) rfl), rfl, rfl⟩) ((Ec14 0 (by omega)).1.trans k_u3) rfl (fun _ => rfl) (fun _ => rfl) (by rw [own14.1.1]; simp) ?_
  generalize hu4 : zsr c14 0 6 (some 14) = u4
  have e_u4 : ∀ a, ¬ a = 0 → zEq c14 u4 a := fun a ha => by rw [← hu4]; exact ⟨rfl, fun _ => rfl, fun _ => rfl, fun j => by simp [zsr, ha]⟩
  have F_u4 : zFo w u4 0 60 := by rw [← hu4]; exact (F_u3.tr Fc14).tr (zFo.r (by omega))
  have k_u4 : u4.1 0 = some (.inl 8) := by rw [← hu4]; exact (Ec14 0 (by omega)).1.trans k_u3
  have i_u4 : ∀ j, u4.2.1 0 j = u3.2.1 0 j := fun j => by rw [← hu4]; exact (Ec14 0 (by omega)).2.1 j
  have l_u4 : ∀ j, u4.2.2.1 0 j = u3.2.2.1 0 j := fun j => by rw [← hu4]; exact (Ec14 0 (by omega)).2.2.1 j
  have r_u4 : ∀ j, u4.2.2.2 0 j = if j = 6 then some 14 else u3.2.2.2 0 j := fun j => by rw [← hu4]; simp only [zsr, true_and]; simp only [(Ec14 0 (by omega)).2.2.2 j]
  have nn_u4 : ∀ a, 18 < a → a ≤ 60 → u4.1 a = none := fun a h1 h2 => by rw [(e_u4 a (by omega)).1, (Ec14 a (by omega)).1]; exact nn_u3 a (by omega) h2
  have o_u4 : ∀ a, 0 < a → a < 14 → zEq u3 u4 a := fun a h1 h2 => (Ec14 a (by omega)).tr (e_u4 a (by omega))
  refine zJ_aload_n dX8_init_62 rfl ?_
  refine zJ_new (ci := 1) 19 dX8_init_63 rfl (List.mem_of_getElem? (i := 321) rfl) (List.mem_of_getElem? (i := 322) rfl) (List.mem_of_getElem? (i := 146) rfl) rfl (nn_u4 19 (by decide) (by decide)) (by decide) (by simp [lv_args, znr, Value.category]) (by simp [znr]) (by decide) (by decide) ?_
  refine zJ_dup dX8_init_66 rfl ?_
  refine zJ_sipush (v := 640) dX8_init_67 (by decide) ?_
  refine zJ_sipush (v := 1024) dX8_init_70 (by decide) ?_
  refine zJ_st (st2 := [.int (nI 1024), .int (nI 640), .ref 19, .ref 19, .ref 0]) rfl ?_
  refine zJ_callI (As := [.int (nI 640), .int (nI 1024)]) dX8_init_73 sX8_41 mfX1_init rfl (c_Play_init_s Δ (znew u4 19 (.inl 1)) 19 (by decide) (by simp [znew]) (by simp [znew]) (fun a h1 h2 => by have : ¬ a = 19 := (by omega); simp [znew, this]; exact nn_u4 a (by omega) (by omega))) (fun _ _ h => h) rfl (Or.inr ⟨rfl, by simp [zokv, znew, k_u4], by simp [lv_args, zokv, Value.category, znew, k_u4]⟩) (Nat.le_of_ble_eq_true rfl) (by decide) (by decide) (fun r c19 hP => ?_)
  obtain ⟨rfl, hFc19, own19⟩ := hP
  have Fc19 : zFo u4 c19 0 60 := (zFo.new (by omega)).tr (hFc19.mono (by omega) (by omega))
  have Ec19 : ∀ a, (a < 19 ∨ 37 < a) → zEq u4 c19 a := fun a h => (zFo.new (w := u4) (i := 19) (x := .inl 1) (lo := 19) (hi := 37) (by omega)).tr hFc19 a (by omega)
  refine zJ_putF dX8_init_76 rfl fX8_44 (fun q hq => by cases hq; exact ⟨(List.mem_of_getElem? (i := 547) rfl), rfl, rfl⟩) ((Ec19 0 (by omega)).1.trans k_u4) rfl (fun _ => rfl) (fun _ => rfl) (by rw [own19.1.1]; simp) ?_
  generalize hu5 : zsr c19 0 7 (some 19) = u5
  have e_u5 : ∀ a, ¬ a = 0 → zEq c19 u5 a := fun a ha => by rw [← hu5]; exact ⟨rfl, fun _ => rfl, fun _ => rfl, fun j => by simp [zsr, ha]⟩
  have F_u5 : zFo w u5 0 60 := by rw [← hu5]; exact (F_u4.tr Fc19).tr (zFo.r (by omega))
  have k_u5 : u5.1 0 = some (.inl 8) := by rw [← hu5]; exact (Ec19 0 (by omega)).1.trans k_u4
  have i_u5 : ∀ j, u5.2.1 0 j = u4.2.1 0 j := fun j => by rw [← hu5]; exact (Ec19 0 (by omega)).2.1 j
  have l_u5 : ∀ j, u5.2.2.1 0 j = u4.2.2.1 0 j := fun j => by rw [← hu5]; exact (Ec19 0 (by omega)).2.2.1 j
  have r_u5 : ∀ j, u5.2.2.2 0 j = if j = 7 then some 19 else u4.2.2.2 0 j := fun j => by rw [← hu5]; simp only [zsr, true_and]; simp only [(Ec19 0 (by omega)).2.2.2 j]
  have nn_u5 : ∀ a, 37 < a → a ≤ 60 → u5.1 a = none := fun a h1 h2 => by rw [(e_u5 a (by omega)).1, (Ec19 a (by omega)).1]; exact nn_u4 a (by omega) h2
  have o_u5 : ∀ a, 0 < a → a < 19 → zEq u4 u5 a := fun a h1 h2 => (Ec19 a (by omega)).tr (e_u5 a (by omega))
  refine zJ_aload_n dX8_init_79 rfl ?_
  refine zJ_new (ci := 3) 38 dX8_init_80 rfl (List.mem_of_getElem? (i := 421) rfl) (List.mem_of_getElem? (i := 422) rfl) (List.mem_of_getElem? (i := 148) rfl) rfl (nn_u5 38 (by decide) (by decide)) (by decide) (by simp [lv_args, znr, Value.category]) (by simp [znr]) (by decide) (by decide) ?_
  refine zJ_dup dX8_init_83 rfl ?_
  refine zJ_callI (As := []) dX8_init_84 sX8_50 mfX3_init rfl (c_Rows_init Δ (znew u5 38 (.inl 3)) 38 (by decide) (by simp [znew]) (by simp [znew]; exact nn_u5 39 (by decide) (by decide)) (by simp [znew]; exact nn_u5 40 (by decide) (by decide)) (by simp [znew]; exact nn_u5 41 (by decide) (by decide))) (fun _ _ h => h) rfl (Or.inr ⟨rfl, by simp [zokv, znew, k_u5], by simp [lv_args, zokv, Value.category, znew, k_u5]⟩) (Nat.le_of_ble_eq_true rfl) (by decide) (by decide) (fun r c38 hP => ?_)
  obtain ⟨rfl, hxc38⟩ := hP
  have Fc38 : zFo u5 c38 0 60 := by rw [hxc38]; exact (zFo.new (by omega)).tr ((((((zFo.new (by omega)).tr (zFo.r (by omega))).tr (zFo.new (by omega))).tr (zFo.r (by omega))).tr (zFo.new (by omega))).tr (zFo.r (by omega)))
  have Ec38 : ∀ a, (a < 38 ∨ 41 < a) → zEq u5 c38 a := by rw [hxc38]; exact (zFo.new (by omega)).tr ((((((zFo.new (by omega)).tr (zFo.r (by omega))).tr (zFo.new (by omega))).tr (zFo.r (by omega))).tr (zFo.new (by omega))).tr (zFo.r (by omega)))
  have own38 : c38.1 38 = some (.inl 3) ∧ c38.1 39 = some (.inr (false, 20)) ∧ c38.1 40 = some (.inr (false, 400)) ∧ c38.1 41 = some (.inr (false, 20)) ∧ c38.2.2.2 38 0 = some 39 ∧ c38.2.2.2 38 2 = some 40 ∧ c38.2.2.2 38 3 = some 41 ∧ ∀ j, c38.2.1 38 j = 0 := by rw [hxc38]; simp [znew, zsr]
  refine zJ_putF dX8_init_87 rfl fX8_51 (fun q hq => by cases hq; exact ⟨(List.mem_of_getElem? (i := 549) rfl), rfl, rfl⟩) ((Ec38 0 (by omega)).1.trans k_u5) rfl (fun _ => rfl) (fun _ => rfl) (by rw [own38.1]; simp) ?_
  generalize hu6 : zsr c38 0 9 (some 38) = u6
  have e_u6 : ∀ a, ¬ a = 0 → zEq c38 u6 a := fun a ha => by rw [← hu6]; exact ⟨rfl, fun _ => rfl, fun _ => rfl, fun j => by simp [zsr, ha]⟩
  have F_u6 : zFo w u6 0 60 := by rw [← hu6]; exact (F_u5.tr Fc38).tr (zFo.r (by omega))
  have k_u6 : u6.1 0 = some (.inl 8) := by rw [← hu6]; exact (Ec38 0 (by omega)).1.trans k_u5
  have i_u6 : ∀ j, u6.2.1 0 j = u5.2.1 0 j := fun j => by rw [← hu6]; exact (Ec38 0 (by omega)).2.1 j
  have l_u6 : ∀ j, u6.2.2.1 0 j = u5.2.2.1 0 j := fun j => by rw [← hu6]; exact (Ec38 0 (by omega)).2.2.1 j
  have r_u6 : ∀ j, u6.2.2.2 0 j = if j = 9 then some 38 else u5.2.2.2 0 j := fun j => by rw [← hu6]; simp only [zsr, true_and]; simp only [(Ec38 0 (by omega)).2.2.2 j]
  have nn_u6 : ∀ a, 41 < a → a ≤ 60 → u6.1 a = none := fun a h1 h2 => by rw [(e_u6 a (by omega)).1, (Ec38 a (by omega)).1]; exact nn_u5 a (by omega) h2
  have o_u6 : ∀ a, 0 < a → a < 38 → zEq u5 u6 a := fun a h1 h2 => (Ec38 a (by omega)).tr (e_u6 a (by omega))
  refine zJ_aload_n dX8_init_90 rfl ?_
  refine zJ_new (ci := 0) 42 dX8_init_91 rfl (List.mem_of_getElem? (i := 449) rfl) (List.mem_of_getElem? (i := 450) rfl) (List.mem_of_getElem? (i := 149) rfl) rfl (nn_u6 42 (by decide) (by decide)) (by decide) (by simp [lv_args, znr, Value.category]) (by simp [znr]) (by decide) (by decide) ?_
  refine zJ_dup dX8_init_94 rfl ?_
  refine zJ_callI (As := []) dX8_init_95 sX8_57 mfX0_init rfl (c_Guesses_init Δ (znew u6 42 (.inl 0)) 42 (by decide) (by simp [znew]) (by simp [znew]; exact nn_u6 43 (by decide) (by decide)) (by simp [znew]; exact nn_u6 44 (by decide) (by decide)) (by simp [znew]; exact nn_u6 45 (by decide) (by decide)) (by simp [znew]; exact nn_u6 46 (by decide) (by decide))) (fun _ _ h => h) rfl (Or.inr ⟨rfl, by simp [zokv, znew, k_u6], by simp [lv_args, zokv, Value.category, znew, k_u6]⟩) (Nat.le_of_ble_eq_true rfl) (by decide) (by decide) (fun r c42 hP => ?_)
  obtain ⟨rfl, hxc42⟩ := hP
  have Fc42 : zFo u6 c42 0 60 := by rw [hxc42]; exact (zFo.new (by omega)).tr (((((((((zFo.new (by omega)).tr (zFo.r (by omega))).tr (zFo.new (by omega))).tr (zFo.r (by omega))).tr (zFo.new (by omega))).tr (zFo.r (by omega))).tr (zFo.new (by omega))).tr (zFo.r (by omega))).tr (zFo.row (by omega)))
  have Ec42 : ∀ a, (a < 42 ∨ 46 < a) → zEq u6 c42 a := by rw [hxc42]; exact (zFo.new (by omega)).tr (((((((((zFo.new (by omega)).tr (zFo.r (by omega))).tr (zFo.new (by omega))).tr (zFo.r (by omega))).tr (zFo.new (by omega))).tr (zFo.r (by omega))).tr (zFo.new (by omega))).tr (zFo.r (by omega))).tr (zFo.row (by omega)))
  have own42 : c42.1 42 = some (.inl 0) ∧ c42.1 43 = some (.inr (false, 32)) ∧ c42.1 44 = some (.inr (false, 32)) ∧ c42.1 45 = some (.inr (true, 80)) ∧ c42.1 46 = some (.inr (true, 4)) ∧ c42.2.2.2 42 0 = some 43 ∧ c42.2.2.2 42 1 = some 44 ∧ c42.2.2.2 42 3 = some 45 ∧ c42.2.2.2 42 4 = some 46 ∧ (∀ j, j < 32 → c42.2.1 43 j = -1) ∧ c42.2.1 42 2 = 0 := by rw [hxc42]; simp [znew, zsr, zrow]
  refine zJ_putF dX8_init_98 rfl fX8_58 (fun q hq => by cases hq; exact ⟨(List.mem_of_getElem? (i := 550) rfl), rfl, rfl⟩) ((Ec42 0 (by omega)).1.trans k_u6) rfl (fun _ => rfl) (fun _ => rfl) (by rw [own42.1]; simp) ?_
  generalize hu7 : zsr c42 0 10 (some 42) = u7
  have e_u7 : ∀ a, ¬ a = 0 → zEq c42 u7 a := fun a ha => by rw [← hu7]; exact ⟨rfl, fun _ => rfl, fun _ => rfl, fun j => by simp [zsr, ha]⟩
  have F_u7 : zFo w u7 0 60 := by rw [← hu7]; exact (F_u6.tr Fc42).tr (zFo.r (by omega))
  have k_u7 : u7.1 0 = some (.inl 8) := by rw [← hu7]; exact (Ec42 0 (by omega)).1.trans k_u6
  have i_u7 : ∀ j, u7.2.1 0 j = u6.2.1 0 j := fun j => by rw [← hu7]; exact (Ec42 0 (by omega)).2.1 j
  have l_u7 : ∀ j, u7.2.2.1 0 j = u6.2.2.1 0 j := fun j => by rw [← hu7]; exact (Ec42 0 (by omega)).2.2.1 j
  have r_u7 : ∀ j, u7.2.2.2 0 j = if j = 10 then some 42 else u6.2.2.2 0 j := fun j => by rw [← hu7]; simp only [zsr, true_and]; simp only [(Ec42 0 (by omega)).2.2.2 j]
  have nn_u7 : ∀ a, 46 < a → a ≤ 60 → u7.1 a = none := fun a h1 h2 => by rw [(e_u7 a (by omega)).1, (Ec42 a (by omega)).1]; exact nn_u6 a (by omega) h2
  have o_u7 : ∀ a, 0 < a → a < 42 → zEq u6 u7 a := fun a h1 h2 => (Ec42 a (by omega)).tr (e_u7 a (by omega))
  refine zJ_aload_n dX8_init_101 rfl ?_
  refine zJ_new (ci := 4) 47 dX8_init_102 rfl (List.mem_of_getElem? (i := 472) rfl) (List.mem_of_getElem? (i := 473) rfl) (List.mem_of_getElem? (i := 150) rfl) rfl (nn_u7 47 (by decide) (by decide)) (by decide) (by simp [lv_args, znr, Value.category]) (by simp [znr]) (by decide) (by decide) ?_
  refine zJ_dup dX8_init_105 rfl ?_
  refine zJ_callI (As := []) dX8_init_106 sX8_64 mfX4_init rfl (c_Theft_init Δ (znew u7 47 (.inl 4)) 47 (by decide) (by simp [znew]) (by simp [znew]; exact nn_u7 48 (by decide) (by decide)) (by simp [znew]; exact nn_u7 49 (by decide) (by decide)) (by simp [znew]; exact nn_u7 50 (by decide) (by decide))) (fun _ _ h => h) rfl (Or.inr ⟨rfl, by simp [zokv, znew, k_u7], by simp [lv_args, zokv, Value.category, znew, k_u7]⟩) (Nat.le_of_ble_eq_true rfl) (by decide) (by decide) (fun r c47 hP => ?_)
  obtain ⟨rfl, hxc47⟩ := hP
  have Fc47 : zFo u7 c47 0 60 := by rw [hxc47]; exact (zFo.new (by omega)).tr ((((((zFo.new (by omega)).tr (zFo.r (by omega))).tr (zFo.new (by omega))).tr (zFo.r (by omega))).tr (zFo.new (by omega))).tr (zFo.r (by omega)))
  have Ec47 : ∀ a, (a < 47 ∨ 50 < a) → zEq u7 c47 a := by rw [hxc47]; exact (zFo.new (by omega)).tr ((((((zFo.new (by omega)).tr (zFo.r (by omega))).tr (zFo.new (by omega))).tr (zFo.r (by omega))).tr (zFo.new (by omega))).tr (zFo.r (by omega)))
  have own47 : c47.1 47 = some (.inl 4) ∧ c47.1 48 = some (.inr (false, 30)) ∧ c47.1 49 = some (.inr (false, 30)) ∧ c47.1 50 = some (.inr (false, 8)) ∧ c47.2.2.2 47 0 = some 48 ∧ c47.2.2.2 47 1 = some 49 ∧ c47.2.2.2 47 7 = some 50 ∧ c47.2.1 47 2 = 0 := by rw [hxc47]; simp [znew, zsr]
  refine zJ_putF dX8_init_109 rfl fX8_65 (fun q hq => by cases hq; exact ⟨(List.mem_of_getElem? (i := 551) rfl), rfl, rfl⟩) ((Ec47 0 (by omega)).1.trans k_u7) rfl (fun _ => rfl) (fun _ => rfl) (by rw [own47.1]; simp) ?_
  generalize hu8 : zsr c47 0 11 (some 47) = u8
  have e_u8 : ∀ a, ¬ a = 0 → zEq c47 u8 a := fun a ha => by rw [← hu8]; exact ⟨rfl, fun _ => rfl, fun _ => rfl, fun j => by simp [zsr, ha]⟩
  have F_u8 : zFo w u8 0 60 := by rw [← hu8]; exact (F_u7.tr Fc47).tr (zFo.r (by omega))
  have k_u8 : u8.1 0 = some (.inl 8) := by rw [← hu8]; exact (Ec47 0 (by omega)).1.trans k_u7
  have i_u8 : ∀ j, u8.2.1 0 j = u7.2.1 0 j := fun j => by rw [← hu8]; exact (Ec47 0 (by omega)).2.1 j
  have l_u8 : ∀ j, u8.2.2.1 0 j = u7.2.2.1 0 j := fun j => by rw [← hu8]; exact (Ec47 0 (by omega)).2.2.1 j
  have r_u8 : ∀ j, u8.2.2.2 0 j = if j = 11 then some 47 else u7.2.2.2 0 j := fun j => by rw [← hu8]; simp only [zsr, true_and]; simp only [(Ec47 0 (by omega)).2.2.2 j]
  have nn_u8 : ∀ a, 50 < a → a ≤ 60 → u8.1 a = none := fun a h1 h2 => by rw [(e_u8 a (by omega)).1, (Ec47 a (by omega)).1]; exact nn_u7 a (by omega) h2
  have o_u8 : ∀ a, 0 < a → a < 47 → zEq u7 u8 a := fun a h1 h2 => (Ec47 a (by omega)).tr (e_u8 a (by omega))
  refine zJ_aload_n dX8_init_112 rfl ?_
  refine zJ_bipush (v := 8) dX8_init_113 (by decide) ?_
  refine zJ_newl (len := 8) 51 dX8_init_115 (by decide) rfl (by decide) rfl (nn_u8 51 (by decide) (by decide)) (by decide) (by simp [lv_args, znr, Value.category]) (by simp [znr]) (by decide) (by decide) ?_
  generalize hxc51 : znew u8 51 (.inr (true, 8)) = c51
  have Fc51 : zFo u8 c51 0 60 := by rw [← hxc51]; exact zFo.new (by omega)
  have Ec51 : ∀ a, (a < 51 ∨ 51 < a) → zEq u8 c51 a := by rw [← hxc51]; exact zFo.new (by omega)
  have own51 : c51.1 51 = some (.inr (true, 8)) := by rw [← hxc51]; simp [znew]
  refine zJ_putF dX8_init_117 rfl fX8_69 (fun q hq => by cases hq; exact ⟨(List.mem_of_getElem? (i := 552) rfl), rfl, rfl⟩) ((Ec51 0 (by omega)).1.trans k_u8) rfl (fun _ => rfl) (fun _ => rfl) (by rw [own51]; simp) ?_
  generalize hu9 : zsr c51 0 12 (some 51) = u9
  have e_u9 : ∀ a, ¬ a = 0 → zEq c51 u9 a := fun a ha => by rw [← hu9]; exact ⟨rfl, fun _ => rfl, fun _ => rfl, fun j => by simp [zsr, ha]⟩
  have F_u9 : zFo w u9 0 60 := by rw [← hu9]; exact (F_u8.tr Fc51).tr (zFo.r (by omega))
  have k_u9 : u9.1 0 = some (.inl 8) := by rw [← hu9]; exact (Ec51 0 (by omega)).1.trans k_u8
  have i_u9 : ∀ j, u9.2.1 0 j = u8.2.1 0 j := fun j => by rw [← hu9]; exact (Ec51 0 (by omega)).2.1 j
  have l_u9 : ∀ j, u9.2.2.1 0 j = u8.2.2.1 0 j := fun j => by rw [← hu9]; exact (Ec51 0 (by omega)).2.2.1 j
  have r_u9 : ∀ j, u9.2.2.2 0 j = if j = 12 then some 51 else u8.2.2.2 0 j := fun j => by rw [← hu9]; simp only [zsr, true_and]; simp only [(Ec51 0 (by omega)).2.2.2 j]
  have nn_u9 : ∀ a, 51 < a → a ≤ 60 → u9.1 a = none := fun a h1 h2 => by rw [(e_u9 a (by omega)).1, (Ec51 a (by omega)).1]; exact nn_u8 a (by omega) h2
  have o_u9 : ∀ a, 0 < a → a < 51 → zEq u8 u9 a := fun a h1 h2 => (Ec51 a (by omega)).tr (e_u9 a (by omega))
  refine zJ_aload_n dX8_init_120 rfl ?_
  refine zJ_bipush (v := 31) dX8_init_121 (by decide) ?_
  refine zJ_newl (len := 31) 52 dX8_init_123 (by decide) rfl (by decide) rfl (nn_u9 52 (by decide) (by decide)) (by decide) (by simp [lv_args, znr, Value.category]) (by simp [znr]) (by decide) (by decide) ?_
  generalize hxc52 : znew u9 52 (.inr (true, 31)) = c52
  have Fc52 : zFo u9 c52 0 60 := by rw [← hxc52]; exact zFo.new (by omega)
  have Ec52 : ∀ a, (a < 52 ∨ 52 < a) → zEq u9 c52 a := by rw [← hxc52]; exact zFo.new (by omega)
  have own52 : c52.1 52 = some (.inr (true, 31)) := by rw [← hxc52]; simp [znew]
  refine zJ_putF dX8_init_125 rfl fX8_73 (fun q hq => by cases hq; exact ⟨(List.mem_of_getElem? (i := 553) rfl), rfl, rfl⟩) ((Ec52 0 (by omega)).1.trans k_u9) rfl (fun _ => rfl) (fun _ => rfl) (by rw [own52]; simp) ?_
  generalize hu10 : zsr c52 0 13 (some 52) = u10
  have e_u10 : ∀ a, ¬ a = 0 → zEq c52 u10 a := fun a ha => by rw [← hu10]; exact ⟨rfl, fun _ => rfl, fun _ => rfl, fun j => by simp [zsr, ha]⟩
  have F_u10 : zFo w u10 0 60 := by rw [← hu10]; exact (F_u9.tr Fc52).tr (zFo.r (by omega))
  have k_u10 : u10.1 0 = some (.inl 8) := by rw [← hu10]; exact (Ec52 0 (by omega)).1.trans k_u9
  have i_u10 : ∀ j, u10.2.1 0 j = u9.2.1 0 j := fun j => by rw [← hu10]; exact (Ec52 0 (by omega)).2.1 j
  have l_u10 : ∀ j, u10.2.2.1 0 j = u9.2.2.1 0 j := fun j => by rw [← hu10]; exact (Ec52 0 (by omega)).2.2.1 j
  have r_u10 : ∀ j, u10.2.2.2 0 j = if j = 13 then some 52 else u9.2.2.2 0 j := fun j => by rw [← hu10]; simp only [zsr, true_and]; simp only [(Ec52 0 (by omega)).2.2.2 j]
  have nn_u10 : ∀ a, 52 < a → a ≤ 60 → u10.1 a = none := fun a h1 h2 => by rw [(e_u10 a (by omega)).1, (Ec52 a (by omega)).1]; exact nn_u9 a (by omega) h2
  have o_u10 : ∀ a, 0 < a → a < 52 → zEq u9 u10 a := fun a h1 h2 => (Ec52 a (by omega)).tr (e_u10 a (by omega))
  refine zJ_aload_n dX8_init_128 rfl ?_
  refine zJ_new (ci := 7) 53 dX8_init_129 rfl (List.mem_of_getElem? (i := 508) rfl) (List.mem_of_getElem? (i := 509) rfl) (List.mem_of_getElem? (i := 151) rfl) rfl (nn_u10 53 (by decide) (by decide)) (by decide) (by simp [lv_args, znr, Value.category]) (by simp [znr]) (by decide) (by decide) ?_
  refine zJ_dup dX8_init_132 rfl ?_
  refine zJ_callI (As := []) dX8_init_133 sX8_78 mfX7_init rfl (c_Weeks_init Δ (znew u10 53 (.inl 7)) 53 (by decide) (by simp [znew]) (by simp [znew]; exact nn_u10 54 (by decide) (by decide)) (by simp [znew]; exact nn_u10 55 (by decide) (by decide)) (by simp [znew]; exact nn_u10 56 (by decide) (by decide))) (fun _ _ h => h) rfl (Or.inr ⟨rfl, by simp [zokv, znew, k_u10], by simp [lv_args, zokv, Value.category, znew, k_u10]⟩) (Nat.le_of_ble_eq_true rfl) (by decide) (by decide) (fun r c53 hP => ?_)
  obtain ⟨rfl, hxc53⟩ := hP
  have Fc53 : zFo u10 c53 0 60 := by rw [hxc53]; exact (zFo.new (by omega)).tr ((((((zFo.new (by omega)).tr (zFo.r (by omega))).tr (zFo.new (by omega))).tr (zFo.r (by omega))).tr (zFo.new (by omega))).tr (zFo.r (by omega)))
  have Ec53 : ∀ a, (a < 53 ∨ 56 < a) → zEq u10 c53 a := by rw [hxc53]; exact (zFo.new (by omega)).tr ((((((zFo.new (by omega)).tr (zFo.r (by omega))).tr (zFo.new (by omega))).tr (zFo.r (by omega))).tr (zFo.new (by omega))).tr (zFo.r (by omega)))
  have own53 : c53.1 53 = some (.inl 7) ∧ c53.1 54 = some (.inr (false, 100)) ∧ c53.1 55 = some (.inr (false, 100)) ∧ c53.1 56 = some (.inr (false, 8)) ∧ c53.2.2.2 53 4 = some 54 ∧ c53.2.2.2 53 5 = some 55 ∧ c53.2.2.2 53 6 = some 56 ∧ ∀ j, c53.2.1 53 j = 0 := by rw [hxc53]; simp [znew, zsr]
  refine zJ_putF dX8_init_136 rfl fX8_79 (fun q hq => by cases hq; exact ⟨(List.mem_of_getElem? (i := 556) rfl), rfl, rfl⟩) ((Ec53 0 (by omega)).1.trans k_u10) rfl (fun _ => rfl) (fun _ => rfl) (by rw [own53.1]; simp) ?_
  generalize hu11 : zsr c53 0 16 (some 53) = u11
  have e_u11 : ∀ a, ¬ a = 0 → zEq c53 u11 a := fun a ha => by rw [← hu11]; exact ⟨rfl, fun _ => rfl, fun _ => rfl, fun j => by simp [zsr, ha]⟩
  have F_u11 : zFo w u11 0 60 := by rw [← hu11]; exact (F_u10.tr Fc53).tr (zFo.r (by omega))
  have k_u11 : u11.1 0 = some (.inl 8) := by rw [← hu11]; exact (Ec53 0 (by omega)).1.trans k_u10
  have i_u11 : ∀ j, u11.2.1 0 j = u10.2.1 0 j := fun j => by rw [← hu11]; exact (Ec53 0 (by omega)).2.1 j
  have l_u11 : ∀ j, u11.2.2.1 0 j = u10.2.2.1 0 j := fun j => by rw [← hu11]; exact (Ec53 0 (by omega)).2.2.1 j
  have r_u11 : ∀ j, u11.2.2.2 0 j = if j = 16 then some 53 else u10.2.2.2 0 j := fun j => by rw [← hu11]; simp only [zsr, true_and]; simp only [(Ec53 0 (by omega)).2.2.2 j]
  have nn_u11 : ∀ a, 56 < a → a ≤ 60 → u11.1 a = none := fun a h1 h2 => by rw [(e_u11 a (by omega)).1, (Ec53 a (by omega)).1]; exact nn_u10 a (by omega) h2
  have o_u11 : ∀ a, 0 < a → a < 53 → zEq u10 u11 a := fun a h1 h2 => (Ec53 a (by omega)).tr (e_u11 a (by omega))
  refine zJ_aload_n dX8_init_139 rfl ?_
  refine zJ_new (ci := 7) 57 dX8_init_140 rfl (List.mem_of_getElem? (i := 508) rfl) (List.mem_of_getElem? (i := 509) rfl) (List.mem_of_getElem? (i := 151) rfl) rfl (nn_u11 57 (by decide) (by decide)) (by decide) (by simp [lv_args, znr, Value.category]) (by simp [znr]) (by decide) (by decide) ?_
  refine zJ_dup dX8_init_143 rfl ?_
  refine zJ_callI (As := []) dX8_init_144 sX8_78 mfX7_init rfl (c_Weeks_init Δ (znew u11 57 (.inl 7)) 57 (by decide) (by simp [znew]) (by simp [znew]; exact nn_u11 58 (by decide) (by decide)) (by simp [znew]; exact nn_u11 59 (by decide) (by decide)) (by simp [znew]; exact nn_u11 60 (by decide) (by decide))) (fun _ _ h => h) rfl (Or.inr ⟨rfl, by simp [zokv, znew, k_u11], by simp [lv_args, zokv, Value.category, znew, k_u11]⟩) (Nat.le_of_ble_eq_true rfl) (by decide) (by decide) (fun r c57 hP => ?_)
  obtain ⟨rfl, hxc57⟩ := hP
  have Fc57 : zFo u11 c57 0 60 := by rw [hxc57]; exact (zFo.new (by omega)).tr ((((((zFo.new (by omega)).tr (zFo.r (by omega))).tr (zFo.new (by omega))).tr (zFo.r (by omega))).tr (zFo.new (by omega))).tr (zFo.r (by omega)))
  have Ec57 : ∀ a, (a < 57 ∨ 60 < a) → zEq u11 c57 a := by rw [hxc57]; exact (zFo.new (by omega)).tr ((((((zFo.new (by omega)).tr (zFo.r (by omega))).tr (zFo.new (by omega))).tr (zFo.r (by omega))).tr (zFo.new (by omega))).tr (zFo.r (by omega)))
  have own57 : c57.1 57 = some (.inl 7) ∧ c57.1 58 = some (.inr (false, 100)) ∧ c57.1 59 = some (.inr (false, 100)) ∧ c57.1 60 = some (.inr (false, 8)) ∧ c57.2.2.2 57 4 = some 58 ∧ c57.2.2.2 57 5 = some 59 ∧ c57.2.2.2 57 6 = some 60 ∧ ∀ j, c57.2.1 57 j = 0 := by rw [hxc57]; simp [znew, zsr]
  refine zJ_putF dX8_init_147 rfl fX8_83 (fun q hq => by cases hq; exact ⟨(List.mem_of_getElem? (i := 557) rfl), rfl, rfl⟩) ((Ec57 0 (by omega)).1.trans k_u11) rfl (fun _ => rfl) (fun _ => rfl) (by rw [own57.1]; simp) ?_
  generalize hu12 : zsr c57 0 17 (some 57) = u12
  have e_u12 : ∀ a, ¬ a = 0 → zEq c57 u12 a := fun a ha => by rw [← hu12]; exact ⟨rfl, fun _ => rfl, fun _ => rfl, fun j => by simp [zsr, ha]⟩
  have F_u12 : zFo w u12 0 60 := by rw [← hu12]; exact (F_u11.tr Fc57).tr (zFo.r (by omega))
  have k_u12 : u12.1 0 = some (.inl 8) := by rw [← hu12]; exact (Ec57 0 (by omega)).1.trans k_u11
  have i_u12 : ∀ j, u12.2.1 0 j = u11.2.1 0 j := fun j => by rw [← hu12]; exact (Ec57 0 (by omega)).2.1 j
  have l_u12 : ∀ j, u12.2.2.1 0 j = u11.2.2.1 0 j := fun j => by rw [← hu12]; exact (Ec57 0 (by omega)).2.2.1 j
  have r_u12 : ∀ j, u12.2.2.2 0 j = if j = 17 then some 57 else u11.2.2.2 0 j := fun j => by rw [← hu12]; simp only [zsr, true_and]; simp only [(Ec57 0 (by omega)).2.2.2 j]
  have nn_u12 : ∀ a, 60 < a → a ≤ 60 → u12.1 a = none := fun a h1 h2 => by rw [(e_u12 a (by omega)).1, (Ec57 a (by omega)).1]; exact nn_u11 a (by omega) h2
  have o_u12 : ∀ a, 0 < a → a < 57 → zEq u11 u12 a := fun a h1 h2 => (Ec57 a (by omega)).tr (e_u12 a (by omega))
  have t12 : ∀ a, zEq u12 u12 a := fun a => ⟨rfl, fun _ => rfl, fun _ => rfl, fun _ => rfl⟩
  have t11 : ∀ a, 0 < a → a < 57 → zEq u11 u12 a := fun a h1 h2 => (o_u12 a h1 h2).tr (t12 a)
  have t10 : ∀ a, 0 < a → a < 53 → zEq u10 u12 a := fun a h1 h2 => (o_u11 a h1 h2).tr (t11 a h1 (by omega))
  have t9 : ∀ a, 0 < a → a < 52 → zEq u9 u12 a := fun a h1 h2 => (o_u10 a h1 h2).tr (t10 a h1 (by omega))
  have t8 : ∀ a, 0 < a → a < 51 → zEq u8 u12 a := fun a h1 h2 => (o_u9 a h1 h2).tr (t9 a h1 (by omega))
  have t7 : ∀ a, 0 < a → a < 47 → zEq u7 u12 a := fun a h1 h2 => (o_u8 a h1 h2).tr (t8 a h1 (by omega))
  have t6 : ∀ a, 0 < a → a < 42 → zEq u6 u12 a := fun a h1 h2 => (o_u7 a h1 h2).tr (t7 a h1 (by omega))
  have t5 : ∀ a, 0 < a → a < 38 → zEq u5 u12 a := fun a h1 h2 => (o_u6 a h1 h2).tr (t6 a h1 (by omega))
  have t4 : ∀ a, 0 < a → a < 19 → zEq u4 u12 a := fun a h1 h2 => (o_u5 a h1 h2).tr (t5 a h1 (by omega))
  have t3 : ∀ a, 0 < a → a < 14 → zEq u3 u12 a := fun a h1 h2 => (o_u4 a h1 h2).tr (t4 a h1 (by omega))
  have t2 : ∀ a, 0 < a → a < 9 → zEq u2 u12 a := fun a h1 h2 => (o_u3 a h1 h2).tr (t3 a h1 (by omega))
  have t1 : ∀ a, 0 < a → a < 3 → zEq u1 u12 a := fun a h1 h2 => (o_u2 a h1 h2).tr (t2 a h1 (by omega))
  have T3 : ∀ a, 3 ≤ a → a ≤ 8 → zEq c3 u12 a := fun a h1 h2 => (e_u2 a (by omega)).tr (t2 a (by omega) (by omega))
  have T9 : ∀ a, 9 ≤ a → a ≤ 13 → zEq c9 u12 a := fun a h1 h2 => (e_u3 a (by omega)).tr (t3 a (by omega) (by omega))
  have T14 : ∀ a, 14 ≤ a → a ≤ 18 → zEq c14 u12 a := fun a h1 h2 => (e_u4 a (by omega)).tr (t4 a (by omega) (by omega))
  have T19 : ∀ a, 19 ≤ a → a ≤ 37 → zEq c19 u12 a := fun a h1 h2 => (e_u5 a (by omega)).tr (t5 a (by omega) (by omega))
  have T38 : ∀ a, 38 ≤ a → a ≤ 41 → zEq c38 u12 a := fun a h1 h2 => (e_u6 a (by omega)).tr (t6 a (by omega) (by omega))
  have T42 : ∀ a, 42 ≤ a → a ≤ 46 → zEq c42 u12 a := fun a h1 h2 => (e_u7 a (by omega)).tr (t7 a (by omega) (by omega))
  have T47 : ∀ a, 47 ≤ a → a ≤ 50 → zEq c47 u12 a := fun a h1 h2 => (e_u8 a (by omega)).tr (t8 a (by omega) (by omega))
  have T51 : ∀ a, 51 ≤ a → a ≤ 51 → zEq c51 u12 a := fun a h1 h2 => (e_u9 a (by omega)).tr (t9 a (by omega) (by omega))
  have T52 : ∀ a, 52 ≤ a → a ≤ 52 → zEq c52 u12 a := fun a h1 h2 => (e_u10 a (by omega)).tr (t10 a (by omega) (by omega))
  have T53 : ∀ a, 53 ≤ a → a ≤ 56 → zEq c53 u12 a := fun a h1 h2 => (e_u11 a (by omega)).tr (t11 a (by omega) (by omega))
  have T57 : ∀ a, 57 ≤ a → a ≤ 60 → zEq c57 u12 a := fun a h1 h2 => (e_u12 a (by omega)).tr (t12 a)
  have r12 : ∀ j, u12.2.2.2 0 j = if j = 17 then some 57 else if j = 16 then some 53 else if j = 13 then some 52 else if j = 12 then some 51 else if j = 11 then some 47 else if j = 10 then some 42 else if j = 9 then some 38 else if j = 7 then some 19 else if j = 6 then some 14 else if j = 5 then some 9 else if j = 4 then some 3 else if j = 3 then some 2 else if j = 0 then some 1 else none := fun j => by rw [r_u12, r_u11, r_u10, r_u9, r_u8, r_u7, r_u6, r_u5, r_u4, r_u3, r_u2, r_u1]
  have i12 : ∀ j, u12.2.1 0 j = if j = 2 then -1 else 0 := fun j => by rw [i_u12, i_u11, i_u10, i_u9, i_u8, i_u7, i_u6, i_u5, i_u4, i_u3, i_u2, i_u1]
  have l12 : ∀ j, u12.2.2.1 0 j = 0 := fun j => by rw [l_u12, l_u11, l_u10, l_u9, l_u8, l_u7, l_u6, l_u5, l_u4, l_u3, l_u2, l_u1]
  have tn4 : zTn u12 4 := own3.2.2.2.eq (fun a h1 h2 => T3 a (by omega) (by omega))
  have tn9 : zTn u12 9 := own9.1.eq (fun a h1 h2 => T9 a (by omega) (by omega))
  have tn14 : zTn u12 14 := own14.1.eq (fun a h1 h2 => T14 a (by omega) (by omega))
  have tn20 : zTn u12 20 := own19.2.1.eq (fun a h1 h2 => T19 a (by omega) (by omega))
  have ps19 : zPs u12 19 640 10 := own19.1.eq (fun a h1 h2 => T19 a (by omega) (by omega))
  have hCs : zCs u12 := by
    have ps := ps19
    obtain ⟨p0, q0, q1, q2, q3, q4, q5, q6, q7, q8, q9, s11, s12, s13, s14, s15, s16, s17, s18, hSw⟩ := ps
    obtain ⟨g0, r1, r2, r3, r4, g1, g2, g3, g4, -⟩ := hSw
    obtain ⟨y0, y1, y2, y3, y4, y5, y6, y7, y8⟩ := tn4
    obtain ⟨v0, v1, v2, v3, v4, v5, v6, v7, v8⟩ := tn9
    obtain ⟨x0, x1, x2, x3, x4, x5, x6, x7, x8⟩ := tn14
    obtain ⟨b0, b1, b2, b3, b4, b5, b6, b7, b8⟩ := tn20
    have z : ∀ a c d : Nat, True := fun _ _ _ => trivial
    refine zCs_of (fun i hi => ?_) (fun q hq => ?_)
    · match i, hi with
      | 0, _ => exact k_u12
      | 1, _ => exact (t1 1 (by decide) (by decide)).1.trans own1.1
      | 2, _ => exact (t1 2 (by decide) (by decide)).1.trans own1.2.1
      | 3, _ => exact (T3 3 (by decide) (by decide)).1.trans own3.1
      | 4, _ => exact y0
      | 5, _ => exact y5
      | 6, _ => exact y6
      | 7, _ => exact y7
      | 8, _ => exact y8
      | 9, _ => exact v0
      | 10, _ => exact v5
      | 11, _ => exact v6
      | 12, _ => exact v7
      | 13, _ => exact v8
      | 14, _ => exact x0
      | 15, _ => exact x5
      | 16, _ => exact x6
      | 17, _ => exact x7
      | 18, _ => exact x8
      | 19, _ => exact p0
      | 20, _ => exact b0
      | 21, _ => exact b5
      | 22, _ => exact b6
      | 23, _ => exact b7
      | 24, _ => exact b8
      | 25, _ => exact g0
      | 26, _ => exact g1
      | 27, _ => exact g2
      | 28, _ => exact g3
      | 29, _ => exact g4
      | 30, _ => exact s11
      | 31, _ => exact s12
      | 32, _ => exact s13
      | 33, _ => exact s14
      | 34, _ => exact s15
      | 35, _ => exact s16
      | 36, _ => exact s17
      | 37, _ => exact s18
      | 38, _ => exact (T38 38 (by decide) (by decide)).1.trans own38.1
      | 39, _ => exact (T38 39 (by decide) (by decide)).1.trans own38.2.1
      | 40, _ => exact (T38 40 (by decide) (by decide)).1.trans own38.2.2.1
      | 41, _ => exact (T38 41 (by decide) (by decide)).1.trans own38.2.2.2.1
      | 42, _ => exact (T42 42 (by decide) (by decide)).1.trans own42.1
      | 43, _ => exact (T42 43 (by decide) (by decide)).1.trans own42.2.1
      | 44, _ => exact (T42 44 (by decide) (by decide)).1.trans own42.2.2.1
      | 45, _ => exact (T42 45 (by decide) (by decide)).1.trans own42.2.2.2.1
      | 46, _ => exact (T42 46 (by decide) (by decide)).1.trans own42.2.2.2.2.1
      | 47, _ => exact (T47 47 (by decide) (by decide)).1.trans own47.1
      | 48, _ => exact (T47 48 (by decide) (by decide)).1.trans own47.2.1
      | 49, _ => exact (T47 49 (by decide) (by decide)).1.trans own47.2.2.1
      | 50, _ => exact (T47 50 (by decide) (by decide)).1.trans own47.2.2.2.1
      | 51, _ => exact (T51 51 (by decide) (by decide)).1.trans own51
      | 52, _ => exact (T52 52 (by decide) (by decide)).1.trans own52
      | 53, _ => exact (T53 53 (by decide) (by decide)).1.trans own53.1
      | 54, _ => exact (T53 54 (by decide) (by decide)).1.trans own53.2.1
      | 55, _ => exact (T53 55 (by decide) (by decide)).1.trans own53.2.2.1
      | 56, _ => exact (T53 56 (by decide) (by decide)).1.trans own53.2.2.2.1
      | 57, _ => exact (T57 57 (by decide) (by decide)).1.trans own57.1
      | 58, _ => exact (T57 58 (by decide) (by decide)).1.trans own57.2.1
      | 59, _ => exact (T57 59 (by decide) (by decide)).1.trans own57.2.2.1
      | 60, _ => exact (T57 60 (by decide) (by decide)).1.trans own57.2.2.2.1
      | n + 61, hi => exact absurd hi (by omega)
    · have hl : zRf = [(0, 0, (zRC 0 0).getD 0), (0, 3, (zRC 0 3).getD 0), (0, 4, (zRC 0 4).getD 0), (0, 5, (zRC 0 5).getD 0), (0, 6, (zRC 0 6).getD 0), (0, 7, (zRC 0 7).getD 0), (0, 9, (zRC 0 9).getD 0), (0, 10, (zRC 0 10).getD 0), (0, 11, (zRC 0 11).getD 0), (0, 12, (zRC 0 12).getD 0), (0, 13, (zRC 0 13).getD 0), (0, 16, (zRC 0 16).getD 0), (0, 17, (zRC 0 17).getD 0), (3, 0, (zRC 3 0).getD 0), (3, 1, (zRC 3 1).getD 0), (4, 1, (zRC 4 1).getD 0), (4, 2, (zRC 4 2).getD 0), (4, 3, (zRC 4 3).getD 0), (4, 4, (zRC 4 4).getD 0), (9, 1, (zRC 9 1).getD 0), (9, 2, (zRC 9 2).getD 0), (9, 3, (zRC 9 3).getD 0), (9, 4, (zRC 9 4).getD 0), (14, 1, (zRC 14 1).getD 0), (14, 2, (zRC 14 2).getD 0), (14, 3, (zRC 14 3).getD 0), (14, 4, (zRC 14 4).getD 0), (19, 0, (zRC 19 0).getD 0), (19, 1, (zRC 19 1).getD 0), (19, 2, (zRC 19 2).getD 0), (19, 3, (zRC 19 3).getD 0), (19, 4, (zRC 19 4).getD 0), (19, 5, (zRC 19 5).getD 0), (19, 6, (zRC 19 6).getD 0), (19, 7, (zRC 19 7).getD 0), (19, 8, (zRC 19 8).getD 0), (19, 9, (zRC 19 9).getD 0), (20, 1, (zRC 20 1).getD 0), (20, 2, (zRC 20 2).getD 0), (20, 3, (zRC 20 3).getD 0), (20, 4, (zRC 20 4).getD 0), (25, 1, (zRC 25 1).getD 0), (25, 2, (zRC 25 2).getD 0), (25, 3, (zRC 25 3).getD 0), (25, 4, (zRC 25 4).getD 0), (38, 0, (zRC 38 0).getD 0), (38, 2, (zRC 38 2).getD 0), (38, 3, (zRC 38 3).getD 0), (42, 0, (zRC 42 0).getD 0), (42, 1, (zRC 42 1).getD 0), (42, 3, (zRC 42 3).getD 0), (42, 4, (zRC 42 4).getD 0), (47, 0, (zRC 47 0).getD 0), (47, 1, (zRC 47 1).getD 0), (47, 7, (zRC 47 7).getD 0), (53, 4, (zRC 53 4).getD 0), (53, 5, (zRC 53 5).getD 0), (53, 6, (zRC 53 6).getD 0), (57, 4, (zRC 57 4).getD 0), (57, 5, (zRC 57 5).getD 0), (57, 6, (zRC 57 6).getD 0)] := by decide +kernel
      rw [hl] at hq
      simp only [List.mem_cons, List.not_mem_nil, or_false] at hq
      rcases hq with rfl | rfl | rfl | rfl | rfl | rfl | rfl | rfl | rfl | rfl | rfl | rfl | rfl | rfl | rfl | rfl | rfl | rfl | rfl | rfl | rfl | rfl | rfl | rfl | rfl | rfl | rfl | rfl | rfl | rfl | rfl | rfl | rfl | rfl | rfl | rfl | rfl | rfl | rfl | rfl | rfl | rfl | rfl | rfl | rfl | rfl | rfl | rfl | rfl | rfl | rfl | rfl | rfl | rfl | rfl | rfl | rfl | rfl | rfl | rfl | rfl
      · exact (r12 0).trans rfl
      · exact (r12 3).trans rfl
      · exact (r12 4).trans rfl
      · exact (r12 5).trans rfl
      · exact (r12 6).trans rfl
      · exact (r12 7).trans rfl
      · exact (r12 9).trans rfl
      · exact (r12 10).trans rfl
      · exact (r12 11).trans rfl
      · exact (r12 12).trans rfl
      · exact (r12 13).trans rfl
      · exact (r12 16).trans rfl
      · exact (r12 17).trans rfl
      · exact ((T3 3 (by decide) (by decide)).2.2.2 0).trans own3.2.1
      · exact ((T3 3 (by decide) (by decide)).2.2.2 1).trans own3.2.2.1
      · exact y1
      · exact y2
      · exact y3
      · exact y4
      · exact v1
      · exact v2
      · exact v3
      · exact v4
      · exact x1
      · exact x2
      · exact x3
      · exact x4
      · exact q0
      · exact q1
      · exact q2
      · exact q3
      · exact q4
      · exact q5
      · exact q6
      · exact q7
      · exact q8
      · exact q9
      · exact b1
      · exact b2
      · exact b3
      · exact b4
      · exact r1
      · exact r2
      · exact r3
      · exact r4
      · exact ((T38 38 (by decide) (by decide)).2.2.2 0).trans own38.2.2.2.2.1
      · exact ((T38 38 (by decide) (by decide)).2.2.2 2).trans own38.2.2.2.2.2.1
      · exact ((T38 38 (by decide) (by decide)).2.2.2 3).trans own38.2.2.2.2.2.2.1
      · exact ((T42 42 (by decide) (by decide)).2.2.2 0).trans own42.2.2.2.2.2.1
      · exact ((T42 42 (by decide) (by decide)).2.2.2 1).trans own42.2.2.2.2.2.2.1
      · exact ((T42 42 (by decide) (by decide)).2.2.2 3).trans own42.2.2.2.2.2.2.2.1
      · exact ((T42 42 (by decide) (by decide)).2.2.2 4).trans own42.2.2.2.2.2.2.2.2.1
      · exact ((T47 47 (by decide) (by decide)).2.2.2 0).trans own47.2.2.2.2.1
      · exact ((T47 47 (by decide) (by decide)).2.2.2 1).trans own47.2.2.2.2.2.1
      · exact ((T47 47 (by decide) (by decide)).2.2.2 7).trans own47.2.2.2.2.2.2.1
      · exact ((T53 53 (by decide) (by decide)).2.2.2 4).trans own53.2.2.2.2.1
      · exact ((T53 53 (by decide) (by decide)).2.2.2 5).trans own53.2.2.2.2.2.1
      · exact ((T53 53 (by decide) (by decide)).2.2.2 6).trans own53.2.2.2.2.2.2.1
      · exact ((T57 57 (by decide) (by decide)).2.2.2 4).trans own57.2.2.2.2.1
      · exact ((T57 57 (by decide) (by decide)).2.2.2 5).trans own57.2.2.2.2.2.1
      · exact ((T57 57 (by decide) (by decide)).2.2.2 6).trans own57.2.2.2.2.2.2.1
  refine zJ_vret dX8_init_150 rfl (by decide) (by decide) ⟨rfl, F_u12, hCs, fun j => ?_, ?_, ?_, fun j => ?_, ?_, tn14, ps19, tn20, ?_, ?_, fun j => ?_, fun j hj => ?_, ?_, ?_, fun j => ?_, fun j => ?_, l12 14, ?_, ?_⟩
  · exact ((t1 1 (by decide) (by decide)).2.1 j).trans (own1.2.2.1 j)
  · exact (i12 1).trans rfl
  · exact (i12 2).trans rfl
  · exact ((t1 2 (by decide) (by decide)).2.1 j).trans (own1.2.2.2 j)
  · exact own9.eq tn9 (fun a j ha => (T9 (9 + a) (by omega) (by omega)).2.1 j)
  · exact ((T19 19 (by decide) (by decide)).2.1 11).trans own19.2.2.1
  · exact ((T19 25 (by decide) (by decide)).2.1 6).trans own19.2.2.2
  · exact ((T38 38 (by decide) (by decide)).2.1 j).trans (own38.2.2.2.2.2.2.2 j)
  · exact ((T42 43 (by decide) (by decide)).2.1 j).trans (own42.2.2.2.2.2.2.2.2.2.1 j hj)
  · exact ((T42 42 (by decide) (by decide)).2.1 2).trans own42.2.2.2.2.2.2.2.2.2.2
  · exact ((T47 47 (by decide) (by decide)).2.1 2).trans own47.2.2.2.2.2.2.2
  · exact ((T53 53 (by decide) (by decide)).2.1 j).trans (own53.2.2.2.2.2.2.2 j)
  · exact ((T57 57 (by decide) (by decide)).2.1 j).trans (own57.2.2.2.2.2.2.2 j)
  · exact (i12 15).trans rfl
  · exact (r12 8).trans rfl
