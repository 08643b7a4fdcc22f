/-! the constructor of the model -/
def zMi (w u : zW) (D : List Nat) (f : Nat → Int32) : Prop := u.1 100 = some (.inl 9) ∧ (∀ k ∈ D, u.1 (100 + k) = zSM k ∧ u.2.2.2 100 k = some (100 + k) ∧ (k ≠ 62 → ∀ j, u.2.1 (100 + k) j = 0) ∧ ∀ j, u.2.2.1 (100 + k) j = 0) ∧ (∀ k, 0 < k → k ≤ 87 → k ∉ D → u.1 (100 + k) = none) ∧ zFo w u 100 187 ∧ (∀ j, u.2.1 100 j = f j) ∧ ∀ j, u.2.2.1 100 j = 0
theorem zMi.i {w u : zW} {D : List Nat} {f : Nat → Int32} (h : zMi w u D f) (hD : 0 ∉ D) (k : Nat) (x : Int32) : zMi w (zsi u 100 k x) D (fun j => if j = k then x else f j) := by
  obtain ⟨h1, h2, h3, h4, h5, h6⟩ := h
  refine ⟨h1, fun q hq => ?_, h3, h4.tr (zFo.i (by omega)), fun j => ?_, h6⟩
  · have hq0 : ¬ q = 0 := fun e => hD (e ▸ hq)
    have h9 : ¬ 100 + q = 100 := by omega
    obtain ⟨a1, a2, a3, a4⟩ := h2 q hq
    exact ⟨a1, a2, fun hn j => (zsi_o h9).trans (a3 hn j), a4⟩
  · by_cases hj : j = k <;> simp [zsi, hj, h5]
theorem zMi.r {w u c : zW} {D : List Nat} {f : Nat → Int32} (h : zMi w u D f) (hD : 0 ∉ D) {k : Nat} (hk : 0 < k ∧ k ≤ 87) (hkD : k ∉ D) (hx : (zSM k).isSome = true) (hc : ∀ a, a ≠ 100 + k → zEq u c a) (hs : c.1 (100 + k) = zSM k) (hi : k ≠ 62 → ∀ j, c.2.1 (100 + k) j = 0) (hl : ∀ j, c.2.2.1 (100 + k) j = 0) : zMi w (zsr c 100 k (some (100 + k))) (k :: D) f := by
  obtain ⟨h1, h2, h3, h4, h5, h6⟩ := h
  have e0 := hc 100 (by omega)
  refine ⟨e0.1.trans h1, fun q hq => ?_, fun q a b hq => ?_, ?_, fun j => (e0.2.1 j).trans (h5 j), fun j => (e0.2.2.1 j).trans (h6 j)⟩
  · rcases List.mem_cons.mp hq with rfl | hq
    · exact ⟨hs, by simp [zsr], hi, hl⟩
    · have hne : ¬ q = k := fun e => hkD (e ▸ hq)
      have eq := hc (100 + q) (by omega)
      obtain ⟨a1, a2, a3, a4⟩ := h2 q hq
      refine ⟨eq.1.trans a1, ?_, fun hn j => (eq.2.1 j).trans (a3 hn j), fun j => (eq.2.2.1 j).trans (a4 j)⟩
      simp [zsr, hne]; exact (e0.2.2.2 q).trans a2
  · have hne : ¬ q = k := fun e => hq (e ▸ List.mem_cons_self)
    exact (hc (100 + q) (by omega)).1.trans (h3 q a b (fun h => hq (List.mem_cons_of_mem _ h)))
  · refine h4.tr (fun a ha => ?_)
    have e := hc a (by omega)
    have hne : ¬ a = 100 := by omega
    exact ⟨e.1, e.2.1, e.2.2.1, fun j => by simp [zsr, hne]; exact e.2.2.2 j⟩
theorem zEq_new {w : zW} {i : Nat} {x : Nat ⊕ (Bool × Nat)} : ∀ a, a ≠ i → zEq w (znew w i x) a := fun a ha => by simp [zEq, znew, ha]
theorem zgs_step {u : zW} (t : Nat) : zsi (zrow u 162 (fun j => if j < t then -1 else 0)) 162 t (-1) = zrow u 162 (fun j => if j < t + 1 then -1 else 0) := by
  rw [zsi_row, zrow_row]
  refine congrArg (zrow u 162) (funext fun j => ?_)
  by_cases h : j = t
  · subst h; simp [zrow]
  · have : (j < t + 1) = (j < t) := by simp only [eq_iff_iff]; omega
    simp [zrow, h, this]
theorem zgs_0 {u : zW} (h : ∀ j, u.2.1 162 j = 0) : u = zrow u 162 (fun j => if j < 0 then -1 else 0) := by
  refine Prod.ext rfl (Prod.ext (funext fun a => funext fun j => ?_) rfl)
  by_cases ha : a = 162
  · subst ha; simp [zrow, h]
  · simp [zrow, ha]
/-- a model as it is made -/
def zM0 (c : zW) : Prop := zMs c ∧ (∀ j, c.2.1 100 j = if j = 3 ∨ j = 4 ∨ j = 9 then 1 else if j = 5 then 8 else if j = 16 then -1 else 0) ∧ (∀ j, c.2.2.1 100 j = 0) ∧ (∀ k, 0 < k → k ≤ 87 → (zSM k).isSome = true → (k ≠ 62 → ∀ j, c.2.1 (100 + k) j = 0) ∧ ∀ j, c.2.2.1 (100 + k) j = 0) ∧ ∀ j, j < 32 → c.2.1 162 j = -1
theorem zm_ints (j : Nat) : (fun j => if j = 16 then (-1) else (fun j => if j = 9 then 1 else (fun j => if j = 5 then 8 else (fun j => if j = 4 then 1 else (fun j => if j = 3 then 1 else (fun _ => 0) j) j) j) j) j) j = if j = 3 ∨ j = 4 ∨ j = 9 then 1 else if j = 5 then 8 else if j = 16 then -1 else (0 : Int32) := by
  by_cases h3 : j = 3
  · subst h3; rfl
  · by_cases h4 : j = 4
    · subst h4; rfl
    · by_cases h9 : j = 9
      · subst h9; rfl
      · by_cases h5 : j = 5
        · subst h5; rfl
        · by_cases h16 : j = 16
          · subst h16; rfl
          · simp [h3, h4, h9, h5, h16]
set_option maxRecDepth 100000 in
theorem c_Model_init (Δ : zD) (w : zW) (hk : w.1 100 = some (.inl 9)) (hz1 : ∀ j, w.2.1 100 j = 0) (hz2 : ∀ j, w.2.2.1 100 j = 0) (hno : ∀ a, 100 < a → a ≤ 187 → w.1 a = none) : zMn Δ 1 47 567861 yX9_init mX9_init [.ref 100] w (fun r c => r = none ∧ zFo w c 100 187 ∧ zM0 c) := by
  refine zM.of mfX9_init (Nat.le_of_ble_eq_true rfl) ?_
  have I0 : zMi w w [] (fun _ => 0) := ⟨hk, fun k h => absurd h (by simp), fun k a b _ => hno _ (by omega) (by omega), zFo.rf w 100 187, hz1, hz2⟩
  refine zJ_aload_n dX9_init_0 rfl ?_
  refine zJ_obj dX9_init_1 (List.mem_of_getElem? (i := 1429) rfl) (by decide) (by decide) ?_
  refine zJ_aload_n dX9_init_4 rfl ?_
  refine zJ_iconst (v := 1) dX9_init_5 (by decide) ?_
  refine zJ_puti dX9_init_6 fX9_7 (fun q h => by cases h; rfl) I0.1 rfl rfl rfl ?_
  have I1 := I0.i (by decide) 3 (1)
  generalize zsi w 100 3 (1) = u1 at I1 ⊢
  refine zJ_aload_n dX9_init_9 rfl ?_
  refine zJ_iconst (v := 1) dX9_init_10 (by decide) ?_
  refine zJ_puti dX9_init_11 fX9_13 (fun q h => by cases h; rfl) I1.1 rfl rfl rfl ?_
  have I2 := I1.i (by decide) 4 (1)
  generalize zsi u1 100 4 (1) = u2 at I2 ⊢
  refine zJ_aload_n dX9_init_14 rfl ?_
  refine zJ_bipush (v := 8) dX9_init_15 (by decide) ?_
  refine zJ_puti dX9_init_17 fX9_16 (fun q h => by cases h; rfl) I2.1 rfl rfl rfl ?_
  have I3 := I2.i (by decide) 5 (8)
  generalize zsi u2 100 5 (8) = u3 at I3 ⊢
  refine zJ_aload_n dX9_init_20 rfl ?_
  refine zJ_iconst (v := 1) dX9_init_21 (by decide) ?_
  refine zJ_puti dX9_init_22 fX9_19 (fun q h => by cases h; rfl) I3.1 rfl rfl rfl ?_
  have I4 := I3.i (by decide) 9 (1)
  generalize zsi u3 100 9 (1) = u4 at I4 ⊢
  refine zJ_aload_n dX9_init_25 rfl ?_
  refine zJ_bipush (v := 8) dX9_init_26 (by decide) ?_
  refine zJ_newi (len := 8) 110 dX9_init_28 (by decide) rfl (by decide) rfl (I4.2.2.1 10 (by decide) (by decide) (by decide)) (by decide) (by simp [lv_args, znr, Value.category]) (by simp [znr]) (by decide) (by decide) ?_
  refine zJ_putF dX9_init_30 rfl fX9_22 (fun q hq => by cases hq; exact ⟨(List.mem_of_getElem? (i := 1442) rfl), rfl, rfl⟩) (by simp [znew, zrow, I4.1]) rfl (fun _ => rfl) (fun _ => rfl) (by simp [znew, zrow]) ?_
  have I5 := I4.r (c := (znew u4 110 (.inr (false, 8)))) (k := 10) (by decide) (by decide) (by decide) rfl zEq_new (by simp [znew]; rfl) (fun _ j => by simp [znew]) (fun j => by simp [znew])
  generalize zsr (znew u4 110 (.inr (false, 8))) 100 10 (some (100 + 10)) = u5 at I5 ⊢
  refine zJ_aload_n dX9_init_33 rfl ?_
  refine zJ_bipush (v := 8) dX9_init_34 (by decide) ?_
  refine zJ_newi (len := 8) 111 dX9_init_36 (by decide) rfl (by decide) rfl (I5.2.2.1 11 (by decide) (by decide) (by decide)) (by decide) (by simp [lv_args, znr, Value.category]) (by simp [znr]) (by decide) (by decide) ?_
  refine zJ_putF dX9_init_38 rfl fX9_26 (fun q hq => by cases hq; exact ⟨(List.mem_of_getElem? (i := 1443) rfl), rfl, rfl⟩) (by simp [znew, zrow, I5.1]) rfl (fun _ => rfl) (fun _ => rfl) (by simp [znew, zrow]) ?_
  have I6 := I5.r (c := (znew u5 111 (.inr (false, 8)))) (k := 11) (by decide) (by decide) (by decide) rfl zEq_new (by simp [znew]; rfl) (fun _ j => by simp [znew]) (fun j => by simp [znew])
  generalize zsr (znew u5 111 (.inr (false, 8))) 100 11 (some (100 + 11)) = u6 at I6 ⊢
  refine zJ_aload_n dX9_init_41 rfl ?_
  refine zJ_bipush (v := 64) dX9_init_42 (by decide) ?_
  refine zJ_newi (len := 64) 112 dX9_init_44 (by decide) rfl (by decide) rfl (I6.2.2.1 12 (by decide) (by decide) (by decide)) (by decide) (by simp [lv_args, znr, Value.category]) (by simp [znr]) (by decide) (by decide) ?_
  refine zJ_putF dX9_init_46 rfl fX9_29 (fun q hq => by cases hq; exact ⟨(List.mem_of_getElem? (i := 1444) rfl), rfl, rfl⟩) (by simp [znew, zrow, I6.1]) rfl (fun _ => rfl) (fun _ => rfl) (by simp [znew, zrow]) ?_
  have I7 := I6.r (c := (znew u6 112 (.inr (false, 64)))) (k := 12) (by decide) (by decide) (by decide) rfl zEq_new (by simp [znew]; rfl) (fun _ j => by simp [znew]) (fun j => by simp [znew])
  generalize zsr (znew u6 112 (.inr (false, 64))) 100 12 (some (100 + 12)) = u7 at I7 ⊢
  refine zJ_aload_n dX9_init_49 rfl ?_
  refine zJ_sipush (v := 700) dX9_init_50 (by decide) ?_
  refine zJ_newi (len := 700) 113 dX9_init_53 (by decide) rfl (by decide) rfl (I7.2.2.1 13 (by decide) (by decide) (by decide)) (by decide) (by simp [lv_args, znr, Value.category]) (by simp [znr]) (by decide) (by decide) ?_
  refine zJ_putF dX9_init_55 rfl fX9_32 (fun q hq => by cases hq; exact ⟨(List.mem_of_getElem? (i := 1445) rfl), rfl, rfl⟩) (by simp [znew, zrow, I7.1]) rfl (fun _ => rfl) (fun _ => rfl) (by simp [znew, zrow]) ?_
  have I8 := I7.r (c := (znew u7 113 (.inr (false, 700)))) (k := 13) (by decide) (by decide) (by decide) rfl zEq_new (by simp [znew]; rfl) (fun _ j => by simp [znew]) (fun j => by simp [znew])
  generalize zsr (znew u7 113 (.inr (false, 700))) 100 13 (some (100 + 13)) = u8 at I8 ⊢
  refine zJ_aload_n dX9_init_58 rfl ?_
  refine zJ_iconst (v := (-1)) dX9_init_59 (by decide) ?_
  refine zJ_puti dX9_init_60 fX9_35 (fun q h => by cases h; rfl) I8.1 rfl rfl rfl ?_
  have I9 := I8.i (by decide) 16 (-1)
  generalize zsi u8 100 16 (-1) = u9 at I9 ⊢
  refine zJ_aload_n dX9_init_63 rfl ?_
  refine zJ_iconst (v := 3) dX9_init_64 (by decide) ?_
  refine zJ_newi (len := 3) 117 dX9_init_65 (by decide) rfl (by decide) rfl (I9.2.2.1 17 (by decide) (by decide) (by decide)) (by decide) (by simp [lv_args, znr, Value.category]) (by simp [znr]) (by decide) (by decide) ?_
  refine zJ_putF dX9_init_67 rfl fX9_38 (fun q hq => by cases hq; exact ⟨(List.mem_of_getElem? (i := 1449) rfl), rfl, rfl⟩) (by simp [znew, zrow, I9.1]) rfl (fun _ => rfl) (fun _ => rfl) (by simp [znew, zrow]) ?_
  have I10 := I9.r (c := (znew u9 117 (.inr (false, 3)))) (k := 17) (by decide) (by decide) (by decide) rfl zEq_new (by simp [znew]; rfl) (fun _ j => by simp [znew]) (fun j => by simp [znew])
  generalize zsr (znew u9 117 (.inr (false, 3))) 100 17 (some (100 + 17)) = u10 at I10 ⊢
  refine zJ_aload_n dX9_init_70 rfl ?_
  refine zJ_bipush (v := 8) dX9_init_71 (by decide) ?_
  refine zJ_newi (len := 8) 135 dX9_init_73 (by decide) rfl (by decide) rfl (I10.2.2.1 35 (by decide) (by decide) (by decide)) (by decide) (by simp [lv_args, znr, Value.category]) (by simp [znr]) (by decide) (by decide) ?_
  refine zJ_putF dX9_init_75 rfl fX9_41 (fun q hq => by cases hq; exact ⟨(List.mem_of_getElem? (i := 1467) rfl), rfl, rfl⟩) (by simp [znew, zrow, I10.1]) rfl (fun _ => rfl) (fun _ => rfl) (by simp [znew, zrow]) ?_
  have I11 := I10.r (c := (znew u10 135 (.inr (false, 8)))) (k := 35) (by decide) (by decide) (by decide) rfl zEq_new (by simp [znew]; rfl) (fun _ j => by simp [znew]) (fun j => by simp [znew])
  generalize zsr (znew u10 135 (.inr (false, 8))) 100 35 (some (100 + 35)) = u11 at I11 ⊢
  refine zJ_aload_n dX9_init_78 rfl ?_
  refine zJ_bipush (v := 8) dX9_init_79 (by decide) ?_
  refine zJ_newi (len := 8) 136 dX9_init_81 (by decide) rfl (by decide) rfl (I11.2.2.1 36 (by decide) (by decide) (by decide)) (by decide) (by simp [lv_args, znr, Value.category]) (by simp [znr]) (by decide) (by decide) ?_
  refine zJ_putF dX9_init_83 rfl fX9_44 (fun q hq => by cases hq; exact ⟨(List.mem_of_getElem? (i := 1468) rfl), rfl, rfl⟩) (by simp [znew, zrow, I11.1]) rfl (fun _ => rfl) (fun _ => rfl) (by simp [znew, zrow]) ?_
  have I12 := I11.r (c := (znew u11 136 (.inr (false, 8)))) (k := 36) (by decide) (by decide) (by decide) rfl zEq_new (by simp [znew]; rfl) (fun _ j => by simp [znew]) (fun j => by simp [znew])
  generalize zsr (znew u11 136 (.inr (false, 8))) 100 36 (some (100 + 36)) = u12 at I12 ⊢
  refine zJ_aload_n dX9_init_86 rfl ?_
  refine zJ_bipush (v := 64) dX9_init_87 (by decide) ?_
  refine zJ_newi (len := 64) 137 dX9_init_89 (by decide) rfl (by decide) rfl (I12.2.2.1 37 (by decide) (by decide) (by decide)) (by decide) (by simp [lv_args, znr, Value.category]) (by simp [znr]) (by decide) (by decide) ?_
  refine zJ_putF dX9_init_91 rfl fX9_47 (fun q hq => by cases hq; exact ⟨(List.mem_of_getElem? (i := 1469) rfl), rfl, rfl⟩) (by simp [znew, zrow, I12.1]) rfl (fun _ => rfl) (fun _ => rfl) (by simp [znew, zrow]) ?_
  have I13 := I12.r (c := (znew u12 137 (.inr (false, 64)))) (k := 37) (by decide) (by decide) (by decide) rfl zEq_new (by simp [znew]; rfl) (fun _ j => by simp [znew]) (fun j => by simp [znew])
  generalize zsr (znew u12 137 (.inr (false, 64))) 100 37 (some (100 + 37)) = u13 at I13 ⊢
  refine zJ_aload_n dX9_init_94 rfl ?_
  refine zJ_sipush (v := 20000) dX9_init_95 (by decide) ?_
  refine zJ_newi (len := 20000) 139 dX9_init_98 (by decide) rfl (by decide) rfl (I13.2.2.1 39 (by decide) (by decide) (by decide)) (by decide) (by simp [lv_args, znr, Value.category]) (by simp [znr]) (by decide) (by decide) ?_
  refine zJ_putF dX9_init_100 rfl fX9_50 (fun q hq => by cases hq; exact ⟨(List.mem_of_getElem? (i := 1471) rfl), rfl, rfl⟩) (by simp [znew, zrow, I13.1]) rfl (fun _ => rfl) (fun _ => rfl) (by simp [znew, zrow]) ?_
  have I14 := I13.r (c := (znew u13 139 (.inr (false, 20000)))) (k := 39) (by decide) (by decide) (by decide) rfl zEq_new (by simp [znew]; rfl) (fun _ j => by simp [znew]) (fun j => by simp [znew])
  generalize zsr (znew u13 139 (.inr (false, 20000))) 100 39 (some (100 + 39)) = u14 at I14 ⊢
  refine zJ_aload_n dX9_init_103 rfl ?_
  refine zJ_sipush (v := 20000) dX9_init_104 (by decide) ?_
  refine zJ_newi (len := 20000) 140 dX9_init_107 (by decide) rfl (by decide) rfl (I14.2.2.1 40 (by decide) (by decide) (by decide)) (by decide) (by simp [lv_args, znr, Value.category]) (by simp [znr]) (by decide) (by decide) ?_
  refine zJ_putF dX9_init_109 rfl fX9_53 (fun q hq => by cases hq; exact ⟨(List.mem_of_getElem? (i := 1472) rfl), rfl, rfl⟩) (by simp [znew, zrow, I14.1]) rfl (fun _ => rfl) (fun _ => rfl) (by simp [znew, zrow]) ?_
  have I15 := I14.r (c := (znew u14 140 (.inr (false, 20000)))) (k := 40) (by decide) (by decide) (by decide) rfl zEq_new (by simp [znew]; rfl) (fun _ j => by simp [znew]) (fun j => by simp [znew])
  generalize zsr (znew u14 140 (.inr (false, 20000))) 100 40 (some (100 + 40)) = u15 at I15 ⊢
  refine zJ_aload_n dX9_init_112 rfl ?_
  refine zJ_sipush (v := 20000) dX9_init_113 (by decide) ?_
  refine zJ_newi (len := 20000) 141 dX9_init_116 (by decide) rfl (by decide) rfl (I15.2.2.1 41 (by decide) (by decide) (by decide)) (by decide) (by simp [lv_args, znr, Value.category]) (by simp [znr]) (by decide) (by decide) ?_
  refine zJ_putF dX9_init_118 rfl fX9_56 (fun q hq => by cases hq; exact ⟨(List.mem_of_getElem? (i := 1473) rfl), rfl, rfl⟩) (by simp [znew, zrow, I15.1]) rfl (fun _ => rfl) (fun _ => rfl) (by simp [znew, zrow]) ?_
  have I16 := I15.r (c := (znew u15 141 (.inr (false, 20000)))) (k := 41) (by decide) (by decide) (by decide) rfl zEq_new (by simp [znew]; rfl) (fun _ j => by simp [znew]) (fun j => by simp [znew])
  generalize zsr (znew u15 141 (.inr (false, 20000))) 100 41 (some (100 + 41)) = u16 at I16 ⊢
  refine zJ_aload_n dX9_init_121 rfl ?_
  refine zJ_sipush (v := 20000) dX9_init_122 (by decide) ?_
  refine zJ_newi (len := 20000) 142 dX9_init_125 (by decide) rfl (by decide) rfl (I16.2.2.1 42 (by decide) (by decide) (by decide)) (by decide) (by simp [lv_args, znr, Value.category]) (by simp [znr]) (by decide) (by decide) ?_
  refine zJ_putF dX9_init_127 rfl fX9_59 (fun q hq => by cases hq; exact ⟨(List.mem_of_getElem? (i := 1474) rfl), rfl, rfl⟩) (by simp [znew, zrow, I16.1]) rfl (fun _ => rfl) (fun _ => rfl) (by simp [znew, zrow]) ?_
  have I17 := I16.r (c := (znew u16 142 (.inr (false, 20000)))) (k := 42) (by decide) (by decide) (by decide) rfl zEq_new (by simp [znew]; rfl) (fun _ j => by simp [znew]) (fun j => by simp [znew])
  generalize zsr (znew u16 142 (.inr (false, 20000))) 100 42 (some (100 + 42)) = u17 at I17 ⊢
  refine zJ_aload_n dX9_init_130 rfl ?_
  refine zJ_ldc dX9_init_131 kX9_62 ?_
  refine zJ_newi (len := 160000) 143 dX9_init_133 (by decide) rfl (by decide) rfl (I17.2.2.1 43 (by decide) (by decide) (by decide)) (by decide) (by simp [lv_args, znr, Value.category]) (by simp [znr]) (by decide) (by decide) ?_
  refine zJ_putF dX9_init_135 rfl fX9_63 (fun q hq => by cases hq; exact ⟨(List.mem_of_getElem? (i := 1475) rfl), rfl, rfl⟩) (by simp [znew, zrow, I17.1]) rfl (fun _ => rfl) (fun _ => rfl) (by simp [znew, zrow]) ?_
  have I18 := I17.r (c := (znew u17 143 (.inr (false, 160000)))) (k := 43) (by decide) (by decide) (by decide) rfl zEq_new (by simp [znew]; rfl) (fun _ j => by simp [znew]) (fun j => by simp [znew])
  generalize zsr (znew u17 143 (.inr (false, 160000))) 100 43 (some (100 + 43)) = u18 at I18 ⊢
  refine zJ_aload_n dX9_init_138 rfl ?_
  refine zJ_ldc dX9_init_139 kX9_66 ?_
  refine zJ_newi (len := 65536) 144 dX9_init_141 (by decide) rfl (by decide) rfl (I18.2.2.1 44 (by decide) (by decide) (by decide)) (by decide) (by simp [lv_args, znr, Value.category]) (by simp [znr]) (by decide) (by decide) ?_
  refine zJ_putF dX9_init_143 rfl fX9_67 (fun q hq => by cases hq; exact ⟨(List.mem_of_getElem? (i := 1476) rfl), rfl, rfl⟩) (by simp [znew, zrow, I18.1]) rfl (fun _ => rfl) (fun _ => rfl) (by simp [znew, zrow]) ?_
  have I19 := I18.r (c := (znew u18 144 (.inr (false, 65536)))) (k := 44) (by decide) (by decide) (by decide) rfl zEq_new (by simp [znew]; rfl) (fun _ j => by simp [znew]) (fun j => by simp [znew])
  generalize zsr (znew u18 144 (.inr (false, 65536))) 100 44 (some (100 + 44)) = u19 at I19 ⊢
  refine zJ_aload_n dX9_init_146 rfl ?_
  refine zJ_bipush (v := 8) dX9_init_147 (by decide) ?_
  refine zJ_newi (len := 8) 148 dX9_init_149 (by decide) rfl (by decide) rfl (I19.2.2.1 48 (by decide) (by decide) (by decide)) (by decide) (by simp [lv_args, znr, Value.category]) (by simp [znr]) (by decide) (by decide) ?_
  refine zJ_putF dX9_init_151 rfl fX9_70 (fun q hq => by cases hq; exact ⟨(List.mem_of_getElem? (i := 1480) rfl), rfl, rfl⟩) (by simp [znew, zrow, I19.1]) rfl (fun _ => rfl) (fun _ => rfl) (by simp [znew, zrow]) ?_
  have I20 := I19.r (c := (znew u19 148 (.inr (false, 8)))) (k := 48) (by decide) (by decide) (by decide) rfl zEq_new (by simp [znew]; rfl) (fun _ j => by simp [znew]) (fun j => by simp [znew])
  generalize zsr (znew u19 148 (.inr (false, 8))) 100 48 (some (100 + 48)) = u20 at I20 ⊢
  refine zJ_aload_n dX9_init_154 rfl ?_
  refine zJ_bipush (v := 8) dX9_init_155 (by decide) ?_
  refine zJ_newi (len := 8) 149 dX9_init_157 (by decide) rfl (by decide) rfl (I20.2.2.1 49 (by decide) (by decide) (by decide)) (by decide) (by simp [lv_args, znr, Value.category]) (by simp [znr]) (by decide) (by decide) ?_
  refine zJ_putF dX9_init_159 rfl fX9_73 (fun q hq => by cases hq; exact ⟨(List.mem_of_getElem? (i := 1481) rfl), rfl, rfl⟩) (by simp [znew, zrow, I20.1]) rfl (fun _ => rfl) (fun _ => rfl) (by simp [znew, zrow]) ?_
  have I21 := I20.r (c := (znew u20 149 (.inr (false, 8)))) (k := 49) (by decide) (by decide) (by decide) rfl zEq_new (by simp [znew]; rfl) (fun _ j => by simp [znew]) (fun j => by simp [znew])
  generalize zsr (znew u20 149 (.inr (false, 8))) 100 49 (some (100 + 49)) = u21 at I21 ⊢
  refine zJ_aload_n dX9_init_162 rfl ?_
  refine zJ_ldc dX9_init_163 kX9_62 ?_
  refine zJ_newl (len := 160000) 150 dX9_init_165 (by decide) rfl (by decide) rfl (I21.2.2.1 50 (by decide) (by decide) (by decide)) (by decide) (by simp [lv_args, znr, Value.category]) (by simp [znr]) (by decide) (by decide) ?_
  refine zJ_putF dX9_init_167 rfl fX9_76 (fun q hq => by cases hq; exact ⟨(List.mem_of_getElem? (i := 1482) rfl), rfl, rfl⟩) (by simp [znew, zrow, I21.1]) rfl (fun _ => rfl) (fun _ => rfl) (by simp [znew, zrow]) ?_
  have I22 := I21.r (c := (znew u21 150 (.inr (true, 160000)))) (k := 50) (by decide) (by decide) (by decide) rfl zEq_new (by simp [znew]; rfl) (fun _ j => by simp [znew]) (fun j => by simp [znew])
  generalize zsr (znew u21 150 (.inr (true, 160000))) 100 50 (some (100 + 50)) = u22 at I22 ⊢
  refine zJ_aload_n dX9_init_170 rfl ?_
  refine zJ_sipush (v := 20000) dX9_init_171 (by decide) ?_
  refine zJ_newl (len := 20000) 151 dX9_init_174 (by decide) rfl (by decide) rfl (I22.2.2.1 51 (by decide) (by decide) (by decide)) (by decide) (by simp [lv_args, znr, Value.category]) (by simp [znr]) (by decide) (by decide) ?_
  refine zJ_putF dX9_init_176 rfl fX9_80 (fun q hq => by cases hq; exact ⟨(List.mem_of_getElem? (i := 1483) rfl), rfl, rfl⟩) (by simp [znew, zrow, I22.1]) rfl (fun _ => rfl) (fun _ => rfl) (by simp [znew, zrow]) ?_
  have I23 := I22.r (c := (znew u22 151 (.inr (true, 20000)))) (k := 51) (by decide) (by decide) (by decide) rfl zEq_new (by simp [znew]; rfl) (fun _ j => by simp [znew]) (fun j => by simp [znew])
  generalize zsr (znew u22 151 (.inr (true, 20000))) 100 51 (some (100 + 51)) = u23 at I23 ⊢
  refine zJ_aload_n dX9_init_179 rfl ?_
  refine zJ_sipush (v := 20000) dX9_init_180 (by decide) ?_
  refine zJ_newi (len := 20000) 152 dX9_init_183 (by decide) rfl (by decide) rfl (I23.2.2.1 52 (by decide) (by decide) (by decide)) (by decide) (by simp [lv_args, znr, Value.category]) (by simp [znr]) (by decide) (by decide) ?_
  refine zJ_putF dX9_init_185 rfl fX9_83 (fun q hq => by cases hq; exact ⟨(List.mem_of_getElem? (i := 1484) rfl), rfl, rfl⟩) (by simp [znew, zrow, I23.1]) rfl (fun _ => rfl) (fun _ => rfl) (by simp [znew, zrow]) ?_
  have I24 := I23.r (c := (znew u23 152 (.inr (false, 20000)))) (k := 52) (by decide) (by decide) (by decide) rfl zEq_new (by simp [znew]; rfl) (fun _ j => by simp [znew]) (fun j => by simp [znew])
  generalize zsr (znew u23 152 (.inr (false, 20000))) 100 52 (some (100 + 52)) = u24 at I24 ⊢
  refine zJ_aload_n dX9_init_188 rfl ?_
  refine zJ_sipush (v := 20000) dX9_init_189 (by decide) ?_
  refine zJ_newl (len := 20000) 153 dX9_init_192 (by decide) rfl (by decide) rfl (I24.2.2.1 53 (by decide) (by decide) (by decide)) (by decide) (by simp [lv_args, znr, Value.category]) (by simp [znr]) (by decide) (by decide) ?_
  refine zJ_putF dX9_init_194 rfl fX9_86 (fun q hq => by cases hq; exact ⟨(List.mem_of_getElem? (i := 1485) rfl), rfl, rfl⟩) (by simp [znew, zrow, I24.1]) rfl (fun _ => rfl) (fun _ => rfl) (by simp [znew, zrow]) ?_
  have I25 := I24.r (c := (znew u24 153 (.inr (true, 20000)))) (k := 53) (by decide) (by decide) (by decide) rfl zEq_new (by simp [znew]; rfl) (fun _ j => by simp [znew]) (fun j => by simp [znew])
  generalize zsr (znew u24 153 (.inr (true, 20000))) 100 53 (some (100 + 53)) = u25 at I25 ⊢
  refine zJ_aload_n dX9_init_197 rfl ?_
  refine zJ_bipush (v := 96) dX9_init_198 (by decide) ?_
  refine zJ_newl (len := 96) 154 dX9_init_200 (by decide) rfl (by decide) rfl (I25.2.2.1 54 (by decide) (by decide) (by decide)) (by decide) (by simp [lv_args, znr, Value.category]) (by simp [znr]) (by decide) (by decide) ?_
  refine zJ_putF dX9_init_202 rfl fX9_89 (fun q hq => by cases hq; exact ⟨(List.mem_of_getElem? (i := 1486) rfl), rfl, rfl⟩) (by simp [znew, zrow, I25.1]) rfl (fun _ => rfl) (fun _ => rfl) (by simp [znew, zrow]) ?_
  have I26 := I25.r (c := (znew u25 154 (.inr (true, 96)))) (k := 54) (by decide) (by decide) (by decide) rfl zEq_new (by simp [znew]; rfl) (fun _ j => by simp [znew]) (fun j => by simp [znew])
  generalize zsr (znew u25 154 (.inr (true, 96))) 100 54 (some (100 + 54)) = u26 at I26 ⊢
  refine zJ_aload_n dX9_init_205 rfl ?_
  refine zJ_bipush (v := 20) dX9_init_206 (by decide) ?_
  refine zJ_newi (len := 20) 157 dX9_init_208 (by decide) rfl (by decide) rfl (I26.2.2.1 57 (by decide) (by decide) (by decide)) (by decide) (by simp [lv_args, znr, Value.category]) (by simp [znr]) (by decide) (by decide) ?_
  refine zJ_putF dX9_init_210 rfl fX9_92 (fun q hq => by cases hq; exact ⟨(List.mem_of_getElem? (i := 1489) rfl), rfl, rfl⟩) (by simp [znew, zrow, I26.1]) rfl (fun _ => rfl) (fun _ => rfl) (by simp [znew, zrow]) ?_
  have I27 := I26.r (c := (znew u26 157 (.inr (false, 20)))) (k := 57) (by decide) (by decide) (by decide) rfl zEq_new (by simp [znew]; rfl) (fun _ j => by simp [znew]) (fun j => by simp [znew])
  generalize zsr (znew u26 157 (.inr (false, 20))) 100 57 (some (100 + 57)) = u27 at I27 ⊢
  refine zJ_aload_n dX9_init_213 rfl ?_
  refine zJ_sipush (v := 400) dX9_init_214 (by decide) ?_
  refine zJ_newi (len := 400) 158 dX9_init_217 (by decide) rfl (by decide) rfl (I27.2.2.1 58 (by decide) (by decide) (by decide)) (by decide) (by simp [lv_args, znr, Value.category]) (by simp [znr]) (by decide) (by decide) ?_
  refine zJ_putF dX9_init_219 rfl fX9_95 (fun q hq => by cases hq; exact ⟨(List.mem_of_getElem? (i := 1490) rfl), rfl, rfl⟩) (by simp [znew, zrow, I27.1]) rfl (fun _ => rfl) (fun _ => rfl) (by simp [znew, zrow]) ?_
  have I28 := I27.r (c := (znew u27 158 (.inr (false, 400)))) (k := 58) (by decide) (by decide) (by decide) rfl zEq_new (by simp [znew]; rfl) (fun _ j => by simp [znew]) (fun j => by simp [znew])
  generalize zsr (znew u27 158 (.inr (false, 400))) 100 58 (some (100 + 58)) = u28 at I28 ⊢
  refine zJ_aload_n dX9_init_222 rfl ?_
  refine zJ_bipush (v := 20) dX9_init_223 (by decide) ?_
  refine zJ_newi (len := 20) 159 dX9_init_225 (by decide) rfl (by decide) rfl (I28.2.2.1 59 (by decide) (by decide) (by decide)) (by decide) (by simp [lv_args, znr, Value.category]) (by simp [znr]) (by decide) (by decide) ?_
  refine zJ_putF dX9_init_227 rfl fX9_98 (fun q hq => by cases hq; exact ⟨(List.mem_of_getElem? (i := 1491) rfl), rfl, rfl⟩) (by simp [znew, zrow, I28.1]) rfl (fun _ => rfl) (fun _ => rfl) (by simp [znew, zrow]) ?_
  have I29 := I28.r (c := (znew u28 159 (.inr (false, 20)))) (k := 59) (by decide) (by decide) (by decide) rfl zEq_new (by simp [znew]; rfl) (fun _ j => by simp [znew]) (fun j => by simp [znew])
  generalize zsr (znew u28 159 (.inr (false, 20))) 100 59 (some (100 + 59)) = u29 at I29 ⊢
  refine zJ_aload_n dX9_init_230 rfl ?_
  refine zJ_bipush (v := 20) dX9_init_231 (by decide) ?_
  refine zJ_newi (len := 20) 160 dX9_init_233 (by decide) rfl (by decide) rfl (I29.2.2.1 60 (by decide) (by decide) (by decide)) (by decide) (by simp [lv_args, znr, Value.category]) (by simp [znr]) (by decide) (by decide) ?_
  refine zJ_putF dX9_init_235 rfl fX9_101 (fun q hq => by cases hq; exact ⟨(List.mem_of_getElem? (i := 1492) rfl), rfl, rfl⟩) (by simp [znew, zrow, I29.1]) rfl (fun _ => rfl) (fun _ => rfl) (by simp [znew, zrow]) ?_
  have I30 := I29.r (c := (znew u29 160 (.inr (false, 20)))) (k := 60) (by decide) (by decide) (by decide) rfl zEq_new (by simp [znew]; rfl) (fun _ j => by simp [znew]) (fun j => by simp [znew])
  generalize zsr (znew u29 160 (.inr (false, 20))) 100 60 (some (100 + 60)) = u30 at I30 ⊢
  refine zJ_aload_n dX9_init_238 rfl ?_
  refine zJ_bipush (v := 32) dX9_init_239 (by decide) ?_
  refine zJ_newi (len := 32) 162 dX9_init_241 (by decide) rfl (by decide) rfl (I30.2.2.1 62 (by decide) (by decide) (by decide)) (by decide) (by simp [lv_args, znr, Value.category]) (by simp [znr]) (by decide) (by decide) ?_
  refine zJ_w (w2 := zrow (znew u30 162 (.inr (false, 32))) 162 (fun j => if j < 0 then -1 else 0)) (zgs_0 (fun j => by simp [znew])) ?_
  refine zJ_dup dX9_init_243 rfl ?_
  refine zJ_iconst (v := 0) dX9_init_244 (by decide) ?_
  refine zJ_iconst (v := -1) dX9_init_245 (by decide) ?_
  refine zJ_iast (len := 32) dX9_init_246 (by simp [zrow, znew]) (vp_in_nI (n := 0) (by decide) (by decide)) ?_
  refine zJ_w (w2 := zrow (znew u30 162 (.inr (false, 32))) 162 (fun j => if j < 0 + 1 then -1 else 0)) (zgs_step 0) ?_
  refine zJ_dup dX9_init_247 rfl ?_
  refine zJ_iconst (v := 1) dX9_init_248 (by decide) ?_
  refine zJ_iconst (v := -1) dX9_init_249 (by decide) ?_
  refine zJ_iast (len := 32) dX9_init_250 (by simp [zrow, znew]) (vp_in_nI (n := 1) (by decide) (by decide)) ?_
  refine zJ_w (w2 := zrow (znew u30 162 (.inr (false, 32))) 162 (fun j => if j < 1 + 1 then -1 else 0)) (zgs_step 1) ?_
  refine zJ_dup dX9_init_251 rfl ?_
  refine zJ_iconst (v := 2) dX9_init_252 (by decide) ?_
  refine zJ_iconst (v := -1) dX9_init_253 (by decide) ?_
  refine zJ_iast (len := 32) dX9_init_254 (by simp [zrow, znew]) (vp_in_nI (n := 2) (by decide) (by decide)) ?_
  refine zJ_w (w2 := zrow (znew u30 162 (.inr (false, 32))) 162 (fun j => if j < 2 + 1 then -1 else 0)) (zgs_step 2) ?_
  refine zJ_dup dX9_init_255 rfl ?_
  refine zJ_iconst (v := 3) dX9_init_256 (by decide) ?_
  refine zJ_iconst (v := -1) dX9_init_257 (by decide) ?_
  refine zJ_iast (len := 32) dX9_init_258 (by simp [zrow, znew]) (vp_in_nI (n := 3) (by decide) (by decide)) ?_
  refine zJ_w (w2 := zrow (znew u30 162 (.inr (false, 32))) 162 (fun j => if j < 3 + 1 then -1 else 0)) (zgs_step 3) ?_
  refine zJ_dup dX9_init_259 rfl ?_
  refine zJ_iconst (v := 4) dX9_init_260 (by decide) ?_
  refine zJ_iconst (v := -1) dX9_init_261 (by decide) ?_
  refine zJ_iast (len := 32) dX9_init_262 (by simp [zrow, znew]) (vp_in_nI (n := 4) (by decide) (by decide)) ?_
  refine zJ_w (w2 := zrow (znew u30 162 (.inr (false, 32))) 162 (fun j => if j < 4 + 1 then -1 else 0)) (zgs_step 4) ?_
  refine zJ_dup dX9_init_263 rfl ?_
  refine zJ_iconst (v := 5) dX9_init_264 (by decide) ?_
  refine zJ_iconst (v := -1) dX9_init_265 (by decide) ?_
  refine zJ_iast (len := 32) dX9_init_266 (by simp [zrow, znew]) (vp_in_nI (n := 5) (by decide) (by decide)) ?_
  refine zJ_w (w2 := zrow (znew u30 162 (.inr (false, 32))) 162 (fun j => if j < 5 + 1 then -1 else 0)) (zgs_step 5) ?_
  refine zJ_dup dX9_init_267 rfl ?_
  refine zJ_bipush (v := 6) dX9_init_268 (by decide) ?_
  refine zJ_iconst (v := -1) dX9_init_270 (by decide) ?_
  refine zJ_iast (len := 32) dX9_init_271 (by simp [zrow, znew]) (vp_in_nI (n := 6) (by decide) (by decide)) ?_
  refine zJ_w (w2 := zrow (znew u30 162 (.inr (false, 32))) 162 (fun j => if j < 6 + 1 then -1 else 0)) (zgs_step 6) ?_
  refine zJ_dup dX9_init_272 rfl ?_
  refine zJ_bipush (v := 7) dX9_init_273 (by decide) ?_
  refine zJ_iconst (v := -1) dX9_init_275 (by decide) ?_
  refine zJ_iast (len := 32) dX9_init_276 (by simp [zrow, znew]) (vp_in_nI (n := 7) (by decide) (by decide)) ?_
  refine zJ_w (w2 := zrow (znew u30 162 (.inr (false, 32))) 162 (fun j => if j < 7 + 1 then -1 else 0)) (zgs_step 7) ?_
  refine zJ_dup dX9_init_277 rfl ?_
  refine zJ_bipush (v := 8) dX9_init_278 (by decide) ?_
  refine zJ_iconst (v := -1) dX9_init_280 (by decide) ?_
  refine zJ_iast (len := 32) dX9_init_281 (by simp [zrow, znew]) (vp_in_nI (n := 8) (by decide) (by decide)) ?_
  refine zJ_w (w2 := zrow (znew u30 162 (.inr (false, 32))) 162 (fun j => if j < 8 + 1 then -1 else 0)) (zgs_step 8) ?_
  refine zJ_dup dX9_init_282 rfl ?_
  refine zJ_bipush (v := 9) dX9_init_283 (by decide) ?_
  refine zJ_iconst (v := -1) dX9_init_285 (by decide) ?_
  refine zJ_iast (len := 32) dX9_init_286 (by simp [zrow, znew]) (vp_in_nI (n := 9) (by decide) (by decide)) ?_
  refine zJ_w (w2 := zrow (znew u30 162 (.inr (false, 32))) 162 (fun j => if j < 9 + 1 then -1 else 0)) (zgs_step 9) ?_
  refine zJ_dup dX9_init_287 rfl ?_
  refine zJ_bipush (v := 10) dX9_init_288 (by decide) ?_
  refine zJ_iconst (v := -1) dX9_init_290 (by decide) ?_
  refine zJ_iast (len := 32) dX9_init_291 (by simp [zrow, znew]) (vp_in_nI (n := 10) (by decide) (by decide)) ?_
  refine zJ_w (w2 := zrow (znew u30 162 (.inr (false, 32))) 162 (fun j => if j < 10 + 1 then -1 else 0)) (zgs_step 10) ?_
  refine zJ_dup dX9_init_292 rfl ?_
  refine zJ_bipush (v := 11) dX9_init_293 (by decide) ?_
  refine zJ_iconst (v := -1) dX9_init_295 (by decide) ?_
  refine zJ_iast (len := 32) dX9_init_296 (by simp [zrow, znew]) (vp_in_nI (n := 11) (by decide) (by decide)) ?_
  refine zJ_w (w2 := zrow (znew u30 162 (.inr (false, 32))) 162 (fun j => if j < 11 + 1 then -1 else 0)) (zgs_step 11) ?_
  refine zJ_dup dX9_init_297 rfl ?_
  refine zJ_bipush (v := 12) dX9_init_298 (by decide) ?_
  refine zJ_iconst (v := -1) dX9_init_300 (by decide) ?_
  refine zJ_iast (len := 32) dX9_init_301 (by simp [zrow, znew]) (vp_in_nI (n := 12) (by decide) (by decide)) ?_
  refine zJ_w (w2 := zrow (znew u30 162 (.inr (false, 32))) 162 (fun j => if j < 12 + 1 then -1 else 0)) (zgs_step 12) ?_
  refine zJ_dup dX9_init_302 rfl ?_
  refine zJ_bipush (v := 13) dX9_init_303 (by decide) ?_
  refine zJ_iconst (v := -1) dX9_init_305 (by decide) ?_
  refine zJ_iast (len := 32) dX9_init_306 (by simp [zrow, znew]) (vp_in_nI (n := 13) (by decide) (by decide)) ?_
  refine zJ_w (w2 := zrow (znew u30 162 (.inr (false, 32))) 162 (fun j => if j < 13 + 1 then -1 else 0)) (zgs_step 13) ?_
  refine zJ_dup dX9_init_307 rfl ?_
  refine zJ_bipush (v := 14) dX9_init_308 (by decide) ?_
  refine zJ_iconst (v := -1) dX9_init_310 (by decide) ?_
  refine zJ_iast (len := 32) dX9_init_311 (by simp [zrow, znew]) (vp_in_nI (n := 14) (by decide) (by decide)) ?_
  refine zJ_w (w2 := zrow (znew u30 162 (.inr (false, 32))) 162 (fun j => if j < 14 + 1 then -1 else 0)) (zgs_step 14) ?_
  refine zJ_dup dX9_init_312 rfl ?_
  refine zJ_bipush (v := 15) dX9_init_313 (by decide) ?_
  refine zJ_iconst (v := -1) dX9_init_315 (by decide) ?_
  refine zJ_iast (len := 32) dX9_init_316 (by simp [zrow, znew]) (vp_in_nI (n := 15) (by decide) (by decide)) ?_
  refine zJ_w (w2 := zrow (znew u30 162 (.inr (false, 32))) 162 (fun j => if j < 15 + 1 then -1 else 0)) (zgs_step 15) ?_
  refine zJ_dup dX9_init_317 rfl ?_
  refine zJ_bipush (v := 16) dX9_init_318 (by decide) ?_
  refine zJ_iconst (v := -1) dX9_init_320 (by decide) ?_
  refine zJ_iast (len := 32) dX9_init_321 (by simp [zrow, znew]) (vp_in_nI (n := 16) (by decide) (by decide)) ?_
  refine zJ_w (w2 := zrow (znew u30 162 (.inr (false, 32))) 162 (fun j => if j < 16 + 1 then -1 else 0)) (zgs_step 16) ?_
  refine zJ_dup dX9_init_322 rfl ?_
  refine zJ_bipush (v := 17) dX9_init_323 (by decide) ?_
  refine zJ_iconst (v := -1) dX9_init_325 (by decide) ?_
  refine zJ_iast (len := 32) dX9_init_326 (by simp [zrow, znew]) (vp_in_nI (n := 17) (by decide) (by decide)) ?_
  refine zJ_w (w2 := zrow (znew u30 162 (.inr (false, 32))) 162 (fun j => if j < 17 + 1 then -1 else 0)) (zgs_step 17) ?_
  refine zJ_dup dX9_init_327 rfl ?_
  refine zJ_bipush (v := 18) dX9_init_328 (by decide) ?_
  refine zJ_iconst (v := -1) dX9_init_330 (by decide) ?_
  refine zJ_iast (len := 32) dX9_init_331 (by simp [zrow, znew]) (vp_in_nI (n := 18) (by decide) (by decide)) ?_
  refine zJ_w (w2 := zrow (znew u30 162 (.inr (false, 32))) 162 (fun j => if j < 18 + 1 then -1 else 0)) (zgs_step 18) ?_
  refine zJ_dup dX9_init_332 rfl ?_
  refine zJ_bipush (v := 19) dX9_init_333 (by decide) ?_
  refine zJ_iconst (v := -1) dX9_init_335 (by decide) ?_
  refine zJ_iast (len := 32) dX9_init_336 (by simp [zrow, znew]) (vp_in_nI (n := 19) (by decide) (by decide)) ?_
  refine zJ_w (w2 := zrow (znew u30 162 (.inr (false, 32))) 162 (fun j => if j < 19 + 1 then -1 else 0)) (zgs_step 19) ?_
  refine zJ_dup dX9_init_337 rfl ?_
  refine zJ_bipush (v := 20) dX9_init_338 (by decide) ?_
  refine zJ_iconst (v := -1) dX9_init_340 (by decide) ?_
  refine zJ_iast (len := 32) dX9_init_341 (by simp [zrow, znew]) (vp_in_nI (n := 20) (by decide) (by decide)) ?_
  refine zJ_w (w2 := zrow (znew u30 162 (.inr (false, 32))) 162 (fun j => if j < 20 + 1 then -1 else 0)) (zgs_step 20) ?_
  refine zJ_dup dX9_init_342 rfl ?_
  refine zJ_bipush (v := 21) dX9_init_343 (by decide) ?_
  refine zJ_iconst (v := -1) dX9_init_345 (by decide) ?_
  refine zJ_iast (len := 32) dX9_init_346 (by simp [zrow, znew]) (vp_in_nI (n := 21) (by decide) (by decide)) ?_
  refine zJ_w (w2 := zrow (znew u30 162 (.inr (false, 32))) 162 (fun j => if j < 21 + 1 then -1 else 0)) (zgs_step 21) ?_
  refine zJ_dup dX9_init_347 rfl ?_
  refine zJ_bipush (v := 22) dX9_init_348 (by decide) ?_
  refine zJ_iconst (v := -1) dX9_init_350 (by decide) ?_
  refine zJ_iast (len := 32) dX9_init_351 (by simp [zrow, znew]) (vp_in_nI (n := 22) (by decide) (by decide)) ?_
  refine zJ_w (w2 := zrow (znew u30 162 (.inr (false, 32))) 162 (fun j => if j < 22 + 1 then -1 else 0)) (zgs_step 22) ?_
  refine zJ_dup dX9_init_352 rfl ?_
  refine zJ_bipush (v := 23) dX9_init_353 (by decide) ?_
  refine zJ_iconst (v := -1) dX9_init_355 (by decide) ?_
  refine zJ_iast (len := 32) dX9_init_356 (by simp [zrow, znew]) (vp_in_nI (n := 23) (by decide) (by decide)) ?_
  refine zJ_w (w2 := zrow (znew u30 162 (.inr (false, 32))) 162 (fun j => if j < 23 + 1 then -1 else 0)) (zgs_step 23) ?_
  refine zJ_dup dX9_init_357 rfl ?_
  refine zJ_bipush (v := 24) dX9_init_358 (by decide) ?_
  refine zJ_iconst (v := -1) dX9_init_360 (by decide) ?_
  refine zJ_iast (len := 32) dX9_init_361 (by simp [zrow, znew]) (vp_in_nI (n := 24) (by decide) (by decide)) ?_
  refine zJ_w (w2 := zrow (znew u30 162 (.inr (false, 32))) 162 (fun j => if j < 24 + 1 then -1 else 0)) (zgs_step 24) ?_
  refine zJ_dup dX9_init_362 rfl ?_
  refine zJ_bipush (v := 25) dX9_init_363 (by decide) ?_
  refine zJ_iconst (v := -1) dX9_init_365 (by decide) ?_
  refine zJ_iast (len := 32) dX9_init_366 (by simp [zrow, znew]) (vp_in_nI (n := 25) (by decide) (by decide)) ?_
  refine zJ_w (w2 := zrow (znew u30 162 (.inr (false, 32))) 162 (fun j => if j < 25 + 1 then -1 else 0)) (zgs_step 25) ?_
  refine zJ_dup dX9_init_367 rfl ?_
  refine zJ_bipush (v := 26) dX9_init_368 (by decide) ?_
  refine zJ_iconst (v := -1) dX9_init_370 (by decide) ?_
  refine zJ_iast (len := 32) dX9_init_371 (by simp [zrow, znew]) (vp_in_nI (n := 26) (by decide) (by decide)) ?_
  refine zJ_w (w2 := zrow (znew u30 162 (.inr (false, 32))) 162 (fun j => if j < 26 + 1 then -1 else 0)) (zgs_step 26) ?_
  refine zJ_dup dX9_init_372 rfl ?_
  refine zJ_bipush (v := 27) dX9_init_373 (by decide) ?_
  refine zJ_iconst (v := -1) dX9_init_375 (by decide) ?_
  refine zJ_iast (len := 32) dX9_init_376 (by simp [zrow, znew]) (vp_in_nI (n := 27) (by decide) (by decide)) ?_
  refine zJ_w (w2 := zrow (znew u30 162 (.inr (false, 32))) 162 (fun j => if j < 27 + 1 then -1 else 0)) (zgs_step 27) ?_
  refine zJ_dup dX9_init_377 rfl ?_
  refine zJ_bipush (v := 28) dX9_init_378 (by decide) ?_
  refine zJ_iconst (v := -1) dX9_init_380 (by decide) ?_
  refine zJ_iast (len := 32) dX9_init_381 (by simp [zrow, znew]) (vp_in_nI (n := 28) (by decide) (by decide)) ?_
  refine zJ_w (w2 := zrow (znew u30 162 (.inr (false, 32))) 162 (fun j => if j < 28 + 1 then -1 else 0)) (zgs_step 28) ?_
  refine zJ_dup dX9_init_382 rfl ?_
  refine zJ_bipush (v := 29) dX9_init_383 (by decide) ?_
  refine zJ_iconst (v := -1) dX9_init_385 (by decide) ?_
  refine zJ_iast (len := 32) dX9_init_386 (by simp [zrow, znew]) (vp_in_nI (n := 29) (by decide) (by decide)) ?_
  refine zJ_w (w2 := zrow (znew u30 162 (.inr (false, 32))) 162 (fun j => if j < 29 + 1 then -1 else 0)) (zgs_step 29) ?_
  refine zJ_dup dX9_init_387 rfl ?_
  refine zJ_bipush (v := 30) dX9_init_388 (by decide) ?_
  refine zJ_iconst (v := -1) dX9_init_390 (by decide) ?_
  refine zJ_iast (len := 32) dX9_init_391 (by simp [zrow, znew]) (vp_in_nI (n := 30) (by decide) (by decide)) ?_
  refine zJ_w (w2 := zrow (znew u30 162 (.inr (false, 32))) 162 (fun j => if j < 30 + 1 then -1 else 0)) (zgs_step 30) ?_
  refine zJ_dup dX9_init_392 rfl ?_
  refine zJ_bipush (v := 31) dX9_init_393 (by decide) ?_
  refine zJ_iconst (v := -1) dX9_init_395 (by decide) ?_
  refine zJ_iast (len := 32) dX9_init_396 (by simp [zrow, znew]) (vp_in_nI (n := 31) (by decide) (by decide)) ?_
  refine zJ_w (w2 := zrow (znew u30 162 (.inr (false, 32))) 162 (fun j => if j < 31 + 1 then -1 else 0)) (zgs_step 31) ?_
  refine zJ_putF dX9_init_397 rfl fX9_104 (fun q hq => by cases hq; exact ⟨(List.mem_of_getElem? (i := 1494) rfl), rfl, rfl⟩) (by simp [znew, zrow, I30.1]) rfl (fun _ => rfl) (fun _ => rfl) (by simp [znew, zrow]) ?_
  have hE62 : ∀ a, a ≠ 100 + 62 → zEq u30 (zrow (znew u30 162 (.inr (false, 32))) 162 (fun j => if j < 31 + 1 then -1 else 0)) a := fun a ha => by
    have : ¬ a = 162 := by omega
    simp [zEq, zrow, znew, this]
  have I31 := I30.r (c := (zrow (znew u30 162 (.inr (false, 32))) 162 (fun j => if j < 31 + 1 then -1 else 0))) (k := 62) (by decide) (by decide) (by decide) rfl hE62 (by simp [zrow, znew]; rfl) (fun h => absurd rfl h) (fun j => by simp [zrow, znew])
  have G31 : ∀ j, j < 32 → (zsr (zrow (znew u30 162 (.inr (false, 32))) 162 (fun j => if j < 31 + 1 then -1 else 0)) 100 62 (some (100 + 62))).2.1 162 j = -1 := fun j hj => by
    simp only [zsr, zrow, if_true]; rw [if_pos (by omega)]
  generalize zsr (zrow (znew u30 162 (.inr (false, 32))) 162 (fun j => if j < 31 + 1 then -1 else 0)) 100 62 (some (100 + 62)) = u31 at I31 G31 ⊢
  refine zJ_aload_n dX9_init_400 rfl ?_
  refine zJ_bipush (v := 32) dX9_init_401 (by decide) ?_
  refine zJ_newi (len := 32) 163 dX9_init_403 (by decide) rfl (by decide) rfl (I31.2.2.1 63 (by decide) (by decide) (by decide)) (by decide) (by simp [lv_args, znr, Value.category]) (by simp [znr]) (by decide) (by decide) ?_
  refine zJ_putF dX9_init_405 rfl fX9_107 (fun q hq => by cases hq; exact ⟨(List.mem_of_getElem? (i := 1495) rfl), rfl, rfl⟩) (by simp [znew, zrow, I31.1]) rfl (fun _ => rfl) (fun _ => rfl) (by simp [znew, zrow]) ?_
  have I32 := I31.r (c := (znew u31 163 (.inr (false, 32)))) (k := 63) (by decide) (by decide) (by decide) rfl zEq_new (by simp [znew]; rfl) (fun _ j => by simp [znew]) (fun j => by simp [znew])
  have G32 : ∀ j, j < 32 → (zsr (znew u31 163 (.inr (false, 32))) 100 63 (some (100 + 63))).2.1 162 j = -1 := fun j hj => by
    simp only [zsr, znew]; exact G31 j hj
  generalize zsr (znew u31 163 (.inr (false, 32))) 100 63 (some (100 + 63)) = u32 at I32 G32 ⊢
  refine zJ_aload_n dX9_init_408 rfl ?_
  refine zJ_iconst (v := 4) dX9_init_409 (by decide) ?_
  refine zJ_newl (len := 4) 164 dX9_init_410 (by decide) rfl (by decide) rfl (I32.2.2.1 64 (by decide) (by decide) (by decide)) (by decide) (by simp [lv_args, znr, Value.category]) (by simp [znr]) (by decide) (by decide) ?_
  refine zJ_putF dX9_init_412 rfl fX9_110 (fun q hq => by cases hq; exact ⟨(List.mem_of_getElem? (i := 1496) rfl), rfl, rfl⟩) (by simp [znew, zrow, I32.1]) rfl (fun _ => rfl) (fun _ => rfl) (by simp [znew, zrow]) ?_
  have I33 := I32.r (c := (znew u32 164 (.inr (true, 4)))) (k := 64) (by decide) (by decide) (by decide) rfl zEq_new (by simp [znew]; rfl) (fun _ j => by simp [znew]) (fun j => by simp [znew])
  have G33 : ∀ j, j < 32 → (zsr (znew u32 164 (.inr (true, 4))) 100 64 (some (100 + 64))).2.1 162 j = -1 := fun j hj => by
    simp only [zsr, znew]; exact G32 j hj
  generalize zsr (znew u32 164 (.inr (true, 4))) 100 64 (some (100 + 64)) = u33 at I33 G33 ⊢
  refine zJ_aload_n dX9_init_415 rfl ?_
  refine zJ_bipush (v := 80) dX9_init_416 (by decide) ?_
  refine zJ_newl (len := 80) 165 dX9_init_418 (by decide) rfl (by decide) rfl (I33.2.2.1 65 (by decide) (by decide) (by decide)) (by decide) (by simp [lv_args, znr, Value.category]) (by simp [znr]) (by decide) (by decide) ?_
  refine zJ_putF dX9_init_420 rfl fX9_113 (fun q hq => by cases hq; exact ⟨(List.mem_of_getElem? (i := 1497) rfl), rfl, rfl⟩) (by simp [znew, zrow, I33.1]) rfl (fun _ => rfl) (fun _ => rfl) (by simp [znew, zrow]) ?_
  have I34 := I33.r (c := (znew u33 165 (.inr (true, 80)))) (k := 65) (by decide) (by decide) (by decide) rfl zEq_new (by simp [znew]; rfl) (fun _ j => by simp [znew]) (fun j => by simp [znew])
  have G34 : ∀ j, j < 32 → (zsr (znew u33 165 (.inr (true, 80))) 100 65 (some (100 + 65))).2.1 162 j = -1 := fun j hj => by
    simp only [zsr, znew]; exact G33 j hj
  generalize zsr (znew u33 165 (.inr (true, 80))) 100 65 (some (100 + 65)) = u34 at I34 G34 ⊢
  refine zJ_aload_n dX9_init_423 rfl ?_
  refine zJ_bipush (v := 12) dX9_init_424 (by decide) ?_
  refine zJ_newi (len := 12) 167 dX9_init_426 (by decide) rfl (by decide) rfl (I34.2.2.1 67 (by decide) (by decide) (by decide)) (by decide) (by simp [lv_args, znr, Value.category]) (by simp [znr]) (by decide) (by decide) ?_
  refine zJ_putF dX9_init_428 rfl fX9_116 (fun q hq => by cases hq; exact ⟨(List.mem_of_getElem? (i := 1499) rfl), rfl, rfl⟩) (by simp [znew, zrow, I34.1]) rfl (fun _ => rfl) (fun _ => rfl) (by simp [znew, zrow]) ?_
  have I35 := I34.r (c := (znew u34 167 (.inr (false, 12)))) (k := 67) (by decide) (by decide) (by decide) rfl zEq_new (by simp [znew]; rfl) (fun _ j => by simp [znew]) (fun j => by simp [znew])
  have G35 : ∀ j, j < 32 → (zsr (znew u34 167 (.inr (false, 12))) 100 67 (some (100 + 67))).2.1 162 j = -1 := fun j hj => by
    simp only [zsr, znew]; exact G34 j hj
  generalize zsr (znew u34 167 (.inr (false, 12))) 100 67 (some (100 + 67)) = u35 at I35 G35 ⊢
  refine zJ_aload_n dX9_init_431 rfl ?_
  refine zJ_sipush (v := 20000) dX9_init_432 (by decide) ?_
  refine zJ_newl (len := 20000) 168 dX9_init_435 (by decide) rfl (by decide) rfl (I35.2.2.1 68 (by decide) (by decide) (by decide)) (by decide) (by simp [lv_args, znr, Value.category]) (by simp [znr]) (by decide) (by decide) ?_
  refine zJ_putF dX9_init_437 rfl fX9_119 (fun q hq => by cases hq; exact ⟨(List.mem_of_getElem? (i := 1500) rfl), rfl, rfl⟩) (by simp [znew, zrow, I35.1]) rfl (fun _ => rfl) (fun _ => rfl) (by simp [znew, zrow]) ?_
  have I36 := I35.r (c := (znew u35 168 (.inr (true, 20000)))) (k := 68) (by decide) (by decide) (by decide) rfl zEq_new (by simp [znew]; rfl) (fun _ j => by simp [znew]) (fun j => by simp [znew])
  have G36 : ∀ j, j < 32 → (zsr (znew u35 168 (.inr (true, 20000))) 100 68 (some (100 + 68))).2.1 162 j = -1 := fun j hj => by
    simp only [zsr, znew]; exact G35 j hj
  generalize zsr (znew u35 168 (.inr (true, 20000))) 100 68 (some (100 + 68)) = u36 at I36 G36 ⊢
  refine zJ_aload_n dX9_init_440 rfl ?_
  refine zJ_sipush (v := 20000) dX9_init_441 (by decide) ?_
  refine zJ_newl (len := 20000) 169 dX9_init_444 (by decide) rfl (by decide) rfl (I36.2.2.1 69 (by decide) (by decide) (by decide)) (by decide) (by simp [lv_args, znr, Value.category]) (by simp [znr]) (by decide) (by decide) ?_
  refine zJ_putF dX9_init_446 rfl fX9_122 (fun q hq => by cases hq; exact ⟨(List.mem_of_getElem? (i := 1501) rfl), rfl, rfl⟩) (by simp [znew, zrow, I36.1]) rfl (fun _ => rfl) (fun _ => rfl) (by simp [znew, zrow]) ?_
  have I37 := I36.r (c := (znew u36 169 (.inr (true, 20000)))) (k := 69) (by decide) (by decide) (by decide) rfl zEq_new (by simp [znew]; rfl) (fun _ j => by simp [znew]) (fun j => by simp [znew])
  have G37 : ∀ j, j < 32 → (zsr (znew u36 169 (.inr (true, 20000))) 100 69 (some (100 + 69))).2.1 162 j = -1 := fun j hj => by
    simp only [zsr, znew]; exact G36 j hj
  generalize zsr (znew u36 169 (.inr (true, 20000))) 100 69 (some (100 + 69)) = u37 at I37 G37 ⊢
  refine zJ_aload_n dX9_init_449 rfl ?_
  refine zJ_bipush (v := 8) dX9_init_450 (by decide) ?_
  refine zJ_newl (len := 8) 170 dX9_init_452 (by decide) rfl (by decide) rfl (I37.2.2.1 70 (by decide) (by decide) (by decide)) (by decide) (by simp [lv_args, znr, Value.category]) (by simp [znr]) (by decide) (by decide) ?_
  refine zJ_putF dX9_init_454 rfl fX9_125 (fun q hq => by cases hq; exact ⟨(List.mem_of_getElem? (i := 1502) rfl), rfl, rfl⟩) (by simp [znew, zrow, I37.1]) rfl (fun _ => rfl) (fun _ => rfl) (by simp [znew, zrow]) ?_
  have I38 := I37.r (c := (znew u37 170 (.inr (true, 8)))) (k := 70) (by decide) (by decide) (by decide) rfl zEq_new (by simp [znew]; rfl) (fun _ j => by simp [znew]) (fun j => by simp [znew])
  have G38 : ∀ j, j < 32 → (zsr (znew u37 170 (.inr (true, 8))) 100 70 (some (100 + 70))).2.1 162 j = -1 := fun j hj => by
    simp only [zsr, znew]; exact G37 j hj
  generalize zsr (znew u37 170 (.inr (true, 8))) 100 70 (some (100 + 70)) = u38 at I38 G38 ⊢
  refine zJ_aload_n dX9_init_457 rfl ?_
  refine zJ_bipush (v := 30) dX9_init_458 (by decide) ?_
  refine zJ_newi (len := 30) 172 dX9_init_460 (by decide) rfl (by decide) rfl (I38.2.2.1 72 (by decide) (by decide) (by decide)) (by decide) (by simp [lv_args, znr, Value.category]) (by simp [znr]) (by decide) (by decide) ?_
  refine zJ_putF dX9_init_462 rfl fX9_128 (fun q hq => by cases hq; exact ⟨(List.mem_of_getElem? (i := 1504) rfl), rfl, rfl⟩) (by simp [znew, zrow, I38.1]) rfl (fun _ => rfl) (fun _ => rfl) (by simp [znew, zrow]) ?_
  have I39 := I38.r (c := (znew u38 172 (.inr (false, 30)))) (k := 72) (by decide) (by decide) (by decide) rfl zEq_new (by simp [znew]; rfl) (fun _ j => by simp [znew]) (fun j => by simp [znew])
  have G39 : ∀ j, j < 32 → (zsr (znew u38 172 (.inr (false, 30))) 100 72 (some (100 + 72))).2.1 162 j = -1 := fun j hj => by
    simp only [zsr, znew]; exact G38 j hj
  generalize zsr (znew u38 172 (.inr (false, 30))) 100 72 (some (100 + 72)) = u39 at I39 G39 ⊢
  refine zJ_aload_n dX9_init_465 rfl ?_
  refine zJ_bipush (v := 30) dX9_init_466 (by decide) ?_
  refine zJ_newi (len := 30) 173 dX9_init_468 (by decide) rfl (by decide) rfl (I39.2.2.1 73 (by decide) (by decide) (by decide)) (by decide) (by simp [lv_args, znr, Value.category]) (by simp [znr]) (by decide) (by decide) ?_
  refine zJ_putF dX9_init_470 rfl fX9_131 (fun q hq => by cases hq; exact ⟨(List.mem_of_getElem? (i := 1505) rfl), rfl, rfl⟩) (by simp [znew, zrow, I39.1]) rfl (fun _ => rfl) (fun _ => rfl) (by simp [znew, zrow]) ?_
  have I40 := I39.r (c := (znew u39 173 (.inr (false, 30)))) (k := 73) (by decide) (by decide) (by decide) rfl zEq_new (by simp [znew]; rfl) (fun _ j => by simp [znew]) (fun j => by simp [znew])
  have G40 : ∀ j, j < 32 → (zsr (znew u39 173 (.inr (false, 30))) 100 73 (some (100 + 73))).2.1 162 j = -1 := fun j hj => by
    simp only [zsr, znew]; exact G39 j hj
  generalize zsr (znew u39 173 (.inr (false, 30))) 100 73 (some (100 + 73)) = u40 at I40 G40 ⊢
  refine zJ_aload_n dX9_init_473 rfl ?_
  refine zJ_bipush (v := 8) dX9_init_474 (by decide) ?_
  refine zJ_newi (len := 8) 174 dX9_init_476 (by decide) rfl (by decide) rfl (I40.2.2.1 74 (by decide) (by decide) (by decide)) (by decide) (by simp [lv_args, znr, Value.category]) (by simp [znr]) (by decide) (by decide) ?_
  refine zJ_putF dX9_init_478 rfl fX9_134 (fun q hq => by cases hq; exact ⟨(List.mem_of_getElem? (i := 1506) rfl), rfl, rfl⟩) (by simp [znew, zrow, I40.1]) rfl (fun _ => rfl) (fun _ => rfl) (by simp [znew, zrow]) ?_
  have I41 := I40.r (c := (znew u40 174 (.inr (false, 8)))) (k := 74) (by decide) (by decide) (by decide) rfl zEq_new (by simp [znew]; rfl) (fun _ j => by simp [znew]) (fun j => by simp [znew])
  have G41 : ∀ j, j < 32 → (zsr (znew u40 174 (.inr (false, 8))) 100 74 (some (100 + 74))).2.1 162 j = -1 := fun j hj => by
    simp only [zsr, znew]; exact G40 j hj
  generalize zsr (znew u40 174 (.inr (false, 8))) 100 74 (some (100 + 74)) = u41 at I41 G41 ⊢
  refine zJ_aload_n dX9_init_481 rfl ?_
  refine zJ_bipush (v := 32) dX9_init_482 (by decide) ?_
  refine zJ_newl (len := 32) 175 dX9_init_484 (by decide) rfl (by decide) rfl (I41.2.2.1 75 (by decide) (by decide) (by decide)) (by decide) (by simp [lv_args, znr, Value.category]) (by simp [znr]) (by decide) (by decide) ?_
  refine zJ_putF dX9_init_486 rfl fX9_137 (fun q hq => by cases hq; exact ⟨(List.mem_of_getElem? (i := 1507) rfl), rfl, rfl⟩) (by simp [znew, zrow, I41.1]) rfl (fun _ => rfl) (fun _ => rfl) (by simp [znew, zrow]) ?_
  have I42 := I41.r (c := (znew u41 175 (.inr (true, 32)))) (k := 75) (by decide) (by decide) (by decide) rfl zEq_new (by simp [znew]; rfl) (fun _ j => by simp [znew]) (fun j => by simp [znew])
  have G42 : ∀ j, j < 32 → (zsr (znew u41 175 (.inr (true, 32))) 100 75 (some (100 + 75))).2.1 162 j = -1 := fun j hj => by
    simp only [zsr, znew]; exact G41 j hj
  generalize zsr (znew u41 175 (.inr (true, 32))) 100 75 (some (100 + 75)) = u42 at I42 G42 ⊢
  refine zJ_aload_n dX9_init_489 rfl ?_
  refine zJ_iconst (v := 3) dX9_init_490 (by decide) ?_
  refine zJ_newi (len := 3) 178 dX9_init_491 (by decide) rfl (by decide) rfl (I42.2.2.1 78 (by decide) (by decide) (by decide)) (by decide) (by simp [lv_args, znr, Value.category]) (by simp [znr]) (by decide) (by decide) ?_
  refine zJ_putF dX9_init_493 rfl fX9_140 (fun q hq => by cases hq; exact ⟨(List.mem_of_getElem? (i := 1510) rfl), rfl, rfl⟩) (by simp [znew, zrow, I42.1]) rfl (fun _ => rfl) (fun _ => rfl) (by simp [znew, zrow]) ?_
  have I43 := I42.r (c := (znew u42 178 (.inr (false, 3)))) (k := 78) (by decide) (by decide) (by decide) rfl zEq_new (by simp [znew]; rfl) (fun _ j => by simp [znew]) (fun j => by simp [znew])
  have G43 : ∀ j, j < 32 → (zsr (znew u42 178 (.inr (false, 3))) 100 78 (some (100 + 78))).2.1 162 j = -1 := fun j hj => by
    simp only [zsr, znew]; exact G42 j hj
  generalize zsr (znew u42 178 (.inr (false, 3))) 100 78 (some (100 + 78)) = u43 at I43 G43 ⊢
  refine zJ_aload_n dX9_init_496 rfl ?_
  refine zJ_bipush (v := 8) dX9_init_497 (by decide) ?_
  refine zJ_newi (len := 8) 179 dX9_init_499 (by decide) rfl (by decide) rfl (I43.2.2.1 79 (by decide) (by decide) (by decide)) (by decide) (by simp [lv_args, znr, Value.category]) (by simp [znr]) (by decide) (by decide) ?_
  refine zJ_putF dX9_init_501 rfl fX9_143 (fun q hq => by cases hq; exact ⟨(List.mem_of_getElem? (i := 1511) rfl), rfl, rfl⟩) (by simp [znew, zrow, I43.1]) rfl (fun _ => rfl) (fun _ => rfl) (by simp [znew, zrow]) ?_
  have I44 := I43.r (c := (znew u43 179 (.inr (false, 8)))) (k := 79) (by decide) (by decide) (by decide) rfl zEq_new (by simp [znew]; rfl) (fun _ j => by simp [znew]) (fun j => by simp [znew])
  have G44 : ∀ j, j < 32 → (zsr (znew u43 179 (.inr (false, 8))) 100 79 (some (100 + 79))).2.1 162 j = -1 := fun j hj => by
    simp only [zsr, znew]; exact G43 j hj
  generalize zsr (znew u43 179 (.inr (false, 8))) 100 79 (some (100 + 79)) = u44 at I44 G44 ⊢
  refine zJ_aload_n dX9_init_504 rfl ?_
  refine zJ_bipush (v := 100) dX9_init_505 (by decide) ?_
  refine zJ_newi (len := 100) 180 dX9_init_507 (by decide) rfl (by decide) rfl (I44.2.2.1 80 (by decide) (by decide) (by decide)) (by decide) (by simp [lv_args, znr, Value.category]) (by simp [znr]) (by decide) (by decide) ?_
  refine zJ_putF dX9_init_509 rfl fX9_146 (fun q hq => by cases hq; exact ⟨(List.mem_of_getElem? (i := 1512) rfl), rfl, rfl⟩) (by simp [znew, zrow, I44.1]) rfl (fun _ => rfl) (fun _ => rfl) (by simp [znew, zrow]) ?_
  have I45 := I44.r (c := (znew u44 180 (.inr (false, 100)))) (k := 80) (by decide) (by decide) (by decide) rfl zEq_new (by simp [znew]; rfl) (fun _ j => by simp [znew]) (fun j => by simp [znew])
  have G45 : ∀ j, j < 32 → (zsr (znew u44 180 (.inr (false, 100))) 100 80 (some (100 + 80))).2.1 162 j = -1 := fun j hj => by
    simp only [zsr, znew]; exact G44 j hj
  generalize zsr (znew u44 180 (.inr (false, 100))) 100 80 (some (100 + 80)) = u45 at I45 G45 ⊢
  refine zJ_aload_n dX9_init_512 rfl ?_
  refine zJ_bipush (v := 100) dX9_init_513 (by decide) ?_
  refine zJ_newi (len := 100) 181 dX9_init_515 (by decide) rfl (by decide) rfl (I45.2.2.1 81 (by decide) (by decide) (by decide)) (by decide) (by simp [lv_args, znr, Value.category]) (by simp [znr]) (by decide) (by decide) ?_
  refine zJ_putF dX9_init_517 rfl fX9_149 (fun q hq => by cases hq; exact ⟨(List.mem_of_getElem? (i := 1513) rfl), rfl, rfl⟩) (by simp [znew, zrow, I45.1]) rfl (fun _ => rfl) (fun _ => rfl) (by simp [znew, zrow]) ?_
  have I46 := I45.r (c := (znew u45 181 (.inr (false, 100)))) (k := 81) (by decide) (by decide) (by decide) rfl zEq_new (by simp [znew]; rfl) (fun _ j => by simp [znew]) (fun j => by simp [znew])
  have G46 : ∀ j, j < 32 → (zsr (znew u45 181 (.inr (false, 100))) 100 81 (some (100 + 81))).2.1 162 j = -1 := fun j hj => by
    simp only [zsr, znew]; exact G45 j hj
  generalize zsr (znew u45 181 (.inr (false, 100))) 100 81 (some (100 + 81)) = u46 at I46 G46 ⊢
  refine zJ_aload_n dX9_init_520 rfl ?_
  refine zJ_bipush (v := 100) dX9_init_521 (by decide) ?_
  refine zJ_newi (len := 100) 182 dX9_init_523 (by decide) rfl (by decide) rfl (I46.2.2.1 82 (by decide) (by decide) (by decide)) (by decide) (by simp [lv_args, znr, Value.category]) (by simp [znr]) (by decide) (by decide) ?_
  refine zJ_putF dX9_init_525 rfl fX9_152 (fun q hq => by cases hq; exact ⟨(List.mem_of_getElem? (i := 1514) rfl), rfl, rfl⟩) (by simp [znew, zrow, I46.1]) rfl (fun _ => rfl) (fun _ => rfl) (by simp [znew, zrow]) ?_
  have I47 := I46.r (c := (znew u46 182 (.inr (false, 100)))) (k := 82) (by decide) (by decide) (by decide) rfl zEq_new (by simp [znew]; rfl) (fun _ j => by simp [znew]) (fun j => by simp [znew])
  have G47 : ∀ j, j < 32 → (zsr (znew u46 182 (.inr (false, 100))) 100 82 (some (100 + 82))).2.1 162 j = -1 := fun j hj => by
    simp only [zsr, znew]; exact G46 j hj
  generalize zsr (znew u46 182 (.inr (false, 100))) 100 82 (some (100 + 82)) = u47 at I47 G47 ⊢
  refine zJ_aload_n dX9_init_528 rfl ?_
  refine zJ_iconst (v := 3) dX9_init_529 (by decide) ?_
  refine zJ_newi (len := 3) 183 dX9_init_530 (by decide) rfl (by decide) rfl (I47.2.2.1 83 (by decide) (by decide) (by decide)) (by decide) (by simp [lv_args, znr, Value.category]) (by simp [znr]) (by decide) (by decide) ?_
  refine zJ_putF dX9_init_532 rfl fX9_155 (fun q hq => by cases hq; exact ⟨(List.mem_of_getElem? (i := 1515) rfl), rfl, rfl⟩) (by simp [znew, zrow, I47.1]) rfl (fun _ => rfl) (fun _ => rfl) (by simp [znew, zrow]) ?_
  have I48 := I47.r (c := (znew u47 183 (.inr (false, 3)))) (k := 83) (by decide) (by decide) (by decide) rfl zEq_new (by simp [znew]; rfl) (fun _ j => by simp [znew]) (fun j => by simp [znew])
  have G48 : ∀ j, j < 32 → (zsr (znew u47 183 (.inr (false, 3))) 100 83 (some (100 + 83))).2.1 162 j = -1 := fun j hj => by
    simp only [zsr, znew]; exact G47 j hj
  generalize zsr (znew u47 183 (.inr (false, 3))) 100 83 (some (100 + 83)) = u48 at I48 G48 ⊢
  refine zJ_aload_n dX9_init_535 rfl ?_
  refine zJ_bipush (v := 8) dX9_init_536 (by decide) ?_
  refine zJ_newi (len := 8) 184 dX9_init_538 (by decide) rfl (by decide) rfl (I48.2.2.1 84 (by decide) (by decide) (by decide)) (by decide) (by simp [lv_args, znr, Value.category]) (by simp [znr]) (by decide) (by decide) ?_
  refine zJ_putF dX9_init_540 rfl fX9_158 (fun q hq => by cases hq; exact ⟨(List.mem_of_getElem? (i := 1516) rfl), rfl, rfl⟩) (by simp [znew, zrow, I48.1]) rfl (fun _ => rfl) (fun _ => rfl) (by simp [znew, zrow]) ?_
  have I49 := I48.r (c := (znew u48 184 (.inr (false, 8)))) (k := 84) (by decide) (by decide) (by decide) rfl zEq_new (by simp [znew]; rfl) (fun _ j => by simp [znew]) (fun j => by simp [znew])
  have G49 : ∀ j, j < 32 → (zsr (znew u48 184 (.inr (false, 8))) 100 84 (some (100 + 84))).2.1 162 j = -1 := fun j hj => by
    simp only [zsr, znew]; exact G48 j hj
  generalize zsr (znew u48 184 (.inr (false, 8))) 100 84 (some (100 + 84)) = u49 at I49 G49 ⊢
  refine zJ_aload_n dX9_init_543 rfl ?_
  refine zJ_bipush (v := 100) dX9_init_544 (by decide) ?_
  refine zJ_newi (len := 100) 185 dX9_init_546 (by decide) rfl (by decide) rfl (I49.2.2.1 85 (by decide) (by decide) (by decide)) (by decide) (by simp [lv_args, znr, Value.category]) (by simp [znr]) (by decide) (by decide) ?_
  refine zJ_putF dX9_init_548 rfl fX9_161 (fun q hq => by cases hq; exact ⟨(List.mem_of_getElem? (i := 1517) rfl), rfl, rfl⟩) (by simp [znew, zrow, I49.1]) rfl (fun _ => rfl) (fun _ => rfl) (by simp [znew, zrow]) ?_
  have I50 := I49.r (c := (znew u49 185 (.inr (false, 100)))) (k := 85) (by decide) (by decide) (by decide) rfl zEq_new (by simp [znew]; rfl) (fun _ j => by simp [znew]) (fun j => by simp [znew])
  have G50 : ∀ j, j < 32 → (zsr (znew u49 185 (.inr (false, 100))) 100 85 (some (100 + 85))).2.1 162 j = -1 := fun j hj => by
    simp only [zsr, znew]; exact G49 j hj
  generalize zsr (znew u49 185 (.inr (false, 100))) 100 85 (some (100 + 85)) = u50 at I50 G50 ⊢
  refine zJ_aload_n dX9_init_551 rfl ?_
  refine zJ_bipush (v := 100) dX9_init_552 (by decide) ?_
  refine zJ_newi (len := 100) 186 dX9_init_554 (by decide) rfl (by decide) rfl (I50.2.2.1 86 (by decide) (by decide) (by decide)) (by decide) (by simp [lv_args, znr, Value.category]) (by simp [znr]) (by decide) (by decide) ?_
  refine zJ_putF dX9_init_556 rfl fX9_164 (fun q hq => by cases hq; exact ⟨(List.mem_of_getElem? (i := 1518) rfl), rfl, rfl⟩) (by simp [znew, zrow, I50.1]) rfl (fun _ => rfl) (fun _ => rfl) (by simp [znew, zrow]) ?_
  have I51 := I50.r (c := (znew u50 186 (.inr (false, 100)))) (k := 86) (by decide) (by decide) (by decide) rfl zEq_new (by simp [znew]; rfl) (fun _ j => by simp [znew]) (fun j => by simp [znew])
  have G51 : ∀ j, j < 32 → (zsr (znew u50 186 (.inr (false, 100))) 100 86 (some (100 + 86))).2.1 162 j = -1 := fun j hj => by
    simp only [zsr, znew]; exact G50 j hj
  generalize zsr (znew u50 186 (.inr (false, 100))) 100 86 (some (100 + 86)) = u51 at I51 G51 ⊢
  refine zJ_aload_n dX9_init_559 rfl ?_
  refine zJ_bipush (v := 100) dX9_init_560 (by decide) ?_
  refine zJ_newi (len := 100) 187 dX9_init_562 (by decide) rfl (by decide) rfl (I51.2.2.1 87 (by decide) (by decide) (by decide)) (by decide) (by simp [lv_args, znr, Value.category]) (by simp [znr]) (by decide) (by decide) ?_
  refine zJ_putF dX9_init_564 rfl fX9_167 (fun q hq => by cases hq; exact ⟨(List.mem_of_getElem? (i := 1519) rfl), rfl, rfl⟩) (by simp [znew, zrow, I51.1]) rfl (fun _ => rfl) (fun _ => rfl) (by simp [znew, zrow]) ?_
  have I52 := I51.r (c := (znew u51 187 (.inr (false, 100)))) (k := 87) (by decide) (by decide) (by decide) rfl zEq_new (by simp [znew]; rfl) (fun _ j => by simp [znew]) (fun j => by simp [znew])
  have G52 : ∀ j, j < 32 → (zsr (znew u51 187 (.inr (false, 100))) 100 87 (some (100 + 87))).2.1 162 j = -1 := fun j hj => by
    simp only [zsr, znew]; exact G51 j hj
  generalize zsr (znew u51 187 (.inr (false, 100))) 100 87 (some (100 + 87)) = u52 at I52 G52 ⊢
  have hall : ∀ k, k < 88 → k ∈ [87, 86, 85, 84, 83, 82, 81, 80, 79, 78, 75, 74, 73, 72, 70, 69, 68, 67, 65, 64, 63, 62, 60, 59, 58, 57, 54, 53, 52, 51, 50, 49, 48, 44, 43, 42, 41, 40, 39, 37, 36, 35, 17, 13, 12, 11, 10] ∨ k = 0 ∨ zSM k = none := by decide
  refine zJ_vret dX9_init_567 rfl (by decide) (by decide) ⟨rfl, I52.2.2.2.1, ⟨fun k hk => ?_, fun k hk hs => ?_⟩, fun j => ?_, I52.2.2.2.2.2, fun k h1 h2 hs => ?_, G52⟩
  · rcases hall k hk with h | h | h
    · exact (I52.2.1 k h).1
    · subst h; exact I52.1
    · rw [h]
      refine I52.2.2.1 k (Nat.pos_of_ne_zero (fun e => by subst e; cases h)) (by omega) (fun h9 => ?_)
      exact absurd h ((by decide : ∀ k ∈ [87, 86, 85, 84, 83, 82, 81, 80, 79, 78, 75, 74, 73, 72, 70, 69, 68, 67, 65, 64, 63, 62, 60, 59, 58, 57, 54, 53, 52, 51, 50, 49, 48, 44, 43, 42, 41, 40, 39, 37, 36, 35, 17, 13, 12, 11, 10], ¬ zSM k = none) k h9)
  · have hk88 : k < 88 := Nat.lt_of_not_le fun h => by
      have : zSM k = none := by
        simp only [zSM]
        rw [List.getElem?_eq_none (l := zSMl) (Nat.le_trans (by decide) h)]; rfl
      rw [this] at hs; cases hs
    rcases hall k hk88 with h | h | h
    · exact (I52.2.1 k h).2.1
    · omega
    · rw [h] at hs; cases hs
  · rw [I52.2.2.2.2.1 j]
    exact (zm_ints j)
  · rcases hall k (by omega) with h | h | h
    · exact (I52.2.1 k h).2.2
    · omega
    · rw [h] at hs; cases hs
