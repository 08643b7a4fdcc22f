/-! LetterTown$Weeks: one week -/
theorem zGr.eq {w c : zW} {b R m : Nat} {T : zTo} {K : List zKy} (h : zGr w b R m T K) (h1 : c.1 = w.1) (h2 : c.2.2.2 = w.2.2.2) (h3 : ∀ a j, b ≤ a → a ≤ b + 18 → c.2.1 a j = w.2.1 a j) (h4 : ∀ a j, b ≤ a → a ≤ b + 18 → c.2.2.1 a j = w.2.2.1 a j) : zGr c b R m T K := by
  obtain ⟨hS, hi, hT, hall, hL, hrow⟩ := h
  have ei : ∀ a, b ≤ a → a ≤ b + 18 → c.2.1 a = w.2.1 a := fun a x y => funext fun j => h3 a j x y
  have el : ∀ a, b ≤ a → a ≤ b + 18 → c.2.2.1 a = w.2.2.1 a := fun a x y => funext fun j => h4 a j x y
  refine ⟨hS.ff h1 h2 (h3 _ _ (by omega) (by omega)), hi.eq (hi.1.ff h1 h2) (fun a j ha => h3 _ _ (by omega) (by omega)), hT, hall, hL.fr (el _ (by omega) (by omega)) (h3 _ _ (by omega) (by omega)) (ei _ (by omega) (by omega)), ?_⟩
  rw [ei (b + 6 + 2) (by omega) (by omega), ei (b + 6 + 3) (by omega) (by omega)]
  exact hrow
theorem zPO.out {w c : zW} {b R m : Nat} {U T : zTo} {K : List zKy} (h : zPO w b R m U T K) (h1 : c.1 = w.1) (h2 : c.2.2.2 = w.2.2.2) (h3 : ∀ a j, b ≤ a → a ≤ b + 18 → c.2.1 a j = w.2.1 a j) (h4 : ∀ a j, b ≤ a → a ≤ b + 18 → c.2.2.1 a j = w.2.2.1 a j) : zPO c b R m U T K := by
  obtain ⟨hG, hga, hca, h11, h6, h7, hcan, hU⟩ := h
  have ei : ∀ a, b ≤ a → a ≤ b + 18 → c.2.1 a = w.2.1 a := fun a x y => funext fun j => h3 a j x y
  have el : ∀ a, b ≤ a → a ≤ b + 18 → c.2.2.1 a = w.2.2.1 a := fun a x y => funext fun j => h4 a j x y
  exact ⟨hG.eq h1 h2 h3 h4, hga.eq (ei _ (by omega) (by omega)) (ei _ (by omega) (by omega)) (el _ (by omega) (by omega)) (el _ (by omega) (by omega)), hca.eq (h3 _ _ (by omega) (by omega)) (el _ (by omega) (by omega)), (h3 _ _ (by omega) (by omega)).trans h11, (h3 _ _ (by omega) (by omega)).trans h6, (h3 _ _ (by omega) (by omega)).trans h7, hcan, hU⟩
theorem zChs.out {w c : zW} {b : Nat} {T : zTo} {K : List zKy} (h : zChs w b T K) (h3 : ∀ j, c.2.1 (b + 13) j = w.2.1 (b + 13) j) : zChs c b T K := fun x k hx h9 => (h3 x).trans (h x k hx h9)
theorem zsi_o {w : zW} {i j a b : Nat} {x : Int32} (h : ¬ a = i) : (zsi w i j x).2.1 a b = w.2.1 a b := by simp [zsi, h]
theorem zsi_self (w : zW) (i j : Nat) : zsi w i j (w.2.1 i j) = w := by
  refine Prod.ext rfl (Prod.ext (funext fun a => funext fun b => ?_) rfl)
  simp only [zsi]
  split
  · rename_i h; rw [h.1, h.2]
  · rfl
theorem zsi_si (w : zW) (i j : Nat) (x y : Int32) : zsi (zsi w i j x) i j y = zsi w i j y := by
  refine Prod.ext rfl (Prod.ext (funext fun a => funext fun b => ?_) rfl)
  simp only [zsi]
  split <;> rfl
theorem zsi_at (w : zW) (i j : Nat) (x : Int32) : (zsi w i j x).2.1 i j = x := by simp [zsi]
/-- the first at which what is drawn is passed -/
def zpk (u : Nat → Nat) (d : Nat) : Nat → Option Nat
  | 0 => none
  | y + 1 => match zpk u d y with
    | some q => some q
    | none => if d < fb_sm u (y + 1) then some y else none
theorem zpk_none {u : Nat → Nat} {d : Nat} : ∀ {n : Nat}, zpk u d n = none → fb_sm u n ≤ d
  | 0, _ => by simp [fb_sm]
  | n + 1, h => by
    simp only [zpk] at h
    split at h
    · cases h
    · split at h
      · cases h
      · omega
theorem zpk_some {u : Nat → Nat} {d : Nat} : ∀ {n q : Nat}, zpk u d n = some q → q < n ∧ 0 < u q
  | 0, q, h => by cases h
  | n + 1, q, h => by
    simp only [zpk] at h
    split at h
    · rename_i q2 h2
      cases h
      have := zpk_some h2
      omega
    · rename_i h2
      split at h
      · cases h
        have := zpk_none h2
        rename_i h9
        rw [fb_sm_succ] at h9
        omega
      · cases h
theorem zpk_more {u : Nat → Nat} {d n q : Nat} (h : zpk u d n = some q) : ∀ e, zpk u d (n + e) = some q
  | 0 => h
  | e + 1 => by rw [← Nat.add_assoc]; simp only [zpk, zpk_more h e]
def zgU (T : zTo) (k : zKy) (out : Nat → Bool) (y : Nat) : Nat := if zmay T k y && !out y then T.2.2.2 (k.1 * 8 + y) else 0
def zgp (T : zTo) (k : zKy) (out : Nat → Bool) (s : Int32) : Option Nat × Int32 := if fb_sm (zgU T k out) 8 = 0 then (none, s) else (zpk (zgU T k out) (zd15 (zdr s) % fb_sm (zgU T k out) 8) 8, zdr s)
def zgt (T : zTo) (k : zKy) (out : Nat → Bool) (s : Int32) : Option Nat × Int32 := if T.2.1 k.1 = 3 then (match zcC T k with | none => (none, s) | some q => if out q then (none, s) else (some q, s)) else zgp T k out s
/-- to whom it goes in a week, and the seed behind -/
def zgo (T : zTo) (k : zKy) (out : Nat → Bool) (s : Int32) : Option Nat × Int32 :=
  if zmb T k = 0 then (none, s) else if T.2.1 k.1 = 2 then (if zd15 (zdr s) % 1000 < T.2.2.1 k.1 then (none, zdr s) else zgt T k out (zdr s)) else if 0 < zsh T k (zcC T k) then (none, s) else zgt T k out s
def zwk (T : zTo) (out : Nat → Bool) : Nat → zKy → Int32 → zKy × Int32
  | 0, k, s => (k, s)
  | n + 1, k, s => match (zgo T k out s).1 with
    | none => (k, (zgo T k out s).2)
    | some y => zwk T out n (zbk T k y) (zgo T k out s).2
set_option maxRecDepth 100000 in
theorem c_Weeks_drawnOf (Δ : zD) (w : zW) (b R m : Nat) (T : zTo) (K : List zKy) (hG : zGr w b R m T K) (i : Nat) (hW : zWk w i) (hib : i + 3 < b ∨ b + 18 < i) (a B : Nat) (ha : a < 8) (hB : B < 256) (hU : 0 < zwt T a B 8) : zMd Δ 2 0 0 true yX7_drawnOf mX7_drawnOf [.ref i, .ref b, .int (nI a), .int (nI B)] w (some (.int (zoi (zpk (fun y => if B.testBit y then zwu T a y else 0) (zd15 (zdr (w.2.1 i 1)) % zwt T a B 8) 8)))) (zsi w i 1 (zdr (w.2.1 i 1))) := by
  refine zMd.of mfX7_drawnOf (Nat.le_of_ble_eq_true rfl) (fun QR hQ => ?_)
  have hT0 := hG.2.2.1
  have hpb := hG.1.1
  have hW0 := hW
  obtain ⟨k0, v1, v2, v3, l1, l2, l3⟩ := hW
  have hUl := zwt_le (B := B) hT0 ha 8 (Nat.le_refl 8)
  have hd := Nat.mod_lt (zd15 (zdr (w.2.1 i 1))) hU
  have hG1 : zGr (zsi w i 1 (zdr (w.2.1 i 1))) b R m T K := hG.eq rfl rfl (fun a j h1 h2 => zsi_o (by omega)) (fun _ _ _ _ => rfl)
  generalize hDd : (zd15 (zdr (w.2.1 i 1)) % zwt T a B 8) = d at hQ hd
  have hsm : ∀ j, zwt T a B j = fb_sm (fun y => if B.testBit y then zwu T a y else 0) j := fun _ => rfl
  have L : ∀ j, j ≤ 8 → zpk (fun y => if B.testBit y then zwu T a y else 0) d j = none → zJ Δ mX7_drawnOf (zRm 2 0 0) true w.1 QR (fun _ _ => False) 0 0 18 [(6, .int (nI j)), (5, .int (nI (zwt T a B j))), (4, .int (nI d)), (0, .ref i), (1, .ref b), (2, .int (nI a)), (3, .int (nI B))] [] (zsi w i 1 (zdr (w.2.1 i 1))) := by
    refine zup (fun j hj ih hnn => ?_)
    have hle := zpk_none hnn
    refine zJ_iload dX7_drawnOf_18 rfl ?_
    refine zJ_bipush (v := 8) dX7_drawnOf_20 (by decide) ?_
    refine zJ_icmp_ge (tgt := 62) dX7_drawnOf_22 (by decide) (fun h22 => ?_) (fun h22 => ?_)
    · have hj9 : j = 8 := by exact Nat.le_antisymm hj ((nI_leI (a := 8) (b := j) (by omega) (by omega)).mp h22)
      rw [hj9] at hnn
      rw [hnn] at hQ
      refine zJ_iconst (v := (-1)) dX7_drawnOf_62 (by decide) ?_
      exact zJ_iret dX7_drawnOf_63 rfl (by decide) (by decide) hQ
    · have hj9 : j < 8 := Nat.lt_of_not_le fun hq9 => h22 (by exact (nI_leI (a := 8) (b := j) (by omega) (by omega)).mpr hq9)
      have hUj := zwt_le (B := B) hT0 ha (j + 1) (by omega)
      refine zJ_iload_n dX7_drawnOf_25 rfl ?_
      refine zJ_iload dX7_drawnOf_26 rfl ?_
      refine zJ_ishr dX7_drawnOf_28 ?_
      refine zJ_iconst (v := 1) dX7_drawnOf_29 (by decide) ?_
      refine zJ_iand dX7_drawnOf_30 ?_
      rw [nI_bit (by omega) (by omega)]
      refine zJ_if_eq (tgt := 56) dX7_drawnOf_31 (by decide) (fun h31 => ?_) (fun h31 => ?_)
      · refine zJ_iinc (ls2 := fun x56 => [(6, .int x56), (5, .int (nI (zwt T a B j))), (4, .int (nI d)), (0, .ref i), (1, .ref b), (2, .int (nI a)), (3, .int (nI B))]) dX7_drawnOf_56 rfl (by decide) (fun _ => rfl) (fun x56 ex56 => ?_)
        refine zJ_goto (tgt := 18) dX7_drawnOf_59 (by decide) ?_
        refine zJ_ls [(6, .int x56), (5, .int (nI (zwt T a B j))), (4, .int (nI d)), (0, .ref i), (1, .ref b), (2, .int (nI a)), (3, .int (nI B))] (by simp) ?_
        rw [ex56, show nI j + Int32.ofInt 1 = nI (j + 1) from nI_1 _]
        have hb : B.testBit j = false := by
          cases hz : B.testBit j with
          | false => rfl
          | true =>
            rw [tb_of.mp hz] at h31
            exact absurd h31 (by decide)
        have e1 : zwt T a B (j + 1) = zwt T a B j := by simp [zwt, fb_sm_succ, hb]
        rw [← e1]
        refine ih (j + 1) (by omega) (by omega) ?_
        have e2 := e1
        rw [hsm, hsm] at e2
        simp only [zpk, hnn]
        rw [if_neg (by rw [e2]; omega)]
      · have hb : B.testBit j = true := by
          rw [tb_of]
          have h1 : ¬ B / 2 ^ j % 2 = 0 := fun h => h31 (by rw [h]; rfl)
          omega
        refine zJ_iload dX7_drawnOf_34 rfl ?_
        refine zJ_aload_n dX7_drawnOf_36 rfl ?_
        refine zJ_iload_n dX7_drawnOf_37 rfl ?_
        refine zJ_iload dX7_drawnOf_38 rfl ?_
        refine zJ_cV2 dX7_drawnOf_40 sX7_122 mfX1_weightTo (c_Play_weightTo Δ (zsi w i 1 (zdr (w.2.1 i 1))) b R m T K hG1 a j ha hj9) (by first | rfl | assumption) rfl (Nat.le_of_ble_eq_true rfl) (by decide) (by decide) ?_
        refine zJ_iadd dX7_drawnOf_43 ?_
        refine zJ_istore (ls2 := fun x44 => [(5, .int x44), (6, .int (nI j)), (4, .int (nI d)), (0, .ref i), (1, .ref b), (2, .int (nI a)), (3, .int (nI B))]) dX7_drawnOf_44 (by decide) (fun _ => rfl) (fun x44 ex44 => ?_)
        obtain rfl : x44 = (nI (zwt T a B (j + 1))) := by rw [ex44, na_add]; simp [zwt, fb_sm_succ, hb]
        refine zJ_iload dX7_drawnOf_46 rfl ?_
        refine zJ_iload dX7_drawnOf_48 rfl ?_
        refine zJ_icmp_le (tgt := 56) dX7_drawnOf_50 (by decide) (fun h50 => ?_) (fun h50 => ?_)
        · refine zJ_iinc (ls2 := fun x56 => [(6, .int x56), (5, .int (nI (zwt T a B (j + 1)))), (4, .int (nI d)), (0, .ref i), (1, .ref b), (2, .int (nI a)), (3, .int (nI B))]) dX7_drawnOf_56 rfl (by decide) (fun _ => rfl) (fun x56 ex56 => ?_)
          refine zJ_goto (tgt := 18) dX7_drawnOf_59 (by decide) ?_
          refine zJ_ls [(6, .int x56), (5, .int (nI (zwt T a B (j + 1)))), (4, .int (nI d)), (0, .ref i), (1, .ref b), (2, .int (nI a)), (3, .int (nI B))] (by simp) ?_
          rw [ex56, show nI j + Int32.ofInt 1 = nI (j + 1) from nI_1 _]
          refine ih (j + 1) (by omega) (by omega) ?_
          simp only [zpk, hnn]
          rw [if_neg (by rw [← hsm]; have := (nI_leI (a := zwt T a B (j + 1)) (b := d) (by omega) (by omega)).mp h50; omega)]
        · have hlt : d < fb_sm (fun y => if B.testBit y then zwu T a y else 0) (j + 1) := by
            rw [← hsm]
            exact Nat.lt_of_not_le fun h => h50 ((nI_leI (by omega) (by omega)).mpr h)
          have hres : zpk (fun y => if B.testBit y then zwu T a y else 0) d 8 = some j := by
            have h1 : zpk (fun y => if B.testBit y then zwu T a y else 0) d (j + 1) = some j := by simp only [zpk, hnn]; rw [if_pos hlt]
            have := zpk_more h1 (8 - (j + 1))
            rwa [show j + 1 + (8 - (j + 1)) = 8 by omega] at this
          rw [hres] at hQ
          refine zJ_iload dX7_drawnOf_53 rfl ?_
          exact zJ_iret dX7_drawnOf_55 rfl (by decide) (by decide) hQ
  refine zJ_aload_n dX7_drawnOf_0 rfl ?_
  refine zJ_aload_n dX7_drawnOf_1 rfl ?_
  refine zJ_iload_n dX7_drawnOf_2 rfl ?_
  refine zJ_iload_n dX7_drawnOf_3 rfl ?_
  refine zJ_cV2 dX7_drawnOf_4 sX7_118 mfX1_weightsTo (c_Play_weightsTo Δ w b R m T K hG a B ha hB) (by first | rfl | assumption) rfl (Nat.le_of_ble_eq_true rfl) (by decide) (by decide) ?_
  refine zJ_cV1 dX7_drawnOf_7 sX7_96 mfX7_draw (c_Weeks_draw Δ w i hW0 (zwt T a B 8) hU (by omega)) (by first | rfl | assumption) rfl (Nat.le_of_ble_eq_true rfl) (by decide) (by decide) ?_
  rw [hDd]
  refine zJ_istore (ls2 := fun x10 => [(4, .int x10), (0, .ref i), (1, .ref b), (2, .int (nI a)), (3, .int (nI B))]) dX7_drawnOf_10 (by decide) (fun _ => rfl) (fun x10 ex10 => ?_)
  obtain rfl : x10 = (nI d) := ex10
  refine zJ_iconst (v := 0) dX7_drawnOf_12 (by decide) ?_
  refine zJ_istore (ls2 := fun x13 => [(5, .int x13), (4, .int (nI d)), (0, .ref i), (1, .ref b), (2, .int (nI a)), (3, .int (nI B))]) dX7_drawnOf_13 (by decide) (fun _ => rfl) (fun x13 ex13 => ?_)
  obtain rfl : x13 = (nI (zwt T a B 0)) := ex13
  refine zJ_iconst (v := 0) dX7_drawnOf_15 (by decide) ?_
  refine zJ_istore (ls2 := fun x16 => [(6, .int x16), (5, .int (nI (zwt T a B 0))), (4, .int (nI d)), (0, .ref i), (1, .ref b), (2, .int (nI a)), (3, .int (nI B))]) dX7_drawnOf_16 (by decide) (fun _ => rfl) (fun x16 ex16 => ?_)
  obtain rfl : x16 = (nI 0) := ex16
  exact L 0 (Nat.zero_le _) rfl
