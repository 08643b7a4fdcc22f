/-! LetterTown$Reader: lines -/
def zT0 : zTo := (fun k => if k = 5 ∨ k = 6 ∨ k = 11 then 1 else if k = 7 then 8 else 0, fun _ => 0, fun _ => 0, fun _ => 0)
def zTs (T : zTo) (k v : Nat) : zTo := (fun j => if j = k then v else T.1 j, T.2)
def zTp (T : zTo) (s v : Nat) : zTo := (fun j => if j = 0 then T.1 0 + 1 else T.1 j, fun p => if p = T.1 0 then s else T.2.1 p, fun p => if p = T.1 0 then v else T.2.2.1 p, T.2.2.2)
def zTe (T : zTo) (a b v : Nat) : zTo := (T.1, T.2.1, T.2.2.1, fun i => if i = a * 8 + b then v else T.2.2.2 i)
abbrev zLX : Type := (Nat × Nat) ⊕ (zTo × zTkn)
def zlP (tx : Nat → Nat) (n : Nat) (T : zTo) (t : zTkn) : zLX :=
  if 8 ≤ T.1 0 then .inl (2, t.2.1) else match zso tx (ztk tx n t.2.2.1) with
  | none => .inl (1, (ztk tx n t.2.2.1).2.1)
  | some s => if s = 0 ∨ s = 2 then (match zrN 0 (if s = 2 then 1000 else 9999) (ztk tx n (ztk tx n t.2.2.1).2.2.1) with
      | .inl e => .inl e
      | .inr v => .inr (zTp T s v, ztk tx n (ztk tx n (ztk tx n t.2.2.1).2.2.1).2.2.1))
    else if s = 3 then (match zrP tx n 6 0 9999 0 (ztk tx n (ztk tx n t.2.2.1).2.2.1) with
      | .inl e => .inl e
      | .inr q => .inr (zTp T 3 q.1, q.2))
    else .inr (zTp T s 0, ztk tx n (ztk tx n t.2.2.1).2.2.1)
def zlK (tx : Nat → Nat) (n : Nat) (T : zTo) (t : zTkn) : zLX :=
  match zrK (T.1 0) (ztk tx n t.2.2.1) with
  | .inl e => .inl e
  | .inr a => match zrK (T.1 0) (ztk tx n (ztk tx n t.2.2.1).2.2.1) with
    | .inl e => .inl e
    | .inr b => if a = b ∨ T.2.2.2 (a * 8 + b) ≠ 0 then .inl (4, (ztk tx n (ztk tx n t.2.2.1).2.2.1).2.1) else
      match zrP tx n 11 1 99 1 (ztk tx n (ztk tx n (ztk tx n t.2.2.1).2.2.1).2.2.1) with
      | .inl e => .inl e
      | .inr q => .inr (zTe T a b q.1, q.2)
def zlL (tx : Nat → Nat) (n : Nat) (T : zTo) (t : zTkn) : zLX :=
  match zrN 0 9999 (ztk tx n t.2.2.1) with
  | .inl e => .inl e
  | .inr v1 => match zrN 0 99 (ztk tx n (ztk tx n t.2.2.1).2.2.1) with
    | .inl e => .inl e
    | .inr v2 => match zrN 1 12 (ztk tx n (ztk tx n (ztk tx n t.2.2.1).2.2.1).2.2.1) with
      | .inl e => .inl e
      | .inr v3 => match zrP tx n 12 0 9999 0 (ztk tx n (ztk tx n (ztk tx n (ztk tx n t.2.2.1).2.2.1).2.2.1).2.2.1) with
        | .inl e => .inl e
        | .inr q4 => match zrP tx n 13 0 9999 0 q4.2 with
          | .inl e => .inl e
          | .inr q5 => .inr (zTs (zTs (zTs (zTs (zTs T 5 v1) 6 v2) 7 v3) 8 q4.1) 9 q5.1, q5.2)
def zlW (tx : Nat → Nat) (n : Nat) (T : zTo) (t : zTkn) : zLX :=
  if zwd tx (ztk tx n t.2.2.1) 14 then .inr (zTs T 10 0, ztk tx n (ztk tx n t.2.2.1).2.2.1)
  else if zwd tx (ztk tx n t.2.2.1) 15 then .inr (zTs T 10 1, ztk tx n (ztk tx n t.2.2.1).2.2.1)
  else if zwd tx (ztk tx n t.2.2.1) 16 then .inr (zTs T 10 2, ztk tx n (ztk tx n t.2.2.1).2.2.1)
  else .inl (1, (ztk tx n t.2.2.1).2.1)
def zlX (tx : Nat → Nat) (n : Nat) (T : zTo) (t : zTkn) : zLX :=
  match zrN 1 99 (ztk tx n t.2.2.1) with
  | .inl e => .inl e
  | .inr v => .inr (zTs T 11 v, ztk tx n (ztk tx n t.2.2.1).2.2.1)
def zlF (tx : Nat → Nat) (n : Nat) (T : zTo) (t : zTkn) : zLX :=
  match zrK (T.1 0) (ztk tx n t.2.2.1) with
  | .inl e => .inl e
  | .inr v => .inr (zTs T 12 v, ztk tx n (ztk tx n t.2.2.1).2.2.1)
def zcl (x : zLX) : (Nat × Nat) ⊕ (zTo × Nat) := match x with
  | .inl e => .inl e
  | .inr q => if q.2.1 = 3 then .inr (q.1, q.2.2.2.1) else .inl (1, q.2.2.1)
def zFn (w c : zW) : Prop := c.1 = w.1 ∧ c.2.2 = w.2.2 ∧ ∀ a j, (a < 3 ∨ 8 < a ∨ (a = 3 ∧ (j ≤ 2 ∨ 8 ≤ j))) → c.2.1 a j = w.2.1 a j
theorem zFn.rf (w : zW) : zFn w w := ⟨rfl, rfl, fun _ _ _ => rfl⟩
theorem zFn.tr {w c d : zW} (h1 : zFn w c) (h2 : zFn c d) : zFn w d := ⟨h2.1.trans h1.1, h2.2.1.trans h1.2.1, fun a j h => (h2.2.2 a j h).trans (h1.2.2 a j h)⟩
theorem zFk.n {w c : zW} (h : zFk w c) : zFn w c := ⟨h.1, h.2.1, fun a j h1 => h.2.2 a j (by omega)⟩
theorem zFn.d {w c : zW} (h : zFn w c) : zFd w c := ⟨h.1, h.2.1, fun a j h1 => h.2.2 a j (by omega)⟩
theorem zFn.i {w : zW} {a j : Nat} {x : Int32} (h : (a = 3 ∧ 3 ≤ j ∧ j ≤ 7) ∨ (4 ≤ a ∧ a ≤ 8)) : zFn w (zsi w a j x) := ⟨rfl, rfl, fun a2 j2 h2 => by
  have h3 : ¬ (a2 = a ∧ j2 = j) := by omega
  simp [zsi, h3]⟩
theorem zTi.fk {w c : zW} {T : zTo} (h : zTi w 4 T) (hf : zFk w c) : zTi c 4 T := h.eq (h.1.ff hf.1 (congrArg Prod.snd hf.2.1)) (fun a j ha => hf.2.2 _ _ (by omega))
def zLr (w c : zW) (n : Nat) (r : Option Value) (x : (Nat × Nat) ⊕ (zTo × Nat)) : Prop := match x with
  | .inl e => r = some (.int 0) ∧ zEr w c e
  | .inr q => r = some (.int 1) ∧ zFn w c ∧ zTi c 4 q.1 ∧ c.2.1 3 3 = nI q.2 ∧ q.2 ≤ n
theorem zLr.ok {w c : zW} {n : Nat} {X : zLX} {T : zTo} {t : zTkn} (hx : X = .inr (T, t)) (hf : zFn w c) (hi : zTi c 4 T) (ht : zRp c t) (hle : t.2.2.1 ≤ n) (hk : t.1 = 3) : zLr w c n (some (.int 1)) (zcl X) := by
  rw [hx]; simp only [zcl, hk, if_true]; exact ⟨rfl, hf, hi, ht.1, hle⟩
theorem zLr.no {w c d : zW} {n : Nat} {X : zLX} {T : zTo} {t : zTkn} (hx : X = .inr (T, t)) (hf : zFn w c) (hk : ¬ t.1 = 3) (he : zEr c d (1, t.2.1)) : zLr w d n (some (.int 0)) (zcl X) := by
  rw [hx]; simp only [zcl, hk, if_false]; exact ⟨rfl, he.pre hf.d⟩
theorem zLr.er {w d : zW} {n : Nat} {X : zLX} {e : Nat × Nat} (hx : X = .inl e) (he : zEr w d e) : zLr w d n (some (.int 0)) (zcl X) := by
  rw [hx]; exact ⟨rfl, he⟩
theorem zTi.set {w : zW} {T : zTo} (h : zTi w 4 T) {k v : Nat} (hk : k < 14) (hk2 : k = 0 ∨ 5 ≤ k) : zTi (zsi w 4 k (nI v)) 4 (zTs T k v) := by
  obtain ⟨h0, h1, h2, h3, h4, h5⟩ := h
  refine ⟨h0, fun j a b => ?_, fun p a => ?_, fun p a => ?_, fun p a => ?_, fun p a => ?_⟩
  · by_cases hj : j = k
    · subst hj; simp [zsi, zTs]
    · simp [zsi, zTs, hj]; exact h1 j a b
  · simp [zsi]; exact h2 p a
  · simp [zsi]; exact h3 p a
  · simp [zsi]; exact h4 p a
  · simp [zsi]; exact h5 p a
theorem zTi.add {w : zW} {T : zTo} (h : zTi w 4 T) {s v : Nat} : zTi (zsi (zsi (zsi w 5 (T.1 0) (nI s)) 6 (T.1 0) (nI v)) 4 0 (nI (T.1 0 + 1))) 4 (zTp T s v) := by
  obtain ⟨h0, h1, h2, h3, h4, h5⟩ := h
  refine ⟨h0, fun j a b => ?_, fun p a => ?_, fun p a => ?_, fun p a => ?_, fun p a => ?_⟩
  · by_cases hj : j = 0
    · subst hj; simp [zsi, zTp]
    · simp [zsi, zTp, hj]; exact h1 j a b
  · by_cases hp : p = T.1 0
    · subst hp; simp [zsi, zTp]
    · simp [zsi, zTp, hp]; exact h2 p a
  · by_cases hp : p = T.1 0
    · subst hp; simp [zsi, zTp]
    · simp [zsi, zTp, hp]; exact h3 p a
  · simp [zsi]; exact h4 p a
  · simp [zsi, zTp]; exact h5 p a
set_option maxRecDepth 100000 in
theorem c_Rd_readWax (Δ : zD) (w : zW) (tx : Nat → Nat) (n : Nat) (t : zTkn) (T : zTo) (hR : zRe w tx n) (hi : zTi w 4 T) (hT : zTok T) (ht : zRp w t) (hle : t.2.2.1 ≤ n) : zMp Δ 6 yX2_readWax mX2_readWax [.ref 3] w (fun r c => zLr w c n r (zcl (zlX tx n T t))) := by
  refine zMp.of mfX2_readWax (Nat.le_of_ble_eq_true rfl) (fun QR hQ => ?_)
  have hC := hR.1
  refine zJ_aload_n dX2_readWax_0 rfl ?_
  refine zJ_iconst (v := 1) dX2_readWax_1 (by decide) ?_
  refine zJ_bipush (v := 99) dX2_readWax_2 (by decide) ?_
  refine zJ_eV2 dX2_readWax_4 sX2_122 mfX2_readNumber (c_Rd_readNumber Δ w tx n _ 1 99 hR hle ht.1 (by decide) (by decide)) (hC.1 _ (by decide)) rfl (Nat.le_of_ble_eq_true rfl) (by decide) (by decide) (fun r c hP => ?_)
  rcases hP with ⟨v, h1, rfl, h2, h3, h4⟩ | ⟨e, h1, rfl, h2⟩
  · have hC1 := hC.fk h2.1 h2.2.1
    refine zJ_if_ne (tgt := 12) dX2_readWax_7 (by decide) (fun _ => ?_) (fun h9 => False.elim (by revert h9; decide))
    refine zJ_aload_n dX2_readWax_12 rfl ?_
    refine zJ_getr dX2_readWax_13 fX2_12 (by first | rfl | assumption | exact hC1.1 _ (by decide)) rfl (by first | rfl | assumption | exact hC1.2 _ _ rfl) ?_
    refine zJ_aload_n dX2_readWax_16 rfl ?_
    refine zJ_geti dX2_readWax_17 fX2_67 (by first | rfl | assumption | exact hC1.1 _ (by decide)) rfl ?_
    rw [h4]
    refine zJ_puti dX2_readWax_20 fX2_190 (fun q h => by cases h; rfl) (by first | rfl | assumption | exact hC1.1 _ (by decide)) rfl rfl rfl ?_
    refine zJ_aload_n dX2_readWax_23 rfl ?_
    refine zJ_eV0 dX2_readWax_24 sX2_47 mfX2_takeToken (c_Rd_takeToken Δ (zsi c 4 11 (nI v)) tx n _ ((hR.fk h2).fd (zFd.i (by omega))) (ztk_le (tx := tx) hle).2.2 (by simp [zsi, h3.1])) (hC1.1 _ (by decide)) rfl (Nat.le_of_ble_eq_true rfl) (by decide) (by decide) (fun r d hP => ?_)
    obtain ⟨rfl, d1, d2⟩ := hP
    have hdC := hC1.fk d1.1 d1.2.1
    have hx : zlX tx n T t = .inr (zTs T 11 v, ztk tx n (ztk tx n t.2.2.1).2.2.1) := by simp only [zlX, h1]
    refine zJ_aload_n dX2_readWax_27 rfl ?_
    refine zJ_eV0 dX2_readWax_28 sX2_144 mfX2_isClosed (c_Rd_isClosed Δ d hdC _ d2.p ztk_k.1) (hdC.1 _ (by decide)) rfl (Nat.le_of_ble_eq_true rfl) (by decide) (by decide) (fun r z hP => ?_)
    rcases hP with ⟨k1, rfl, rfl⟩ | ⟨k1, rfl, k2⟩
    · exact zJ_zret dX2_readWax_31 rfl rfl (by decide) (by decide) (hQ _ _ (zLr.ok hx ((h2.n.tr (zFn.i (by omega))).tr d1.n) (((hi.fk h2).set (by decide) (by decide)).fk d1) d2.p (ztk_le (tx := tx) (ztk_le (tx := tx) hle).2.2).2.2 k1))
    · exact zJ_zret dX2_readWax_31 rfl rfl (by decide) (by decide) (hQ _ _ (zLr.no hx ((h2.n.tr (zFn.i (by omega))).tr d1.n) k1 k2))
  · have hC1 := hC.fk h2.1.1 h2.1.2.1
    refine zJ_if_ne (tgt := 12) dX2_readWax_7 (by decide) (fun h9 => False.elim (by revert h9; decide)) (fun _ => ?_)
    refine zJ_iconst (v := 0) dX2_readWax_10 (by decide) ?_
    exact zJ_zret dX2_readWax_11 rfl rfl (by decide) (by decide) (hQ _ _ (zLr.er (by simp only [zlX, h1]) h2))
set_option maxRecDepth 100000 in
theorem c_Rd_readFirst (Δ : zD) (w : zW) (tx : Nat → Nat) (n : Nat) (t : zTkn) (T : zTo) (hR : zRe w tx n) (hi : zTi w 4 T) (hT : zTok T) (ht : zRp w t) (hle : t.2.2.1 ≤ n) : zMp Δ 6 yX2_readFirst mX2_readFirst [.ref 3] w (fun r c => zLr w c n r (zcl (zlF tx n T t))) := by
  refine zMp.of mfX2_readFirst (Nat.le_of_ble_eq_true rfl) (fun QR hQ => ?_)
  have hC := hR.1
  have hp0 := hi.2.1 0 (by decide) (by decide)
  have hp8 := hT.1
  refine zJ_aload_n dX2_readFirst_0 rfl ?_
  refine zJ_eV0 dX2_readFirst_1 sX2_155 mfX2_readKnown (c_Rd_readKnown Δ w tx n _ (T.1 0) hR hle ht.1 hp0 hp8) (hC.1 _ (by decide)) rfl (Nat.le_of_ble_eq_true rfl) (by decide) (by decide) (fun r c hP => ?_)
  rcases hP with ⟨v, h1, hvp, rfl, h2, h3, h4⟩ | ⟨e, h1, rfl, h2⟩
  · have hC1 := hC.fk h2.1 h2.2.1
    refine zJ_if_ne (tgt := 9) dX2_readFirst_4 (by decide) (fun _ => ?_) (fun h9 => False.elim (by revert h9; decide))
    refine zJ_aload_n dX2_readFirst_9 rfl ?_
    refine zJ_getr dX2_readFirst_10 fX2_12 (by first | rfl | assumption | exact hC1.1 _ (by decide)) rfl (by first | rfl | assumption | exact hC1.2 _ _ rfl) ?_
    refine zJ_aload_n dX2_readFirst_13 rfl ?_
    refine zJ_geti dX2_readFirst_14 fX2_67 (by first | rfl | assumption | exact hC1.1 _ (by decide)) rfl ?_
    rw [h4]
    refine zJ_puti dX2_readFirst_17 fX2_192 (fun q h => by cases h; rfl) (by first | rfl | assumption | exact hC1.1 _ (by decide)) rfl rfl rfl ?_
    refine zJ_aload_n dX2_readFirst_20 rfl ?_
    refine zJ_eV0 dX2_readFirst_21 sX2_47 mfX2_takeToken (c_Rd_takeToken Δ (zsi c 4 12 (nI v)) tx n _ ((hR.fk h2).fd (zFd.i (by omega))) (ztk_le (tx := tx) hle).2.2 (by simp [zsi, h3.1])) (hC1.1 _ (by decide)) rfl (Nat.le_of_ble_eq_true rfl) (by decide) (by decide) (fun r d hP => ?_)
    obtain ⟨rfl, d1, d2⟩ := hP
    have hdC := hC1.fk d1.1 d1.2.1
    have hx : zlF tx n T t = .inr (zTs T 12 v, ztk tx n (ztk tx n t.2.2.1).2.2.1) := by simp only [zlF, h1]
    refine zJ_aload_n dX2_readFirst_24 rfl ?_
    refine zJ_eV0 dX2_readFirst_25 sX2_144 mfX2_isClosed (c_Rd_isClosed Δ d hdC _ d2.p ztk_k.1) (hdC.1 _ (by decide)) rfl (Nat.le_of_ble_eq_true rfl) (by decide) (by decide) (fun r z hP => ?_)
    rcases hP with ⟨k1, rfl, rfl⟩ | ⟨k1, rfl, k2⟩
    · exact zJ_zret dX2_readFirst_28 rfl rfl (by decide) (by decide) (hQ _ _ (zLr.ok hx ((h2.n.tr (zFn.i (by omega))).tr d1.n) (((hi.fk h2).set (by decide) (by decide)).fk d1) d2.p (ztk_le (tx := tx) (ztk_le (tx := tx) hle).2.2).2.2 k1))
    · exact zJ_zret dX2_readFirst_28 rfl rfl (by decide) (by decide) (hQ _ _ (zLr.no hx ((h2.n.tr (zFn.i (by omega))).tr d1.n) k1 k2))
  · have hC1 := hC.fk h2.1.1 h2.1.2.1
    refine zJ_if_ne (tgt := 9) dX2_readFirst_4 (by decide) (fun h9 => False.elim (by revert h9; decide)) (fun _ => ?_)
    refine zJ_iconst (v := 0) dX2_readFirst_7 (by decide) ?_
    exact zJ_zret dX2_readFirst_8 rfl rfl (by decide) (by decide) (hQ _ _ (zLr.er (by simp only [zlF, h1]) h2))
