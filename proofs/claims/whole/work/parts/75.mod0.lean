/-! the model: laws at plain numbers, frames, leaves -/
theorem zJ_ialdN {Δ : zD} {M : zMI} {R : Room} {fx : Bool} {sh0 : zSh} {QR : Option Value → zW → Prop} {QX : String → zW → Prop} {k n pc : Nat} {ls : List (Nat × Value)} {st : List Value} {w : zW} {a len i : Nat} {x : Int32} {v : Int32} (hd : decode M.2.1 pc = .ok (.iaload, 1)) (hs : w.1 a = some (.inr (false, len))) (hx : x = nI i) (hi : i < len) (hl : len < 2 ^ 31) (hv : w.2.1 a i = v) (kk : zJ Δ M R fx sh0 QR QX k n (pc + 1) ls (.int v :: st) w) : zJ Δ M R fx sh0 QR QX k n pc ls (.int x :: .ref a :: st) w := by
  subst hx; subst hv
  refine zJ_iald hd hs (vp_in_nI hi hl) ?_
  rw [nI_clamp (by omega)]; exact kk
theorem zJ_laldN {Δ : zD} {M : zMI} {R : Room} {fx : Bool} {sh0 : zSh} {QR : Option Value → zW → Prop} {QX : String → zW → Prop} {k n pc : Nat} {ls : List (Nat × Value)} {st : List Value} {w : zW} {a len i : Nat} {x : Int32} {v : Int64} (hd : decode M.2.1 pc = .ok (.laload, 1)) (hs : w.1 a = some (.inr (true, len))) (hx : x = nI i) (hi : i < len) (hl : len < 2 ^ 31) (hv : w.2.2.1 a i = v) (kk : zJ Δ M R fx sh0 QR QX k n (pc + 1) ls (.long v :: st) w) : zJ Δ M R fx sh0 QR QX k n pc ls (.int x :: .ref a :: st) w := by
  subst hx; subst hv
  refine zJ_lald hd hs (vp_in_nI hi hl) ?_
  rw [nI_clamp (by omega)]; exact kk
theorem zJ_iastN {Δ : zD} {M : zMI} {R : Room} {fx : Bool} {sh0 : zSh} {QR : Option Value → zW → Prop} {QX : String → zW → Prop} {k n pc : Nat} {ls : List (Nat × Value)} {st : List Value} {w : zW} {a len i : Nat} {x : Int32} {v : Int32} (hd : decode M.2.1 pc = .ok (.iastore, 1)) (hs : w.1 a = some (.inr (false, len))) (hx : x = nI i) (hi : i < len) (hl : len < 2 ^ 31) (kk : zJ Δ M R fx sh0 QR QX k n (pc + 1) ls st (zsi w a i v)) : zJ Δ M R fx sh0 QR QX k n pc ls (.int v :: .int x :: .ref a :: st) w := by
  subst hx
  refine zJ_iast hd hs (vp_in_nI hi hl) ?_
  rw [nI_clamp (by omega)]; exact kk
theorem zJ_lastN {Δ : zD} {M : zMI} {R : Room} {fx : Bool} {sh0 : zSh} {QR : Option Value → zW → Prop} {QX : String → zW → Prop} {k n pc : Nat} {ls : List (Nat × Value)} {st : List Value} {w : zW} {a len i : Nat} {x : Int32} {v : Int64} (hd : decode M.2.1 pc = .ok (.lastore, 1)) (hs : w.1 a = some (.inr (true, len))) (hx : x = nI i) (hi : i < len) (hl : len < 2 ^ 31) (kk : zJ Δ M R fx sh0 QR QX k n (pc + 1) ls st (zsl w a i v)) : zJ Δ M R fx sh0 QR QX k n pc ls (.long v :: .int x :: .ref a :: st) w := by
  subst hx
  refine zJ_last hd hs (vp_in_nI hi hl) ?_
  rw [nI_clamp (by omega)]; exact kk
theorem zJ_getiN {Δ : zD} {M : zMI} {R : Room} {fx : Bool} {sh0 : zSh} {QR : Option Value → zW → Prop} {QX : String → zW → Prop} {k n pc : Nat} {ls : List (Nat × Value)} {st : List Value} {w : zW} {idx ci kf i : Nat} {v : Int32} (hd : decode M.2.1 pc = .ok (.getfield idx, 3)) (hf : zFld M.1 idx ci kf) (hs : w.1 i = some (.inl ci)) (ht : zct (zty ci kf) = 0) (hv : w.2.1 i kf = v) (kk : zJ Δ M R fx sh0 QR QX k n (pc + 3) ls (.int v :: st) w) : zJ Δ M R fx sh0 QR QX k n pc ls (.ref i :: st) w := zJ_geti hd hf hs ht (by rw [hv]; exact kk)
theorem na_8 (x y : Nat) : (8 : Int32) * nI x + nI y = nI (x * 8 + y) := by
  rw [show (8 : Int32) * nI x = nI (8 * x) from na_mul 8 x, na_add, Nat.mul_comm]
theorem na_12 (x y : Nat) (h : 1 ≤ y) : (12 : Int32) * nI x + nI y - 1 = nI (x * 12 + (y - 1)) := by
  rw [show (12 : Int32) * nI x = nI (12 * x) from na_mul 12 x, na_add, show nI (12 * x + y) - 1 = nI (12 * x + y - 1) from na_sub (b := 1) (by omega)]
  congr 1; omega
theorem na_20 (x y : Nat) : (20 : Int32) * nI x + nI y = nI (x * 20 + y) := by
  rw [show (20 : Int32) * nI x = nI (20 * x) from na_mul 20 x, na_add, Nat.mul_comm]
theorem zMs.at {w : zW} {a : Nat} (h : zMs w) (h1 : 100 ≤ a) (h2 : a < 188) : w.1 a = zSM (a - 100) := by
  have := h.1 (a - 100) (by omega)
  rwa [show 100 + (a - 100) = a by omega] at this
theorem zMs.rf {w : zW} {k : Nat} (h : zMs w) (h1 : 0 < k) (h2 : (zSM k).isSome = true) : w.2.2.2 100 k = some (100 + k) := h.2 k h1 h2
theorem zMs.fr {w c : zW} (h : zMs w) (h1 : c.1 = w.1) (h2 : c.2.2.2 = w.2.2.2) : zMs c := by
  unfold zMs at *; rw [h1, h2]; exact h
/-- only the model's fields l, and their rows, have changed -/
def zFM (l : List Nat) (w c : zW) : Prop := c.1 = w.1 ∧ c.2.2.2 = w.2.2.2 ∧ (∀ j, j ∉ l → c.2.1 100 j = w.2.1 100 j ∧ c.2.2.1 100 j = w.2.2.1 100 j) ∧ (∀ a j, a ≠ 100 → (∀ k ∈ l, a ≠ 100 + k) → c.2.1 a j = w.2.1 a j ∧ c.2.2.1 a j = w.2.2.1 a j)
theorem zFM.rf {l : List Nat} (w : zW) : zFM l w w := ⟨rfl, rfl, fun _ _ => ⟨rfl, rfl⟩, fun _ _ _ _ => ⟨rfl, rfl⟩⟩
theorem zFM.tr {l : List Nat} {w c d : zW} (h1 : zFM l w c) (h2 : zFM l c d) : zFM l w d := ⟨h2.1.trans h1.1, h2.2.1.trans h1.2.1, fun j h => ⟨(h2.2.2.1 j h).1.trans (h1.2.2.1 j h).1, (h2.2.2.1 j h).2.trans (h1.2.2.1 j h).2⟩, fun a j h h0 => ⟨(h2.2.2.2 a j h h0).1.trans (h1.2.2.2 a j h h0).1, (h2.2.2.2 a j h h0).2.trans (h1.2.2.2 a j h h0).2⟩⟩
theorem zFM.mono {l l' : List Nat} {w c : zW} (h : zFM l w c) (hl : ∀ k ∈ l, k ∈ l') : zFM l' w c := ⟨h.1, h.2.1, fun j hj => h.2.2.1 j (fun h9 => hj (hl j h9)), fun a j ha hk => h.2.2.2 a j ha (fun k h9 => hk k (hl k h9))⟩
theorem zFM.i {l : List Nat} {w : zW} {a j : Nat} {x : Int32} (h : (a = 100 ∧ j ∈ l) ∨ (a ≠ 100 ∧ ∃ k ∈ l, a = 100 + k)) : zFM l w (zsi w a j x) := by
  refine ⟨rfl, rfl, fun b hb => ⟨?_, rfl⟩, fun b c hb hk => ⟨?_, rfl⟩⟩
  · have : ¬ (100 = a ∧ b = j) := fun ⟨h1, h2⟩ => by
      subst h2
      rcases h with ⟨-, h⟩ | ⟨h, -⟩
      · exact hb h
      · exact h h1.symm
    simp [zsi, this]
  · have : ¬ (b = a ∧ c = j) := fun ⟨h1, h2⟩ => by
      subst h1
      rcases h with ⟨h, -⟩ | ⟨-, k, h3, h4⟩
      · exact hb h
      · exact hk k h3 h4
    simp [zsi, this]
theorem zFM.l {l : List Nat} {w : zW} {a j : Nat} {x : Int64} (h : (a = 100 ∧ j ∈ l) ∨ (a ≠ 100 ∧ ∃ k ∈ l, a = 100 + k)) : zFM l w (zsl w a j x) := by
  refine ⟨rfl, rfl, fun b hb => ⟨rfl, ?_⟩, fun b c hb hk => ⟨rfl, ?_⟩⟩
  · have : ¬ (100 = a ∧ b = j) := fun ⟨h1, h2⟩ => by
      subst h2
      rcases h with ⟨-, h⟩ | ⟨h, -⟩
      · exact hb h
      · exact h h1.symm
    simp [zsl, this]
  · have : ¬ (b = a ∧ c = j) := fun ⟨h1, h2⟩ => by
      subst h1
      rcases h with ⟨h, -⟩ | ⟨-, k, h3, h4⟩
      · exact hb h
      · exact hk k h3 h4
    simp [zsl, this]
theorem zFM.row {l : List Nat} {w : zW} {a : Nat} {f : Nat → Int32} (h : a ≠ 100 ∧ ∃ k ∈ l, a = 100 + k) : zFM l w (zrow w a f) := by
  refine ⟨rfl, rfl, fun b hb => ⟨?_, rfl⟩, fun b c hb hk => ⟨?_, rfl⟩⟩
  · have : ¬ 100 = a := fun h1 => h.1 h1.symm
    simp [zrow, this]
  · have : ¬ b = a := fun h1 => by
      obtain ⟨-, k, h3, h4⟩ := h
      exact hk k h3 (h1.trans h4)
    simp [zrow, this]
theorem zFM.rol {l : List Nat} {w : zW} {a : Nat} {f : Nat → Int64} (h : a ≠ 100 ∧ ∃ k ∈ l, a = 100 + k) : zFM l w (zrol w a f) := by
  refine ⟨rfl, rfl, fun b hb => ⟨rfl, ?_⟩, fun b c hb hk => ⟨rfl, ?_⟩⟩
  · have : ¬ 100 = a := fun h1 => h.1 h1.symm
    simp [zrol, this]
  · have : ¬ b = a := fun h1 => by
      obtain ⟨-, k, h3, h4⟩ := h
      exact hk k h3 (h1.trans h4)
    simp [zrol, this]
theorem zMs.fm {l : List Nat} {w c : zW} (h : zMs w) (hf : zFM l w c) : zMs c := h.fr hf.1 hf.2.1
theorem zFM.at {l : List Nat} {w c : zW} (h : zFM l w c) {j : Nat} (hj : j ∉ l) : c.2.1 100 j = w.2.1 100 j := (h.2.2.1 j hj).1
theorem zFM.ar {l : List Nat} {w c : zW} (h : zFM l w c) {k j : Nat} (hk : k ∉ l) (h0 : 0 < k) : c.2.1 (100 + k) j = w.2.1 (100 + k) j := (h.2.2.2 _ j (by omega) (fun q hq h9 => hk (by rw [show k = q by omega]; exact hq))).1
theorem zFM.al {l : List Nat} {w c : zW} (h : zFM l w c) {k j : Nat} (hk : k ∉ l) (h0 : 0 < k) : c.2.2.1 (100 + k) j = w.2.2.1 (100 + k) j := (h.2.2.2 _ j (by omega) (fun q hq h9 => hk (by rw [show k = q by omega]; exact hq))).2
theorem zFM.lo {l : List Nat} {w c : zW} (h : zFM l w c) {a j : Nat} (ha : a < 100 ∨ 188 ≤ a) (hl : ∀ k ∈ l, k < 88) : c.2.1 a j = w.2.1 a j ∧ c.2.2.1 a j = w.2.2.1 a j := h.2.2.2 a j (by omega) (fun k hk h9 => by have := hl k hk; omega)
set_option maxRecDepth 100000 in
theorem c_Mo_right1 (Δ : zD) (w : zW) (hM : zMs w) (h0 : w.2.1 100 0 = 0) (v : Int32) : zMd Δ 0 0 0 true yX9_right mX9_right [.ref 100, .int 1, .int v] w (some (.int 1)) w := by
  refine zMd.of mfX9_right (Nat.le_of_ble_eq_true rfl) (fun QR hQ => ?_)
  refine zJ_aload_n dX9_right_0 rfl ?_
  refine zJ_getiN dX9_right_1 fX9_170 (by first | rfl | assumption | exact hM.at (by decide) (by decide)) rfl h0 ?_
  refine zJ_if_ne (tgt := 16) dX9_right_4 (by decide) (fun h9 => False.elim (by revert h9; decide)) (fun _ => ?_)
  refine zJ_iload_n dX9_right_7 rfl ?_
  refine zJ_if_ne (tgt := 16) dX9_right_8 (by decide) (fun _ => ?_) (fun h9 => False.elim (by revert h9; decide))
  refine zJ_aload_n dX9_right_16 rfl ?_
  refine zJ_getiN dX9_right_17 fX9_170 (by first | rfl | assumption | exact hM.at (by decide) (by decide)) rfl h0 ?_
  refine zJ_if_ne (tgt := 27) dX9_right_20 (by decide) (fun h9 => False.elim (by revert h9; decide)) (fun _ => ?_)
  refine zJ_iconst (v := 1) dX9_right_23 (by decide) ?_
  refine zJ_goto (tgt := 28) dX9_right_24 (by decide) ?_
  exact zJ_zret dX9_right_28 rfl rfl (by decide) (by decide) hQ
set_option maxRecDepth 100000 in
theorem c_Mo_right0 (Δ : zD) (w : zW) (hM : zMs w) (h0 : w.2.1 100 0 = 0) (v : Int32) (hv : ¬ v = 0) : zMd Δ 0 0 0 true yX9_right mX9_right [.ref 100, .int 0, .int v] w (some (.int 0)) (zsi w 100 0 v) := by
  refine zMd.of mfX9_right (Nat.le_of_ble_eq_true rfl) (fun QR hQ => ?_)
  refine zJ_aload_n dX9_right_0 rfl ?_
  refine zJ_geti dX9_right_1 fX9_170 (by first | rfl | assumption | exact hM.at (by decide) (by decide)) rfl ?_
  rw [h0]
  refine zJ_if_ne (tgt := 16) dX9_right_4 (by decide) (fun h9 => False.elim (by revert h9; decide)) (fun _ => ?_)
  refine zJ_iload_n dX9_right_7 rfl ?_
  refine zJ_if_ne (tgt := 16) dX9_right_8 (by decide) (fun h9 => False.elim (by revert h9; decide)) (fun _ => ?_)
  refine zJ_aload_n dX9_right_11 rfl ?_
  refine zJ_iload_n dX9_right_12 rfl ?_
  refine zJ_puti dX9_right_13 fX9_170 (fun q h => by cases h; rfl) (by first | rfl | assumption | exact hM.at (by decide) (by decide)) rfl rfl rfl ?_
  refine zJ_aload_n dX9_right_16 rfl ?_
  refine zJ_geti dX9_right_17 fX9_170 (by first | rfl | assumption | exact hM.at (by decide) (by decide)) rfl ?_
  rw [show (zsi w 100 0 v).2.1 100 0 = v by simp [zsi]]
  refine zJ_if_ne (tgt := 27) dX9_right_20 (by decide) (fun h20 => ?_) (fun h20 => ?_)
  · refine zJ_iconst (v := 0) dX9_right_27 (by decide) ?_
    exact zJ_zret dX9_right_28 rfl rfl (by decide) (by decide) hQ
  · exact absurd h20 hv
theorem zwin {x : Int32} {a b : Nat} (ha : a < 2 ^ 31) (hb : b < 2 ^ 31) : (¬ x < nI a ∧ ¬ nI b < x) ↔ ∃ q, a ≤ q ∧ q ≤ b ∧ x = nI q := by
  constructor
  · rintro ⟨h1, h2⟩
    have h0 : ¬ x < 0 := fun h => h1 (by
      rw [fa_lt] at h ⊢
      rw [nI_toInt ha]
      have : (0 : Int32).toInt = 0 := rfl
      omega)
    obtain ⟨q, hq, rfl⟩ := nI_of h0
    exact ⟨q, (nI_leI ha hq).mp (Int32.not_lt.mp h1), (nI_leI hq hb).mp (Int32.not_lt.mp h2), rfl⟩
  · rintro ⟨q, h1, h2, rfl⟩
    exact ⟨fun h => absurd ((nI_ltI (by omega) ha).mp h) (by omega), fun h => absurd ((nI_ltI hb (by omega)).mp h) (by omega)⟩
set_option maxRecDepth 100000 in
theorem c_Mo_within (Δ : zD) (w : zW) (x : Int32) (a b : Nat) (ha : a < 2 ^ 31) (hb : b < 2 ^ 31) : ((∃ q, a ≤ q ∧ q ≤ b ∧ x = nI q) → zMd Δ 0 0 0 true yX9_within mX9_within [.int x, .int (nI a), .int (nI b)] w (some (.int 1)) w) ∧ ((¬ ∃ q, a ≤ q ∧ q ≤ b ∧ x = nI q) → zMd Δ 0 0 0 true yX9_within mX9_within [.int x, .int (nI a), .int (nI b)] w (some (.int 0)) w) := by
  rw [← zwin ha hb]
  constructor
  · rintro ⟨q1, q2⟩
    refine zMd.of mfX9_within (Nat.le_of_ble_eq_true rfl) (fun QR hQ => ?_)
    refine zJ_iload_n dX9_within_0 rfl ?_
    refine zJ_iload_n dX9_within_1 rfl ?_
    refine zJ_icmp_lt (tgt := 14) dX9_within_2 (by decide) (fun h2 => ?_) (fun h2 => ?_)
    · exact absurd h2 q1
    · refine zJ_iload_n dX9_within_5 rfl ?_
      refine zJ_iload_n dX9_within_6 rfl ?_
      refine zJ_icmp_gt (tgt := 14) dX9_within_7 (by decide) (fun h7 => ?_) (fun h7 => ?_)
      · exact absurd h7 q2
      · refine zJ_iconst (v := 1) dX9_within_10 (by decide) ?_
        refine zJ_goto (tgt := 15) dX9_within_11 (by decide) ?_
        exact zJ_zret dX9_within_15 rfl rfl (by decide) (by decide) hQ
  · intro hn
    refine zMd.of mfX9_within (Nat.le_of_ble_eq_true rfl) (fun QR hQ => ?_)
    refine zJ_iload_n dX9_within_0 rfl ?_
    refine zJ_iload_n dX9_within_1 rfl ?_
    refine zJ_icmp_lt (tgt := 14) dX9_within_2 (by decide) (fun h2 => ?_) (fun h2 => ?_)
    · refine zJ_iconst (v := 0) dX9_within_14 (by decide) ?_
      exact zJ_zret dX9_within_15 rfl rfl (by decide) (by decide) hQ
    · refine zJ_iload_n dX9_within_5 rfl ?_
      refine zJ_iload_n dX9_within_6 rfl ?_
      refine zJ_icmp_gt (tgt := 14) dX9_within_7 (by decide) (fun h7 => ?_) (fun h7 => ?_)
      · refine zJ_iconst (v := 0) dX9_within_14 (by decide) ?_
        exact zJ_zret dX9_within_15 rfl rfl (by decide) (by decide) hQ
      · exact absurd ⟨h2, h7⟩ hn
set_option maxRecDepth 100000 in
theorem c_Mo_isPerson (Δ : zD) (w : zW) (hM : zMs w) (h0 : w.2.1 100 0 = 0) (x : Int32) (pp : Nat) (hp : w.2.1 100 1 = nI pp) (hp8 : pp ≤ 8) : ((∃ p, p < pp ∧ x = nI p) → zMd Δ 1 0 0 true yX9_isPerson mX9_isPerson [.ref 100, .int x] w (some (.int 1)) w) ∧ ((¬ ∃ p, p < pp ∧ x = nI p) → zMd Δ 1 0 0 true yX9_isPerson mX9_isPerson [.ref 100, .int x] w (some (.int 0)) (zsi w 100 0 1)) := by
  constructor
  · rintro ⟨p, h1, rfl⟩
    refine zMd.of mfX9_isPerson (Nat.le_of_ble_eq_true rfl) (fun QR hQ => ?_)
    refine zJ_aload_n dX9_isPerson_0 rfl ?_
    refine zJ_iload_n dX9_isPerson_1 rfl ?_
    refine zJ_if_lt (tgt := 17) dX9_isPerson_2 (by decide) (fun h2 => ?_) (fun h2 => ?_)
    · exact absurd ((nI_ltI (b := 0) (by omega) (by decide)).mp h2) (by omega)
    · refine zJ_iload_n dX9_isPerson_5 rfl ?_
      refine zJ_aload_n dX9_isPerson_6 rfl ?_
      refine zJ_getiN dX9_isPerson_7 fX9_298 (by first | rfl | assumption | exact hM.at (by decide) (by decide)) rfl hp ?_
      refine zJ_icmp_ge (tgt := 17) dX9_isPerson_10 (by decide) (fun h10 => ?_) (fun h10 => ?_)
      · exact absurd ((nI_leI (by omega) (by omega)).mp h10) (by omega)
      · refine zJ_iconst (v := 1) dX9_isPerson_13 (by decide) ?_
        refine zJ_goto (tgt := 18) dX9_isPerson_14 (by decide) ?_
        refine zJ_iconst (v := 1) dX9_isPerson_18 (by decide) ?_
        refine zJ_cV2 dX9_isPerson_19 sX9_291 mfX9_right (c_Mo_right1 Δ w hM h0 1) (by first | rfl | assumption | exact hM.at (by decide) (by decide)) rfl (Nat.le_of_ble_eq_true rfl) (by decide) (by decide) ?_
        exact zJ_zret dX9_isPerson_22 rfl rfl (by decide) (by decide) hQ
  · intro hn
    refine zMd.of mfX9_isPerson (Nat.le_of_ble_eq_true rfl) (fun QR hQ => ?_)
    refine zJ_aload_n dX9_isPerson_0 rfl ?_
    refine zJ_iload_n dX9_isPerson_1 rfl ?_
    refine zJ_if_lt (tgt := 17) dX9_isPerson_2 (by decide) (fun h2 => ?_) (fun h2 => ?_)
    · refine zJ_iconst (v := 0) dX9_isPerson_17 (by decide) ?_
      refine zJ_iconst (v := 1) dX9_isPerson_18 (by decide) ?_
      refine zJ_cV2 dX9_isPerson_19 sX9_291 mfX9_right (c_Mo_right0 Δ w hM h0 1 (by decide)) (by first | rfl | assumption | exact hM.at (by decide) (by decide)) rfl (Nat.le_of_ble_eq_true rfl) (by decide) (by decide) ?_
      exact zJ_zret dX9_isPerson_22 rfl rfl (by decide) (by decide) hQ
    · refine zJ_iload_n dX9_isPerson_5 rfl ?_
      refine zJ_aload_n dX9_isPerson_6 rfl ?_
      refine zJ_getiN dX9_isPerson_7 fX9_298 (by first | rfl | assumption | exact hM.at (by decide) (by decide)) rfl hp ?_
      refine zJ_icmp_ge (tgt := 17) dX9_isPerson_10 (by decide) (fun h10 => ?_) (fun h10 => ?_)
      · refine zJ_iconst (v := 0) dX9_isPerson_17 (by decide) ?_
        refine zJ_iconst (v := 1) dX9_isPerson_18 (by decide) ?_
        refine zJ_cV2 dX9_isPerson_19 sX9_291 mfX9_right (c_Mo_right0 Δ w hM h0 1 (by decide)) (by first | rfl | assumption | exact hM.at (by decide) (by decide)) rfl (Nat.le_of_ble_eq_true rfl) (by decide) (by decide) ?_
        exact zJ_zret dX9_isPerson_22 rfl rfl (by decide) (by decide) hQ
      · obtain ⟨p, hp31, rfl⟩ := nI_of h2
        exact absurd ⟨p, (nI_ltI (by omega) (by omega)).mp (Int32.not_le.mp h10), rfl⟩ hn
set_option maxRecDepth 100000 in
theorem c_Mo_copies (Δ : zD) (w : zW) (a b n N : Nat) (hn : n < 2 ^ 20) (hN : n ≤ N) (hN2 : N < 2 ^ 20) (hab : ¬ a = b) (ha : w.1 a = some (.inr (false, n))) (hb : w.1 b = some (.inr (false, N))) : zMd Δ 0 0 0 true yX9_copies mX9_copies [.ref 100, .ref a, .ref b] w none (zrow w b (fun j => if j < n then w.2.1 a j else w.2.1 b j)) := by
  refine zMd.of mfX9_copies (Nat.le_of_ble_eq_true rfl) (fun QR hQ => ?_)
  have L : ∀ j, j ≤ n → zJ Δ mX9_copies (zRm 0 0 0) true w.1 QR (fun _ _ => False) 0 0 2 [(3, .int (nI j)), (0, .ref 100), (1, .ref a), (2, .ref b)] [] (zrow w b (fun q => if q < j then w.2.1 a q else w.2.1 b q)) := by
    refine zup (fun j hj ih => ?_)
    refine zJ_iload_n dX9_copies_2 rfl ?_
    refine zJ_aload_n dX9_copies_3 rfl ?_
    refine zJ_alen (x := (nI n)) dX9_copies_4 (by first | rfl | assumption | exact hM.at (by decide) (by decide)) rfl ?_
    refine zJ_icmp_ge (tgt := 20) dX9_copies_5 (by decide) (fun h5 => ?_) (fun h5 => ?_)
    · have hj9 : j = n := Nat.le_antisymm hj ((nI_leI (by omega) (by omega)).mp h5)
      subst hj9
      exact zJ_vret dX9_copies_20 rfl (by decide) (by decide) hQ
    · have hj9 : j < n := Nat.lt_of_not_le fun hq9 => h5 ((nI_leI (by omega) (by omega)).mpr hq9)
      refine zJ_aload_n dX9_copies_8 rfl ?_
      refine zJ_iload_n dX9_copies_9 rfl ?_
      refine zJ_aload_n dX9_copies_10 rfl ?_
      refine zJ_iload_n dX9_copies_11 rfl ?_
      refine zJ_iald dX9_copies_12 (by first | rfl | assumption | exact hM.at (by decide) (by decide)) (vp_in_nI (by omega) (by omega)) ?_
      refine zJ_iast dX9_copies_13 (by first | rfl | assumption | exact hM.at (by decide) (by decide)) (vp_in_nI (by omega) (by omega)) ?_
      refine zJ_iinc (ls2 := fun x14 => [(3, .int x14), (0, .ref 100), (1, .ref a), (2, .ref b)]) dX9_copies_14 rfl (by decide) (fun _ => rfl) (fun x14 ex14 => ?_)
      refine zJ_goto (tgt := 2) dX9_copies_17 (by decide) ?_
      refine zJ_ls [(3, .int x14), (0, .ref 100), (1, .ref a), (2, .ref b)] (by simp) ?_
      rw [ex14, show nI j + Int32.ofInt 1 = nI (j + 1) from nI_1 _]
      refine zJ_w (w2 := zrow w b (fun q => if q < j + 1 then w.2.1 a q else w.2.1 b q)) ?_ (ih (j + 1) (by omega) (by omega))
      have cj : (nI j).toNatClampNeg = j := nI_clamp (by omega)
      rw [cj, zsi_row, zrow_get, zrow_row]
      refine congrArg (zrow w b) (funext fun q => ?_)
      by_cases h : q = j
      · subst h
        simp [zrow, hab]
      · have c3 : (q < j + 1) = (q < j) := by simp only [eq_iff_iff]; omega
        simp [h, c3]
  refine zJ_iconst (v := 0) dX9_copies_0 (by decide) ?_
  refine zJ_istore_n (ls2 := fun x1 => [(3, .int x1), (0, .ref 100), (1, .ref a), (2, .ref b)]) dX9_copies_1 (by decide) (fun _ => rfl) (fun x1 ex1 => ?_)
  subst ex1
  refine zJ_w (w2 := zrow w b (fun q => if q < 0 then w.2.1 a q else w.2.1 b q)) ?_ (L 0 (Nat.zero_le _))
  simp only [Nat.not_lt_zero, if_false]
  exact (zrow_self w b).symm
set_option maxRecDepth 100000 in
theorem c_Mo_thrown (Δ : zD) (w : zW) (hM : zMs w) : zMd Δ 0 0 0 true yX9_thrown mX9_thrown [.ref 100] w (some (.int (w.2.1 100 0))) w := by
  refine zMd.of mfX9_thrown (Nat.le_of_ble_eq_true rfl) (fun QR hQ => ?_)
  refine zJ_aload_n dX9_thrown_0 rfl ?_
  refine zJ_geti dX9_thrown_1 fX9_170 (by first | rfl | assumption | exact hM.at (by decide) (by decide)) rfl ?_
  exact zJ_iret dX9_thrown_4 rfl (by decide) (by decide) hQ
set_option maxRecDepth 100000 in
theorem c_Mo_fault (Δ : zD) (w : zW) (hM : zMs w) : zMd Δ 0 0 0 true yX9_fault mX9_fault [.ref 100] w (some (.int (w.2.1 100 16))) (zsi w 100 0 0) := by
  refine zMd.of mfX9_fault (Nat.le_of_ble_eq_true rfl) (fun QR hQ => ?_)
  refine zJ_aload_n dX9_fault_0 rfl ?_
  refine zJ_iconst (v := 0) dX9_fault_1 (by decide) ?_
  refine zJ_puti dX9_fault_2 fX9_170 (fun q h => by cases h; rfl) (by first | rfl | assumption | exact hM.at (by decide) (by decide)) rfl rfl rfl ?_
  refine zJ_aload_n dX9_fault_5 rfl ?_
  refine zJ_geti dX9_fault_6 fX9_35 (by first | rfl | assumption | exact hM.at (by decide) (by decide)) rfl ?_
  rw [zsi_ne (by decide)]
  exact zJ_iret dX9_fault_9 rfl (by decide) (by decide) hQ
