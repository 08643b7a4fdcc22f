/-! tools of the walks: fewer locals, the same world in other words, loops -/
section ZT
variable {Δ : zD} {M : zMI} {R : Room} {fx : Bool} {sh0 : zSh} {QR : Option Value → zW → Prop} {QX : String → zW → Prop} {k n pc : Nat} {ls : List (Nat × Value)} {st : List Value} {w : zW}
theorem zJ_ls (ls2 : List (Nat × Value)) (h : ls2 ⊆ ls) (kk : zJ Δ M R fx sh0 QR QX k n pc ls2 st w) : zJ Δ M R fx sh0 QR QX k n pc ls st w := fun p l e s m args below meth c H locs ρ0 ρ ls' C G r S L =>
  kk p l e s m args below meth c H locs ρ0 ρ ls' C G r S ⟨L.1, L.2.1, fun q hq => by
    obtain ⟨q', h1, h2⟩ := List.mem_map.mp hq
    exact L.2.2 q (List.mem_map.mpr ⟨q', h h1, h2⟩)⟩
theorem zJ_w {w2 : zW} (h : w = w2) (kk : zJ Δ M R fx sh0 QR QX k n pc ls st w2) : zJ Δ M R fx sh0 QR QX k n pc ls st w := h ▸ kk
theorem zJ_st {st2 : List Value} (h : st = st2) (kk : zJ Δ M R fx sh0 QR QX k n pc ls st2 w) : zJ Δ M R fx sh0 QR QX k n pc ls st w := h ▸ kk
theorem zJ_kn {k2 n2 : Nat} (h1 : k ≤ k2) (h2 : n ≤ n2) (kk : zJ Δ M R fx sh0 QR QX k2 n2 pc ls st w) : zJ Δ M R fx sh0 QR QX k n pc ls st w := fun p l e s m args below meth c H locs ρ0 ρ ls' C G r S L => W.widen h1 h2 (kk p l e s m args below meth c H locs ρ0 ρ ls' C G r S L)
end ZT
/-- two worlds that no cell tells apart -/
def zag (w w2 : zW) : Prop := w2.1 = w.1 ∧ w2.2.2.2 = w.2.2.2 ∧ (∀ i ci q, w.1 i = some (.inl ci) → vwCl[ci]? = some q → ∀ k, k < q.2.2 → (zct (zty ci k) = 0 → w2.2.1 i k = w.2.1 i k) ∧ (zct (zty ci k) = 1 → w2.2.2.1 i k = w.2.2.1 i k)) ∧ (∀ i n, w.1 i = some (.inr (false, n)) → ∀ j, j < n → w2.2.1 i j = w.2.1 i j) ∧ (∀ i n, w.1 i = some (.inr (true, n)) → ∀ j, j < n → w2.2.2.1 i j = w.2.2.1 i j)
theorem zarr {c : ClassId} {n : Nat} {f g : Nat → Value} (h : ∀ j, j < n → f j = g j) : arrV c n f = arrV c n g := by
  have : (Array.ofFn (n := n) fun j => f j.val) = Array.ofFn (n := n) fun j => g j.val := by
    congr 1
    funext j
    exact h j.val j.isLt
  simp only [arrV, this]
theorem zR.ag {Δ : zD} {ρ : Nat → Nat} {w w2 : zW} {H : Heap} (h : zR Δ ρ w H) (ha : zag w w2) : zR Δ ρ w2 H := by
  obtain ⟨h1, h2, h3, h4, h5, h6, h7, h8⟩ := h
  obtain ⟨a1, a2, a3, a4, a5⟩ := ha
  refine ⟨fun i ci hi => ?_, fun i n hi => ?_, fun i n hi => ?_, by rw [a1]; exact h4, by rw [a1]; exact h5, by rw [a1, a2]; exact h6, h7, by rw [a1]; exact h8⟩
  · rw [a1] at hi
    obtain ⟨q, hq, hO⟩ := h1 i ci hi
    refine ⟨q, hq, hO.to (fun k hk => ?_)⟩
    obtain ⟨e1, e2⟩ := a3 i ci q hi hq k hk
    simp only [zslot, a2]
    split <;> rename_i h9 <;> first | rw [e1 h9] | rw [e2 h9] | rfl
  · rw [a1] at hi
    rw [h2 i n hi]
    exact congrArg some (zarr fun j hj => by rw [a4 i n hi j hj])
  · rw [a1] at hi
    rw [h3 i n hi]
    exact congrArg some (zarr fun j hj => by rw [a5 i n hi j hj])
theorem zJ_ag {Δ : zD} {M : zMI} {R : Room} {fx : Bool} {sh0 : zSh} {QR : Option Value → zW → Prop} {QX : String → zW → Prop} {k n pc : Nat} {ls : List (Nat × Value)} {st : List Value} {w w2 : zW} (ha : zag w w2) (kk : zJ Δ M R fx sh0 QR QX k n pc ls st w2) : zJ Δ M R fx sh0 QR QX k n pc ls st w := fun p l e s m args below meth c H locs ρ0 ρ ls' C G r S L =>
  kk p l e s m args below meth c H locs ρ0 ρ ls' C (G.w ha.1) (r.ag ha) S L
/-- a row of ints, of longs, set anew -/
def zrow (w : zW) (a : Nat) (f : Nat → Int32) : zW := (w.1, fun i j => if i = a then f j else w.2.1 i j, w.2.2)
def zrol (w : zW) (a : Nat) (f : Nat → Int64) : zW := (w.1, w.2.1, fun i j => if i = a then f j else w.2.2.1 i j, w.2.2.2)
theorem zsi_row (w : zW) (a k : Nat) (x : Int32) : zsi w a k x = zrow w a (fun j => if j = k then x else w.2.1 a j) := by
  simp only [zsi, zrow, Prod.mk.injEq, true_and, and_true]
  funext i j
  by_cases h : i = a
  · subst h; simp
  · simp [h]
theorem zsl_row (w : zW) (a k : Nat) (x : Int64) : zsl w a k x = zrol w a (fun j => if j = k then x else w.2.2.1 a j) := by
  simp only [zsl, zrol, Prod.mk.injEq, true_and, and_true]
  funext i j
  by_cases h : i = a
  · subst h; simp
  · simp [h]
theorem zrow_row (w : zW) (a : Nat) (f g : Nat → Int32) : zrow (zrow w a f) a g = zrow w a g := by
  simp only [zrow, Prod.mk.injEq, true_and, and_true]
  funext i j
  by_cases h : i = a <;> simp [h]
theorem zrol_rol (w : zW) (a : Nat) (f g : Nat → Int64) : zrol (zrol w a f) a g = zrol w a g := by
  simp only [zrol, Prod.mk.injEq, true_and, and_true]
  funext i j
  by_cases h : i = a <;> simp [h]
theorem zrow_get (w : zW) (a : Nat) (f : Nat → Int32) : (zrow w a f).2.1 a = f := by funext j; simp [zrow]
theorem zrol_get (w : zW) (a : Nat) (f : Nat → Int64) : (zrol w a f).2.2.1 a = f := by funext j; simp [zrol]
theorem zrow_self (w : zW) (a : Nat) : zrow w a (w.2.1 a) = w := by
  obtain ⟨w1, w2, w3⟩ := w
  simp only [zrow, Prod.mk.injEq, true_and, and_true]
  funext i j
  by_cases h : i = a <;> simp [h]
theorem zrol_self (w : zW) (a : Nat) : zrol w a (w.2.2.1 a) = w := by
  obtain ⟨w1, w2, w3, w4⟩ := w
  simp only [zrol, Prod.mk.injEq, true_and, and_true]
  funext i j
  by_cases h : i = a <;> simp [h]
theorem zup {n : Nat} {P : Nat → Prop} (h : ∀ j, j ≤ n → (∀ i, j < i → i ≤ n → P i) → P j) : ∀ j, j ≤ n → P j := by
  intro j
  generalize hd : n - j = d
  induction d using Nat.strongRecOn generalizing j with
  | ind d ih =>
    intro hj
    exact h j hj (fun i h1 h2 => ih (n - i) (by omega) i rfl h2)
theorem zdn {P : Nat → Prop} (h : ∀ j, (∀ i, i < j → P i) → P j) : ∀ j, P j := fun j => by
  induction j using Nat.strongRecOn with
  | ind j ih => exact h j ih
set_option maxRecDepth 100000 in
theorem c_fill_i (Δ : zD) (w : zW) (a0 n : Nat) (v : Int32) (hn : n < 2 ^ 31) (ha : w.1 a0 = some (.inr (false, n))) : zMd Δ 0 0 0 true yJ7_fill_53178 mJ7_fill_53178 [.ref a0, .int v] w none (zrow w a0 (fun k => if k < n then v else w.2.1 a0 k)) := by
  refine zM.of mfJ7_fill_53178 (Nat.le_of_ble_eq_true rfl) ?_
  have L : ∀ j, j ≤ n → zJ Δ mJ7_fill_53178 (zRm 0 0 0) true w.1 (fun a b => a = none ∧ b = zrow w a0 (fun k => if k < n then v else w.2.1 a0 k)) (fun _ _ => False) 0 0 5 [(2, .int (nI j)), (3, .int (nI n)), (0, .ref a0), (1, .int v)] [] (zrow w a0 (fun k => if k < j then v else w.2.1 a0 k)) := by
    refine zup (fun j hj ih => ?_)
    refine zJ_iload_n dJ7_fill_53178_5 rfl ?_
    refine zJ_iload_n dJ7_fill_53178_6 rfl ?_
    refine zJ_icmp_ge (tgt := 20) dJ7_fill_53178_7 (by decide) (fun h7 => ?_) (fun h7 => ?_)
    · exact zJ_vret dJ7_fill_53178_20 rfl (by decide) (by decide) ⟨rfl, by have h9 := (nI_leI hn (by omega)).mp h7; rw [Nat.le_antisymm hj h9]⟩
    · refine zJ_aload_n dJ7_fill_53178_10 rfl ?_
      refine zJ_iload_n dJ7_fill_53178_11 rfl ?_
      refine zJ_iload_n dJ7_fill_53178_12 rfl ?_
      refine zJ_iast dJ7_fill_53178_13 (by first | rfl | assumption) (vp_in_nI (Nat.lt_of_not_le fun h => h7 ((nI_leI hn (by omega)).mpr h)) hn) ?_
      refine zJ_iinc (ls2 := fun x14 => [(2, .int x14), (3, .int (nI n)), (0, .ref a0), (1, .int v)]) dJ7_fill_53178_14 rfl (by decide) (fun _ => rfl) (fun x14 ex14 => ?_)
      refine zJ_goto (tgt := 5) dJ7_fill_53178_17 (by decide) ?_
      have h9 : j < n := Nat.lt_of_not_le fun h => h7 ((nI_leI hn (by omega)).mpr h)
      refine zJ_ls [(2, .int x14), (3, .int (nI n)), (0, .ref a0), (1, .int v)] (by simp) ?_
      rw [ex14, show nI j + Int32.ofInt 1 = nI (j + 1) from nI_1 j]
      refine zJ_w ?_ (ih (j + 1) (by omega) (by omega))
      rw [nI_clamp (by omega), zsi_row, zrow_row, zrow_get]
      congr 1
      funext i
      by_cases h1 : i = j
      · subst h1; simp
      · have h2 : (i < j + 1) = (i < j) := by simp only [eq_iff_iff]; omega
        simp [h1, h2]
  refine zJ_iconst (v := 0) dJ7_fill_53178_0 (by decide) ?_
  refine zJ_istore_n (ls2 := fun x1 => [(2, .int x1), (0, .ref a0), (1, .int v)]) dJ7_fill_53178_1 (by decide) (fun _ => rfl) (fun x1 ex1 => ?_)
  refine zJ_aload_n dJ7_fill_53178_2 rfl ?_
  refine zJ_alen (x := (nI n)) dJ7_fill_53178_3 (by first | rfl | assumption) rfl ?_
  refine zJ_istore_n (ls2 := fun x4 => [(3, .int x4), (2, .int x1), (0, .ref a0), (1, .int v)]) dJ7_fill_53178_4 (by decide) (fun _ => rfl) (fun x4 ex4 => ?_)
  subst ex1; subst ex4
  refine zJ_ls [(2, .int (0)), (3, .int (nI n)), (0, .ref a0), (1, .int v)] (by simp) ?_
  refine zJ_w ?_ (L 0 (Nat.zero_le _))
  simp only [Nat.not_lt_zero, if_false, zrow_self]
