/-! the model: chain, its frame -/
theorem zn_div {a t : Nat} : a / 8 ^ t / 8 = a / 8 ^ (t + 1) := by rw [Nat.div_div_eq_div_mul, Nat.pow_succ]
theorem zn_8 {t : Nat} : 8 ^ t = 2 ^ (3 * t) := by rw [Nat.pow_mul]
set_option maxRecDepth 100000 in
theorem zMo_chD (Δ : zD) (f : zW) (hM : zMs f) (H cd z ch : Nat) (hH : H ≤ 12) (hcd : cd < 2 ^ 60) (hz : z < 20000) (hch : f.2.2.1 168 z = lN ch) (v1 : Int32) {QR : Option Value → zW → Prop} (hQ : QR (some (.int (lN ch).toInt32)) (zrow f 167 (fun i => if 0 ≤ i ∧ i < H then nI (cd / 8 ^ (H - 1 - i) % 8) else f.2.1 167 i))) : ∀ n, n ≤ H → zJ Δ mX9_chain (zRm 5 0 0) true f.1 QR (fun _ _ => False) 0 0 377 [(5, .int (nI n - 1)), (3, .long (lN (cd / 8 ^ (H - n)))), (2, .int (nI z)), (0, .ref 100), (1, .int v1)] [] (zrow f 167 (fun i => if n ≤ i ∧ i < H then nI (cd / 8 ^ (H - 1 - i) % 8) else f.2.1 167 i)) := by
  intro n
  induction n with
  | zero =>
    intro _
    have M0 : zMs (zrow f 167 (fun i => if 0 ≤ i ∧ i < H then nI (cd / 8 ^ (H - 1 - i) % 8) else f.2.1 167 i)) := hM
    refine zJ_iload dX9_chain_377 rfl ?_
    refine zJ_if_lt (tgt := 407) dX9_chain_379 (by decide) (fun h379 => ?_) (fun h9 => absurd (by decide : (nI 0 - 1 : Int32) < 0) h9)
    refine zJ_aload_n dX9_chain_407 rfl ?_
    refine zJ_getr (j := 168) dX9_chain_408 fX9_119 (by first | rfl | assumption | exact M0.at (by decide) (by decide)) rfl (by first | rfl | assumption | exact M0.rf (by decide) rfl) ?_
    refine zJ_iload_n dX9_chain_411 rfl ?_
    refine zJ_laldN (i := z) (v := (lN ch)) dX9_chain_412 (by first | rfl | assumption | exact M0.at (by decide) (by decide)) rfl (by omega) (by decide) hch ?_
    refine zJ_l2i dX9_chain_413 ?_
    exact zJ_iret dX9_chain_414 rfl (by decide) (by decide) hQ
  | succ n ih =>
    intro hn
    have M0 : zMs (zrow f 167 (fun i => if n + 1 ≤ i ∧ i < H then nI (cd / 8 ^ (H - 1 - i) % 8) else f.2.1 167 i)) := hM
    have em : nI (n + 1) - 1 = nI n := na_sub (b := 1) (by omega)
    rw [em]
    have hle : cd / 8 ^ (H - (n + 1)) ≤ cd := Nat.div_le_self _ _
    have hd : cd / 8 ^ (H - (n + 1)) / 8 = cd / 8 ^ (H - n) := by rw [zn_div, show H - (n + 1) + 1 = H - n by omega]
    have hi9 := ih (by omega)
    refine zJ_iload dX9_chain_377 rfl ?_
    refine zJ_if_lt (tgt := 407) dX9_chain_379 (by decide) (fun h9 => absurd h9 (fun h => absurd ((nI_ltI (b := 0) (by omega) (by decide)).mp h) (by omega))) (fun h379 => ?_)
    refine zJ_aload_n dX9_chain_382 rfl ?_
    refine zJ_getr (j := 167) dX9_chain_383 fX9_116 (by first | rfl | assumption | exact M0.at (by decide) (by decide)) rfl (by first | rfl | assumption | exact M0.rf (by decide) rfl) ?_
    refine zJ_iload dX9_chain_386 rfl ?_
    refine zJ_lload_n dX9_chain_388 rfl ?_
    refine zJ_ldc2 dX9_chain_389 kX9_459 ?_
    refine zJ_lrem dX9_chain_392 (by decide) ?_
    rw [show (8 : Int64) = lN 8 from rfl, lN_rem (by omega) (by decide)]
    refine zJ_l2i dX9_chain_393 ?_
    rw [lN_i]
    refine zJ_iastN (i := n) dX9_chain_394 (by first | rfl | assumption | exact M0.at (by decide) (by decide)) rfl (by omega) (by decide) ?_
    refine zJ_lload_n dX9_chain_395 rfl ?_
    refine zJ_ldc2 dX9_chain_396 kX9_459 ?_
    refine zJ_ldiv dX9_chain_399 (by decide) ?_
    rw [show (8 : Int64) = lN 8 from rfl, lN_div (by omega) (by decide), hd]
    refine zJ_lstore_n (ls2 := fun x400 => [(3, .long x400), (5, .int (nI n)), (2, .int (nI z)), (0, .ref 100), (1, .int v1)]) dX9_chain_400 (by decide) (fun _ => rfl) (fun x400 ex400 => ?_)
    obtain rfl : x400 = (lN (cd / 8 ^ (H - n))) := ex400
    refine zJ_iinc (ls2 := fun x401 => [(5, .int x401), (3, .long (lN (cd / 8 ^ (H - n)))), (2, .int (nI z)), (0, .ref 100), (1, .int v1)]) dX9_chain_401 rfl (by decide) (fun _ => rfl) (fun x401 ex401 => ?_)
    refine zJ_goto (tgt := 377) dX9_chain_404 (by decide) ?_
    refine zJ_ls [(5, .int x401), (3, .long (lN (cd / 8 ^ (H - n)))), (2, .int (nI z)), (0, .ref 100), (1, .int v1)] (by simp) ?_
    rw [ex401, na_dec]
    refine zJ_w ?_ hi9
    rw [zsi_row, zrow_get, zrow_row]
    refine congrArg (zrow f 167) (funext fun i => ?_)
    by_cases h : i = n
    · subst h
      rw [if_pos rfl, if_pos ⟨Nat.le_refl _, by omega⟩, show H - (i + 1) = H - 1 - i by omega]
    · rw [if_neg h]
      have c3 : (n + 1 ≤ i ∧ i < H) = (n ≤ i ∧ i < H) := by simp only [eq_iff_iff]; omega
      simp only [c3]
