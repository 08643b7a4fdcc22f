/-! the model: chain -/
def zCn (w : zW) (K : List zKy) (s : (zKy → Nat) × (zKy → Nat)) : Prop := ∀ (x : Nat) (k : zKy), K[x]? = some k → w.2.2.1 168 x = lN (s.1 k) ∧ (0 < s.1 k → w.2.2.1 169 x = lN (s.2 k))
def zFnd (K : List zKy) (r : Option zKy) (v : Int32) : Prop := match r with
  | none => v = -1
  | some q => ∃ z : Nat, K[z]? = some q ∧ v = nI z
theorem zCn.set {e : zW} {K : List zKy} {s : (zKy → Nat) × (zKy → Nat)} (h : zCn e K s) (hnd : K.Nodup) {c : Nat} {q : zKy} (hc : K[c]? = some q) (a b : Nat) : zCn (zsl (zsl e 168 c (lN a)) 169 c (lN b)) K (fun k => if k = q then a else s.1 k, fun k => if k = q then b else s.2 k) := by
  intro x k hx
  by_cases hxc : x = c
  · subst hxc
    rw [hx] at hc
    obtain rfl := Option.some.inj hc
    simp [zsl]
  · have hkq : ¬ k = q := fun e => hxc (nodup_ix hnd (e ▸ hx) hc)
    simp only [zsl, hkq, hxc, and_false, if_false]
    exact h x k hx
theorem ztl_hi {T : zTo} (hT : zTok T) {k : zKy} (hk : k.1 < 8) {s : (zKy → Nat) × (zKy → Nat)} : ∀ d, T.1 0 + d ≤ 8 → ztl T k s (T.1 0 + d) = ztl T k s (T.1 0)
  | 0, _ => rfl
  | d + 1, h => by
    rw [← Nat.add_assoc]
    simp only [ztl]
    rw [if_neg (fun h9 => by rw [zmay_no hT hk (by omega) (by omega)] at h9; cases h9.1)]
    exact ztl_hi hT hk d (by omega)
theorem ztl_end {T : zTo} {k : zKy} {s : (zKy → Nat) × (zKy → Nat)} (h : ¬ k.2.1 < T.1 7) : ∀ d, ztl T k s d = s
  | 0 => rfl
  | d + 1 => by
    simp only [ztl]
    rw [if_neg (fun h9 => h (zmay_eq.mp h9.1).1)]
    exact ztl_end h d
set_option maxRecDepth 100000 in
theorem zMo_chI (Δ : zD) (w : zW) (T : zTo) (K : List zKy) (hK : zMK w T K) (hT : zTok T) (x : Nat) (k : zKy) (hx : K[x]? = some k) (hB : zBm w T K) (s : (zKy → Nat) × (zKy → Nat)) (hok : zcok s) (hs : 0 < s.1 k) (fo v1 : Int32) {QR : Option Value → zW → Prop} (kk : ∀ e, zFM [68, 69] w e → zCn e K (ztl T k s 8) → zJ Δ mX9_chain (zRm 5 0 0) true w.1 QR (fun _ _ => False) 0 0 341 [(3, .int (nI x)), (2, .int fo), (0, .ref 100), (1, .int v1)] [] e) : ∀ e, zFM [68, 69] w e → zCn e K s → zJ Δ mX9_chain (zRm 5 0 0) true w.1 QR (fun _ _ => False) 0 0 201 [(3, .int (nI x)), (2, .int fo), (0, .ref 100), (1, .int v1)] [] e := by
  have hK0 := hK
  obtain ⟨hA, hN, hall, hch⟩ := hK
  have hA0 := hA
  obtain ⟨hM, m1, m3, m4, m5, m6, m7, m46, m9, m47, mso, mnu, mwt⟩ := hA
  have hT0 := hT
  obtain ⟨hp0, hp5, hp6, hp7, hp8, hp9, hp10, hp11, hp12, hp13, hpp, hpw⟩ := hT
  have hxK : x < K.length := (List.getElem?_eq_some_iff.mp hx).1
  have hKR := hN.2.2.1
  obtain ⟨hk, hkp⟩ := hN.2.2.2 k (List.mem_iff_getElem?.mpr ⟨x, hx⟩)
  obtain ⟨y1, y2, y3, y4⟩ := hN.1 x k hx
  have hk1 := hk.1
  have hk2 := hk.2.1
  have hnd := zall_nodup hall
  have hsk := hok k
  have hp8 : 8 ^ k.2.1 ≤ 8 ^ 12 := Nat.pow_le_pow_right (by decide) (by omega)
  have hcb := hsk.2 hs
  have ht8 : ztl T k s 8 = ztl T k s (T.1 0) := by
    have := ztl_hi hT0 hk1 (s := s) (8 - T.1 0) (by omega)
    rwa [show T.1 0 + (8 - T.1 0) = 8 by omega] at this
  have L : ∀ j, j ≤ T.1 0 → ∀ e, zFM [68, 69] w e → zCn e K (ztl T k s j) → zJ Δ mX9_chain (zRm 5 0 0) true w.1 QR (fun _ _ => False) 0 0 204 [(4, .int (nI j)), (3, .int (nI x)), (2, .int fo), (0, .ref 100), (1, .int v1)] [] e := by
    refine zup (fun j hj ih => ?_)
    intro e hf hc
    have hKe : zMK e T K := hK0.fm hf (by decide)
    have Me : zMs e := hKe.1.1
    have e1 : e.2.1 100 1 = nI (T.1 0) := hKe.1.2.1
    have hBe : zBm e T K := fun x k hx h3 => by rw [show (152 : Nat) = 100 + 52 from rfl, hf.ar (by decide) (by decide)]; exact hB x k hx h3
    have hsf := ztl_self (T := T) (k := k) (s := s) j
    have cx : e.2.2.1 168 x = lN (s.1 k) := by rw [← hsf.1]; exact (hc x k hx).1
    have cd : e.2.2.1 169 x = lN (s.2 k) := by rw [← hsf.2]; exact (hc x k hx).2 (by rw [hsf.1]; exact hs)
    by_cases hj0 : j = T.1 0
    · refine zJ_iload dX9_chain_204 rfl ?_
      refine zJ_aload_n dX9_chain_206 rfl ?_
      refine zJ_getiN dX9_chain_207 fX9_298 (by first | rfl | assumption | exact Me.at (by decide) (by decide)) rfl e1 ?_
      refine zJ_icmp_ge (tgt := 341) dX9_chain_210 (by decide) (fun h210 => ?_) (fun h9 => absurd ((nI_leI (by omega) (by omega)).mpr (by omega)) h9)
      refine zJ_ls [(3, .int (nI x)), (2, .int fo), (0, .ref 100), (1, .int v1)] (by simp) ?_
      exact kk e hf (by rw [ht8, ← hj0]; exact hc)
    · have hj9 : j < T.1 0 := by omega
      have hsl : zst1 T k (s.1 k) j ≤ s.1 k := zst1_le (T := T) k (s.1 k) (show j < 8 by omega)
      have hno : ¬ (zmay T k j = true ∧ 0 < zst1 T k (s.1 k) j ∧ ((ztl T k s j).1 (zbk T k j) < zst1 T k (s.1 k) j ∨ ((ztl T k s j).1 (zbk T k j) = zst1 T k (s.1 k) j ∧ 8 * s.2 k + j < (ztl T k s j).2 (zbk T k j)))) → zJ Δ mX9_chain (zRm 5 0 0) true w.1 QR (fun _ _ => False) 0 0 204 [(4, .int (nI (j + 1))), (3, .int (nI x)), (2, .int fo), (0, .ref 100), (1, .int v1)] [] e := fun h => ih (j + 1) (by omega) (by omega) e hf (by
        have : ztl T k s (j + 1) = ztl T k s j := by simp only [ztl]; rw [if_neg h]
        rw [this]; exact hc)
      cases hmy : zmay T k j with
      | false =>
        refine zJ_iload dX9_chain_204 rfl ?_
        refine zJ_aload_n dX9_chain_206 rfl ?_
        refine zJ_getiN dX9_chain_207 fX9_298 (by first | rfl | assumption | exact Me.at (by decide) (by decide)) rfl e1 ?_
        refine zJ_icmp_ge (tgt := 341) dX9_chain_210 (by decide) (fun h9 => absurd h9 (fun h => absurd ((nI_leI (by omega) (by omega)).mp h) (by omega))) (fun h210 => ?_)
        refine zJ_aload_n dX9_chain_213 rfl ?_
        refine zJ_getr (j := 143) dX9_chain_214 fX9_63 (by first | rfl | assumption | exact Me.at (by decide) (by decide)) rfl (by first | rfl | assumption | exact Me.rf (by decide) rfl) ?_
        refine zJ_bipush (v := 8) dX9_chain_217 (by decide) ?_
        refine zJ_iload_n dX9_chain_219 rfl ?_
        refine zJ_imul dX9_chain_220 ?_
        refine zJ_iload dX9_chain_221 rfl ?_
        refine zJ_iadd dX9_chain_223 ?_
        refine zJ_ialdN (i := (x * 8 + j)) (v := (-1)) dX9_chain_224 (by first | rfl | assumption | exact Me.at (by decide) (by decide)) (na_8 _ _) (by omega) (by decide) (hKe.n hx (by omega) hmy) ?_
        refine zJ_istore (ls2 := fun x225 => [(5, .int x225), (4, .int (nI j)), (3, .int (nI x)), (2, .int fo), (0, .ref 100), (1, .int v1)]) dX9_chain_225 (by decide) (fun _ => rfl) (fun x225 ex225 => ?_)
        obtain rfl : x225 = (-1) := ex225
        refine zJ_iload dX9_chain_227 rfl ?_
        refine zJ_iconst (v := (-1)) dX9_chain_229 (by decide) ?_
        refine zJ_icmp_ne (tgt := 237) dX9_chain_230 (by decide) (fun h9 => False.elim (by revert h9; decide)) (fun _ => ?_)
        refine zJ_lconst (v := 0) dX9_chain_233 (by decide) ?_
        refine zJ_goto (tgt := 250) dX9_chain_234 (by decide) ?_
        refine zJ_lstore (ls2 := fun x250 => [(6, .long x250), (5, .int (-1)), (4, .int (nI j)), (3, .int (nI x)), (2, .int fo), (0, .ref 100), (1, .int v1)]) dX9_chain_250 (by decide) (fun _ => rfl) (fun x250 ex250 => ?_)
        obtain rfl : x250 = 0 := ex250
        refine zJ_ldc2 dX9_chain_252 kX9_459 ?_
        refine zJ_aload_n dX9_chain_255 rfl ?_
        refine zJ_getr (j := 169) dX9_chain_256 fX9_122 (by first | rfl | assumption | exact Me.at (by decide) (by decide)) rfl (by first | rfl | assumption | exact Me.rf (by decide) rfl) ?_
        refine zJ_iload_n dX9_chain_259 rfl ?_
        refine zJ_laldN (i := x) (v := (lN (s.2 k))) dX9_chain_260 (by first | rfl | assumption | exact Me.at (by decide) (by decide)) rfl (by omega) (by decide) cd ?_
        refine zJ_lmul dX9_chain_261 ?_
        rw [show (8 : Int64) = lN 8 from rfl, lN_mul]
        refine zJ_iload dX9_chain_262 rfl ?_
        refine zJ_i2l dX9_chain_264 ?_
        rw [nI_l (show j < 2 ^ 31 by omega)]
        refine zJ_ladd dX9_chain_265 ?_
        rw [lN_add]
        refine zJ_lstore (ls2 := fun x266 => [(8, .long x266), (6, .long 0), (5, .int (-1)), (4, .int (nI j)), (3, .int (nI x)), (2, .int fo), (0, .ref 100), (1, .int v1)]) dX9_chain_266 (by decide) (fun _ => rfl) (fun x266 ex266 => ?_)
        obtain rfl : x266 = (lN (8 * s.2 k + j)) := ex266
        refine zJ_lload dX9_chain_268 rfl ?_
        refine zJ_lconst (v := 0) dX9_chain_270 (by decide) ?_
        refine zJ_lc_eq (tgt := 335) dX9_chain_271 dX9_chain_272 (by decide) (fun h272 => ?_) (fun h9 => absurd rfl h9)
        refine zJ_iinc (ls2 := fun x335 => [(4, .int x335), (8, .long (lN (8 * s.2 k + j))), (6, .long 0), (5, .int (-1)), (3, .int (nI x)), (2, .int fo), (0, .ref 100), (1, .int v1)]) dX9_chain_335 rfl (by decide) (fun _ => rfl) (fun x335 ex335 => ?_)
        refine zJ_goto (tgt := 204) dX9_chain_338 (by decide) ?_
        refine zJ_ls [(4, .int x335), (3, .int (nI x)), (2, .int fo), (0, .ref 100), (1, .int v1)] (by simp) ?_
        rw [ex335, show nI j + Int32.ofInt 1 = nI (j + 1) from nI_1 _]
        exact hno (fun h => by rw [hmy] at h; cases h.1)
      | true =>
        obtain ⟨c9, hc1, hc2, hc3, hc4, hc5⟩ := hKe.c hx (show j < 8 by omega) hmy
        obtain ⟨w1, w2⟩ := hc c9 _ hc1
        have hok9 := ztl_ok (T := T) hok hs j (by omega) (zbk T k j)
        have hp9 : 8 ^ (zbk T k j).2.1 ≤ 8 ^ 13 := Nat.pow_le_pow_right (by decide) (by simp only [zbk]; omega)
        by_cases hv0 : zst1 T k (s.1 k) j = 0
        · refine zJ_iload dX9_chain_204 rfl ?_
          refine zJ_aload_n dX9_chain_206 rfl ?_
          refine zJ_getiN dX9_chain_207 fX9_298 (by first | rfl | assumption | exact Me.at (by decide) (by decide)) rfl e1 ?_
          refine zJ_icmp_ge (tgt := 341) dX9_chain_210 (by decide) (fun h9 => absurd h9 (fun h => absurd ((nI_leI (by omega) (by omega)).mp h) (by omega))) (fun h210 => ?_)
          refine zJ_aload_n dX9_chain_213 rfl ?_
          refine zJ_getr (j := 143) dX9_chain_214 fX9_63 (by first | rfl | assumption | exact Me.at (by decide) (by decide)) rfl (by first | rfl | assumption | exact Me.rf (by decide) rfl) ?_
          refine zJ_bipush (v := 8) dX9_chain_217 (by decide) ?_
          refine zJ_iload_n dX9_chain_219 rfl ?_
          refine zJ_imul dX9_chain_220 ?_
          refine zJ_iload dX9_chain_221 rfl ?_
          refine zJ_iadd dX9_chain_223 ?_
          refine zJ_ialdN (i := (x * 8 + j)) (v := (nI c9)) dX9_chain_224 (by first | rfl | assumption | exact Me.at (by decide) (by decide)) (na_8 _ _) (by omega) (by decide) hc2 ?_
          refine zJ_istore (ls2 := fun x225 => [(5, .int x225), (4, .int (nI j)), (3, .int (nI x)), (2, .int fo), (0, .ref 100), (1, .int v1)]) dX9_chain_225 (by decide) (fun _ => rfl) (fun x225 ex225 => ?_)
          obtain rfl : x225 = (nI c9) := ex225
          refine zJ_iload dX9_chain_227 rfl ?_
          refine zJ_iconst (v := (-1)) dX9_chain_229 (by decide) ?_
          refine zJ_icmp_ne (tgt := 237) dX9_chain_230 (by decide) (fun h230 => ?_) (fun h9 => absurd h9 (nI_m1 (show c9 < 2 ^ 31 by omega)))
          refine zJ_aload_n dX9_chain_237 rfl ?_
          refine zJ_iload_n dX9_chain_238 rfl ?_
          refine zJ_iload dX9_chain_239 rfl ?_
          refine zJ_aload_n dX9_chain_241 rfl ?_
          refine zJ_getr (j := 168) dX9_chain_242 fX9_119 (by first | rfl | assumption | exact Me.at (by decide) (by decide)) rfl (by first | rfl | assumption | exact Me.rf (by decide) rfl) ?_
          refine zJ_iload_n dX9_chain_245 rfl ?_
          refine zJ_laldN (i := x) (v := (lN (s.1 k))) dX9_chain_246 (by first | rfl | assumption | exact Me.at (by decide) (by decide)) rfl (by omega) (by decide) cx ?_
          refine zJ_cV3 dX9_chain_247 sX9_447 mfX9_stepTo (c_Mo_stepTo Δ e T K hKe hT0 x k hx hBe j (s.1 k) (by omega) hsk.1) (by first | rfl | assumption | exact Me.at (by decide) (by decide)) rfl (Nat.le_of_ble_eq_true rfl) (by decide) (by decide) ?_
          refine zJ_lstore (ls2 := fun x250 => [(6, .long x250), (5, .int (nI c9)), (4, .int (nI j)), (3, .int (nI x)), (2, .int fo), (0, .ref 100), (1, .int v1)]) dX9_chain_250 (by decide) (fun _ => rfl) (fun x250 ex250 => ?_)
          obtain rfl : x250 = (lN (zst1 T k (s.1 k) j)) := ex250
          refine zJ_ldc2 dX9_chain_252 kX9_459 ?_
          refine zJ_aload_n dX9_chain_255 rfl ?_
          refine zJ_getr (j := 169) dX9_chain_256 fX9_122 (by first | rfl | assumption | exact Me.at (by decide) (by decide)) rfl (by first | rfl | assumption | exact Me.rf (by decide) rfl) ?_
          refine zJ_iload_n dX9_chain_259 rfl ?_
          refine zJ_laldN (i := x) (v := (lN (s.2 k))) dX9_chain_260 (by first | rfl | assumption | exact Me.at (by decide) (by decide)) rfl (by omega) (by decide) cd ?_
          refine zJ_lmul dX9_chain_261 ?_
          rw [show (8 : Int64) = lN 8 from rfl, lN_mul]
          refine zJ_iload dX9_chain_262 rfl ?_
          refine zJ_i2l dX9_chain_264 ?_
          rw [nI_l (show j < 2 ^ 31 by omega)]
          refine zJ_ladd dX9_chain_265 ?_
          rw [lN_add]
          refine zJ_lstore (ls2 := fun x266 => [(8, .long x266), (6, .long (lN (zst1 T k (s.1 k) j))), (5, .int (nI c9)), (4, .int (nI j)), (3, .int (nI x)), (2, .int fo), (0, .ref 100), (1, .int v1)]) dX9_chain_266 (by decide) (fun _ => rfl) (fun x266 ex266 => ?_)
          obtain rfl : x266 = (lN (8 * s.2 k + j)) := ex266
          refine zJ_lload dX9_chain_268 rfl ?_
          refine zJ_lconst (v := 0) dX9_chain_270 (by decide) ?_
          refine zJ_lc_eq (tgt := 335) dX9_chain_271 dX9_chain_272 (by decide) (fun h272 => ?_) (fun h9 => absurd (by rw [hv0]; rfl) h9)
          refine zJ_iinc (ls2 := fun x335 => [(4, .int x335), (8, .long (lN (8 * s.2 k + j))), (6, .long (lN (zst1 T k (s.1 k) j))), (5, .int (nI c9)), (3, .int (nI x)), (2, .int fo), (0, .ref 100), (1, .int v1)]) dX9_chain_335 rfl (by decide) (fun _ => rfl) (fun x335 ex335 => ?_)
          refine zJ_goto (tgt := 204) dX9_chain_338 (by decide) ?_
          refine zJ_ls [(4, .int x335), (3, .int (nI x)), (2, .int fo), (0, .ref 100), (1, .int v1)] (by simp) ?_
          rw [ex335, show nI j + Int32.ofInt 1 = nI (j + 1) from nI_1 _]
          exact hno (fun h => by have := h.2.1; omega)
        · have hn0 : ¬ lN (zst1 T k (s.1 k) j) = 0 := fun h => hv0 ((fb_lN_inj (b := 0) (by omega) (by decide)).mp h)
          rcases Nat.lt_trichotomy (zst1 T k (s.1 k) j) ((ztl T k s j).1 (zbk T k j)) with hlt | heq | hgt
          · refine zJ_iload dX9_chain_204 rfl ?_
            refine zJ_aload_n dX9_chain_206 rfl ?_
            refine zJ_getiN dX9_chain_207 fX9_298 (by first | rfl | assumption | exact Me.at (by decide) (by decide)) rfl e1 ?_
            refine zJ_icmp_ge (tgt := 341) dX9_chain_210 (by decide) (fun h9 => absurd h9 (fun h => absurd ((nI_leI (by omega) (by omega)).mp h) (by omega))) (fun h210 => ?_)
            refine zJ_aload_n dX9_chain_213 rfl ?_
            refine zJ_getr (j := 143) dX9_chain_214 fX9_63 (by first | rfl | assumption | exact Me.at (by decide) (by decide)) rfl (by first | rfl | assumption | exact Me.rf (by decide) rfl) ?_
            refine zJ_bipush (v := 8) dX9_chain_217 (by decide) ?_
            refine zJ_iload_n dX9_chain_219 rfl ?_
            refine zJ_imul dX9_chain_220 ?_
            refine zJ_iload dX9_chain_221 rfl ?_
            refine zJ_iadd dX9_chain_223 ?_
            refine zJ_ialdN (i := (x * 8 + j)) (v := (nI c9)) dX9_chain_224 (by first | rfl | assumption | exact Me.at (by decide) (by decide)) (na_8 _ _) (by omega) (by decide) hc2 ?_
            refine zJ_istore (ls2 := fun x225 => [(5, .int x225), (4, .int (nI j)), (3, .int (nI x)), (2, .int fo), (0, .ref 100), (1, .int v1)]) dX9_chain_225 (by decide) (fun _ => rfl) (fun x225 ex225 => ?_)
            obtain rfl : x225 = (nI c9) := ex225
            refine zJ_iload dX9_chain_227 rfl ?_
            refine zJ_iconst (v := (-1)) dX9_chain_229 (by decide) ?_
            refine zJ_icmp_ne (tgt := 237) dX9_chain_230 (by decide) (fun h230 => ?_) (fun h9 => absurd h9 (nI_m1 (show c9 < 2 ^ 31 by omega)))
            refine zJ_aload_n dX9_chain_237 rfl ?_
            refine zJ_iload_n dX9_chain_238 rfl ?_
            refine zJ_iload dX9_chain_239 rfl ?_
            refine zJ_aload_n dX9_chain_241 rfl ?_
            refine zJ_getr (j := 168) dX9_chain_242 fX9_119 (by first | rfl | assumption | exact Me.at (by decide) (by decide)) rfl (by first | rfl | assumption | exact Me.rf (by decide) rfl) ?_
            refine zJ_iload_n dX9_chain_245 rfl ?_
            refine zJ_laldN (i := x) (v := (lN (s.1 k))) dX9_chain_246 (by first | rfl | assumption | exact Me.at (by decide) (by decide)) rfl (by omega) (by decide) cx ?_
            refine zJ_cV3 dX9_chain_247 sX9_447 mfX9_stepTo (c_Mo_stepTo Δ e T K hKe hT0 x k hx hBe j (s.1 k) (by omega) hsk.1) (by first | rfl | assumption | exact Me.at (by decide) (by decide)) rfl (Nat.le_of_ble_eq_true rfl) (by decide) (by decide) ?_
            refine zJ_lstore (ls2 := fun x250 => [(6, .long x250), (5, .int (nI c9)), (4, .int (nI j)), (3, .int (nI x)), (2, .int fo), (0, .ref 100), (1, .int v1)]) dX9_chain_250 (by decide) (fun _ => rfl) (fun x250 ex250 => ?_)
            obtain rfl : x250 = (lN (zst1 T k (s.1 k) j)) := ex250
            refine zJ_ldc2 dX9_chain_252 kX9_459 ?_
            refine zJ_aload_n dX9_chain_255 rfl ?_
            refine zJ_getr (j := 169) dX9_chain_256 fX9_122 (by first | rfl | assumption | exact Me.at (by decide) (by decide)) rfl (by first | rfl | assumption | exact Me.rf (by decide) rfl) ?_
            refine zJ_iload_n dX9_chain_259 rfl ?_
            refine zJ_laldN (i := x) (v := (lN (s.2 k))) dX9_chain_260 (by first | rfl | assumption | exact Me.at (by decide) (by decide)) rfl (by omega) (by decide) cd ?_
            refine zJ_lmul dX9_chain_261 ?_
            rw [show (8 : Int64) = lN 8 from rfl, lN_mul]
            refine zJ_iload dX9_chain_262 rfl ?_
            refine zJ_i2l dX9_chain_264 ?_
            rw [nI_l (show j < 2 ^ 31 by omega)]
            refine zJ_ladd dX9_chain_265 ?_
            rw [lN_add]
            refine zJ_lstore (ls2 := fun x266 => [(8, .long x266), (6, .long (lN (zst1 T k (s.1 k) j))), (5, .int (nI c9)), (4, .int (nI j)), (3, .int (nI x)), (2, .int fo), (0, .ref 100), (1, .int v1)]) dX9_chain_266 (by decide) (fun _ => rfl) (fun x266 ex266 => ?_)
            obtain rfl : x266 = (lN (8 * s.2 k + j)) := ex266
            refine zJ_lload dX9_chain_268 rfl ?_
            refine zJ_lconst (v := 0) dX9_chain_270 (by decide) ?_
            refine zJ_lc_eq (tgt := 335) dX9_chain_271 dX9_chain_272 (by decide) (fun h9 => absurd h9 hn0) (fun h272 => ?_)
            refine zJ_lload dX9_chain_275 rfl ?_
            refine zJ_aload_n dX9_chain_277 rfl ?_
            refine zJ_getr (j := 168) dX9_chain_278 fX9_119 (by first | rfl | assumption | exact Me.at (by decide) (by decide)) rfl (by first | rfl | assumption | exact Me.rf (by decide) rfl) ?_
            refine zJ_iload dX9_chain_281 rfl ?_
            refine zJ_laldN (i := c9) (v := (lN ((ztl T k s j).1 (zbk T k j)))) dX9_chain_283 (by first | rfl | assumption | exact Me.at (by decide) (by decide)) rfl (by omega) (by decide) w1 ?_
            refine zJ_lc_lt (tgt := 335) dX9_chain_284 dX9_chain_285 (by decide) (fun h285 => ?_) (fun h9 => absurd ((lN_ltL (by omega) (by omega)).mpr hlt) h9)
            refine zJ_iinc (ls2 := fun x335 => [(4, .int x335), (8, .long (lN (8 * s.2 k + j))), (6, .long (lN (zst1 T k (s.1 k) j))), (5, .int (nI c9)), (3, .int (nI x)), (2, .int fo), (0, .ref 100), (1, .int v1)]) dX9_chain_335 rfl (by decide) (fun _ => rfl) (fun x335 ex335 => ?_)
            refine zJ_goto (tgt := 204) dX9_chain_338 (by decide) ?_
            refine zJ_ls [(4, .int x335), (3, .int (nI x)), (2, .int fo), (0, .ref 100), (1, .int v1)] (by simp) ?_
            rw [ex335, show nI j + Int32.ofInt 1 = nI (j + 1) from nI_1 _]
            exact hno (fun h => by rcases h.2.2 with h9 | h9 <;> omega)
          · have w3 := w2 (by omega)
            have hcc := hok9.2 (by omega)
            by_cases hits : 8 * s.2 k + j < (ztl T k s j).2 (zbk T k j)
            · refine zJ_iload dX9_chain_204 rfl ?_
              refine zJ_aload_n dX9_chain_206 rfl ?_
              refine zJ_getiN dX9_chain_207 fX9_298 (by first | rfl | assumption | exact Me.at (by decide) (by decide)) rfl e1 ?_
              refine zJ_icmp_ge (tgt := 341) dX9_chain_210 (by decide) (fun h9 => absurd h9 (fun h => absurd ((nI_leI (by omega) (by omega)).mp h) (by omega))) (fun h210 => ?_)
              refine zJ_aload_n dX9_chain_213 rfl ?_
              refine zJ_getr (j := 143) dX9_chain_214 fX9_63 (by first | rfl | assumption | exact Me.at (by decide) (by decide)) rfl (by first | rfl | assumption | exact Me.rf (by decide) rfl) ?_
              refine zJ_bipush (v := 8) dX9_chain_217 (by decide) ?_
              refine zJ_iload_n dX9_chain_219 rfl ?_
              refine zJ_imul dX9_chain_220 ?_
              refine zJ_iload dX9_chain_221 rfl ?_
              refine zJ_iadd dX9_chain_223 ?_
              refine zJ_ialdN (i := (x * 8 + j)) (v := (nI c9)) dX9_chain_224 (by first | rfl | assumption | exact Me.at (by decide) (by decide)) (na_8 _ _) (by omega) (by decide) hc2 ?_
              refine zJ_istore (ls2 := fun x225 => [(5, .int x225), (4, .int (nI j)), (3, .int (nI x)), (2, .int fo), (0, .ref 100), (1, .int v1)]) dX9_chain_225 (by decide) (fun _ => rfl) (fun x225 ex225 => ?_)
              obtain rfl : x225 = (nI c9) := ex225
              refine zJ_iload dX9_chain_227 rfl ?_
              refine zJ_iconst (v := (-1)) dX9_chain_229 (by decide) ?_
              refine zJ_icmp_ne (tgt := 237) dX9_chain_230 (by decide) (fun h230 => ?_) (fun h9 => absurd h9 (nI_m1 (show c9 < 2 ^ 31 by omega)))
              refine zJ_aload_n dX9_chain_237 rfl ?_
              refine zJ_iload_n dX9_chain_238 rfl ?_
              refine zJ_iload dX9_chain_239 rfl ?_
              refine zJ_aload_n dX9_chain_241 rfl ?_
              refine zJ_getr (j := 168) dX9_chain_242 fX9_119 (by first | rfl | assumption | exact Me.at (by decide) (by decide)) rfl (by first | rfl | assumption | exact Me.rf (by decide) rfl) ?_
              refine zJ_iload_n dX9_chain_245 rfl ?_
              refine zJ_laldN (i := x) (v := (lN (s.1 k))) dX9_chain_246 (by first | rfl | assumption | exact Me.at (by decide) (by decide)) rfl (by omega) (by decide) cx ?_
              refine zJ_cV3 dX9_chain_247 sX9_447 mfX9_stepTo (c_Mo_stepTo Δ e T K hKe hT0 x k hx hBe j (s.1 k) (by omega) hsk.1) (by first | rfl | assumption | exact Me.at (by decide) (by decide)) rfl (Nat.le_of_ble_eq_true rfl) (by decide) (by decide) ?_
              refine zJ_lstore (ls2 := fun x250 => [(6, .long x250), (5, .int (nI c9)), (4, .int (nI j)), (3, .int (nI x)), (2, .int fo), (0, .ref 100), (1, .int v1)]) dX9_chain_250 (by decide) (fun _ => rfl) (fun x250 ex250 => ?_)
              obtain rfl : x250 = (lN (zst1 T k (s.1 k) j)) := ex250
              refine zJ_ldc2 dX9_chain_252 kX9_459 ?_
              refine zJ_aload_n dX9_chain_255 rfl ?_
              refine zJ_getr (j := 169) dX9_chain_256 fX9_122 (by first | rfl | assumption | exact Me.at (by decide) (by decide)) rfl (by first | rfl | assumption | exact Me.rf (by decide) rfl) ?_
              refine zJ_iload_n dX9_chain_259 rfl ?_
              refine zJ_laldN (i := x) (v := (lN (s.2 k))) dX9_chain_260 (by first | rfl | assumption | exact Me.at (by decide) (by decide)) rfl (by omega) (by decide) cd ?_
              refine zJ_lmul dX9_chain_261 ?_
              rw [show (8 : Int64) = lN 8 from rfl, lN_mul]
              refine zJ_iload dX9_chain_262 rfl ?_
              refine zJ_i2l dX9_chain_264 ?_
              rw [nI_l (show j < 2 ^ 31 by omega)]
              refine zJ_ladd dX9_chain_265 ?_
              rw [lN_add]
              refine zJ_lstore (ls2 := fun x266 => [(8, .long x266), (6, .long (lN (zst1 T k (s.1 k) j))), (5, .int (nI c9)), (4, .int (nI j)), (3, .int (nI x)), (2, .int fo), (0, .ref 100), (1, .int v1)]) dX9_chain_266 (by decide) (fun _ => rfl) (fun x266 ex266 => ?_)
              obtain rfl : x266 = (lN (8 * s.2 k + j)) := ex266
              refine zJ_lload dX9_chain_268 rfl ?_
              refine zJ_lconst (v := 0) dX9_chain_270 (by decide) ?_
              refine zJ_lc_eq (tgt := 335) dX9_chain_271 dX9_chain_272 (by decide) (fun h9 => absurd h9 hn0) (fun h272 => ?_)
              refine zJ_lload dX9_chain_275 rfl ?_
              refine zJ_aload_n dX9_chain_277 rfl ?_
              refine zJ_getr (j := 168) dX9_chain_278 fX9_119 (by first | rfl | assumption | exact Me.at (by decide) (by decide)) rfl (by first | rfl | assumption | exact Me.rf (by decide) rfl) ?_
              refine zJ_iload dX9_chain_281 rfl ?_
              refine zJ_laldN (i := c9) (v := (lN ((ztl T k s j).1 (zbk T k j)))) dX9_chain_283 (by first | rfl | assumption | exact Me.at (by decide) (by decide)) rfl (by omega) (by decide) w1 ?_
              refine zJ_lc_lt (tgt := 335) dX9_chain_284 dX9_chain_285 (by decide) (fun h9 => absurd h9 (fun h => absurd ((lN_ltL (by omega) (by omega)).mp h) (by omega))) (fun h285 => ?_)
              refine zJ_lload dX9_chain_288 rfl ?_
              refine zJ_aload_n dX9_chain_290 rfl ?_
              refine zJ_getr (j := 168) dX9_chain_291 fX9_119 (by first | rfl | assumption | exact Me.at (by decide) (by decide)) rfl (by first | rfl | assumption | exact Me.rf (by decide) rfl) ?_
              refine zJ_iload dX9_chain_294 rfl ?_
              refine zJ_laldN (i := c9) (v := (lN ((ztl T k s j).1 (zbk T k j)))) dX9_chain_296 (by first | rfl | assumption | exact Me.at (by decide) (by decide)) rfl (by omega) (by decide) w1 ?_
              refine zJ_lc_ne (tgt := 317) dX9_chain_297 dX9_chain_298 (by decide) (fun h9 => absurd h9 (fun h => h (by rw [heq]))) (fun h298 => ?_)
              refine zJ_lload dX9_chain_301 rfl ?_
              refine zJ_aload_n dX9_chain_303 rfl ?_
              refine zJ_getr (j := 169) dX9_chain_304 fX9_122 (by first | rfl | assumption | exact Me.at (by decide) (by decide)) rfl (by first | rfl | assumption | exact Me.rf (by decide) rfl) ?_
              refine zJ_iload dX9_chain_307 rfl ?_
              refine zJ_laldN (i := c9) (v := (lN ((ztl T k s j).2 (zbk T k j)))) dX9_chain_309 (by first | rfl | assumption | exact Me.at (by decide) (by decide)) rfl (by omega) (by decide) w3 ?_
              refine zJ_lc_lt (tgt := 317) dX9_chain_310 dX9_chain_311 (by decide) (fun h311 => ?_) (fun h9 => absurd ((lN_ltL (by omega) (by omega)).mpr hits) h9)
              refine zJ_aload_n dX9_chain_317 rfl ?_
              refine zJ_getr (j := 168) dX9_chain_318 fX9_119 (by first | rfl | assumption | exact Me.at (by decide) (by decide)) rfl (by first | rfl | assumption | exact Me.rf (by decide) rfl) ?_
              refine zJ_iload dX9_chain_321 rfl ?_
              refine zJ_lload dX9_chain_323 rfl ?_
              refine zJ_lastN (i := c9) dX9_chain_325 (by first | rfl | assumption | exact Me.at (by decide) (by decide)) rfl (by omega) (by decide) ?_
              refine zJ_aload_n dX9_chain_326 rfl ?_
              refine zJ_getr (j := 169) dX9_chain_327 fX9_122 (by first | rfl | assumption | exact Me.at (by decide) (by decide)) rfl (by first | rfl | assumption | exact Me.rf (by decide) rfl) ?_
              refine zJ_iload dX9_chain_330 rfl ?_
              refine zJ_lload dX9_chain_332 rfl ?_
              refine zJ_lastN (i := c9) dX9_chain_334 (by first | rfl | assumption | exact Me.at (by decide) (by decide)) rfl (by omega) (by decide) ?_
              refine zJ_iinc (ls2 := fun x335 => [(4, .int x335), (8, .long (lN (8 * s.2 k + j))), (6, .long (lN (zst1 T k (s.1 k) j))), (5, .int (nI c9)), (3, .int (nI x)), (2, .int fo), (0, .ref 100), (1, .int v1)]) dX9_chain_335 rfl (by decide) (fun _ => rfl) (fun x335 ex335 => ?_)
              refine zJ_goto (tgt := 204) dX9_chain_338 (by decide) ?_
              refine zJ_ls [(4, .int x335), (3, .int (nI x)), (2, .int fo), (0, .ref 100), (1, .int v1)] (by simp) ?_
              rw [ex335, show nI j + Int32.ofInt 1 = nI (j + 1) from nI_1 _]
              refine ih (j + 1) (by omega) (by omega) _ (hf.tr ((zFM.l (Or.inr (by decide))).tr (zFM.l (Or.inr (by decide))))) ?_
              have h9 : ztl T k s (j + 1) = (fun q => if q = zbk T k j then zst1 T k (s.1 k) j else (ztl T k s j).1 q, fun q => if q = zbk T k j then 8 * s.2 k + j else (ztl T k s j).2 q) := by
                simp only [ztl]
                rw [if_pos ⟨hmy, by omega, Or.inr ⟨heq.symm, hits⟩⟩]
              rw [h9]
              exact hc.set hnd hc1 _ _
            · refine zJ_iload dX9_chain_204 rfl ?_
              refine zJ_aload_n dX9_chain_206 rfl ?_
              refine zJ_getiN dX9_chain_207 fX9_298 (by first | rfl | assumption | exact Me.at (by decide) (by decide)) rfl e1 ?_
              refine zJ_icmp_ge (tgt := 341) dX9_chain_210 (by decide) (fun h9 => absurd h9 (fun h => absurd ((nI_leI (by omega) (by omega)).mp h) (by omega))) (fun h210 => ?_)
              refine zJ_aload_n dX9_chain_213 rfl ?_
              refine zJ_getr (j := 143) dX9_chain_214 fX9_63 (by first | rfl | assumption | exact Me.at (by decide) (by decide)) rfl (by first | rfl | assumption | exact Me.rf (by decide) rfl) ?_
              refine zJ_bipush (v := 8) dX9_chain_217 (by decide) ?_
              refine zJ_iload_n dX9_chain_219 rfl ?_
              refine zJ_imul dX9_chain_220 ?_
              refine zJ_iload dX9_chain_221 rfl ?_
              refine zJ_iadd dX9_chain_223 ?_
              refine zJ_ialdN (i := (x * 8 + j)) (v := (nI c9)) dX9_chain_224 (by first | rfl | assumption | exact Me.at (by decide) (by decide)) (na_8 _ _) (by omega) (by decide) hc2 ?_
              refine zJ_istore (ls2 := fun x225 => [(5, .int x225), (4, .int (nI j)), (3, .int (nI x)), (2, .int fo), (0, .ref 100), (1, .int v1)]) dX9_chain_225 (by decide) (fun _ => rfl) (fun x225 ex225 => ?_)
              obtain rfl : x225 = (nI c9) := ex225
              refine zJ_iload dX9_chain_227 rfl ?_
              refine zJ_iconst (v := (-1)) dX9_chain_229 (by decide) ?_
              refine zJ_icmp_ne (tgt := 237) dX9_chain_230 (by decide) (fun h230 => ?_) (fun h9 => absurd h9 (nI_m1 (show c9 < 2 ^ 31 by omega)))
              refine zJ_aload_n dX9_chain_237 rfl ?_
              refine zJ_iload_n dX9_chain_238 rfl ?_
              refine zJ_iload dX9_chain_239 rfl ?_
              refine zJ_aload_n dX9_chain_241 rfl ?_
              refine zJ_getr (j := 168) dX9_chain_242 fX9_119 (by first | rfl | assumption | exact Me.at (by decide) (by decide)) rfl (by first | rfl | assumption | exact Me.rf (by decide) rfl) ?_
              refine zJ_iload_n dX9_chain_245 rfl ?_
              refine zJ_laldN (i := x) (v := (lN (s.1 k))) dX9_chain_246 (by first | rfl | assumption | exact Me.at (by decide) (by decide)) rfl (by omega) (by decide) cx ?_
              refine zJ_cV3 dX9_chain_247 sX9_447 mfX9_stepTo (c_Mo_stepTo Δ e T K hKe hT0 x k hx hBe j (s.1 k) (by omega) hsk.1) (by first | rfl | assumption | exact Me.at (by decide) (by decide)) rfl (Nat.le_of_ble_eq_true rfl) (by decide) (by decide) ?_
              refine zJ_lstore (ls2 := fun x250 => [(6, .long x250), (5, .int (nI c9)), (4, .int (nI j)), (3, .int (nI x)), (2, .int fo), (0, .ref 100), (1, .int v1)]) dX9_chain_250 (by decide) (fun _ => rfl) (fun x250 ex250 => ?_)
              obtain rfl : x250 = (lN (zst1 T k (s.1 k) j)) := ex250
              refine zJ_ldc2 dX9_chain_252 kX9_459 ?_
              refine zJ_aload_n dX9_chain_255 rfl ?_
              refine zJ_getr (j := 169) dX9_chain_256 fX9_122 (by first | rfl | assumption | exact Me.at (by decide) (by decide)) rfl (by first | rfl | assumption | exact Me.rf (by decide) rfl) ?_
              refine zJ_iload_n dX9_chain_259 rfl ?_
              refine zJ_laldN (i := x) (v := (lN (s.2 k))) dX9_chain_260 (by first | rfl | assumption | exact Me.at (by decide) (by decide)) rfl (by omega) (by decide) cd ?_
              refine zJ_lmul dX9_chain_261 ?_
              rw [show (8 : Int64) = lN 8 from rfl, lN_mul]
              refine zJ_iload dX9_chain_262 rfl ?_
              refine zJ_i2l dX9_chain_264 ?_
              rw [nI_l (show j < 2 ^ 31 by omega)]
              refine zJ_ladd dX9_chain_265 ?_
              rw [lN_add]
              refine zJ_lstore (ls2 := fun x266 => [(8, .long x266), (6, .long (lN (zst1 T k (s.1 k) j))), (5, .int (nI c9)), (4, .int (nI j)), (3, .int (nI x)), (2, .int fo), (0, .ref 100), (1, .int v1)]) dX9_chain_266 (by decide) (fun _ => rfl) (fun x266 ex266 => ?_)
              obtain rfl : x266 = (lN (8 * s.2 k + j)) := ex266
              refine zJ_lload dX9_chain_268 rfl ?_
              refine zJ_lconst (v := 0) dX9_chain_270 (by decide) ?_
              refine zJ_lc_eq (tgt := 335) dX9_chain_271 dX9_chain_272 (by decide) (fun h9 => absurd h9 hn0) (fun h272 => ?_)
              refine zJ_lload dX9_chain_275 rfl ?_
              refine zJ_aload_n dX9_chain_277 rfl ?_
              refine zJ_getr (j := 168) dX9_chain_278 fX9_119 (by first | rfl | assumption | exact Me.at (by decide) (by decide)) rfl (by first | rfl | assumption | exact Me.rf (by decide) rfl) ?_
              refine zJ_iload dX9_chain_281 rfl ?_
              refine zJ_laldN (i := c9) (v := (lN ((ztl T k s j).1 (zbk T k j)))) dX9_chain_283 (by first | rfl | assumption | exact Me.at (by decide) (by decide)) rfl (by omega) (by decide) w1 ?_
              refine zJ_lc_lt (tgt := 335) dX9_chain_284 dX9_chain_285 (by decide) (fun h9 => absurd h9 (fun h => absurd ((lN_ltL (by omega) (by omega)).mp h) (by omega))) (fun h285 => ?_)
              refine zJ_lload dX9_chain_288 rfl ?_
              refine zJ_aload_n dX9_chain_290 rfl ?_
              refine zJ_getr (j := 168) dX9_chain_291 fX9_119 (by first | rfl | assumption | exact Me.at (by decide) (by decide)) rfl (by first | rfl | assumption | exact Me.rf (by decide) rfl) ?_
              refine zJ_iload dX9_chain_294 rfl ?_
              refine zJ_laldN (i := c9) (v := (lN ((ztl T k s j).1 (zbk T k j)))) dX9_chain_296 (by first | rfl | assumption | exact Me.at (by decide) (by decide)) rfl (by omega) (by decide) w1 ?_
              refine zJ_lc_ne (tgt := 317) dX9_chain_297 dX9_chain_298 (by decide) (fun h9 => absurd h9 (fun h => h (by rw [heq]))) (fun h298 => ?_)
              refine zJ_lload dX9_chain_301 rfl ?_
              refine zJ_aload_n dX9_chain_303 rfl ?_
              refine zJ_getr (j := 169) dX9_chain_304 fX9_122 (by first | rfl | assumption | exact Me.at (by decide) (by decide)) rfl (by first | rfl | assumption | exact Me.rf (by decide) rfl) ?_
              refine zJ_iload dX9_chain_307 rfl ?_
              refine zJ_laldN (i := c9) (v := (lN ((ztl T k s j).2 (zbk T k j)))) dX9_chain_309 (by first | rfl | assumption | exact Me.at (by decide) (by decide)) rfl (by omega) (by decide) w3 ?_
              refine zJ_lc_lt (tgt := 317) dX9_chain_310 dX9_chain_311 (by decide) (fun h9 => absurd h9 (fun h => absurd ((lN_ltL (by omega) (by omega)).mp h) (by omega))) (fun h311 => ?_)
              refine zJ_goto (tgt := 335) dX9_chain_314 (by decide) ?_
              refine zJ_iinc (ls2 := fun x335 => [(4, .int x335), (8, .long (lN (8 * s.2 k + j))), (6, .long (lN (zst1 T k (s.1 k) j))), (5, .int (nI c9)), (3, .int (nI x)), (2, .int fo), (0, .ref 100), (1, .int v1)]) dX9_chain_335 rfl (by decide) (fun _ => rfl) (fun x335 ex335 => ?_)
              refine zJ_goto (tgt := 204) dX9_chain_338 (by decide) ?_
              refine zJ_ls [(4, .int x335), (3, .int (nI x)), (2, .int fo), (0, .ref 100), (1, .int v1)] (by simp) ?_
              rw [ex335, show nI j + Int32.ofInt 1 = nI (j + 1) from nI_1 _]
              exact hno (fun h => by rcases h.2.2 with h9 | h9 <;> omega)
          · refine zJ_iload dX9_chain_204 rfl ?_
            refine zJ_aload_n dX9_chain_206 rfl ?_
            refine zJ_getiN dX9_chain_207 fX9_298 (by first | rfl | assumption | exact Me.at (by decide) (by decide)) rfl e1 ?_
            refine zJ_icmp_ge (tgt := 341) dX9_chain_210 (by decide) (fun h9 => absurd h9 (fun h => absurd ((nI_leI (by omega) (by omega)).mp h) (by omega))) (fun h210 => ?_)
            refine zJ_aload_n dX9_chain_213 rfl ?_
            refine zJ_getr (j := 143) dX9_chain_214 fX9_63 (by first | rfl | assumption | exact Me.at (by decide) (by decide)) rfl (by first | rfl | assumption | exact Me.rf (by decide) rfl) ?_
            refine zJ_bipush (v := 8) dX9_chain_217 (by decide) ?_
            refine zJ_iload_n dX9_chain_219 rfl ?_
            refine zJ_imul dX9_chain_220 ?_
            refine zJ_iload dX9_chain_221 rfl ?_
            refine zJ_iadd dX9_chain_223 ?_
            refine zJ_ialdN (i := (x * 8 + j)) (v := (nI c9)) dX9_chain_224 (by first | rfl | assumption | exact Me.at (by decide) (by decide)) (na_8 _ _) (by omega) (by decide) hc2 ?_
            refine zJ_istore (ls2 := fun x225 => [(5, .int x225), (4, .int (nI j)), (3, .int (nI x)), (2, .int fo), (0, .ref 100), (1, .int v1)]) dX9_chain_225 (by decide) (fun _ => rfl) (fun x225 ex225 => ?_)
            obtain rfl : x225 = (nI c9) := ex225
            refine zJ_iload dX9_chain_227 rfl ?_
            refine zJ_iconst (v := (-1)) dX9_chain_229 (by decide) ?_
            refine zJ_icmp_ne (tgt := 237) dX9_chain_230 (by decide) (fun h230 => ?_) (fun h9 => absurd h9 (nI_m1 (show c9 < 2 ^ 31 by omega)))
            refine zJ_aload_n dX9_chain_237 rfl ?_
            refine zJ_iload_n dX9_chain_238 rfl ?_
            refine zJ_iload dX9_chain_239 rfl ?_
            refine zJ_aload_n dX9_chain_241 rfl ?_
            refine zJ_getr (j := 168) dX9_chain_242 fX9_119 (by first | rfl | assumption | exact Me.at (by decide) (by decide)) rfl (by first | rfl | assumption | exact Me.rf (by decide) rfl) ?_
            refine zJ_iload_n dX9_chain_245 rfl ?_
            refine zJ_laldN (i := x) (v := (lN (s.1 k))) dX9_chain_246 (by first | rfl | assumption | exact Me.at (by decide) (by decide)) rfl (by omega) (by decide) cx ?_
            refine zJ_cV3 dX9_chain_247 sX9_447 mfX9_stepTo (c_Mo_stepTo Δ e T K hKe hT0 x k hx hBe j (s.1 k) (by omega) hsk.1) (by first | rfl | assumption | exact Me.at (by decide) (by decide)) rfl (Nat.le_of_ble_eq_true rfl) (by decide) (by decide) ?_
            refine zJ_lstore (ls2 := fun x250 => [(6, .long x250), (5, .int (nI c9)), (4, .int (nI j)), (3, .int (nI x)), (2, .int fo), (0, .ref 100), (1, .int v1)]) dX9_chain_250 (by decide) (fun _ => rfl) (fun x250 ex250 => ?_)
            obtain rfl : x250 = (lN (zst1 T k (s.1 k) j)) := ex250
            refine zJ_ldc2 dX9_chain_252 kX9_459 ?_
            refine zJ_aload_n dX9_chain_255 rfl ?_
            refine zJ_getr (j := 169) dX9_chain_256 fX9_122 (by first | rfl | assumption | exact Me.at (by decide) (by decide)) rfl (by first | rfl | assumption | exact Me.rf (by decide) rfl) ?_
            refine zJ_iload_n dX9_chain_259 rfl ?_
            refine zJ_laldN (i := x) (v := (lN (s.2 k))) dX9_chain_260 (by first | rfl | assumption | exact Me.at (by decide) (by decide)) rfl (by omega) (by decide) cd ?_
            refine zJ_lmul dX9_chain_261 ?_
            rw [show (8 : Int64) = lN 8 from rfl, lN_mul]
            refine zJ_iload dX9_chain_262 rfl ?_
            refine zJ_i2l dX9_chain_264 ?_
            rw [nI_l (show j < 2 ^ 31 by omega)]
            refine zJ_ladd dX9_chain_265 ?_
            rw [lN_add]
            refine zJ_lstore (ls2 := fun x266 => [(8, .long x266), (6, .long (lN (zst1 T k (s.1 k) j))), (5, .int (nI c9)), (4, .int (nI j)), (3, .int (nI x)), (2, .int fo), (0, .ref 100), (1, .int v1)]) dX9_chain_266 (by decide) (fun _ => rfl) (fun x266 ex266 => ?_)
            obtain rfl : x266 = (lN (8 * s.2 k + j)) := ex266
            refine zJ_lload dX9_chain_268 rfl ?_
            refine zJ_lconst (v := 0) dX9_chain_270 (by decide) ?_
            refine zJ_lc_eq (tgt := 335) dX9_chain_271 dX9_chain_272 (by decide) (fun h9 => absurd h9 hn0) (fun h272 => ?_)
            refine zJ_lload dX9_chain_275 rfl ?_
            refine zJ_aload_n dX9_chain_277 rfl ?_
            refine zJ_getr (j := 168) dX9_chain_278 fX9_119 (by first | rfl | assumption | exact Me.at (by decide) (by decide)) rfl (by first | rfl | assumption | exact Me.rf (by decide) rfl) ?_
            refine zJ_iload dX9_chain_281 rfl ?_
            refine zJ_laldN (i := c9) (v := (lN ((ztl T k s j).1 (zbk T k j)))) dX9_chain_283 (by first | rfl | assumption | exact Me.at (by decide) (by decide)) rfl (by omega) (by decide) w1 ?_
            refine zJ_lc_lt (tgt := 335) dX9_chain_284 dX9_chain_285 (by decide) (fun h9 => absurd h9 (fun h => absurd ((lN_ltL (by omega) (by omega)).mp h) (by omega))) (fun h285 => ?_)
            refine zJ_lload dX9_chain_288 rfl ?_
            refine zJ_aload_n dX9_chain_290 rfl ?_
            refine zJ_getr (j := 168) dX9_chain_291 fX9_119 (by first | rfl | assumption | exact Me.at (by decide) (by decide)) rfl (by first | rfl | assumption | exact Me.rf (by decide) rfl) ?_
            refine zJ_iload dX9_chain_294 rfl ?_
            refine zJ_laldN (i := c9) (v := (lN ((ztl T k s j).1 (zbk T k j)))) dX9_chain_296 (by first | rfl | assumption | exact Me.at (by decide) (by decide)) rfl (by omega) (by decide) w1 ?_
            refine zJ_lc_ne (tgt := 317) dX9_chain_297 dX9_chain_298 (by decide) (fun h298 => ?_) (fun h9 => absurd h9 (fun h => absurd ((fb_lN_inj (by omega) (by omega)).mp h) (by omega)))
            refine zJ_aload_n dX9_chain_317 rfl ?_
            refine zJ_getr (j := 168) dX9_chain_318 fX9_119 (by first | rfl | assumption | exact Me.at (by decide) (by decide)) rfl (by first | rfl | assumption | exact Me.rf (by decide) rfl) ?_
            refine zJ_iload dX9_chain_321 rfl ?_
            refine zJ_lload dX9_chain_323 rfl ?_
            refine zJ_lastN (i := c9) dX9_chain_325 (by first | rfl | assumption | exact Me.at (by decide) (by decide)) rfl (by omega) (by decide) ?_
            refine zJ_aload_n dX9_chain_326 rfl ?_
            refine zJ_getr (j := 169) dX9_chain_327 fX9_122 (by first | rfl | assumption | exact Me.at (by decide) (by decide)) rfl (by first | rfl | assumption | exact Me.rf (by decide) rfl) ?_
            refine zJ_iload dX9_chain_330 rfl ?_
            refine zJ_lload dX9_chain_332 rfl ?_
            refine zJ_lastN (i := c9) dX9_chain_334 (by first | rfl | assumption | exact Me.at (by decide) (by decide)) rfl (by omega) (by decide) ?_
            refine zJ_iinc (ls2 := fun x335 => [(4, .int x335), (8, .long (lN (8 * s.2 k + j))), (6, .long (lN (zst1 T k (s.1 k) j))), (5, .int (nI c9)), (3, .int (nI x)), (2, .int fo), (0, .ref 100), (1, .int v1)]) dX9_chain_335 rfl (by decide) (fun _ => rfl) (fun x335 ex335 => ?_)
            refine zJ_goto (tgt := 204) dX9_chain_338 (by decide) ?_
            refine zJ_ls [(4, .int x335), (3, .int (nI x)), (2, .int fo), (0, .ref 100), (1, .int v1)] (by simp) ?_
            rw [ex335, show nI j + Int32.ofInt 1 = nI (j + 1) from nI_1 _]
            refine ih (j + 1) (by omega) (by omega) _ (hf.tr ((zFM.l (Or.inr (by decide))).tr (zFM.l (Or.inr (by decide))))) ?_
            have h9 : ztl T k s (j + 1) = (fun q => if q = zbk T k j then zst1 T k (s.1 k) j else (ztl T k s j).1 q, fun q => if q = zbk T k j then 8 * s.2 k + j else (ztl T k s j).2 q) := by
              simp only [ztl]
              rw [if_pos ⟨hmy, by omega, Or.inl hgt⟩]
            rw [h9]
            exact hc.set hnd hc1 _ _
  intro e hf hc
  have Me : zMs e := hM.fm hf
  refine zJ_iconst (v := 0) dX9_chain_201 (by decide) ?_
  refine zJ_istore (ls2 := fun x202 => [(4, .int x202), (3, .int (nI x)), (2, .int fo), (0, .ref 100), (1, .int v1)]) dX9_chain_202 (by decide) (fun _ => rfl) (fun x202 ex202 => ?_)
  refine zJ_ls [(4, .int x202), (3, .int (nI x)), (2, .int fo), (0, .ref 100), (1, .int v1)] (by simp) ?_
  rw [ex202]
  exact L 0 (Nat.zero_le _) e hf hc
