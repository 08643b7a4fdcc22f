/-! LetterTown: named, one -/
theorem zTok.q {T : zTo} (h : zTok T) {p s v : Nat} (hp : p < T.1 0) (hs : s ≤ 3) (hv : v ≤ 9999) (h2 : s = 2 → v ≤ 1000) : zTok (zTn1 (zTq T p s) p v) := by
  obtain ⟨h0, h5, h6, h7, h8, h9, h10, h11, h12, h13, hpp, hw⟩ := h
  refine ⟨h0, h5, h6, h7, h8, h9, h10, h11, h12, h13, fun q => ?_, hw⟩
  obtain ⟨a1, a2, a3, a4⟩ := hpp q
  simp only [zTn1, zTq]
  by_cases hq : q = p
  · subst hq
    simp only [if_true]
    exact ⟨hs, hv, h2, fun h => by omega⟩
  · simp only [hq, if_false]
    exact ⟨a1, a2, a3, a4⟩
theorem zcan.q {T : zTo} (h : zcan T) {p s v : Nat} (hp : p < 8) : zcan (zTn1 (zTq T p s) p v) := ⟨h.1, fun q hq => by
  have : ¬ q = p := by omega
  simp only [zTn1, this, if_false]; exact h.2.1 q hq, h.2.2⟩
theorem zsame.q {U T : zTo} (h : zsame U T) {p s v : Nat} : zsame U (zTn1 (zTq T p s) p v) := h
theorem zUp.mono {w : zW} {b : Nat} {T : zTo} {K : List zKy} {W n m : Nat} (h : zUp w b T K W n) (hm : n ≤ m) : zUp w b T K W m := fun x k h1 h2 => h x k (by omega) h2
/-- what a name is worth -/
def znm (T : zTo) : Int := match zli T (zfk T) (zce T (zfk T)) (zcg T (zfk T)) 8 with
  | none => -1
  | some q => if 1000 * (T.1 5 : Int) - zwo T (zfk T) (zce T (zfk T)) (zcg T (zfk T)) q < 0 then 0 else (1000 * (T.1 5 : Int) - zwo T (zfk T) (zce T (zfk T)) (zcg T (zfk T)) q).tdiv 1000 + 1
def zTnm (U : zTo) (p : Nat) : zTo := zTn1 (zTq (zTs U 12 p) p 3) p 0
set_option maxRecDepth 100000 in
theorem c_named (Δ : zD) (w : zW) (U : zTo) (hB : zB w U) (x : Int32) (mc ms : Nat) (hm : zRo w (∃ p, x = nI p ∧ ¬ zfit (zTnm U p) 640) mc ms) : zM Δ 8 mc ms false yX8_named mX8_named [.ref 0, .int x] w (fun r d => zFb w d ∧ zB d U ∧ ∃ p, p < U.1 0 ∧ x = nI p ∧ zfit (zTnm U p) 20000 ∧ zLf w d (zTnm U p) ∧ r = some (.long (lZ (znm (zTnm U p))))) (fun E d => (E = zNS ∧ d = w ∧ ¬ (∃ p, p < U.1 0 ∧ x = nI p)) ∨ (∃ p, p < U.1 0 ∧ x = nI p ∧ zSp w U (zTnm U p) E d)) := by
  refine zM.of2 mfX8_named (Nat.le_of_ble_eq_true rfl) (fun QR QX hQ hX0 => ?_)
  obtain ⟨⟨hm1, hm2⟩, hm3⟩ := hm
  have hC := hB.1
  have hU := hB.2.2.1.1
  have hcU := hB.2.2.1.2.1
  have h13 := hB.2.2.1.2.2
  have hp0 := hB.2.1.2.1 0 (by decide) (by decide)
  have hp8 := hU.1
  have hk0 := hC.1 0 (by decide)
  refine zJ_aload_n dX8_named_0 rfl ?_
  refine zJ_iload_n dX8_named_1 rfl ?_
  refine zJ_xV1 dX8_named_2 sX8_158 pX8_158 mfX8_needPerson (c_needPerson Δ w hC x (U.1 0) hp0 hp8) rfl hk0 rfl (Nat.le_of_ble_eq_true rfl) ⟨Nat.le_of_ble_eq_true rfl, Nat.le_of_ble_eq_true rfl⟩ ⟨by show _ ≤ mc; omega, by show _ ≤ ms; omega⟩ (fun r c9 hP => ?_) (fun E c9 hX => hX0 _ _ (Or.inl ⟨hX.1, hX.2.1, hX.2.2⟩))
  obtain ⟨rfl, hw9, hP⟩ := hP
  obtain rfl := hw9.symm
  obtain ⟨p, hp, rfl⟩ := hP
  have cp : (nI p).toNatClampNeg = p := nI_clamp (by omega)
  refine zJ_aload_n dX8_named_5 rfl ?_
  refine zJ_getr dX8_named_6 fX8_36 (by first | rfl | assumption | exact hC.1 _ (by decide) | exact hAs.2.2.1.1.1 _ (by decide) | exact (zfin hAs hFa hf hO2 hx hR).2.1.1 _ (by decide)) rfl (by first | rfl | assumption | exact hC.2 _ _ rfl | exact hAs.2.2.1.1.2 _ _ rfl | exact (zfin hAs hFa hf hO2 hx hR).2.1.2 _ _ rfl) ?_
  refine zJ_aload_n dX8_named_9 rfl ?_
  refine zJ_getr dX8_named_10 fX8_32 (by first | rfl | assumption | exact hC.1 _ (by decide) | exact hAs.2.2.1.1.1 _ (by decide) | exact (zfin hAs hFa hf hO2 hx hR).2.1.1 _ (by decide)) rfl (by first | rfl | assumption | exact hC.2 _ _ rfl | exact hAs.2.2.1.1.2 _ _ rfl | exact (zfin hAs hFa hf hO2 hx hR).2.1.2 _ _ rfl) ?_
  refine zJ_cV1 dX8_named_13 sX8_110 mfX5_copy (c_Town_copy Δ w 14 9 (zTn14 hC) hB.2.1.1 (by decide)) (hC.1 14 (by decide)) rfl (Nat.le_of_ble_eq_true rfl) ⟨Nat.le_of_ble_eq_true rfl, Nat.le_of_ble_eq_true rfl⟩ ⟨by show _ ≤ mc; omega, by show _ ≤ ms; omega⟩ ?_
  refine zJ_aload_n dX8_named_16 rfl ?_
  refine zJ_getr dX8_named_17 fX8_36 (by first | rfl | assumption | exact hC.1 _ (by decide) | exact hAs.2.2.1.1.1 _ (by decide) | exact (zfin hAs hFa hf hO2 hx hR).2.1.1 _ (by decide)) rfl (by first | rfl | assumption | exact hC.2 _ _ rfl | exact hAs.2.2.1.1.2 _ _ rfl | exact (zfin hAs hFa hf hO2 hx hR).2.1.2 _ _ rfl) ?_
  refine zJ_iload_n dX8_named_20 rfl ?_
  refine zJ_puti dX8_named_21 fX8_141 (fun q h => by cases h; rfl) (by first | rfl | assumption | exact hC.1 _ (by decide) | exact hAs.2.2.1.1.1 _ (by decide) | exact (zfin hAs hFa hf hO2 hx hR).2.1.1 _ (by decide)) rfl rfl rfl ?_
  refine zJ_aload_n dX8_named_24 rfl ?_
  refine zJ_getr dX8_named_25 fX8_36 (by first | rfl | assumption | exact hC.1 _ (by decide) | exact hAs.2.2.1.1.1 _ (by decide) | exact (zfin hAs hFa hf hO2 hx hR).2.1.1 _ (by decide)) rfl (by first | rfl | assumption | exact hC.2 _ _ rfl | exact hAs.2.2.1.1.2 _ _ rfl | exact (zfin hAs hFa hf hO2 hx hR).2.1.2 _ _ rfl) ?_
  refine zJ_getr dX8_named_28 fX8_164 (by first | rfl | assumption | exact hC.1 _ (by decide) | exact hAs.2.2.1.1.1 _ (by decide) | exact (zfin hAs hFa hf hO2 hx hR).2.1.1 _ (by decide)) rfl (by first | rfl | assumption | exact hC.2 _ _ rfl | exact hAs.2.2.1.1.2 _ _ rfl | exact (zfin hAs hFa hf hO2 hx hR).2.1.2 _ _ rfl) ?_
  refine zJ_iload_n dX8_named_31 rfl ?_
  refine zJ_iconst (v := 3) dX8_named_32 (by decide) ?_
  refine zJ_iast dX8_named_33 (by first | rfl | assumption | exact hC.1 _ (by decide) | exact hAs.2.2.1.1.1 _ (by decide) | exact (zfin hAs hFa hf hO2 hx hR).2.1.1 _ (by decide)) (vp_in_nI (by omega) (by decide)) ?_
  rw [cp]
  refine zJ_aload_n dX8_named_34 rfl ?_
  refine zJ_getr dX8_named_35 fX8_36 (by first | rfl | assumption | exact hC.1 _ (by decide) | exact hAs.2.2.1.1.1 _ (by decide) | exact (zfin hAs hFa hf hO2 hx hR).2.1.1 _ (by decide)) rfl (by first | rfl | assumption | exact hC.2 _ _ rfl | exact hAs.2.2.1.1.2 _ _ rfl | exact (zfin hAs hFa hf hO2 hx hR).2.1.2 _ _ rfl) ?_
  refine zJ_getr dX8_named_38 fX8_167 (by first | rfl | assumption | exact hC.1 _ (by decide) | exact hAs.2.2.1.1.1 _ (by decide) | exact (zfin hAs hFa hf hO2 hx hR).2.1.1 _ (by decide)) rfl (by first | rfl | assumption | exact hC.2 _ _ rfl | exact hAs.2.2.1.1.2 _ _ rfl | exact (zfin hAs hFa hf hO2 hx hR).2.1.2 _ _ rfl) ?_
  refine zJ_iload_n dX8_named_41 rfl ?_
  refine zJ_iconst (v := 0) dX8_named_42 (by decide) ?_
  refine zJ_iast dX8_named_43 (by first | rfl | assumption | exact hC.1 _ (by decide) | exact hAs.2.2.1.1.1 _ (by decide) | exact (zfin hAs hFa hf hO2 hx hR).2.1.1 _ (by decide)) (vp_in_nI (by omega) (by decide)) ?_
  rw [cp]
  refine zJ_aload_n dX8_named_44 rfl ?_
  have hAs := ((((zAs.copy hB).set (k := 12) (v := p) (by decide) (by decide)).sort (p := p) (s := 3)).num (p := p) (v := 0))
  have hk1 : (zsi (zsi (zsi (ztowc w 14 9) 14 12 (nI p)) 15 p 3) 16 p 0).1 0 = some (.inl 8) := hAs.2.2.1.1.1 0 (by decide)
  refine zJ_yV0 dX8_named_45 sX8_178 pX8_178 mfX8_playAsked (c_playAsked Δ (zsi (zsi (zsi (ztowc w 14 9) 14 12 (nI p)) 15 p 3) 16 p 0) U (zTnm U p) hAs.2.2.1.1 hAs.2.2.1.2.2.2 hAs.2.2.2 ((hU.s (by omega)).q hp (by decide) (by decide) (by decide)) ((hcU.s (by decide)).q (by omega)) (((zsame.rf U).s (by decide)).q) (mc - 10) (ms - 60) (by omega) (fun h1 h2 => by have := hm3 ⟨p, rfl, h1⟩ (by rw [← hAs.2.1]; exact h2); omega)) rfl hk1 rfl ⟨rfl, by simp [zokv, zpush], by simp [lv_args, Value.category, zokv, hk1]⟩ (Nat.le_of_ble_eq_true rfl) ⟨Nat.le_of_ble_eq_true rfl, Nat.le_of_ble_eq_true rfl⟩ ⟨by show _ ≤ mc; omega, by show _ ≤ ms; omega⟩ (fun r d hP9 => ?_) (fun E d hX => hX0 _ _ (Or.inr ⟨p, hp, rfl, hX.sp hAs⟩))
  obtain ⟨hFa, hfit, b, R, m9, K, rfl, hO, hx, hR, hl1, hl2⟩ := hP9
  refine zJ_astore_n (ls2 := fun q9 => [(2, .ref q9), (0, .ref 0), (1, .int (nI p))]) dX8_named_48 (by decide) (fun _ => rfl) (fun q9 eq9 => ?_)
  obtain rfl := eq9.symm
  refine zJ_aload_n dX8_named_49 rfl ?_
  refine zJ_iconst (v := 0) dX8_named_50 (by decide) ?_
  refine zJ_st (st2 := [.int (nI 0), .ref b]) rfl ?_
  refine zJ_eV1 dX8_named_51 sX8_200 mfX1_reckon (o_reckon Δ d b R m9 U (zTnm U p) K hO 0 (by decide)) hO.1.1.1 rfl (Nat.le_of_ble_eq_true rfl) ⟨Nat.le_of_ble_eq_true rfl, Nat.le_of_ble_eq_true rfl⟩ ⟨by show _ ≤ mc; omega, by show _ ≤ ms; omega⟩ (fun r e hP9 => ?_)
  obtain ⟨rfl, hf, hO2, hcs, W, hW3, hWP, hup⟩ := hP9
  have hWk : W.testBit (zfk (zTnm U p)).1 = true := hW3 p (by omega) (by simp [zTnm, zTn1, zTq])
  have hch : zCh e b (zTnm U p) K (zfk (zTnm U p)) W := (hup.mono (Nat.zero_le 1)).ch hO2.1.2.2.2.1 (zall_0 hO2.1.2.2.2.1)
  refine zJ_aload_n dX8_named_54 rfl ?_
  refine zJ_iconst (v := 0) dX8_named_55 (by decide) ?_
  refine zJ_st (st2 := [.int (nI 0), .ref b]) rfl ?_
  refine zJ_cV1 dX8_named_56 sX8_229 mfX1_likedMost (c_Play_likedMost Δ e b R m9 (zTnm U p) K hO2.1 0 (zfk (zTnm U p)) (zall_0 hO2.1.2.2.2.1) W hch (by simp [zTnm, zTn1, zTq, zTs, zfk]) hWk) hO2.1.1.1 rfl (Nat.le_of_ble_eq_true rfl) ⟨Nat.le_of_ble_eq_true rfl, Nat.le_of_ble_eq_true rfl⟩ ⟨by show _ ≤ mc; omega, by show _ ≤ ms; omega⟩ ?_
  have hT9 : zTok (zTnm U p) := (hU.s (by omega)).q hp (by decide) (by decide) (by decide)
  have hPS := hO2.1.1
  have hs3 : (zTnm U p).2.1 (zfk (zTnm U p)).1 = 3 := by simp [zTnm, zTn1, zTq, zTs, zfk]
  have hU5 := hU.2.1
  cases hzl : zli (zTnm U p) (zfk (zTnm U p)) (zce (zTnm U p) (zfk (zTnm U p))) (zcg (zTnm U p) (zfk (zTnm U p))) 8 with
  | none =>
    have hzn : znm (zTnm U p) = -1 := by simp only [znm, hzl]
    refine zJ_istore_n (ls2 := fun x59n => [(3, .int x59n), (2, .ref b), (0, .ref 0), (1, .int (nI p))]) dX8_named_59 (by decide) (fun _ => rfl) (fun x59n ex59n => ?_)
    obtain rfl : x59n = (-1) := ex59n
    refine zJ_iload_n dX8_named_60 rfl ?_
    refine zJ_if_ge (tgt := 68) dX8_named_61 (by decide) (fun h9 => False.elim (by revert h9; decide)) (fun _ => ?_)
    refine zJ_ldc2 dX8_named_64 kX8_232 ?_
    exact zJ_lret dX8_named_67 rfl (by show _ ≤ mc; omega) (by show _ ≤ ms; omega) (by obtain ⟨g1, g2⟩ := zfin hAs hFa hf hO2 hx hR; exact hQ _ _ ⟨g1, g2, p, hp, rfl, hfit, zlf hAs hl1 hl2 hf, by rw [hzn]; rfl⟩)
  | some q =>
    obtain ⟨hq8, hqm⟩ := zli_may _ _ _ _ _ _ hzl
    have hkk := zkok.fk hT9
    have hrg := zwo_rng hT9 (k := zfk (zTnm U p)) (zce_le hT9 hkk hq8 hqm) (zcg_rng hT9 hkk hq8 hqm)
    have hzn : znm (zTnm U p) = if 1000 * (U.1 5 : Int) - zwo (zTnm U p) (zfk (zTnm U p)) (zce (zTnm U p) (zfk (zTnm U p))) (zcg (zTnm U p) (zfk (zTnm U p))) q < 0 then 0 else (1000 * (U.1 5 : Int) - zwo (zTnm U p) (zfk (zTnm U p)) (zce (zTnm U p) (zfk (zTnm U p))) (zcg (zTnm U p) (zfk (zTnm U p))) q).tdiv 1000 + 1 := by simp only [znm, hzl]; rfl
    have hr1 : -9223372036854775808 ≤ 1000 * (U.1 5 : Int) - zwo (zTnm U p) (zfk (zTnm U p)) (zce (zTnm U p) (zfk (zTnm U p))) (zcg (zTnm U p) (zfk (zTnm U p))) q := by omega
    have hr2 : 1000 * (U.1 5 : Int) - zwo (zTnm U p) (zfk (zTnm U p)) (zce (zTnm U p) (zfk (zTnm U p))) (zcg (zTnm U p) (zfk (zTnm U p))) q < 9223372036854775808 := by omega
    refine zJ_istore_n (ls2 := fun x59z => [(3, .int x59z), (2, .ref b), (0, .ref 0), (1, .int (nI p))]) dX8_named_59 (by decide) (fun _ => rfl) (fun x59z ex59z => ?_)
    obtain rfl : x59z = (nI q) := ex59z
    refine zJ_iload_n dX8_named_60 rfl ?_
    refine zJ_if_ge (tgt := 68) dX8_named_61 (by decide) (fun h61z => ?_) (fun h61z => ?_)
    · refine zJ_ldc2 dX8_named_68 kX8_234 ?_
      refine zJ_aload_n dX8_named_71 rfl ?_
      refine zJ_getr dX8_named_72 fX8_32 (by first | rfl | assumption | exact hC.1 _ (by decide) | exact hAs.2.2.1.1.1 _ (by decide) | exact (zfin hAs hFa hf hO2 hx hR).2.1.1 _ (by decide)) rfl (by first | rfl | assumption | exact hC.2 _ _ rfl | exact hAs.2.2.1.1.2 _ _ rfl | exact (zfin hAs hFa hf hO2 hx hR).2.1.2 _ _ rfl) ?_
      refine zJ_geti dX8_named_75 fX8_120 (by first | rfl | assumption | exact hC.1 _ (by decide) | exact hAs.2.2.1.1.1 _ (by decide) | exact (zfin hAs hFa hf hO2 hx hR).2.1.1 _ (by decide)) rfl ?_
      rw [(zfin hAs hFa hf hO2 hx hR).2.2.1.2.1 5 (by decide) (by decide)]
      refine zJ_i2l dX8_named_78 ?_
      rw [nI_l (show U.1 5 < 2 ^ 31 by omega)]
      refine zJ_lmul dX8_named_79 ?_
      refine zJ_aload_n dX8_named_80 rfl ?_
      refine zJ_iconst (v := 0) dX8_named_81 (by decide) ?_
      refine zJ_iload_n dX8_named_82 rfl ?_
      refine zJ_cV2 dX8_named_83 sX8_236 mfX1_worthOf (c_Play_worthOf Δ e b R m9 (zTnm U p) K hO2.1 0 (zfk (zTnm U p)) (zall_0 hO2.1.2.2.2.1) W hch hs3 hWk q hq8 hqm) hO2.1.1.1 rfl (Nat.le_of_ble_eq_true rfl) ⟨Nat.le_of_ble_eq_true rfl, Nat.le_of_ble_eq_true rfl⟩ ⟨by show _ ≤ mc; omega, by show _ ≤ ms; omega⟩ ?_
      rw [show (1000 : Int64) = lZ 1000 from rfl, lZ_n, lZ_mul]
      refine zJ_lsub dX8_named_86 ?_
      rw [lZ_sub]
      refine zJ_lstore (ls2 := fun x87z => [(4, .long x87z), (3, .int (nI q)), (2, .ref b), (0, .ref 0), (1, .int (nI p))]) dX8_named_87 (by decide) (fun _ => rfl) (fun x87z ex87z => ?_)
      obtain rfl : x87z = (lZ (1000 * (U.1 5 : Int) - zwo (zTnm U p) (zfk (zTnm U p)) (zce (zTnm U p) (zfk (zTnm U p))) (zcg (zTnm U p) (zfk (zTnm U p))) q)) := ex87z
      refine zJ_lload dX8_named_89 rfl ?_
      refine zJ_lconst (v := 0) dX8_named_91 (by decide) ?_
      refine zJ_lc_ge (tgt := 100) dX8_named_92 dX8_named_93 (by decide) (fun h93z => ?_) (fun h93z => ?_)
      · have hpos9 : _ := (lZ_le (show -9223372036854775808 ≤ (0 : Int) by decide) (by decide) hr1 hr2).mp h93z
        refine zJ_lload dX8_named_100 rfl ?_
        refine zJ_ldc2 dX8_named_102 kX8_234 ?_
        rw [show (1000 : Int64) = lZ 1000 from rfl]
        refine zJ_ldiv dX8_named_105 (by decide) ?_
        rw [lZ_div (by omega) (by omega) (by decide) (by decide)]
        refine zJ_lconst (v := 1) dX8_named_106 (by decide) ?_
        refine zJ_ladd dX8_named_107 ?_
        rw [show (1 : Int64) = lZ 1 from rfl, lZ_add]
        exact zJ_lret dX8_named_108 rfl (by show _ ≤ mc; omega) (by show _ ≤ ms; omega) (by obtain ⟨g1, g2⟩ := zfin hAs hFa hf hO2 hx hR; exact hQ _ _ ⟨g1, g2, p, hp, rfl, hfit, zlf hAs hl1 hl2 hf, by rw [hzn]; rw [if_neg (show ¬ _ < (0 : Int) by omega)]⟩)
      · have hneg : _ := (lZ_lt hr1 hr2 (show -9223372036854775808 ≤ (0 : Int) by decide) (by decide)).mp (Int64.not_le.mp h93z)
        refine zJ_lconst (v := 0) dX8_named_96 (by decide) ?_
        refine zJ_goto (tgt := 108) dX8_named_97 (by decide) ?_
        exact zJ_lret dX8_named_108 rfl (by show _ ≤ mc; omega) (by show _ ≤ ms; omega) (by obtain ⟨g1, g2⟩ := zfin hAs hFa hf hO2 hx hR; exact hQ _ _ ⟨g1, g2, p, hp, rfl, hfit, zlf hAs hl1 hl2 hf, by rw [hzn]; rw [if_pos hneg]; rfl⟩)
    · exact absurd ((nI_leI (a := 0) (b := q) (by decide) (by omega)).mpr (Nat.zero_le _)) h61z
