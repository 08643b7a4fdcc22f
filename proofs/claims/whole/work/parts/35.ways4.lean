/-! LetterTown$Ways: lay -/
theorem nI_shl {a k : Nat} (hk : k < 32) : nI a <<< (nI k &&& 31) = nI (a * 2 ^ k) := by
  have e : nI k &&& 31 = nI k := by
    rw [show (31 : Int32) = nI (2 ^ 5 - 1) from rfl, fa_mask, Nat.mod_eq_of_lt (by omega)]
  apply Int32.toBitVec_inj.mp
  rw [e, Int32.toBitVec_shiftLeft]
  have h2 : ((nI k).toBitVec.smod 32).toNat = k := (by decide : ∀ k, k < 32 → ((nI k).toBitVec.smod 32).toNat = k) k hk
  rw [BitVec.shiftLeft_eq', h2]
  apply BitVec.eq_of_toNat_eq
  rw [BitVec.toNat_shiftLeft, Nat.shiftLeft_eq, show (nI a).toBitVec = BitVec.ofNat 32 a from rfl, show (nI (a * 2 ^ k)).toBitVec = BitVec.ofNat 32 (a * 2 ^ k) from rfl, BitVec.toNat_ofNat, BitVec.toNat_ofNat, Nat.mul_mod, Nat.mod_mod, ← Nat.mul_mod]
theorem na_orS {a k : Nat} (b : Nat) (h : a < 2 ^ k) : nI a ||| nI (2 ^ k * b) = nI (2 ^ k * b + a) := by
  rw [na_or, Nat.or_comm, Nat.two_pow_add_eq_or_of_lt h]
def zwant (T : zTo) : Nat := 2 ^ 6 * T.1 13 + (2 ^ 3 * T.1 12 + (2 ^ 2 * (if zcs T then 1 else 0) + T.1 10))
/-- the ways stand laid for T, or there is no room for them -/
def zLaid (w : zW) (i R m : Nat) (T : zTo) : Prop := (w.2.1 i 7 = 1 ∧ ∃ K, zall T K ∧ K.length ≤ R ∧ zWl w i R m T K ∧ ∀ (x : Nat) (k : zKy), K[x]? = some k → w.2.1 (i + 2) x = nI (zbits (zmay T k) 8) ∧ ∀ y, y < 8 → zNx T K (w.2.1 (i + 3)) x k y) ∨ (w.2.1 i 7 = 0 ∧ ¬ zfit T R)
def zLy (w w1 : zW) (i R m n : Nat) (T : zTo) : Prop := zFl w w1 i ∧ w1.2.1 i 6 = nI (zwant T) ∧ ((w1.2.1 i 7 = 1 ∧ n ≤ (zgr T n).length ∧ zWl w1 i R m T (zgr T n) ∧ ∀ (x : Nat) (k : zKy), x < n → (zgr T n)[x]? = some k → w1.2.1 (i + 2) x = nI (zbits (zmay T k) 8) ∧ ∀ y, y < 8 → zNx T (zgr T n) (w1.2.1 (i + 3)) x k y) ∨ (w1.2.1 i 7 = 0 ∧ ¬ zfit T R))
theorem zLy.end {w w1 : zW} {i R m n : Nat} {T : zTo} (h : zLy w w1 i R m n T) (hn : w1.2.1 i 7 = 1 → (zgr T n).length ≤ n) : zLaid w1 i R m T := by
  obtain ⟨-, -, ⟨h1, h2, h3, h4⟩ | h⟩ := h
  · exact Or.inl ⟨h1, _, ⟨n, rfl, hn h1⟩, h3.2.2.1, h3, fun x k hx => h4 x k (by have := (List.getElem?_eq_some_iff.mp hx).1; have := hn h1; omega) hx⟩
  · exact Or.inr h
set_option maxRecDepth 100000 in
theorem c_Ways_lay (Δ : zD) (w : zW) (i t R m : Nat) (T : zTo) (hS : zWs w i R m) (hi : zTi w t T) (hT : zTok T) (hti : t + 4 < i) (hst : w.2.1 i 6 = nI (zwant T) → zLaid w i R m T) : zMp Δ 3 yX6_lay mX6_lay [.ref i, .ref t] w (fun a b => a = some (.int (b.2.1 i 7)) ∧ zFl w b i ∧ b.2.1 i 6 = nI (zwant T) ∧ zLaid b i R m T) := by
  refine zMp.of mfX6_lay (Nat.le_of_ble_eq_true rfl) (fun QR hQ => ?_)
  have hS0 := hS
  have hi0 := hi
  have hT0 := hT
  obtain ⟨g0, r1, r2, r3, r4, g1, g2, g3, g4, hR, hRm, hm, hR0⟩ := hS
  obtain ⟨t0, u1, u2, u3, u4, t1, t2, t3, t4⟩ := hi.1
  obtain ⟨-, hsc, hso, hnu, hkn, hwt⟩ := hi
  obtain ⟨hp0, hp5, hp6, hp7, hp8, hp9, hp10, hp11, hp12, hp13, hpp, hpw⟩ := hT
  have hm2 : 2 ^ m ≤ 2 ^ 15 := Nat.pow_le_pow_right (by decide) hm
  have hwl : zwant T < 2 ^ 14 := by simp only [zwant]; split <;> omega
  have L : ∀ n, n ≤ R → ∀ w1, zLy w w1 i R m n T → zJ Δ mX6_lay (zRm 3 0 0) true w.1 QR (fun _ _ => False) 0 0 75 [(3, .int (nI n)), (2, .int (nI (zwant T))), (0, .ref i), (1, .ref t)] [] w1 := by
    refine zup (fun n hn ih w1 hI => ?_)
    have f0 : w1.1 i = some (.inl 6) := by rw [hI.1.1]; exact g0
    have f1 : w1.2.1 i 0 = nI R := by rw [hI.1.2.2.2.1 0 (by decide) (by decide) (by decide)]; exact hR
    have hz : w1.2.1 i 7 = 0 ∨ w1.2.1 i 7 = 1 := by
      rcases hI.2.2 with h | h
      · exact Or.inr h.1
      · exact Or.inl h.1
    refine zJ_iload_n dX6_lay_75 rfl ?_
    refine zJ_aload_n dX6_lay_76 rfl ?_
    refine zJ_geti dX6_lay_77 fX6_15 (by first | rfl | assumption) rfl ?_
    refine zJ_icmp_ge (tgt := 110) dX6_lay_80 (by decide) (fun h80 => ?_) (fun h80 => ?_)
    · have hend : w1.2.1 i 7 = 1 → (zgr T n).length ≤ n := fun h7 => by
        have h9 := (nI_leI (a := R) (b := n) (by omega) (by omega)).mp (by rw [← f1]; exact h80)
        rcases hI.2.2 with ⟨-, -, h, -⟩ | h
        · have := h.2.2.1; omega
        · rw [h.1] at h7; exact absurd h7 (by decide)
      refine zJ_aload_n dX6_lay_110 rfl ?_
      refine zJ_geti dX6_lay_111 fX6_82 f0 rfl ?_
      exact zJ_zret dX6_lay_114 rfl (by rcases hz with h | h <;> rw [h] <;> rfl) (by decide) (by decide) (hQ _ _ ⟨rfl, hI.1, hI.2.1, hI.end hend⟩)
    · refine zJ_iload_n dX6_lay_83 rfl ?_
      refine zJ_aload_n dX6_lay_84 rfl ?_
      refine zJ_geti dX6_lay_85 fX6_72 (by first | rfl | assumption) rfl ?_
      refine zJ_icmp_ge (tgt := 110) dX6_lay_88 (by decide) (fun h88 => ?_) (fun h88 => ?_)
      · have hend : w1.2.1 i 7 = 1 → (zgr T n).length ≤ n := fun h7 => by
          rcases hI.2.2 with ⟨-, -, h, -⟩ | h
          · have h8 := h.2.2.1
            rw [h.2.1] at h88
            exact (nI_leI (a := (zgr T n).length) (b := n) (by omega) (by omega)).mp h88
          · rw [h.1] at h7; exact absurd h7 (by decide)
        refine zJ_aload_n dX6_lay_110 rfl ?_
        refine zJ_geti dX6_lay_111 fX6_82 f0 rfl ?_
        exact zJ_zret dX6_lay_114 rfl (by rcases hz with h | h <;> rw [h] <;> rfl) (by decide) (by decide) (hQ _ _ ⟨rfl, hI.1, hI.2.1, hI.end hend⟩)
      · refine zJ_aload_n dX6_lay_91 rfl ?_
        refine zJ_geti dX6_lay_92 fX6_82 (by first | rfl | assumption) rfl ?_
        refine zJ_if_eq (tgt := 110) dX6_lay_95 (by decide) (fun h95 => ?_) (fun h95 => ?_)
        · have hend : w1.2.1 i 7 = 1 → (zgr T n).length ≤ n := fun h7 => by rw [h95] at h7; exact absurd h7 (by decide)
          refine zJ_aload_n dX6_lay_110 rfl ?_
          refine zJ_geti dX6_lay_111 fX6_82 f0 rfl ?_
          exact zJ_zret dX6_lay_114 rfl (by rcases hz with h | h <;> rw [h] <;> rfl) (by decide) (by decide) (hQ _ _ ⟨rfl, hI.1, hI.2.1, hI.end hend⟩)
        · obtain ⟨a1, a2, a3, a4⟩ : w1.2.1 i 7 = 1 ∧ n ≤ (zgr T n).length ∧ zWl w1 i R m T (zgr T n) ∧ ∀ (x : Nat) (k : zKy), x < n → (zgr T n)[x]? = some k → w1.2.1 (i + 2) x = nI (zbits (zmay T k) 8) ∧ ∀ y, y < 8 → zNx T (zgr T n) (w1.2.1 (i + 3)) x k y := by
            rcases hI.2.2 with h | h
            · exact h
            · exact absurd h.1 h95
          have hlR := a3.2.2.1
          have hnl : n < (zgr T n).length := Nat.lt_of_not_le fun h => h88 (by rw [a3.2.1]; exact (nI_leI (by omega) (by omega)).mpr h)
          obtain ⟨k, hk⟩ : ∃ k, (zgr T n)[n]? = some k := ⟨_, List.getElem?_eq_getElem hnl⟩
          have hgr : zgr T (n + 1) = zgx T k (zgr T n) 8 := by simp only [zgr]; rw [hk]
          have hi1 : zTi w1 t T := hi0.fl hI.1 hti
          have hS1 : zWs w1 i R m := hS0.fl hI.1
          refine zJ_aload_n dX6_lay_98 rfl ?_
          refine zJ_aload_n dX6_lay_99 rfl ?_
          refine zJ_iload_n dX6_lay_100 rfl ?_
          refine zJ_eV2 dX6_lay_101 sX6_86 mfX6_layHand (c_Ways_layHand Δ w1 i t R m n T (zgr T n) k hS1 hi1 hT0 hti a3 a1 hk) f0 rfl (Nat.le_of_ble_eq_true rfl) (by decide) (by decide) (fun r w2 hP => ?_)
          obtain ⟨rfl, hP⟩ := hP
          obtain ⟨j1, j6, j2, j3, j4⟩ := hP
          refine zJ_iinc (ls2 := fun x104 => [(3, .int x104), (2, .int (nI (zwant T))), (0, .ref i), (1, .ref t)]) dX6_lay_104 rfl (by decide) (fun _ => rfl) (fun x104 ex104 => ?_)
          refine zJ_goto (tgt := 75) dX6_lay_107 (by decide) ?_
          refine zJ_ls [(3, .int x104), (2, .int (nI (zwant T))), (0, .ref i), (1, .ref t)] (by simp) ?_
          rw [ex104, show nI n + Int32.ofInt 1 = nI (n + 1) from nI_1 _]
          refine ih (n + 1) (by omega) (by omega) w2 ⟨hI.1.tr j1, j6.trans hI.2.1, ?_⟩
          rcases j4 with ⟨b1, b2, b3⟩ | ⟨b1, b2, -⟩
          · refine Or.inl ⟨b1, ?_, by rw [hgr]; exact b2, fun x q hx hq => ?_⟩
            · have := zgr_len T n 1
              omega
            · by_cases hxn : x = n
              · subst hxn
                have hqk : q = k := by
                  rw [hgr, zgx_get hk 8] at hq; exact (Option.some.inj hq).symm
                subst hqk
                refine ⟨by rw [j2]; simp, fun y hy => ?_⟩
                rw [hgr]; exact b3 y hy
              · obtain ⟨L2, hL2⟩ := zgr_pre T n 1
                have hq2 : (zgr T n)[x]? = some q := by
                  rw [hL2, List.getElem?_append_left (by omega)] at hq; exact hq
                obtain ⟨c1, c2⟩ := a4 x q (by omega) hq2
                refine ⟨by rw [j2]; simp [hxn, c1], fun y hy => ?_⟩
                have h8 := (c2 y hy).app hL2
                have h9 : w2.2.1 (i + 3) (x * 8 + y) = w1.2.1 (i + 3) (x * 8 + y) := j3 _ (by omega)
                unfold zNx at *
                rw [h9]; exact h8
          · exact Or.inr ⟨b1, zfit_no (n := n + 1) (by rw [hgr]; exact b2)⟩
  have L33 : zJ Δ mX6_lay (zRm 3 0 0) true w.1 QR (fun _ _ => False) 0 0 33 [(2, .int (nI (zwant T))), (0, .ref i), (1, .ref t)] [] w := by
    refine zJ_iload_n dX6_lay_33 rfl ?_
    refine zJ_aload_n dX6_lay_34 rfl ?_
    refine zJ_geti dX6_lay_35 fX6_11 (by first | rfl | assumption) rfl ?_
    refine zJ_icmp_eq (tgt := 110) dX6_lay_38 (by decide) (fun h38 => ?_) (fun h38 => ?_)
    · have hl := hst h38.symm
      have hz : w.2.1 i 7 = 0 ∨ w.2.1 i 7 = 1 := by
        rcases hl with h | h
        · exact Or.inr h.1
        · exact Or.inl h.1
      refine zJ_aload_n dX6_lay_110 rfl ?_
      refine zJ_geti dX6_lay_111 fX6_82 g0 rfl ?_
      exact zJ_zret dX6_lay_114 rfl (by rcases hz with h | h <;> rw [h] <;> rfl) (by decide) (by decide) (hQ _ _ ⟨rfl, zFl.rf w i, h38.symm, hl⟩)
    · refine zJ_aload_n dX6_lay_41 rfl ?_
      refine zJ_iload_n dX6_lay_42 rfl ?_
      refine zJ_puti dX6_lay_43 fX6_11 (fun q h => by cases h; rfl) (by first | rfl | assumption) rfl rfl rfl ?_
      have e5 : zFl w (zsi w i 6 (nI (zwant T))) i := zFl.i (Or.inl ⟨rfl, Or.inr (Or.inl rfl)⟩)
      refine zJ_aload_n dX6_lay_46 rfl ?_
      refine zJ_getr dX6_lay_47 fX6_29 (by first | rfl | assumption) rfl (by first | rfl | assumption) ?_
      refine zJ_iconst (v := (-1)) dX6_lay_50 (by decide) ?_
      refine zJ_cS2 dX6_lay_51 sX6_66 mfJ7_fill_53178 (c_fill_i Δ _ (i + 4) (2 ^ m) (-1) (by omega) g4) (Nat.le_of_ble_eq_true rfl) (by decide) (by decide) ?_
      refine zJ_aload_n dX6_lay_54 rfl ?_
      refine zJ_iconst (v := 0) dX6_lay_55 (by decide) ?_
      refine zJ_puti dX6_lay_56 fX6_72 (fun q h => by cases h; rfl) (by first | rfl | assumption) rfl rfl rfl ?_
      have e7 : zFl w (zsi (zrow (zsi w i 6 (nI (zwant T))) (i + 4) (fun k => if k < 2 ^ m then -1 else (zsi w i 6 (nI (zwant T))).2.1 (i + 4) k)) i 5 0) i := by
        refine ⟨rfl, rfl, fun a j h => ?_, fun j h5 h6 h7 => ?_, fun _ _ _ => rfl⟩
        · have h1 : ¬ a = i + 4 := by omega
          have h2 : ¬ a = i := by omega
          simp [zsi, zrow, h1, h2]
        · simp [zsi, zrow, h5, h6]
      have e8 : zWl (zsi (zrow (zsi w i 6 (nI (zwant T))) (i + 4) (fun k => if k < 2 ^ m then -1 else (zsi w i 6 (nI (zwant T))).2.1 (i + 4) k)) i 5 0) i R m T [] := ⟨fun x k h => by simp at h, by simp [zsi]; rfl, Nat.zero_le _, fun k h => by simp at h, fun _ => none, fun s hs => by simp [zsi, zrow, hs, zoi], zHt.nil _ _⟩
      have e9 : (zsi (zrow (zsi w i 6 (nI (zwant T))) (i + 4) (fun k => if k < 2 ^ m then -1 else (zsi w i 6 (nI (zwant T))).2.1 (i + 4) k)) i 5 0).2.1 i 6 = nI (zwant T) := by simp [zsi, zrow]
      generalize (zsi (zrow (zsi w i 6 (nI (zwant T))) (i + 4) (fun k => if k < 2 ^ m then -1 else (zsi w i 6 (nI (zwant T))).2.1 (i + 4) k)) i 5 0) = wa at e7 e8 e9
      have hia : zTi wa t T := hi0.fl e7 hti
      have hSa : zWs wa i R m := hS0.fl e7
      have fa : wa.1 i = some (.inl 6) := by rw [e7.1]; exact g0
      refine zJ_aload_n dX6_lay_59 rfl ?_
      refine zJ_aload_n dX6_lay_60 rfl ?_
      refine zJ_cS1 dX6_lay_61 sX6_75 mfX6_firstKey (c_Ways_firstKey Δ wa t T hia hT0) (Nat.le_of_ble_eq_true rfl) (by decide) (by decide) ?_
      refine zJ_eV1 dX6_lay_64 sX6_79 mfX6_placeOf (c_Ways_placeOf Δ wa i R m T [] (zfk T) hSa e8 hT0 (zkok.fk hT0)) fa rfl (Nat.le_of_ble_eq_true rfl) (by decide) (by decide) (fun r wb hP => ?_)
      obtain ⟨rfl, hw2, hfr⟩ : r = some (.int (nI 0)) ∧ zWl wb i R m T [zfk T] ∧ zFr wa wb i := by
        rcases hP with ⟨c, hc, -, -⟩ | ⟨-, -, h1, h2, h3⟩ | ⟨-, h1, -, -⟩
        · simp at hc
        · exact ⟨h1, h2, h3⟩
        · simp at h1; omega
      have fb : wb.1 i = some (.inl 6) := by rw [hfr.1]; exact fa
      refine zJ_pop dX6_lay_67 rfl ?_
      refine zJ_aload_n dX6_lay_68 rfl ?_
      refine zJ_iconst (v := 1) dX6_lay_69 (by decide) ?_
      refine zJ_puti dX6_lay_70 fX6_82 (fun q h => by cases h; rfl) (by first | rfl | assumption) rfl rfl rfl ?_
      refine zJ_iconst (v := 0) dX6_lay_73 (by decide) ?_
      refine zJ_istore_n (ls2 := fun x74 => [(3, .int x74), (2, .int (nI (zwant T))), (0, .ref i), (1, .ref t)]) dX6_lay_74 (by decide) (fun _ => rfl) (fun x74 ex74 => ?_)
      obtain rfl : x74 = (nI 0) := ex74
      refine L 0 (Nat.zero_le _) _ ⟨(e7.tr hfr.fl).tr (zFl.i (Or.inl ⟨rfl, Or.inr (Or.inr rfl)⟩)), ?_, Or.inl ⟨by simp [zsi], Nat.zero_le _, hw2.fr rfl (by simp [zsi]) (by funext q; simp [zsi]), fun x k hx => absurd hx (Nat.not_lt_zero x)⟩⟩
      rw [show (zsi wb i 7 1).2.1 i 6 = wb.2.1 i 6 by simp [zsi], hfr.2.2.1 i 6 (by omega) (Or.inr (by decide))]
      exact e9
  refine zJ_aload_n dX6_lay_0 rfl ?_
  refine zJ_geti dX6_lay_1 fX6_37 (by first | rfl | assumption) rfl ?_
  rw [hsc 10 (by decide) (by decide)]
  refine zJ_aload_n dX6_lay_4 rfl ?_
  refine zJ_cV0 dX6_lay_5 sX6_49 mfX5_countsSent (c_Town_countsSent Δ w t t0) (by first | rfl | assumption) rfl (Nat.le_of_ble_eq_true rfl) (by decide) (by decide) ?_
  rw [hsc 10 (by decide) (by decide), hsc 9 (by decide) (by decide)]
  refine zJ_if_eq (tgt := 15) dX6_lay_8 (by decide) (fun h8 => ?_) (fun h8 => ?_)
  · have hcs : zcs T = false := by
      cases hz : zcs T with
      | false => rfl
      | true =>
        simp only [zcs, Bool.and_eq_true, decide_eq_true_eq] at hz
        rw [if_pos ⟨fun e => hz.1 ((nI_eq (b := 0) (by omega) (by decide)).mp e), (nI_ltI (a := 0) (by decide) (by omega)).mpr hz.2⟩] at h8
        exact absurd h8 (by decide)
    refine zJ_iconst (v := 0) dX6_lay_15 (by decide) ?_
    refine zJ_ior dX6_lay_16 ?_
    refine zJ_aload_n dX6_lay_17 rfl ?_
    refine zJ_geti dX6_lay_18 fX6_32 (by first | rfl | assumption) rfl ?_
    rw [hsc 12 (by decide) (by decide)]
    refine zJ_iconst (v := 3) dX6_lay_21 (by decide) ?_
    refine zJ_ishl dX6_lay_22 ?_
    refine zJ_ior dX6_lay_23 ?_
    refine zJ_aload_n dX6_lay_24 rfl ?_
    refine zJ_geti dX6_lay_25 fX6_61 (by first | rfl | assumption) rfl ?_
    rw [hsc 13 (by decide) (by decide)]
    refine zJ_bipush (v := 6) dX6_lay_28 (by decide) ?_
    refine zJ_ishl dX6_lay_30 ?_
    refine zJ_ior dX6_lay_31 ?_
    refine zJ_istore_n (ls2 := fun x32 => [(2, .int x32), (0, .ref i), (1, .ref t)]) dX6_lay_32 (by decide) (fun _ => rfl) (fun x32 ex32 => ?_)
    obtain rfl : x32 = (nI (zwant T)) := by rw [ex32, show (0 : Int32) = nI (2 ^ 2 * 0) from rfl, na_orS (k := 2) _ (by omega), show nI (T.1 12) <<< ((3 : Int32) &&& 31) = nI (2 ^ 3 * T.1 12) by rw [Nat.mul_comm]; exact nI_shl (k := 3) (by decide), na_orS (k := 3) _ (by omega), show nI (T.1 13) <<< ((6 : Int32) &&& 31) = nI (2 ^ 6 * T.1 13) by rw [Nat.mul_comm]; exact nI_shl (k := 6) (by decide), na_orS (k := 6) _ (by omega), zwant, hcs]; rfl
    exact L33
  · have hcs : zcs T = true := by
      simp only [zcs, Bool.and_eq_true, decide_eq_true_eq]
      have h9 : nI (T.1 10) ≠ 0 ∧ 0 < nI (T.1 9) := Classical.byContradiction fun h => h8 (by rw [if_neg h])
      exact ⟨fun e => h9.1 (by rw [e]; rfl), (nI_ltI (a := 0) (by decide) (by omega)).mp h9.2⟩
    refine zJ_iconst (v := 4) dX6_lay_11 (by decide) ?_
    refine zJ_goto (tgt := 16) dX6_lay_12 (by decide) ?_
    refine zJ_ior dX6_lay_16 ?_
    refine zJ_aload_n dX6_lay_17 rfl ?_
    refine zJ_geti dX6_lay_18 fX6_32 (by first | rfl | assumption) rfl ?_
    rw [hsc 12 (by decide) (by decide)]
    refine zJ_iconst (v := 3) dX6_lay_21 (by decide) ?_
    refine zJ_ishl dX6_lay_22 ?_
    refine zJ_ior dX6_lay_23 ?_
    refine zJ_aload_n dX6_lay_24 rfl ?_
    refine zJ_geti dX6_lay_25 fX6_61 (by first | rfl | assumption) rfl ?_
    rw [hsc 13 (by decide) (by decide)]
    refine zJ_bipush (v := 6) dX6_lay_28 (by decide) ?_
    refine zJ_ishl dX6_lay_30 ?_
    refine zJ_ior dX6_lay_31 ?_
    refine zJ_istore_n (ls2 := fun x32 => [(2, .int x32), (0, .ref i), (1, .ref t)]) dX6_lay_32 (by decide) (fun _ => rfl) (fun x32 ex32 => ?_)
    obtain rfl : x32 = (nI (zwant T)) := by rw [ex32, show (4 : Int32) = nI (2 ^ 2 * 1) from rfl, na_orS (k := 2) _ (by omega), show nI (T.1 12) <<< ((3 : Int32) &&& 31) = nI (2 ^ 3 * T.1 12) by rw [Nat.mul_comm]; exact nI_shl (k := 3) (by decide), na_orS (k := 3) _ (by omega), show nI (T.1 13) <<< ((6 : Int32) &&& 31) = nI (2 ^ 6 * T.1 13) by rw [Nat.mul_comm]; exact nI_shl (k := 6) (by decide), na_orS (k := 6) _ (by omega), zwant, hcs]; rfl
    exact L33
