set_option maxRecDepth 100000 in
theorem c_Mo_thieves (Δ : zD) (w : zW) (U : zTo) (hMu : zMu w U) (hU : zTok U) (h13 : U.1 13 = 0) (x : Int32) (n : Nat) (hn : n ≤ 30) (thr few : Nat → Nat) (h71 : w.2.1 100 71 = nI n) (h72 : ∀ k, k < n → w.2.1 172 k = nI (thr k)) (h73 : ∀ k, k < n → w.2.1 173 k = nI (few k) ∧ few k ≤ 8) : zMp Δ 2 yX9_thieves mX9_thieves [.ref 100, .int x] w (fun r c => zFM zScr w c ∧ ((¬ (∃ q, q ≤ 4 ∧ x = nI q) ∧ c.2.1 100 0 = 1) ∨ (∃ q, q ≤ 4 ∧ x = nI q ∧ c.2.1 100 0 = 0 ∧ r = some (.int (if q = 0 then nI (if zcnt (fun s => zexp thr few s n) (2 ^ U.1 0) = 0 then 0 else zsu (fun s => zexp thr few s n) ((2 ^ U.1 0) - 1) (2 ^ U.1 0)) else if q = 1 then nI (zpo (fun s => zexp thr few s n) (2 ^ U.1 0)) else if q = 2 then nI (zcnt (fun s => zexp thr few s n) (2 ^ U.1 0)) else if q = 3 then zoi (zfw (fun s => zexp thr few s n) (2 ^ U.1 0)) else if zcnt (fun s => zexp thr few s n) (2 ^ U.1 0) = 0 then -1 else zoi (zwa (fun p => zwi (fun s => zexp thr few s n) p (2 ^ U.1 0)) (zcnt (fun s => zexp thr few s n) (2 ^ U.1 0)) (U.1 0))))))) := by
  refine zMp.of mfX9_thieves (Nat.le_of_ble_eq_true rfl) (fun QR hQ => ?_)
  have hMu0 := hMu
  obtain ⟨hM, u1, u2, u3, u4, u5, u6, u7, u8, u9, uso, unu, uwt⟩ := hMu
  have hp8 := hU.1
  have hU0 := hU
  have M0 : zMs (zsi w 100 0 0) := hM
  have z0 : (zsi w 100 0 0).2.1 100 0 = 0 := by simp [zsi]
  have hMu1 : zMu (zsi w 100 0 0) U := hMu0.fm (zFM.i (l := [0]) (by decide)) (by decide)
  have hp1 : (zsi w 100 0 0).2.1 100 1 = nI (U.1 0) := hMu1.2.1
  have h711 : (zsi w 100 0 0).2.1 100 71 = nI n := by simp [zsi, h71]
  have h256 : 2 ^ U.1 0 ≤ 256 := Nat.pow_le_pow_right (n := 2) (by decide) hp8
  have h721 : ∀ k, k < n → (zsi w 100 0 0).2.1 172 k = nI (thr k) := fun k hk => by rw [zsi_o (by decide)]; exact h72 k hk
  have h731 : ∀ k, k < n → (zsi w 100 0 0).2.1 173 k = nI (few k) := fun k hk => by rw [zsi_o (by decide)]; exact (h73 k hk).1
  by_cases hx : ∃ q, 0 ≤ q ∧ q ≤ 4 ∧ x = nI q
  · obtain ⟨q, -, hq, rfl⟩ := hx
    generalize hex : (fun s => zexp thr few s n) = ex at hQ
    have hfl : ∀ s, s ≤ 2 ^ U.1 0 → ∀ g, zfw ex s = some g → g < 256 := fun s hs g hg => by have := zfw_lt ex s g hg; omega
    have rF : ∀ f, zFM zScr w (zrow (zsi w 100 0 0) 174 f) := fun f => zFM.t0.tr (zFM.row (by decide))
    have r0 : ∀ f, (zrow (zsi w 100 0 0) 174 f).2.1 100 0 = 0 := fun f => by simp [zrow, zsi]
    have r1 : ∀ f, (zrow (zsi w 100 0 0) 174 f).2.1 100 1 = nI (U.1 0) := fun f => by rw [← hp1]; simp [zrow]
    have r71 : ∀ f, (zrow (zsi w 100 0 0) 174 f).2.1 100 71 = nI n := fun f => by rw [← h711]; simp [zrow]
    have r72 : ∀ f k, k < n → (zrow (zsi w 100 0 0) 174 f).2.1 172 k = nI (thr k) := fun f k hk => by rw [← h721 k hk]; simp [zrow]
    have r73 : ∀ f k, k < n → (zrow (zsi w 100 0 0) 174 f).2.1 173 k = nI (few k) := fun f k hk => by rw [← h731 k hk]; simp [zrow]
    have LE : zJ Δ mX9_thieves (zRm 2 0 0) true w.1 QR (fun _ _ => False) 0 0 219 [(6, .int (nI (2 ^ U.1 0))), (5, .int (zoi (zfw ex (2 ^ U.1 0)))), (4, .int (nI (zpo ex (2 ^ U.1 0)))), (3, .int (nI (zsu ex (2 ^ U.1 0 - 1) (2 ^ U.1 0)))), (2, .int (nI (zcnt ex (2 ^ U.1 0)))), (0, .ref 100), (1, .int (nI q))] [] (zrow (zsi w 100 0 0) 174 (fun p => if p < 8 then nI (if p < U.1 0 then zwi ex p (2 ^ U.1 0) else 0) else w.2.1 174 p)) := by
      have hcl : zcnt ex (2 ^ U.1 0) ≤ 256 := Nat.le_trans (zcnt_le _ _) h256
      refine zJ_iload_n dX9_thieves_219 rfl ?_
      rcases (by omega : q = 0 ∨ q = 1 ∨ q = 2 ∨ q = 3 ∨ q = 4) with rfl | rfl | rfl | rfl | rfl
      · refine zJ_tabN (off := 32) (tgt := 252) dX9_thieves_220 (by decide) (by decide) rfl (by decide) ?_
        refine zJ_iload_n dX9_thieves_252 rfl ?_
        refine zJ_if_ne (tgt := 260) dX9_thieves_253 (by decide) (fun h253 => ?_) (fun h253 => ?_)
        · refine zJ_iload_n dX9_thieves_260 rfl ?_
          exact zJ_iret dX9_thieves_261 rfl (by decide) (by decide) (hQ _ _ ⟨rF _, Or.inr ⟨0, by decide, rfl, r0 _, by rw [if_pos rfl, if_neg (fun h => h253 (by rw [h]; rfl))]⟩⟩)
        · refine zJ_iconst (v := 0) dX9_thieves_256 (by decide) ?_
          refine zJ_goto (tgt := 261) dX9_thieves_257 (by decide) ?_
          exact zJ_iret dX9_thieves_261 rfl (by decide) (by decide) (hQ _ _ ⟨rF _, Or.inr ⟨0, by decide, rfl, r0 _, by rw [if_pos rfl, if_pos ((nI_eq (b := 0) (by omega) (by decide)).mp h253)]; rfl⟩⟩)
      · refine zJ_tabN (off := 42) (tgt := 262) dX9_thieves_220 (by decide) (by decide) rfl (by decide) ?_
        refine zJ_iload dX9_thieves_262 rfl ?_
        exact zJ_iret dX9_thieves_264 rfl (by decide) (by decide) (hQ _ _ ⟨rF _, Or.inr ⟨1, by decide, rfl, r0 _, rfl⟩⟩)
      · refine zJ_tabN (off := 45) (tgt := 265) dX9_thieves_220 (by decide) (by decide) rfl (by decide) ?_
        refine zJ_iload_n dX9_thieves_265 rfl ?_
        exact zJ_iret dX9_thieves_266 rfl (by decide) (by decide) (hQ _ _ ⟨rF _, Or.inr ⟨2, by decide, rfl, r0 _, rfl⟩⟩)
      · refine zJ_tabN (off := 47) (tgt := 267) dX9_thieves_220 (by decide) (by decide) rfl (by decide) ?_
        refine zJ_iload dX9_thieves_267 rfl ?_
        exact zJ_iret dX9_thieves_269 rfl (by decide) (by decide) (hQ _ _ ⟨rF _, Or.inr ⟨3, by decide, rfl, r0 _, rfl⟩⟩)
      · refine zJ_tableOut (tgt := 270) dX9_thieves_220 (Or.inr (by decide)) (by decide) ?_
        refine zJ_iload_n dX9_thieves_270 rfl ?_
        refine zJ_if_ne (tgt := 278) dX9_thieves_271 (by decide) (fun h271 => ?_) (fun h271 => ?_)
        · refine zJ_aload_n dX9_thieves_278 rfl ?_
          refine zJ_iload_n dX9_thieves_279 rfl ?_
          refine zJ_cV1 dX9_thieves_280 sX9_464 mfX9_nearest (c_Mo_nearest Δ (zrow (zsi w 100 0 0) 174 (fun p => if p < 8 then nI (if p < U.1 0 then zwi ex p (2 ^ U.1 0) else 0) else w.2.1 174 p)) M0 (U.1 0) (zcnt ex (2 ^ U.1 0)) (fun p => zwi ex p (2 ^ U.1 0)) hp8 (r1 _) hcl (fun p hp => ⟨by rw [zrow_get, if_pos (by omega), if_pos hp], Nat.le_trans (zcnt_le _ _) h256⟩)) (by first | rfl | assumption | exact M0.at (by decide) (by decide)) rfl (Nat.le_of_ble_eq_true rfl) (by decide) (by decide) ?_
          exact zJ_iret dX9_thieves_283 rfl (by decide) (by decide) (hQ _ _ ⟨rF _, Or.inr ⟨4, by decide, rfl, r0 _, by rw [if_neg (by decide), if_neg (by decide), if_neg (by decide), if_neg (by decide), if_neg (fun h => h271 (by rw [h]; rfl))]⟩⟩)
        · refine zJ_iconst (v := (-1)) dX9_thieves_274 (by decide) ?_
          refine zJ_goto (tgt := 283) dX9_thieves_275 (by decide) ?_
          exact zJ_iret dX9_thieves_283 rfl (by decide) (by decide) (hQ _ _ ⟨rF _, Or.inr ⟨4, by decide, rfl, r0 _, by rw [if_neg (by decide), if_neg (by decide), if_neg (by decide), if_neg (by decide), if_pos ((nI_eq (b := 0) (by omega) (by decide)).mp h271)]⟩⟩)
    have LO : ∀ s, s ≤ 2 ^ U.1 0 → zJ Δ mX9_thieves (zRm 2 0 0) true w.1 QR (fun _ _ => False) 0 0 65 [(6, .int (nI s)), (5, .int (zoi (zfw ex s))), (4, .int (nI (zpo ex s))), (3, .int (nI (zsu ex (2 ^ U.1 0 - 1) s))), (2, .int (nI (zcnt ex s))), (0, .ref 100), (1, .int (nI q))] [] (zrow (zsi w 100 0 0) 174 (fun p => if p < 8 then nI (if p < U.1 0 then zwi ex p s else 0) else w.2.1 174 p)) := by
      refine zup (fun s hs ih => ?_)
      have hfs := hfl s hs
      have LP : s < 2 ^ U.1 0 → ex s = true → ∀ j, j ≤ U.1 0 → zJ Δ mX9_thieves (zRm 2 0 0) true w.1 QR (fun _ _ => False) 0 0 181 [(8, .int (nI j)), (7, .int 1), (6, .int (nI s)), (5, .int (zoi (zfw ex (s + 1)))), (4, .int (nI (zpo ex (s + 1)))), (3, .int (nI (zsu ex (2 ^ U.1 0 - 1) (s + 1)))), (2, .int (nI (zcnt ex (s + 1)))), (0, .ref 100), (1, .int (nI q))] [] (zrow (zsi w 100 0 0) 174 (fun p => if p < 8 then nI (if p < U.1 0 then (if p < j then zwi ex p (s + 1) else zwi ex p s) else 0) else w.2.1 174 p)) := by
        intro hs9 hes
        refine zup (fun j hj ihj => ?_)
        refine zJ_iload dX9_thieves_181 rfl ?_
        refine zJ_aload_n dX9_thieves_183 rfl ?_
        refine zJ_geti dX9_thieves_184 fX9_298 (by first | rfl | assumption | exact M0.at (by decide) (by decide)) rfl ?_
        rw [r1]
        refine zJ_icmp_ge (tgt := 213) dX9_thieves_187 (by decide) (fun h187 => ?_) (fun h187 => ?_)
        · have hj9 : j = U.1 0 := Nat.le_antisymm hj ((nI_leI (by omega) (by omega)).mp h187)
          refine zJ_iinc (ls2 := fun x213 => [(6, .int x213), (8, .int (nI j)), (7, .int 1), (5, .int (zoi (zfw ex (s + 1)))), (4, .int (nI (zpo ex (s + 1)))), (3, .int (nI (zsu ex (2 ^ U.1 0 - 1) (s + 1)))), (2, .int (nI (zcnt ex (s + 1)))), (0, .ref 100), (1, .int (nI q))]) dX9_thieves_213 rfl (by decide) (fun _ => rfl) (fun x213 ex213 => ?_)
          refine zJ_goto (tgt := 65) dX9_thieves_216 (by decide) ?_
          refine zJ_ls [(6, .int x213), (5, .int (zoi (zfw ex (s + 1)))), (4, .int (nI (zpo ex (s + 1)))), (3, .int (nI (zsu ex (2 ^ U.1 0 - 1) (s + 1)))), (2, .int (nI (zcnt ex (s + 1)))), (0, .ref 100), (1, .int (nI q))] (by simp) ?_
          rw [ex213, show nI s + Int32.ofInt 1 = nI (s + 1) from nI_1 _]
          refine zJ_w ?_ (ih (s + 1) (by omega) (by omega))
          refine congrArg (zrow (zsi w 100 0 0) 174) (funext fun p => ?_)
          by_cases hp : p < U.1 0
          · have hpj : p < j := by omega
            simp only [hp, hpj, if_true]
          · simp only [hp, if_false]
        · have hj9 : j < U.1 0 := Nat.lt_of_not_le fun hq9 => h187 ((nI_leI (by omega) (by omega)).mpr hq9)
          refine zJ_aload_n dX9_thieves_190 rfl ?_
          refine zJ_getr (j := 174) dX9_thieves_191 fX9_134 (by first | rfl | assumption | exact M0.at (by decide) (by decide)) rfl (by first | rfl | assumption | exact hM.rf (by decide) rfl) ?_
          refine zJ_iload dX9_thieves_194 rfl ?_
          refine zJ_dup2_11 dX9_thieves_196 rfl rfl ?_
          refine zJ_ialdN (i := j) (v := (nI (zwi ex j s))) dX9_thieves_197 (by first | rfl | assumption | exact M0.at (by decide) (by decide)) rfl (by omega) (by decide) (by rw [zrow_get, if_pos (by omega), if_pos hj9, if_neg (Nat.lt_irrefl j)]) ?_
          refine zJ_iload dX9_thieves_198 rfl ?_
          refine zJ_iload dX9_thieves_200 rfl ?_
          refine zJ_ishr dX9_thieves_202 ?_
          refine zJ_iconst (v := 1) dX9_thieves_203 (by decide) ?_
          refine zJ_iand dX9_thieves_204 ?_
          rw [nI_bit (by omega) (by omega)]
          refine zJ_iadd dX9_thieves_205 ?_
          rw [na_add, ← zwi_1 ex j s hes]
          refine zJ_iastN (i := j) dX9_thieves_206 (by first | rfl | assumption | exact M0.at (by decide) (by decide)) rfl (by omega) (by decide) ?_
          refine zJ_iinc (ls2 := fun x207 => [(8, .int x207), (7, .int 1), (6, .int (nI s)), (5, .int (zoi (zfw ex (s + 1)))), (4, .int (nI (zpo ex (s + 1)))), (3, .int (nI (zsu ex (2 ^ U.1 0 - 1) (s + 1)))), (2, .int (nI (zcnt ex (s + 1)))), (0, .ref 100), (1, .int (nI q))]) dX9_thieves_207 rfl (by decide) (fun _ => rfl) (fun x207 ex207 => ?_)
          refine zJ_goto (tgt := 181) dX9_thieves_210 (by decide) ?_
          refine zJ_ls [(8, .int x207), (7, .int 1), (6, .int (nI s)), (5, .int (zoi (zfw ex (s + 1)))), (4, .int (nI (zpo ex (s + 1)))), (3, .int (nI (zsu ex (2 ^ U.1 0 - 1) (s + 1)))), (2, .int (nI (zcnt ex (s + 1)))), (0, .ref 100), (1, .int (nI q))] (by simp) ?_
          rw [ex207, show nI j + Int32.ofInt 1 = nI (j + 1) from nI_1 _]
          refine zJ_w ?_ (ihj (j + 1) (by omega) (by omega))
          rw [zsi_row, zrow_get, zrow_row]
          refine congrArg (zrow (zsi w 100 0 0) 174) (funext fun p => ?_)
          by_cases h : p = j
          · subst h
            have h8 : p < 8 := by omega
            have h9 : p < p + 1 := by omega
            simp only [h8, hj9, h9, if_true]
          · rw [if_neg h]
            have c3 : (p < j + 1) = (p < j) := by simp only [eq_iff_iff]; omega
            simp only [c3]
      have LG : s < 2 ^ U.1 0 → ∀ j, j ≤ n → zJ Δ mX9_thieves (zRm 2 0 0) true w.1 QR (fun _ _ => False) 0 0 82 [(8, .int (nI j)), (7, .int (if zexp thr few s j then 1 else 0)), (6, .int (nI s)), (5, .int (zoi (zfw ex s))), (4, .int (nI (zpo ex s))), (3, .int (nI (zsu ex (2 ^ U.1 0 - 1) s))), (2, .int (nI (zcnt ex s))), (0, .ref 100), (1, .int (nI q))] [] (zrow (zsi w 100 0 0) 174 (fun p => if p < 8 then nI (if p < U.1 0 then zwi ex p s else 0) else w.2.1 174 p)) := by
        intro hs9
        refine zup (fun j hj ihj => ?_)
        refine zJ_iload dX9_thieves_82 rfl ?_
        refine zJ_aload_n dX9_thieves_84 rfl ?_
        refine zJ_geti dX9_thieves_85 fX9_323 (by first | rfl | assumption | exact M0.at (by decide) (by decide)) rfl ?_
        rw [r71]
        refine zJ_icmp_ge (tgt := 132) dX9_thieves_88 (by decide) (fun h88 => ?_) (fun h88 => ?_)
        · have hj9 : j = n := Nat.le_antisymm hj ((nI_leI (by omega) (by omega)).mp h88)
          have hexs : zexp thr few s j = ex s := by rw [← hex, hj9]
          rw [hexs]
          cases hes : ex s with
          | true =>
            have hzl : zpop s < 9 := zpop_lt s (by omega)
            cases hfg : zfw ex s with
            | none =>
              have hfn : zfw ex (s + 1) = some s := by simp only [zfw, hes, if_true, hfg]
              refine zJ_iload dX9_thieves_132 rfl ?_
              refine zJ_if_ne (tgt := 140) dX9_thieves_134 (by decide) (fun _ => ?_) (fun h9 => False.elim (by revert h9; decide))
              refine zJ_iinc (ls2 := fun x140n => [(2, .int x140n), (8, .int (nI j)), (7, .int 1), (6, .int (nI s)), (5, .int (zoi none)), (4, .int (nI (zpo ex s))), (3, .int (nI (zsu ex (2 ^ U.1 0 - 1) s))), (0, .ref 100), (1, .int (nI q))]) dX9_thieves_140 rfl (by decide) (fun _ => rfl) (fun x140n ex140n => ?_)
              obtain rfl : x140n = (nI (zcnt ex (s + 1))) := (by rw [ex140n, show nI (zcnt ex s) + Int32.ofInt 1 = nI (zcnt ex s + 1) from nI_1 _]; simp [zcnt, hes])
              refine zJ_iload_n dX9_thieves_143 rfl ?_
              refine zJ_iload dX9_thieves_144 rfl ?_
              refine zJ_iand dX9_thieves_146 ?_
              refine zJ_istore_n (ls2 := fun x147n => [(3, .int x147n), (2, .int (nI (zcnt ex (s + 1)))), (8, .int (nI j)), (7, .int 1), (6, .int (nI s)), (5, .int (zoi none)), (4, .int (nI (zpo ex s))), (0, .ref 100), (1, .int (nI q))]) dX9_thieves_147 (by decide) (fun _ => rfl) (fun x147n ex147n => ?_)
              obtain rfl : x147n = (nI (zsu ex (2 ^ U.1 0 - 1) (s + 1))) := (by rw [ex147n, na_and]; simp [zsu, hes])
              refine zJ_iload dX9_thieves_148 rfl ?_
              refine zJ_iload dX9_thieves_150 rfl ?_
              refine zJ_ior dX9_thieves_152 ?_
              refine zJ_istore (ls2 := fun x153n => [(4, .int x153n), (3, .int (nI (zsu ex (2 ^ U.1 0 - 1) (s + 1)))), (2, .int (nI (zcnt ex (s + 1)))), (8, .int (nI j)), (7, .int 1), (6, .int (nI s)), (5, .int (zoi none)), (0, .ref 100), (1, .int (nI q))]) dX9_thieves_153 (by decide) (fun _ => rfl) (fun x153n ex153n => ?_)
              obtain rfl : x153n = (nI (zpo ex (s + 1))) := (by rw [ex153n, na_or]; simp [zpo, hes])
              refine zJ_iload dX9_thieves_155 rfl ?_
              refine zJ_iconst (v := (-1)) dX9_thieves_157 (by decide) ?_
              refine zJ_icmp_eq (tgt := 174) dX9_thieves_158 (by decide) (fun _ => ?_) (fun h9 => False.elim (by revert h9; decide))
              refine zJ_iload dX9_thieves_174 rfl ?_
              refine zJ_istore (ls2 := fun x176n => [(5, .int x176n), (4, .int (nI (zpo ex (s + 1)))), (3, .int (nI (zsu ex (2 ^ U.1 0 - 1) (s + 1)))), (2, .int (nI (zcnt ex (s + 1)))), (8, .int (nI j)), (7, .int 1), (6, .int (nI s)), (0, .ref 100), (1, .int (nI q))]) dX9_thieves_176 (by decide) (fun _ => rfl) (fun x176n ex176n => ?_)
              obtain rfl : x176n = (zoi (some s)) := ex176n
              refine zJ_iconst (v := 0) dX9_thieves_178 (by decide) ?_
              refine zJ_istore (ls2 := fun x179 => [(8, .int x179), (5, .int (zoi (some s))), (4, .int (nI (zpo ex (s + 1)))), (3, .int (nI (zsu ex (2 ^ U.1 0 - 1) (s + 1)))), (2, .int (nI (zcnt ex (s + 1)))), (7, .int 1), (6, .int (nI s)), (0, .ref 100), (1, .int (nI q))]) dX9_thieves_179 (by decide) (fun _ => rfl) (fun x179 ex179 => ?_)
              refine zJ_ls [(8, .int x179), (7, .int 1), (6, .int (nI s)), (5, .int (zoi (some s))), (4, .int (nI (zpo ex (s + 1)))), (3, .int (nI (zsu ex (2 ^ U.1 0 - 1) (s + 1)))), (2, .int (nI (zcnt ex (s + 1)))), (0, .ref 100), (1, .int (nI q))] (by simp) ?_
              rw [ex179]
              rw [show (zoi (some s)) = zoi (zfw ex (s + 1)) by rw [hfn]]
              refine zJ_w ?_ (LP hs9 hes 0 (Nat.zero_le _))
              refine congrArg (zrow (zsi w 100 0 0) 174) (funext fun p => ?_)
              by_cases hp : p < U.1 0
              · simp only [hp, if_true, Nat.not_lt_zero, if_false]
              · simp only [hp, if_false]
            | some g =>
              have hg := hfs g hfg
              have hgl : zpop g < 9 := zpop_lt g hg
              by_cases hlt : zpop s < zpop g
              · have hfn : zfw ex (s + 1) = some s := by simp only [zfw, hes, if_true, hfg]; rw [if_pos hlt]
                refine zJ_iload dX9_thieves_132 rfl ?_
                refine zJ_if_ne (tgt := 140) dX9_thieves_134 (by decide) (fun _ => ?_) (fun h9 => False.elim (by revert h9; decide))
                refine zJ_iinc (ls2 := fun x140l => [(2, .int x140l), (8, .int (nI j)), (7, .int 1), (6, .int (nI s)), (5, .int (zoi (some g))), (4, .int (nI (zpo ex s))), (3, .int (nI (zsu ex (2 ^ U.1 0 - 1) s))), (0, .ref 100), (1, .int (nI q))]) dX9_thieves_140 rfl (by decide) (fun _ => rfl) (fun x140l ex140l => ?_)
                obtain rfl : x140l = (nI (zcnt ex (s + 1))) := (by rw [ex140l, show nI (zcnt ex s) + Int32.ofInt 1 = nI (zcnt ex s + 1) from nI_1 _]; simp [zcnt, hes])
                refine zJ_iload_n dX9_thieves_143 rfl ?_
                refine zJ_iload dX9_thieves_144 rfl ?_
                refine zJ_iand dX9_thieves_146 ?_
                refine zJ_istore_n (ls2 := fun x147l => [(3, .int x147l), (2, .int (nI (zcnt ex (s + 1)))), (8, .int (nI j)), (7, .int 1), (6, .int (nI s)), (5, .int (zoi (some g))), (4, .int (nI (zpo ex s))), (0, .ref 100), (1, .int (nI q))]) dX9_thieves_147 (by decide) (fun _ => rfl) (fun x147l ex147l => ?_)
                obtain rfl : x147l = (nI (zsu ex (2 ^ U.1 0 - 1) (s + 1))) := (by rw [ex147l, na_and]; simp [zsu, hes])
                refine zJ_iload dX9_thieves_148 rfl ?_
                refine zJ_iload dX9_thieves_150 rfl ?_
                refine zJ_ior dX9_thieves_152 ?_
                refine zJ_istore (ls2 := fun x153l => [(4, .int x153l), (3, .int (nI (zsu ex (2 ^ U.1 0 - 1) (s + 1)))), (2, .int (nI (zcnt ex (s + 1)))), (8, .int (nI j)), (7, .int 1), (6, .int (nI s)), (5, .int (zoi (some g))), (0, .ref 100), (1, .int (nI q))]) dX9_thieves_153 (by decide) (fun _ => rfl) (fun x153l ex153l => ?_)
                obtain rfl : x153l = (nI (zpo ex (s + 1))) := (by rw [ex153l, na_or]; simp [zpo, hes])
                refine zJ_iload dX9_thieves_155 rfl ?_
                refine zJ_iconst (v := (-1)) dX9_thieves_157 (by decide) ?_
                refine zJ_icmp_eq (tgt := 174) dX9_thieves_158 (by decide) (fun h9 => absurd h9 (nI_m1 (show g < 2 ^ 31 by omega))) (fun h158l => ?_)
                refine zJ_iload dX9_thieves_161 rfl ?_
                refine zJ_cS1 dX9_thieves_163 sX9_461 mfX9_bits (c_Mo_bits Δ _ s (by omega)) (Nat.le_of_ble_eq_true rfl) (by decide) (by decide) ?_
                refine zJ_iload dX9_thieves_166 rfl ?_
                refine zJ_cS1 dX9_thieves_168 sX9_461 mfX9_bits (c_Mo_bits Δ _ g (by omega)) (Nat.le_of_ble_eq_true rfl) (by decide) (by decide) ?_
                refine zJ_icmp_ge (tgt := 178) dX9_thieves_171 (by decide) (fun h9 => absurd h9 (fun h => absurd ((nI_leI (by omega) (by omega)).mp h) (by omega))) (fun h171l => ?_)
                refine zJ_iload dX9_thieves_174 rfl ?_
                refine zJ_istore (ls2 := fun x176l => [(5, .int x176l), (4, .int (nI (zpo ex (s + 1)))), (3, .int (nI (zsu ex (2 ^ U.1 0 - 1) (s + 1)))), (2, .int (nI (zcnt ex (s + 1)))), (8, .int (nI j)), (7, .int 1), (6, .int (nI s)), (0, .ref 100), (1, .int (nI q))]) dX9_thieves_176 (by decide) (fun _ => rfl) (fun x176l ex176l => ?_)
                obtain rfl : x176l = (zoi (some s)) := ex176l
                refine zJ_iconst (v := 0) dX9_thieves_178 (by decide) ?_
                refine zJ_istore (ls2 := fun x179 => [(8, .int x179), (5, .int (zoi (some s))), (4, .int (nI (zpo ex (s + 1)))), (3, .int (nI (zsu ex (2 ^ U.1 0 - 1) (s + 1)))), (2, .int (nI (zcnt ex (s + 1)))), (7, .int 1), (6, .int (nI s)), (0, .ref 100), (1, .int (nI q))]) dX9_thieves_179 (by decide) (fun _ => rfl) (fun x179 ex179 => ?_)
                refine zJ_ls [(8, .int x179), (7, .int 1), (6, .int (nI s)), (5, .int (zoi (some s))), (4, .int (nI (zpo ex (s + 1)))), (3, .int (nI (zsu ex (2 ^ U.1 0 - 1) (s + 1)))), (2, .int (nI (zcnt ex (s + 1)))), (0, .ref 100), (1, .int (nI q))] (by simp) ?_
                rw [ex179]
                rw [show (zoi (some s)) = zoi (zfw ex (s + 1)) by rw [hfn]]
                refine zJ_w ?_ (LP hs9 hes 0 (Nat.zero_le _))
                refine congrArg (zrow (zsi w 100 0 0) 174) (funext fun p => ?_)
                by_cases hp : p < U.1 0
                · simp only [hp, if_true, Nat.not_lt_zero, if_false]
                · simp only [hp, if_false]
              · have hfn : zfw ex (s + 1) = some g := by simp only [zfw, hes, if_true, hfg]; rw [if_neg hlt]
                refine zJ_iload dX9_thieves_132 rfl ?_
                refine zJ_if_ne (tgt := 140) dX9_thieves_134 (by decide) (fun _ => ?_) (fun h9 => False.elim (by revert h9; decide))
                refine zJ_iinc (ls2 := fun x140g => [(2, .int x140g), (8, .int (nI j)), (7, .int 1), (6, .int (nI s)), (5, .int (zoi (some g))), (4, .int (nI (zpo ex s))), (3, .int (nI (zsu ex (2 ^ U.1 0 - 1) s))), (0, .ref 100), (1, .int (nI q))]) dX9_thieves_140 rfl (by decide) (fun _ => rfl) (fun x140g ex140g => ?_)
                obtain rfl : x140g = (nI (zcnt ex (s + 1))) := (by rw [ex140g, show nI (zcnt ex s) + Int32.ofInt 1 = nI (zcnt ex s + 1) from nI_1 _]; simp [zcnt, hes])
                refine zJ_iload_n dX9_thieves_143 rfl ?_
                refine zJ_iload dX9_thieves_144 rfl ?_
                refine zJ_iand dX9_thieves_146 ?_
                refine zJ_istore_n (ls2 := fun x147g => [(3, .int x147g), (2, .int (nI (zcnt ex (s + 1)))), (8, .int (nI j)), (7, .int 1), (6, .int (nI s)), (5, .int (zoi (some g))), (4, .int (nI (zpo ex s))), (0, .ref 100), (1, .int (nI q))]) dX9_thieves_147 (by decide) (fun _ => rfl) (fun x147g ex147g => ?_)
                obtain rfl : x147g = (nI (zsu ex (2 ^ U.1 0 - 1) (s + 1))) := (by rw [ex147g, na_and]; simp [zsu, hes])
                refine zJ_iload dX9_thieves_148 rfl ?_
                refine zJ_iload dX9_thieves_150 rfl ?_
                refine zJ_ior dX9_thieves_152 ?_
                refine zJ_istore (ls2 := fun x153g => [(4, .int x153g), (3, .int (nI (zsu ex (2 ^ U.1 0 - 1) (s + 1)))), (2, .int (nI (zcnt ex (s + 1)))), (8, .int (nI j)), (7, .int 1), (6, .int (nI s)), (5, .int (zoi (some g))), (0, .ref 100), (1, .int (nI q))]) dX9_thieves_153 (by decide) (fun _ => rfl) (fun x153g ex153g => ?_)
                obtain rfl : x153g = (nI (zpo ex (s + 1))) := (by rw [ex153g, na_or]; simp [zpo, hes])
                refine zJ_iload dX9_thieves_155 rfl ?_
                refine zJ_iconst (v := (-1)) dX9_thieves_157 (by decide) ?_
                refine zJ_icmp_eq (tgt := 174) dX9_thieves_158 (by decide) (fun h9 => absurd h9 (nI_m1 (show g < 2 ^ 31 by omega))) (fun h158g => ?_)
                refine zJ_iload dX9_thieves_161 rfl ?_
                refine zJ_cS1 dX9_thieves_163 sX9_461 mfX9_bits (c_Mo_bits Δ _ s (by omega)) (Nat.le_of_ble_eq_true rfl) (by decide) (by decide) ?_
                refine zJ_iload dX9_thieves_166 rfl ?_
                refine zJ_cS1 dX9_thieves_168 sX9_461 mfX9_bits (c_Mo_bits Δ _ g (by omega)) (Nat.le_of_ble_eq_true rfl) (by decide) (by decide) ?_
                refine zJ_icmp_ge (tgt := 178) dX9_thieves_171 (by decide) (fun h171g => ?_) (fun h9 => absurd ((nI_leI (by omega) (by omega)).mpr (by omega)) h9)
                refine zJ_iconst (v := 0) dX9_thieves_178 (by decide) ?_
                refine zJ_istore (ls2 := fun x179 => [(8, .int x179), (4, .int (nI (zpo ex (s + 1)))), (3, .int (nI (zsu ex (2 ^ U.1 0 - 1) (s + 1)))), (2, .int (nI (zcnt ex (s + 1)))), (7, .int 1), (6, .int (nI s)), (5, .int (zoi (some g))), (0, .ref 100), (1, .int (nI q))]) dX9_thieves_179 (by decide) (fun _ => rfl) (fun x179 ex179 => ?_)
                refine zJ_ls [(8, .int x179), (7, .int 1), (6, .int (nI s)), (5, .int (zoi (some g))), (4, .int (nI (zpo ex (s + 1)))), (3, .int (nI (zsu ex (2 ^ U.1 0 - 1) (s + 1)))), (2, .int (nI (zcnt ex (s + 1)))), (0, .ref 100), (1, .int (nI q))] (by simp) ?_
                rw [ex179]
                rw [show (zoi (some g)) = zoi (zfw ex (s + 1)) by rw [hfn]]
                refine zJ_w ?_ (LP hs9 hes 0 (Nat.zero_le _))
                refine congrArg (zrow (zsi w 100 0 0) 174) (funext fun p => ?_)
                by_cases hp : p < U.1 0
                · simp only [hp, if_true, Nat.not_lt_zero, if_false]
                · simp only [hp, if_false]
          | false =>
            refine zJ_iload dX9_thieves_132 rfl ?_
            refine zJ_if_ne (tgt := 140) dX9_thieves_134 (by decide) (fun h9 => False.elim (by revert h9; decide)) (fun _ => ?_)
            refine zJ_goto (tgt := 213) dX9_thieves_137 (by decide) ?_
            refine zJ_iinc (ls2 := fun x213 => [(6, .int x213), (8, .int (nI j)), (7, .int 0), (5, .int (zoi (zfw ex s))), (4, .int (nI (zpo ex s))), (3, .int (nI (zsu ex (2 ^ U.1 0 - 1) s))), (2, .int (nI (zcnt ex s))), (0, .ref 100), (1, .int (nI q))]) dX9_thieves_213 rfl (by decide) (fun _ => rfl) (fun x213 ex213 => ?_)
            refine zJ_goto (tgt := 65) dX9_thieves_216 (by decide) ?_
            refine zJ_ls [(6, .int x213), (5, .int (zoi (zfw ex s))), (4, .int (nI (zpo ex s))), (3, .int (nI (zsu ex (2 ^ U.1 0 - 1) s))), (2, .int (nI (zcnt ex s))), (0, .ref 100), (1, .int (nI q))] (by simp) ?_
            rw [ex213, show nI s + Int32.ofInt 1 = nI (s + 1) from nI_1 _]
            have := ih (s + 1) (by omega) (by omega)
            rw [show zfw ex (s + 1) = zfw ex s by simp [zfw, hes], show zpo ex (s + 1) = zpo ex s by simp [zpo, hes], show zsu ex (2 ^ U.1 0 - 1) (s + 1) = zsu ex (2 ^ U.1 0 - 1) s by simp [zsu, hes], show zcnt ex (s + 1) = zcnt ex s by simp [zcnt, hes]] at this
            refine zJ_w ?_ this
            refine congrArg (zrow (zsi w 100 0 0) 174) (funext fun p => ?_)
            rw [zwi_0 ex p s hes]
        · have hj9 : j < n := Nat.lt_of_not_le fun hq9 => h88 ((nI_leI (by omega) (by omega)).mpr hq9)
          have hfew := (h73 j hj9).2
          have hpl : zpop (s &&& thr j) < 9 := zpop_lt _ (zand_lt (by omega))
          cases hz : zexp thr few s j with
          | false =>
            refine zJ_iload dX9_thieves_91 rfl ?_
            refine zJ_if_eq (tgt := 123) dX9_thieves_93 (by decide) (fun _ => ?_) (fun h9 => False.elim (by revert h9; decide))
            refine zJ_iconst (v := 0) dX9_thieves_123 (by decide) ?_
            refine zJ_istore (ls2 := fun x124 => [(7, .int x124), (8, .int (nI j)), (6, .int (nI s)), (5, .int (zoi (zfw ex s))), (4, .int (nI (zpo ex s))), (3, .int (nI (zsu ex (2 ^ U.1 0 - 1) s))), (2, .int (nI (zcnt ex s))), (0, .ref 100), (1, .int (nI q))]) dX9_thieves_124 (by decide) (fun _ => rfl) (fun x124 ex124 => ?_)
            refine zJ_iinc (ls2 := fun x126 => [(8, .int x126), (7, .int x124), (6, .int (nI s)), (5, .int (zoi (zfw ex s))), (4, .int (nI (zpo ex s))), (3, .int (nI (zsu ex (2 ^ U.1 0 - 1) s))), (2, .int (nI (zcnt ex s))), (0, .ref 100), (1, .int (nI q))]) dX9_thieves_126 rfl (by decide) (fun _ => rfl) (fun x126 ex126 => ?_)
            refine zJ_goto (tgt := 82) dX9_thieves_129 (by decide) ?_
            refine zJ_ls [(8, .int x126), (7, .int x124), (6, .int (nI s)), (5, .int (zoi (zfw ex s))), (4, .int (nI (zpo ex s))), (3, .int (nI (zsu ex (2 ^ U.1 0 - 1) s))), (2, .int (nI (zcnt ex s))), (0, .ref 100), (1, .int (nI q))] (by simp) ?_
            rw [ex126, show nI j + Int32.ofInt 1 = nI (j + 1) from nI_1 _]
            obtain rfl : x124 = (if zexp thr few s (j + 1) then 1 else 0) := ex124.trans (show (0 : Int32) = (if zexp thr few s (j + 1) then 1 else 0) from (by simp [zexp, hz]))
            exact ihj (j + 1) (by omega) (by omega)
          | true =>
            refine zJ_iload dX9_thieves_91 rfl ?_
            refine zJ_if_eq (tgt := 123) dX9_thieves_93 (by decide) (fun h9 => False.elim (by revert h9; decide)) (fun _ => ?_)
            refine zJ_iload dX9_thieves_96 rfl ?_
            refine zJ_aload_n dX9_thieves_98 rfl ?_
            refine zJ_getr (j := 172) dX9_thieves_99 fX9_128 (by first | rfl | assumption | exact M0.at (by decide) (by decide)) rfl (by first | rfl | assumption | exact hM.rf (by decide) rfl) ?_
            refine zJ_iload dX9_thieves_102 rfl ?_
            refine zJ_ialdN (i := j) (v := (nI (thr j))) dX9_thieves_104 (by first | rfl | assumption | exact M0.at (by decide) (by decide)) rfl (by omega) (by decide) (r72 _ j hj9) ?_
            refine zJ_iand dX9_thieves_105 ?_
            rw [na_and]
            refine zJ_cS1 dX9_thieves_106 sX9_461 mfX9_bits (c_Mo_bits Δ _ (s &&& thr j) (zand_lt (by omega))) (Nat.le_of_ble_eq_true rfl) (by decide) (by decide) ?_
            refine zJ_aload_n dX9_thieves_109 rfl ?_
            refine zJ_getr (j := 173) dX9_thieves_110 fX9_131 (by first | rfl | assumption | exact M0.at (by decide) (by decide)) rfl (by first | rfl | assumption | exact hM.rf (by decide) rfl) ?_
            refine zJ_iload dX9_thieves_113 rfl ?_
            refine zJ_ialdN (i := j) (v := (nI (few j))) dX9_thieves_115 (by first | rfl | assumption | exact M0.at (by decide) (by decide)) rfl (by omega) (by decide) (r73 _ j hj9) ?_
            skip
            refine zJ_icmp_ne (tgt := 123) dX9_thieves_116 (by decide) (fun h116t => ?_) (fun h116t => ?_)
            · have hne : ¬ zpop (s &&& thr j) = few j := fun h => h116t (by rw [h])
              refine zJ_iconst (v := 0) dX9_thieves_123 (by decide) ?_
              refine zJ_istore (ls2 := fun x124 => [(7, .int x124), (8, .int (nI j)), (6, .int (nI s)), (5, .int (zoi (zfw ex s))), (4, .int (nI (zpo ex s))), (3, .int (nI (zsu ex (2 ^ U.1 0 - 1) s))), (2, .int (nI (zcnt ex s))), (0, .ref 100), (1, .int (nI q))]) dX9_thieves_124 (by decide) (fun _ => rfl) (fun x124 ex124 => ?_)
              refine zJ_iinc (ls2 := fun x126 => [(8, .int x126), (7, .int x124), (6, .int (nI s)), (5, .int (zoi (zfw ex s))), (4, .int (nI (zpo ex s))), (3, .int (nI (zsu ex (2 ^ U.1 0 - 1) s))), (2, .int (nI (zcnt ex s))), (0, .ref 100), (1, .int (nI q))]) dX9_thieves_126 rfl (by decide) (fun _ => rfl) (fun x126 ex126 => ?_)
              refine zJ_goto (tgt := 82) dX9_thieves_129 (by decide) ?_
              refine zJ_ls [(8, .int x126), (7, .int x124), (6, .int (nI s)), (5, .int (zoi (zfw ex s))), (4, .int (nI (zpo ex s))), (3, .int (nI (zsu ex (2 ^ U.1 0 - 1) s))), (2, .int (nI (zcnt ex s))), (0, .ref 100), (1, .int (nI q))] (by simp) ?_
              rw [ex126, show nI j + Int32.ofInt 1 = nI (j + 1) from nI_1 _]
              obtain rfl : x124 = (if zexp thr few s (j + 1) then 1 else 0) := ex124.trans (show (0 : Int32) = (if zexp thr few s (j + 1) then 1 else 0) from (by simp [zexp, hz, hne]))
              exact ihj (j + 1) (by omega) (by omega)
            · have heq : zpop (s &&& thr j) = few j := (nI_eq (by omega) (by omega)).mp h116t
              refine zJ_iconst (v := 1) dX9_thieves_119 (by decide) ?_
              refine zJ_goto (tgt := 124) dX9_thieves_120 (by decide) ?_
              refine zJ_istore (ls2 := fun x124 => [(7, .int x124), (8, .int (nI j)), (6, .int (nI s)), (5, .int (zoi (zfw ex s))), (4, .int (nI (zpo ex s))), (3, .int (nI (zsu ex (2 ^ U.1 0 - 1) s))), (2, .int (nI (zcnt ex s))), (0, .ref 100), (1, .int (nI q))]) dX9_thieves_124 (by decide) (fun _ => rfl) (fun x124 ex124 => ?_)
              refine zJ_iinc (ls2 := fun x126 => [(8, .int x126), (7, .int x124), (6, .int (nI s)), (5, .int (zoi (zfw ex s))), (4, .int (nI (zpo ex s))), (3, .int (nI (zsu ex (2 ^ U.1 0 - 1) s))), (2, .int (nI (zcnt ex s))), (0, .ref 100), (1, .int (nI q))]) dX9_thieves_126 rfl (by decide) (fun _ => rfl) (fun x126 ex126 => ?_)
              refine zJ_goto (tgt := 82) dX9_thieves_129 (by decide) ?_
              refine zJ_ls [(8, .int x126), (7, .int x124), (6, .int (nI s)), (5, .int (zoi (zfw ex s))), (4, .int (nI (zpo ex s))), (3, .int (nI (zsu ex (2 ^ U.1 0 - 1) s))), (2, .int (nI (zcnt ex s))), (0, .ref 100), (1, .int (nI q))] (by simp) ?_
              rw [ex126, show nI j + Int32.ofInt 1 = nI (j + 1) from nI_1 _]
              obtain rfl : x124 = (if zexp thr few s (j + 1) then 1 else 0) := ex124.trans (show (1 : Int32) = (if zexp thr few s (j + 1) then 1 else 0) from (by simp [zexp, hz, heq]))
              exact ihj (j + 1) (by omega) (by omega)
      refine zJ_iload dX9_thieves_65 rfl ?_
      refine zJ_iconst (v := 1) dX9_thieves_67 (by decide) ?_
      refine zJ_aload_n dX9_thieves_68 rfl ?_
      refine zJ_geti dX9_thieves_69 fX9_298 (by first | rfl | assumption | exact M0.at (by decide) (by decide)) rfl ?_
      rw [r1]
      refine zJ_ishl dX9_thieves_72 ?_
      rw [na_shl (U.1 0) (by omega)]
      refine zJ_icmp_ge (tgt := 219) dX9_thieves_73 (by decide) (fun h73 => ?_) (fun h73 => ?_)
      · have hs9 : s = 2 ^ U.1 0 := Nat.le_antisymm hs ((nI_leI (by omega) (by omega)).mp h73)
        rw [hs9]
        exact LE
      · refine zJ_iconst (v := 1) dX9_thieves_76 (by decide) ?_
        refine zJ_istore (ls2 := fun x77 => [(7, .int x77), (6, .int (nI s)), (5, .int (zoi (zfw ex s))), (4, .int (nI (zpo ex s))), (3, .int (nI (zsu ex (2 ^ U.1 0 - 1) s))), (2, .int (nI (zcnt ex s))), (0, .ref 100), (1, .int (nI q))]) dX9_thieves_77 (by decide) (fun _ => rfl) (fun x77 ex77 => ?_)
        obtain rfl : x77 = 1 := ex77
        refine zJ_iconst (v := 0) dX9_thieves_79 (by decide) ?_
        refine zJ_istore (ls2 := fun x80 => [(8, .int x80), (7, .int 1), (6, .int (nI s)), (5, .int (zoi (zfw ex s))), (4, .int (nI (zpo ex s))), (3, .int (nI (zsu ex (2 ^ U.1 0 - 1) s))), (2, .int (nI (zcnt ex s))), (0, .ref 100), (1, .int (nI q))]) dX9_thieves_80 (by decide) (fun _ => rfl) (fun x80 ex80 => ?_)
        obtain rfl : x80 = (nI 0) := ex80
        have hs9 : s < 2 ^ U.1 0 := Nat.lt_of_not_le fun hq9 => h73 ((nI_leI (by omega) (by omega)).mpr hq9)
        exact LG hs9 0 (Nat.zero_le _)
    have LZ : ∀ j, j ≤ 8 → zJ Δ mX9_thieves (zRm 2 0 0) true w.1 QR (fun _ _ => False) 0 0 41 [(6, .int (nI j)), (5, .int (-1)), (4, .int (nI 0)), (3, .int (nI (2 ^ U.1 0 - 1))), (2, .int (nI 0)), (0, .ref 100), (1, .int (nI q))] [] (zrow (zsi w 100 0 0) 174 (fun p => if p < j then 0 else w.2.1 174 p)) := by
      refine zup (fun j hj ih => ?_)
      refine zJ_iload dX9_thieves_41 rfl ?_
      refine zJ_bipush (v := 8) dX9_thieves_43 (by decide) ?_
      refine zJ_icmp_ge (tgt := 62) dX9_thieves_45 (by decide) (fun h45 => ?_) (fun h45 => ?_)
      · have hj9 : j = 8 := by exact Nat.le_antisymm hj ((nI_leI (a := 8) (b := j) (by omega) (by omega)).mp h45)
        subst hj9
        refine zJ_iconst (v := 0) dX9_thieves_62 (by decide) ?_
        refine zJ_istore (ls2 := fun x63 => [(6, .int x63), (5, .int (-1)), (4, .int (nI 0)), (3, .int (nI (2 ^ U.1 0 - 1))), (2, .int (nI 0)), (0, .ref 100), (1, .int (nI q))]) dX9_thieves_63 (by decide) (fun _ => rfl) (fun x63 ex63 => ?_)
        rw [ex63]
        refine zJ_w ?_ (LO 0 (Nat.zero_le _))
        refine congrArg (zrow (zsi w 100 0 0) 174) (funext fun p => ?_)
        by_cases hp : p < 8
        · rw [if_pos hp, if_pos hp, show (if p < U.1 0 then zwi ex p 0 else 0) = 0 by split <;> rfl]; rfl
        · rw [if_neg hp, if_neg hp]
      · have hj9 : j < 8 := Nat.lt_of_not_le fun hq9 => h45 (by exact (nI_leI (a := 8) (b := j) (by omega) (by omega)).mpr hq9)
        refine zJ_aload_n dX9_thieves_48 rfl ?_
        refine zJ_getr (j := 174) dX9_thieves_49 fX9_134 (by first | rfl | assumption | exact M0.at (by decide) (by decide)) rfl (by first | rfl | assumption | exact M0.rf (by decide) rfl) ?_
        refine zJ_iload dX9_thieves_52 rfl ?_
        refine zJ_iconst (v := 0) dX9_thieves_54 (by decide) ?_
        refine zJ_iastN (i := j) dX9_thieves_55 (by first | rfl | assumption | exact M0.at (by decide) (by decide)) rfl (by omega) (by decide) ?_
        refine zJ_iinc (ls2 := fun x56 => [(6, .int x56), (5, .int (-1)), (4, .int (nI 0)), (3, .int (nI (2 ^ U.1 0 - 1))), (2, .int (nI 0)), (0, .ref 100), (1, .int (nI q))]) dX9_thieves_56 rfl (by decide) (fun _ => rfl) (fun x56 ex56 => ?_)
        refine zJ_goto (tgt := 41) dX9_thieves_59 (by decide) ?_
        refine zJ_ls [(6, .int x56), (5, .int (-1)), (4, .int (nI 0)), (3, .int (nI (2 ^ U.1 0 - 1))), (2, .int (nI 0)), (0, .ref 100), (1, .int (nI q))] (by simp) ?_
        rw [ex56, show nI j + Int32.ofInt 1 = nI (j + 1) from nI_1 _]
        refine zJ_w ?_ (ih (j + 1) (by omega) (by omega))
        rw [zsi_row, zrow_get, zrow_row]
        refine congrArg (zrow (zsi w 100 0 0) 174) (funext fun p => ?_)
        by_cases h : p = j
        · subst h; simp
        · have c3 : (p < j + 1) = (p < j) := by simp only [eq_iff_iff]; omega
          simp only [h, if_false, c3]
    refine zJ_aload_n dX9_thieves_0 rfl ?_
    refine zJ_iconst (v := 0) dX9_thieves_1 (by decide) ?_
    refine zJ_puti dX9_thieves_2 fX9_170 (fun q h => by cases h; rfl) (by first | rfl | assumption | exact M0.at (by decide) (by decide)) rfl rfl rfl ?_
    refine zJ_aload_n dX9_thieves_5 rfl ?_
    refine zJ_iload_n dX9_thieves_6 rfl ?_
    refine zJ_iconst (v := 0) dX9_thieves_7 (by decide) ?_
    refine zJ_iconst (v := 4) dX9_thieves_8 (by decide) ?_
    refine zJ_cS3 dX9_thieves_9 sX9_336 mfX9_within ((c_Mo_within Δ (zsi w 100 0 0) (nI q) 0 4 (by decide) (by decide)).1 ⟨q, Nat.zero_le _, hq, rfl⟩) (Nat.le_of_ble_eq_true rfl) (by decide) (by decide) ?_
    refine zJ_iconst (v := 1) dX9_thieves_12 (by decide) ?_
    refine zJ_cV2 dX9_thieves_13 sX9_291 mfX9_right (c_Mo_right1 Δ (zsi w 100 0 0) M0 z0 1) (by first | rfl | assumption | exact M0.at (by decide) (by decide)) rfl (Nat.le_of_ble_eq_true rfl) (by decide) (by decide) ?_
    refine zJ_if_ne (tgt := 21) dX9_thieves_16 (by decide) (fun _ => ?_) (fun h9 => False.elim (by revert h9; decide))
    refine zJ_iconst (v := 0) dX9_thieves_21 (by decide) ?_
    refine zJ_istore_n (ls2 := fun x22 => [(2, .int x22), (0, .ref 100), (1, .int (nI q))]) dX9_thieves_22 (by decide) (fun _ => rfl) (fun x22 ex22 => ?_)
    obtain rfl : x22 = (nI 0) := ex22
    refine zJ_iconst (v := 1) dX9_thieves_23 (by decide) ?_
    refine zJ_aload_n dX9_thieves_24 rfl ?_
    refine zJ_geti dX9_thieves_25 fX9_298 (by first | rfl | assumption | exact M0.at (by decide) (by decide)) rfl ?_
    rw [hp1]
    refine zJ_ishl dX9_thieves_28 ?_
    rw [na_shl (U.1 0) (by omega)]
    refine zJ_iconst (v := 1) dX9_thieves_29 (by decide) ?_
    refine zJ_isub dX9_thieves_30 ?_
    refine zJ_istore_n (ls2 := fun x31 => [(3, .int x31), (2, .int (nI 0)), (0, .ref 100), (1, .int (nI q))]) dX9_thieves_31 (by decide) (fun _ => rfl) (fun x31 ex31 => ?_)
    obtain rfl : x31 = (nI (2 ^ U.1 0 - 1)) := (ex31.trans (na_sub (b := 1) Nat.one_le_two_pow))
    refine zJ_iconst (v := 0) dX9_thieves_32 (by decide) ?_
    refine zJ_istore (ls2 := fun x33 => [(4, .int x33), (3, .int (nI (2 ^ U.1 0 - 1))), (2, .int (nI 0)), (0, .ref 100), (1, .int (nI q))]) dX9_thieves_33 (by decide) (fun _ => rfl) (fun x33 ex33 => ?_)
    obtain rfl : x33 = (nI 0) := ex33
    refine zJ_iconst (v := (-1)) dX9_thieves_35 (by decide) ?_
    refine zJ_istore (ls2 := fun x36 => [(5, .int x36), (4, .int (nI 0)), (3, .int (nI (2 ^ U.1 0 - 1))), (2, .int (nI 0)), (0, .ref 100), (1, .int (nI q))]) dX9_thieves_36 (by decide) (fun _ => rfl) (fun x36 ex36 => ?_)
    obtain rfl : x36 = (-1) := ex36
    refine zJ_iconst (v := 0) dX9_thieves_38 (by decide) ?_
    refine zJ_istore (ls2 := fun x39 => [(6, .int x39), (5, .int (-1)), (4, .int (nI 0)), (3, .int (nI (2 ^ U.1 0 - 1))), (2, .int (nI 0)), (0, .ref 100), (1, .int (nI q))]) dX9_thieves_39 (by decide) (fun _ => rfl) (fun x39 ex39 => ?_)
    obtain rfl : x39 = (nI 0) := ex39
    refine zJ_w ?_ (LZ 0 (Nat.zero_le _))
    refine (zrow_self (zsi w 100 0 0) 174).symm.trans (congrArg (zrow (zsi w 100 0 0) 174) (funext fun p => ?_))
    rw [if_neg (Nat.not_lt_zero p)]; simp [zsi]
  · skip
    refine zJ_aload_n dX9_thieves_0 rfl ?_
    refine zJ_iconst (v := 0) dX9_thieves_1 (by decide) ?_
    refine zJ_puti dX9_thieves_2 fX9_170 (fun q h => by cases h; rfl) (by first | rfl | assumption | exact M0.at (by decide) (by decide)) rfl rfl rfl ?_
    refine zJ_aload_n dX9_thieves_5 rfl ?_
    refine zJ_iload_n dX9_thieves_6 rfl ?_
    refine zJ_iconst (v := 0) dX9_thieves_7 (by decide) ?_
    refine zJ_iconst (v := 4) dX9_thieves_8 (by decide) ?_
    refine zJ_cS3 dX9_thieves_9 sX9_336 mfX9_within ((c_Mo_within Δ (zsi w 100 0 0) x 0 4 (by decide) (by decide)).2 hx) (Nat.le_of_ble_eq_true rfl) (by decide) (by decide) ?_
    refine zJ_iconst (v := 1) dX9_thieves_12 (by decide) ?_
    refine zJ_cV2 dX9_thieves_13 sX9_291 mfX9_right (c_Mo_right0 Δ (zsi w 100 0 0) M0 z0 1 (by decide)) (by first | rfl | assumption | exact M0.at (by decide) (by decide)) rfl (Nat.le_of_ble_eq_true rfl) (by decide) (by decide) ?_
    refine zJ_if_ne (tgt := 21) dX9_thieves_16 (by decide) (fun h9 => False.elim (by revert h9; decide)) (fun _ => ?_)
    refine zJ_iconst (v := 0) dX9_thieves_19 (by decide) ?_
    exact zJ_iret dX9_thieves_20 rfl (by decide) (by decide) (hQ _ _ ⟨zFM.t0.tr zFM.t0, Or.inl ⟨fun h => hx (by obtain ⟨a, b, c⟩ := h; exact ⟨a, Nat.zero_le _, b, c⟩), by simp [zsi]⟩⟩)
