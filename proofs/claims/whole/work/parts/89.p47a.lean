/-! the law's cases: tails of guess and begin, what needs no helper -/
theorem zRb.ok {w : zW} {k n i : Nat} (h : zRb w k n i) (hi : i < 512) : k ≤ room_1.cells ∧ n ≤ room_1.slots := ⟨by have := h.1; show k ≤ 601024; omega, by have := h.2.1; show n ≤ 7293034; omega⟩
theorem zRb.nx {w : zW} {k n i : Nat} (h : zRb w k n i) : zRb w k n (i + 1) := ⟨by have := h.1; omega, by have := h.2.1; omega, fun h9 => by have := h.2.2 h9; omega⟩
section ZTM
variable {Δ : zD} {sh0 : zSh} {i k n pc : Nat} {kv : Int32} {c : zW} {U : zTo} {off : Int}
theorem zLtG {b : Int32} (hN : zNext Δ sh0 i) (hC : zKC c U) (hR : zRb c k n (i + 1)) (hb : k ≤ room_1.cells ∧ n ≤ room_1.slots) (hth : c.2.1 100 0 = kv) (hv : kv = 0 → c.2.2.1 190 0 = (if b = 0 then 0 else 1))
    (d0 : decode cL_law pc = .ok (.istore 6, 2)) (d1 : decode cL_law (pc + 2) = .ok (.aload_n 2, 1)) (d2 : decode cL_law (pc + 3) = .ok (.invokevirtual 112, 3)) (d3 : decode cL_law (pc + 6) = .ok (.iload 5, 2)) (d4 : decode cL_law (pc + 8) = .ok (.if_icmp .eq 5, 3)) (d5 : decode cL_law (pc + 13) = .ok (.iload 5, 2)) (d6 : decode cL_law (pc + 15) = .ok (.ifCond .ne 22, 3)) (d7 : decode cL_law (pc + 18) = .ok (.aload_n 3, 1)) (d8 : decode cL_law (pc + 19) = .ok (.iconst 0, 1)) (d9 : decode cL_law (pc + 20) = .ok (.laload, 1)) (d10 : decode cL_law (pc + 21) = .ok (.iload 6, 2)) (d11 : decode cL_law (pc + 23) = .ok (.ifCond .eq 7, 3)) (d12 : decode cL_law (pc + 26) = .ok (.lconst 1, 1)) (d13 : decode cL_law (pc + 27) = .ok (.goto 4, 3)) (d14 : decode cL_law (pc + 30) = .ok (.lconst 0, 1)) (d15 : decode cL_law (pc + 31) = .ok (.lcmp, 1)) (d16 : decode cL_law (pc + 32) = .ok (.ifCond .eq 5, 3)) (d17 : decode cL_law (pc + 37) = .ok (.goto off, 3)) (hoff : ((pc + 37 : Nat) : Int) + off = ((1920 : Nat) : Int)) :
    zJ Δ mL_law room_1 false sh0 zQL zQX k n pc ((5, .int kv) :: zL4 i) [.int b] c := by
  refine zJ_istore (ls2 := fun y => (6, .int y) :: (5, .int kv) :: zL4 i) d0 (by decide) (fun _ => rfl) (fun y ey => ?_)
  subst ey
  have fin : zJ Δ mL_law room_1 false sh0 zQL zQX k n (pc + 37) ((6, .int y) :: (5, .int kv) :: zL4 i) [] c := zJ_goto (tgt := 1920) d17 hoff (zJ_ls (zL4 i) (fun q hq => List.mem_cons_of_mem _ (List.mem_cons_of_mem _ hq)) (hN c U k n hC hR))
  refine zJ_aload_n d1 rfl ?_
  refine zJ_cV0 d2 sL_112 mfX9_thrown (c_Mo_thrown Δ c hC.2.1.1) hC.s100 rfl (by decide) (by decide) hb ?_
  refine zJ_iload d3 rfl ?_
  refine zJ_icmp_eq (tgt := pc + 13) d4 (by omega) (fun _ => ?_) (fun h => (h hth).elim)
  refine zJ_iload d5 rfl ?_
  refine zJ_if_ne (tgt := pc + 37) d6 (by omega) (fun _ => fin) (fun h0 => ?_)
  refine zJ_aload_n d7 rfl ?_
  refine zJ_iconst (v := 0) d8 (by decide) ?_
  refine zJ_laldN (i := 0) d9 hC.2.2.2.1.1 nI_0.symm (by decide) (by decide) (hv h0) ?_
  refine zJ_iload d10 rfl ?_
  refine zJ_if_eq (tgt := pc + 30) d11 (by omega) (fun h => ?_) (fun h => ?_)
  · refine zJ_lconst (v := 0) d14 (by decide) ?_
    exact zJ_lc_eq (tgt := pc + 37) d15 d16 (by omega) (fun _ => fin) (fun h9 => (h9 (if_pos h)).elim)
  · refine zJ_lconst (v := 1) d12 (by decide) ?_
    refine zJ_goto (tgt := pc + 31) d13 (by omega) ?_
    exact zJ_lc_eq (tgt := pc + 37) d15 d16 (by omega) (fun _ => fin) (fun h9 => (h9 (if_neg h)).elim)
theorem zLtV (hN : zNext Δ sh0 i) (hC : zKC c U) (hR : zRb c k n (i + 1)) (hb : k ≤ room_1.cells ∧ n ≤ room_1.slots) (hth : c.2.1 100 0 = kv)
    (d1 : decode cL_law pc = .ok (.aload_n 2, 1)) (d2 : decode cL_law (pc + 1) = .ok (.invokevirtual 112, 3)) (d3 : decode cL_law (pc + 4) = .ok (.iload 5, 2)) (d4 : decode cL_law (pc + 6) = .ok (.if_icmp .eq 5, 3)) (d5 : decode cL_law (pc + 11) = .ok (.goto off, 3)) (hoff : ((pc + 11 : Nat) : Int) + off = ((1920 : Nat) : Int)) :
    zJ Δ mL_law room_1 false sh0 zQL zQX k n pc ((5, .int kv) :: zL4 i) [] c := by
  refine zJ_aload_n d1 rfl ?_
  refine zJ_cV0 d2 sL_112 mfX9_thrown (c_Mo_thrown Δ c hC.2.1.1) hC.s100 rfl (by decide) (by decide) hb ?_
  refine zJ_iload d3 rfl ?_
  refine zJ_icmp_eq (tgt := pc + 11) d4 (by omega) (fun _ => ?_) (fun h => (h hth).elim)
  exact zJ_goto (tgt := 1920) d5 hoff (zJ_ls (zL4 i) (fun q hq => List.mem_cons_of_mem _ hq) (hN c U k n hC hR))
end ZTM
set_option maxRecDepth 100000 in
theorem zW_fault {Δ : zD} {sh0 : zSh} {i k n : Nat} {w : zW} {U : zTo} (hL : zscn Δ ≤ 3072) (hi : 6 * i + 6 ≤ zscn Δ) (hC : zKC w U) (hk : zRb w k n i) (hN : zNext Δ sh0 i) : zJ Δ mL_law room_1 false sh0 zQL zQX k n 309 (zL4 i) [] w := by
  have hi5 : i < 512 := by omega
  obtain ⟨k1, k2, k3, k4, k5, k6, k7, k8, k9⟩ := hC.2.2.2.2
  have hc := hk.ok hi5
  refine zJ_aload_n dL_law_309 rfl ?_
  refine zJ_cV0 dL_law_310 sL_115 mfX8_fault (c_fault Δ w hC.1.1) hC.s0 rfl (Nat.le_of_ble_eq_true rfl) (by decide) hc ?_
  refine zJ_aload_n dL_law_313 rfl ?_
  refine zJ_cV0 dL_law_314 sL_118 mfX9_fault (c_Mo_fault Δ w hC.2.1.1) hC.s100 rfl (Nat.le_of_ble_eq_true rfl) (by decide) hc ?_
  exact zLtD (tgt := 1920) hN (hC.mo zFM.t0) (hk.nx.eq rfl) k2.1 dL_law_317 (by decide)
set_option maxRecDepth 100000 in
theorem zW_judge {Δ : zD} {sh0 : zSh} {i k n : Nat} {w : zW} {U : zTo} (hL : zscn Δ ≤ 3072) (hi : 6 * i + 6 ≤ zscn Δ) (hC : zKC w U) (hk : zRb w k n i) (hN : zNext Δ sh0 i) : zJ Δ mL_law room_1 false sh0 zQL zQX k n 1058 (zL4 i) [] w := by
  have hi5 : i < 512 := by omega
  obtain ⟨k1, k2, k3, k4, k5, k6, k7, k8, k9⟩ := hC.2.2.2.2
  have hc := hk.ok hi5
  obtain ⟨nn, f, q1, q2, q3, q4, q5⟩ := k3
  refine zJ_aload_n dL_law_1058 rfl ?_
  refine zJ_cV0 dL_law_1059 sL_155 mfX8_judge (c_judge Δ w U hC.1 nn f q1 q2 (fun i hi => (q4 i hi).1) q5) hC.s0 rfl (Nat.le_of_ble_eq_true rfl) (by decide) hc ?_
  refine zJ_aload_n dL_law_1062 rfl ?_
  refine zJ_eV0 dL_law_1063 sL_158 mfX9_judge (c_Mo_judge Δ w U hC.2.1 hC.tok hC.u13 nn f ⟨q3, q1, fun i hi => ⟨(q4 i hi).2.1, (q4 i hi).2.2⟩⟩) hC.s100 rfl (Nat.le_of_ble_eq_true rfl) (by decide) hc (fun r c hq => ?_)
  obtain ⟨hf, -, rfl⟩ := hq
  exact zLtD (tgt := 1920) hN (hC.mo hf) (hk.nx.eq (by rw [hf.2.1])) rfl dL_law_1066 (by decide)
set_option maxRecDepth 100000 in
theorem zW_ended {Δ : zD} {sh0 : zSh} {i k n : Nat} {w : zW} {U : zTo} (hL : zscn Δ ≤ 3072) (hi : 6 * i + 6 ≤ zscn Δ) (hC : zKC w U) (hk : zRb w k n i) (hN : zNext Δ sh0 i) : zJ Δ mL_law room_1 false sh0 zQL zQX k n 1115 (zL4 i) [] w := by
  have hi5 : i < 512 := by omega
  obtain ⟨k1, k2, k3, k4, k5, k6, k7, k8, k9⟩ := hC.2.2.2.2
  have hc := hk.ok hi5
  obtain ⟨nn, f, q1, q2, q3, q4, q5⟩ := id k3
  obtain ⟨e, fr, ln, e1, e2, e3, e4, e5, e6⟩ := id k4
  refine zJ_aload_n dL_law_1115 rfl ?_
  refine zJ_eV0 dL_law_1116 sL_163 mfX8_ended (c_ended Δ w hC.1.1 nn e q2 q1 e2 e1) hC.s0 rfl (Nat.le_of_ble_eq_true rfl) (by decide) hc (fun r d hq => ?_)
  rcases hq with ⟨g1, rfl, hd⟩ | ⟨g1, rfl, hd⟩
  · rw [hd]
    refine zJ_aload_n dL_law_1119 rfl ?_
    refine zJ_eV0 dL_law_1120 sL_166 mfX9_ended (c_Mo_ended Δ w hC.2.1.1 nn e e1 q3 e3) hC.s100 rfl (Nat.le_of_ble_eq_true rfl) (by decide) hc (fun r c hq => ?_)
    obtain ⟨-, ⟨g2, rfl, rfl⟩ | ⟨g2, -⟩⟩ := hq
    · exact zLtD (tgt := 1920) hN (hC.mo zFM.t0) (hk.nx.eq rfl) rfl dL_law_1123 (by decide)
    · omega
  · have hhi : zHi w d := by
      rw [hd]
      exact ⟨fun _ _ => rfl, fun a j ha => ⟨by simp only [zsi, zcp]; rw [if_neg (by omega), if_neg (by omega), if_neg (by omega), if_neg (by omega)], rfl⟩⟩
    refine zJ_aload_n dL_law_1119 rfl ?_
    refine zJ_eV0 dL_law_1120 sL_166 mfX9_ended (c_Mo_ended Δ d (hC.2.1.1.hi hhi) nn e e1 ((hhi.2 100 55 (by decide)).1.trans q3) ((hhi.2 100 56 (by decide)).1.trans e3)) ((hhi.1 100 (by decide)).trans hC.s100) rfl (Nat.le_of_ble_eq_true rfl) (by decide) hc (fun r c hq => ?_)
    obtain ⟨-, ⟨g2, -⟩ | ⟨g2, rfl, hc9⟩⟩ := hq
    · omega
    · exact zLtD (tgt := 1920) hN (zfin_en hC q1 q2 e1 e2 g1 hd hc9) (hk.nx.eq (by rw [hc9, hd]; rfl)) rfl dL_law_1123 (by decide)
set_option maxRecDepth 100000 in
theorem zW_image {Δ : zD} {sh0 : zSh} {i k n : Nat} {w : zW} {U : zTo} (hL : zscn Δ ≤ 3072) (hi : 6 * i + 6 ≤ zscn Δ) (hC : zKC w U) (hk : zRb w k n i) (hN : zNext Δ sh0 i) : zJ Δ mL_law room_1 false sh0 zQL zQX k n 1894 (zL4 i) [] w := by
  have hi5 : i < 512 := by omega
  obtain ⟨k1, k2, k3, k4, k5, k6, k7, k8, k9⟩ := hC.2.2.2.2
  have hc := hk.ok hi5
  have hb : w.2.1 53 0 = 0 ∨ w.2.1 53 0 = 1 := by
    rcases k8 with ⟨wo, nn, S, h, -⟩ | h
    · exact Or.inr h.1
    · exact Or.inl h.1
  have hb9 : w.2.1 100 76 = 0 ∨ w.2.1 100 76 = 1 := by
    rcases k8 with ⟨wo, nn, S, -, h, -⟩ | h
    · exact Or.inr h
    · exact Or.inl h.2.2
  refine zJ_aload_n dL_law_1894 rfl ?_
  refine zJ_eV0 dL_law_1895 sL_205 mfX8_image (zM.typed (c_image Δ w hC.1.1 hb)) hC.s0 rfl (Nat.le_of_ble_eq_true rfl) (by decide) hc (fun r d hq => ?_)
  obtain ⟨hty, hq⟩ := hq
  obtain ⟨a, rfl⟩ := hty.1 (Or.inr rfl)
  have hhi : zHi w d := by
    rcases hq with ⟨-, -, rfl⟩ | ⟨-, -, rfl⟩
    · exact zHi.rf _
    · exact ⟨fun _ _ => rfl, fun a j ha => ⟨zwcp_o (by omega), rfl⟩⟩
  refine zJ_aload_n dL_law_1898 rfl ?_
  refine zJ_eV0 dL_law_1899 sL_209 mfX9_image (zM.typed (c_Mo_image Δ d (hC.2.1.1.hi hhi) (by rw [(hhi.2 100 76 (by decide)).1]; exact hb9))) ((hhi.1 100 (by decide)).trans hC.s100) rfl (Nat.le_of_ble_eq_true rfl) (by decide) hc (fun r2 c hq2 => ?_)
  obtain ⟨hty2, -, hq2⟩ := hq2
  obtain ⟨b, rfl⟩ := hty2.1 (Or.inr rfl)
  obtain ⟨he, hc2, h8⟩ := zfin_im hC hq hq2
  simp only [Option.some.injEq, Value.int.injEq] at he
  exact zLtD (tgt := 1920) hN hc2 (hk.nx.eq h8) he dL_law_1902 (by decide)
set_option maxRecDepth 100000 in
theorem zW_restore {Δ : zD} {sh0 : zSh} {i k n : Nat} {w : zW} {U : zTo} (hL : zscn Δ ≤ 3072) (hi : 6 * i + 6 ≤ zscn Δ) (hC : zKC w U) (hk : zRb w k n i) (hN : zNext Δ sh0 i) : zJ Δ mL_law room_1 false sh0 zQL zQX k n 1907 (zL4 i) [] w := by
  have hi5 : i < 512 := by omega
  obtain ⟨k1, k2, k3, k4, k5, k6, k7, k8, k9⟩ := hC.2.2.2.2
  have hc := hk.ok hi5
  have hb : w.2.1 57 0 = 0 ∨ w.2.1 57 0 = 1 := by
    rcases k9 with ⟨wo, nn, S, h, -⟩ | h
    · exact Or.inr h.1
    · exact Or.inl h.1
  have hb9 : w.2.1 100 77 = 0 ∨ w.2.1 100 77 = 1 := by
    rcases k9 with ⟨wo, nn, S, -, h, -⟩ | h
    · exact Or.inr h
    · exact Or.inl h.2.2
  refine zJ_aload_n dL_law_1907 rfl ?_
  refine zJ_eV0 dL_law_1908 sL_210 mfX8_restore (zM.typed (c_restore Δ w hC.1.1 hb)) hC.s0 rfl (Nat.le_of_ble_eq_true rfl) (by decide) hc (fun r d hq => ?_)
  obtain ⟨hty, hq⟩ := hq
  obtain ⟨a, rfl⟩ := hty.1 (Or.inr rfl)
  have hhi : zHi w d := by
    rcases hq with ⟨-, -, rfl⟩ | ⟨-, -, rfl⟩
    · exact zHi.rf _
    · exact ⟨fun _ _ => rfl, fun a j ha => ⟨zwcp_o (by omega), rfl⟩⟩
  refine zJ_aload_n dL_law_1911 rfl ?_
  refine zJ_eV0 dL_law_1912 sL_213 mfX9_restore (zM.typed (c_Mo_restore Δ d (hC.2.1.1.hi hhi) (by rw [(hhi.2 100 77 (by decide)).1]; exact hb9))) ((hhi.1 100 (by decide)).trans hC.s100) rfl (Nat.le_of_ble_eq_true rfl) (by decide) hc (fun r2 c hq2 => ?_)
  obtain ⟨hty2, -, hq2⟩ := hq2
  obtain ⟨b, rfl⟩ := hty2.1 (Or.inr rfl)
  obtain ⟨he, hc2, h8⟩ := zfin_re hC hq hq2
  simp only [Option.some.injEq, Value.int.injEq] at he
  exact zLtD (tgt := 1920) hN hc2 (hk.nx.eq h8) he dL_law_1915 (by decide)
set_option maxRecDepth 100000 in
theorem zW_feed {Δ : zD} {sh0 : zSh} {i k n : Nat} {w : zW} {U : zTo} (hL : zscn Δ ≤ 3072) (hi : 6 * i + 6 ≤ zscn Δ) (hC : zKC w U) (hk : zRb w k n i) (hN : zNext Δ sh0 i) : zJ Δ mL_law room_1 false sh0 zQL zQX k n 180 (zL4 i) [] w := by
  have hi5 : i < 512 := by omega
  obtain ⟨k1, k2, k3, k4, k5, k6, k7, k8, k9⟩ := hC.2.2.2.2
  have hc := hk.ok hi5
  obtain ⟨len, tx, t1, t2, t3, t4⟩ := id k1
  refine zJ_aload_n dL_law_180 rfl ?_
  refine zJ_scr (j := 1) dL_law_181 dL_law_182 dL_law_184 (by decide) dL_law_185 dL_law_186 rfl rfl (by omega) hL ?_
  refine zJ_scr (j := 2) dL_law_187 dL_law_188 dL_law_190 (by decide) dL_law_191 dL_law_192 rfl rfl (by omega) hL ?_
  refine zJ_scr (j := 3) dL_law_193 dL_law_194 dL_law_196 (by decide) dL_law_197 dL_law_198 rfl rfl (by omega) hL ?_
  refine zJ_scr (j := 4) dL_law_199 dL_law_200 dL_law_202 (by decide) dL_law_203 dL_law_204 rfl rfl (by omega) hL ?_
  refine zJ_scr (j := 5) dL_law_205 dL_law_206 dL_law_208 (by decide) dL_law_209 dL_law_210 rfl rfl (by omega) hL ?_
  refine zJ_eV5 dL_law_211 sL_101 mfX8_feed (c_feed Δ w hC.1.1 (zscv Δ (6 * i + 1)) (zscv Δ (6 * i + 2)) (zscv Δ (6 * i + 3)) (zscv Δ (6 * i + 4)) (zscv Δ (6 * i + 5)) len t1 t2) hC.s0 rfl (Nat.le_of_ble_eq_true rfl) (by decide) hc (fun r d hq => ?_)
  rcases hq with ⟨g1, rfl, hd⟩ | ⟨g1, rfl, hd⟩
  · rw [hd]
    refine zJ_aload_n dL_law_214 rfl ?_
    refine zJ_scr (j := 1) dL_law_215 dL_law_216 dL_law_218 (by decide) dL_law_219 dL_law_220 rfl rfl (by omega) hL ?_
    refine zJ_scr (j := 2) dL_law_221 dL_law_222 dL_law_224 (by decide) dL_law_225 dL_law_226 rfl rfl (by omega) hL ?_
    refine zJ_scr (j := 3) dL_law_227 dL_law_228 dL_law_230 (by decide) dL_law_231 dL_law_232 rfl rfl (by omega) hL ?_
    refine zJ_scr (j := 4) dL_law_233 dL_law_234 dL_law_236 (by decide) dL_law_237 dL_law_238 rfl rfl (by omega) hL ?_
    refine zJ_scr (j := 5) dL_law_239 dL_law_240 dL_law_242 (by decide) dL_law_243 dL_law_244 rfl rfl (by omega) hL ?_
    refine zJ_eV5 dL_law_245 sL_105 mfX9_feed (c_Mo_feed Δ w hC.2.1.1 (zscv Δ (6 * i + 1)) (zscv Δ (6 * i + 2)) (zscv Δ (6 * i + 3)) (zscv Δ (6 * i + 4)) (zscv Δ (6 * i + 5)) len t1 t3) hC.s100 rfl (Nat.le_of_ble_eq_true rfl) (by decide) hc (fun r c hq => ?_)
    rcases hq with ⟨-, rfl, rfl⟩ | ⟨g2, -⟩
    · exact zLtD (tgt := 1920) hN (hC.mo zFM.t0) (hk.nx.eq rfl) rfl dL_law_248 (by decide)
    · omega
  · have hs1 : d.1 = w.1 := by rw [hd, zp5_12.1]
    have hs2 : d.2.2 = w.2.2 := by rw [hd, zp5_12.2]
    refine zJ_aload_n dL_law_214 rfl ?_
    refine zJ_scr (j := 1) dL_law_215 dL_law_216 dL_law_218 (by decide) dL_law_219 dL_law_220 rfl rfl (by omega) hL ?_
    refine zJ_scr (j := 2) dL_law_221 dL_law_222 dL_law_224 (by decide) dL_law_225 dL_law_226 rfl rfl (by omega) hL ?_
    refine zJ_scr (j := 3) dL_law_227 dL_law_228 dL_law_230 (by decide) dL_law_231 dL_law_232 rfl rfl (by omega) hL ?_
    refine zJ_scr (j := 4) dL_law_233 dL_law_234 dL_law_236 (by decide) dL_law_237 dL_law_238 rfl rfl (by omega) hL ?_
    refine zJ_scr (j := 5) dL_law_239 dL_law_240 dL_law_242 (by decide) dL_law_243 dL_law_244 rfl rfl (by omega) hL ?_
    refine zJ_eV5 dL_law_245 sL_105 mfX9_feed (c_Mo_feed Δ d (hC.2.1.1.fr hs1 (congrArg Prod.snd hs2)) (zscv Δ (6 * i + 1)) (zscv Δ (6 * i + 2)) (zscv Δ (6 * i + 3)) (zscv Δ (6 * i + 4)) (zscv Δ (6 * i + 5)) len t1 (by rw [hd, zp5_ne (by decide) (by decide)]; exact t3)) (by rw [hs1]; exact hC.s100) rfl (Nat.le_of_ble_eq_true rfl) (by decide) hc (fun r c hq => ?_)
    rcases hq with ⟨g2, -⟩ | ⟨-, rfl, hc9⟩
    · omega
    · rw [hd] at hc9
      exact zLtD (tgt := 1920) hN (zfe_ok hC g1 t2 hc9) (hk.nx.eq (by rw [hc9, zp5_12.2, zsi_12.2, zp5_12.2])) rfl dL_law_248 (by decide)
