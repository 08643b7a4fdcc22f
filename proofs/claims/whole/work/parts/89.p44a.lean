/-! the law: its script, its locals, its tails -/
abbrev mL_law : zMI := (RL, cL_law, 8, some .boolean, [], false)
abbrev zL4 (i : Nat) : List (Nat × Value) := [(4, .int (nI (6 * i))), (3, .ref 190), (2, .ref 100), (1, .ref 0), (0, .ref (1000 + 3000))]
def zQL : Option Value → zW → Prop := fun r _ => r = some (.int 1)
def zQX : String → zW → Prop := fun _ _ => False
/-- the room that i calls have left -/
def zRb (w : zW) (k n i : Nat) : Prop := k ≤ 1000 + 100 * i ∧ n ≤ 1400000 + 600 * i ∧ (w.2.2.2 0 8 = none → k + 200 ≤ 1000 + 100 * i ∧ n + 600000 ≤ 1400000 + 600 * i)
theorem zRb.eq {w d : zW} {k n i : Nat} (h : zRb w k n i) (e : d.2.2.2 0 8 = w.2.2.2 0 8) : zRb d k n i := ⟨h.1, h.2.1, fun h9 => h.2.2 (e.symm.trans h9)⟩
theorem zLw.rf (w : zW) {b : Prop} (hb : ¬ b) : zLw w w b := fun h => h.elim (fun h => h) (fun h => (hb h).elim)
theorem zLw.s {w d : zW} {b b2 : Prop} (h : zLw w d b) (hb : b2 → b) : zLw w d b2 := fun h9 => h (h9.imp (fun h => h) hb)
theorem zLw.y {w d : zW} {b : Prop} (h : d.2.2.2 0 8 = some 61) : zLw w d b := fun _ => h
theorem zLw.q {w d : zW} (h : d.2.2.2 0 8 = w.2.2.2 0 8) : zLw w d False := fun h9 => h9.elim (fun h9 => h.trans h9) (fun h9 => h9.elim)
theorem zroom {w : zW} {k n i : Nat} (hB : w.2.2.2 0 8 = none ∨ w.2.2.2 0 8 = some 61) (hk : zRb w k n i) (hi : i < 512) (big : Prop) : ∃ mc ms, zRo w big mc ms ∧ (k + mc ≤ room_1.cells ∧ n + ms ≤ room_1.slots) ∧ ∀ d, zLw w d big → zRb d (k + mc) (n + ms) (i + 1) := by
  obtain ⟨h1, h2, h3⟩ := hk
  by_cases h : big ∧ w.2.2.2 0 8 = none
  · have h4 := h3 h.2
    refine ⟨300, 600600, ⟨⟨by omega, by omega⟩, fun _ _ => ⟨by omega, by omega⟩⟩, ⟨by show k + 300 ≤ 601024; omega, by show n + 600600 ≤ 7293034; omega⟩, fun d hd => ⟨by omega, by omega, fun h9 => ?_⟩⟩
    rw [hd (Or.inr h.1)] at h9; cases h9
  · refine ⟨100, 600, ⟨⟨by omega, by omega⟩, fun h8 h9 => (h ⟨h8, h9⟩).elim⟩, ⟨by show k + 100 ≤ 601024; omega, by show n + 600 ≤ 7293034; omega⟩, fun d hd => ⟨by omega, by omega, fun h9 => ?_⟩⟩
    rcases hB with h8 | h8
    · have := h3 h8; omega
    · rw [hd (Or.inl h8)] at h9; cases h9
theorem zroom0 {w : zW} {k n i : Nat} (hB : w.2.2.2 0 8 = none ∨ w.2.2.2 0 8 = some 61) (hk : zRb w k n i) (hi : i < 512) {mc ms : Nat} (hm : mc ≤ 100 ∧ ms ≤ 600) : (k + mc ≤ room_1.cells ∧ n + ms ≤ room_1.slots) ∧ ∀ d, zLw w d False → zRb d (k + mc) (n + ms) (i + 1) := by
  obtain ⟨h1, h2, h3⟩ := hk
  refine ⟨⟨by show k + mc ≤ 601024; omega, by show n + ms ≤ 7293034; omega⟩, fun d hd => ⟨by omega, by omega, fun h9 => ?_⟩⟩
  rcases hB with h8 | h8
  · have := h3 h8; omega
  · rw [hd (Or.inl h8)] at h9; cases h9
section ZQ
variable {Δ : zD} {M : zMI} {R : Room} {fx : Bool} {sh0 : zSh} {QR : Option Value → zW → Prop} {QX : String → zW → Prop} {k n pc : Nat} {ls : List (Nat × Value)} {st : List Value} {w : zW}
theorem zJ_scl (hd : decode M.2.1 pc = .ok (.arraylength, 1)) (kk : zJ Δ M R fx sh0 QR QX k n (pc + 1) ls (.int (nI (zscn Δ)) :: st) w) : zJ Δ M R fx sh0 QR QX k n pc ls (.ref (1000 + 3000) :: st) w := by
  intro p l e s m args below meth c H locs ρ0 ρ ls' C G r S L
  have hE := C.2.2.2.2.2.2.2.2.2.2.1
  rw [List.map_cons, show zv ρ (.ref (1000 + 3000)) = .ref (zsa Δ 3000) from congrArg Value.ref (r.2.2.2.2.2.2.1 3000)]
  exact va_tlen C.1 C.2.1 hE.2.2.2.2.2 S rfl hd (kk p l e s m args below meth c H locs ρ0 ρ ls' C G r S L)
theorem zJ_scd {x : Int32} (hx : vp_in x (zscn Δ)) (hd : decode M.2.1 pc = .ok (.iaload, 1)) (kk : zJ Δ M R fx sh0 QR QX k n (pc + 1) ls (.int (zscv Δ x.toNatClampNeg) :: st) w) : zJ Δ M R fx sh0 QR QX k n pc ls (.int x :: .ref (1000 + 3000) :: st) w := by
  intro p l e s m args below meth c H locs ρ0 ρ ls' C G r S L
  have hE := C.2.2.2.2.2.2.2.2.2.2.1
  rw [List.map_cons, List.map_cons, show zv ρ (.ref (1000 + 3000)) = .ref (zsa Δ 3000) from congrArg Value.ref (r.2.2.2.2.2.2.1 3000)]
  exact va_ti C.1 C.2.1 hE.2.2.2.2.2 S hx rfl hd (kk p l e s m args below meth c H locs ρ0 ρ ls' C G r S L)
/-- the script's number i + j is loaded -/
theorem zJ_scr {i j : Nat} {jj : Int} (d0 : decode M.2.1 pc = .ok (.aload_n 0, 1)) (d1 : decode M.2.1 (pc + 1) = .ok (.iload 4, 2)) (d2 : decode M.2.1 (pc + 3) = .ok (.iconst jj, 1)) (hj : Int32.ofInt jj = nI j) (d3 : decode M.2.1 (pc + 4) = .ok (.iadd, 1)) (d4 : decode M.2.1 (pc + 5) = .ok (.iaload, 1)) (l0 : ls.lookup 0 = some (.ref (1000 + 3000))) (l4 : ls.lookup 4 = some (.int (nI i))) (hi : i + j < zscn Δ) (hL : zscn Δ ≤ 3072) (kk : zJ Δ M R fx sh0 QR QX k n (pc + 6) ls (.int (zscv Δ (i + j)) :: st) w) : zJ Δ M R fx sh0 QR QX k n pc ls st w := by
  refine zJ_aload_n d0 l0 ?_
  refine zJ_iload d1 l4 ?_
  refine zJ_iconst (v := nI j) d2 hj ?_
  refine zJ_iadd d3 ?_
  rw [na_add]
  refine zJ_scd (vp_in_nI hi (by omega)) d4 ?_
  rw [nI_clamp (by omega)]
  exact kk
/-- it is no 0 -/
theorem zJ_scb {i j : Nat} {jj : Int} (d0 : decode M.2.1 pc = .ok (.aload_n 0, 1)) (d1 : decode M.2.1 (pc + 1) = .ok (.iload 4, 2)) (d2 : decode M.2.1 (pc + 3) = .ok (.iconst jj, 1)) (hj : Int32.ofInt jj = nI j) (d3 : decode M.2.1 (pc + 4) = .ok (.iadd, 1)) (d4 : decode M.2.1 (pc + 5) = .ok (.iaload, 1)) (d5 : decode M.2.1 (pc + 6) = .ok (.ifCond .eq 7, 3)) (d6 : decode M.2.1 (pc + 9) = .ok (.iconst 1, 1)) (d7 : decode M.2.1 (pc + 10) = .ok (.goto 4, 3)) (d8 : decode M.2.1 (pc + 13) = .ok (.iconst 0, 1)) (l0 : ls.lookup 0 = some (.ref (1000 + 3000))) (l4 : ls.lookup 4 = some (.int (nI i))) (hi : i + j < zscn Δ) (hL : zscn Δ ≤ 3072) (kk : zJ Δ M R fx sh0 QR QX k n (pc + 14) ls (.int (if zscv Δ (i + j) = 0 then 0 else 1) :: st) w) : zJ Δ M R fx sh0 QR QX k n pc ls st w := by
  refine zJ_scr d0 d1 d2 hj d3 d4 l0 l4 hi hL ?_
  refine zJ_if_eq (tgt := pc + 13) d5 (by omega) (fun h => ?_) (fun h => ?_)
  · rw [if_pos h] at kk
    exact zJ_iconst (v := 0) d8 (by decide) kk
  · rw [if_neg h] at kk
    refine zJ_iconst (v := 1) d6 (by decide) ?_
    exact zJ_goto (tgt := pc + 14) d7 (by omega) kk
end ZQ
/-- behind a call of each the loop goes on -/
def zNext (Δ : zD) (sh0 : zSh) (i : Nat) : Prop := ∀ (c : zW) (U : zTo) (k n : Nat), zKC c U → zRb c k n (i + 1) → zJ Δ mL_law room_1 false sh0 zQL zQX k n 1920 (zL4 i) [] c
theorem zKC.s0 {w : zW} {U : zTo} (h : zKC w U) : w.1 0 = some (.inl 8) := h.1.1.1 0 (by decide)
theorem zKC.s100 {w : zW} {U : zTo} (h : zKC w U) : w.1 100 = some (.inl 9) := h.2.1.1.1 0 (by decide)
theorem zL4_ok {w : zW} {i : Nat} (h0 : w.1 0 = some (.inl 8)) (h1 : w.1 100 = some (.inl 9)) (h2 : w.1 190 = some (.inr (true, 1))) : ([] : List Value).all (zokv w) = true ∧ (zL4 i).all (fun q => zokv w q.2) = true := ⟨rfl, by simp [zokv, h0, h1, h2]⟩
section ZTL
variable {Δ : zD} {sh0 : zSh} {i k n pc : Nat} {kv : Int32} {c : zW} {U : zTo} {off : Int}
theorem zLtI {b : Int32} (hN : zNext Δ sh0 i) (hC : zKC c U) (hR : zRb c k n (i + 1)) (hb : k ≤ room_1.cells ∧ n ≤ room_1.slots) (hth : c.2.1 100 0 = kv) (hv : kv = 0 → c.2.2.1 190 0 = b.toInt64)
    (d0 : decode cL_law pc = .ok (.istore 6, 2)) (d1 : decode cL_law (pc + 2) = .ok (.aload_n 2, 1)) (d2 : decode cL_law (pc + 3) = .ok (.invokevirtual 112, 3)) (d3 : decode cL_law (pc + 6) = .ok (.iload 5, 2)) (d4 : decode cL_law (pc + 8) = .ok (.if_icmp .eq 5, 3)) (d5 : decode cL_law (pc + 13) = .ok (.iload 5, 2)) (d6 : decode cL_law (pc + 15) = .ok (.ifCond .ne 15, 3)) (d7 : decode cL_law (pc + 18) = .ok (.aload_n 3, 1)) (d8 : decode cL_law (pc + 19) = .ok (.iconst 0, 1)) (d9 : decode cL_law (pc + 20) = .ok (.laload, 1)) (d10 : decode cL_law (pc + 21) = .ok (.iload 6, 2)) (d11 : decode cL_law (pc + 23) = .ok (.i2l, 1)) (d12 : decode cL_law (pc + 24) = .ok (.lcmp, 1)) (d13 : decode cL_law (pc + 25) = .ok (.ifCond .eq 5, 3)) (d14 : decode cL_law (pc + 30) = .ok (.goto off, 3)) (hoff : ((pc + 30 : Nat) : Int) + off = ((1920 : Nat) : Int)) :
    zJ Δ mL_law room_1 false sh0 zQL zQX k n pc ((5, .int kv) :: zL4 i) [.int b] c := by
  refine zJ_istore (ls2 := fun y => (6, .int y) :: (5, .int kv) :: zL4 i) d0 (by decide) (fun _ => rfl) (fun y ey => ?_)
  subst ey
  have fin : zJ Δ mL_law room_1 false sh0 zQL zQX k n (pc + 30) ((6, .int y) :: (5, .int kv) :: zL4 i) [] c := zJ_goto (tgt := 1920) d14 hoff (zJ_ls (zL4 i) (fun q hq => List.mem_cons_of_mem _ (List.mem_cons_of_mem _ hq)) (hN c U k n hC hR))
  refine zJ_aload_n d1 rfl ?_
  refine zJ_cV0 d2 sL_112 mfX9_thrown (c_Mo_thrown Δ c hC.2.1.1) hC.s100 rfl (by decide) (by decide) hb ?_
  refine zJ_iload d3 rfl ?_
  refine zJ_icmp_eq (tgt := pc + 13) d4 (by omega) (fun _ => ?_) (fun h => (h hth).elim)
  refine zJ_iload d5 rfl ?_
  refine zJ_if_ne (tgt := pc + 30) d6 (by omega) (fun _ => fin) (fun h0 => ?_)
  refine zJ_aload_n d7 rfl ?_
  refine zJ_iconst (v := 0) d8 (by decide) ?_
  refine zJ_laldN (i := 0) d9 hC.2.2.2.1.1 nI_0.symm (by decide) (by decide) (hv h0) ?_
  refine zJ_iload d10 rfl ?_
  refine zJ_i2l d11 ?_
  exact zJ_lc_eq (tgt := pc + 30) d12 d13 (by omega) (fun _ => fin) (fun h => (h rfl).elim)
theorem zLtL {b : Int64} (hN : zNext Δ sh0 i) (hC : zKC c U) (hR : zRb c k n (i + 1)) (hb : k ≤ room_1.cells ∧ n ≤ room_1.slots) (hth : c.2.1 100 0 = kv) (hv : kv = 0 → c.2.2.1 190 0 = b)
    (d0 : decode cL_law pc = .ok (.lstore 6, 2)) (d1 : decode cL_law (pc + 2) = .ok (.aload_n 2, 1)) (d2 : decode cL_law (pc + 3) = .ok (.invokevirtual 112, 3)) (d3 : decode cL_law (pc + 6) = .ok (.iload 5, 2)) (d4 : decode cL_law (pc + 8) = .ok (.if_icmp .eq 5, 3)) (d5 : decode cL_law (pc + 13) = .ok (.iload 5, 2)) (d6 : decode cL_law (pc + 15) = .ok (.ifCond .ne 14, 3)) (d7 : decode cL_law (pc + 18) = .ok (.aload_n 3, 1)) (d8 : decode cL_law (pc + 19) = .ok (.iconst 0, 1)) (d9 : decode cL_law (pc + 20) = .ok (.laload, 1)) (d10 : decode cL_law (pc + 21) = .ok (.lload 6, 2)) (d12 : decode cL_law (pc + 23) = .ok (.lcmp, 1)) (d13 : decode cL_law (pc + 24) = .ok (.ifCond .eq 5, 3)) (d14 : decode cL_law (pc + 29) = .ok (.goto off, 3)) (hoff : ((pc + 29 : Nat) : Int) + off = ((1920 : Nat) : Int)) :
    zJ Δ mL_law room_1 false sh0 zQL zQX k n pc ((5, .int kv) :: zL4 i) [.long b] c := by
  refine zJ_lstore (ls2 := fun y => (6, .long y) :: (5, .int kv) :: zL4 i) d0 (by decide) (fun _ => rfl) (fun y ey => ?_)
  subst ey
  have fin : zJ Δ mL_law room_1 false sh0 zQL zQX k n (pc + 29) ((6, .long y) :: (5, .int kv) :: zL4 i) [] c := zJ_goto (tgt := 1920) d14 hoff (zJ_ls (zL4 i) (fun q hq => List.mem_cons_of_mem _ (List.mem_cons_of_mem _ hq)) (hN c U k n hC hR))
  refine zJ_aload_n d1 rfl ?_
  refine zJ_cV0 d2 sL_112 mfX9_thrown (c_Mo_thrown Δ c hC.2.1.1) hC.s100 rfl (by decide) (by decide) hb ?_
  refine zJ_iload d3 rfl ?_
  refine zJ_icmp_eq (tgt := pc + 13) d4 (by omega) (fun _ => ?_) (fun h => (h hth).elim)
  refine zJ_iload d5 rfl ?_
  refine zJ_if_ne (tgt := pc + 29) d6 (by omega) (fun _ => fin) (fun h0 => ?_)
  refine zJ_aload_n d7 rfl ?_
  refine zJ_iconst (v := 0) d8 (by decide) ?_
  refine zJ_laldN (i := 0) d9 hC.2.2.2.1.1 nI_0.symm (by decide) (by decide) (hv h0) ?_
  refine zJ_lload d10 rfl ?_
  exact zJ_lc_eq (tgt := pc + 29) d12 d13 (by omega) (fun _ => fin) (fun h => (h rfl).elim)
/-- without a helper: two answers that are the same -/
theorem zLtD {a b : Int32} {tgt : Nat} (hN : zNext Δ sh0 i) (hC : zKC c U) (hR : zRb c k n (i + 1)) (he : a = b) (d0 : decode cL_law pc = .ok (.if_icmp .eq off, 3)) (hoff : (pc : Int) + off = ((1920 : Nat) : Int)) : zJ Δ mL_law room_1 false sh0 zQL zQX k n pc (zL4 i) [.int b, .int a] c :=
  zJ_icmp_eq (tgt := 1920) d0 hoff (fun _ => hN c U k n hC hR) (fun h => (h he).elim)
end ZTL
/-! a call that asks: what the class answers, what its model answers -/
def zEx (X1 X2 : Prop) (V : Option Value → Prop) : Prop := ¬ (X1 ∧ X2) ∧ (∀ r, V r → ¬ X1 ∧ ¬ X2) ∧ ∀ r s, V r → V s → r = s
def zNA (w : zW) (U : zTo) (big : Prop) (V : Option Value → Prop) : Option Value → zW → Prop := fun r c => (zKC c U ∧ zHi w c ∧ zLw w c big) ∧ V r
def zNX2 (w : zW) (U : zTo) (big X1 X2 : Prop) : String → zW → Prop := fun E c => (zKC c U ∧ zHi w c ∧ zLw w c big) ∧ ((E = zNS ∧ X1) ∨ (E = "java/lang/IllegalArgumentException" ∧ X2))
def zNX1 (E0 : String) (w : zW) (U : zTo) (big X1 : Prop) : String → zW → Prop := fun E c => (zKC c U ∧ zHi w c ∧ zLw w c big) ∧ E = E0 ∧ X1
def zNB (d : zW) (U : zTo) (X1 X2 : Prop) (V : Option Value → Prop) : Option Value → zW → Prop := fun r c => zKC c U ∧ (c.2.2.2 0 8 = d.2.2.2 0 8 ∧ c.2.2.1 190 0 = d.2.2.1 190 0) ∧ ((X1 ∧ c.2.1 100 0 = 1) ∨ (X2 ∧ c.2.1 100 0 = 2) ∨ (V r ∧ c.2.1 100 0 = 0))
section ZN
variable {M : zMI} {w d c : zW} {U : zTo} {big X1 X2 : Prop} {V : Option Value → Prop} {r : Option Value} {E0 : String} {kv : Int32}
theorem zNB.of (hco : zKC d U) (hf : zFM zScr d c) (h : (X1 ∧ c.2.1 100 0 = 1) ∨ (X2 ∧ c.2.1 100 0 = 2) ∨ (V r ∧ c.2.1 100 0 = 0)) : zNB d U X1 X2 V r c := ⟨hco.mo hf, ⟨by rw [hf.2.1], (hf.lo (Or.inr (by decide)) (by decide)).2⟩, h⟩
theorem zqRi (hM : M.2.2.2.1 = some .int) : ∀ r c, zQt M (zNA w U big V) r c → ∃ v, r = some (.int v) ∧ c.1 190 = some (.inr (true, 1)) := fun r c h => by
  obtain ⟨v, hv⟩ := h.1.1 (Or.inl hM)
  exact ⟨v, hv, h.2.1.1.2.2.2.1.1⟩
theorem zqRl (hM : M.2.2.2.1 = some .long) : ∀ r c, zQt M (zNA w U big V) r c → ∃ v, r = some (.long v) ∧ c.1 190 = some (.inr (true, 1)) := fun r c h => by
  obtain ⟨v, hv⟩ := h.1.2 hM
  exact ⟨v, hv, h.2.1.1.2.2.2.1.1⟩
theorem zqX2 : ∀ E c, zNX2 w U big X1 X2 E c → c.1 191 = none ∧ (E = zNS ∨ E = "java/lang/IllegalArgumentException") := fun E c h => ⟨h.1.1.2.2.2.1.2, h.2.imp (fun h => h.1) (fun h => h.1)⟩
theorem zqX1 : ∀ E c, zNX1 E0 w U big X1 E c → c.1 191 = none ∧ (E = E0) := fun E c h => ⟨h.1.1.2.2.2.1.2, h.2.1⟩
theorem zNS_ne : ¬ zNS = "java/lang/IllegalArgumentException" := by decide
theorem zq2i (hq : (∃ v c, zQt M (zNA w U big V) (some (.int v)) c ∧ r = some (.int 0) ∧ d = zsl c 190 0 v.toInt64) ∨ (∃ E, zNX2 w U big X1 X2 E d ∧ ((E = zNS ∧ r = some (.int 1)) ∨ (E = "java/lang/IllegalArgumentException" ∧ r = some (.int 2))))) : ∃ kv, r = some (.int kv) ∧ zKC d U ∧ zHi w d ∧ zLw w d big ∧ ((kv = 1 ∧ X1) ∨ (kv = 2 ∧ X2) ∨ (kv = 0 ∧ ∃ v, V (some (.int v)) ∧ d.2.2.1 190 0 = v.toInt64)) := by
  rcases hq with ⟨v, c, ⟨-, ⟨h1, h2, h3⟩, h4⟩, rfl, rfl⟩ | ⟨E, ⟨⟨h1, h2, h3⟩, h4⟩, h5⟩
  · exact ⟨0, rfl, h1.l _, h2.tr zHi.l, h3, Or.inr (Or.inr ⟨rfl, v, h4, by simp [zsl]⟩)⟩
  · rcases h5 with ⟨e1, rfl⟩ | ⟨e1, rfl⟩
    · rcases h4 with ⟨e2, h6⟩ | ⟨e2, h6⟩
      · exact ⟨1, rfl, h1, h2, h3, Or.inl ⟨rfl, h6⟩⟩
      · exact (zNS_ne (e1.symm.trans e2)).elim
    · rcases h4 with ⟨e2, h6⟩ | ⟨e2, h6⟩
      · exact (zNS_ne (e2.symm.trans e1)).elim
      · exact ⟨2, rfl, h1, h2, h3, Or.inr (Or.inl ⟨rfl, h6⟩)⟩
theorem zq2l (hq : (∃ v c, zQt M (zNA w U big V) (some (.long v)) c ∧ r = some (.int 0) ∧ d = zsl c 190 0 v) ∨ (∃ E, zNX2 w U big X1 X2 E d ∧ ((E = zNS ∧ r = some (.int 1)) ∨ (E = "java/lang/IllegalArgumentException" ∧ r = some (.int 2))))) : ∃ kv, r = some (.int kv) ∧ zKC d U ∧ zHi w d ∧ zLw w d big ∧ ((kv = 1 ∧ X1) ∨ (kv = 2 ∧ X2) ∨ (kv = 0 ∧ ∃ v, V (some (.long v)) ∧ d.2.2.1 190 0 = v)) := by
  rcases hq with ⟨v, c, ⟨-, ⟨h1, h2, h3⟩, h4⟩, rfl, rfl⟩ | ⟨E, ⟨⟨h1, h2, h3⟩, h4⟩, h5⟩
  · exact ⟨0, rfl, h1.l _, h2.tr zHi.l, h3, Or.inr (Or.inr ⟨rfl, v, h4, by simp [zsl]⟩)⟩
  · rcases h5 with ⟨e1, rfl⟩ | ⟨e1, rfl⟩
    · rcases h4 with ⟨e2, h6⟩ | ⟨e2, h6⟩
      · exact ⟨1, rfl, h1, h2, h3, Or.inl ⟨rfl, h6⟩⟩
      · exact (zNS_ne (e1.symm.trans e2)).elim
    · rcases h4 with ⟨e2, h6⟩ | ⟨e2, h6⟩
      · exact (zNS_ne (e2.symm.trans e1)).elim
      · exact ⟨2, rfl, h1, h2, h3, Or.inr (Or.inl ⟨rfl, h6⟩)⟩
theorem zq1i (hq : (∃ v c, zQt M (zNA w U big V) (some (.int v)) c ∧ r = some (.int 0) ∧ d = zsl c 190 0 v.toInt64) ∨ (∃ E, zNX1 E0 w U big X1 E d ∧ (E = E0 ∧ r = some (.int 1)))) : ∃ kv, r = some (.int kv) ∧ zKC d U ∧ zHi w d ∧ zLw w d big ∧ ((kv = 1 ∧ X1) ∨ (kv = 2 ∧ False) ∨ (kv = 0 ∧ ∃ v, V (some (.int v)) ∧ d.2.2.1 190 0 = v.toInt64)) := by
  rcases hq with ⟨v, c, ⟨-, ⟨h1, h2, h3⟩, h4⟩, rfl, rfl⟩ | ⟨E, ⟨⟨h1, h2, h3⟩, -, h4⟩, -, rfl⟩
  · exact ⟨0, rfl, h1.l _, h2.tr zHi.l, h3, Or.inr (Or.inr ⟨rfl, v, h4, by simp [zsl]⟩)⟩
  · exact ⟨1, rfl, h1, h2, h3, Or.inl ⟨rfl, h4⟩⟩
theorem zqBi {b : Int32} (hE : zEx X1 X2 V) (hres : (kv = 1 ∧ X1) ∨ (kv = 2 ∧ X2) ∨ (kv = 0 ∧ ∃ v, V (some (.int v)) ∧ d.2.2.1 190 0 = v.toInt64)) (hq : zNB d U X1 X2 V (some (.int b)) c) : c.2.1 100 0 = kv ∧ (kv = 0 → c.2.2.1 190 0 = b.toInt64) := by
  obtain ⟨-, ⟨-, h190⟩, h⟩ := hq
  obtain ⟨e1, e2, e3⟩ := hE
  rcases hres with ⟨rfl, h1⟩ | ⟨rfl, h1⟩ | ⟨rfl, v, h1, h2⟩
  · rcases h with ⟨-, h⟩ | ⟨h, -⟩ | ⟨h, -⟩
    · exact ⟨h, fun h9 => absurd h9 (by decide)⟩
    · exact (e1 ⟨h1, h⟩).elim
    · exact ((e2 _ h).1 h1).elim
  · rcases h with ⟨h, -⟩ | ⟨-, h⟩ | ⟨h, -⟩
    · exact (e1 ⟨h, h1⟩).elim
    · exact ⟨h, fun h9 => absurd h9 (by decide)⟩
    · exact ((e2 _ h).2 h1).elim
  · rcases h with ⟨h, -⟩ | ⟨h, -⟩ | ⟨h, h0⟩
    · exact ((e2 _ h1).1 h).elim
    · exact ((e2 _ h1).2 h).elim
    · have := e3 _ _ h1 h
      simp only [Option.some.injEq, Value.int.injEq] at this
      exact ⟨h0, fun _ => by rw [h190, h2, this]⟩
theorem zqBl {b : Int64} (hE : zEx X1 X2 V) (hres : (kv = 1 ∧ X1) ∨ (kv = 2 ∧ X2) ∨ (kv = 0 ∧ ∃ v, V (some (.long v)) ∧ d.2.2.1 190 0 = v)) (hq : zNB d U X1 X2 V (some (.long b)) c) : c.2.1 100 0 = kv ∧ (kv = 0 → c.2.2.1 190 0 = b) := by
  obtain ⟨-, ⟨-, h190⟩, h⟩ := hq
  obtain ⟨e1, e2, e3⟩ := hE
  rcases hres with ⟨rfl, h1⟩ | ⟨rfl, h1⟩ | ⟨rfl, v, h1, h2⟩
  · rcases h with ⟨-, h⟩ | ⟨h, -⟩ | ⟨h, -⟩
    · exact ⟨h, fun h9 => absurd h9 (by decide)⟩
    · exact (e1 ⟨h1, h⟩).elim
    · exact ((e2 _ h).1 h1).elim
  · rcases h with ⟨h, -⟩ | ⟨-, h⟩ | ⟨h, -⟩
    · exact (e1 ⟨h, h1⟩).elim
    · exact ⟨h, fun h9 => absurd h9 (by decide)⟩
    · exact ((e2 _ h).2 h1).elim
  · rcases h with ⟨h, -⟩ | ⟨h, -⟩ | ⟨h, h0⟩
    · exact ((e2 _ h1).1 h).elim
    · exact ((e2 _ h1).2 h).elim
    · have := e3 _ _ h1 h
      simp only [Option.some.injEq, Value.long.injEq] at this
      exact ⟨h0, fun _ => by rw [h190, h2, this]⟩
end ZN
