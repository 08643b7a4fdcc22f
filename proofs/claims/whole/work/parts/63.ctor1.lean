/-! constructors: final fields, frames -/
section ZF
variable {Δ : zD} {M : zMI} {R : Room} {fx : Bool} {sh0 : zSh} {QR : Option Value → zW → Prop} {QX : String → zW → Prop} {k n pc : Nat} {ls : List (Nat × Value)} {st : List Value} {w : zW}
theorem zJ_putG {idx ci kf i : Nat} {v : Value} {w2 : zW} (hd : decode M.2.1 pc = .ok (.putfield idx, 3)) (hini : M.2.2.2.2.2 = true) (hf : zFld M.1 idx ci kf) (hpl : ∀ q, vwCl[ci]? = some q → Cond.fieldLink M.1 idx (q.2.1 kf).1 (q.2.1 kf).2.1 (q.2.1 kf).2.2.1 ∈ lw_tbl ∧ (q.2.1 kf).2.2.2 = true ∧ (q.2.1 kf).1 = M.1) (hs : w.1 i = some (.inl ci)) (hn : ∀ ρ, narrow (zty ci kf) (zv ρ v) = zv ρ v) (hfit : ∀ ρ, fits (zty ci kf) (zv ρ v) = true)
    (e1 : w2.1 = w.1) (e2 : ∀ j, j ≠ i → w2.2.1 j = w.2.1 j ∧ w2.2.2.1 j = w.2.2.1 j ∧ w2.2.2.2 j = w.2.2.2 j) (e3 : ∀ ρ j, zslot ρ w2 ci i j = updV (zslot ρ w ci i) kf (zv ρ v) j) (e4 : ∀ a j, w2.2.2.2 i a = some j → w.1 j ≠ none ∨ w.2.2.2 i a = some j) (kk : zJ Δ M R fx sh0 QR QX k n (pc + 3) ls st w2) : zJ Δ M R fx sh0 QR QX k n pc ls (v :: .ref i :: st) w := by
  intro p l e s m args below meth c H locs ρ0 ρ ls' C G r S L
  obtain ⟨q, hc, hk, -⟩ := hf
  obtain ⟨hl, hfin, hdecl⟩ := hpl q hc
  obtain ⟨q', hq, cell, q1, q2, q3, q4⟩ := r.1 i ci hs
  cases Option.some.inj (hq.symm.trans hc)
  have hK := C.2.2.2.2.2.2.2.2.2.1
  obtain ⟨hS, hfc, kC, hkC, hkind⟩ := hK.1.1 ci _ hc
  obtain ⟨cf, kf', fi, f, hi, hsl⟩ := hS kf hk
  have hts : ∀ c ∈ u_ws q.1 q.2.1 q.2.2, c.before args s = true := fun c hc' => zw hK (zin hc c hc').1 (zin hc c hc').2
  have hst := (u_facts (args := args) hfc hkC (u_lays (ws := u_ws q.1 q.2.1 q.2.2) hts (fun _ h => h) hk) hi).1
  have hap := va_apart (own := M.1) hts (fun _ h => h) (zty ci) (zok hc).1 (zok hc).2 hK.1 hc
  have hlay := hts _ (u_in_lay hk)
  unfold u_lay at hlay
  rw [if_pos hfin] at hlay
  have hcf : m.cls = cf := by
    obtain ⟨_, _, c', _, _, _, -, -, hf', -, -, -, hown2, -⟩ := Cond.laysFinal_spec hlay
    have e1 : c' = cf := by have := hi.symm.trans hf'; simp at this; exact this.1.symm
    rw [hdecl] at hown2
    rw [← e1]; exact Option.some.inj (C.2.2.2.1.symm.trans hown2)
  have h6 := u_fits hfc hkC hkind (Or.inr hlay) hi ((zok hc).1 kf hk) (hn ρ) (hfit ρ)
  have hin2 : meth.name = "<init>" := C.2.2.2.2.2.2.2.2.1 hini
  refine W.putFinK C.1 C.2.1 C.2.2.2.1 (zw hK hl rfl) hi hst hcf hin2 (by rw [q2]; exact h6) q1 q3 (by rw [hsl]; exact k2_hasslot (q4 kf hk)) rfl rfl hd fun H' g1 g2 g3 => ?_
  rw [hsl] at g1 ⊢
  have hi0 : w.1 i ≠ none := by rw [hs]; exact fun h => by cases h
  refine kk p l e s m args below meth c H' _ ρ0 ρ ls' C (G.w e1) (r.upd hi0 e1 e2 g3 (fun ci' h => ?_) (fun m' h => by rw [hs] at h; cases h) (fun m' h => by rw [hs] at h; cases h) (fun ci' a j h1 h2 => ?_)) (S.put g2 g3 (r.2.2.2.2.1 i hi0)) L
  · rw [hs] at h
    cases h
    exact ⟨q, hc, _, g1, q2, q3, fun j hj => by rw [e3]; exact t_set q4 hap hk (zv ρ v) j hj⟩
  · rcases e4 a j h2 with h3 | h3
    · exact h3
    · exact r.2.2.2.2.2.1 i ci' a j h1 h3
theorem zJ_putF {idx ci kf i x : Nat} (hd : decode M.2.1 pc = .ok (.putfield idx, 3)) (hini : M.2.2.2.2.2 = true) (hf : zFld M.1 idx ci kf) (hpl : ∀ q, vwCl[ci]? = some q → Cond.fieldLink M.1 idx (q.2.1 kf).1 (q.2.1 kf).2.1 (q.2.1 kf).2.2.1 ∈ lw_tbl ∧ (q.2.1 kf).2.2.2 = true ∧ (q.2.1 kf).1 = M.1) (hs : w.1 i = some (.inl ci)) (hz : zct (zty ci kf) = 2) (hn : ∀ a : Nat, narrow (zty ci kf) (.ref a) = .ref a) (hfit : ∀ a : Nat, fits (zty ci kf) (.ref a) = true) (hx : w.1 x ≠ none) (kk : zJ Δ M R fx sh0 QR QX k n (pc + 3) ls st (zsr w i kf (some x))) : zJ Δ M R fx sh0 QR QX k n pc ls (.ref x :: .ref i :: st) w := by
  refine zJ_putG (w2 := zsr w i kf (some x)) hd hini hf hpl hs (fun ρ => hn _) (fun ρ => hfit _) rfl (fun j hj => ⟨rfl, rfl, ?_⟩) (fun ρ j => ?_) (fun a j h => ?_) kk
  · funext b; simp [zsr, hj]
  · by_cases h : j = kf
    · subst h; simp [zslot, hz, updV, zsr, zv, va_rf]
    · simp [zslot, updV, zsr, zv, h]
  · simp only [zsr] at h
    split at h
    · cases h; exact Or.inl hx
    · exact Or.inr h
theorem zJ_putFi {idx ci kf i : Nat} {x : Int32} (hd : decode M.2.1 pc = .ok (.putfield idx, 3)) (hini : M.2.2.2.2.2 = true) (hf : zFld M.1 idx ci kf) (hpl : ∀ q, vwCl[ci]? = some q → Cond.fieldLink M.1 idx (q.2.1 kf).1 (q.2.1 kf).2.1 (q.2.1 kf).2.2.1 ∈ lw_tbl ∧ (q.2.1 kf).2.2.2 = true ∧ (q.2.1 kf).1 = M.1) (hs : w.1 i = some (.inl ci)) (ht : zct (zty ci kf) = 0) (hn : narrow (zty ci kf) (.int x) = .int x) (hfit : fits (zty ci kf) (.int x) = true) (kk : zJ Δ M R fx sh0 QR QX k n (pc + 3) ls st (zsi w i kf x)) : zJ Δ M R fx sh0 QR QX k n pc ls (.int x :: .ref i :: st) w := by
  refine zJ_putG (w2 := zsi w i kf x) hd hini hf hpl hs (fun ρ => hn) (fun ρ => hfit) rfl (fun j hj => ⟨?_, rfl, rfl⟩) (fun ρ j => ?_) (fun a j h => Or.inr h) kk
  · funext b; simp [zsi, hj]
  · by_cases h : j = kf
    · subst h; simp [zslot, ht, updV, zsi, zv]
    · simp [zslot, updV, zsi, h]
end ZF
/-- all that is changed lies from lo to hi, or was made there -/
def zFo (w c : zW) (lo hi : Nat) : Prop := ∀ a, (a < lo ∨ hi < a) → c.1 a = w.1 a ∧ (∀ j, c.2.1 a j = w.2.1 a j) ∧ (∀ j, c.2.2.1 a j = w.2.2.1 a j) ∧ ∀ j, c.2.2.2 a j = w.2.2.2 a j
theorem zFo.rf (w : zW) (lo hi : Nat) : zFo w w lo hi := fun _ _ => ⟨rfl, fun _ => rfl, fun _ => rfl, fun _ => rfl⟩
theorem zFo.tr {w c d : zW} {lo hi : Nat} (h1 : zFo w c lo hi) (h2 : zFo c d lo hi) : zFo w d lo hi := fun a h => ⟨(h2 a h).1.trans (h1 a h).1, fun j => ((h2 a h).2.1 j).trans ((h1 a h).2.1 j), fun j => ((h2 a h).2.2.1 j).trans ((h1 a h).2.2.1 j), fun j => ((h2 a h).2.2.2 j).trans ((h1 a h).2.2.2 j)⟩
theorem zFo.mono {w c : zW} {lo hi lo2 hi2 : Nat} (h : zFo w c lo hi) (h1 : lo2 ≤ lo) (h2 : hi ≤ hi2) : zFo w c lo2 hi2 := fun a ha => h a (by omega)
theorem zFo.new {w : zW} {i lo hi : Nat} {x : Nat ⊕ (Bool × Nat)} (h : lo ≤ i ∧ i ≤ hi) : zFo w (znew w i x) lo hi := fun a ha => by
  have : ¬ a = i := by omega
  simp [znew, this]
theorem zFo.r {w : zW} {i j lo hi : Nat} {x : Option Nat} (h : lo ≤ i ∧ i ≤ hi) : zFo w (zsr w i j x) lo hi := fun a ha => by
  have : ¬ a = i := by omega
  simp [zsr, this]
theorem zFo.i {w : zW} {i j lo hi : Nat} {x : Int32} (h : lo ≤ i ∧ i ≤ hi) : zFo w (zsi w i j x) lo hi := fun a ha => by
  have : ¬ a = i := by omega
  simp [zsi, this]
theorem zFo.tow {w : zW} {t lo hi : Nat} {sc a1 a2 a3 a4 : Nat → Int32} (h : lo ≤ t ∧ t + 4 ≤ hi) : zFo w (ztow w t sc a1 a2 a3 a4) lo hi := fun a ha => ⟨rfl, fun j => ztow_o (by omega), fun _ => rfl, fun _ => rfl⟩
def zMn (Δ : zD) (h mc ms : Nat) (y : MethodName) (M : zMI) (as : List Value) (w : zW) (P : Option Value → zW → Prop) : Prop := zM Δ h mc ms false y M as w P (fun _ _ => False)
theorem zTi_0 {w : zW} {t : Nat} (h : zTn w t) : zTi (ztow0 w t) t zT0 := by
  refine ⟨h, fun k a b => ?_, fun p a => ?_, fun p a => ?_, fun p a => ?_, fun p a => ?_⟩
  · simp only [ztow0, ztow, if_true]; exact zsc0_n k a b
  · simp [ztow0, ztow, zT0]; rfl
  · simp [ztow0, ztow, zT0]; rfl
  · simp [ztow0, ztow, zT0, zkn]
    have : zbits (fun _ => false) 8 = 0 := by decide
    rw [this]; rfl
  · simp [ztow0, ztow, zT0]; rfl
set_option maxRecDepth 100000 in
theorem c_Town_init (Δ : zD) (w : zW) (t : Nat) (ht : t + 4 < 1000) (hk : w.1 t = some (.inl 5)) (n1 : w.1 (t + 1) = none) (n2 : w.1 (t + 2) = none) (n3 : w.1 (t + 3) = none) (n4 : w.1 (t + 4) = none) : zMn Δ 2 4 88 yX5_init mX5_init [.ref t] w (fun r c => r = none ∧ zFo w c t (t + 4) ∧ c.1 t = some (.inl 5) ∧ zTi c t zT0) := by
  refine zM.of mfX5_init (Nat.le_of_ble_eq_true rfl) ?_
  refine zJ_aload_n dX5_init_0 rfl ?_
  refine zJ_obj dX5_init_1 (List.mem_of_getElem? (i := 184) rfl) (by decide) (by decide) ?_
  refine zJ_aload_n dX5_init_4 rfl ?_
  refine zJ_bipush (v := 8) dX5_init_5 (by decide) ?_
  refine zJ_newi (len := 8) (t + 1) dX5_init_7 (by decide) rfl (by decide) rfl (by simp [znew, zsr, zsi, hk, n1, n2, n3, n4]) (by omega) (by simp [lv_args, znr, Value.category]) (by simp [znr]) (by decide) (by decide) ?_
  refine zJ_putF dX5_init_9 rfl fX5_9 (fun q hq => by cases hq; exact ⟨(List.mem_of_getElem? (i := 195) rfl), rfl, rfl⟩) (by simp [znew, zsr, zsi, hk, n1, n2, n3, n4]) rfl (fun _ => rfl) (fun _ => rfl) (by simp [znew, zsr]) ?_
  refine zJ_aload_n dX5_init_12 rfl ?_
  refine zJ_bipush (v := 8) dX5_init_13 (by decide) ?_
  refine zJ_newi (len := 8) (t + 2) dX5_init_15 (by decide) rfl (by decide) rfl (by simp [znew, zsr, zsi, hk, n1, n2, n3, n4]) (by omega) (by simp [lv_args, znr, Value.category]) (by simp [znr]) (by decide) (by decide) ?_
  refine zJ_putF dX5_init_17 rfl fX5_15 (fun q hq => by cases hq; exact ⟨(List.mem_of_getElem? (i := 201) rfl), rfl, rfl⟩) (by simp [znew, zsr, zsi, hk, n1, n2, n3, n4]) rfl (fun _ => rfl) (fun _ => rfl) (by simp [znew, zsr]) ?_
  refine zJ_aload_n dX5_init_20 rfl ?_
  refine zJ_bipush (v := 8) dX5_init_21 (by decide) ?_
  refine zJ_newi (len := 8) (t + 3) dX5_init_23 (by decide) rfl (by decide) rfl (by simp [znew, zsr, zsi, hk, n1, n2, n3, n4]) (by omega) (by simp [lv_args, znr, Value.category]) (by simp [znr]) (by decide) (by decide) ?_
  refine zJ_putF dX5_init_25 rfl fX5_18 (fun q hq => by cases hq; exact ⟨(List.mem_of_getElem? (i := 207) rfl), rfl, rfl⟩) (by simp [znew, zsr, zsi, hk, n1, n2, n3, n4]) rfl (fun _ => rfl) (fun _ => rfl) (by simp [znew, zsr]) ?_
  refine zJ_aload_n dX5_init_28 rfl ?_
  refine zJ_bipush (v := 64) dX5_init_29 (by decide) ?_
  refine zJ_newi (len := 64) (t + 4) dX5_init_31 (by decide) rfl (by decide) rfl (by simp [znew, zsr, zsi, hk, n1, n2, n3, n4]) (by omega) (by simp [lv_args, znr, Value.category]) (by simp [znr]) (by decide) (by decide) ?_
  refine zJ_putF dX5_init_33 rfl fX5_21 (fun q hq => by cases hq; exact ⟨(List.mem_of_getElem? (i := 211) rfl), rfl, rfl⟩) (by simp [znew, zsr, zsi, hk, n1, n2, n3, n4]) rfl (fun _ => rfl) (fun _ => rfl) (by simp [znew, zsr]) ?_
  refine zJ_aload_n dX5_init_36 rfl ?_
  generalize hwB : zsr (znew (zsr (znew (zsr (znew (zsr (znew w (t + 1) (.inr (false, 8))) t 1 (some (t + 1))) (t + 2) (.inr (false, 8))) t 2 (some (t + 2))) (t + 3) (.inr (false, 8))) t 3 (some (t + 3))) (t + 4) (.inr (false, 64))) t 4 (some (t + 4)) = wB
  have hTB : zTn wB t := by
    rw [← hwB]
    simp [zTn, znew, zsr, hk]
  have hFB : zFo w wB t (t + 4) := by
    rw [← hwB]
    exact (((((((zFo.new (by omega)).tr (zFo.r (by omega))).tr (zFo.new (by omega))).tr (zFo.r (by omega))).tr (zFo.new (by omega))).tr (zFo.r (by omega))).tr (zFo.new (by omega))).tr (zFo.r (by omega))
  refine zJ_cV0 dX5_init_37 sX5_24 mfX5_reset (c_Town_reset Δ wB t hTB) hTB.1 rfl (Nat.le_of_ble_eq_true rfl) (by decide) (by decide) ?_
  exact zJ_vret dX5_init_40 rfl (by decide) (by decide) ⟨rfl, hFB.tr (zFo.tow (by omega)), hTB.1, zTi_0 hTB⟩
