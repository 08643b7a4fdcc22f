/-! what stands in a world, changed -/
def zsi (w : zW) (i k : Nat) (x : Int32) : zW := (w.1, fun a b => if a = i ∧ b = k then x else w.2.1 a b, w.2.2)
def zsl (w : zW) (i k : Nat) (x : Int64) : zW := (w.1, w.2.1, fun a b => if a = i ∧ b = k then x else w.2.2.1 a b, w.2.2.2)
def zsr (w : zW) (i k : Nat) (x : Option Nat) : zW := (w.1, w.2.1, w.2.2.1, fun a b => if a = i ∧ b = k then x else w.2.2.2 a b)
/-- one cell changes -/
theorem zR.upd {Δ : zD} {ρ : Nat → Nat} {w w' : zW} {H H' : Heap} {i : Nat} (h : zR Δ ρ w H) (hi : w.1 i ≠ none) (hs : w'.1 = w.1) (hoi : ∀ j, j ≠ i → w'.2.1 j = w.2.1 j ∧ w'.2.2.1 j = w.2.2.1 j ∧ w'.2.2.2 j = w.2.2.2 j) (hH : ∀ q, q ≠ ρ i → H'[q]? = H[q]?)
    (ho : ∀ ci, w.1 i = some (.inl ci) → ∃ r, vwCl[ci]? = some r ∧ t_OB (ρ i) (Δ.1 ci) r.2.2 (zdI Δ ci) H' (zslot ρ w' ci i))
    (hai : ∀ n, w.1 i = some (.inr (false, n)) → H'[ρ i]? = some (arrV (zcI Δ) n fun j => .int (w'.2.1 i j)))
    (hal : ∀ n, w.1 i = some (.inr (true, n)) → H'[ρ i]? = some (arrV (zcL Δ) n fun j => .long (w'.2.2.1 i j)))
    (hr : ∀ ci k j, w.1 i = some (.inl ci) → w'.2.2.2 i k = some j → w.1 j ≠ none) : zR Δ ρ w' H' := by
  obtain ⟨h1, h2, h3, h4, h5, h6, h7, h8⟩ := h
  have hne : ∀ j, j ≠ i → w.1 j ≠ none → ρ j ≠ ρ i := fun j hj hw e => hj (h4 j i hw hi e)
  refine ⟨fun j ci hj => ?_, fun j m hj => ?_, fun j m hj => ?_, by rw [hs]; exact h4, by rw [hs]; exact h5, fun j ci a b hj hb => ?_, h7, by rw [hs]; exact h8⟩
  · rw [hs] at hj
    by_cases hji : j = i
    · subst hji; exact ho ci hj
    · obtain ⟨r, hr1, cell, q1, q2, q3, q4⟩ := h1 j ci hj
      refine ⟨r, hr1, cell, by rw [hH _ (hne j hji (by rw [hj]; exact fun e => by cases e))]; exact q1, q2, q3, fun a ha => ?_⟩
      rw [q4 a ha]
      obtain ⟨e1, e2, e3⟩ := hoi j hji
      simp only [zslot, e1, e2, e3]
  · rw [hs] at hj
    by_cases hji : j = i
    · subst hji; exact hai m hj
    · rw [hH _ (hne j hji (by rw [hj]; exact fun e => by cases e)), h2 j m hj, (hoi j hji).1]
  · rw [hs] at hj
    by_cases hji : j = i
    · subst hji; exact hal m hj
    · rw [hH _ (hne j hji (by rw [hj]; exact fun e => by cases e)), h3 j m hj, (hoi j hji).2.1]
  · rw [hs] at hj ⊢
    by_cases hji : j = i
    · subst hji; exact hr ci a b hj hb
    · rw [(hoi j hji).2.2] at hb
      exact h6 j ci a b hj hb
theorem zG.w {fx : Bool} {sh0 : zSh} {ρ0 ρ : Nat → Nat} {w w' : zW} (h : zG fx sh0 ρ0 ρ w) (hs : w'.1 = w.1) : zG fx sh0 ρ0 ρ w' := by
  refine ⟨fun i hi => ?_, h.2⟩
  rw [hs]; exact h.1 i hi
set_option maxRecDepth 100000 in
theorem zin0 : ∀ c ∈ u_ws RX0 TX0 5, c ∈ lw_tbl ∧ zWm c = true := by decide +kernel
set_option maxRecDepth 100000 in
theorem zin1 : ∀ c ∈ u_ws RX1 TX1 15, c ∈ lw_tbl ∧ zWm c = true := by decide +kernel
set_option maxRecDepth 100000 in
theorem zin2 : ∀ c ∈ u_ws RX2 TX2 11, c ∈ lw_tbl ∧ zWm c = true := by decide +kernel
set_option maxRecDepth 100000 in
theorem zin3 : ∀ c ∈ u_ws RX3 TX3 5, c ∈ lw_tbl ∧ zWm c = true := by decide +kernel
set_option maxRecDepth 100000 in
theorem zin4 : ∀ c ∈ u_ws RX4 TX4 8, c ∈ lw_tbl ∧ zWm c = true := by decide +kernel
set_option maxRecDepth 100000 in
theorem zin5 : ∀ c ∈ u_ws RX5 TX5 14, c ∈ lw_tbl ∧ zWm c = true := by decide +kernel
set_option maxRecDepth 100000 in
theorem zin6 : ∀ c ∈ u_ws RX6 TX6 8, c ∈ lw_tbl ∧ zWm c = true := by decide +kernel
set_option maxRecDepth 100000 in
theorem zin7 : ∀ c ∈ u_ws RX7 TX7 7, c ∈ lw_tbl ∧ zWm c = true := by decide +kernel
set_option maxRecDepth 100000 in
theorem zin8 : ∀ c ∈ u_ws RX8 TX8 18, c ∈ lw_tbl ∧ zWm c = true := by decide +kernel
set_option maxRecDepth 100000 in
theorem zin9 : ∀ c ∈ u_ws RX9 TX9 88, c ∈ lw_tbl ∧ zWm c = true := by decide +kernel
theorem zin {ci : Nat} {q : vw_C} (h : vwCl[ci]? = some q) : ∀ c ∈ u_ws q.1 q.2.1 q.2.2, c ∈ lw_tbl ∧ zWm c = true := by
  match ci, h with
  | 0, h => cases h; exact zin0
  | 1, h => cases h; exact zin1
  | 2, h => cases h; exact zin2
  | 3, h => cases h; exact zin3
  | 4, h => cases h; exact zin4
  | 5, h => cases h; exact zin5
  | 6, h => cases h; exact zin6
  | 7, h => cases h; exact zin7
  | 8, h => cases h; exact zin8
  | 9, h => cases h; exact zin9
  | n + 10, h => simp at h
theorem zok {ci : Nat} {q : vw_C} (h : vwCl[ci]? = some q) : (∀ k, k < q.2.2 → parseFieldDescriptor (q.2.1 k).2.2.1 = some (zty ci k)) ∧ ∀ a, a < q.2.2 → ∀ b, b < q.2.2 → a ≠ b → (q.2.1 a).2.1 ≠ (q.2.1 b).2.1 := by
  match ci, h with
  | 0, h => cases h; exact ⟨tyX0_ok, nmX0⟩
  | 1, h => cases h; exact ⟨tyX1_ok, nmX1⟩
  | 2, h => cases h; exact ⟨tyX2_ok, nmX2⟩
  | 3, h => cases h; exact ⟨tyX3_ok, nmX3⟩
  | 4, h => cases h; exact ⟨tyX4_ok, nmX4⟩
  | 5, h => cases h; exact ⟨tyX5_ok, nmX5⟩
  | 6, h => cases h; exact ⟨tyX6_ok, nmX6⟩
  | 7, h => cases h; exact ⟨tyX7_ok, nmX7⟩
  | 8, h => cases h; exact ⟨tyX8_ok, nmX8⟩
  | 9, h => cases h; exact ⟨tyX9_ok, nmX9⟩
  | n + 10, h => simp at h
/-- the field k of the kind ci, by the entry idx of own -/
def zFld (own : String) (idx ci k : Nat) : Prop := ∃ q : vw_C, vwCl[ci]? = some q ∧ k < q.2.2 ∧ (Cond.fieldLink own idx (q.2.1 k).1 (q.2.1 k).2.1 (q.2.1 k).2.2.1 ∈ lw_tbl ∨ ∃ host, Cond.fieldLinkNest own idx (q.2.1 k).1 (q.2.1 k).2.1 (q.2.1 k).2.2.1 host ∈ lw_tbl)
section ZH
variable {Δ : zD} {M : zMI} {R : Room} {fx : Bool} {sh0 : zSh} {QR : Option Value → zW → Prop} {QX : String → zW → Prop} {k n pc : Nat} {ls : List (Nat × Value)} {st : List Value} {w : zW}
theorem zJ_get {idx ci kf i : Nat} {v : Value} (hd : decode M.2.1 pc = .ok (.getfield idx, 3)) (hf : zFld M.1 idx ci kf) (hs : w.1 i = some (.inl ci)) (hv : ∀ ρ, zslot ρ w ci i kf = zv ρ v) (kk : zJ Δ M R fx sh0 QR QX k n (pc + 3) ls (v :: st) w) : zJ Δ M R fx sh0 QR QX k n pc ls (.ref i :: st) w := by
  intro p l e s m args below meth c H locs ρ0 ρ ls' C G r S L
  obtain ⟨q, hc, hk, hl⟩ := hf
  obtain ⟨q', hq, cell, q1, q2, q3, q4⟩ := r.1 i ci hs
  cases Option.some.inj (hq.symm.trans hc)
  have hK := C.2.2.2.2.2.2.2.2.2.1
  obtain ⟨hS, hfc, kC, hkC, hkind⟩ := hK.1.1 ci _ hc
  obtain ⟨cf, kf', fi, f, hi, hsl⟩ := hS kf hk
  have hst := (u_facts (args := args) hfc hkC (u_lays (ws := u_ws q.1 q.2.1 q.2.2) (fun c hc' => zw hK (zin hc c hc').1 (zin hc c hc').2) (fun _ h => h) hk) hi).1
  rcases hl with hl | ⟨host, hl⟩
  · refine W.getf C.1 C.2.1 C.2.2.2.1 (zw hK hl rfl) hi hst q1 (by rw [q3]; exact fun h => by cases h) (v := zv ρ v) ?_ rfl rfl hd (kk p l e s m args below meth c H locs ρ0 ρ ls' C G r S L)
    rw [hsl, q4 kf hk, hv]
  · refine va_Wgetf C.1 C.2.1 C.2.2.2.1 (zw hK hl rfl) hi hst q1 (by rw [q3]; exact fun h => by cases h) (v := zv ρ v) ?_ rfl rfl hd (kk p l e s m args below meth c H locs ρ0 ρ ls' C G r S L)
    rw [hsl, q4 kf hk, hv]
theorem zJ_geti {idx ci kf i : Nat} (hd : decode M.2.1 pc = .ok (.getfield idx, 3)) (hf : zFld M.1 idx ci kf) (hs : w.1 i = some (.inl ci)) (ht : zct (zty ci kf) = 0) (kk : zJ Δ M R fx sh0 QR QX k n (pc + 3) ls (.int (w.2.1 i kf) :: st) w) : zJ Δ M R fx sh0 QR QX k n pc ls (.ref i :: st) w := zJ_get hd hf hs (fun ρ => by simp only [zslot, ht]; rfl) kk
theorem zJ_getl {idx ci kf i : Nat} (hd : decode M.2.1 pc = .ok (.getfield idx, 3)) (hf : zFld M.1 idx ci kf) (hs : w.1 i = some (.inl ci)) (ht : zct (zty ci kf) = 1) (kk : zJ Δ M R fx sh0 QR QX k n (pc + 3) ls (.long (w.2.2.1 i kf) :: st) w) : zJ Δ M R fx sh0 QR QX k n pc ls (.ref i :: st) w := zJ_get hd hf hs (fun ρ => by simp only [zslot, ht]; rfl) kk
theorem zJ_getr {idx ci kf i j : Nat} (hd : decode M.2.1 pc = .ok (.getfield idx, 3)) (hf : zFld M.1 idx ci kf) (hs : w.1 i = some (.inl ci)) (ht : zct (zty ci kf) = 2) (hr : w.2.2.2 i kf = some j) (kk : zJ Δ M R fx sh0 QR QX k n (pc + 3) ls (.ref j :: st) w) : zJ Δ M R fx sh0 QR QX k n pc ls (.ref i :: st) w := zJ_get hd hf hs (fun ρ => by simp only [zslot, ht, hr]; rfl) kk
theorem zJ_getN {idx ci kf i : Nat} (hd : decode M.2.1 pc = .ok (.getfield idx, 3)) (hf : zFld M.1 idx ci kf) (hs : w.1 i = some (.inl ci)) (ht : zct (zty ci kf) = 2) (hr : w.2.2.2 i kf = none) (kk : zJ Δ M R fx sh0 QR QX k n (pc + 3) ls (.null :: st) w) : zJ Δ M R fx sh0 QR QX k n pc ls (.ref i :: st) w := zJ_get hd hf hs (fun ρ => by simp only [zslot, ht, hr]; rfl) kk
theorem zJ_put {idx ci kf i : Nat} {v : Value} {w2 : zW} (hd : decode M.2.1 pc = .ok (.putfield idx, 3)) (hf : zFld M.1 idx ci kf) (hfin : ∀ q, vwCl[ci]? = some q → (q.2.1 kf).2.2.2 = false) (hs : w.1 i = some (.inl ci)) (hn : ∀ ρ, narrow (zty ci kf) (zv ρ v) = zv ρ v) (hfit : ∀ ρ, fits (zty ci kf) (zv ρ v) = true)
    (e1 : w2.1 = w.1) (e2 : ∀ j, j ≠ i → w2.2.1 j = w.2.1 j ∧ w2.2.2.1 j = w.2.2.1 j ∧ w2.2.2.2 j = w.2.2.2 j) (e3 : ∀ ρ j, zslot ρ w2 ci i j = updV (zslot ρ w ci i) kf (zv ρ v) j) (e4 : ∀ a j, w2.2.2.2 i a = some j → w.1 j ≠ none ∨ w.2.2.2 i a = some j) (kk : zJ Δ M R fx sh0 QR QX k n (pc + 3) ls st w2) : zJ Δ M R fx sh0 QR QX k n pc ls (v :: .ref i :: st) w := by
  intro p l e s m args below meth c H locs ρ0 ρ ls' C G r S L
  obtain ⟨q, hc, hk, hl⟩ := hf
  obtain ⟨q', hq, cell, q1, q2, q3, q4⟩ := r.1 i ci hs
  cases Option.some.inj (hq.symm.trans hc)
  have hK := C.2.2.2.2.2.2.2.2.2.1
  obtain ⟨hS, hfc, kC, hkC, hkind⟩ := hK.1.1 ci _ hc
  obtain ⟨cf, kf', fi, f, hi, hsl⟩ := hS kf hk
  have hts : ∀ c ∈ u_ws q.1 q.2.1 q.2.2, c.before args s = true := fun c hc' => zw hK (zin hc c hc').1 (zin hc c hc').2
  have hst := (u_facts (args := args) hfc hkC (u_lays (ws := u_ws q.1 q.2.1 q.2.2) hts (fun _ h => h) hk) hi).1
  have hap := va_apart (own := M.1) hts (fun _ h => h) (zty ci) (zok hc).1 (zok hc).2 hK.1 hc
  have hlay := hts _ (u_in_lay hk)
  unfold u_lay at hlay
  rw [if_neg (by rw [hfin q hc]; decide)] at hlay
  have h6 := u_store hfc hkC hkind hlay hi ((zok hc).1 kf hk) (hn ρ) (hfit ρ)
  have done : ∀ H' : Heap, H'[ρ i]? = some (cell.setSlot f.slot (zv ρ v)) → H'.size = H.size → (∀ q, q ≠ ρ i → H'[q]? = H[q]?) → W p l e R s m args below meth c H' (locs ++ [⟨ρ i, f.slot⟩]) k n (vx_MQ below (zQc Δ fx sh0 ρ0 (zQt M QR)) (zXc Δ fx sh0 ρ0 QX) args s R.cells R.slots (zA Δ)) (F0 m (pc + 3) ls' (st.map (zv ρ))) := by
    intro H' g1 g2 g3
    rw [hsl] at g1 ⊢
    have hi0 : w.1 i ≠ none := by rw [hs]; exact fun h => by cases h
    refine kk p l e s m args below meth c H' _ ρ0 ρ ls' C (G.w e1) (r.upd hi0 e1 e2 g3 (fun ci' h => ?_) (fun m' h => by rw [hs] at h; cases h) (fun m' h => by rw [hs] at h; cases h) (fun ci' a j h1 h2 => ?_)) (S.put g2 g3 (r.2.2.2.2.1 i hi0)) L
    · rw [hs] at h
      cases h
      exact ⟨q, hc, _, g1, q2, q3, fun j hj => by rw [e3]; exact t_set q4 hap hk (zv ρ v) j hj⟩
    · rcases e4 a j h2 with h3 | h3
      · exact h3
      · exact r.2.2.2.2.2.1 i ci' a j h1 h3
  rcases hl with hl | ⟨host, hl⟩
  · exact W.putK C.1 C.2.1 (f := f) ⟨C.2.2.2.1, zw hK hl rfl, ⟨_, _, _, hi⟩, hst⟩ (by rw [q2]; exact h6) q1 q3 (by rw [hsl]; exact k2_hasslot (q4 kf hk)) rfl rfl hd done
  · exact va_WputK C.1 C.2.1 (f := f) C.2.2.2.1 (zw hK hl rfl) hi hst (by rw [q2]; exact h6) q1 q3 (by rw [hsl]; exact k2_hasslot (q4 kf hk)) rfl rfl hd done
theorem zJ_puti {idx ci kf i : Nat} {x : Int32} (hd : decode M.2.1 pc = .ok (.putfield idx, 3)) (hf : zFld M.1 idx ci kf) (hfin : ∀ q, vwCl[ci]? = some q → (q.2.1 kf).2.2.2 = false) (hs : w.1 i = some (.inl ci)) (ht : zct (zty ci kf) = 0) (hn : narrow (zty ci kf) (.int x) = .int x) (hfit : fits (zty ci kf) (.int x) = true) (kk : zJ Δ M R fx sh0 QR QX k n (pc + 3) ls st (zsi w i kf x)) : zJ Δ M R fx sh0 QR QX k n pc ls (.int x :: .ref i :: st) w := by
  refine zJ_put (w2 := zsi w i kf x) hd hf hfin hs (fun _ => hn) (fun _ => hfit) rfl (fun j hj => ⟨?_, rfl, rfl⟩) (fun ρ j => ?_) (fun a j h => Or.inr h) kk
  · funext b; simp [zsi, hj]
  · by_cases h : j = kf
    · subst h; simp [zslot, ht, updV, zsi, zv]
    · simp [zslot, updV, zsi, zv, h]
theorem zJ_putl {idx ci kf i : Nat} {x : Int64} (hd : decode M.2.1 pc = .ok (.putfield idx, 3)) (hf : zFld M.1 idx ci kf) (hfin : ∀ q, vwCl[ci]? = some q → (q.2.1 kf).2.2.2 = false) (hs : w.1 i = some (.inl ci)) (ht : zty ci kf = .long) (kk : zJ Δ M R fx sh0 QR QX k n (pc + 3) ls st (zsl w i kf x)) : zJ Δ M R fx sh0 QR QX k n pc ls (.long x :: .ref i :: st) w := by
  refine zJ_put (w2 := zsl w i kf x) hd hf hfin hs (fun _ => by rw [ht]; rfl) (fun _ => by rw [ht]; rfl) rfl (fun j hj => ⟨rfl, ?_, rfl⟩) (fun ρ j => ?_) (fun a j h => Or.inr h) kk
  · funext b; simp [zsl, hj]
  · by_cases h : j = kf
    · subst h; simp [zslot, zct, ht, updV, zsl, zv]
    · simp [zslot, updV, zsl, zv, h]
theorem zJ_putr {idx ci kf i x : Nat} {c0 : String} (hd : decode M.2.1 pc = .ok (.putfield idx, 3)) (hf : zFld M.1 idx ci kf) (hfin : ∀ q, vwCl[ci]? = some q → (q.2.1 kf).2.2.2 = false) (hs : w.1 i = some (.inl ci)) (ht : zty ci kf = .object c0) (hx : w.1 x ≠ none) (kk : zJ Δ M R fx sh0 QR QX k n (pc + 3) ls st (zsr w i kf (some x))) : zJ Δ M R fx sh0 QR QX k n pc ls (.ref x :: .ref i :: st) w := by
  refine zJ_put (w2 := zsr w i kf (some x)) hd hf hfin hs (fun _ => by rw [ht]; rfl) (fun _ => by rw [ht]; rfl) rfl (fun j hj => ⟨rfl, rfl, ?_⟩) (fun ρ j => ?_) (fun a j h => ?_) kk
  · funext b; simp [zsr, hj]
  · by_cases h : j = kf
    · subst h; simp [zslot, zct, ht, updV, zsr, zv, va_rf]
    · simp [zslot, updV, zsr, zv, h]
  · simp only [zsr] at h
    split at h
    · cases h; exact Or.inl hx
    · exact Or.inr h
theorem zJ_alen {i len : Nat} {b : Bool} {x : Int32} (hd : decode M.2.1 pc = .ok (.arraylength, 1)) (hs : w.1 i = some (.inr (b, len))) (hx : Int32.ofNat len = x) (kk : zJ Δ M R fx sh0 QR QX k n (pc + 1) ls (.int x :: st) w) : zJ Δ M R fx sh0 QR QX k n pc ls (.ref i :: st) w := by
  intro p l e s m args below meth c H locs ρ0 ρ ls' C G r S L
  have hK := C.2.2.2.2.2.2.2.2.2.1
  cases b with
  | false => exact W.alen C.1 C.2.1 (r.2.1 i len hs) ((hK.1.2 0 _ rfl).1 len _) (by rw [arrV_size]; exact hx) rfl rfl hd (kk p l e s m args below meth c H locs ρ0 ρ ls' C G r S L)
  | true => exact W.alen C.1 C.2.1 (r.2.2.1 i len hs) ((hK.1.2 1 _ rfl).1 len _) (by rw [arrV_size]; exact hx) rfl rfl hd (kk p l e s m args below meth c H locs ρ0 ρ ls' C G r S L)
theorem zJ_iald {i len : Nat} {x : Int32} (hd : decode M.2.1 pc = .ok (.iaload, 1)) (hs : w.1 i = some (.inr (false, len))) (hx : vp_in x len) (kk : zJ Δ M R fx sh0 QR QX k n (pc + 1) ls (.int (w.2.1 i x.toNatClampNeg) :: st) w) : zJ Δ M R fx sh0 QR QX k n pc ls (.int x :: .ref i :: st) w := by
  intro p l e s m args below meth c H locs ρ0 ρ ls' C G r S L
  have hK := C.2.2.2.2.2.2.2.2.2.1
  have hlt : x.toNatClampNeg < len := Nat.not_le.mp fun q => hx (Or.inr q)
  exact W.iald C.1 C.2.1 (r.2.1 i len hs) ((hK.1.2 0 _ rfl).1 len _) (fun q => by cases q) (by rw [arrV_size]; exact hx) (arrV_read _ _ hlt) rfl rfl hd (kk p l e s m args below meth c H locs ρ0 ρ ls' C G r S L)
theorem zJ_lald {i len : Nat} {x : Int32} (hd : decode M.2.1 pc = .ok (.laload, 1)) (hs : w.1 i = some (.inr (true, len))) (hx : vp_in x len) (kk : zJ Δ M R fx sh0 QR QX k n (pc + 1) ls (.long (w.2.2.1 i x.toNatClampNeg) :: st) w) : zJ Δ M R fx sh0 QR QX k n pc ls (.int x :: .ref i :: st) w := by
  intro p l e s m args below meth c H locs ρ0 ρ ls' C G r S L
  have hK := C.2.2.2.2.2.2.2.2.2.1
  have hlt : x.toNatClampNeg < len := Nat.not_le.mp fun q => hx (Or.inr q)
  exact W.lald C.1 C.2.1 (r.2.2.1 i len hs) ((hK.1.2 1 _ rfl).1 len _) (fun q => by cases q) (by rw [arrV_size]; exact hx) (arrV_read _ _ hlt) rfl rfl hd (kk p l e s m args below meth c H locs ρ0 ρ ls' C G r S L)
theorem zJ_iast {i len : Nat} {x v : Int32} (hd : decode M.2.1 pc = .ok (.iastore, 1)) (hs : w.1 i = some (.inr (false, len))) (hx : vp_in x len) (kk : zJ Δ M R fx sh0 QR QX k n (pc + 1) ls st (zsi w i x.toNatClampNeg v)) : zJ Δ M R fx sh0 QR QX k n pc ls (.int v :: .int x :: .ref i :: st) w := by
  intro p l e s m args below meth c H locs ρ0 ρ ls' C G r S L
  have hK := C.2.2.2.2.2.2.2.2.2.1
  have hi0 : w.1 i ≠ none := by rw [hs]; exact fun h => by cases h
  refine W.iast C.1 C.2.1 (r.2.1 i len hs) ((hK.1.2 0 _ rfl).1 len _) (fun q => by cases q) (by rw [arrV_size]; exact hx) rfl rfl hd fun H' g1 g2 g3 => ?_
  refine kk p l e s m args below meth c H' _ ρ0 ρ ls' C (G.w rfl) (r.upd hi0 rfl (fun j hj => ⟨?_, rfl, rfl⟩) g3 (fun ci h => by rw [hs] at h; cases h) (fun m' h => ?_) (fun m' h => by rw [hs] at h; cases h) (fun ci a j h1 h2 => r.2.2.2.2.2.1 i ci a j h1 h2)) (S.put g2 g3 (r.2.2.2.2.1 i hi0)) L
  · funext b; simp [zsi, hj]
  · rw [hs] at h; cases h
    rw [g1, arrV_store]
    congr 2
    funext q
    by_cases hq : q = x.toNatClampNeg
    · subst hq; simp [updV, zsi]
    · simp [updV, zsi, hq]
theorem zJ_last {i len : Nat} {x : Int32} {v : Int64} (hd : decode M.2.1 pc = .ok (.lastore, 1)) (hs : w.1 i = some (.inr (true, len))) (hx : vp_in x len) (kk : zJ Δ M R fx sh0 QR QX k n (pc + 1) ls st (zsl w i x.toNatClampNeg v)) : zJ Δ M R fx sh0 QR QX k n pc ls (.long v :: .int x :: .ref i :: st) w := by
  intro p l e s m args below meth c H locs ρ0 ρ ls' C G r S L
  have hK := C.2.2.2.2.2.2.2.2.2.1
  have hi0 : w.1 i ≠ none := by rw [hs]; exact fun h => by cases h
  refine W.last C.1 C.2.1 (r.2.2.1 i len hs) ((hK.1.2 1 _ rfl).1 len _) (fun q => by cases q) (by rw [arrV_size]; exact hx) rfl rfl hd fun H' g1 g2 g3 => ?_
  refine kk p l e s m args below meth c H' _ ρ0 ρ ls' C (G.w rfl) (r.upd hi0 rfl (fun j hj => ⟨rfl, ?_, rfl⟩) g3 (fun ci h => by rw [hs] at h; cases h) (fun m' h => by rw [hs] at h; cases h) (fun m' h => ?_) (fun ci a j h1 h2 => r.2.2.2.2.2.1 i ci a j h1 h2)) (S.put g2 g3 (r.2.2.2.2.1 i hi0)) L
  · funext b; simp [zsl, hj]
  · rw [hs] at h; cases h
    rw [g1, arrV_store]
    congr 2
    funext q
    by_cases hq : q = x.toNatClampNeg
    · subst hq; simp [updV, zsl]
    · simp [updV, zsl, hq]
end ZH
