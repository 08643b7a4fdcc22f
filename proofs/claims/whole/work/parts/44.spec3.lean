/-! CASES, ODDS, THE CHAIN: what goes forward through the HANDS -/
/-- what of a chance v goes from k to y, as ODDS go -/
def zst1 (T : zTo) (k : zKy) (v y : Nat) : Nat := if (ztb T k (zcC T k)).testBit y = true ∧ 0 < zwt T k.1 (ztb T k (zcC T k)) 8 then v * (1000 - zsh T k (zcC T k)) / 1000 * zwu T k.1 y / zwt T k.1 (ztb T k (zcC T k)) 8 else 0
def zop1 (T : zTo) (k : zKy) (v : Nat) : Nat := v * zsh T k (zcC T k) / 1000
theorem zsh_1000 {T : zTo} (hT : zTok T) (k : zKy) (C : Option Nat) : zsh T k C ≤ 1000 := by
  have := (hT.2.2.2.2.2.2.2.2.2.2.1 k.1).2.2.1
  simp only [zsh]
  split
  · omega
  · split
    · split <;> omega
    · split
      · exact this (by assumption)
      · split
        · cases C <;> simp
        · omega
theorem zop1_le {T : zTo} (hT : zTok T) (k : zKy) (v : Nat) : zop1 T k v ≤ v := by
  have h := zsh_1000 hT k (zcC T k)
  have : v * zsh T k (zcC T k) ≤ v * 1000 := Nat.mul_le_mul_left v h
  simp only [zop1]; omega
theorem ztb_256 {T : zTo} {k : zKy} : ztb T k (zcC T k) < 256 := by
  simp only [ztb]
  split
  · cases hc : zcC T k with
    | none => simp
    | some q => exact Nat.pow_lt_pow_right (a := 2) (m := q) (n := 8) (by decide) (zcC_may hc).1
  · exact zmb_lt T k
theorem ztb_may {T : zTo} {k : zKy} {y : Nat} (hy : y < 8) (hb : (ztb T k (zcC T k)).testBit y = true) : zmay T k y = true := by
  simp only [ztb] at hb
  split at hb
  · cases hc : zcC T k with
    | none => rw [hc] at hb; simp at hb
    | some q =>
      rw [hc] at hb
      rw [Nat.testBit_two_pow] at hb
      have hq : q = y := of_decide_eq_true hb
      rw [← hq]; exact (zcC_may hc).2
  · rw [← zmb_tb T k hy]; exact hb
theorem zwt_one {T : zTo} {a B y : Nat} (hy : y < 8) (hb : B.testBit y = true) : zwu T a y ≤ zwt T a B 8 := by
  have h := fb_sm_part (fun y => if B.testBit y then zwu T a y else 0) hy
  simp only [hb, if_true] at h
  simp only [zwt]; omega
theorem zst1_le {T : zTo} (k : zKy) (v : Nat) {y : Nat} (hy : y < 8) : zst1 T k v y ≤ v := by
  simp only [zst1]
  split
  · rename_i h
    have h1 := zwt_one (T := T) (a := k.1) hy h.1
    have h2 : v * (1000 - zsh T k (zcC T k)) ≤ v * 1000 := Nat.mul_le_mul_left v (by omega)
    have h3 : v * (1000 - zsh T k (zcC T k)) / 1000 ≤ v := by omega
    exact Nat.div_le_of_le_mul (by rw [Nat.mul_comm (zwt T k.1 (ztb T k (zcC T k)) 8)]; exact Nat.mul_le_mul h3 h1)
  · exact Nat.zero_le _
/-! ODDS -/
def zod (T : zTo) (f : Nat → Nat) : Nat → Nat → zKy → Nat → Nat
  | 0, _, k, v => zop1 T k v
  | n + 1, i, k, v => if zmay T k (f i) then zod T f n (i + 1) (zbk T k (f i)) (zst1 T k v (f i)) else 0
/-- the ODDS of the row f of n people -/
def zodds (T : zTo) (f : Nat → Nat) (n : Nat) : Nat := if n = 0 ∨ f 0 ≠ T.1 12 then 0 else zod T f (n - 1) 1 (zfk T) 1000000000
theorem zod_le {T : zTo} (hT : zTok T) (f : Nat → Nat) (hf : ∀ i, f i < 8) : ∀ n i k v, zod T f n i k v ≤ v
  | 0, _, k, v => zop1_le hT k v
  | n + 1, i, k, v => by
    simp only [zod]
    split
    · exact Nat.le_trans (zod_le hT f hf n _ _ _) (zst1_le k v (hf i))
    · exact Nat.zero_le _
/-! CASES -/
def zps (T : zTo) (k : zKy) (sn j : Nat) : Nat := fb_sm (fun y => if (ztb T k (zcC T k)).testBit y then sn * zwu T k.1 y / zwt T k.1 (ztb T k (zcC T k)) 8 else 0) j
def zpt (T : zTo) (k : zKy) (sn y : Nat) : Nat := if ztb T k (zcC T k) / 2 ^ y = 1 then sn - zps T k sn y else sn * zwu T k.1 y / zwt T k.1 (ztb T k (zcC T k)) 8
def zds (T : zTo) (k : zKy) (sn : Nat) (t : zKy → Nat) : Nat → zKy → Nat
  | 0 => t
  | y + 1 => if (ztb T k (zcC T k)).testBit y then (fun q => if q = zbk T k y then zds T k sn t y q + zpt T k sn y else zds T k sn t y q) else zds T k sn t y
def zsp (T : zTo) (k : zKy) (s : (zKy → Nat) × (Nat → Nat)) : (zKy → Nat) × (Nat → Nat) :=
  (if s.1 k - zop1 T k (s.1 k) = 0 ∨ zwt T k.1 (ztb T k (zcC T k)) 8 = 0 then s.1 else zds T k (s.1 k - zop1 T k (s.1 k)) s.1 8, fun i => if i = k.1 * 12 + (k.2.1 - 1) then s.2 i + zop1 T k (s.1 k) else s.2 i)
def zt0 (T : zTo) : zKy → Nat := fun q => if q = zfk T then 1000000000 else 0
def zsn (T : zTo) (K : List zKy) : Nat → (zKy → Nat) × (Nat → Nat)
  | 0 => (zt0 T, fun _ => 0)
  | n + 1 => match K[n]? with
    | none => zsn T K n
    | some k => zsp T k (zsn T K n)
/-- CASES: of each p, h at p * 12 + (h - 1) -/
def zcas (T : zTo) (K : List zKy) : Nat → Nat := (zsn T K K.length).2
theorem add_div_le {a b c : Nat} (hc : 0 < c) : a / c + b / c ≤ (a + b) / c := by
  rw [Nat.le_div_iff_mul_le hc, Nat.add_mul]
  exact Nat.add_le_add (Nat.div_mul_le_self a c) (Nat.div_mul_le_self b c)
theorem fl_sum {u : Nat → Nat} {m : Nat → Bool} {sn U : Nat} (hU : 0 < U) : ∀ j, fb_sm (fun y => if m y then sn * u y / U else 0) j ≤ sn * fb_sm (fun y => if m y then u y else 0) j / U
  | 0 => by simp [fb_sm]
  | j + 1 => by
    have ih := fl_sum (u := u) (m := m) (sn := sn) hU j
    simp only [fb_sm_succ]
    by_cases hb : m j = true
    · rw [if_pos hb, if_pos hb, Nat.mul_add]
      exact Nat.le_trans (Nat.add_le_add_right ih _) (add_div_le hU)
    · rw [if_neg hb, if_neg hb]; exact ih
theorem sm_le_of {f : Nat → Nat} {j n : Nat} (h : j ≤ n) : fb_sm f j ≤ fb_sm f n := by
  have := fb_sm_mono f j (n - j)
  rwa [Nat.add_sub_cancel' h] at this
theorem zps_le {T : zTo} {k : zKy} {sn : Nat} (hU : 0 < zwt T k.1 (ztb T k (zcC T k)) 8) {j : Nat} (hj : j ≤ 8) : zps T k sn j ≤ sn := by
  refine Nat.le_trans (fl_sum hU j) (Nat.div_le_of_le_mul ?_)
  rw [Nat.mul_comm]
  exact Nat.mul_le_mul_right _ (sm_le_of hj)
theorem zpt_le {T : zTo} {k : zKy} {sn : Nat} (hU : 0 < zwt T k.1 (ztb T k (zcC T k)) 8) {y : Nat} (hy : y < 8) (hb : (ztb T k (zcC T k)).testBit y = true) : zpt T k sn y ≤ sn - zps T k sn y := by
  have h := zps_le (sn := sn) hU (show y + 1 ≤ 8 by omega)
  simp only [zpt]
  split
  · exact Nat.le_refl _
  · simp only [zps, fb_sm_succ, hb, if_true] at h ⊢
    omega
/-- what has gone on to those below j -/
def zqs (T : zTo) (k : zKy) (sn j : Nat) : Nat := fb_sm (fun y => if (ztb T k (zcC T k)).testBit y then zpt T k sn y else 0) j
theorem tb_div {B j : Nat} (h : B.testBit j = true) : B / 2 ^ j % 2 = 1 := tb_of.mp h
theorem zq_gen {B U sn : Nat} {u ps qs : Nat → Nat} (p0 : ps 0 = 0) (q0 : qs 0 = 0) (pS : ∀ j, ps (j + 1) = ps j + (if B.testBit j then sn * u j / U else 0)) (qS : ∀ j, qs (j + 1) = qs j + (if B.testBit j then (if B / 2 ^ j = 1 then sn - ps j else sn * u j / U) else 0)) (hle : ∀ j, j ≤ 8 → ps j ≤ sn) : ∀ j, j ≤ 8 → (1 ≤ B / 2 ^ j → qs j = ps j) ∧ qs j ≤ sn
  | 0, _ => ⟨fun _ => by rw [p0, q0], by rw [q0]; exact Nat.zero_le _⟩
  | j + 1, hj => by
    obtain ⟨h1, h2⟩ := zq_gen p0 q0 pS qS hle j (by omega)
    have hp := hle j (by omega)
    have hp1 := hle (j + 1) hj
    have e : B / 2 ^ (j + 1) = B / 2 ^ j / 2 := by rw [Nat.pow_succ, Nat.div_div_eq_div_mul]
    rw [pS] at hp1
    rw [pS, qS, e]
    by_cases hb : B.testBit j = true
    · have h3 := tb_div hb
      simp only [hb, if_true] at hp1 ⊢
      generalize B / 2 ^ j = D at h1 h3 ⊢
      have h4 := h1 (by omega)
      by_cases hl : D = 1
      · simp only [hl, if_true]
        refine ⟨fun h => by omega, by omega⟩
      · simp only [hl, if_false]
        rw [h4]
        exact ⟨fun _ => rfl, hp1⟩
    · simp only [hb] at hp1 ⊢
      generalize B / 2 ^ j = D at h1 ⊢
      refine ⟨fun h => ?_, by simpa using h2⟩
      have := h1 (by omega)
      simpa using this
theorem zqs_le {T : zTo} {k : zKy} {sn : Nat} (hU : 0 < zwt T k.1 (ztb T k (zcC T k)) 8) : ∀ j, j ≤ 8 → (1 ≤ ztb T k (zcC T k) / 2 ^ j → zqs T k sn j = zps T k sn j) ∧ zqs T k sn j ≤ sn :=
  zq_gen (ps := zps T k sn) (qs := zqs T k sn) rfl rfl (fun j => rfl) (fun j => rfl) (fun j hj => zps_le hU hj)
theorem sum_upd {a : zKy} {t : zKy → Nat} {d : Nat} : ∀ {L : List zKy}, L.Nodup → (L.map (fun q => if q = a then t q + d else t q)).sum ≤ (L.map t).sum + d
  | [], _ => by simp
  | q :: L, h => by
    obtain ⟨h1, h2⟩ := List.nodup_cons.mp h
    simp only [List.map_cons, List.sum_cons]
    by_cases hq : q = a
    · subst hq
      have e : L.map (fun r => if r = q then t r + d else t r) = L.map t := List.map_congr_left fun r hr => by
        have : r ≠ q := fun e => h1 (e ▸ hr)
        simp [this]
      rw [e]; simp; omega
    · have := sum_upd (a := a) (t := t) (d := d) h2
      simp only [hq, if_false]; omega
theorem zds_sum {T : zTo} {k : zKy} {sn : Nat} {t : zKy → Nat} {L : List zKy} (hL : L.Nodup) : ∀ j, (L.map (zds T k sn t j)).sum ≤ (L.map t).sum + zqs T k sn j
  | 0 => by simp [zds, zqs, fb_sm]
  | j + 1 => by
    have ih := zds_sum (T := T) (k := k) (sn := sn) (t := t) hL j
    simp only [zds, zqs, fb_sm_succ] at ih ⊢
    split
    · have := sum_upd (a := zbk T k j) (t := zds T k sn t j) (d := zpt T k sn j) hL
      omega
    · omega
theorem zgr_nodup (T : zTo) : ∀ n, (zgr T n).Nodup
  | 0 => by simp [zgr]
  | n + 1 => by
    have ih := zgr_nodup T n
    simp only [zgr]
    split
    · exact ih
    · rename_i k _
      have : ∀ y, (zgx T k (zgr T n) y).Nodup := by
        intro y
        induction y with
        | zero => exact ih
        | succ y ih =>
          simp only [zgx]
          split
          · unfold zins
            split
            · exact ih
            · rename_i hn
              refine List.nodup_append.mpr ⟨ih, by simp, fun a ha b hb => ?_⟩
              rw [List.mem_singleton.mp hb]
              exact fun e => hn (e ▸ ha)
          · exact ih
      exact this 8
theorem sm_upd1 {c : Nat → Nat} {i d : Nat} : ∀ n, fb_sm (fun j => if j = i then c j + d else c j) n ≤ fb_sm c n + d
  | 0 => by simp [fb_sm]
  | n + 1 => by
    have ih := sm_upd1 (c := c) (i := i) (d := d) n
    simp only [fb_sm_succ]
    by_cases h : n = i
    · subst h
      have e : fb_sm (fun j => if j = n then c j + d else c j) n = fb_sm c n := fb_sm_cong fun j hj => by
        have : j ≠ n := by omega
        simp [this]
      rw [e]; simp; omega
    · simp only [h, if_false]; omega
theorem zmass {T : zTo} (hT : zTok T) {K : List zKy} (hK : K.Nodup) : ∀ n, ((K.drop n).map (zsn T K n).1).sum + fb_sm (zsn T K n).2 96 ≤ 1000000000
  | 0 => by
    have h0 : fb_sm (fun _ => 0) 96 = 0 := by rw [fb_sm_const]; 
    simp only [zsn, List.drop_zero, h0, Nat.add_zero]
    have : ∀ L : List zKy, L.Nodup → (L.map (zt0 T)).sum ≤ 1000000000 := by
      intro L hL
      have h1 := sum_upd (a := zfk T) (t := fun _ => 0) (d := 1000000000) hL
      have e : (L.map (fun _ : zKy => 0)).sum = 0 := by
        clear h1 hL
        induction L with
        | nil => rfl
        | cons q L ih => simp [ih]
      rw [e] at h1
      have e2 : zt0 T = fun q => if q = zfk T then 0 + 1000000000 else 0 := by funext q; simp [zt0]
      rw [e2]; simpa using h1
    exact this K hK
  | n + 1 => by
    have ih := zmass hT hK n
    simp only [zsn]
    cases hk : K[n]? with
    | none =>
      have h1 := List.getElem?_eq_none_iff.mp hk
      rw [List.drop_eq_nil_of_le (by omega)] at ih ⊢
      exact ih
    | some k =>
      have hlt := (List.getElem?_eq_some_iff.mp hk).1
      have hd : K.drop n = k :: K.drop (n + 1) := by
        rw [List.drop_eq_getElem_cons hlt]
        congr 1
        exact (List.getElem?_eq_some_iff.mp hk).2
      rw [hd, List.map_cons, List.sum_cons] at ih
      have hnd : (K.drop (n + 1)).Nodup := (List.drop_sublist _ _).nodup hK
      generalize hs : zsn T K n = s at ih
      have hop := zop1_le hT k (s.1 k)
      have h2 := sm_upd1 (c := s.2) (i := k.1 * 12 + (k.2.1 - 1)) (d := zop1 T k (s.1 k)) 96
      simp only [zsp]
      split
      · omega
      · rename_i hne
        have hU : 0 < zwt T k.1 (ztb T k (zcC T k)) 8 := by omega
        have h3 := zds_sum (T := T) (k := k) (sn := s.1 k - zop1 T k (s.1 k)) (t := s.1) hnd 8
        have h4 := (zqs_le (sn := s.1 k - zop1 T k (s.1 k)) hU 8 (Nat.le_refl 8)).2
        omega
theorem sum_ge {t : zKy → Nat} : ∀ {L : List zKy} {q : zKy}, q ∈ L → t q ≤ (L.map t).sum
  | [], q, h => by simp at h
  | a :: L, q, h => by
    simp only [List.map_cons, List.sum_cons]
    rcases List.mem_cons.mp h with rfl | h
    · omega
    · have := sum_ge (t := t) h; omega
theorem zsn_le {T : zTo} (hT : zTok T) {K : List zKy} (hK : K.Nodup) {n : Nat} {k : zKy} (hk : K[n]? = some k) : (zsn T K n).1 k ≤ 1000000000 := by
  have h := zmass hT hK n
  have hlt := (List.getElem?_eq_some_iff.mp hk).1
  have : k ∈ K.drop n := by
    rw [List.drop_eq_getElem_cons hlt, (List.getElem?_eq_some_iff.mp hk).2]
    exact List.mem_cons_self
  have := sum_ge (t := (zsn T K n).1) this
  omega
theorem zcas_le {T : zTo} (hT : zTok T) {K : List zKy} (hK : K.Nodup) {i : Nat} (hi : i < 96) : zcas T K i ≤ 1000000000 := by
  have h := zmass hT hK K.length
  have := fb_sm_part (zsn T K K.length).2 hi
  simp only [zcas]; omega
/-! THE CHAIN -/
def ztl (T : zTo) (k : zKy) (s : (zKy → Nat) × (zKy → Nat)) : Nat → (zKy → Nat) × (zKy → Nat)
  | 0 => s
  | y + 1 => if zmay T k y = true ∧ 0 < zst1 T k (s.1 k) y ∧ ((ztl T k s y).1 (zbk T k y) < zst1 T k (s.1 k) y ∨ ((ztl T k s y).1 (zbk T k y) = zst1 T k (s.1 k) y ∧ 8 * s.2 k + y < (ztl T k s y).2 (zbk T k y))) then
      (fun q => if q = zbk T k y then zst1 T k (s.1 k) y else (ztl T k s y).1 q, fun q => if q = zbk T k y then 8 * s.2 k + y else (ztl T k s y).2 q)
    else ztl T k s y
def zchn (T : zTo) (K : List zKy) : Nat → (zKy → Nat) × (zKy → Nat)
  | 0 => (zt0 T, fun _ => T.1 12)
  | n + 1 => match K[n]? with
    | none => zchn T K n
    | some k => if 0 < (zchn T K n).1 k ∧ k.2.1 < T.1 7 then ztl T k (zchn T K n) 8 else zchn T K n
def zbet (s : (zKy → Nat) × (zKy → Nat)) (k q : zKy) : Bool := decide (s.1 q < s.1 k) || (decide (s.1 k = s.1 q) && decide (s.2 k < s.2 q))
def zfo1 (s : (zKy → Nat) × (zKy → Nat)) (r : Option zKy) (k : zKy) : Option zKy := match r with
  | none => some k
  | some q => if zbet s k q then some k else some q
/-- the likeliest HAND at its END among the first n -/
def zfnd (T : zTo) (K : List zKy) : Nat → Option zKy
  | 0 => none
  | n + 1 => match K[n]? with
    | none => zfnd T K n
    | some k => if 0 < (zchn T K n).1 k ∧ ¬ k.2.1 < T.1 7 then zfo1 (zchn T K n) (zfnd T K n) k else zfnd T K n
theorem ztl_self {T : zTo} {k : zKy} {s : (zKy → Nat) × (zKy → Nat)} : ∀ y, (ztl T k s y).1 k = s.1 k ∧ (ztl T k s y).2 k = s.2 k
  | 0 => ⟨rfl, rfl⟩
  | y + 1 => by
    have ih := ztl_self (T := T) (k := k) (s := s) y
    have h : ¬ k = zbk T k y := fun e => by
      have := congrArg (fun q : zKy => q.2.1) e
      simp [zbk] at this
    simp only [ztl]
    split
    · simp [h, ih.1, ih.2]
    · exact ih
def zcok (s : (zKy → Nat) × (zKy → Nat)) : Prop := ∀ q, s.1 q ≤ 1000000000 ∧ (0 < s.1 q → s.2 q < 8 ^ q.2.1)
theorem ztl_ok {T : zTo} {k : zKy} {s : (zKy → Nat) × (zKy → Nat)} (hs : zcok s) (hk : 0 < s.1 k) : ∀ y, y ≤ 8 → zcok (ztl T k s y)
  | 0, _ => hs
  | y + 1, hy => by
    have ih := ztl_ok (T := T) hs hk y (by omega)
    simp only [ztl]
    split
    · intro q
      by_cases hq : q = zbk T k y
      · subst hq
        simp only [if_true]
        have h1 := zst1_le (T := T) k (s.1 k) (show y < 8 by omega)
        have h2 := hs k
        refine ⟨by omega, fun _ => ?_⟩
        have h3 := h2.2 hk
        simp only [zbk, Nat.pow_succ]
        omega
      · simp only [hq, if_false]; exact ih q
    · exact ih
theorem zchn_ok {T : zTo} (hT : zTok T) {K : List zKy} : ∀ n, zcok (zchn T K n)
  | 0 => fun q => by
    simp only [zchn, zt0]
    by_cases hq : q = zfk T
    · subst hq
      simp only [if_true]
      refine ⟨Nat.le_refl _, fun _ => ?_⟩
      have := hT.2.2.2.2.2.2.2.2.1.1
      simp only [zfk]; omega
    · simp [hq]
  | n + 1 => by
    have ih := zchn_ok hT (K := K) n
    simp only [zchn]
    split
    · exact ih
    · split
      · rename_i k _ h
        exact ztl_ok ih h.1 8 (Nat.le_refl 8)
      · exact ih
/-! the last hand, when all follow what is BEST -/
def zlst (T : zTo) : Nat → zKy → zKy
  | 0, k => k
  | n + 1, k => match zcC T k with
    | none => k
    | some q => zlst T n (zbk T k q)
