/-! the law's helpers -/
theorem zK.nc {Δ : zD} {s : State} (h : zK Δ s) : va_Nc "java/lang/IllegalArgumentException" "java/util/NoSuchElementException" s := h.2.2.1.2.2
theorem zL_in : vp_in 0 1 := by unfold vp_in; decide
theorem zok_ref {w : zW} {i : Nat} {s : Nat ⊕ (Bool × Nat)} (h : w.1 i = some s) : zokv w (.ref i) = true := by simp [zokv, h]
set_option maxRecDepth 100000 in
theorem zL_ia : Cond.castable "java/lang/IllegalArgumentException" "java/lang/IllegalArgumentException" ∈ lw_tbl := (List.mem_of_getElem? (i := 671) rfl)
set_option maxRecDepth 100000 in
theorem zL_ns : Cond.castable zNS zNS ∈ lw_tbl := (List.mem_of_getElem? (i := 922) rfl)
set_option maxRecDepth 100000 in
theorem zL_lia : Cond.classLink RL 13 "java/lang/IllegalArgumentException" ∈ lw_tbl := (List.mem_of_getElem? (i := 664) rfl)
set_option maxRecDepth 100000 in
theorem zL_lns : Cond.classLink RL 18 zNS ∈ lw_tbl := (List.mem_of_getElem? (i := 915) rfl)
abbrev mL_town : zMI := (RL, cL_town, 4, some .int, [⟨0, 9, 12, 13⟩], false)
set_option maxRecDepth 100000 in
theorem mfL_town : zMfw yL_town mL_town [(0, 9, 12, 13)] 3 := ⟨(List.mem_of_getElem? (i := 663) rfl), by decide +kernel, by decide +kernel, rfl, rfl, rfl, by decide, by decide, by decide⟩
theorem zL_town {Δ : zD} {h mc ms : Nat} {fx : Bool} {w : zW} {a1 : Int32} {QR : Option Value → zW → Prop} {QX : String → zW → Prop} (hM : zM Δ h mc ms fx yX8_town mX8_town [.ref 0, .int a1] w QR QX) (hs : w.1 0 = some (.inl 8)) (ho : w.1 190 = some (.inr (true, 1))) (h191 : w.1 191 = none) (hR : ∀ r c, QR r c → ∃ v, r = some (.int v) ∧ c.1 190 = some (.inr (true, 1))) (hX : ∀ E c, QX E c → c.1 191 = none ∧ (E = "java/lang/IllegalArgumentException")) :
    zHw Δ (h + 1) mc ms yL_town mL_town [(0, 9, 12, 13)] [.ref 0, .int a1, .ref 190] w (fun r d => (∃ v c, QR (some (.int v)) c ∧ r = some (.int 0) ∧ d = zsl c 190 0 v.toInt64) ∨ (∃ E, QX E d ∧ ((E = "java/lang/IllegalArgumentException" ∧ r = some (.int 1))))) := by
  refine zHw.of mfL_town (Nat.le_of_ble_eq_true rfl) (fun Q hQ => ?_)
  refine zJ_aload_n (x := 190) dL_town_0 rfl ?_
  refine zJ_iconst (v := 0) dL_town_1 (by decide) ?_
  refine zJ_aload_n (x := 0) dL_town_2 rfl ?_
  refine zJ_iload_n (x := a1) dL_town_3 rfl ?_
  refine zJ_callV (As := [.int a1]) (st := [.int 0, .ref 190]) dL_town_4 sL_7 mfX8_town hM (Or.inl pL_7) hs rfl rfl (Or.inr ⟨rfl, by simp [zokv, hs, ho], by simp [lv_args, zokv, hs, ho]⟩) (by decide) ⟨Nat.le_refl _, by show 38 * h + 38 ≤ 38 * (h + 1); omega⟩ ⟨by show 0 + mc ≤ mc; omega, by show 0 + ms ≤ ms; omega⟩ (fun r c hq => ?_) (fun E c hq => ?_)
  · obtain ⟨v, rfl, h9⟩ := hR r c hq
    refine zJ_i2l dL_town_7 ?_
    refine zJ_last dL_town_8 h9 zL_in ?_
    refine zJ_goto (tgt := 15) dL_town_9 (by decide) ?_
    refine zJ_iconst (v := 0) dL_town_15 (by decide) ?_
    exact zJ_iret dL_town_16 rfl (by show 0 + mc ≤ mc; omega) (by show 0 + ms ≤ ms; omega) (hQ _ _ (Or.inl ⟨v, c, hq, rfl, rfl⟩))
  · obtain ⟨h9, hE⟩ := hX E c hq
    obtain rfl := hE
    refine zT_c1 (x := ⟨0, 9, 12, 13⟩) rfl ⟨by decide, by decide, zL_lia⟩ zL_ia h9 h191 ?_
    refine zJ_astore_n dL_town_12 (by decide) (fun _ => rfl) (fun y _ => ?_)
    refine zJ_iconst (v := 1) dL_town_13 (by decide) ?_
    exact zJ_iret dL_town_14 rfl (by show 0 + mc ≤ mc; omega) (by show 0 + ms ≤ ms; omega) (hQ _ _ (Or.inr ⟨_, hq, rfl, rfl⟩))
abbrev mL_count : zMI := (RL, cL_count, 4, some .int, [⟨0, 9, 12, 18⟩], false)
set_option maxRecDepth 100000 in
theorem mfL_count : zMfw yL_count mL_count [(0, 9, 12, 18)] 3 := ⟨(List.mem_of_getElem? (i := 914) rfl), by decide +kernel, by decide +kernel, rfl, rfl, rfl, by decide, by decide, by decide⟩
theorem zL_count {Δ : zD} {h mc ms : Nat} {fx : Bool} {w : zW} {a1 : Int32} {QR : Option Value → zW → Prop} {QX : String → zW → Prop} (hM : zM Δ h mc ms fx yX8_count mX8_count [.ref 0, .int a1] w QR QX) (hs : w.1 0 = some (.inl 8)) (ho : w.1 190 = some (.inr (true, 1))) (h191 : w.1 191 = none) (hR : ∀ r c, QR r c → ∃ v, r = some (.int v) ∧ c.1 190 = some (.inr (true, 1))) (hX : ∀ E c, QX E c → c.1 191 = none ∧ (E = zNS)) :
    zHw Δ (h + 1) mc ms yL_count mL_count [(0, 9, 12, 18)] [.ref 0, .int a1, .ref 190] w (fun r d => (∃ v c, QR (some (.int v)) c ∧ r = some (.int 0) ∧ d = zsl c 190 0 v.toInt64) ∨ (∃ E, QX E d ∧ ((E = zNS ∧ r = some (.int 1))))) := by
  refine zHw.of mfL_count (Nat.le_of_ble_eq_true rfl) (fun Q hQ => ?_)
  refine zJ_aload_n (x := 190) dL_count_0 rfl ?_
  refine zJ_iconst (v := 0) dL_count_1 (by decide) ?_
  refine zJ_aload_n (x := 0) dL_count_2 rfl ?_
  refine zJ_iload_n (x := a1) dL_count_3 rfl ?_
  refine zJ_callV (As := [.int a1]) (st := [.int 0, .ref 190]) dL_count_4 sL_15 mfX8_count hM (Or.inl pL_15) hs rfl rfl (Or.inr ⟨rfl, by simp [zokv, hs, ho], by simp [lv_args, zokv, hs, ho]⟩) (by decide) ⟨Nat.le_refl _, by show 38 * h + 38 ≤ 38 * (h + 1); omega⟩ ⟨by show 0 + mc ≤ mc; omega, by show 0 + ms ≤ ms; omega⟩ (fun r c hq => ?_) (fun E c hq => ?_)
  · obtain ⟨v, rfl, h9⟩ := hR r c hq
    refine zJ_i2l dL_count_7 ?_
    refine zJ_last dL_count_8 h9 zL_in ?_
    refine zJ_goto (tgt := 15) dL_count_9 (by decide) ?_
    refine zJ_iconst (v := 0) dL_count_15 (by decide) ?_
    exact zJ_iret dL_count_16 rfl (by show 0 + mc ≤ mc; omega) (by show 0 + ms ≤ ms; omega) (hQ _ _ (Or.inl ⟨v, c, hq, rfl, rfl⟩))
  · obtain ⟨h9, hE⟩ := hX E c hq
    obtain rfl := hE
    refine zT_c1 (x := ⟨0, 9, 12, 18⟩) rfl ⟨by decide, by decide, zL_lns⟩ zL_ns h9 h191 ?_
    refine zJ_astore_n dL_count_12 (by decide) (fun _ => rfl) (fun y _ => ?_)
    refine zJ_iconst (v := 1) dL_count_13 (by decide) ?_
    exact zJ_iret dL_count_14 rfl (by show 0 + mc ≤ mc; omega) (by show 0 + ms ≤ ms; omega) (hQ _ _ (Or.inr ⟨_, hq, rfl, rfl⟩))
abbrev mL_person : zMI := (RL, cL_person, 5, some .int, [⟨0, 10, 13, 18⟩], false)
set_option maxRecDepth 100000 in
theorem mfL_person : zMfw yL_person mL_person [(0, 10, 13, 18)] 4 := ⟨(List.mem_of_getElem? (i := 938) rfl), by decide +kernel, by decide +kernel, rfl, rfl, rfl, by decide, by decide, by decide⟩
theorem zL_person {Δ : zD} {h mc ms : Nat} {fx : Bool} {w : zW} {a1 a2 : Int32} {QR : Option Value → zW → Prop} {QX : String → zW → Prop} (hM : zM Δ h mc ms fx yX8_person mX8_person [.ref 0, .int a1, .int a2] w QR QX) (hs : w.1 0 = some (.inl 8)) (ho : w.1 190 = some (.inr (true, 1))) (h191 : w.1 191 = none) (hR : ∀ r c, QR r c → ∃ v, r = some (.int v) ∧ c.1 190 = some (.inr (true, 1))) (hX : ∀ E c, QX E c → c.1 191 = none ∧ (E = zNS)) :
    zHw Δ (h + 1) mc ms yL_person mL_person [(0, 10, 13, 18)] [.ref 0, .int a1, .int a2, .ref 190] w (fun r d => (∃ v c, QR (some (.int v)) c ∧ r = some (.int 0) ∧ d = zsl c 190 0 v.toInt64) ∨ (∃ E, QX E d ∧ ((E = zNS ∧ r = some (.int 1))))) := by
  refine zHw.of mfL_person (Nat.le_of_ble_eq_true rfl) (fun Q hQ => ?_)
  refine zJ_aload_n (x := 190) dL_person_0 rfl ?_
  refine zJ_iconst (v := 0) dL_person_1 (by decide) ?_
  refine zJ_aload_n (x := 0) dL_person_2 rfl ?_
  refine zJ_iload_n (x := a1) dL_person_3 rfl ?_
  refine zJ_iload_n (x := a2) dL_person_4 rfl ?_
  refine zJ_callV (As := [.int a1, .int a2]) (st := [.int 0, .ref 190]) dL_person_5 sL_20 mfX8_person hM (Or.inl pL_20) hs rfl rfl (Or.inr ⟨rfl, by simp [zokv, hs, ho], by simp [lv_args, zokv, hs, ho]⟩) (by decide) ⟨Nat.le_refl _, by show 38 * h + 38 ≤ 38 * (h + 1); omega⟩ ⟨by show 0 + mc ≤ mc; omega, by show 0 + ms ≤ ms; omega⟩ (fun r c hq => ?_) (fun E c hq => ?_)
  · obtain ⟨v, rfl, h9⟩ := hR r c hq
    refine zJ_i2l dL_person_8 ?_
    refine zJ_last dL_person_9 h9 zL_in ?_
    refine zJ_goto (tgt := 17) dL_person_10 (by decide) ?_
    refine zJ_iconst (v := 0) dL_person_17 (by decide) ?_
    exact zJ_iret dL_person_18 rfl (by show 0 + mc ≤ mc; omega) (by show 0 + ms ≤ ms; omega) (hQ _ _ (Or.inl ⟨v, c, hq, rfl, rfl⟩))
  · obtain ⟨h9, hE⟩ := hX E c hq
    obtain rfl := hE
    refine zT_c1 (x := ⟨0, 10, 13, 18⟩) rfl ⟨by decide, by decide, zL_lns⟩ zL_ns h9 h191 ?_
    refine zJ_astore dL_person_13 (by decide) (fun _ => rfl) (fun y _ => ?_)
    refine zJ_iconst (v := 1) dL_person_15 (by decide) ?_
    exact zJ_iret dL_person_16 rfl (by show 0 + mc ≤ mc; omega) (by show 0 + ms ≤ ms; omega) (hQ _ _ (Or.inr ⟨_, hq, rfl, rfl⟩))
abbrev mL_weight : zMI := (RL, cL_weight, 5, some .int, [⟨0, 10, 13, 18⟩], false)
set_option maxRecDepth 100000 in
theorem mfL_weight : zMfw yL_weight mL_weight [(0, 10, 13, 18)] 4 := ⟨(List.mem_of_getElem? (i := 955) rfl), by decide +kernel, by decide +kernel, rfl, rfl, rfl, by decide, by decide, by decide⟩
theorem zL_weight {Δ : zD} {h mc ms : Nat} {fx : Bool} {w : zW} {a1 a2 : Int32} {QR : Option Value → zW → Prop} {QX : String → zW → Prop} (hM : zM Δ h mc ms fx yX8_weight mX8_weight [.ref 0, .int a1, .int a2] w QR QX) (hs : w.1 0 = some (.inl 8)) (ho : w.1 190 = some (.inr (true, 1))) (h191 : w.1 191 = none) (hR : ∀ r c, QR r c → ∃ v, r = some (.int v) ∧ c.1 190 = some (.inr (true, 1))) (hX : ∀ E c, QX E c → c.1 191 = none ∧ (E = zNS)) :
    zHw Δ (h + 1) mc ms yL_weight mL_weight [(0, 10, 13, 18)] [.ref 0, .int a1, .int a2, .ref 190] w (fun r d => (∃ v c, QR (some (.int v)) c ∧ r = some (.int 0) ∧ d = zsl c 190 0 v.toInt64) ∨ (∃ E, QX E d ∧ ((E = zNS ∧ r = some (.int 1))))) := by
  refine zHw.of mfL_weight (Nat.le_of_ble_eq_true rfl) (fun Q hQ => ?_)
  refine zJ_aload_n (x := 190) dL_weight_0 rfl ?_
  refine zJ_iconst (v := 0) dL_weight_1 (by decide) ?_
  refine zJ_aload_n (x := 0) dL_weight_2 rfl ?_
  refine zJ_iload_n (x := a1) dL_weight_3 rfl ?_
  refine zJ_iload_n (x := a2) dL_weight_4 rfl ?_
  refine zJ_callV (As := [.int a1, .int a2]) (st := [.int 0, .ref 190]) dL_weight_5 sL_24 mfX8_weight hM (Or.inl pL_24) hs rfl rfl (Or.inr ⟨rfl, by simp [zokv, hs, ho], by simp [lv_args, zokv, hs, ho]⟩) (by decide) ⟨Nat.le_refl _, by show 38 * h + 38 ≤ 38 * (h + 1); omega⟩ ⟨by show 0 + mc ≤ mc; omega, by show 0 + ms ≤ ms; omega⟩ (fun r c hq => ?_) (fun E c hq => ?_)
  · obtain ⟨v, rfl, h9⟩ := hR r c hq
    refine zJ_i2l dL_weight_8 ?_
    refine zJ_last dL_weight_9 h9 zL_in ?_
    refine zJ_goto (tgt := 17) dL_weight_10 (by decide) ?_
    refine zJ_iconst (v := 0) dL_weight_17 (by decide) ?_
    exact zJ_iret dL_weight_18 rfl (by show 0 + mc ≤ mc; omega) (by show 0 + ms ≤ ms; omega) (hQ _ _ (Or.inl ⟨v, c, hq, rfl, rfl⟩))
  · obtain ⟨h9, hE⟩ := hX E c hq
    obtain rfl := hE
    refine zT_c1 (x := ⟨0, 10, 13, 18⟩) rfl ⟨by decide, by decide, zL_lns⟩ zL_ns h9 h191 ?_
    refine zJ_astore dL_weight_13 (by decide) (fun _ => rfl) (fun y _ => ?_)
    refine zJ_iconst (v := 1) dL_weight_15 (by decide) ?_
    exact zJ_iret dL_weight_16 rfl (by show 0 + mc ≤ mc; omega) (by show 0 + ms ≤ ms; omega) (hQ _ _ (Or.inr ⟨_, hq, rfl, rfl⟩))
abbrev mL_opened : zMI := (RL, cL_opened, 5, some .int, [⟨0, 10, 13, 18⟩, ⟨0, 10, 17, 13⟩], false)
set_option maxRecDepth 100000 in
theorem mfL_opened : zMfw yL_opened mL_opened [(0, 10, 13, 18), (0, 10, 17, 13)] 4 := ⟨(List.mem_of_getElem? (i := 962) rfl), by decide +kernel, by decide +kernel, rfl, rfl, rfl, by decide, by decide, by decide⟩
theorem zL_opened {Δ : zD} {h mc ms : Nat} {fx : Bool} {w : zW} {a1 a2 : Int32} {QR : Option Value → zW → Prop} {QX : String → zW → Prop} (hM : zM Δ h mc ms fx yX8_opened mX8_opened [.ref 0, .int a1, .int a2] w QR QX) (hs : w.1 0 = some (.inl 8)) (ho : w.1 190 = some (.inr (true, 1))) (h191 : w.1 191 = none) (hR : ∀ r c, QR r c → ∃ v, r = some (.int v) ∧ c.1 190 = some (.inr (true, 1))) (hX : ∀ E c, QX E c → c.1 191 = none ∧ (E = zNS ∨ E = "java/lang/IllegalArgumentException")) :
    zHw Δ (h + 1) mc ms yL_opened mL_opened [(0, 10, 13, 18), (0, 10, 17, 13)] [.ref 0, .int a1, .int a2, .ref 190] w (fun r d => (∃ v c, QR (some (.int v)) c ∧ r = some (.int 0) ∧ d = zsl c 190 0 v.toInt64) ∨ (∃ E, QX E d ∧ ((E = zNS ∧ r = some (.int 1)) ∨ (E = "java/lang/IllegalArgumentException" ∧ r = some (.int 2))))) := by
  refine zHw.of mfL_opened (Nat.le_of_ble_eq_true rfl) (fun Q hQ => ?_)
  refine zJ_aload_n (x := 190) dL_opened_0 rfl ?_
  refine zJ_iconst (v := 0) dL_opened_1 (by decide) ?_
  refine zJ_aload_n (x := 0) dL_opened_2 rfl ?_
  refine zJ_iload_n (x := a1) dL_opened_3 rfl ?_
  refine zJ_iload_n (x := a2) dL_opened_4 rfl ?_
  refine zJ_callV (As := [.int a1, .int a2]) (st := [.int 0, .ref 190]) dL_opened_5 sL_27 mfX8_opened hM (Or.inl pL_27) hs rfl rfl (Or.inr ⟨rfl, by simp [zokv, hs, ho], by simp [lv_args, zokv, hs, ho]⟩) (by decide) ⟨Nat.le_refl _, by show 38 * h + 38 ≤ 38 * (h + 1); omega⟩ ⟨by show 0 + mc ≤ mc; omega, by show 0 + ms ≤ ms; omega⟩ (fun r c hq => ?_) (fun E c hq => ?_)
  · obtain ⟨v, rfl, h9⟩ := hR r c hq
    refine zJ_i2l dL_opened_8 ?_
    refine zJ_last dL_opened_9 h9 zL_in ?_
    refine zJ_goto (tgt := 21) dL_opened_10 (by decide) ?_
    refine zJ_iconst (v := 0) dL_opened_21 (by decide) ?_
    exact zJ_iret dL_opened_22 rfl (by show 0 + mc ≤ mc; omega) (by show 0 + ms ≤ ms; omega) (hQ _ _ (Or.inl ⟨v, c, hq, rfl, rfl⟩))
  · obtain ⟨h9, hE⟩ := hX E c hq
    rcases hE with rfl | rfl
    · refine zT_c1 (x := ⟨0, 10, 13, 18⟩) rfl ⟨by decide, by decide, zL_lns⟩ zL_ns h9 h191 ?_
      refine zJ_astore dL_opened_13 (by decide) (fun _ => rfl) (fun y _ => ?_)
      refine zJ_iconst (v := 1) dL_opened_15 (by decide) ?_
      exact zJ_iret dL_opened_16 rfl (by show 0 + mc ≤ mc; omega) (by show 0 + ms ≤ ms; omega) (hQ _ _ (Or.inr ⟨_, hq, Or.inl ⟨rfl, rfl⟩⟩))
    · refine zT_c2 (y := ⟨0, 10, 13, 18⟩) (x := ⟨0, 10, 17, 13⟩) rfl ⟨by decide, by decide, zL_lns⟩ (fun s hK => zK.nc hK) ⟨by decide, by decide, zL_lia⟩ zL_ia h9 h191 ?_
      refine zJ_astore dL_opened_17 (by decide) (fun _ => rfl) (fun y _ => ?_)
      refine zJ_iconst (v := 2) dL_opened_19 (by decide) ?_
      exact zJ_iret dL_opened_20 rfl (by show 0 + mc ≤ mc; omega) (by show 0 + ms ≤ ms; omega) (hQ _ _ (Or.inr ⟨_, hq, Or.inr ⟨rfl, rfl⟩⟩))
abbrev mL_goes : zMI := (RL, cL_goes, 4, some .int, [⟨0, 8, 11, 18⟩, ⟨0, 8, 14, 13⟩], false)
set_option maxRecDepth 100000 in
theorem mfL_goes : zMfw yL_goes mL_goes [(0, 8, 11, 18), (0, 8, 14, 13)] 3 := ⟨(List.mem_of_getElem? (i := 1100) rfl), by decide +kernel, by decide +kernel, rfl, rfl, rfl, by decide, by decide, by decide⟩
theorem zL_goes {Δ : zD} {h mc ms : Nat} {fx : Bool} {w : zW} {a1 : Int32} {QR : Option Value → zW → Prop} {QX : String → zW → Prop} (hM : zM Δ h mc ms fx yX8_goes mX8_goes [.ref 0, .int a1] w QR QX) (hs : w.1 0 = some (.inl 8)) (ho : w.1 190 = some (.inr (true, 1))) (h191 : w.1 191 = none) (hR : ∀ r c, QR r c → ∃ v, r = some (.long v) ∧ c.1 190 = some (.inr (true, 1))) (hX : ∀ E c, QX E c → c.1 191 = none ∧ (E = zNS ∨ E = "java/lang/IllegalArgumentException")) :
    zHw Δ (h + 1) mc ms yL_goes mL_goes [(0, 8, 11, 18), (0, 8, 14, 13)] [.ref 0, .int a1, .ref 190] w (fun r d => (∃ v c, QR (some (.long v)) c ∧ r = some (.int 0) ∧ d = zsl c 190 0 v) ∨ (∃ E, QX E d ∧ ((E = zNS ∧ r = some (.int 1)) ∨ (E = "java/lang/IllegalArgumentException" ∧ r = some (.int 2))))) := by
  refine zHw.of mfL_goes (Nat.le_of_ble_eq_true rfl) (fun Q hQ => ?_)
  refine zJ_aload_n (x := 190) dL_goes_0 rfl ?_
  refine zJ_iconst (v := 0) dL_goes_1 (by decide) ?_
  refine zJ_aload_n (x := 0) dL_goes_2 rfl ?_
  refine zJ_iload_n (x := a1) dL_goes_3 rfl ?_
  refine zJ_callV (As := [.int a1]) (st := [.int 0, .ref 190]) dL_goes_4 sL_30 mfX8_goes hM (Or.inl pL_30) hs rfl rfl (Or.inr ⟨rfl, by simp [zokv, hs, ho], by simp [lv_args, zokv, hs, ho]⟩) (by decide) ⟨Nat.le_refl _, by show 38 * h + 38 ≤ 38 * (h + 1); omega⟩ ⟨by show 0 + mc ≤ mc; omega, by show 0 + ms ≤ ms; omega⟩ (fun r c hq => ?_) (fun E c hq => ?_)
  · obtain ⟨v, rfl, h9⟩ := hR r c hq
    refine zJ_last dL_goes_7 h9 zL_in ?_
    refine zJ_goto (tgt := 17) dL_goes_8 (by decide) ?_
    refine zJ_iconst (v := 0) dL_goes_17 (by decide) ?_
    exact zJ_iret dL_goes_18 rfl (by show 0 + mc ≤ mc; omega) (by show 0 + ms ≤ ms; omega) (hQ _ _ (Or.inl ⟨v, c, hq, rfl, rfl⟩))
  · obtain ⟨h9, hE⟩ := hX E c hq
    rcases hE with rfl | rfl
    · refine zT_c1 (x := ⟨0, 8, 11, 18⟩) rfl ⟨by decide, by decide, zL_lns⟩ zL_ns h9 h191 ?_
      refine zJ_astore_n dL_goes_11 (by decide) (fun _ => rfl) (fun y _ => ?_)
      refine zJ_iconst (v := 1) dL_goes_12 (by decide) ?_
      exact zJ_iret dL_goes_13 rfl (by show 0 + mc ≤ mc; omega) (by show 0 + ms ≤ ms; omega) (hQ _ _ (Or.inr ⟨_, hq, Or.inl ⟨rfl, rfl⟩⟩))
    · refine zT_c2 (y := ⟨0, 8, 11, 18⟩) (x := ⟨0, 8, 14, 13⟩) rfl ⟨by decide, by decide, zL_lns⟩ (fun s hK => zK.nc hK) ⟨by decide, by decide, zL_lia⟩ zL_ia h9 h191 ?_
      refine zJ_astore_n dL_goes_14 (by decide) (fun _ => rfl) (fun y _ => ?_)
      refine zJ_iconst (v := 2) dL_goes_15 (by decide) ?_
      exact zJ_iret dL_goes_16 rfl (by show 0 + mc ≤ mc; omega) (by show 0 + ms ≤ ms; omega) (hQ _ _ (Or.inr ⟨_, hq, Or.inr ⟨rfl, rfl⟩⟩))
abbrev mL_gets : zMI := (RL, cL_gets, 4, some .int, [⟨0, 8, 11, 18⟩, ⟨0, 8, 14, 13⟩], false)
set_option maxRecDepth 100000 in
theorem mfL_gets : zMfw yL_gets mL_gets [(0, 8, 11, 18), (0, 8, 14, 13)] 3 := ⟨(List.mem_of_getElem? (i := 1122) rfl), by decide +kernel, by decide +kernel, rfl, rfl, rfl, by decide, by decide, by decide⟩
theorem zL_gets {Δ : zD} {h mc ms : Nat} {fx : Bool} {w : zW} {a1 : Int32} {QR : Option Value → zW → Prop} {QX : String → zW → Prop} (hM : zM Δ h mc ms fx yX8_gets mX8_gets [.ref 0, .int a1] w QR QX) (hs : w.1 0 = some (.inl 8)) (ho : w.1 190 = some (.inr (true, 1))) (h191 : w.1 191 = none) (hR : ∀ r c, QR r c → ∃ v, r = some (.long v) ∧ c.1 190 = some (.inr (true, 1))) (hX : ∀ E c, QX E c → c.1 191 = none ∧ (E = zNS ∨ E = "java/lang/IllegalArgumentException")) :
    zHw Δ (h + 1) mc ms yL_gets mL_gets [(0, 8, 11, 18), (0, 8, 14, 13)] [.ref 0, .int a1, .ref 190] w (fun r d => (∃ v c, QR (some (.long v)) c ∧ r = some (.int 0) ∧ d = zsl c 190 0 v) ∨ (∃ E, QX E d ∧ ((E = zNS ∧ r = some (.int 1)) ∨ (E = "java/lang/IllegalArgumentException" ∧ r = some (.int 2))))) := by
  refine zHw.of mfL_gets (Nat.le_of_ble_eq_true rfl) (fun Q hQ => ?_)
  refine zJ_aload_n (x := 190) dL_gets_0 rfl ?_
  refine zJ_iconst (v := 0) dL_gets_1 (by decide) ?_
  refine zJ_aload_n (x := 0) dL_gets_2 rfl ?_
  refine zJ_iload_n (x := a1) dL_gets_3 rfl ?_
  refine zJ_callV (As := [.int a1]) (st := [.int 0, .ref 190]) dL_gets_4 sL_34 mfX8_gets hM (Or.inl pL_34) hs rfl rfl (Or.inr ⟨rfl, by simp [zokv, hs, ho], by simp [lv_args, zokv, hs, ho]⟩) (by decide) ⟨Nat.le_refl _, by show 38 * h + 38 ≤ 38 * (h + 1); omega⟩ ⟨by show 0 + mc ≤ mc; omega, by show 0 + ms ≤ ms; omega⟩ (fun r c hq => ?_) (fun E c hq => ?_)
  · obtain ⟨v, rfl, h9⟩ := hR r c hq
    refine zJ_last dL_gets_7 h9 zL_in ?_
    refine zJ_goto (tgt := 17) dL_gets_8 (by decide) ?_
    refine zJ_iconst (v := 0) dL_gets_17 (by decide) ?_
    exact zJ_iret dL_gets_18 rfl (by show 0 + mc ≤ mc; omega) (by show 0 + ms ≤ ms; omega) (hQ _ _ (Or.inl ⟨v, c, hq, rfl, rfl⟩))
  · obtain ⟨h9, hE⟩ := hX E c hq
    rcases hE with rfl | rfl
    · refine zT_c1 (x := ⟨0, 8, 11, 18⟩) rfl ⟨by decide, by decide, zL_lns⟩ zL_ns h9 h191 ?_
      refine zJ_astore_n dL_gets_11 (by decide) (fun _ => rfl) (fun y _ => ?_)
      refine zJ_iconst (v := 1) dL_gets_12 (by decide) ?_
      exact zJ_iret dL_gets_13 rfl (by show 0 + mc ≤ mc; omega) (by show 0 + ms ≤ ms; omega) (hQ _ _ (Or.inr ⟨_, hq, Or.inl ⟨rfl, rfl⟩⟩))
    · refine zT_c2 (y := ⟨0, 8, 11, 18⟩) (x := ⟨0, 8, 14, 13⟩) rfl ⟨by decide, by decide, zL_lns⟩ (fun s hK => zK.nc hK) ⟨by decide, by decide, zL_lia⟩ zL_ia h9 h191 ?_
      refine zJ_astore_n dL_gets_14 (by decide) (fun _ => rfl) (fun y _ => ?_)
      refine zJ_iconst (v := 2) dL_gets_15 (by decide) ?_
      exact zJ_iret dL_gets_16 rfl (by show 0 + mc ≤ mc; omega) (by show 0 + ms ≤ ms; omega) (hQ _ _ (Or.inr ⟨_, hq, Or.inr ⟨rfl, rfl⟩⟩))
abbrev mL_all : zMI := (RL, cL_all, 4, some .int, [⟨0, 9, 12, 18⟩, ⟨0, 9, 15, 13⟩], false)
set_option maxRecDepth 100000 in
theorem mfL_all : zMfw yL_all mL_all [(0, 9, 12, 18), (0, 9, 15, 13)] 3 := ⟨(List.mem_of_getElem? (i := 1130) rfl), by decide +kernel, by decide +kernel, rfl, rfl, rfl, by decide, by decide, by decide⟩
theorem zL_all {Δ : zD} {h mc ms : Nat} {fx : Bool} {w : zW} {a1 : Int32} {QR : Option Value → zW → Prop} {QX : String → zW → Prop} (hM : zM Δ h mc ms fx yX8_all mX8_all [.ref 0, .int a1] w QR QX) (hs : w.1 0 = some (.inl 8)) (ho : w.1 190 = some (.inr (true, 1))) (h191 : w.1 191 = none) (hR : ∀ r c, QR r c → ∃ v, r = some (.int v) ∧ c.1 190 = some (.inr (true, 1))) (hX : ∀ E c, QX E c → c.1 191 = none ∧ (E = zNS ∨ E = "java/lang/IllegalArgumentException")) :
    zHw Δ (h + 1) mc ms yL_all mL_all [(0, 9, 12, 18), (0, 9, 15, 13)] [.ref 0, .int a1, .ref 190] w (fun r d => (∃ v c, QR (some (.int v)) c ∧ r = some (.int 0) ∧ d = zsl c 190 0 v.toInt64) ∨ (∃ E, QX E d ∧ ((E = zNS ∧ r = some (.int 1)) ∨ (E = "java/lang/IllegalArgumentException" ∧ r = some (.int 2))))) := by
  refine zHw.of mfL_all (Nat.le_of_ble_eq_true rfl) (fun Q hQ => ?_)
  refine zJ_aload_n (x := 190) dL_all_0 rfl ?_
  refine zJ_iconst (v := 0) dL_all_1 (by decide) ?_
  refine zJ_aload_n (x := 0) dL_all_2 rfl ?_
  refine zJ_iload_n (x := a1) dL_all_3 rfl ?_
  refine zJ_callV (As := [.int a1]) (st := [.int 0, .ref 190]) dL_all_4 sL_37 mfX8_all hM (Or.inl pL_37) hs rfl rfl (Or.inr ⟨rfl, by simp [zokv, hs, ho], by simp [lv_args, zokv, hs, ho]⟩) (by decide) ⟨Nat.le_refl _, by show 38 * h + 38 ≤ 38 * (h + 1); omega⟩ ⟨by show 0 + mc ≤ mc; omega, by show 0 + ms ≤ ms; omega⟩ (fun r c hq => ?_) (fun E c hq => ?_)
  · obtain ⟨v, rfl, h9⟩ := hR r c hq
    refine zJ_i2l dL_all_7 ?_
    refine zJ_last dL_all_8 h9 zL_in ?_
    refine zJ_goto (tgt := 18) dL_all_9 (by decide) ?_
    refine zJ_iconst (v := 0) dL_all_18 (by decide) ?_
    exact zJ_iret dL_all_19 rfl (by show 0 + mc ≤ mc; omega) (by show 0 + ms ≤ ms; omega) (hQ _ _ (Or.inl ⟨v, c, hq, rfl, rfl⟩))
  · obtain ⟨h9, hE⟩ := hX E c hq
    rcases hE with rfl | rfl
    · refine zT_c1 (x := ⟨0, 9, 12, 18⟩) rfl ⟨by decide, by decide, zL_lns⟩ zL_ns h9 h191 ?_
      refine zJ_astore_n dL_all_12 (by decide) (fun _ => rfl) (fun y _ => ?_)
      refine zJ_iconst (v := 1) dL_all_13 (by decide) ?_
      exact zJ_iret dL_all_14 rfl (by show 0 + mc ≤ mc; omega) (by show 0 + ms ≤ ms; omega) (hQ _ _ (Or.inr ⟨_, hq, Or.inl ⟨rfl, rfl⟩⟩))
    · refine zT_c2 (y := ⟨0, 9, 12, 18⟩) (x := ⟨0, 9, 15, 13⟩) rfl ⟨by decide, by decide, zL_lns⟩ (fun s hK => zK.nc hK) ⟨by decide, by decide, zL_lia⟩ zL_ia h9 h191 ?_
      refine zJ_astore_n dL_all_15 (by decide) (fun _ => rfl) (fun y _ => ?_)
      refine zJ_iconst (v := 2) dL_all_16 (by decide) ?_
      exact zJ_iret dL_all_17 rfl (by show 0 + mc ≤ mc; omega) (by show 0 + ms ≤ ms; omega) (hQ _ _ (Or.inr ⟨_, hq, Or.inr ⟨rfl, rfl⟩⟩))
abbrev mL_least : zMI := (RL, cL_least, 7, some .int, [⟨0, 14, 17, 18⟩, ⟨0, 14, 21, 13⟩], false)
set_option maxRecDepth 100000 in
theorem mfL_least : zMfw yL_least mL_least [(0, 14, 17, 18), (0, 14, 21, 13)] 6 := ⟨(List.mem_of_getElem? (i := 1151) rfl), by decide +kernel, by decide +kernel, rfl, rfl, rfl, by decide, by decide, by decide⟩
theorem zL_least {Δ : zD} {h mc ms : Nat} {fx : Bool} {w : zW} {a1 a2 a3 a4 : Int32} {QR : Option Value → zW → Prop} {QX : String → zW → Prop} (hM : zM Δ h mc ms fx yX8_least mX8_least [.ref 0, .int a1, .int a2, .int a3, .int a4] w QR QX) (hs : w.1 0 = some (.inl 8)) (ho : w.1 190 = some (.inr (true, 1))) (h191 : w.1 191 = none) (hR : ∀ r c, QR r c → ∃ v, r = some (.int v) ∧ c.1 190 = some (.inr (true, 1))) (hX : ∀ E c, QX E c → c.1 191 = none ∧ (E = zNS ∨ E = "java/lang/IllegalArgumentException")) :
    zHw Δ (h + 1) mc ms yL_least mL_least [(0, 14, 17, 18), (0, 14, 21, 13)] [.ref 0, .int a1, .int a2, .int a3, .int a4, .ref 190] w (fun r d => (∃ v c, QR (some (.int v)) c ∧ r = some (.int 0) ∧ d = zsl c 190 0 v.toInt64) ∨ (∃ E, QX E d ∧ ((E = zNS ∧ r = some (.int 1)) ∨ (E = "java/lang/IllegalArgumentException" ∧ r = some (.int 2))))) := by
  refine zHw.of mfL_least (Nat.le_of_ble_eq_true rfl) (fun Q hQ => ?_)
  refine zJ_aload (x := 190) dL_least_0 rfl ?_
  refine zJ_iconst (v := 0) dL_least_2 (by decide) ?_
  refine zJ_aload_n (x := 0) dL_least_3 rfl ?_
  refine zJ_iload_n (x := a1) dL_least_4 rfl ?_
  refine zJ_iload_n (x := a2) dL_least_5 rfl ?_
  refine zJ_iload_n (x := a3) dL_least_6 rfl ?_
  refine zJ_iload (x := a4) dL_least_7 rfl ?_
  refine zJ_callV (As := [.int a1, .int a2, .int a3, .int a4]) (st := [.int 0, .ref 190]) dL_least_9 sL_40 mfX8_least hM (Or.inl pL_40) hs rfl rfl (Or.inr ⟨rfl, by simp [zokv, hs, ho], by simp [lv_args, zokv, hs, ho]⟩) (by decide) ⟨Nat.le_refl _, by show 38 * h + 38 ≤ 38 * (h + 1); omega⟩ ⟨by show 0 + mc ≤ mc; omega, by show 0 + ms ≤ ms; omega⟩ (fun r c hq => ?_) (fun E c hq => ?_)
  · obtain ⟨v, rfl, h9⟩ := hR r c hq
    refine zJ_i2l dL_least_12 ?_
    refine zJ_last dL_least_13 h9 zL_in ?_
    refine zJ_goto (tgt := 25) dL_least_14 (by decide) ?_
    refine zJ_iconst (v := 0) dL_least_25 (by decide) ?_
    exact zJ_iret dL_least_26 rfl (by show 0 + mc ≤ mc; omega) (by show 0 + ms ≤ ms; omega) (hQ _ _ (Or.inl ⟨v, c, hq, rfl, rfl⟩))
  · obtain ⟨h9, hE⟩ := hX E c hq
    rcases hE with rfl | rfl
    · refine zT_c1 (x := ⟨0, 14, 17, 18⟩) rfl ⟨by decide, by decide, zL_lns⟩ zL_ns h9 h191 ?_
      refine zJ_astore dL_least_17 (by decide) (fun _ => rfl) (fun y _ => ?_)
      refine zJ_iconst (v := 1) dL_least_19 (by decide) ?_
      exact zJ_iret dL_least_20 rfl (by show 0 + mc ≤ mc; omega) (by show 0 + ms ≤ ms; omega) (hQ _ _ (Or.inr ⟨_, hq, Or.inl ⟨rfl, rfl⟩⟩))
    · refine zT_c2 (y := ⟨0, 14, 17, 18⟩) (x := ⟨0, 14, 21, 13⟩) rfl ⟨by decide, by decide, zL_lns⟩ (fun s hK => zK.nc hK) ⟨by decide, by decide, zL_lia⟩ zL_ia h9 h191 ?_
      refine zJ_astore dL_least_21 (by decide) (fun _ => rfl) (fun y _ => ?_)
      refine zJ_iconst (v := 2) dL_least_23 (by decide) ?_
      exact zJ_iret dL_least_24 rfl (by show 0 + mc ≤ mc; omega) (by show 0 + ms ≤ ms; omega) (hQ _ _ (Or.inr ⟨_, hq, Or.inr ⟨rfl, rfl⟩⟩))
abbrev mL_one : zMI := (RL, cL_one, 7, some .int, [⟨0, 13, 16, 18⟩, ⟨0, 13, 20, 13⟩], false)
set_option maxRecDepth 100000 in
theorem mfL_one : zMfw yL_one mL_one [(0, 13, 16, 18), (0, 13, 20, 13)] 6 := ⟨(List.mem_of_getElem? (i := 1159) rfl), by decide +kernel, by decide +kernel, rfl, rfl, rfl, by decide, by decide, by decide⟩
theorem zL_one {Δ : zD} {h mc ms : Nat} {fx : Bool} {w : zW} {a1 a2 a3 a4 : Int32} {QR : Option Value → zW → Prop} {QX : String → zW → Prop} (hM : zM Δ h mc ms fx yX8_one mX8_one [.ref 0, .int a1, .int a2, .int a3, .int a4] w QR QX) (hs : w.1 0 = some (.inl 8)) (ho : w.1 190 = some (.inr (true, 1))) (h191 : w.1 191 = none) (hR : ∀ r c, QR r c → ∃ v, r = some (.long v) ∧ c.1 190 = some (.inr (true, 1))) (hX : ∀ E c, QX E c → c.1 191 = none ∧ (E = zNS ∨ E = "java/lang/IllegalArgumentException")) :
    zHw Δ (h + 1) mc ms yL_one mL_one [(0, 13, 16, 18), (0, 13, 20, 13)] [.ref 0, .int a1, .int a2, .int a3, .int a4, .ref 190] w (fun r d => (∃ v c, QR (some (.long v)) c ∧ r = some (.int 0) ∧ d = zsl c 190 0 v) ∨ (∃ E, QX E d ∧ ((E = zNS ∧ r = some (.int 1)) ∨ (E = "java/lang/IllegalArgumentException" ∧ r = some (.int 2))))) := by
  refine zHw.of mfL_one (Nat.le_of_ble_eq_true rfl) (fun Q hQ => ?_)
  refine zJ_aload (x := 190) dL_one_0 rfl ?_
  refine zJ_iconst (v := 0) dL_one_2 (by decide) ?_
  refine zJ_aload_n (x := 0) dL_one_3 rfl ?_
  refine zJ_iload_n (x := a1) dL_one_4 rfl ?_
  refine zJ_iload_n (x := a2) dL_one_5 rfl ?_
  refine zJ_iload_n (x := a3) dL_one_6 rfl ?_
  refine zJ_iload (x := a4) dL_one_7 rfl ?_
  refine zJ_callV (As := [.int a1, .int a2, .int a3, .int a4]) (st := [.int 0, .ref 190]) dL_one_9 sL_44 mfX8_one hM (Or.inl pL_44) hs rfl rfl (Or.inr ⟨rfl, by simp [zokv, hs, ho], by simp [lv_args, zokv, hs, ho]⟩) (by decide) ⟨Nat.le_refl _, by show 38 * h + 38 ≤ 38 * (h + 1); omega⟩ ⟨by show 0 + mc ≤ mc; omega, by show 0 + ms ≤ ms; omega⟩ (fun r c hq => ?_) (fun E c hq => ?_)
  · obtain ⟨v, rfl, h9⟩ := hR r c hq
    refine zJ_last dL_one_12 h9 zL_in ?_
    refine zJ_goto (tgt := 24) dL_one_13 (by decide) ?_
    refine zJ_iconst (v := 0) dL_one_24 (by decide) ?_
    exact zJ_iret dL_one_25 rfl (by show 0 + mc ≤ mc; omega) (by show 0 + ms ≤ ms; omega) (hQ _ _ (Or.inl ⟨v, c, hq, rfl, rfl⟩))
  · obtain ⟨h9, hE⟩ := hX E c hq
    rcases hE with rfl | rfl
    · refine zT_c1 (x := ⟨0, 13, 16, 18⟩) rfl ⟨by decide, by decide, zL_lns⟩ zL_ns h9 h191 ?_
      refine zJ_astore dL_one_16 (by decide) (fun _ => rfl) (fun y _ => ?_)
      refine zJ_iconst (v := 1) dL_one_18 (by decide) ?_
      exact zJ_iret dL_one_19 rfl (by show 0 + mc ≤ mc; omega) (by show 0 + ms ≤ ms; omega) (hQ _ _ (Or.inr ⟨_, hq, Or.inl ⟨rfl, rfl⟩⟩))
    · refine zT_c2 (y := ⟨0, 13, 16, 18⟩) (x := ⟨0, 13, 20, 13⟩) rfl ⟨by decide, by decide, zL_lns⟩ (fun s hK => zK.nc hK) ⟨by decide, by decide, zL_lia⟩ zL_ia h9 h191 ?_
      refine zJ_astore dL_one_20 (by decide) (fun _ => rfl) (fun y _ => ?_)
      refine zJ_iconst (v := 2) dL_one_22 (by decide) ?_
      exact zJ_iret dL_one_23 rfl (by show 0 + mc ≤ mc; omega) (by show 0 + ms ≤ ms; omega) (hQ _ _ (Or.inr ⟨_, hq, Or.inr ⟨rfl, rfl⟩⟩))
abbrev mL_named : zMI := (RL, cL_named, 4, some .int, [⟨0, 8, 11, 18⟩, ⟨0, 8, 14, 13⟩], false)
set_option maxRecDepth 100000 in
theorem mfL_named : zMfw yL_named mL_named [(0, 8, 11, 18), (0, 8, 14, 13)] 3 := ⟨(List.mem_of_getElem? (i := 1175) rfl), by decide +kernel, by decide +kernel, rfl, rfl, rfl, by decide, by decide, by decide⟩
theorem zL_named {Δ : zD} {h mc ms : Nat} {fx : Bool} {w : zW} {a1 : Int32} {QR : Option Value → zW → Prop} {QX : String → zW → Prop} (hM : zM Δ h mc ms fx yX8_named mX8_named [.ref 0, .int a1] w QR QX) (hs : w.1 0 = some (.inl 8)) (ho : w.1 190 = some (.inr (true, 1))) (h191 : w.1 191 = none) (hR : ∀ r c, QR r c → ∃ v, r = some (.long v) ∧ c.1 190 = some (.inr (true, 1))) (hX : ∀ E c, QX E c → c.1 191 = none ∧ (E = zNS ∨ E = "java/lang/IllegalArgumentException")) :
    zHw Δ (h + 1) mc ms yL_named mL_named [(0, 8, 11, 18), (0, 8, 14, 13)] [.ref 0, .int a1, .ref 190] w (fun r d => (∃ v c, QR (some (.long v)) c ∧ r = some (.int 0) ∧ d = zsl c 190 0 v) ∨ (∃ E, QX E d ∧ ((E = zNS ∧ r = some (.int 1)) ∨ (E = "java/lang/IllegalArgumentException" ∧ r = some (.int 2))))) := by
  refine zHw.of mfL_named (Nat.le_of_ble_eq_true rfl) (fun Q hQ => ?_)
  refine zJ_aload_n (x := 190) dL_named_0 rfl ?_
  refine zJ_iconst (v := 0) dL_named_1 (by decide) ?_
  refine zJ_aload_n (x := 0) dL_named_2 rfl ?_
  refine zJ_iload_n (x := a1) dL_named_3 rfl ?_
  refine zJ_callV (As := [.int a1]) (st := [.int 0, .ref 190]) dL_named_4 sL_48 mfX8_named hM (Or.inl pL_48) hs rfl rfl (Or.inr ⟨rfl, by simp [zokv, hs, ho], by simp [lv_args, zokv, hs, ho]⟩) (by decide) ⟨Nat.le_refl _, by show 38 * h + 38 ≤ 38 * (h + 1); omega⟩ ⟨by show 0 + mc ≤ mc; omega, by show 0 + ms ≤ ms; omega⟩ (fun r c hq => ?_) (fun E c hq => ?_)
  · obtain ⟨v, rfl, h9⟩ := hR r c hq
    refine zJ_last dL_named_7 h9 zL_in ?_
    refine zJ_goto (tgt := 17) dL_named_8 (by decide) ?_
    refine zJ_iconst (v := 0) dL_named_17 (by decide) ?_
    exact zJ_iret dL_named_18 rfl (by show 0 + mc ≤ mc; omega) (by show 0 + ms ≤ ms; omega) (hQ _ _ (Or.inl ⟨v, c, hq, rfl, rfl⟩))
  · obtain ⟨h9, hE⟩ := hX E c hq
    rcases hE with rfl | rfl
    · refine zT_c1 (x := ⟨0, 8, 11, 18⟩) rfl ⟨by decide, by decide, zL_lns⟩ zL_ns h9 h191 ?_
      refine zJ_astore_n dL_named_11 (by decide) (fun _ => rfl) (fun y _ => ?_)
      refine zJ_iconst (v := 1) dL_named_12 (by decide) ?_
      exact zJ_iret dL_named_13 rfl (by show 0 + mc ≤ mc; omega) (by show 0 + ms ≤ ms; omega) (hQ _ _ (Or.inr ⟨_, hq, Or.inl ⟨rfl, rfl⟩⟩))
    · refine zT_c2 (y := ⟨0, 8, 11, 18⟩) (x := ⟨0, 8, 14, 13⟩) rfl ⟨by decide, by decide, zL_lns⟩ (fun s hK => zK.nc hK) ⟨by decide, by decide, zL_lia⟩ zL_ia h9 h191 ?_
      refine zJ_astore_n dL_named_14 (by decide) (fun _ => rfl) (fun y _ => ?_)
      refine zJ_iconst (v := 2) dL_named_15 (by decide) ?_
      exact zJ_iret dL_named_16 rfl (by show 0 + mc ≤ mc; omega) (by show 0 + ms ≤ ms; omega) (hQ _ _ (Or.inr ⟨_, hq, Or.inr ⟨rfl, rfl⟩⟩))
abbrev mL_hand : zMI := (RL, cL_hand, 4, some .int, [⟨0, 9, 12, 18⟩], false)
set_option maxRecDepth 100000 in
theorem mfL_hand : zMfw yL_hand mL_hand [(0, 9, 12, 18)] 3 := ⟨(List.mem_of_getElem? (i := 1186) rfl), by decide +kernel, by decide +kernel, rfl, rfl, rfl, by decide, by decide, by decide⟩
theorem zL_hand {Δ : zD} {h mc ms : Nat} {fx : Bool} {w : zW} {a1 : Int32} {QR : Option Value → zW → Prop} {QX : String → zW → Prop} (hM : zM Δ h mc ms fx yX8_hand mX8_hand [.ref 0, .int a1] w QR QX) (hs : w.1 0 = some (.inl 8)) (ho : w.1 190 = some (.inr (true, 1))) (h191 : w.1 191 = none) (hR : ∀ r c, QR r c → ∃ v, r = some (.int v) ∧ c.1 190 = some (.inr (true, 1))) (hX : ∀ E c, QX E c → c.1 191 = none ∧ (E = zNS)) :
    zHw Δ (h + 1) mc ms yL_hand mL_hand [(0, 9, 12, 18)] [.ref 0, .int a1, .ref 190] w (fun r d => (∃ v c, QR (some (.int v)) c ∧ r = some (.int 0) ∧ d = zsl c 190 0 v.toInt64) ∨ (∃ E, QX E d ∧ ((E = zNS ∧ r = some (.int 1))))) := by
  refine zHw.of mfL_hand (Nat.le_of_ble_eq_true rfl) (fun Q hQ => ?_)
  refine zJ_aload_n (x := 190) dL_hand_0 rfl ?_
  refine zJ_iconst (v := 0) dL_hand_1 (by decide) ?_
  refine zJ_aload_n (x := 0) dL_hand_2 rfl ?_
  refine zJ_iload_n (x := a1) dL_hand_3 rfl ?_
  refine zJ_callV (As := [.int a1]) (st := [.int 0, .ref 190]) dL_hand_4 sL_51 mfX8_hand hM (Or.inl pL_51) hs rfl rfl (Or.inr ⟨rfl, by simp [zokv, hs, ho], by simp [lv_args, zokv, hs, ho]⟩) (by decide) ⟨Nat.le_refl _, by show 38 * h + 38 ≤ 38 * (h + 1); omega⟩ ⟨by show 0 + mc ≤ mc; omega, by show 0 + ms ≤ ms; omega⟩ (fun r c hq => ?_) (fun E c hq => ?_)
  · obtain ⟨v, rfl, h9⟩ := hR r c hq
    refine zJ_i2l dL_hand_7 ?_
    refine zJ_last dL_hand_8 h9 zL_in ?_
    refine zJ_goto (tgt := 15) dL_hand_9 (by decide) ?_
    refine zJ_iconst (v := 0) dL_hand_15 (by decide) ?_
    exact zJ_iret dL_hand_16 rfl (by show 0 + mc ≤ mc; omega) (by show 0 + ms ≤ ms; omega) (hQ _ _ (Or.inl ⟨v, c, hq, rfl, rfl⟩))
  · obtain ⟨h9, hE⟩ := hX E c hq
    obtain rfl := hE
    refine zT_c1 (x := ⟨0, 9, 12, 18⟩) rfl ⟨by decide, by decide, zL_lns⟩ zL_ns h9 h191 ?_
    refine zJ_astore_n dL_hand_12 (by decide) (fun _ => rfl) (fun y _ => ?_)
    refine zJ_iconst (v := 1) dL_hand_13 (by decide) ?_
    exact zJ_iret dL_hand_14 rfl (by show 0 + mc ≤ mc; omega) (by show 0 + ms ≤ ms; omega) (hQ _ _ (Or.inr ⟨_, hq, rfl, rfl⟩))
abbrev mL_odds : zMI := (RL, cL_odds, 3, some .int, [⟨0, 8, 11, 13⟩], false)
set_option maxRecDepth 100000 in
theorem mfL_odds : zMfw yL_odds mL_odds [(0, 8, 11, 13)] 2 := ⟨(List.mem_of_getElem? (i := 1197) rfl), by decide +kernel, by decide +kernel, rfl, rfl, rfl, by decide, by decide, by decide⟩
theorem zL_odds {Δ : zD} {h mc ms : Nat} {fx : Bool} {w : zW} {zz : Int32} {QR : Option Value → zW → Prop} {QX : String → zW → Prop} (hM : zM Δ h mc ms fx yX8_odds mX8_odds [.ref 0] w QR QX) (hs : w.1 0 = some (.inl 8)) (ho : w.1 190 = some (.inr (true, 1))) (h191 : w.1 191 = none) (hR : ∀ r c, QR r c → ∃ v, r = some (.int v) ∧ c.1 190 = some (.inr (true, 1))) (hX : ∀ E c, QX E c → c.1 191 = none ∧ (E = "java/lang/IllegalArgumentException")) :
    zHw Δ (h + 1) mc ms yL_odds mL_odds [(0, 8, 11, 13)] [.ref 0, .ref 190] w (fun r d => (∃ v c, QR (some (.int v)) c ∧ r = some (.int 0) ∧ d = zsl c 190 0 v.toInt64) ∨ (∃ E, QX E d ∧ ((E = "java/lang/IllegalArgumentException" ∧ r = some (.int 1))))) := by
  refine zHw.of mfL_odds (Nat.le_of_ble_eq_true rfl) (fun Q hQ => ?_)
  refine zJ_aload_n (x := 190) dL_odds_0 rfl ?_
  refine zJ_iconst (v := 0) dL_odds_1 (by decide) ?_
  refine zJ_aload_n (x := 0) dL_odds_2 rfl ?_
  refine zJ_callV (As := []) (st := [.int 0, .ref 190]) dL_odds_3 sL_54 mfX8_odds hM (Or.inl pL_54) hs rfl rfl (Or.inr ⟨rfl, by simp [zokv, hs, ho], by simp [lv_args, zokv, hs, ho]⟩) (by decide) ⟨Nat.le_refl _, by show 38 * h + 38 ≤ 38 * (h + 1); omega⟩ ⟨by show 0 + mc ≤ mc; omega, by show 0 + ms ≤ ms; omega⟩ (fun r c hq => ?_) (fun E c hq => ?_)
  · obtain ⟨v, rfl, h9⟩ := hR r c hq
    refine zJ_i2l dL_odds_6 ?_
    refine zJ_last dL_odds_7 h9 zL_in ?_
    refine zJ_goto (tgt := 14) dL_odds_8 (by decide) ?_
    refine zJ_iconst (v := 0) dL_odds_14 (by decide) ?_
    exact zJ_iret dL_odds_15 rfl (by show 0 + mc ≤ mc; omega) (by show 0 + ms ≤ ms; omega) (hQ _ _ (Or.inl ⟨v, c, hq, rfl, rfl⟩))
  · obtain ⟨h9, hE⟩ := hX E c hq
    obtain rfl := hE
    refine zT_c1 (x := ⟨0, 8, 11, 13⟩) rfl ⟨by decide, by decide, zL_lia⟩ zL_ia h9 h191 ?_
    refine zJ_astore_n dL_odds_11 (by decide) (fun _ => rfl) (fun y _ => ?_)
    refine zJ_iconst (v := 1) dL_odds_12 (by decide) ?_
    exact zJ_iret dL_odds_13 rfl (by show 0 + mc ≤ mc; omega) (by show 0 + ms ≤ ms; omega) (hQ _ _ (Or.inr ⟨_, hq, rfl, rfl⟩))
abbrev mL_guess : zMI := (RL, cL_guess, 7, some .int, [⟨0, 21, 24, 18⟩], false)
set_option maxRecDepth 100000 in
theorem mfL_guess : zMfw yL_guess mL_guess [(0, 21, 24, 18)] 6 := ⟨(List.mem_of_getElem? (i := 1213) rfl), by decide +kernel, by decide +kernel, rfl, rfl, rfl, by decide, by decide, by decide⟩
theorem zL_guess {Δ : zD} {h mc ms : Nat} {fx : Bool} {w : zW} {a1 a2 a3 a4 : Int32} {QR : Option Value → zW → Prop} {QX : String → zW → Prop} (hM : zM Δ h mc ms fx yX8_guess mX8_guess [.ref 0, .int a1, .int a2, .int a3, .int a4] w QR QX) (hs : w.1 0 = some (.inl 8)) (ho : w.1 190 = some (.inr (true, 1))) (h191 : w.1 191 = none) (hR : ∀ r c, QR r c → ∃ v, r = some (.int v) ∧ c.1 190 = some (.inr (true, 1))) (hX : ∀ E c, QX E c → c.1 191 = none ∧ (E = zNS)) :
    zHw Δ (h + 1) mc ms yL_guess mL_guess [(0, 21, 24, 18)] [.ref 0, .int a1, .int a2, .int a3, .int a4, .ref 190] w (fun r d => (∃ v c, QR (some (.int v)) c ∧ r = some (.int 0) ∧ d = zsl c 190 0 (if v = 0 then 0 else 1)) ∨ (∃ E, QX E d ∧ ((E = zNS ∧ r = some (.int 1))))) := by
  refine zHw.of mfL_guess (Nat.le_of_ble_eq_true rfl) (fun Q hQ => ?_)
  refine zJ_aload (x := 190) dL_guess_0 rfl ?_
  refine zJ_iconst (v := 0) dL_guess_2 (by decide) ?_
  refine zJ_aload_n (x := 0) dL_guess_3 rfl ?_
  refine zJ_iload_n (x := a1) dL_guess_4 rfl ?_
  refine zJ_iload_n (x := a2) dL_guess_5 rfl ?_
  refine zJ_iload_n (x := a3) dL_guess_6 rfl ?_
  refine zJ_iload (x := a4) dL_guess_7 rfl ?_
  refine zJ_callV (As := [.int a1, .int a2, .int a3, .int a4]) (st := [.int 0, .ref 190]) dL_guess_9 sL_58 mfX8_guess hM (Or.inl pL_58) hs rfl rfl (Or.inr ⟨rfl, by simp [zokv, hs, ho], by simp [lv_args, zokv, hs, ho]⟩) (by decide) ⟨Nat.le_refl _, by show 38 * h + 38 ≤ 38 * (h + 1); omega⟩ ⟨by show 0 + mc ≤ mc; omega, by show 0 + ms ≤ ms; omega⟩ (fun r c hq => ?_) (fun E c hq => ?_)
  · obtain ⟨v, rfl, h9⟩ := hR r c hq
    refine zJ_if_eq (tgt := 19) dL_guess_12 (by decide) (fun hv => ?_) (fun hv => ?_)
    · refine zJ_lconst (v := 0) dL_guess_19 (by decide) ?_
      refine zJ_last dL_guess_20 h9 zL_in ?_
      refine zJ_goto (tgt := 28) dL_guess_21 (by decide) ?_
      refine zJ_iconst (v := 0) dL_guess_28 (by decide) ?_
      exact zJ_iret dL_guess_29 rfl (by show 0 + mc ≤ mc; omega) (by show 0 + ms ≤ ms; omega) (hQ _ _ (Or.inl ⟨v, c, hq, rfl, by rw [if_pos hv]; rfl⟩))
    · refine zJ_lconst (v := 1) dL_guess_15 (by decide) ?_
      refine zJ_goto (tgt := 20) dL_guess_16 (by decide) ?_
      refine zJ_last dL_guess_20 h9 zL_in ?_
      refine zJ_goto (tgt := 28) dL_guess_21 (by decide) ?_
      refine zJ_iconst (v := 0) dL_guess_28 (by decide) ?_
      exact zJ_iret dL_guess_29 rfl (by show 0 + mc ≤ mc; omega) (by show 0 + ms ≤ ms; omega) (hQ _ _ (Or.inl ⟨v, c, hq, rfl, by rw [if_neg hv]; rfl⟩))
  · obtain ⟨h9, hE⟩ := hX E c hq
    obtain rfl := hE
    refine zT_c1 (x := ⟨0, 21, 24, 18⟩) rfl ⟨by decide, by decide, zL_lns⟩ zL_ns h9 h191 ?_
    refine zJ_astore dL_guess_24 (by decide) (fun _ => rfl) (fun y _ => ?_)
    refine zJ_iconst (v := 1) dL_guess_26 (by decide) ?_
    exact zJ_iret dL_guess_27 rfl (by show 0 + mc ≤ mc; omega) (by show 0 + ms ≤ ms; omega) (hQ _ _ (Or.inr ⟨_, hq, rfl, rfl⟩))
abbrev mL_credit : zMI := (RL, cL_credit, 4, some .int, [⟨0, 9, 12, 18⟩, ⟨0, 9, 15, 13⟩], false)
set_option maxRecDepth 100000 in
theorem mfL_credit : zMfw yL_credit mL_credit [(0, 9, 12, 18), (0, 9, 15, 13)] 3 := ⟨(List.mem_of_getElem? (i := 1229) rfl), by decide +kernel, by decide +kernel, rfl, rfl, rfl, by decide, by decide, by decide⟩
theorem zL_credit {Δ : zD} {h mc ms : Nat} {fx : Bool} {w : zW} {a1 : Int32} {QR : Option Value → zW → Prop} {QX : String → zW → Prop} (hM : zM Δ h mc ms fx yX8_credit mX8_credit [.ref 0, .int a1] w QR QX) (hs : w.1 0 = some (.inl 8)) (ho : w.1 190 = some (.inr (true, 1))) (h191 : w.1 191 = none) (hR : ∀ r c, QR r c → ∃ v, r = some (.int v) ∧ c.1 190 = some (.inr (true, 1))) (hX : ∀ E c, QX E c → c.1 191 = none ∧ (E = zNS ∨ E = "java/lang/IllegalArgumentException")) :
    zHw Δ (h + 1) mc ms yL_credit mL_credit [(0, 9, 12, 18), (0, 9, 15, 13)] [.ref 0, .int a1, .ref 190] w (fun r d => (∃ v c, QR (some (.int v)) c ∧ r = some (.int 0) ∧ d = zsl c 190 0 v.toInt64) ∨ (∃ E, QX E d ∧ ((E = zNS ∧ r = some (.int 1)) ∨ (E = "java/lang/IllegalArgumentException" ∧ r = some (.int 2))))) := by
  refine zHw.of mfL_credit (Nat.le_of_ble_eq_true rfl) (fun Q hQ => ?_)
  refine zJ_aload_n (x := 190) dL_credit_0 rfl ?_
  refine zJ_iconst (v := 0) dL_credit_1 (by decide) ?_
  refine zJ_aload_n (x := 0) dL_credit_2 rfl ?_
  refine zJ_iload_n (x := a1) dL_credit_3 rfl ?_
  refine zJ_callV (As := [.int a1]) (st := [.int 0, .ref 190]) dL_credit_4 sL_62 mfX8_credit hM (Or.inl pL_62) hs rfl rfl (Or.inr ⟨rfl, by simp [zokv, hs, ho], by simp [lv_args, zokv, hs, ho]⟩) (by decide) ⟨Nat.le_refl _, by show 38 * h + 38 ≤ 38 * (h + 1); omega⟩ ⟨by show 0 + mc ≤ mc; omega, by show 0 + ms ≤ ms; omega⟩ (fun r c hq => ?_) (fun E c hq => ?_)
  · obtain ⟨v, rfl, h9⟩ := hR r c hq
    refine zJ_i2l dL_credit_7 ?_
    refine zJ_last dL_credit_8 h9 zL_in ?_
    refine zJ_goto (tgt := 18) dL_credit_9 (by decide) ?_
    refine zJ_iconst (v := 0) dL_credit_18 (by decide) ?_
    exact zJ_iret dL_credit_19 rfl (by show 0 + mc ≤ mc; omega) (by show 0 + ms ≤ ms; omega) (hQ _ _ (Or.inl ⟨v, c, hq, rfl, rfl⟩))
  · obtain ⟨h9, hE⟩ := hX E c hq
    rcases hE with rfl | rfl
    · refine zT_c1 (x := ⟨0, 9, 12, 18⟩) rfl ⟨by decide, by decide, zL_lns⟩ zL_ns h9 h191 ?_
      refine zJ_astore_n dL_credit_12 (by decide) (fun _ => rfl) (fun y _ => ?_)
      refine zJ_iconst (v := 1) dL_credit_13 (by decide) ?_
      exact zJ_iret dL_credit_14 rfl (by show 0 + mc ≤ mc; omega) (by show 0 + ms ≤ ms; omega) (hQ _ _ (Or.inr ⟨_, hq, Or.inl ⟨rfl, rfl⟩⟩))
    · refine zT_c2 (y := ⟨0, 9, 12, 18⟩) (x := ⟨0, 9, 15, 13⟩) rfl ⟨by decide, by decide, zL_lns⟩ (fun s hK => zK.nc hK) ⟨by decide, by decide, zL_lia⟩ zL_ia h9 h191 ?_
      refine zJ_astore_n dL_credit_15 (by decide) (fun _ => rfl) (fun y _ => ?_)
      refine zJ_iconst (v := 2) dL_credit_16 (by decide) ?_
      exact zJ_iret dL_credit_17 rfl (by show 0 + mc ≤ mc; omega) (by show 0 + ms ≤ ms; omega) (hQ _ _ (Or.inr ⟨_, hq, Or.inr ⟨rfl, rfl⟩⟩))
abbrev mL_chain : zMI := (RL, cL_chain, 4, some .int, [⟨0, 9, 12, 18⟩, ⟨0, 9, 15, 13⟩], false)
set_option maxRecDepth 100000 in
theorem mfL_chain : zMfw yL_chain mL_chain [(0, 9, 12, 18), (0, 9, 15, 13)] 3 := ⟨(List.mem_of_getElem? (i := 1271) rfl), by decide +kernel, by decide +kernel, rfl, rfl, rfl, by decide, by decide, by decide⟩
theorem zL_chain {Δ : zD} {h mc ms : Nat} {fx : Bool} {w : zW} {a1 : Int32} {QR : Option Value → zW → Prop} {QX : String → zW → Prop} (hM : zM Δ h mc ms fx yX8_chain mX8_chain [.ref 0, .int a1] w QR QX) (hs : w.1 0 = some (.inl 8)) (ho : w.1 190 = some (.inr (true, 1))) (h191 : w.1 191 = none) (hR : ∀ r c, QR r c → ∃ v, r = some (.int v) ∧ c.1 190 = some (.inr (true, 1))) (hX : ∀ E c, QX E c → c.1 191 = none ∧ (E = zNS ∨ E = "java/lang/IllegalArgumentException")) :
    zHw Δ (h + 1) mc ms yL_chain mL_chain [(0, 9, 12, 18), (0, 9, 15, 13)] [.ref 0, .int a1, .ref 190] w (fun r d => (∃ v c, QR (some (.int v)) c ∧ r = some (.int 0) ∧ d = zsl c 190 0 v.toInt64) ∨ (∃ E, QX E d ∧ ((E = zNS ∧ r = some (.int 1)) ∨ (E = "java/lang/IllegalArgumentException" ∧ r = some (.int 2))))) := by
  refine zHw.of mfL_chain (Nat.le_of_ble_eq_true rfl) (fun Q hQ => ?_)
  refine zJ_aload_n (x := 190) dL_chain_0 rfl ?_
  refine zJ_iconst (v := 0) dL_chain_1 (by decide) ?_
  refine zJ_aload_n (x := 0) dL_chain_2 rfl ?_
  refine zJ_iload_n (x := a1) dL_chain_3 rfl ?_
  refine zJ_callV (As := [.int a1]) (st := [.int 0, .ref 190]) dL_chain_4 sL_65 mfX8_chain hM (Or.inl pL_65) hs rfl rfl (Or.inr ⟨rfl, by simp [zokv, hs, ho], by simp [lv_args, zokv, hs, ho]⟩) (by decide) ⟨Nat.le_refl _, by show 38 * h + 38 ≤ 38 * (h + 1); omega⟩ ⟨by show 0 + mc ≤ mc; omega, by show 0 + ms ≤ ms; omega⟩ (fun r c hq => ?_) (fun E c hq => ?_)
  · obtain ⟨v, rfl, h9⟩ := hR r c hq
    refine zJ_i2l dL_chain_7 ?_
    refine zJ_last dL_chain_8 h9 zL_in ?_
    refine zJ_goto (tgt := 18) dL_chain_9 (by decide) ?_
    refine zJ_iconst (v := 0) dL_chain_18 (by decide) ?_
    exact zJ_iret dL_chain_19 rfl (by show 0 + mc ≤ mc; omega) (by show 0 + ms ≤ ms; omega) (hQ _ _ (Or.inl ⟨v, c, hq, rfl, rfl⟩))
  · obtain ⟨h9, hE⟩ := hX E c hq
    rcases hE with rfl | rfl
    · refine zT_c1 (x := ⟨0, 9, 12, 18⟩) rfl ⟨by decide, by decide, zL_lns⟩ zL_ns h9 h191 ?_
      refine zJ_astore_n dL_chain_12 (by decide) (fun _ => rfl) (fun y _ => ?_)
      refine zJ_iconst (v := 1) dL_chain_13 (by decide) ?_
      exact zJ_iret dL_chain_14 rfl (by show 0 + mc ≤ mc; omega) (by show 0 + ms ≤ ms; omega) (hQ _ _ (Or.inr ⟨_, hq, Or.inl ⟨rfl, rfl⟩⟩))
    · refine zT_c2 (y := ⟨0, 9, 12, 18⟩) (x := ⟨0, 9, 15, 13⟩) rfl ⟨by decide, by decide, zL_lns⟩ (fun s hK => zK.nc hK) ⟨by decide, by decide, zL_lia⟩ zL_ia h9 h191 ?_
      refine zJ_astore_n dL_chain_15 (by decide) (fun _ => rfl) (fun y _ => ?_)
      refine zJ_iconst (v := 2) dL_chain_16 (by decide) ?_
      exact zJ_iret dL_chain_17 rfl (by show 0 + mc ≤ mc; omega) (by show 0 + ms ≤ ms; omega) (hQ _ _ (Or.inr ⟨_, hq, Or.inr ⟨rfl, rfl⟩⟩))
abbrev mL_chained : zMI := (RL, cL_chained, 4, some .int, [⟨0, 9, 12, 18⟩], false)
set_option maxRecDepth 100000 in
theorem mfL_chained : zMfw yL_chained mL_chained [(0, 9, 12, 18)] 3 := ⟨(List.mem_of_getElem? (i := 1291) rfl), by decide +kernel, by decide +kernel, rfl, rfl, rfl, by decide, by decide, by decide⟩
theorem zL_chained {Δ : zD} {h mc ms : Nat} {fx : Bool} {w : zW} {a1 : Int32} {QR : Option Value → zW → Prop} {QX : String → zW → Prop} (hM : zM Δ h mc ms fx yX8_chained mX8_chained [.ref 0, .int a1] w QR QX) (hs : w.1 0 = some (.inl 8)) (ho : w.1 190 = some (.inr (true, 1))) (h191 : w.1 191 = none) (hR : ∀ r c, QR r c → ∃ v, r = some (.int v) ∧ c.1 190 = some (.inr (true, 1))) (hX : ∀ E c, QX E c → c.1 191 = none ∧ (E = zNS)) :
    zHw Δ (h + 1) mc ms yL_chained mL_chained [(0, 9, 12, 18)] [.ref 0, .int a1, .ref 190] w (fun r d => (∃ v c, QR (some (.int v)) c ∧ r = some (.int 0) ∧ d = zsl c 190 0 v.toInt64) ∨ (∃ E, QX E d ∧ ((E = zNS ∧ r = some (.int 1))))) := by
  refine zHw.of mfL_chained (Nat.le_of_ble_eq_true rfl) (fun Q hQ => ?_)
  refine zJ_aload_n (x := 190) dL_chained_0 rfl ?_
  refine zJ_iconst (v := 0) dL_chained_1 (by decide) ?_
  refine zJ_aload_n (x := 0) dL_chained_2 rfl ?_
  refine zJ_iload_n (x := a1) dL_chained_3 rfl ?_
  refine zJ_callV (As := [.int a1]) (st := [.int 0, .ref 190]) dL_chained_4 sL_68 mfX8_chained hM (Or.inl pL_68) hs rfl rfl (Or.inr ⟨rfl, by simp [zokv, hs, ho], by simp [lv_args, zokv, hs, ho]⟩) (by decide) ⟨Nat.le_refl _, by show 38 * h + 38 ≤ 38 * (h + 1); omega⟩ ⟨by show 0 + mc ≤ mc; omega, by show 0 + ms ≤ ms; omega⟩ (fun r c hq => ?_) (fun E c hq => ?_)
  · obtain ⟨v, rfl, h9⟩ := hR r c hq
    refine zJ_i2l dL_chained_7 ?_
    refine zJ_last dL_chained_8 h9 zL_in ?_
    refine zJ_goto (tgt := 15) dL_chained_9 (by decide) ?_
    refine zJ_iconst (v := 0) dL_chained_15 (by decide) ?_
    exact zJ_iret dL_chained_16 rfl (by show 0 + mc ≤ mc; omega) (by show 0 + ms ≤ ms; omega) (hQ _ _ (Or.inl ⟨v, c, hq, rfl, rfl⟩))
  · obtain ⟨h9, hE⟩ := hX E c hq
    obtain rfl := hE
    refine zT_c1 (x := ⟨0, 9, 12, 18⟩) rfl ⟨by decide, by decide, zL_lns⟩ zL_ns h9 h191 ?_
    refine zJ_astore_n dL_chained_12 (by decide) (fun _ => rfl) (fun y _ => ?_)
    refine zJ_iconst (v := 1) dL_chained_13 (by decide) ?_
    exact zJ_iret dL_chained_14 rfl (by show 0 + mc ≤ mc; omega) (by show 0 + ms ≤ ms; omega) (hQ _ _ (Or.inr ⟨_, hq, rfl, rfl⟩))
abbrev mL_two : zMI := (RL, cL_two, 5, some .int, [⟨0, 10, 13, 18⟩, ⟨0, 10, 17, 13⟩], false)
set_option maxRecDepth 100000 in
theorem mfL_two : zMfw yL_two mL_two [(0, 10, 13, 18), (0, 10, 17, 13)] 4 := ⟨(List.mem_of_getElem? (i := 1299) rfl), by decide +kernel, by decide +kernel, rfl, rfl, rfl, by decide, by decide, by decide⟩
theorem zL_two {Δ : zD} {h mc ms : Nat} {fx : Bool} {w : zW} {a1 a2 : Int32} {QR : Option Value → zW → Prop} {QX : String → zW → Prop} (hM : zM Δ h mc ms fx yX8_two mX8_two [.ref 0, .int a1, .int a2] w QR QX) (hs : w.1 0 = some (.inl 8)) (ho : w.1 190 = some (.inr (true, 1))) (h191 : w.1 191 = none) (hR : ∀ r c, QR r c → ∃ v, r = some (.int v) ∧ c.1 190 = some (.inr (true, 1))) (hX : ∀ E c, QX E c → c.1 191 = none ∧ (E = zNS ∨ E = "java/lang/IllegalArgumentException")) :
    zHw Δ (h + 1) mc ms yL_two mL_two [(0, 10, 13, 18), (0, 10, 17, 13)] [.ref 0, .int a1, .int a2, .ref 190] w (fun r d => (∃ v c, QR (some (.int v)) c ∧ r = some (.int 0) ∧ d = zsl c 190 0 v.toInt64) ∨ (∃ E, QX E d ∧ ((E = zNS ∧ r = some (.int 1)) ∨ (E = "java/lang/IllegalArgumentException" ∧ r = some (.int 2))))) := by
  refine zHw.of mfL_two (Nat.le_of_ble_eq_true rfl) (fun Q hQ => ?_)
  refine zJ_aload_n (x := 190) dL_two_0 rfl ?_
  refine zJ_iconst (v := 0) dL_two_1 (by decide) ?_
  refine zJ_aload_n (x := 0) dL_two_2 rfl ?_
  refine zJ_iload_n (x := a1) dL_two_3 rfl ?_
  refine zJ_iload_n (x := a2) dL_two_4 rfl ?_
  refine zJ_callV (As := [.int a1, .int a2]) (st := [.int 0, .ref 190]) dL_two_5 sL_71 mfX8_two hM (Or.inl pL_71) hs rfl rfl (Or.inr ⟨rfl, by simp [zokv, hs, ho], by simp [lv_args, zokv, hs, ho]⟩) (by decide) ⟨Nat.le_refl _, by show 38 * h + 38 ≤ 38 * (h + 1); omega⟩ ⟨by show 0 + mc ≤ mc; omega, by show 0 + ms ≤ ms; omega⟩ (fun r c hq => ?_) (fun E c hq => ?_)
  · obtain ⟨v, rfl, h9⟩ := hR r c hq
    refine zJ_i2l dL_two_8 ?_
    refine zJ_last dL_two_9 h9 zL_in ?_
    refine zJ_goto (tgt := 21) dL_two_10 (by decide) ?_
    refine zJ_iconst (v := 0) dL_two_21 (by decide) ?_
    exact zJ_iret dL_two_22 rfl (by show 0 + mc ≤ mc; omega) (by show 0 + ms ≤ ms; omega) (hQ _ _ (Or.inl ⟨v, c, hq, rfl, rfl⟩))
  · obtain ⟨h9, hE⟩ := hX E c hq
    rcases hE with rfl | rfl
    · refine zT_c1 (x := ⟨0, 10, 13, 18⟩) rfl ⟨by decide, by decide, zL_lns⟩ zL_ns h9 h191 ?_
      refine zJ_astore dL_two_13 (by decide) (fun _ => rfl) (fun y _ => ?_)
      refine zJ_iconst (v := 1) dL_two_15 (by decide) ?_
      exact zJ_iret dL_two_16 rfl (by show 0 + mc ≤ mc; omega) (by show 0 + ms ≤ ms; omega) (hQ _ _ (Or.inr ⟨_, hq, Or.inl ⟨rfl, rfl⟩⟩))
    · refine zT_c2 (y := ⟨0, 10, 13, 18⟩) (x := ⟨0, 10, 17, 13⟩) rfl ⟨by decide, by decide, zL_lns⟩ (fun s hK => zK.nc hK) ⟨by decide, by decide, zL_lia⟩ zL_ia h9 h191 ?_
      refine zJ_astore dL_two_17 (by decide) (fun _ => rfl) (fun y _ => ?_)
      refine zJ_iconst (v := 2) dL_two_19 (by decide) ?_
      exact zJ_iret dL_two_20 rfl (by show 0 + mc ≤ mc; omega) (by show 0 + ms ≤ ms; omega) (hQ _ _ (Or.inr ⟨_, hq, Or.inr ⟨rfl, rfl⟩⟩))
abbrev mL_feeling : zMI := (RL, cL_feeling, 4, some .int, [⟨0, 8, 11, 18⟩, ⟨0, 8, 14, 13⟩], false)
set_option maxRecDepth 100000 in
theorem mfL_feeling : zMfw yL_feeling mL_feeling [(0, 8, 11, 18), (0, 8, 14, 13)] 3 := ⟨(List.mem_of_getElem? (i := 1307) rfl), by decide +kernel, by decide +kernel, rfl, rfl, rfl, by decide, by decide, by decide⟩
theorem zL_feeling {Δ : zD} {h mc ms : Nat} {fx : Bool} {w : zW} {a1 : Int32} {QR : Option Value → zW → Prop} {QX : String → zW → Prop} (hM : zM Δ h mc ms fx yX8_feeling mX8_feeling [.ref 0, .int a1] w QR QX) (hs : w.1 0 = some (.inl 8)) (ho : w.1 190 = some (.inr (true, 1))) (h191 : w.1 191 = none) (hR : ∀ r c, QR r c → ∃ v, r = some (.long v) ∧ c.1 190 = some (.inr (true, 1))) (hX : ∀ E c, QX E c → c.1 191 = none ∧ (E = zNS ∨ E = "java/lang/IllegalArgumentException")) :
    zHw Δ (h + 1) mc ms yL_feeling mL_feeling [(0, 8, 11, 18), (0, 8, 14, 13)] [.ref 0, .int a1, .ref 190] w (fun r d => (∃ v c, QR (some (.long v)) c ∧ r = some (.int 0) ∧ d = zsl c 190 0 v) ∨ (∃ E, QX E d ∧ ((E = zNS ∧ r = some (.int 1)) ∨ (E = "java/lang/IllegalArgumentException" ∧ r = some (.int 2))))) := by
  refine zHw.of mfL_feeling (Nat.le_of_ble_eq_true rfl) (fun Q hQ => ?_)
  refine zJ_aload_n (x := 190) dL_feeling_0 rfl ?_
  refine zJ_iconst (v := 0) dL_feeling_1 (by decide) ?_
  refine zJ_aload_n (x := 0) dL_feeling_2 rfl ?_
  refine zJ_iload_n (x := a1) dL_feeling_3 rfl ?_
  refine zJ_callV (As := [.int a1]) (st := [.int 0, .ref 190]) dL_feeling_4 sL_74 mfX8_feeling hM (Or.inl pL_74) hs rfl rfl (Or.inr ⟨rfl, by simp [zokv, hs, ho], by simp [lv_args, zokv, hs, ho]⟩) (by decide) ⟨Nat.le_refl _, by show 38 * h + 38 ≤ 38 * (h + 1); omega⟩ ⟨by show 0 + mc ≤ mc; omega, by show 0 + ms ≤ ms; omega⟩ (fun r c hq => ?_) (fun E c hq => ?_)
  · obtain ⟨v, rfl, h9⟩ := hR r c hq
    refine zJ_last dL_feeling_7 h9 zL_in ?_
    refine zJ_goto (tgt := 17) dL_feeling_8 (by decide) ?_
    refine zJ_iconst (v := 0) dL_feeling_17 (by decide) ?_
    exact zJ_iret dL_feeling_18 rfl (by show 0 + mc ≤ mc; omega) (by show 0 + ms ≤ ms; omega) (hQ _ _ (Or.inl ⟨v, c, hq, rfl, rfl⟩))
  · obtain ⟨h9, hE⟩ := hX E c hq
    rcases hE with rfl | rfl
    · refine zT_c1 (x := ⟨0, 8, 11, 18⟩) rfl ⟨by decide, by decide, zL_lns⟩ zL_ns h9 h191 ?_
      refine zJ_astore_n dL_feeling_11 (by decide) (fun _ => rfl) (fun y _ => ?_)
      refine zJ_iconst (v := 1) dL_feeling_12 (by decide) ?_
      exact zJ_iret dL_feeling_13 rfl (by show 0 + mc ≤ mc; omega) (by show 0 + ms ≤ ms; omega) (hQ _ _ (Or.inr ⟨_, hq, Or.inl ⟨rfl, rfl⟩⟩))
    · refine zT_c2 (y := ⟨0, 8, 11, 18⟩) (x := ⟨0, 8, 14, 13⟩) rfl ⟨by decide, by decide, zL_lns⟩ (fun s hK => zK.nc hK) ⟨by decide, by decide, zL_lia⟩ zL_ia h9 h191 ?_
      refine zJ_astore_n dL_feeling_14 (by decide) (fun _ => rfl) (fun y _ => ?_)
      refine zJ_iconst (v := 2) dL_feeling_15 (by decide) ?_
      exact zJ_iret dL_feeling_16 rfl (by show 0 + mc ≤ mc; omega) (by show 0 + ms ≤ ms; omega) (hQ _ _ (Or.inr ⟨_, hq, Or.inr ⟨rfl, rfl⟩⟩))
abbrev mL_theft : zMI := (RL, cL_theft, 5, some .int, [⟨0, 10, 13, 13⟩], false)
set_option maxRecDepth 100000 in
theorem mfL_theft : zMfw yL_theft mL_theft [(0, 10, 13, 13)] 4 := ⟨(List.mem_of_getElem? (i := 1315) rfl), by decide +kernel, by decide +kernel, rfl, rfl, rfl, by decide, by decide, by decide⟩
theorem zL_theft {Δ : zD} {h mc ms : Nat} {fx : Bool} {w : zW} {a1 a2 : Int32} {QR : Option Value → zW → Prop} {QX : String → zW → Prop} (hM : zM Δ h mc ms fx yX8_theft mX8_theft [.ref 0, .int a1, .int a2] w QR QX) (hs : w.1 0 = some (.inl 8)) (ho : w.1 190 = some (.inr (true, 1))) (h191 : w.1 191 = none) (hR : ∀ r c, QR r c → ∃ v, r = some (.int v) ∧ c.1 190 = some (.inr (true, 1))) (hX : ∀ E c, QX E c → c.1 191 = none ∧ (E = "java/lang/IllegalArgumentException")) :
    zHw Δ (h + 1) mc ms yL_theft mL_theft [(0, 10, 13, 13)] [.ref 0, .int a1, .int a2, .ref 190] w (fun r d => (∃ v c, QR (some (.int v)) c ∧ r = some (.int 0) ∧ d = zsl c 190 0 v.toInt64) ∨ (∃ E, QX E d ∧ ((E = "java/lang/IllegalArgumentException" ∧ r = some (.int 1))))) := by
  refine zHw.of mfL_theft (Nat.le_of_ble_eq_true rfl) (fun Q hQ => ?_)
  refine zJ_aload_n (x := 190) dL_theft_0 rfl ?_
  refine zJ_iconst (v := 0) dL_theft_1 (by decide) ?_
  refine zJ_aload_n (x := 0) dL_theft_2 rfl ?_
  refine zJ_iload_n (x := a1) dL_theft_3 rfl ?_
  refine zJ_iload_n (x := a2) dL_theft_4 rfl ?_
  refine zJ_callV (As := [.int a1, .int a2]) (st := [.int 0, .ref 190]) dL_theft_5 sL_77 mfX8_theft hM (Or.inl pL_77) hs rfl rfl (Or.inr ⟨rfl, by simp [zokv, hs, ho], by simp [lv_args, zokv, hs, ho]⟩) (by decide) ⟨Nat.le_refl _, by show 38 * h + 38 ≤ 38 * (h + 1); omega⟩ ⟨by show 0 + mc ≤ mc; omega, by show 0 + ms ≤ ms; omega⟩ (fun r c hq => ?_) (fun E c hq => ?_)
  · obtain ⟨v, rfl, h9⟩ := hR r c hq
    refine zJ_i2l dL_theft_8 ?_
    refine zJ_last dL_theft_9 h9 zL_in ?_
    refine zJ_goto (tgt := 17) dL_theft_10 (by decide) ?_
    refine zJ_iconst (v := 0) dL_theft_17 (by decide) ?_
    exact zJ_iret dL_theft_18 rfl (by show 0 + mc ≤ mc; omega) (by show 0 + ms ≤ ms; omega) (hQ _ _ (Or.inl ⟨v, c, hq, rfl, rfl⟩))
  · obtain ⟨h9, hE⟩ := hX E c hq
    obtain rfl := hE
    refine zT_c1 (x := ⟨0, 10, 13, 13⟩) rfl ⟨by decide, by decide, zL_lia⟩ zL_ia h9 h191 ?_
    refine zJ_astore dL_theft_13 (by decide) (fun _ => rfl) (fun y _ => ?_)
    refine zJ_iconst (v := 1) dL_theft_15 (by decide) ?_
    exact zJ_iret dL_theft_16 rfl (by show 0 + mc ≤ mc; omega) (by show 0 + ms ≤ ms; omega) (hQ _ _ (Or.inr ⟨_, hq, rfl, rfl⟩))
abbrev mL_thieves : zMI := (RL, cL_thieves, 4, some .int, [⟨0, 9, 12, 18⟩], false)
set_option maxRecDepth 100000 in
theorem mfL_thieves : zMfw yL_thieves mL_thieves [(0, 9, 12, 18)] 3 := ⟨(List.mem_of_getElem? (i := 1328) rfl), by decide +kernel, by decide +kernel, rfl, rfl, rfl, by decide, by decide, by decide⟩
theorem zL_thieves {Δ : zD} {h mc ms : Nat} {fx : Bool} {w : zW} {a1 : Int32} {QR : Option Value → zW → Prop} {QX : String → zW → Prop} (hM : zM Δ h mc ms fx yX8_thieves mX8_thieves [.ref 0, .int a1] w QR QX) (hs : w.1 0 = some (.inl 8)) (ho : w.1 190 = some (.inr (true, 1))) (h191 : w.1 191 = none) (hR : ∀ r c, QR r c → ∃ v, r = some (.int v) ∧ c.1 190 = some (.inr (true, 1))) (hX : ∀ E c, QX E c → c.1 191 = none ∧ (E = zNS)) :
    zHw Δ (h + 1) mc ms yL_thieves mL_thieves [(0, 9, 12, 18)] [.ref 0, .int a1, .ref 190] w (fun r d => (∃ v c, QR (some (.int v)) c ∧ r = some (.int 0) ∧ d = zsl c 190 0 v.toInt64) ∨ (∃ E, QX E d ∧ ((E = zNS ∧ r = some (.int 1))))) := by
  refine zHw.of mfL_thieves (Nat.le_of_ble_eq_true rfl) (fun Q hQ => ?_)
  refine zJ_aload_n (x := 190) dL_thieves_0 rfl ?_
  refine zJ_iconst (v := 0) dL_thieves_1 (by decide) ?_
  refine zJ_aload_n (x := 0) dL_thieves_2 rfl ?_
  refine zJ_iload_n (x := a1) dL_thieves_3 rfl ?_
  refine zJ_callV (As := [.int a1]) (st := [.int 0, .ref 190]) dL_thieves_4 sL_80 mfX8_thieves hM (Or.inl pL_80) hs rfl rfl (Or.inr ⟨rfl, by simp [zokv, hs, ho], by simp [lv_args, zokv, hs, ho]⟩) (by decide) ⟨Nat.le_refl _, by show 38 * h + 38 ≤ 38 * (h + 1); omega⟩ ⟨by show 0 + mc ≤ mc; omega, by show 0 + ms ≤ ms; omega⟩ (fun r c hq => ?_) (fun E c hq => ?_)
  · obtain ⟨v, rfl, h9⟩ := hR r c hq
    refine zJ_i2l dL_thieves_7 ?_
    refine zJ_last dL_thieves_8 h9 zL_in ?_
    refine zJ_goto (tgt := 15) dL_thieves_9 (by decide) ?_
    refine zJ_iconst (v := 0) dL_thieves_15 (by decide) ?_
    exact zJ_iret dL_thieves_16 rfl (by show 0 + mc ≤ mc; omega) (by show 0 + ms ≤ ms; omega) (hQ _ _ (Or.inl ⟨v, c, hq, rfl, rfl⟩))
  · obtain ⟨h9, hE⟩ := hX E c hq
    obtain rfl := hE
    refine zT_c1 (x := ⟨0, 9, 12, 18⟩) rfl ⟨by decide, by decide, zL_lns⟩ zL_ns h9 h191 ?_
    refine zJ_astore_n dL_thieves_12 (by decide) (fun _ => rfl) (fun y _ => ?_)
    refine zJ_iconst (v := 1) dL_thieves_13 (by decide) ?_
    exact zJ_iret dL_thieves_14 rfl (by show 0 + mc ≤ mc; omega) (by show 0 + ms ≤ ms; omega) (hQ _ _ (Or.inr ⟨_, hq, rfl, rfl⟩))
abbrev mL_luck : zMI := (RL, cL_luck, 6, some .int, [⟨0, 12, 15, 13⟩], false)
set_option maxRecDepth 100000 in
theorem mfL_luck : zMfw yL_luck mL_luck [(0, 12, 15, 13)] 5 := ⟨(List.mem_of_getElem? (i := 1356) rfl), by decide +kernel, by decide +kernel, rfl, rfl, rfl, by decide, by decide, by decide⟩
theorem zL_luck {Δ : zD} {h mc ms : Nat} {fx : Bool} {w : zW} {a1 a2 a3 : Int32} {QR : Option Value → zW → Prop} {QX : String → zW → Prop} (hM : zM Δ h mc ms fx yX8_luck mX8_luck [.ref 0, .int a1, .int a2, .int a3] w QR QX) (hs : w.1 0 = some (.inl 8)) (ho : w.1 190 = some (.inr (true, 1))) (h191 : w.1 191 = none) (hR : ∀ r c, QR r c → ∃ v, r = some (.int v) ∧ c.1 190 = some (.inr (true, 1))) (hX : ∀ E c, QX E c → c.1 191 = none ∧ (E = "java/lang/IllegalArgumentException")) :
    zHw Δ (h + 1) mc ms yL_luck mL_luck [(0, 12, 15, 13)] [.ref 0, .int a1, .int a2, .int a3, .ref 190] w (fun r d => (∃ v c, QR (some (.int v)) c ∧ r = some (.int 0) ∧ d = zsl c 190 0 v.toInt64) ∨ (∃ E, QX E d ∧ ((E = "java/lang/IllegalArgumentException" ∧ r = some (.int 1))))) := by
  refine zHw.of mfL_luck (Nat.le_of_ble_eq_true rfl) (fun Q hQ => ?_)
  refine zJ_aload (x := 190) dL_luck_0 rfl ?_
  refine zJ_iconst (v := 0) dL_luck_2 (by decide) ?_
  refine zJ_aload_n (x := 0) dL_luck_3 rfl ?_
  refine zJ_iload_n (x := a1) dL_luck_4 rfl ?_
  refine zJ_iload_n (x := a2) dL_luck_5 rfl ?_
  refine zJ_iload_n (x := a3) dL_luck_6 rfl ?_
  refine zJ_callV (As := [.int a1, .int a2, .int a3]) (st := [.int 0, .ref 190]) dL_luck_7 sL_83 mfX8_luck hM (Or.inl pL_83) hs rfl rfl (Or.inr ⟨rfl, by simp [zokv, hs, ho], by simp [lv_args, zokv, hs, ho]⟩) (by decide) ⟨Nat.le_refl _, by show 38 * h + 38 ≤ 38 * (h + 1); omega⟩ ⟨by show 0 + mc ≤ mc; omega, by show 0 + ms ≤ ms; omega⟩ (fun r c hq => ?_) (fun E c hq => ?_)
  · obtain ⟨v, rfl, h9⟩ := hR r c hq
    refine zJ_i2l dL_luck_10 ?_
    refine zJ_last dL_luck_11 h9 zL_in ?_
    refine zJ_goto (tgt := 19) dL_luck_12 (by decide) ?_
    refine zJ_iconst (v := 0) dL_luck_19 (by decide) ?_
    exact zJ_iret dL_luck_20 rfl (by show 0 + mc ≤ mc; omega) (by show 0 + ms ≤ ms; omega) (hQ _ _ (Or.inl ⟨v, c, hq, rfl, rfl⟩))
  · obtain ⟨h9, hE⟩ := hX E c hq
    obtain rfl := hE
    refine zT_c1 (x := ⟨0, 12, 15, 13⟩) rfl ⟨by decide, by decide, zL_lia⟩ zL_ia h9 h191 ?_
    refine zJ_astore dL_luck_15 (by decide) (fun _ => rfl) (fun y _ => ?_)
    refine zJ_iconst (v := 1) dL_luck_17 (by decide) ?_
    exact zJ_iret dL_luck_18 rfl (by show 0 + mc ≤ mc; omega) (by show 0 + ms ≤ ms; omega) (hQ _ _ (Or.inr ⟨_, hq, rfl, rfl⟩))
abbrev mL_begin : zMI := (RL, cL_begin, 4, some .int, [⟨0, 6, 9, 13⟩], false)
set_option maxRecDepth 100000 in
theorem mfL_begin : zMfw yL_begin mL_begin [(0, 6, 9, 13)] 3 := ⟨(List.mem_of_getElem? (i := 1365) rfl), by decide +kernel, by decide +kernel, rfl, rfl, rfl, by decide, by decide, by decide⟩
theorem zL_begin {Δ : zD} {h mc ms : Nat} {fx : Bool} {w : zW} {a1 a2 : Int32} {QR : Option Value → zW → Prop} {QX : String → zW → Prop} (hM : zM Δ h mc ms fx yX8_begin mX8_begin [.ref 0, .int a1, .int a2] w QR QX) (hs : w.1 0 = some (.inl 8)) (h191 : w.1 191 = none) (hR : ∀ r c, QR r c → r = none) (hX : ∀ E c, QX E c → c.1 191 = none ∧ (E = "java/lang/IllegalArgumentException")) :
    zHw Δ (h + 1) mc ms yL_begin mL_begin [(0, 6, 9, 13)] [.ref 0, .int a1, .int a2] w (fun r d => (QR none d ∧ r = some (.int 0)) ∨ (∃ E, QX E d ∧ ((E = "java/lang/IllegalArgumentException" ∧ r = some (.int 1))))) := by
  refine zHw.of mfL_begin (Nat.le_of_ble_eq_true rfl) (fun Q hQ => ?_)
  refine zJ_aload_n (x := 0) dL_begin_0 rfl ?_
  refine zJ_iload_n (x := a1) dL_begin_1 rfl ?_
  refine zJ_iload_n (x := a2) dL_begin_2 rfl ?_
  refine zJ_callV (As := [.int a1, .int a2]) (st := []) dL_begin_3 sL_87 mfX8_begin hM (Or.inl pL_87) hs rfl rfl (Or.inr ⟨rfl, by simp [zokv, hs], by simp [lv_args, zokv, hs]⟩) (by decide) ⟨Nat.le_refl _, by show 38 * h + 38 ≤ 38 * (h + 1); omega⟩ ⟨by show 0 + mc ≤ mc; omega, by show 0 + ms ≤ ms; omega⟩ (fun r c hq => ?_) (fun E c hq => ?_)
  · obtain rfl := hR r c hq
    refine zJ_goto (tgt := 12) dL_begin_6 (by decide) ?_
    refine zJ_iconst (v := 0) dL_begin_12 (by decide) ?_
    exact zJ_iret dL_begin_13 rfl (by show 0 + mc ≤ mc; omega) (by show 0 + ms ≤ ms; omega) (hQ _ _ (Or.inl ⟨hq, rfl⟩))
  · obtain ⟨h9, hE⟩ := hX E c hq
    obtain rfl := hE
    refine zT_c1 (x := ⟨0, 6, 9, 13⟩) rfl ⟨by decide, by decide, zL_lia⟩ zL_ia h9 h191 ?_
    refine zJ_astore_n dL_begin_9 (by decide) (fun _ => rfl) (fun y _ => ?_)
    refine zJ_iconst (v := 1) dL_begin_10 (by decide) ?_
    exact zJ_iret dL_begin_11 rfl (by show 0 + mc ≤ mc; omega) (by show 0 + ms ≤ ms; omega) (hQ _ _ (Or.inr ⟨_, hq, rfl, rfl⟩))
abbrev mL_on : zMI := (RL, cL_on, 4, some .int, [⟨0, 9, 12, 13⟩], false)
set_option maxRecDepth 100000 in
theorem mfL_on : zMfw yL_on mL_on [(0, 9, 12, 13)] 3 := ⟨(List.mem_of_getElem? (i := 1378) rfl), by decide +kernel, by decide +kernel, rfl, rfl, rfl, by decide, by decide, by decide⟩
theorem zL_on {Δ : zD} {h mc ms : Nat} {fx : Bool} {w : zW} {a1 : Int32} {QR : Option Value → zW → Prop} {QX : String → zW → Prop} (hM : zM Δ h mc ms fx yX8_on mX8_on [.ref 0, .int a1] w QR QX) (hs : w.1 0 = some (.inl 8)) (ho : w.1 190 = some (.inr (true, 1))) (h191 : w.1 191 = none) (hR : ∀ r c, QR r c → ∃ v, r = some (.int v) ∧ c.1 190 = some (.inr (true, 1))) (hX : ∀ E c, QX E c → c.1 191 = none ∧ (E = "java/lang/IllegalArgumentException")) :
    zHw Δ (h + 1) mc ms yL_on mL_on [(0, 9, 12, 13)] [.ref 0, .int a1, .ref 190] w (fun r d => (∃ v c, QR (some (.int v)) c ∧ r = some (.int 0) ∧ d = zsl c 190 0 v.toInt64) ∨ (∃ E, QX E d ∧ ((E = "java/lang/IllegalArgumentException" ∧ r = some (.int 1))))) := by
  refine zHw.of mfL_on (Nat.le_of_ble_eq_true rfl) (fun Q hQ => ?_)
  refine zJ_aload_n (x := 190) dL_on_0 rfl ?_
  refine zJ_iconst (v := 0) dL_on_1 (by decide) ?_
  refine zJ_aload_n (x := 0) dL_on_2 rfl ?_
  refine zJ_iload_n (x := a1) dL_on_3 rfl ?_
  refine zJ_callV (As := [.int a1]) (st := [.int 0, .ref 190]) dL_on_4 sL_91 mfX8_on hM (Or.inl pL_91) hs rfl rfl (Or.inr ⟨rfl, by simp [zokv, hs, ho], by simp [lv_args, zokv, hs, ho]⟩) (by decide) ⟨Nat.le_refl _, by show 38 * h + 38 ≤ 38 * (h + 1); omega⟩ ⟨by show 0 + mc ≤ mc; omega, by show 0 + ms ≤ ms; omega⟩ (fun r c hq => ?_) (fun E c hq => ?_)
  · obtain ⟨v, rfl, h9⟩ := hR r c hq
    refine zJ_i2l dL_on_7 ?_
    refine zJ_last dL_on_8 h9 zL_in ?_
    refine zJ_goto (tgt := 15) dL_on_9 (by decide) ?_
    refine zJ_iconst (v := 0) dL_on_15 (by decide) ?_
    exact zJ_iret dL_on_16 rfl (by show 0 + mc ≤ mc; omega) (by show 0 + ms ≤ ms; omega) (hQ _ _ (Or.inl ⟨v, c, hq, rfl, rfl⟩))
  · obtain ⟨h9, hE⟩ := hX E c hq
    obtain rfl := hE
    refine zT_c1 (x := ⟨0, 9, 12, 13⟩) rfl ⟨by decide, by decide, zL_lia⟩ zL_ia h9 h191 ?_
    refine zJ_astore_n dL_on_12 (by decide) (fun _ => rfl) (fun y _ => ?_)
    refine zJ_iconst (v := 1) dL_on_13 (by decide) ?_
    exact zJ_iret dL_on_14 rfl (by show 0 + mc ≤ mc; omega) (by show 0 + ms ≤ ms; omega) (hQ _ _ (Or.inr ⟨_, hq, rfl, rfl⟩))
abbrev mL_week : zMI := (RL, cL_week, 5, some .int, [⟨0, 10, 13, 18⟩], false)
set_option maxRecDepth 100000 in
theorem mfL_week : zMfw yL_week mL_week [(0, 10, 13, 18)] 4 := ⟨(List.mem_of_getElem? (i := 1417) rfl), by decide +kernel, by decide +kernel, rfl, rfl, rfl, by decide, by decide, by decide⟩
theorem zL_week {Δ : zD} {h mc ms : Nat} {fx : Bool} {w : zW} {a1 a2 : Int32} {QR : Option Value → zW → Prop} {QX : String → zW → Prop} (hM : zM Δ h mc ms fx yX8_week mX8_week [.ref 0, .int a1, .int a2] w QR QX) (hs : w.1 0 = some (.inl 8)) (ho : w.1 190 = some (.inr (true, 1))) (h191 : w.1 191 = none) (hR : ∀ r c, QR r c → ∃ v, r = some (.int v) ∧ c.1 190 = some (.inr (true, 1))) (hX : ∀ E c, QX E c → c.1 191 = none ∧ (E = zNS)) :
    zHw Δ (h + 1) mc ms yL_week mL_week [(0, 10, 13, 18)] [.ref 0, .int a1, .int a2, .ref 190] w (fun r d => (∃ v c, QR (some (.int v)) c ∧ r = some (.int 0) ∧ d = zsl c 190 0 v.toInt64) ∨ (∃ E, QX E d ∧ ((E = zNS ∧ r = some (.int 1))))) := by
  refine zHw.of mfL_week (Nat.le_of_ble_eq_true rfl) (fun Q hQ => ?_)
  refine zJ_aload_n (x := 190) dL_week_0 rfl ?_
  refine zJ_iconst (v := 0) dL_week_1 (by decide) ?_
  refine zJ_aload_n (x := 0) dL_week_2 rfl ?_
  refine zJ_iload_n (x := a1) dL_week_3 rfl ?_
  refine zJ_iload_n (x := a2) dL_week_4 rfl ?_
  refine zJ_callV (As := [.int a1, .int a2]) (st := [.int 0, .ref 190]) dL_week_5 sL_94 mfX8_week hM (Or.inl pL_94) hs rfl rfl (Or.inr ⟨rfl, by simp [zokv, hs, ho], by simp [lv_args, zokv, hs, ho]⟩) (by decide) ⟨Nat.le_refl _, by show 38 * h + 38 ≤ 38 * (h + 1); omega⟩ ⟨by show 0 + mc ≤ mc; omega, by show 0 + ms ≤ ms; omega⟩ (fun r c hq => ?_) (fun E c hq => ?_)
  · obtain ⟨v, rfl, h9⟩ := hR r c hq
    refine zJ_i2l dL_week_8 ?_
    refine zJ_last dL_week_9 h9 zL_in ?_
    refine zJ_goto (tgt := 17) dL_week_10 (by decide) ?_
    refine zJ_iconst (v := 0) dL_week_17 (by decide) ?_
    exact zJ_iret dL_week_18 rfl (by show 0 + mc ≤ mc; omega) (by show 0 + ms ≤ ms; omega) (hQ _ _ (Or.inl ⟨v, c, hq, rfl, rfl⟩))
  · obtain ⟨h9, hE⟩ := hX E c hq
    obtain rfl := hE
    refine zT_c1 (x := ⟨0, 10, 13, 18⟩) rfl ⟨by decide, by decide, zL_lns⟩ zL_ns h9 h191 ?_
    refine zJ_astore dL_week_13 (by decide) (fun _ => rfl) (fun y _ => ?_)
    refine zJ_iconst (v := 1) dL_week_15 (by decide) ?_
    exact zJ_iret dL_week_16 rfl (by show 0 + mc ≤ mc; omega) (by show 0 + ms ≤ ms; omega) (hQ _ _ (Or.inr ⟨_, hq, rfl, rfl⟩))
