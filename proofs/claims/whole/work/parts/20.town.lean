set_option maxRecDepth 100000 in
theorem c_Town_pence (Δ : zD) (w : zW) (t : Nat) (h : Int32) (ht : w.1 t = some (.inl 5)) : zMd Δ 0 0 0 true yX5_pence mX5_pence [.ref t, .int h] w (some (.int (w.2.1 t 5 + w.2.1 t 6 * (h - 1)))) w := by
  refine zM.of mfX5_pence (Nat.le_of_ble_eq_true rfl) ?_
  refine zJ_aload_n dX5_pence_0 rfl ?_
  refine zJ_geti dX5_pence_1 fX5_37 (by first | rfl | assumption) rfl ?_
  refine zJ_aload_n dX5_pence_4 rfl ?_
  refine zJ_geti dX5_pence_5 fX5_40 (by first | rfl | assumption) rfl ?_
  refine zJ_iload_n dX5_pence_8 rfl ?_
  refine zJ_iconst (v := 1) dX5_pence_9 (by decide) ?_
  refine zJ_isub dX5_pence_10 ?_
  refine zJ_imul dX5_pence_11 ?_
  refine zJ_iadd dX5_pence_12 ?_
  exact zJ_iret dX5_pence_13 rfl (by decide) (by decide) ⟨rfl, rfl⟩
/-- PENCE and FELT as the machine reckons them -/
def zpn (w : zW) (t : Nat) (h : Int32) : Int32 := w.2.1 t 5 + w.2.1 t 6 * (h - 1)
def zfe (w : zW) (t : Nat) (h : Int32) : Int32 := if 0 < w.2.1 t 11 then zpn w t h - (zpn w t h - zpn w t h / w.2.1 t 11 * w.2.1 t 11) else zpn w t h
set_option maxRecDepth 100000 in
theorem c_Town_felt (Δ : zD) (w : zW) (t : Nat) (h : Int32) (ht : w.1 t = some (.inl 5)) : zMd Δ 1 0 0 true yX5_felt mX5_felt [.ref t, .int h] w (some (.int (zfe w t h))) w := by
  refine zM.of mfX5_felt (Nat.le_of_ble_eq_true rfl) ?_
  refine zJ_aload_n dX5_felt_0 rfl ?_
  refine zJ_iload_n dX5_felt_1 rfl ?_
  refine zJ_cV1 dX5_felt_2 sX5_70 mfX5_pence (c_Town_pence Δ w t h ht) (by first | rfl | assumption) rfl (by decide) (by decide) (by decide) ?_
  refine zJ_istore_n (ls2 := fun x5 => [(2, .int x5), (0, .ref t), (1, .int h)]) dX5_felt_5 (by decide) (fun _ => rfl) (fun x5 ex5 => ?_)
  refine zJ_aload_n dX5_felt_6 rfl ?_
  refine zJ_geti dX5_felt_7 fX5_55 (by first | rfl | assumption) rfl ?_
  refine zJ_if_le (tgt := 24) dX5_felt_10 (by decide) (fun h10 => ?_) (fun h10 => ?_)
  · refine zJ_iload_n dX5_felt_24 rfl ?_
    exact zJ_iret dX5_felt_25 rfl (by decide) (by decide) ⟨by sorry, rfl⟩
  · refine zJ_iload_n dX5_felt_13 rfl ?_
    refine zJ_iload_n dX5_felt_14 rfl ?_
    refine zJ_aload_n dX5_felt_15 rfl ?_
    refine zJ_geti dX5_felt_16 fX5_55 (by first | rfl | assumption) rfl ?_
    refine zJ_irem dX5_felt_19 (fun e => h10 (by rw [e]; decide)) ?_
    refine zJ_isub dX5_felt_20 ?_
    refine zJ_goto (tgt := 25) dX5_felt_21 (by decide) ?_
    exact zJ_iret dX5_felt_25 rfl (by decide) (by decide) ⟨by sorry, rfl⟩
set_option maxRecDepth 100000 in
theorem c_Town_everyone (Δ : zD) (w : zW) (t : Nat) (ht : w.1 t = some (.inl 5)) : zMd Δ 0 0 0 true yX5_everyone mX5_everyone [.ref t] w (some (.int ((1 <<< (w.2.1 t 0 &&& 31)) - 1))) w := by
  refine zM.of mfX5_everyone (Nat.le_of_ble_eq_true rfl) ?_
  refine zJ_iconst (v := 1) dX5_everyone_0 (by decide) ?_
  refine zJ_aload_n dX5_everyone_1 rfl ?_
  refine zJ_geti dX5_everyone_2 fX5_27 (by first | rfl | assumption) rfl ?_
  refine zJ_ishl dX5_everyone_5 ?_
  refine zJ_iconst (v := 1) dX5_everyone_6 (by decide) ?_
  refine zJ_isub dX5_everyone_7 ?_
  exact zJ_iret dX5_everyone_8 rfl (by decide) (by decide) ⟨rfl, rfl⟩
set_option maxRecDepth 100000 in
theorem c_Town_countsSent (Δ : zD) (w : zW) (t : Nat) (ht : w.1 t = some (.inl 5)) : zMd Δ 0 0 0 true yX5_countsSent mX5_countsSent [.ref t] w (some (.int (if w.2.1 t 10 ≠ 0 ∧ 0 < w.2.1 t 9 then 1 else 0))) w := by
  refine zM.of mfX5_countsSent (Nat.le_of_ble_eq_true rfl) ?_
  refine zJ_aload_n dX5_countsSent_0 rfl ?_
  refine zJ_geti dX5_countsSent_1 fX5_52 (by first | rfl | assumption) rfl ?_
  refine zJ_if_eq (tgt := 18) dX5_countsSent_4 (by decide) (fun h4 => ?_) (fun h4 => ?_)
  · refine zJ_iconst (v := 0) dX5_countsSent_18 (by decide) ?_
    exact zJ_zret dX5_countsSent_19 rfl rfl (by decide) (by decide) ⟨by simp [*], rfl⟩
  · refine zJ_aload_n dX5_countsSent_7 rfl ?_
    refine zJ_geti dX5_countsSent_8 fX5_49 (by first | rfl | assumption) rfl ?_
    refine zJ_if_le (tgt := 18) dX5_countsSent_11 (by decide) (fun h11 => ?_) (fun h11 => ?_)
    · refine zJ_iconst (v := 0) dX5_countsSent_18 (by decide) ?_
      exact zJ_zret dX5_countsSent_19 rfl rfl (by decide) (by decide) ⟨by simp [*], rfl⟩
    · refine zJ_iconst (v := 1) dX5_countsSent_14 (by decide) ?_
      refine zJ_goto (tgt := 19) dX5_countsSent_15 (by decide) ?_
      exact zJ_zret dX5_countsSent_19 rfl rfl (by decide) (by decide) ⟨by simp [*], rfl⟩
