/-! what the start gives -/
def zFlt : List Cond := flatC (Jvm.Cond.and given_1 narrow_1)
def ztm (i : Nat) : Term := .string (zStr.getD i ("", 0, "", 0)).1 (zStr.getD i ("", 0, "", 0)).2.1
def zpx : List Nat := [67, 119, 138, 165, 197, 204, 111, 77, 86, 95, 103, 128, 148, 157, 172, 180, 189, 33, 213, 264, 302, 342, 357, 386, 401, 429, 452, 487, 508, 230, 289, 248, 325, 280]
def zpc : List Nat := [68, 120, 139, 166, 198, 205, 112, 78, 87, 96, 104, 129, 149, 158, 173, 181, 190]
def zpa9 : List Nat := [69, 121, 140, 167, 199, 206, 113, 79, 88, 97, 105, 130, 150, 159, 174, 182, 191]
def zpl : List Nat := [70, 122, 141, 168, 200, 207, 114, 80, 89, 98, 106, 131, 151, 160, 175, 183, 192]
def zpe9 : List (List Nat) := [[71, 72, 73, 74, 75, 76], [123, 124, 125, 126, 127], [142, 143, 144, 145, 146, 147], [169, 170, 171], [201, 202, 203], [208, 209, 210, 211, 212], [115, 116, 117, 118], [81, 82, 83, 84, 85], [90, 91, 92, 93, 94], [99, 100, 101, 102], [107, 108, 109, 110], [132, 133, 134, 135, 136, 137], [152, 153, 154, 155, 156], [161, 162, 163, 164], [176, 177, 178, 179], [184, 185, 186, 187, 188], [193, 194, 195, 196]]
def zpst : List Nat := [758, 840, 850, 861, 869, 874, 831, 823, 824, 825, 826, 849, 859, 860, 866, 867, 868, 709, 929, 967, 1156, 1276, 1296, 1312, 1321, 1361, 1370, 1383, 1422, 947, 1109, 952, 1222, 999]
set_option maxRecDepth 100000 in
theorem zf_x : ∀ i, i < 34 → zFlt[zpx.getD i 0]? = some (Cond.exactly (ztm i) "java/lang/String") := by decide +kernel
set_option maxRecDepth 100000 in
theorem zf_c : ∀ i, i < 17 → zFlt[zpc.getD i 0]? = some (Cond.eq (.field (ztm i) "java/lang/String" "coder" "B") (.int 0)) := by decide +kernel
set_option maxRecDepth 100000 in
theorem zf_a : ∀ i, i < 17 → zFlt[zpa9.getD i 0]? = some (Cond.arrayOf (.field (ztm i) "java/lang/String" "value" "[B") .byte) := by decide +kernel
set_option maxRecDepth 100000 in
theorem zf_l : ∀ i, i < 17 → zFlt[zpl.getD i 0]? = some (Cond.eq (.length (.field (ztm i) "java/lang/String" "value" "[B")) (.int (Int32.ofNat (zSlen.getD i 0)))) := by decide +kernel
set_option maxRecDepth 100000 in
theorem zf_e : ∀ i, i < 17 → ∀ j, j < zSlen.getD i 0 → zFlt[(zpe9.getD i []).getD j 0]? = some (Cond.eq (.elem (.field (ztm i) "java/lang/String" "value" "[B") (.int (Int32.ofNat j))) (.int ((zSbyt.getD i []).getD j 0))) := by decide +kernel
set_option maxRecDepth 100000 in
theorem zf_s : ∀ i, i < 34 → lw_tbl[zpst.getD i 0]? = some (Cond.stringRef (zStr.getD i ("", 0, "", 0)).1 (zStr.getD i ("", 0, "", 0)).2.1 (zStr.getD i ("", 0, "", 0)).2.2.1) := by decide +kernel
set_option maxRecDepth 100000 in
theorem zStr_i : ∀ q ∈ zStr, q.2.2.2 < 34 ∧ zStr.getD q.2.2.2 ("", 0, "", 0) = q := by decide +kernel
set_option maxRecDepth 100000 in
theorem zinst {ci : Nat} {q : vw_C} (h : vwCl[ci]? = some q) : Cond.instantiable q.1 q.2.2 ∈ lw_tbl := by
  match ci, h with
  | 0, h => cases h; exact (List.mem_of_getElem? (i := 450) rfl)
  | 1, h => cases h; exact (List.mem_of_getElem? (i := 322) rfl)
  | 2, h => cases h; exact (List.mem_of_getElem? (i := 174) rfl)
  | 3, h => cases h; exact (List.mem_of_getElem? (i := 422) rfl)
  | 4, h => cases h; exact (List.mem_of_getElem? (i := 473) rfl)
  | 5, h => cases h; exact (List.mem_of_getElem? (i := 180) rfl)
  | 6, h => cases h; exact (List.mem_of_getElem? (i := 330) rfl)
  | 7, h => cases h; exact (List.mem_of_getElem? (i := 509) rfl)
  | 8, h => cases h; exact (List.mem_of_getElem? (i := 166) rfl)
  | 9, h => cases h; exact (List.mem_of_getElem? (i := 1425) rfl)
  | ci + 10, h => simp [vwCl] at h
set_option maxRecDepth 100000 in
theorem zstart {s : State} {b L : Nat} {xs : Nat → Int32} (hts : ∀ w ∈ lw_tbl, w.before #[Value.ref b] s = true) (hX : va_X b L xs s s.heap) (hbl : b < s.heap.size) (hgv : (Jvm.Cond.and given_1 narrow_1).before #[Value.ref b] s = true) :
    ∃ Δ : zD, zK Δ s ∧ zE Δ s s.heap ∧ zsz Δ = s.heap.size ∧ zscn Δ = L ∧ zsa Δ 3000 = b := by
  have hf : ∀ c ∈ zFlt, c.before #[Value.ref b] s = true := flat_of_before _ hgv
  have hg : ∀ {k : Nat} {c : Cond}, zFlt[k]? = some c → c.before #[Value.ref b] s = true := fun h => hf _ (List.mem_of_getElem? h)
  have hA : ∀ a : Nat, a < s.heap.size → ¬ (fun q : Nat => s.heap.size ≤ q) a := fun a h => Nat.not_le.mpr h
  have h0 : ∀ i : Nat, ∃ a : Nat, i < 34 → (ztm i).eval #[Value.ref b] s none [] s = some (.ref a) ∧ va_O "java/lang/String" a (fun q : Nat => s.heap.size ≤ q) s s.heap := by
    intro i
    by_cases hi : i < 34
    · obtain ⟨a, c, cA, kA, q1, q2, q3, q4, q5, q6, -⟩ := Cond.exactly_spec (args := #[Value.ref b]) (first := s) (o := none) (s := s) (idx := []) (t := ztm i) (cls := "java/lang/String") (hg (zf_x i hi))
      exact ⟨a, fun _ => ⟨q1, cA, q3, q5, by rw [q6]; exact q2, hA a (Array.getElem?_eq_some_iff.mp q3).1⟩⟩
    · exact ⟨0, fun h => absurd h hi⟩
  have h1 : ∀ i : Nat, ∃ t : Nat, i < 17 → (Term.field (ztm i) "java/lang/String" "value" "[B").eval #[Value.ref b] s none [] s = some (.ref t) ∧ va_T .byte t (zSlen.getD i 0) (fun j => .int ((zSbyt.getD i []).getD j 0)) (fun q : Nat => s.heap.size ≤ q) s s.heap := by
    intro i
    by_cases hi : i < 17
    · have hN : zSlen.getD i 0 < 2 ^ 31 := (show ∀ i, i < 17 → zSlen.getD i 0 < 2 ^ 31 by decide) i hi
      obtain ⟨t, ht, hT⟩ := va_Tof (f := fun j => .int ((zSbyt.getD i []).getD j 0)) (A := fun q : Nat => s.heap.size ≤ q) hN (hg (zf_a i hi)) (va_eqt (hg (zf_l i hi))) (fun j hj => va_eqt (hg (zf_e i hi j hj))) hA
      exact ⟨t, fun _ => ⟨ht, hT⟩⟩
    · exact ⟨0, fun h => absurd h hi⟩
  obtain ⟨ad, had⟩ := Classical.axiomOfChoice h0
  obtain ⟨av, hav⟩ := Classical.axiomOfChoice h1
  have h2 : ∀ ci : Nat, ∃ q : ClassId × (Nat → Nat), ∀ r, vwCl[ci]? = some r → u_Kn s r.1 r.2.1 r.2.2 q.1 q.2 := by
    intro ci
    cases hr : vwCl[ci]? with
    | none => exact ⟨(0, fun _ => 0), fun r h => by cases h⟩
    | some r =>
      obtain ⟨cC, iS, h⟩ := u_known (C := r.1) (T := r.2.1) (N := r.2.2) (n := r.2.2) hts (fun w hw => (zin hr w hw).1) (hts _ (zinst hr))
      exact ⟨(cC, iS), fun r2 h2 => by cases h2; exact h⟩
  obtain ⟨ch, hch⟩ := Classical.axiomOfChoice h2
  have ai : (Cond.arrayClass .int).before #[Value.ref b] s = true := hts _ (List.mem_of_getElem? (i := 282) rfl)
  have al : (Cond.arrayClass .long).before #[Value.ref b] s = true := hts _ (List.mem_of_getElem? (i := 367) rfl)
  have ai0 : (Cond.arrayClass .int).before #[] s = true := by
    have h := ai
    simp only [Cond.before, Cond.holds, Cond.value] at h ⊢
    exact h
  have al0 : (Cond.arrayClass .long).before #[] s = true := by
    have h := al
    simp only [Cond.before, Cond.holds, Cond.value] at h ⊢
    exact h
  obtain ⟨cI, kI, oI, i1, i2, i3⟩ := Cond.arrayClass_spec ai
  obtain ⟨cL, kL, oL, l1, l2, l3⟩ := Cond.arrayClass_spec al
  have hz1 : vx_Zq "java/lang/Throwable" "UNASSIGNED_STACK" "[Ljava/lang/StackTraceElement;" (fun q : Nat => s.heap.size ≤ q) s s.heap := vx_Zqof (hts _ (List.mem_of_getElem? (i := 696) rfl)) (hts _ (List.mem_of_getElem? (i := 153) rfl)) (hf _ (List.mem_of_getElem? (i := 4) (by decide +kernel))) hA
  have hz2 : vx_Zq "java/lang/Throwable" "SUPPRESSED_SENTINEL" "Ljava/util/List;" (fun q : Nat => s.heap.size ≤ q) s s.heap := vx_Zqof (hts _ (List.mem_of_getElem? (i := 698) rfl)) (hts _ (List.mem_of_getElem? (i := 153) rfl)) (hf _ (List.mem_of_getElem? (i := 5) (by decide +kernel))) hA
  have hz3 : va_Z "java/lang/String" "COMPACT_STRINGS" "Z" (.int 1) (fun q : Nat => s.heap.size ≤ q) s s.heap := va_Zof (hts _ (List.mem_of_getElem? (i := 772) rfl)) (hts _ (List.mem_of_getElem? (i := 158) rfl)) (va_eqi (hf _ (List.mem_of_getElem? (i := 6) (by decide +kernel)))) hA
  have hz4 : va_Zq "jdk/internal/util/Preconditions" "SIOOBE_FORMATTER" "Ljava/util/function/BiFunction;" (fun q : Nat => s.heap.size ≤ q) s s.heap := va_Zqof (hts _ (List.mem_of_getElem? (i := 788) rfl)) (hts _ (List.mem_of_getElem? (i := 160) rfl)) (hf _ (List.mem_of_getElem? (i := 7) (by decide +kernel))) hA
  have hnc : va_Nc "java/lang/IllegalArgumentException" "java/util/NoSuchElementException" s := va_Nc.of (hf _ (List.mem_of_getElem? (i := 32) (by decide +kernel)))
  obtain ⟨tf, htf⟩ : ∃ t : Nat, va_Z "jdk/internal/util/Preconditions" "SIOOBE_FORMATTER" "Ljava/util/function/BiFunction;" .null (fun q : Nat => s.heap.size ≤ q) s s.heap ∨ va_Z "jdk/internal/util/Preconditions" "SIOOBE_FORMATTER" "Ljava/util/function/BiFunction;" (.ref t) (fun q : Nat => s.heap.size ≤ q) s s.heap := by
    rcases hz4 with h | ⟨t, h⟩
    · exact ⟨0, Or.inl h⟩
    · exact ⟨t, Or.inr h⟩
  let sa : Nat → Nat := fun i => if i = 3000 then b else if i = 2000 then tf else if i < 1000 then ad i else av (i - 1000)
  let sc : Nat → Nat := fun i => if i = 0 then L else zn32 (xs (i - 1))
  let Δ : zD := (fun k => (ch k).1, fun k => (ch k).2, cI, cL, s.heap.size, sa, sc)
  have e1 : ∀ i, i < 34 → zsa Δ i = ad i := fun i hi => by
    show (if i = 3000 then b else if i = 2000 then tf else if i < 1000 then ad i else av (i - 1000)) = ad i
    rw [if_neg (by omega), if_neg (by omega), if_pos (by omega)]
  have e2 : ∀ i, i < 17 → zsa Δ (1000 + i) = av i := fun i hi => by
    show (if 1000 + i = 3000 then b else if 1000 + i = 2000 then tf else if 1000 + i < 1000 then ad (1000 + i) else av (1000 + i - 1000)) = av i
    rw [if_neg (by omega), if_neg (by omega), if_neg (by omega), Nat.add_sub_cancel_left]
  have e3 : zsa Δ 3000 = b := rfl
  have e4 : zsa Δ 2000 = tf := rfl
  have e5 : zscn Δ = L := rfl
  have e6 : ∀ j, zscv Δ j = xs j := fun j => zn32_eq (xs j)
  refine ⟨Δ, ⟨⟨fun c q hq => hch c q hq, fun k q hq => ?_⟩, fun w h1 h2 => va_Nw.of (by simp only [zWm, Bool.and_eq_true] at h2; exact h2.1) (hts w h1), ⟨ai0, al0, hnc⟩, fun q hq => ?_⟩, ⟨hz1, hz2, hz3, fun i hi => ?_, by rw [e4]; exact htf, ?_⟩, rfl, e5, e3⟩
  · match k, hq with
    | 0, hq => cases hq; exact ⟨fun n z => ⟨fun k h => (by cases h), kI, i2, oI, i3⟩, i1⟩
    | 1, hq => cases hq; exact ⟨fun n z => ⟨fun k h => (by cases h), kL, l2, oL, l3⟩, l1⟩
    | k + 2, hq => simp at hq
  · obtain ⟨g1, g2⟩ := zStr_i q hq
    have g3 := List.mem_of_getElem? (zf_s q.2.2.2 g1)
    have g4 := (had q.2.2.2 g1).1
    unfold ztm at g4
    rw [g2] at g3 g4
    rw [e1 _ g1]
    exact vk_R.of (hts _ g3) g4
  · show va_O "java/lang/String" (zsa Δ i) (fun q : Nat => s.heap.size ≤ q) s s.heap ∧ va_OF "java/lang/String" "coder" "B" (.int 0) (zsa Δ i) (fun q : Nat => s.heap.size ≤ q) s s.heap ∧ va_OF "java/lang/String" "value" "[B" (.ref (zsa Δ (1000 + i))) (zsa Δ i) (fun q : Nat => s.heap.size ≤ q) s s.heap ∧ va_T .byte (zsa Δ (1000 + i)) (zSlen.getD i 0) (fun j => .int ((zSbyt.getD i []).getD j 0)) (fun q : Nat => s.heap.size ≤ q) s s.heap
    rw [e1 i (by omega), e2 i hi]
    have q1 := had i (by omega)
    have q2 := hav i hi
    exact ⟨q1.2, vk_OFof q1.1 (va_eqt (hg (zf_c i hi))) hA, vk_OFof q1.1 q2.1 hA, q2.2⟩
  · obtain ⟨scr, x1, x2, x3, x4, x5⟩ := hX
    refine ⟨scr, by rw [e3]; exact x1, x2, x3, Nat.le_of_eq (by rw [e5, x4]), by rw [x4]; rfl, fun j hj => ?_, ?_⟩
    · show scr.slots[j]? = some (Value.int (zscv Δ j))
      rw [e6 j]
      exact x5 j hj
    · rw [e3]
      exact Nat.not_le.mpr hbl
