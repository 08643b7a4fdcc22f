/-! string constants: their length and their letters -/
section ZS
variable {Δ : zD} {M : zMI} {R : Room} {fx : Bool} {sh0 : zSh} {QR : Option Value → zW → Prop} {QX : String → zW → Prop} {k n pc : Nat} {ls : List (Nat × Value)} {st : List Value} {w : zW}
theorem zJ_gcs {idx : Nat} (hd : decode M.2.1 pc = .ok (.getstatic idx, 3)) (hlk : Cond.fieldLink M.1 idx "java/lang/String" "COMPACT_STRINGS" "Z" ∈ lw_tbl) (kk : zJ Δ M R fx sh0 QR QX k n (pc + 3) ls (.int 1 :: st) w) : zJ Δ M R fx sh0 QR QX k n pc ls st w := by
  intro p l e s m args below meth c H locs ρ0 ρ ls' C G r S L
  have hK := C.2.2.2.2.2.2.2.2.2.1
  have hE := C.2.2.2.2.2.2.2.2.2.2.1
  exact va_gets C.1 C.2.1 hE.2.2.1 S C.2.2.2.1 (zw hK hlk rfl) (fun _ h => h) hd (kk p l e s m args below meth c H locs ρ0 ρ ls' C G r S L)
theorem zJ_gfm {idx : Nat} (hd : decode M.2.1 pc = .ok (.getstatic idx, 3)) (hlk : Cond.fieldLink M.1 idx "jdk/internal/util/Preconditions" "SIOOBE_FORMATTER" "Ljava/util/function/BiFunction;" ∈ lw_tbl) (k1 : zJ Δ M R fx sh0 QR QX k n (pc + 3) ls (.null :: st) w) (k2 : zJ Δ M R fx sh0 QR QX k n (pc + 3) ls (.ref (1000 + 2000) :: st) w) : zJ Δ M R fx sh0 QR QX k n pc ls st w := by
  intro p l e s m args below meth c H locs ρ0 ρ ls' C G r S L
  have hK := C.2.2.2.2.2.2.2.2.2.1
  have hE := C.2.2.2.2.2.2.2.2.2.2.1
  rcases hE.2.2.2.2.1 with h | h
  · exact va_gets C.1 C.2.1 h S C.2.2.2.1 (zw hK hlk rfl) (fun _ h => h) hd (k1 p l e s m args below meth c H locs ρ0 ρ ls' C G r S L)
  · refine va_gets C.1 C.2.1 h S C.2.2.2.1 (zw hK hlk rfl) (fun _ h => h) hd ?_
    have := k2 p l e s m args below meth c H locs ρ0 ρ ls' C G r S L
    rwa [List.map_cons, show zv ρ (.ref (1000 + 2000)) = .ref (zsa Δ 2000) from congrArg Value.ref (r.2.2.2.2.2.2.1 2000)] at this
theorem zJ_scod {idx i : Nat} (hi : i < 17) (hd : decode M.2.1 pc = .ok (.getfield idx, 3)) (hlk : Cond.fieldLink M.1 idx "java/lang/String" "coder" "B" ∈ lw_tbl) (kk : zJ Δ M R fx sh0 QR QX k n (pc + 3) ls (.int 0 :: st) w) : zJ Δ M R fx sh0 QR QX k n pc ls (.ref (1000 + i) :: st) w := by
  intro p l e s m args below meth c H locs ρ0 ρ ls' C G r S L
  have hK := C.2.2.2.2.2.2.2.2.2.1
  have hE := C.2.2.2.2.2.2.2.2.2.2.1
  rw [List.map_cons, show zv ρ (.ref (1000 + i)) = .ref (zsa Δ i) from congrArg Value.ref (r.2.2.2.2.2.2.1 i)]
  exact vk_getf C.1 C.2.1 (hE.2.2.2.1 i hi).2.1 S C.2.2.2.1 (zw hK hlk rfl) (fun _ h => h) hd (kk p l e s m args below meth c H locs ρ0 ρ ls' C G r S L)
theorem zJ_sval {idx i : Nat} (hi : i < 17) (hd : decode M.2.1 pc = .ok (.getfield idx, 3)) (hlk : Cond.fieldLink M.1 idx "java/lang/String" "value" "[B" ∈ lw_tbl) (kk : zJ Δ M R fx sh0 QR QX k n (pc + 3) ls (.ref (1000 + (1000 + i)) :: st) w) : zJ Δ M R fx sh0 QR QX k n pc ls (.ref (1000 + i) :: st) w := by
  intro p l e s m args below meth c H locs ρ0 ρ ls' C G r S L
  have hK := C.2.2.2.2.2.2.2.2.2.1
  have hE := C.2.2.2.2.2.2.2.2.2.2.1
  rw [List.map_cons, show zv ρ (.ref (1000 + i)) = .ref (zsa Δ i) from congrArg Value.ref (r.2.2.2.2.2.2.1 i)]
  refine vk_getf C.1 C.2.1 (hE.2.2.2.1 i hi).2.2.1 S C.2.2.2.1 (zw hK hlk rfl) (fun _ h => h) hd ?_
  have := kk p l e s m args below meth c H locs ρ0 ρ ls' C G r S L
  rwa [List.map_cons, show zv ρ (.ref (1000 + (1000 + i))) = .ref (zsv Δ i) from congrArg Value.ref (r.2.2.2.2.2.2.1 (1000 + i))] at this
theorem zJ_slen {i : Nat} (hi : i < 17) (hd : decode M.2.1 pc = .ok (.arraylength, 1)) (kk : zJ Δ M R fx sh0 QR QX k n (pc + 1) ls (.int (nI (zSlen.getD i 0)) :: st) w) : zJ Δ M R fx sh0 QR QX k n pc ls (.ref (1000 + (1000 + i)) :: st) w := by
  intro p l e s m args below meth c H locs ρ0 ρ ls' C G r S L
  have hE := C.2.2.2.2.2.2.2.2.2.2.1
  rw [List.map_cons, show zv ρ (.ref (1000 + (1000 + i))) = .ref (zsv Δ i) from congrArg Value.ref (r.2.2.2.2.2.2.1 (1000 + i))]
  exact va_tlen C.1 C.2.1 (hE.2.2.2.1 i hi).2.2.2 S rfl hd (kk p l e s m args below meth c H locs ρ0 ρ ls' C G r S L)
theorem zJ_sbld {i : Nat} {x : Int32} (hi : i < 17) (hx : vp_in x (zSlen.getD i 0)) (hd : decode M.2.1 pc = .ok (.baload, 1)) (kk : zJ Δ M R fx sh0 QR QX k n (pc + 1) ls (.int ((zSbyt.getD i []).getD x.toNatClampNeg 0) :: st) w) : zJ Δ M R fx sh0 QR QX k n pc ls (.int x :: .ref (1000 + (1000 + i)) :: st) w := by
  intro p l e s m args below meth c H locs ρ0 ρ ls' C G r S L
  have hE := C.2.2.2.2.2.2.2.2.2.2.1
  rw [List.map_cons, List.map_cons, show zv ρ (.ref (1000 + (1000 + i))) = .ref (zsv Δ i) from congrArg Value.ref (r.2.2.2.2.2.2.1 (1000 + i))]
  exact va_tb C.1 C.2.1 (hE.2.2.2.1 i hi).2.2.2 S hx rfl hd (kk p l e s m args below meth c H locs ρ0 ρ ls' C G r S L)
theorem zJ_tret {x : Int32} {ty : FieldType} (hd : decode M.2.1 pc = .ok (.ireturn, 1)) (hret : M.2.2.2.1 = some ty) (hx : narrow ty (.int x) = .int x) (hty : ¬ ty = .long) (hk : k ≤ R.cells) (hn : n ≤ R.slots) (hq : QR (some (.int x)) w) : zJ Δ M R fx sh0 QR QX k n pc ls [.int x] w := fun p l e s m args below meth c H locs ρ0 ρ ls' C G r S L => W.widen hk hn (vx_ret (W.zret (v := x) C.1 C.2.1 (C.2.2.2.2.2.2.1.trans hret) hx (fun t ht hW => ⟨some (.int x), ρ, w, rfl, ⟨⟨fun _ => ⟨x, rfl⟩, fun h2 => (hty (Option.some.inj (hret.symm.trans h2))).elim⟩, hq⟩, by rw [ht]; exact r, G, S.F ht⟩) S.2.2 hd C.2.2.2.2.1))
theorem zJ_aloadv {i : Fin 4} {v : Value} (hv : v = .null ∨ ∃ x, v = .ref x) (hd : decode M.2.1 pc = .ok (.aload_n i, 1)) : True := trivial
/-- a method of a string constant -/
theorem zJ_tV {y : MethodName} {M' : zMI} {h idx np i : Nat} {As : List Value} {P : Option Value → zW → Prop} (hd : decode M.2.1 pc = .ok (.invokevirtual idx, 3)) (hs : zSV M.1 idx y) (hp1 : Cond.methodLink M.1 idx y ∈ lw_tbl) (hf : zMf y M' np) (hM : zMp Δ h y M' (.ref (1000 + i) :: As) w P) (hi : i < 17) (hcy : y.cls = "java/lang/String") (hn : As.length = np) (hst : (st.map fun v => v.category).sum ≤ 8) (hR : h + 1 ≤ R.frames ∧ 38 * h + 38 ≤ R.locals) (hc : k ≤ R.cells ∧ n ≤ R.slots)
    (kk : ∀ r w', P r w' → zJ Δ M R fx sh0 QR QX k n (pc + 3) ls (zpush r st) w') : zJ Δ M R fx sh0 QR QX k n pc ls (As.reverse ++ .ref (1000 + i) :: st) w := by
  intro p l e s m args below meth c H locs ρ0 ρ ls' C G r S L
  have hK := C.2.2.2.2.2.2.2.2.2.1
  have hE := C.2.2.2.2.2.2.2.2.2.2.1
  obtain ⟨hl, h2, h3, h4⟩ := hs
  have hstk : ((As.reverse ++ Value.ref (1000 + i) :: st).map (zv ρ)) = (As.map (zv ρ)).reverse ++ Value.ref (ρ (1000 + i)) :: st.map (zv ρ) := by rw [List.map_append, List.map_reverse]; rfl
  have hrec : ∃ cell : Cell, H[ρ (1000 + i)]? = some cell ∧ cell.vm.isStatics = false ∧ s.vm.findClass y.cls = some cell.cls := by
    obtain ⟨cell, c1, c2, c3, -⟩ := va_O.kept (hE.2.2.2.1 i hi).1 S.2.1
    exact ⟨cell, by rw [r.2.2.2.2.2.2.1 i]; exact c1, c2, by rw [hcy]; exact c3⟩
  have hp : PreV s H y.cls (ρ (1000 + i)) (va_Pc ((Value.ref (1000 + i) :: As).map (zv ρ)) (fun U => zK Δ U ∧ zE Δ U U.heap ∧ zsz Δ ≤ U.heap.size ∧ zR Δ ρ w U.heap)) (As.map (zv ρ)) := ⟨zblind, hrec, fun U hU hW => ⟨rfl, zpre C r S hU hW⟩⟩
  have hW : 2 * (F0 m pc ls' ((As.reverse ++ Value.ref (1000 + i) :: st).map (zv ρ))).monitorRoom + ((st.map (zv ρ)).map fun v => v.category).sum ≤ 8 := by rw [zcats]; exact lv_room hst
  exact zcall C G r S L (vx_runV (C := y.cls) (As := As.map (zv ρ)) (rest := st.map (zv ρ)) (Ts := []) (bytes := M'.2.1) (maxL := M'.2.2.1) (ret := M'.2.2.2.1) (cc := M.2.1) (nL := M.2.2.1) (own := M.1) ⟨C.1, C.2.1, C.2.2.1, C.2.2.2.1, fun _ h => nomatch h⟩ (hM l ρ C.2.2.2.2.2.1) ⟨zcb hK hf hp1 h4 hR, zw hK h2 rfl, zw hK h3 rfl⟩ hp rfl (by rw [List.length_map]; exact hn) L.1 hstk hW hd hc) (Or.inl rfl) (fun r w' h => kk r w' h.2) (fun E w' h => h.elim)
end ZS
/-- the letters of the words -/
def zwl : List (List Nat) := [[112, 101, 114, 115, 111, 110], [107, 110, 111, 119, 115], [108, 101, 116, 116, 101, 114], [108, 97, 119], [119, 97, 120], [102, 105, 114, 115, 116], [110, 97, 109, 101], [111, 112, 101, 110, 115], [115, 101, 110, 100, 115], [108, 117, 99, 107], [98, 101, 115, 116], [119, 101, 105, 103, 104, 116], [112, 114, 105, 122, 101], [112, 97, 121, 115], [111, 110, 99, 101], [97, 103, 97, 105, 110], [98, 97, 99, 107]]
theorem zwl_len : ∀ i, i < 17 → zSlen.getD i 0 = (zwl.getD i []).length ∧ (zwl.getD i []).length ≤ 6 := by decide +kernel
theorem zwl_ch : ∀ i, i < 17 → ∀ k, k < (zwl.getD i []).length → (((zSbyt.getD i []).getD k 0 &&& 255).toUInt32 % 65536).toInt32 = nI ((zwl.getD i []).getD k 0) ∧ 97 ≤ (zwl.getD i []).getD k 0 ∧ (zwl.getD i []).getD k 0 ≤ 122 := by
  intro i hi k hk
  have h6 := (zwl_len i hi).2
  exact (by decide +kernel : ∀ i, i < 17 → ∀ k, k < 6 → k < (zwl.getD i []).length → (((zSbyt.getD i []).getD k 0 &&& 255).toUInt32 % 65536).toInt32 = nI ((zwl.getD i []).getD k 0) ∧ 97 ≤ (zwl.getD i []).getD k 0 ∧ (zwl.getD i []).getD k 0 ≤ 122) i hi k (by omega) hk
theorem zwl_nar : ∀ c, 97 ≤ c → c ≤ 122 → narrow .char (.int (nI c)) = .int (nI c) := by
  intro c h1 h2
  exact (by decide +kernel : ∀ d, d < 26 → narrow .char (.int (nI (97 + d))) = .int (nI (97 + d))) (c - 97) (by omega) |> fun h => by rwa [show 97 + (c - 97) = c by omega] at h
set_option maxRecDepth 100000 in
theorem lkJ0_38 : Cond.fieldLink RJ0 38 "java/lang/String" "COMPACT_STRINGS" "Z" ∈ lw_tbl := (List.mem_of_getElem? (i := 771) rfl)
set_option maxRecDepth 100000 in
theorem lkJ0_15 : Cond.fieldLink RJ0 15 "java/lang/String" "coder" "B" ∈ lw_tbl := (List.mem_of_getElem? (i := 2062) rfl)
set_option maxRecDepth 100000 in
theorem lkJ0_9 : Cond.fieldLink RJ0 9 "java/lang/String" "value" "[B" ∈ lw_tbl := (List.mem_of_getElem? (i := 2061) rfl)
set_option maxRecDepth 100000 in
theorem lkJ0_1053 : Cond.fieldLink RJ0 1053 "jdk/internal/util/Preconditions" "SIOOBE_FORMATTER" "Ljava/util/function/BiFunction;" ∈ lw_tbl := (List.mem_of_getElem? (i := 787) rfl)
set_option maxRecDepth 100000 in
theorem c_Str_coder (Δ : zD) (w : zW) (i : Nat) (hi : i < 17) : zMd Δ 0 0 0 true yJ0_coder_7d493 mJ0_coder_7d493 [.ref (1000 + i)] w (some (.int 0)) w := by
  refine zMd.of mfJ0_coder_7d493 (Nat.le_of_ble_eq_true rfl) (fun QR hQ => ?_)
  refine zJ_gcs dJ0_coder_7d493_0 lkJ0_38 ?_
  refine zJ_if_eq (tgt := 13) dJ0_coder_7d493_3 (by decide) (fun h => absurd h (by decide)) (fun _ => ?_)
  refine zJ_aload_n dJ0_coder_7d493_6 rfl ?_
  refine zJ_scod hi dJ0_coder_7d493_7 lkJ0_15 ?_
  refine zJ_goto (tgt := 14) dJ0_coder_7d493_10 (by decide) ?_
  exact zJ_tret (ty := .byte) dJ0_coder_7d493_14 rfl (by decide +kernel) (fun h => by cases h) (by decide) (by decide) hQ
set_option maxRecDepth 100000 in
theorem c_Str_isLatin1 (Δ : zD) (w : zW) (i : Nat) (hi : i < 17) : zMd Δ 0 0 0 true yJ0_isLatin1_aae02 mJ0_isLatin1_aae02 [.ref (1000 + i)] w (some (.int 1)) w := by
  refine zMd.of mfJ0_isLatin1_aae02 (Nat.le_of_ble_eq_true rfl) (fun QR hQ => ?_)
  refine zJ_gcs dJ0_isLatin1_aae02_0 lkJ0_38 ?_
  refine zJ_if_eq (tgt := 17) dJ0_isLatin1_aae02_3 (by decide) (fun h => absurd h (by decide)) (fun _ => ?_)
  refine zJ_aload_n dJ0_isLatin1_aae02_6 rfl ?_
  refine zJ_scod hi dJ0_isLatin1_aae02_7 lkJ0_15 ?_
  refine zJ_if_ne (tgt := 17) dJ0_isLatin1_aae02_10 (by decide) (fun h => absurd rfl h) (fun _ => ?_)
  refine zJ_iconst (v := 1) dJ0_isLatin1_aae02_13 (by decide) ?_
  refine zJ_goto (tgt := 18) dJ0_isLatin1_aae02_14 (by decide) ?_
  exact zJ_zret dJ0_isLatin1_aae02_18 rfl (by decide +kernel) (by decide) (by decide) hQ
set_option maxRecDepth 100000 in
theorem c_Str_length (Δ : zD) (w : zW) (i : Nat) (hi : i < 17) : zMd Δ 1 0 0 true yJ0_length_8abf5 mJ0_length_8abf5 [.ref (1000 + i)] w (some (.int (nI (zwl.getD i []).length))) w := by
  refine zMd.of mfJ0_length_8abf5 (Nat.le_of_ble_eq_true rfl) (fun QR hQ => ?_)
  refine zJ_aload_n dJ0_length_8abf5_0 rfl ?_
  refine zJ_sval hi dJ0_length_8abf5_1 lkJ0_9 ?_
  refine zJ_slen hi dJ0_length_8abf5_4 ?_
  refine zJ_aload_n dJ0_length_8abf5_5 rfl ?_
  refine zJ_tV (As := []) dJ0_length_8abf5_6 sJ0_335 pJ0_335 mfJ0_coder_7d493 ((c_Str_coder Δ w i hi).p (Q := fun r w2 => r = some (.int 0) ∧ w = w2) ⟨rfl, rfl⟩) hi rfl rfl (Nat.le_of_ble_eq_true rfl) (by decide) (by decide) (fun r w2 hP => ?_)
  obtain ⟨rfl, rfl⟩ := hP
  refine zJ_ishr dJ0_length_8abf5_9 ?_
  have hl := zwl_len i hi
  rw [show nI (zSlen.getD i 0) >>> ((0 : Int32) &&& 31) = nI (zSlen.getD i 0 / 2 ^ 0) from nI_shr (k := 0) (by omega) (by decide), Nat.pow_zero, Nat.div_one, hl.1]
  exact zJ_iret dJ0_length_8abf5_10 rfl (by decide) (by decide) hQ
set_option maxRecDepth 100000 in
theorem c_Str_ckN (Δ : zD) (w : zW) (k n : Nat) (hk : k < n) (hn : n < 2 ^ 31) : zMd Δ 0 0 0 true yJ3_checkIndex_8e157 mJ3_checkIndex_8e157 [.int (nI k), .int (nI n), .null] w (some (.int (nI k))) w := by
  refine zMd.of mfJ3_checkIndex_8e157 (Nat.le_of_ble_eq_true rfl) (fun QR hQ => ?_)
  refine zJ_iload_n dJ3_checkIndex_8e157_0 rfl ?_
  refine zJ_if_lt (tgt := 9) dJ3_checkIndex_8e157_1 (by decide) (fun h => absurd ((nI_ltI (a := k) (b := 0) (by omega) (by decide)).mp h) (by omega)) (fun _ => ?_)
  refine zJ_iload_n dJ3_checkIndex_8e157_4 rfl ?_
  refine zJ_iload_n dJ3_checkIndex_8e157_5 rfl ?_
  refine zJ_icmp_lt (tgt := 16) dJ3_checkIndex_8e157_6 (by decide) (fun _ => ?_) (fun h => absurd ((nI_ltI (by omega) hn).mpr hk) h)
  refine zJ_iload_n dJ3_checkIndex_8e157_16 rfl ?_
  exact zJ_iret dJ3_checkIndex_8e157_17 rfl (by decide) (by decide) hQ
set_option maxRecDepth 100000 in
theorem c_Str_ckR (Δ : zD) (w : zW) (k n : Nat) (hk : k < n) (hn : n < 2 ^ 31) : zMd Δ 0 0 0 true yJ3_checkIndex_8e157 mJ3_checkIndex_8e157 [.int (nI k), .int (nI n), (.ref (1000 + 2000))] w (some (.int (nI k))) w := by
  refine zMd.of mfJ3_checkIndex_8e157 (Nat.le_of_ble_eq_true rfl) (fun QR hQ => ?_)
  refine zJ_iload_n dJ3_checkIndex_8e157_0 rfl ?_
  refine zJ_if_lt (tgt := 9) dJ3_checkIndex_8e157_1 (by decide) (fun h => absurd ((nI_ltI (a := k) (b := 0) (by omega) (by decide)).mp h) (by omega)) (fun _ => ?_)
  refine zJ_iload_n dJ3_checkIndex_8e157_4 rfl ?_
  refine zJ_iload_n dJ3_checkIndex_8e157_5 rfl ?_
  refine zJ_icmp_lt (tgt := 16) dJ3_checkIndex_8e157_6 (by decide) (fun _ => ?_) (fun h => absurd ((nI_ltI (by omega) hn).mpr hk) h)
  refine zJ_iload_n dJ3_checkIndex_8e157_16 rfl ?_
  exact zJ_iret dJ3_checkIndex_8e157_17 rfl (by decide) (by decide) hQ
set_option maxRecDepth 100000 in
theorem c_Str_ck0 (Δ : zD) (w : zW) (k n : Nat) (hk : k < n) (hn : n < 2 ^ 31) : zMd Δ 1 0 0 true yJ0_checkIndex_df160 mJ0_checkIndex_df160 [.int (nI k), .int (nI n)] w none w := by
  refine zMd.of mfJ0_checkIndex_df160 (Nat.le_of_ble_eq_true rfl) (fun QR hQ => ?_)
  refine zJ_iload_n dJ0_checkIndex_df160_0 rfl ?_
  refine zJ_iload_n dJ0_checkIndex_df160_1 rfl ?_
  refine zJ_gfm dJ0_checkIndex_df160_2 lkJ0_1053 ?_ ?_
  · refine zJ_cS3 dJ0_checkIndex_df160_5 sJ0_1059 mfJ3_checkIndex_8e157 (c_Str_ckN Δ w k n hk hn) (Nat.le_of_ble_eq_true rfl) (by decide) (by decide) ?_
    refine zJ_pop dJ0_checkIndex_df160_8 rfl ?_
    exact zJ_vret dJ0_checkIndex_df160_9 rfl (by decide) (by decide) hQ
  · refine zJ_cS3 dJ0_checkIndex_df160_5 sJ0_1059 mfJ3_checkIndex_8e157 (c_Str_ckR Δ w k n hk hn) (Nat.le_of_ble_eq_true rfl) (by decide) (by decide) ?_
    refine zJ_pop dJ0_checkIndex_df160_8 rfl ?_
    exact zJ_vret dJ0_checkIndex_df160_9 rfl (by decide) (by decide) hQ
set_option maxRecDepth 100000 in
theorem c_Str_ch1 (Δ : zD) (w : zW) (i : Nat) (hi : i < 17) (k : Nat) (hk : k < (zwl.getD i []).length) : zMd Δ 2 0 0 true yJ1_charAt_3b067 mJ1_charAt_3b067 [.ref (1000 + (1000 + i)), .int (nI k)] w (some (.int (nI ((zwl.getD i []).getD k 0)))) w := by
  refine zMd.of mfJ1_charAt_3b067 (Nat.le_of_ble_eq_true rfl) (fun QR hQ => ?_)
  have hl := zwl_len i hi
  have hc := zwl_ch i hi k hk
  refine zJ_iload_n dJ1_charAt_3b067_0 rfl ?_
  refine zJ_aload_n dJ1_charAt_3b067_1 rfl ?_
  refine zJ_slen hi dJ1_charAt_3b067_2 ?_
  refine zJ_cS2 dJ1_charAt_3b067_3 sJ1_9 mfJ0_checkIndex_df160 (c_Str_ck0 Δ w k (zSlen.getD i 0) (by omega) (by omega)) (Nat.le_of_ble_eq_true rfl) (by decide) (by decide) ?_
  refine zJ_aload_n dJ1_charAt_3b067_6 rfl ?_
  refine zJ_iload_n dJ1_charAt_3b067_7 rfl ?_
  refine zJ_sbld hi (vp_in_nI (by omega) (by omega)) dJ1_charAt_3b067_8 ?_
  refine zJ_sipush (v := 255) dJ1_charAt_3b067_9 (by decide) ?_
  refine zJ_iand dJ1_charAt_3b067_12 ?_
  refine zJ_i2c dJ1_charAt_3b067_13 ?_
  rw [nI_clamp (show k < 2 ^ 31 by omega), hc.1]
  exact zJ_tret (ty := .char) dJ1_charAt_3b067_14 rfl (zwl_nar _ hc.2.1 hc.2.2) (fun h => by cases h) (by decide) (by decide) hQ
set_option maxRecDepth 100000 in
theorem c_Str_charAt (Δ : zD) (w : zW) (i : Nat) (hi : i < 17) (k : Nat) (hk : k < (zwl.getD i []).length) : zMd Δ 3 0 0 true yJ0_charAt_5068e mJ0_charAt_5068e [.ref (1000 + i), .int (nI k)] w (some (.int (nI ((zwl.getD i []).getD k 0)))) w := by
  refine zMd.of mfJ0_charAt_5068e (Nat.le_of_ble_eq_true rfl) (fun QR hQ => ?_)
  have hc := zwl_ch i hi k hk
  refine zJ_aload_n dJ0_charAt_5068e_0 rfl ?_
  refine zJ_tV (As := []) dJ0_charAt_5068e_1 sJ0_492 pJ0_492 mfJ0_isLatin1_aae02 ((c_Str_isLatin1 Δ w i hi).p (Q := fun r w2 => r = some (.int 1) ∧ w = w2) ⟨rfl, rfl⟩) hi rfl rfl (Nat.le_of_ble_eq_true rfl) (by decide) (by decide) (fun r w2 hP => ?_)
  obtain ⟨rfl, rfl⟩ := hP
  refine zJ_if_eq (tgt := 16) dJ0_charAt_5068e_4 (by decide) (fun h => absurd h (by decide)) (fun _ => ?_)
  refine zJ_aload_n dJ0_charAt_5068e_7 rfl ?_
  refine zJ_sval hi dJ0_charAt_5068e_8 lkJ0_9 ?_
  refine zJ_iload_n dJ0_charAt_5068e_11 rfl ?_
  refine zJ_cS2 dJ0_charAt_5068e_12 sJ0_495 mfJ1_charAt_3b067 (c_Str_ch1 Δ w i hi k hk) (Nat.le_of_ble_eq_true rfl) (by decide) (by decide) ?_
  exact zJ_tret (ty := .char) dJ0_charAt_5068e_15 rfl (zwl_nar _ hc.2.1 hc.2.2) (fun h => by cases h) (by decide) (by decide) hQ
