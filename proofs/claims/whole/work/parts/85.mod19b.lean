set_option maxRecDepth 100000 in
theorem zMo_chO (Δ : zD) (w : zW) (T : zTo) (K : List zKy) (hK : zMK w T K) (hT : zTok T) (hB : zBm w T K) (v1 : Int32) {QR : Option Value → zW → Prop} (kk : ∀ e fo, zFM [68, 69] w e → zCn e K (zchn T K K.length) → zFnd K (zfnd T K K.length) fo → zJ Δ mX9_chain (zRm 5 0 0) true w.1 QR (fun _ _ => False) 0 0 347 [(2, .int fo), (0, .ref 100), (1, .int v1)] [] e) : ∀ n, n ≤ K.length → ∀ e fo, zFM [68, 69] w e → zCn e K (zchn T K n) → zFnd K (zfnd T K n) fo → zJ Δ mX9_chain (zRm 5 0 0) true w.1 QR (fun _ _ => False) 0 0 111 [(3, .int (nI n)), (2, .int fo), (0, .ref 100), (1, .int v1)] [] e := by
  have hK0 := hK
  obtain ⟨hA, hN, hall, hch⟩ := hK
  have hA0 := hA
  obtain ⟨hM, m1, m3, m4, m5, m6, m7, m46, m9, m47, mso, mnu, mwt⟩ := hA
  have hT0 := hT
  obtain ⟨hp0, hp5, hp6, hp7, hp8, hp9, hp10, hp11, hp12, hp13, hpp, hpw⟩ := hT
  have hKR := hN.2.2.1
  refine zup (fun n hn ih => ?_)
  intro e fo hf hc hfo
  have hKe : zMK e T K := hK0.fm hf (by decide)
  have Me : zMs e := hKe.1.1
  have e38 : e.2.1 100 38 = nI K.length := hKe.2.1.2.1
  have e5 : e.2.1 100 5 = nI (T.1 7) := hKe.1.2.2.2.2.1
  by_cases hn0 : n = K.length
  · refine zJ_iload_n dX9_chain_111 rfl ?_
    refine zJ_aload_n dX9_chain_112 rfl ?_
    refine zJ_getiN dX9_chain_113 fX9_354 (by first | rfl | assumption | exact Me.at (by decide) (by decide)) rfl e38 ?_
    refine zJ_icmp_ge (tgt := 347) dX9_chain_116 (by decide) (fun h116 => ?_) (fun h9 => absurd ((nI_leI (by omega) (by omega)).mpr (by omega)) h9)
    refine zJ_ls [(2, .int fo), (0, .ref 100), (1, .int v1)] (by simp) ?_
    rw [hn0] at hc hfo
    exact kk e fo hf hc hfo
  · have hn9 : n < K.length := by omega
    obtain ⟨k, hx⟩ : ∃ k, K[n]? = some k := ⟨_, List.getElem?_eq_getElem hn9⟩
    obtain ⟨hk, hkp⟩ := hN.2.2.2 k (List.mem_iff_getElem?.mpr ⟨n, hx⟩)
    have hk2 := hk.2.1
    obtain ⟨-, y2, -, -⟩ := hKe.2.1.1 n k hx
    have hok := zchn_ok hT0 (K := K) n
    generalize hs9 : zchn T K n = s at hc hok
    have hz1 : zchn T K (n + 1) = if 0 < s.1 k ∧ k.2.1 < T.1 7 then ztl T k s 8 else s := by simp only [zchn, hx, hs9]
    have hz2 : zfnd T K (n + 1) = if 0 < s.1 k ∧ ¬ k.2.1 < T.1 7 then zfo1 s (zfnd T K n) k else zfnd T K n := by simp only [zfnd, hx, hs9]
    obtain ⟨c1, c2⟩ := hc n k hx
    have hskb := hok k
    have hp8 : 8 ^ k.2.1 ≤ 8 ^ 12 := Nat.pow_le_pow_right (by decide) (by omega)
    by_cases hv : s.1 k = 0
    · refine zJ_iload_n dX9_chain_111 rfl ?_
      refine zJ_aload_n dX9_chain_112 rfl ?_
      refine zJ_getiN dX9_chain_113 fX9_354 (by first | rfl | assumption | exact Me.at (by decide) (by decide)) rfl e38 ?_
      refine zJ_icmp_ge (tgt := 347) dX9_chain_116 (by decide) (fun h9 => absurd h9 (fun h => absurd ((nI_leI (by omega) (by omega)).mp h) (by omega))) (fun h116 => ?_)
      refine zJ_aload_n dX9_chain_119 rfl ?_
      refine zJ_getr (j := 168) dX9_chain_120 fX9_119 (by first | rfl | assumption | exact Me.at (by decide) (by decide)) rfl (by first | rfl | assumption | exact Me.rf (by decide) rfl) ?_
      refine zJ_iload_n dX9_chain_123 rfl ?_
      refine zJ_laldN (i := n) (v := (lN (s.1 k))) dX9_chain_124 (by first | rfl | assumption | exact Me.at (by decide) (by decide)) rfl (by omega) (by decide) c1 ?_
      refine zJ_lconst (v := 0) dX9_chain_125 (by decide) ?_
      refine zJ_lc_ne (tgt := 133) dX9_chain_126 dX9_chain_127 (by decide) (fun h9 => absurd h9 (fun h => h (by rw [hv]; rfl))) (fun h127 => ?_)
      refine zJ_goto (tgt := 341) dX9_chain_130 (by decide) ?_
      refine zJ_iinc (ls2 := fun x341 => [(3, .int x341), (2, .int fo), (0, .ref 100), (1, .int v1)]) dX9_chain_341 rfl (by decide) (fun _ => rfl) (fun x341 ex341 => ?_)
      refine zJ_goto (tgt := 111) dX9_chain_344 (by decide) ?_
      refine zJ_ls [(3, .int x341), (2, .int fo), (0, .ref 100), (1, .int v1)] (by simp) ?_
      rw [ex341, show nI n + Int32.ofInt 1 = nI (n + 1) from nI_1 _]
      rw [if_neg (by omega)] at hz1 hz2
      exact ih (n + 1) (by omega) (by omega) e fo hf (by rw [hz1]; exact hc) (by rw [hz2]; exact hfo)
    · have hvp : 0 < s.1 k := by omega
      have hv9 : ¬ lN (s.1 k) = 0 := fun h => hv ((fb_lN_inj (b := 0) (by omega) (by decide)).mp h)
      have hcb := hskb.2 hvp
      have hz1 : zchn T K (n + 1) = ztl T k s 8 := by
        rw [hz1]
        by_cases hl : k.2.1 < T.1 7
        · rw [if_pos ⟨hvp, hl⟩]
        · rw [if_neg (fun h => hl h.2), ztl_end hl]
      have K341 : ∀ fo2, zFnd K (zfnd T K (n + 1)) fo2 → ∀ e2, zFM [68, 69] w e2 → zCn e2 K (ztl T k s 8) → zJ Δ mX9_chain (zRm 5 0 0) true w.1 QR (fun _ _ => False) 0 0 341 [(3, .int (nI n)), (2, .int fo2), (0, .ref 100), (1, .int v1)] [] e2 := by
        intro fo2 hfo2 e2 hf2 hc2
        refine zJ_iinc (ls2 := fun x341 => [(3, .int x341), (2, .int fo2), (0, .ref 100), (1, .int v1)]) dX9_chain_341 rfl (by decide) (fun _ => rfl) (fun x341 ex341 => ?_)
        refine zJ_goto (tgt := 111) dX9_chain_344 (by decide) ?_
        refine zJ_ls [(3, .int x341), (2, .int fo2), (0, .ref 100), (1, .int v1)] (by simp) ?_
        rw [ex341, show nI n + Int32.ofInt 1 = nI (n + 1) from nI_1 _]
        exact ih (n + 1) (by omega) (by omega) e2 fo2 hf2 (by rw [hz1]; exact hc2) hfo2
      have K201 : ∀ fo2, zFnd K (zfnd T K (n + 1)) fo2 → zJ Δ mX9_chain (zRm 5 0 0) true w.1 QR (fun _ _ => False) 0 0 201 [(3, .int (nI n)), (2, .int fo2), (0, .ref 100), (1, .int v1)] [] e := fun fo2 hfo2 => zMo_chI Δ w T K hK0 hT0 n k hx hB s hok hvp fo2 v1 (K341 fo2 hfo2) e hf hc
      have c3 := c2 hvp
      by_cases he : k.2.1 = T.1 7
      · rw [if_pos ⟨hvp, by omega⟩] at hz2
        cases hfz : zfnd T K n with
        | none =>
          rw [hfz] at hfo hz2
          obtain rfl : fo = -1 := hfo
          refine zJ_iload_n dX9_chain_111 rfl ?_
          refine zJ_aload_n dX9_chain_112 rfl ?_
          refine zJ_getiN dX9_chain_113 fX9_354 (by first | rfl | assumption | exact Me.at (by decide) (by decide)) rfl e38 ?_
          refine zJ_icmp_ge (tgt := 347) dX9_chain_116 (by decide) (fun h9 => absurd h9 (fun h => absurd ((nI_leI (by omega) (by omega)).mp h) (by omega))) (fun h116 => ?_)
          refine zJ_aload_n dX9_chain_119 rfl ?_
          refine zJ_getr (j := 168) dX9_chain_120 fX9_119 (by first | rfl | assumption | exact Me.at (by decide) (by decide)) rfl (by first | rfl | assumption | exact Me.rf (by decide) rfl) ?_
          refine zJ_iload_n dX9_chain_123 rfl ?_
          refine zJ_laldN (i := n) (v := (lN (s.1 k))) dX9_chain_124 (by first | rfl | assumption | exact Me.at (by decide) (by decide)) rfl (by omega) (by decide) c1 ?_
          refine zJ_lconst (v := 0) dX9_chain_125 (by decide) ?_
          refine zJ_lc_ne (tgt := 133) dX9_chain_126 dX9_chain_127 (by decide) (fun h127 => ?_) (fun h9 => absurd h9 hv9)
          refine zJ_aload_n dX9_chain_133 rfl ?_
          refine zJ_getr (j := 140) dX9_chain_134 fX9_53 (by first | rfl | assumption | exact Me.at (by decide) (by decide)) rfl (by first | rfl | assumption | exact Me.rf (by decide) rfl) ?_
          refine zJ_iload_n dX9_chain_137 rfl ?_
          refine zJ_ialdN (i := n) (v := (nI k.2.1)) dX9_chain_138 (by first | rfl | assumption | exact Me.at (by decide) (by decide)) rfl (by omega) (by decide) y2 ?_
          refine zJ_aload_n dX9_chain_139 rfl ?_
          refine zJ_getiN dX9_chain_140 fX9_16 (by first | rfl | assumption | exact Me.at (by decide) (by decide)) rfl e5 ?_
          refine zJ_icmp_ne (tgt := 201) dX9_chain_143 (by decide) (fun h9 => absurd h9 (fun h => h (by rw [he]))) (fun h143 => ?_)
          refine zJ_iload_n dX9_chain_146 rfl ?_
          refine zJ_iconst (v := (-1)) dX9_chain_147 (by decide) ?_
          refine zJ_icmp_eq (tgt := 199) dX9_chain_148 (by decide) (fun _ => ?_) (fun h9 => False.elim (by revert h9; decide))
          refine zJ_iload_n dX9_chain_199 rfl ?_
          refine zJ_istore_n (ls2 := fun x200 => [(2, .int x200), (3, .int (nI n)), (0, .ref 100), (1, .int v1)]) dX9_chain_200 (by decide) (fun _ => rfl) (fun x200 ex200 => ?_)
          refine zJ_ls [(3, .int (nI n)), (2, .int x200), (0, .ref 100), (1, .int v1)] (by simp) ?_
          rw [ex200]
          exact K201 _ (by rw [hz2]; exact ⟨n, hx, rfl⟩)
        | some q =>
          rw [hfz] at hfo hz2
          obtain ⟨z, hz, rfl⟩ := hfo
          have hzK : z < K.length := (List.getElem?_eq_some_iff.mp hz).1
          obtain ⟨d1, d2⟩ := hc z q hz
          have hqb := hok q
          obtain ⟨hkq, -⟩ := hN.2.2.2 q (List.mem_iff_getElem?.mpr ⟨z, hz⟩)
          have hkq2 := hkq.2.1
          have hp9 : 8 ^ q.2.1 ≤ 8 ^ 12 := Nat.pow_le_pow_right (by decide) (by omega)
          simp only [zfo1, zbet] at hz2
          have K201n : zfnd T K (n + 1) = some k → zJ Δ mX9_chain (zRm 5 0 0) true w.1 QR (fun _ _ => False) 0 0 201 [(3, .int (nI n)), (2, .int (nI n)), (0, .ref 100), (1, .int v1)] [] e := fun h => K201 _ (by rw [h]; exact ⟨n, hx, rfl⟩)
          have K201z : zfnd T K (n + 1) = some q → zJ Δ mX9_chain (zRm 5 0 0) true w.1 QR (fun _ _ => False) 0 0 201 [(3, .int (nI n)), (2, .int (nI z)), (0, .ref 100), (1, .int v1)] [] e := fun h => K201 _ (by rw [h]; exact ⟨z, hz, rfl⟩)
          rcases Nat.lt_trichotomy (s.1 q) (s.1 k) with hlt | heq | hgt
          · refine zJ_iload_n dX9_chain_111 rfl ?_
            refine zJ_aload_n dX9_chain_112 rfl ?_
            refine zJ_getiN dX9_chain_113 fX9_354 (by first | rfl | assumption | exact Me.at (by decide) (by decide)) rfl e38 ?_
            refine zJ_icmp_ge (tgt := 347) dX9_chain_116 (by decide) (fun h9 => absurd h9 (fun h => absurd ((nI_leI (by omega) (by omega)).mp h) (by omega))) (fun h116 => ?_)
            refine zJ_aload_n dX9_chain_119 rfl ?_
            refine zJ_getr (j := 168) dX9_chain_120 fX9_119 (by first | rfl | assumption | exact Me.at (by decide) (by decide)) rfl (by first | rfl | assumption | exact Me.rf (by decide) rfl) ?_
            refine zJ_iload_n dX9_chain_123 rfl ?_
            refine zJ_laldN (i := n) (v := (lN (s.1 k))) dX9_chain_124 (by first | rfl | assumption | exact Me.at (by decide) (by decide)) rfl (by omega) (by decide) c1 ?_
            refine zJ_lconst (v := 0) dX9_chain_125 (by decide) ?_
            refine zJ_lc_ne (tgt := 133) dX9_chain_126 dX9_chain_127 (by decide) (fun h127 => ?_) (fun h9 => absurd h9 hv9)
            refine zJ_aload_n dX9_chain_133 rfl ?_
            refine zJ_getr (j := 140) dX9_chain_134 fX9_53 (by first | rfl | assumption | exact Me.at (by decide) (by decide)) rfl (by first | rfl | assumption | exact Me.rf (by decide) rfl) ?_
            refine zJ_iload_n dX9_chain_137 rfl ?_
            refine zJ_ialdN (i := n) (v := (nI k.2.1)) dX9_chain_138 (by first | rfl | assumption | exact Me.at (by decide) (by decide)) rfl (by omega) (by decide) y2 ?_
            refine zJ_aload_n dX9_chain_139 rfl ?_
            refine zJ_getiN dX9_chain_140 fX9_16 (by first | rfl | assumption | exact Me.at (by decide) (by decide)) rfl e5 ?_
            refine zJ_icmp_ne (tgt := 201) dX9_chain_143 (by decide) (fun h9 => absurd h9 (fun h => h (by rw [he]))) (fun h143 => ?_)
            refine zJ_iload_n dX9_chain_146 rfl ?_
            refine zJ_iconst (v := (-1)) dX9_chain_147 (by decide) ?_
            refine zJ_icmp_eq (tgt := 199) dX9_chain_148 (by decide) (fun h9 => absurd h9 (nI_m1 (show z < 2 ^ 31 by omega))) (fun h148 => ?_)
            refine zJ_aload_n dX9_chain_151 rfl ?_
            refine zJ_getr (j := 168) dX9_chain_152 fX9_119 (by first | rfl | assumption | exact Me.at (by decide) (by decide)) rfl (by first | rfl | assumption | exact Me.rf (by decide) rfl) ?_
            refine zJ_iload_n dX9_chain_155 rfl ?_
            refine zJ_laldN (i := n) (v := (lN (s.1 k))) dX9_chain_156 (by first | rfl | assumption | exact Me.at (by decide) (by decide)) rfl (by omega) (by decide) c1 ?_
            refine zJ_aload_n dX9_chain_157 rfl ?_
            refine zJ_getr (j := 168) dX9_chain_158 fX9_119 (by first | rfl | assumption | exact Me.at (by decide) (by decide)) rfl (by first | rfl | assumption | exact Me.rf (by decide) rfl) ?_
            refine zJ_iload_n dX9_chain_161 rfl ?_
            refine zJ_laldN (i := z) (v := (lN (s.1 q))) dX9_chain_162 (by first | rfl | assumption | exact Me.at (by decide) (by decide)) rfl (by omega) (by decide) d1 ?_
            refine zJ_lc_gt (tgt := 199) dX9_chain_163 dX9_chain_164 (by decide) (fun h164 => ?_) (fun h9 => absurd ((lN_ltL (by omega) (by omega)).mpr hlt) h9)
            refine zJ_iload_n dX9_chain_199 rfl ?_
            refine zJ_istore_n (ls2 := fun x200 => [(2, .int x200), (3, .int (nI n)), (0, .ref 100), (1, .int v1)]) dX9_chain_200 (by decide) (fun _ => rfl) (fun x200 ex200 => ?_)
            refine zJ_ls [(3, .int (nI n)), (2, .int x200), (0, .ref 100), (1, .int v1)] (by simp) ?_
            rw [ex200]
            exact K201n (by rw [hz2]; simp [hlt])
          · have d3 := d2 (by omega)
            have hqc := hqb.2 (by omega)
            have hne : ¬ s.1 q < s.1 k := by omega
            by_cases hcd : s.2 k < s.2 q
            · refine zJ_iload_n dX9_chain_111 rfl ?_
              refine zJ_aload_n dX9_chain_112 rfl ?_
              refine zJ_getiN dX9_chain_113 fX9_354 (by first | rfl | assumption | exact Me.at (by decide) (by decide)) rfl e38 ?_
              refine zJ_icmp_ge (tgt := 347) dX9_chain_116 (by decide) (fun h9 => absurd h9 (fun h => absurd ((nI_leI (by omega) (by omega)).mp h) (by omega))) (fun h116 => ?_)
              refine zJ_aload_n dX9_chain_119 rfl ?_
              refine zJ_getr (j := 168) dX9_chain_120 fX9_119 (by first | rfl | assumption | exact Me.at (by decide) (by decide)) rfl (by first | rfl | assumption | exact Me.rf (by decide) rfl) ?_
              refine zJ_iload_n dX9_chain_123 rfl ?_
              refine zJ_laldN (i := n) (v := (lN (s.1 k))) dX9_chain_124 (by first | rfl | assumption | exact Me.at (by decide) (by decide)) rfl (by omega) (by decide) c1 ?_
              refine zJ_lconst (v := 0) dX9_chain_125 (by decide) ?_
              refine zJ_lc_ne (tgt := 133) dX9_chain_126 dX9_chain_127 (by decide) (fun h127 => ?_) (fun h9 => absurd h9 hv9)
              refine zJ_aload_n dX9_chain_133 rfl ?_
              refine zJ_getr (j := 140) dX9_chain_134 fX9_53 (by first | rfl | assumption | exact Me.at (by decide) (by decide)) rfl (by first | rfl | assumption | exact Me.rf (by decide) rfl) ?_
              refine zJ_iload_n dX9_chain_137 rfl ?_
              refine zJ_ialdN (i := n) (v := (nI k.2.1)) dX9_chain_138 (by first | rfl | assumption | exact Me.at (by decide) (by decide)) rfl (by omega) (by decide) y2 ?_
              refine zJ_aload_n dX9_chain_139 rfl ?_
              refine zJ_getiN dX9_chain_140 fX9_16 (by first | rfl | assumption | exact Me.at (by decide) (by decide)) rfl e5 ?_
              refine zJ_icmp_ne (tgt := 201) dX9_chain_143 (by decide) (fun h9 => absurd h9 (fun h => h (by rw [he]))) (fun h143 => ?_)
              refine zJ_iload_n dX9_chain_146 rfl ?_
              refine zJ_iconst (v := (-1)) dX9_chain_147 (by decide) ?_
              refine zJ_icmp_eq (tgt := 199) dX9_chain_148 (by decide) (fun h9 => absurd h9 (nI_m1 (show z < 2 ^ 31 by omega))) (fun h148 => ?_)
              refine zJ_aload_n dX9_chain_151 rfl ?_
              refine zJ_getr (j := 168) dX9_chain_152 fX9_119 (by first | rfl | assumption | exact Me.at (by decide) (by decide)) rfl (by first | rfl | assumption | exact Me.rf (by decide) rfl) ?_
              refine zJ_iload_n dX9_chain_155 rfl ?_
              refine zJ_laldN (i := n) (v := (lN (s.1 k))) dX9_chain_156 (by first | rfl | assumption | exact Me.at (by decide) (by decide)) rfl (by omega) (by decide) c1 ?_
              refine zJ_aload_n dX9_chain_157 rfl ?_
              refine zJ_getr (j := 168) dX9_chain_158 fX9_119 (by first | rfl | assumption | exact Me.at (by decide) (by decide)) rfl (by first | rfl | assumption | exact Me.rf (by decide) rfl) ?_
              refine zJ_iload_n dX9_chain_161 rfl ?_
              refine zJ_laldN (i := z) (v := (lN (s.1 q))) dX9_chain_162 (by first | rfl | assumption | exact Me.at (by decide) (by decide)) rfl (by omega) (by decide) d1 ?_
              refine zJ_lc_gt (tgt := 199) dX9_chain_163 dX9_chain_164 (by decide) (fun h9 => absurd h9 (fun h => absurd ((lN_ltL (by omega) (by omega)).mp h) (by omega))) (fun h164 => ?_)
              refine zJ_aload_n dX9_chain_167 rfl ?_
              refine zJ_getr (j := 168) dX9_chain_168 fX9_119 (by first | rfl | assumption | exact Me.at (by decide) (by decide)) rfl (by first | rfl | assumption | exact Me.rf (by decide) rfl) ?_
              refine zJ_iload_n dX9_chain_171 rfl ?_
              refine zJ_laldN (i := n) (v := (lN (s.1 k))) dX9_chain_172 (by first | rfl | assumption | exact Me.at (by decide) (by decide)) rfl (by omega) (by decide) c1 ?_
              refine zJ_aload_n dX9_chain_173 rfl ?_
              refine zJ_getr (j := 168) dX9_chain_174 fX9_119 (by first | rfl | assumption | exact Me.at (by decide) (by decide)) rfl (by first | rfl | assumption | exact Me.rf (by decide) rfl) ?_
              refine zJ_iload_n dX9_chain_177 rfl ?_
              refine zJ_laldN (i := z) (v := (lN (s.1 q))) dX9_chain_178 (by first | rfl | assumption | exact Me.at (by decide) (by decide)) rfl (by omega) (by decide) d1 ?_
              refine zJ_lc_ne (tgt := 201) dX9_chain_179 dX9_chain_180 (by decide) (fun h9 => absurd h9 (fun h => h (by rw [heq]))) (fun h180 => ?_)
              refine zJ_aload_n dX9_chain_183 rfl ?_
              refine zJ_getr (j := 169) dX9_chain_184 fX9_122 (by first | rfl | assumption | exact Me.at (by decide) (by decide)) rfl (by first | rfl | assumption | exact Me.rf (by decide) rfl) ?_
              refine zJ_iload_n dX9_chain_187 rfl ?_
              refine zJ_laldN (i := n) (v := (lN (s.2 k))) dX9_chain_188 (by first | rfl | assumption | exact Me.at (by decide) (by decide)) rfl (by omega) (by decide) c3 ?_
              refine zJ_aload_n dX9_chain_189 rfl ?_
              refine zJ_getr (j := 169) dX9_chain_190 fX9_122 (by first | rfl | assumption | exact Me.at (by decide) (by decide)) rfl (by first | rfl | assumption | exact Me.rf (by decide) rfl) ?_
              refine zJ_iload_n dX9_chain_193 rfl ?_
              refine zJ_laldN (i := z) (v := (lN (s.2 q))) dX9_chain_194 (by first | rfl | assumption | exact Me.at (by decide) (by decide)) rfl (by omega) (by decide) d3 ?_
              refine zJ_lc_ge (tgt := 201) dX9_chain_195 dX9_chain_196 (by decide) (fun h9 => absurd h9 (fun h => absurd ((lN_leL (by omega) (by omega)).mp h) (by omega))) (fun h196 => ?_)
              refine zJ_iload_n dX9_chain_199 rfl ?_
              refine zJ_istore_n (ls2 := fun x200 => [(2, .int x200), (3, .int (nI n)), (0, .ref 100), (1, .int v1)]) dX9_chain_200 (by decide) (fun _ => rfl) (fun x200 ex200 => ?_)
              refine zJ_ls [(3, .int (nI n)), (2, .int x200), (0, .ref 100), (1, .int v1)] (by simp) ?_
              rw [ex200]
              exact K201n (by rw [hz2]; simp [heq, hcd])
            · refine zJ_iload_n dX9_chain_111 rfl ?_
              refine zJ_aload_n dX9_chain_112 rfl ?_
              refine zJ_getiN dX9_chain_113 fX9_354 (by first | rfl | assumption | exact Me.at (by decide) (by decide)) rfl e38 ?_
              refine zJ_icmp_ge (tgt := 347) dX9_chain_116 (by decide) (fun h9 => absurd h9 (fun h => absurd ((nI_leI (by omega) (by omega)).mp h) (by omega))) (fun h116 => ?_)
              refine zJ_aload_n dX9_chain_119 rfl ?_
              refine zJ_getr (j := 168) dX9_chain_120 fX9_119 (by first | rfl | assumption | exact Me.at (by decide) (by decide)) rfl (by first | rfl | assumption | exact Me.rf (by decide) rfl) ?_
              refine zJ_iload_n dX9_chain_123 rfl ?_
              refine zJ_laldN (i := n) (v := (lN (s.1 k))) dX9_chain_124 (by first | rfl | assumption | exact Me.at (by decide) (by decide)) rfl (by omega) (by decide) c1 ?_
              refine zJ_lconst (v := 0) dX9_chain_125 (by decide) ?_
              refine zJ_lc_ne (tgt := 133) dX9_chain_126 dX9_chain_127 (by decide) (fun h127 => ?_) (fun h9 => absurd h9 hv9)
              refine zJ_aload_n dX9_chain_133 rfl ?_
              refine zJ_getr (j := 140) dX9_chain_134 fX9_53 (by first | rfl | assumption | exact Me.at (by decide) (by decide)) rfl (by first | rfl | assumption | exact Me.rf (by decide) rfl) ?_
              refine zJ_iload_n dX9_chain_137 rfl ?_
              refine zJ_ialdN (i := n) (v := (nI k.2.1)) dX9_chain_138 (by first | rfl | assumption | exact Me.at (by decide) (by decide)) rfl (by omega) (by decide) y2 ?_
              refine zJ_aload_n dX9_chain_139 rfl ?_
              refine zJ_getiN dX9_chain_140 fX9_16 (by first | rfl | assumption | exact Me.at (by decide) (by decide)) rfl e5 ?_
              refine zJ_icmp_ne (tgt := 201) dX9_chain_143 (by decide) (fun h9 => absurd h9 (fun h => h (by rw [he]))) (fun h143 => ?_)
              refine zJ_iload_n dX9_chain_146 rfl ?_
              refine zJ_iconst (v := (-1)) dX9_chain_147 (by decide) ?_
              refine zJ_icmp_eq (tgt := 199) dX9_chain_148 (by decide) (fun h9 => absurd h9 (nI_m1 (show z < 2 ^ 31 by omega))) (fun h148 => ?_)
              refine zJ_aload_n dX9_chain_151 rfl ?_
              refine zJ_getr (j := 168) dX9_chain_152 fX9_119 (by first | rfl | assumption | exact Me.at (by decide) (by decide)) rfl (by first | rfl | assumption | exact Me.rf (by decide) rfl) ?_
              refine zJ_iload_n dX9_chain_155 rfl ?_
              refine zJ_laldN (i := n) (v := (lN (s.1 k))) dX9_chain_156 (by first | rfl | assumption | exact Me.at (by decide) (by decide)) rfl (by omega) (by decide) c1 ?_
              refine zJ_aload_n dX9_chain_157 rfl ?_
              refine zJ_getr (j := 168) dX9_chain_158 fX9_119 (by first | rfl | assumption | exact Me.at (by decide) (by decide)) rfl (by first | rfl | assumption | exact Me.rf (by decide) rfl) ?_
              refine zJ_iload_n dX9_chain_161 rfl ?_
              refine zJ_laldN (i := z) (v := (lN (s.1 q))) dX9_chain_162 (by first | rfl | assumption | exact Me.at (by decide) (by decide)) rfl (by omega) (by decide) d1 ?_
              refine zJ_lc_gt (tgt := 199) dX9_chain_163 dX9_chain_164 (by decide) (fun h9 => absurd h9 (fun h => absurd ((lN_ltL (by omega) (by omega)).mp h) (by omega))) (fun h164 => ?_)
              refine zJ_aload_n dX9_chain_167 rfl ?_
              refine zJ_getr (j := 168) dX9_chain_168 fX9_119 (by first | rfl | assumption | exact Me.at (by decide) (by decide)) rfl (by first | rfl | assumption | exact Me.rf (by decide) rfl) ?_
              refine zJ_iload_n dX9_chain_171 rfl ?_
              refine zJ_laldN (i := n) (v := (lN (s.1 k))) dX9_chain_172 (by first | rfl | assumption | exact Me.at (by decide) (by decide)) rfl (by omega) (by decide) c1 ?_
              refine zJ_aload_n dX9_chain_173 rfl ?_
              refine zJ_getr (j := 168) dX9_chain_174 fX9_119 (by first | rfl | assumption | exact Me.at (by decide) (by decide)) rfl (by first | rfl | assumption | exact Me.rf (by decide) rfl) ?_
              refine zJ_iload_n dX9_chain_177 rfl ?_
              refine zJ_laldN (i := z) (v := (lN (s.1 q))) dX9_chain_178 (by first | rfl | assumption | exact Me.at (by decide) (by decide)) rfl (by omega) (by decide) d1 ?_
              refine zJ_lc_ne (tgt := 201) dX9_chain_179 dX9_chain_180 (by decide) (fun h9 => absurd h9 (fun h => h (by rw [heq]))) (fun h180 => ?_)
              refine zJ_aload_n dX9_chain_183 rfl ?_
              refine zJ_getr (j := 169) dX9_chain_184 fX9_122 (by first | rfl | assumption | exact Me.at (by decide) (by decide)) rfl (by first | rfl | assumption | exact Me.rf (by decide) rfl) ?_
              refine zJ_iload_n dX9_chain_187 rfl ?_
              refine zJ_laldN (i := n) (v := (lN (s.2 k))) dX9_chain_188 (by first | rfl | assumption | exact Me.at (by decide) (by decide)) rfl (by omega) (by decide) c3 ?_
              refine zJ_aload_n dX9_chain_189 rfl ?_
              refine zJ_getr (j := 169) dX9_chain_190 fX9_122 (by first | rfl | assumption | exact Me.at (by decide) (by decide)) rfl (by first | rfl | assumption | exact Me.rf (by decide) rfl) ?_
              refine zJ_iload_n dX9_chain_193 rfl ?_
              refine zJ_laldN (i := z) (v := (lN (s.2 q))) dX9_chain_194 (by first | rfl | assumption | exact Me.at (by decide) (by decide)) rfl (by omega) (by decide) d3 ?_
              refine zJ_lc_ge (tgt := 201) dX9_chain_195 dX9_chain_196 (by decide) (fun h196 => ?_) (fun h9 => absurd ((lN_leL (by omega) (by omega)).mpr (by omega)) h9)
              exact K201z (by rw [hz2]; simp [heq, hcd])
          · refine zJ_iload_n dX9_chain_111 rfl ?_
            refine zJ_aload_n dX9_chain_112 rfl ?_
            refine zJ_getiN dX9_chain_113 fX9_354 (by first | rfl | assumption | exact Me.at (by decide) (by decide)) rfl e38 ?_
            refine zJ_icmp_ge (tgt := 347) dX9_chain_116 (by decide) (fun h9 => absurd h9 (fun h => absurd ((nI_leI (by omega) (by omega)).mp h) (by omega))) (fun h116 => ?_)
            refine zJ_aload_n dX9_chain_119 rfl ?_
            refine zJ_getr (j := 168) dX9_chain_120 fX9_119 (by first | rfl | assumption | exact Me.at (by decide) (by decide)) rfl (by first | rfl | assumption | exact Me.rf (by decide) rfl) ?_
            refine zJ_iload_n dX9_chain_123 rfl ?_
            refine zJ_laldN (i := n) (v := (lN (s.1 k))) dX9_chain_124 (by first | rfl | assumption | exact Me.at (by decide) (by decide)) rfl (by omega) (by decide) c1 ?_
            refine zJ_lconst (v := 0) dX9_chain_125 (by decide) ?_
            refine zJ_lc_ne (tgt := 133) dX9_chain_126 dX9_chain_127 (by decide) (fun h127 => ?_) (fun h9 => absurd h9 hv9)
            refine zJ_aload_n dX9_chain_133 rfl ?_
            refine zJ_getr (j := 140) dX9_chain_134 fX9_53 (by first | rfl | assumption | exact Me.at (by decide) (by decide)) rfl (by first | rfl | assumption | exact Me.rf (by decide) rfl) ?_
            refine zJ_iload_n dX9_chain_137 rfl ?_
            refine zJ_ialdN (i := n) (v := (nI k.2.1)) dX9_chain_138 (by first | rfl | assumption | exact Me.at (by decide) (by decide)) rfl (by omega) (by decide) y2 ?_
            refine zJ_aload_n dX9_chain_139 rfl ?_
            refine zJ_getiN dX9_chain_140 fX9_16 (by first | rfl | assumption | exact Me.at (by decide) (by decide)) rfl e5 ?_
            refine zJ_icmp_ne (tgt := 201) dX9_chain_143 (by decide) (fun h9 => absurd h9 (fun h => h (by rw [he]))) (fun h143 => ?_)
            refine zJ_iload_n dX9_chain_146 rfl ?_
            refine zJ_iconst (v := (-1)) dX9_chain_147 (by decide) ?_
            refine zJ_icmp_eq (tgt := 199) dX9_chain_148 (by decide) (fun h9 => absurd h9 (nI_m1 (show z < 2 ^ 31 by omega))) (fun h148 => ?_)
            refine zJ_aload_n dX9_chain_151 rfl ?_
            refine zJ_getr (j := 168) dX9_chain_152 fX9_119 (by first | rfl | assumption | exact Me.at (by decide) (by decide)) rfl (by first | rfl | assumption | exact Me.rf (by decide) rfl) ?_
            refine zJ_iload_n dX9_chain_155 rfl ?_
            refine zJ_laldN (i := n) (v := (lN (s.1 k))) dX9_chain_156 (by first | rfl | assumption | exact Me.at (by decide) (by decide)) rfl (by omega) (by decide) c1 ?_
            refine zJ_aload_n dX9_chain_157 rfl ?_
            refine zJ_getr (j := 168) dX9_chain_158 fX9_119 (by first | rfl | assumption | exact Me.at (by decide) (by decide)) rfl (by first | rfl | assumption | exact Me.rf (by decide) rfl) ?_
            refine zJ_iload_n dX9_chain_161 rfl ?_
            refine zJ_laldN (i := z) (v := (lN (s.1 q))) dX9_chain_162 (by first | rfl | assumption | exact Me.at (by decide) (by decide)) rfl (by omega) (by decide) d1 ?_
            refine zJ_lc_gt (tgt := 199) dX9_chain_163 dX9_chain_164 (by decide) (fun h9 => absurd h9 (fun h => absurd ((lN_ltL (by omega) (by omega)).mp h) (by omega))) (fun h164 => ?_)
            refine zJ_aload_n dX9_chain_167 rfl ?_
            refine zJ_getr (j := 168) dX9_chain_168 fX9_119 (by first | rfl | assumption | exact Me.at (by decide) (by decide)) rfl (by first | rfl | assumption | exact Me.rf (by decide) rfl) ?_
            refine zJ_iload_n dX9_chain_171 rfl ?_
            refine zJ_laldN (i := n) (v := (lN (s.1 k))) dX9_chain_172 (by first | rfl | assumption | exact Me.at (by decide) (by decide)) rfl (by omega) (by decide) c1 ?_
            refine zJ_aload_n dX9_chain_173 rfl ?_
            refine zJ_getr (j := 168) dX9_chain_174 fX9_119 (by first | rfl | assumption | exact Me.at (by decide) (by decide)) rfl (by first | rfl | assumption | exact Me.rf (by decide) rfl) ?_
            refine zJ_iload_n dX9_chain_177 rfl ?_
            refine zJ_laldN (i := z) (v := (lN (s.1 q))) dX9_chain_178 (by first | rfl | assumption | exact Me.at (by decide) (by decide)) rfl (by omega) (by decide) d1 ?_
            refine zJ_lc_ne (tgt := 201) dX9_chain_179 dX9_chain_180 (by decide) (fun h180 => ?_) (fun h9 => absurd h9 (fun h => absurd ((fb_lN_inj (by omega) (by omega)).mp h) (by omega)))
            exact K201z (by rw [hz2]; have a1 : ¬ s.1 q < s.1 k := (by omega); have a2 : ¬ s.1 k = s.1 q := (by omega); simp [a1, a2])
      · have hl : k.2.1 < T.1 7 := by omega
        rw [if_neg (fun h => h.2 hl)] at hz2
        refine zJ_iload_n dX9_chain_111 rfl ?_
        refine zJ_aload_n dX9_chain_112 rfl ?_
        refine zJ_getiN dX9_chain_113 fX9_354 (by first | rfl | assumption | exact Me.at (by decide) (by decide)) rfl e38 ?_
        refine zJ_icmp_ge (tgt := 347) dX9_chain_116 (by decide) (fun h9 => absurd h9 (fun h => absurd ((nI_leI (by omega) (by omega)).mp h) (by omega))) (fun h116 => ?_)
        refine zJ_aload_n dX9_chain_119 rfl ?_
        refine zJ_getr (j := 168) dX9_chain_120 fX9_119 (by first | rfl | assumption | exact Me.at (by decide) (by decide)) rfl (by first | rfl | assumption | exact Me.rf (by decide) rfl) ?_
        refine zJ_iload_n dX9_chain_123 rfl ?_
        refine zJ_laldN (i := n) (v := (lN (s.1 k))) dX9_chain_124 (by first | rfl | assumption | exact Me.at (by decide) (by decide)) rfl (by omega) (by decide) c1 ?_
        refine zJ_lconst (v := 0) dX9_chain_125 (by decide) ?_
        refine zJ_lc_ne (tgt := 133) dX9_chain_126 dX9_chain_127 (by decide) (fun h127 => ?_) (fun h9 => absurd h9 hv9)
        refine zJ_aload_n dX9_chain_133 rfl ?_
        refine zJ_getr (j := 140) dX9_chain_134 fX9_53 (by first | rfl | assumption | exact Me.at (by decide) (by decide)) rfl (by first | rfl | assumption | exact Me.rf (by decide) rfl) ?_
        refine zJ_iload_n dX9_chain_137 rfl ?_
        refine zJ_ialdN (i := n) (v := (nI k.2.1)) dX9_chain_138 (by first | rfl | assumption | exact Me.at (by decide) (by decide)) rfl (by omega) (by decide) y2 ?_
        refine zJ_aload_n dX9_chain_139 rfl ?_
        refine zJ_getiN dX9_chain_140 fX9_16 (by first | rfl | assumption | exact Me.at (by decide) (by decide)) rfl e5 ?_
        refine zJ_icmp_ne (tgt := 201) dX9_chain_143 (by decide) (fun h143 => ?_) (fun h9 => absurd h9 (fun h => he ((nI_eq (by omega) (by omega)).mp h)))
        exact K201 fo (by rw [hz2]; exact hfo)
