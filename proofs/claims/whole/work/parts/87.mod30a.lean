/-! the model: letters -/
/-- where the model's word k stands among the class's -/
def zmw (k : Nat) : Nat := [0, 1, 2, 3, 4, 5, 7, 8, 9, 10, 6, 11, 12, 13, 14, 15, 16].getD k 0
/-- a word's letters, five bits each -/
def zwc (l : List Nat) : Nat := l.foldl (fun v x => v * 32 + (x - 96)) 0
set_option maxRecDepth 100000 in
theorem c_Mo_letters (Δ : zD) (w : zW) (k : Nat) (hk : k < 17) : zMd Δ 1 0 0 true yX9_letters mX9_letters [.int (nI k)] w (some (.long (lN (zwc (zwl.getD (zmw k) []))))) w := by
  refine zMd.of mfX9_letters (Nat.le_of_ble_eq_true rfl) (fun QR hQ => ?_)
  rcases (by omega : k = 0 ∨ k = 1 ∨ k = 2 ∨ k = 3 ∨ k = 4 ∨ k = 5 ∨ k = 6 ∨ k = 7 ∨ k = 8 ∨ k = 9 ∨ k = 10 ∨ k = 11 ∨ k = 12 ∨ k = 13 ∨ k = 14 ∨ k = 15 ∨ k = 16) with rfl | rfl | rfl | rfl | rfl | rfl | rfl | rfl | rfl | rfl | rfl | rfl | rfl | rfl | rfl | rfl | rfl
  · rw [show zwc (zwl.getD (zmw 0) []) = 542723566 by decide] at hQ
    refine zJ_iload_n dX9_letters_0 rfl ?_
    refine zJ_tableIn (off := 79) (tgt := 80) dX9_letters_1 (by decide) (by decide) (by decide) (by decide) ?_
    refine zJ_bipush (v := 112) dX9_letters_80 (by decide) ?_
    refine zJ_bipush (v := 101) dX9_letters_82 (by decide) ?_
    refine zJ_bipush (v := 114) dX9_letters_84 (by decide) ?_
    refine zJ_bipush (v := 115) dX9_letters_86 (by decide) ?_
    refine zJ_bipush (v := 111) dX9_letters_88 (by decide) ?_
    refine zJ_bipush (v := 110) dX9_letters_90 (by decide) ?_
    refine zJ_cS6 dX9_letters_92 sX9_213 mfX9_spelled (c_Mo_spelled Δ w 112 101 114 115 111 110 (by decide) (by decide) (by decide) (by decide) (by decide) (by decide)) (Nat.le_of_ble_eq_true rfl) (by decide) (by decide) ?_
    rw [show zsl1 (zsl1 (zsl1 (zsl1 (zsl1 (112 - 96) 101) 114) 115) 111) 110 = 542723566 by decide]
    exact zJ_lret dX9_letters_95 rfl (by decide) (by decide) hQ
  · rw [show zwc (zwl.getD (zmw 1) []) = 12009203 by decide] at hQ
    refine zJ_iload_n dX9_letters_0 rfl ?_
    refine zJ_tableIn (off := 95) (tgt := 96) dX9_letters_1 (by decide) (by decide) (by decide) (by decide) ?_
    refine zJ_bipush (v := 107) dX9_letters_96 (by decide) ?_
    refine zJ_bipush (v := 110) dX9_letters_98 (by decide) ?_
    refine zJ_bipush (v := 111) dX9_letters_100 (by decide) ?_
    refine zJ_bipush (v := 119) dX9_letters_102 (by decide) ?_
    refine zJ_bipush (v := 115) dX9_letters_104 (by decide) ?_
    refine zJ_iconst (v := 0) dX9_letters_106 (by decide) ?_
    refine zJ_cS6 dX9_letters_107 sX9_213 mfX9_spelled (c_Mo_spelled Δ w 107 110 111 119 115 0 (by decide) (by decide) (by decide) (by decide) (by decide) (by decide)) (Nat.le_of_ble_eq_true rfl) (by decide) (by decide) ?_
    rw [show zsl1 (zsl1 (zsl1 (zsl1 (zsl1 (107 - 96) 110) 111) 119) 115) 0 = 12009203 by decide]
    exact zJ_lret dX9_letters_110 rfl (by decide) (by decide) hQ
  · rw [show zwc (zwl.getD (zmw 2) []) = 408572082 by decide] at hQ
    refine zJ_iload_n dX9_letters_0 rfl ?_
    refine zJ_tableIn (off := 110) (tgt := 111) dX9_letters_1 (by decide) (by decide) (by decide) (by decide) ?_
    refine zJ_bipush (v := 108) dX9_letters_111 (by decide) ?_
    refine zJ_bipush (v := 101) dX9_letters_113 (by decide) ?_
    refine zJ_bipush (v := 116) dX9_letters_115 (by decide) ?_
    refine zJ_bipush (v := 116) dX9_letters_117 (by decide) ?_
    refine zJ_bipush (v := 101) dX9_letters_119 (by decide) ?_
    refine zJ_bipush (v := 114) dX9_letters_121 (by decide) ?_
    refine zJ_cS6 dX9_letters_123 sX9_213 mfX9_spelled (c_Mo_spelled Δ w 108 101 116 116 101 114 (by decide) (by decide) (by decide) (by decide) (by decide) (by decide)) (Nat.le_of_ble_eq_true rfl) (by decide) (by decide) ?_
    rw [show zsl1 (zsl1 (zsl1 (zsl1 (zsl1 (108 - 96) 101) 116) 116) 101) 114 = 408572082 by decide]
    exact zJ_lret dX9_letters_126 rfl (by decide) (by decide) hQ
  · rw [show zwc (zwl.getD (zmw 3) []) = 12343 by decide] at hQ
    refine zJ_iload_n dX9_letters_0 rfl ?_
    refine zJ_tableIn (off := 126) (tgt := 127) dX9_letters_1 (by decide) (by decide) (by decide) (by decide) ?_
    refine zJ_bipush (v := 108) dX9_letters_127 (by decide) ?_
    refine zJ_bipush (v := 97) dX9_letters_129 (by decide) ?_
    refine zJ_bipush (v := 119) dX9_letters_131 (by decide) ?_
    refine zJ_iconst (v := 0) dX9_letters_133 (by decide) ?_
    refine zJ_iconst (v := 0) dX9_letters_134 (by decide) ?_
    refine zJ_iconst (v := 0) dX9_letters_135 (by decide) ?_
    refine zJ_cS6 dX9_letters_136 sX9_213 mfX9_spelled (c_Mo_spelled Δ w 108 97 119 0 0 0 (by decide) (by decide) (by decide) (by decide) (by decide) (by decide)) (Nat.le_of_ble_eq_true rfl) (by decide) (by decide) ?_
    rw [show zsl1 (zsl1 (zsl1 (zsl1 (zsl1 (108 - 96) 97) 119) 0) 0) 0 = 12343 by decide]
    exact zJ_lret dX9_letters_139 rfl (by decide) (by decide) hQ
  · rw [show zwc (zwl.getD (zmw 4) []) = 23608 by decide] at hQ
    refine zJ_iload_n dX9_letters_0 rfl ?_
    refine zJ_tableIn (off := 139) (tgt := 140) dX9_letters_1 (by decide) (by decide) (by decide) (by decide) ?_
    refine zJ_bipush (v := 119) dX9_letters_140 (by decide) ?_
    refine zJ_bipush (v := 97) dX9_letters_142 (by decide) ?_
    refine zJ_bipush (v := 120) dX9_letters_144 (by decide) ?_
    refine zJ_iconst (v := 0) dX9_letters_146 (by decide) ?_
    refine zJ_iconst (v := 0) dX9_letters_147 (by decide) ?_
    refine zJ_iconst (v := 0) dX9_letters_148 (by decide) ?_
    refine zJ_cS6 dX9_letters_149 sX9_213 mfX9_spelled (c_Mo_spelled Δ w 119 97 120 0 0 0 (by decide) (by decide) (by decide) (by decide) (by decide) (by decide)) (Nat.le_of_ble_eq_true rfl) (by decide) (by decide) ?_
    rw [show zsl1 (zsl1 (zsl1 (zsl1 (zsl1 (119 - 96) 97) 120) 0) 0) 0 = 23608 by decide]
    exact zJ_lret dX9_letters_152 rfl (by decide) (by decide) hQ
  · rw [show zwc (zwl.getD (zmw 5) []) = 6605428 by decide] at hQ
    refine zJ_iload_n dX9_letters_0 rfl ?_
    refine zJ_tableIn (off := 152) (tgt := 153) dX9_letters_1 (by decide) (by decide) (by decide) (by decide) ?_
    refine zJ_bipush (v := 102) dX9_letters_153 (by decide) ?_
    refine zJ_bipush (v := 105) dX9_letters_155 (by decide) ?_
    refine zJ_bipush (v := 114) dX9_letters_157 (by decide) ?_
    refine zJ_bipush (v := 115) dX9_letters_159 (by decide) ?_
    refine zJ_bipush (v := 116) dX9_letters_161 (by decide) ?_
    refine zJ_iconst (v := 0) dX9_letters_163 (by decide) ?_
    refine zJ_cS6 dX9_letters_164 sX9_213 mfX9_spelled (c_Mo_spelled Δ w 102 105 114 115 116 0 (by decide) (by decide) (by decide) (by decide) (by decide) (by decide)) (Nat.le_of_ble_eq_true rfl) (by decide) (by decide) ?_
    rw [show zsl1 (zsl1 (zsl1 (zsl1 (zsl1 (102 - 96) 105) 114) 115) 116) 0 = 6605428 by decide]
    exact zJ_lret dX9_letters_167 rfl (by decide) (by decide) hQ
  · rw [show zwc (zwl.getD (zmw 6) []) = 16258515 by decide] at hQ
    refine zJ_iload_n dX9_letters_0 rfl ?_
    refine zJ_tableIn (off := 167) (tgt := 168) dX9_letters_1 (by decide) (by decide) (by decide) (by decide) ?_
    refine zJ_bipush (v := 111) dX9_letters_168 (by decide) ?_
    refine zJ_bipush (v := 112) dX9_letters_170 (by decide) ?_
    refine zJ_bipush (v := 101) dX9_letters_172 (by decide) ?_
    refine zJ_bipush (v := 110) dX9_letters_174 (by decide) ?_
    refine zJ_bipush (v := 115) dX9_letters_176 (by decide) ?_
    refine zJ_iconst (v := 0) dX9_letters_178 (by decide) ?_
    refine zJ_cS6 dX9_letters_179 sX9_213 mfX9_spelled (c_Mo_spelled Δ w 111 112 101 110 115 0 (by decide) (by decide) (by decide) (by decide) (by decide) (by decide)) (Nat.le_of_ble_eq_true rfl) (by decide) (by decide) ?_
    rw [show zsl1 (zsl1 (zsl1 (zsl1 (zsl1 (111 - 96) 112) 101) 110) 115) 0 = 16258515 by decide]
    exact zJ_lret dX9_letters_182 rfl (by decide) (by decide) hQ
  · rw [show zwc (zwl.getD (zmw 7) []) = 20101267 by decide] at hQ
    refine zJ_iload_n dX9_letters_0 rfl ?_
    refine zJ_tableIn (off := 182) (tgt := 183) dX9_letters_1 (by decide) (by decide) (by decide) (by decide) ?_
    refine zJ_bipush (v := 115) dX9_letters_183 (by decide) ?_
    refine zJ_bipush (v := 101) dX9_letters_185 (by decide) ?_
    refine zJ_bipush (v := 110) dX9_letters_187 (by decide) ?_
    refine zJ_bipush (v := 100) dX9_letters_189 (by decide) ?_
    refine zJ_bipush (v := 115) dX9_letters_191 (by decide) ?_
    refine zJ_iconst (v := 0) dX9_letters_193 (by decide) ?_
    refine zJ_cS6 dX9_letters_194 sX9_213 mfX9_spelled (c_Mo_spelled Δ w 115 101 110 100 115 0 (by decide) (by decide) (by decide) (by decide) (by decide) (by decide)) (Nat.le_of_ble_eq_true rfl) (by decide) (by decide) ?_
    rw [show zsl1 (zsl1 (zsl1 (zsl1 (zsl1 (115 - 96) 101) 110) 100) 115) 0 = 20101267 by decide]
    exact zJ_lret dX9_letters_197 rfl (by decide) (by decide) hQ
  · rw [show zwc (zwl.getD (zmw 8) []) = 414827 by decide] at hQ
    refine zJ_iload_n dX9_letters_0 rfl ?_
    refine zJ_tableIn (off := 197) (tgt := 198) dX9_letters_1 (by decide) (by decide) (by decide) (by decide) ?_
    refine zJ_bipush (v := 108) dX9_letters_198 (by decide) ?_
    refine zJ_bipush (v := 117) dX9_letters_200 (by decide) ?_
    refine zJ_bipush (v := 99) dX9_letters_202 (by decide) ?_
    refine zJ_bipush (v := 107) dX9_letters_204 (by decide) ?_
    refine zJ_iconst (v := 0) dX9_letters_206 (by decide) ?_
    refine zJ_iconst (v := 0) dX9_letters_207 (by decide) ?_
    refine zJ_cS6 dX9_letters_208 sX9_213 mfX9_spelled (c_Mo_spelled Δ w 108 117 99 107 0 0 (by decide) (by decide) (by decide) (by decide) (by decide) (by decide)) (Nat.le_of_ble_eq_true rfl) (by decide) (by decide) ?_
    rw [show zsl1 (zsl1 (zsl1 (zsl1 (zsl1 (108 - 96) 117) 99) 107) 0) 0 = 414827 by decide]
    exact zJ_lret dX9_letters_211 rfl (by decide) (by decide) hQ
  · rw [show zwc (zwl.getD (zmw 9) []) = 71284 by decide] at hQ
    refine zJ_iload_n dX9_letters_0 rfl ?_
    refine zJ_tableIn (off := 211) (tgt := 212) dX9_letters_1 (by decide) (by decide) (by decide) (by decide) ?_
    refine zJ_bipush (v := 98) dX9_letters_212 (by decide) ?_
    refine zJ_bipush (v := 101) dX9_letters_214 (by decide) ?_
    refine zJ_bipush (v := 115) dX9_letters_216 (by decide) ?_
    refine zJ_bipush (v := 116) dX9_letters_218 (by decide) ?_
    refine zJ_iconst (v := 0) dX9_letters_220 (by decide) ?_
    refine zJ_iconst (v := 0) dX9_letters_221 (by decide) ?_
    refine zJ_cS6 dX9_letters_222 sX9_213 mfX9_spelled (c_Mo_spelled Δ w 98 101 115 116 0 0 (by decide) (by decide) (by decide) (by decide) (by decide) (by decide)) (Nat.le_of_ble_eq_true rfl) (by decide) (by decide) ?_
    rw [show zsl1 (zsl1 (zsl1 (zsl1 (zsl1 (98 - 96) 101) 115) 116) 0) 0 = 71284 by decide]
    exact zJ_lret dX9_letters_225 rfl (by decide) (by decide) hQ
  · rw [show zwc (zwl.getD (zmw 10) []) = 460197 by decide] at hQ
    refine zJ_iload_n dX9_letters_0 rfl ?_
    refine zJ_tableIn (off := 225) (tgt := 226) dX9_letters_1 (by decide) (by decide) (by decide) (by decide) ?_
    refine zJ_bipush (v := 110) dX9_letters_226 (by decide) ?_
    refine zJ_bipush (v := 97) dX9_letters_228 (by decide) ?_
    refine zJ_bipush (v := 109) dX9_letters_230 (by decide) ?_
    refine zJ_bipush (v := 101) dX9_letters_232 (by decide) ?_
    refine zJ_iconst (v := 0) dX9_letters_234 (by decide) ?_
    refine zJ_iconst (v := 0) dX9_letters_235 (by decide) ?_
    refine zJ_cS6 dX9_letters_236 sX9_213 mfX9_spelled (c_Mo_spelled Δ w 110 97 109 101 0 0 (by decide) (by decide) (by decide) (by decide) (by decide) (by decide)) (Nat.le_of_ble_eq_true rfl) (by decide) (by decide) ?_
    rw [show zsl1 (zsl1 (zsl1 (zsl1 (zsl1 (110 - 96) 97) 109) 101) 0) 0 = 460197 by decide]
    exact zJ_lret dX9_letters_239 rfl (by decide) (by decide) hQ
  · rw [show zwc (zwl.getD (zmw 11) []) = 777297172 by decide] at hQ
    refine zJ_iload_n dX9_letters_0 rfl ?_
    refine zJ_tableIn (off := 239) (tgt := 240) dX9_letters_1 (by decide) (by decide) (by decide) (by decide) ?_
    refine zJ_bipush (v := 119) dX9_letters_240 (by decide) ?_
    refine zJ_bipush (v := 101) dX9_letters_242 (by decide) ?_
    refine zJ_bipush (v := 105) dX9_letters_244 (by decide) ?_
    refine zJ_bipush (v := 103) dX9_letters_246 (by decide) ?_
    refine zJ_bipush (v := 104) dX9_letters_248 (by decide) ?_
    refine zJ_bipush (v := 116) dX9_letters_250 (by decide) ?_
    refine zJ_cS6 dX9_letters_252 sX9_213 mfX9_spelled (c_Mo_spelled Δ w 119 101 105 103 104 116 (by decide) (by decide) (by decide) (by decide) (by decide) (by decide)) (Nat.le_of_ble_eq_true rfl) (by decide) (by decide) ?_
    rw [show zsl1 (zsl1 (zsl1 (zsl1 (zsl1 (119 - 96) 101) 105) 103) 104) 116 = 777297172 by decide]
    exact zJ_lret dX9_letters_255 rfl (by decide) (by decide) hQ
  · rw [show zwc (zwl.getD (zmw 12) []) = 17377093 by decide] at hQ
    refine zJ_iload_n dX9_letters_0 rfl ?_
    refine zJ_tableIn (off := 255) (tgt := 256) dX9_letters_1 (by decide) (by decide) (by decide) (by decide) ?_
    refine zJ_bipush (v := 112) dX9_letters_256 (by decide) ?_
    refine zJ_bipush (v := 114) dX9_letters_258 (by decide) ?_
    refine zJ_bipush (v := 105) dX9_letters_260 (by decide) ?_
    refine zJ_bipush (v := 122) dX9_letters_262 (by decide) ?_
    refine zJ_bipush (v := 101) dX9_letters_264 (by decide) ?_
    refine zJ_iconst (v := 0) dX9_letters_266 (by decide) ?_
    refine zJ_cS6 dX9_letters_267 sX9_213 mfX9_spelled (c_Mo_spelled Δ w 112 114 105 122 101 0 (by decide) (by decide) (by decide) (by decide) (by decide) (by decide)) (Nat.le_of_ble_eq_true rfl) (by decide) (by decide) ?_
    rw [show zsl1 (zsl1 (zsl1 (zsl1 (zsl1 (112 - 96) 114) 105) 122) 101) 0 = 17377093 by decide]
    exact zJ_lret dX9_letters_270 rfl (by decide) (by decide) hQ
  · rw [show zwc (zwl.getD (zmw 13) []) = 526131 by decide] at hQ
    refine zJ_iload_n dX9_letters_0 rfl ?_
    refine zJ_tableIn (off := 270) (tgt := 271) dX9_letters_1 (by decide) (by decide) (by decide) (by decide) ?_
    refine zJ_bipush (v := 112) dX9_letters_271 (by decide) ?_
    refine zJ_bipush (v := 97) dX9_letters_273 (by decide) ?_
    refine zJ_bipush (v := 121) dX9_letters_275 (by decide) ?_
    refine zJ_bipush (v := 115) dX9_letters_277 (by decide) ?_
    refine zJ_iconst (v := 0) dX9_letters_279 (by decide) ?_
    refine zJ_iconst (v := 0) dX9_letters_280 (by decide) ?_
    refine zJ_cS6 dX9_letters_281 sX9_213 mfX9_spelled (c_Mo_spelled Δ w 112 97 121 115 0 0 (by decide) (by decide) (by decide) (by decide) (by decide) (by decide)) (Nat.le_of_ble_eq_true rfl) (by decide) (by decide) ?_
    rw [show zsl1 (zsl1 (zsl1 (zsl1 (zsl1 (112 - 96) 97) 121) 115) 0) 0 = 526131 by decide]
    exact zJ_lret dX9_letters_284 rfl (by decide) (by decide) hQ
  · rw [show zwc (zwl.getD (zmw 14) []) = 505957 by decide] at hQ
    refine zJ_iload_n dX9_letters_0 rfl ?_
    refine zJ_tableIn (off := 284) (tgt := 285) dX9_letters_1 (by decide) (by decide) (by decide) (by decide) ?_
    refine zJ_bipush (v := 111) dX9_letters_285 (by decide) ?_
    refine zJ_bipush (v := 110) dX9_letters_287 (by decide) ?_
    refine zJ_bipush (v := 99) dX9_letters_289 (by decide) ?_
    refine zJ_bipush (v := 101) dX9_letters_291 (by decide) ?_
    refine zJ_iconst (v := 0) dX9_letters_293 (by decide) ?_
    refine zJ_iconst (v := 0) dX9_letters_294 (by decide) ?_
    refine zJ_cS6 dX9_letters_295 sX9_213 mfX9_spelled (c_Mo_spelled Δ w 111 110 99 101 0 0 (by decide) (by decide) (by decide) (by decide) (by decide) (by decide)) (Nat.le_of_ble_eq_true rfl) (by decide) (by decide) ?_
    rw [show zsl1 (zsl1 (zsl1 (zsl1 (zsl1 (111 - 96) 110) 99) 101) 0) 0 = 505957 by decide]
    exact zJ_lret dX9_letters_298 rfl (by decide) (by decide) hQ
  · rw [show zwc (zwl.getD (zmw 15) []) = 1279278 by decide] at hQ
    refine zJ_iload_n dX9_letters_0 rfl ?_
    refine zJ_tableIn (off := 298) (tgt := 299) dX9_letters_1 (by decide) (by decide) (by decide) (by decide) ?_
    refine zJ_bipush (v := 97) dX9_letters_299 (by decide) ?_
    refine zJ_bipush (v := 103) dX9_letters_301 (by decide) ?_
    refine zJ_bipush (v := 97) dX9_letters_303 (by decide) ?_
    refine zJ_bipush (v := 105) dX9_letters_305 (by decide) ?_
    refine zJ_bipush (v := 110) dX9_letters_307 (by decide) ?_
    refine zJ_iconst (v := 0) dX9_letters_309 (by decide) ?_
    refine zJ_cS6 dX9_letters_310 sX9_213 mfX9_spelled (c_Mo_spelled Δ w 97 103 97 105 110 0 (by decide) (by decide) (by decide) (by decide) (by decide) (by decide)) (Nat.le_of_ble_eq_true rfl) (by decide) (by decide) ?_
    rw [show zsl1 (zsl1 (zsl1 (zsl1 (zsl1 (97 - 96) 103) 97) 105) 110) 0 = 1279278 by decide]
    exact zJ_lret dX9_letters_313 rfl (by decide) (by decide) hQ
  · rw [show zwc (zwl.getD (zmw 16) []) = 66667 by decide] at hQ
    refine zJ_iload_n dX9_letters_0 rfl ?_
    refine zJ_tableOut (tgt := 314) dX9_letters_1 (by decide) (by decide) ?_
    refine zJ_bipush (v := 98) dX9_letters_314 (by decide) ?_
    refine zJ_bipush (v := 97) dX9_letters_316 (by decide) ?_
    refine zJ_bipush (v := 99) dX9_letters_318 (by decide) ?_
    refine zJ_bipush (v := 107) dX9_letters_320 (by decide) ?_
    refine zJ_iconst (v := 0) dX9_letters_322 (by decide) ?_
    refine zJ_iconst (v := 0) dX9_letters_323 (by decide) ?_
    refine zJ_cS6 dX9_letters_324 sX9_213 mfX9_spelled (c_Mo_spelled Δ w 98 97 99 107 0 0 (by decide) (by decide) (by decide) (by decide) (by decide) (by decide)) (Nat.le_of_ble_eq_true rfl) (by decide) (by decide) ?_
    rw [show zsl1 (zsl1 (zsl1 (zsl1 (zsl1 (98 - 96) 97) 99) 107) 0) 0 = 66667 by decide]
    exact zJ_lret dX9_letters_327 rfl (by decide) (by decide) hQ
