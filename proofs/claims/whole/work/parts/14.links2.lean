set_option maxRecDepth 100000 in
theorem fX5_27 : zFld RX5 27 5 0 := ⟨_, rfl, by decide, Or.inl (List.mem_of_getElem? (i := 192) rfl)⟩
set_option maxRecDepth 100000 in
theorem fX8_117 : zFld RX8 117 5 0 := ⟨_, rfl, by decide, Or.inr ⟨"LetterTown", (List.mem_of_getElem? (i := 193) rfl)⟩⟩
set_option maxRecDepth 100000 in
theorem fX2_126 : zFld RX2 126 5 0 := ⟨_, rfl, by decide, Or.inr ⟨"LetterTown", (List.mem_of_getElem? (i := 194) rfl)⟩⟩
set_option maxRecDepth 100000 in
theorem fX5_9 : zFld RX5 9 5 1 := ⟨_, rfl, by decide, Or.inl (List.mem_of_getElem? (i := 195) rfl)⟩
set_option maxRecDepth 100000 in
theorem fX0_37 : zFld RX0 37 5 1 := ⟨_, rfl, by decide, Or.inr ⟨"LetterTown", (List.mem_of_getElem? (i := 196) rfl)⟩⟩
set_option maxRecDepth 100000 in
theorem fX1_108 : zFld RX1 108 5 1 := ⟨_, rfl, by decide, Or.inr ⟨"LetterTown", (List.mem_of_getElem? (i := 197) rfl)⟩⟩
set_option maxRecDepth 100000 in
theorem fX8_164 : zFld RX8 164 5 1 := ⟨_, rfl, by decide, Or.inr ⟨"LetterTown", (List.mem_of_getElem? (i := 198) rfl)⟩⟩
set_option maxRecDepth 100000 in
theorem fX7_93 : zFld RX7 93 5 1 := ⟨_, rfl, by decide, Or.inr ⟨"LetterTown", (List.mem_of_getElem? (i := 199) rfl)⟩⟩
set_option maxRecDepth 100000 in
theorem fX2_138 : zFld RX2 138 5 1 := ⟨_, rfl, by decide, Or.inr ⟨"LetterTown", (List.mem_of_getElem? (i := 200) rfl)⟩⟩
set_option maxRecDepth 100000 in
theorem fX5_15 : zFld RX5 15 5 2 := ⟨_, rfl, by decide, Or.inl (List.mem_of_getElem? (i := 201) rfl)⟩
set_option maxRecDepth 100000 in
theorem fX0_42 : zFld RX0 42 5 2 := ⟨_, rfl, by decide, Or.inr ⟨"LetterTown", (List.mem_of_getElem? (i := 202) rfl)⟩⟩
set_option maxRecDepth 100000 in
theorem fX8_167 : zFld RX8 167 5 2 := ⟨_, rfl, by decide, Or.inr ⟨"LetterTown", (List.mem_of_getElem? (i := 203) rfl)⟩⟩
set_option maxRecDepth 100000 in
theorem fX7_100 : zFld RX7 100 5 2 := ⟨_, rfl, by decide, Or.inr ⟨"LetterTown", (List.mem_of_getElem? (i := 204) rfl)⟩⟩
set_option maxRecDepth 100000 in
theorem fX1_184 : zFld RX1 184 5 2 := ⟨_, rfl, by decide, Or.inr ⟨"LetterTown", (List.mem_of_getElem? (i := 205) rfl)⟩⟩
set_option maxRecDepth 100000 in
theorem fX2_141 : zFld RX2 141 5 2 := ⟨_, rfl, by decide, Or.inr ⟨"LetterTown", (List.mem_of_getElem? (i := 206) rfl)⟩⟩
set_option maxRecDepth 100000 in
theorem fX5_18 : zFld RX5 18 5 3 := ⟨_, rfl, by decide, Or.inl (List.mem_of_getElem? (i := 207) rfl)⟩
set_option maxRecDepth 100000 in
theorem fX8_170 : zFld RX8 170 5 3 := ⟨_, rfl, by decide, Or.inr ⟨"LetterTown", (List.mem_of_getElem? (i := 208) rfl)⟩⟩
set_option maxRecDepth 100000 in
theorem fX6_58 : zFld RX6 58 5 3 := ⟨_, rfl, by decide, Or.inr ⟨"LetterTown", (List.mem_of_getElem? (i := 209) rfl)⟩⟩
set_option maxRecDepth 100000 in
theorem fX2_158 : zFld RX2 158 5 3 := ⟨_, rfl, by decide, Or.inr ⟨"LetterTown", (List.mem_of_getElem? (i := 210) rfl)⟩⟩
set_option maxRecDepth 100000 in
theorem fX5_21 : zFld RX5 21 5 4 := ⟨_, rfl, by decide, Or.inl (List.mem_of_getElem? (i := 211) rfl)⟩
set_option maxRecDepth 100000 in
theorem fX8_173 : zFld RX8 173 5 4 := ⟨_, rfl, by decide, Or.inr ⟨"LetterTown", (List.mem_of_getElem? (i := 212) rfl)⟩⟩
set_option maxRecDepth 100000 in
theorem fX1_193 : zFld RX1 193 5 4 := ⟨_, rfl, by decide, Or.inr ⟨"LetterTown", (List.mem_of_getElem? (i := 213) rfl)⟩⟩
set_option maxRecDepth 100000 in
theorem fX2_162 : zFld RX2 162 5 4 := ⟨_, rfl, by decide, Or.inr ⟨"LetterTown", (List.mem_of_getElem? (i := 214) rfl)⟩⟩
set_option maxRecDepth 100000 in
theorem fX5_37 : zFld RX5 37 5 5 := ⟨_, rfl, by decide, Or.inl (List.mem_of_getElem? (i := 215) rfl)⟩
set_option maxRecDepth 100000 in
theorem fX8_120 : zFld RX8 120 5 5 := ⟨_, rfl, by decide, Or.inr ⟨"LetterTown", (List.mem_of_getElem? (i := 216) rfl)⟩⟩
set_option maxRecDepth 100000 in
theorem fX2_165 : zFld RX2 165 5 5 := ⟨_, rfl, by decide, Or.inr ⟨"LetterTown", (List.mem_of_getElem? (i := 217) rfl)⟩⟩
set_option maxRecDepth 100000 in
theorem fX5_40 : zFld RX5 40 5 6 := ⟨_, rfl, by decide, Or.inl (List.mem_of_getElem? (i := 218) rfl)⟩
set_option maxRecDepth 100000 in
theorem fX8_123 : zFld RX8 123 5 6 := ⟨_, rfl, by decide, Or.inr ⟨"LetterTown", (List.mem_of_getElem? (i := 219) rfl)⟩⟩
set_option maxRecDepth 100000 in
theorem fX1_168 : zFld RX1 168 5 6 := ⟨_, rfl, by decide, Or.inr ⟨"LetterTown", (List.mem_of_getElem? (i := 220) rfl)⟩⟩
set_option maxRecDepth 100000 in
theorem fX2_168 : zFld RX2 168 5 6 := ⟨_, rfl, by decide, Or.inr ⟨"LetterTown", (List.mem_of_getElem? (i := 221) rfl)⟩⟩
set_option maxRecDepth 100000 in
theorem fX5_43 : zFld RX5 43 5 7 := ⟨_, rfl, by decide, Or.inl (List.mem_of_getElem? (i := 222) rfl)⟩
set_option maxRecDepth 100000 in
theorem fX8_126 : zFld RX8 126 5 7 := ⟨_, rfl, by decide, Or.inr ⟨"LetterTown", (List.mem_of_getElem? (i := 223) rfl)⟩⟩
set_option maxRecDepth 100000 in
theorem fX6_55 : zFld RX6 55 5 7 := ⟨_, rfl, by decide, Or.inr ⟨"LetterTown", (List.mem_of_getElem? (i := 224) rfl)⟩⟩
set_option maxRecDepth 100000 in
theorem fX1_136 : zFld RX1 136 5 7 := ⟨_, rfl, by decide, Or.inr ⟨"LetterTown", (List.mem_of_getElem? (i := 225) rfl)⟩⟩
set_option maxRecDepth 100000 in
theorem fX7_77 : zFld RX7 77 5 7 := ⟨_, rfl, by decide, Or.inr ⟨"LetterTown", (List.mem_of_getElem? (i := 226) rfl)⟩⟩
set_option maxRecDepth 100000 in
theorem fX2_171 : zFld RX2 171 5 7 := ⟨_, rfl, by decide, Or.inr ⟨"LetterTown", (List.mem_of_getElem? (i := 227) rfl)⟩⟩
set_option maxRecDepth 100000 in
theorem fX5_46 : zFld RX5 46 5 8 := ⟨_, rfl, by decide, Or.inl (List.mem_of_getElem? (i := 228) rfl)⟩
set_option maxRecDepth 100000 in
theorem fX8_129 : zFld RX8 129 5 8 := ⟨_, rfl, by decide, Or.inr ⟨"LetterTown", (List.mem_of_getElem? (i := 229) rfl)⟩⟩
set_option maxRecDepth 100000 in
theorem fX1_144 : zFld RX1 144 5 8 := ⟨_, rfl, by decide, Or.inr ⟨"LetterTown", (List.mem_of_getElem? (i := 230) rfl)⟩⟩
set_option maxRecDepth 100000 in
theorem fX2_176 : zFld RX2 176 5 8 := ⟨_, rfl, by decide, Or.inr ⟨"LetterTown", (List.mem_of_getElem? (i := 231) rfl)⟩⟩
set_option maxRecDepth 100000 in
theorem fX5_49 : zFld RX5 49 5 9 := ⟨_, rfl, by decide, Or.inl (List.mem_of_getElem? (i := 232) rfl)⟩
set_option maxRecDepth 100000 in
theorem fX8_132 : zFld RX8 132 5 9 := ⟨_, rfl, by decide, Or.inr ⟨"LetterTown", (List.mem_of_getElem? (i := 233) rfl)⟩⟩
set_option maxRecDepth 100000 in
theorem fX1_177 : zFld RX1 177 5 9 := ⟨_, rfl, by decide, Or.inr ⟨"LetterTown", (List.mem_of_getElem? (i := 234) rfl)⟩⟩
set_option maxRecDepth 100000 in
theorem fX2_180 : zFld RX2 180 5 9 := ⟨_, rfl, by decide, Or.inr ⟨"LetterTown", (List.mem_of_getElem? (i := 235) rfl)⟩⟩
set_option maxRecDepth 100000 in
theorem fX5_52 : zFld RX5 52 5 10 := ⟨_, rfl, by decide, Or.inl (List.mem_of_getElem? (i := 236) rfl)⟩
set_option maxRecDepth 100000 in
theorem fX6_37 : zFld RX6 37 5 10 := ⟨_, rfl, by decide, Or.inr ⟨"LetterTown", (List.mem_of_getElem? (i := 237) rfl)⟩⟩
set_option maxRecDepth 100000 in
theorem fX8_135 : zFld RX8 135 5 10 := ⟨_, rfl, by decide, Or.inr ⟨"LetterTown", (List.mem_of_getElem? (i := 238) rfl)⟩⟩
set_option maxRecDepth 100000 in
theorem fX2_184 : zFld RX2 184 5 10 := ⟨_, rfl, by decide, Or.inr ⟨"LetterTown", (List.mem_of_getElem? (i := 239) rfl)⟩⟩
set_option maxRecDepth 100000 in
theorem fX5_55 : zFld RX5 55 5 11 := ⟨_, rfl, by decide, Or.inl (List.mem_of_getElem? (i := 240) rfl)⟩
set_option maxRecDepth 100000 in
theorem fX8_138 : zFld RX8 138 5 11 := ⟨_, rfl, by decide, Or.inr ⟨"LetterTown", (List.mem_of_getElem? (i := 241) rfl)⟩⟩
set_option maxRecDepth 100000 in
theorem fX2_190 : zFld RX2 190 5 11 := ⟨_, rfl, by decide, Or.inr ⟨"LetterTown", (List.mem_of_getElem? (i := 242) rfl)⟩⟩
set_option maxRecDepth 100000 in
theorem fX5_58 : zFld RX5 58 5 12 := ⟨_, rfl, by decide, Or.inl (List.mem_of_getElem? (i := 243) rfl)⟩
set_option maxRecDepth 100000 in
theorem fX6_32 : zFld RX6 32 5 12 := ⟨_, rfl, by decide, Or.inr ⟨"LetterTown", (List.mem_of_getElem? (i := 244) rfl)⟩⟩
set_option maxRecDepth 100000 in
theorem fX3_34 : zFld RX3 34 5 12 := ⟨_, rfl, by decide, Or.inr ⟨"LetterTown", (List.mem_of_getElem? (i := 245) rfl)⟩⟩
set_option maxRecDepth 100000 in
theorem fX8_141 : zFld RX8 141 5 12 := ⟨_, rfl, by decide, Or.inr ⟨"LetterTown", (List.mem_of_getElem? (i := 246) rfl)⟩⟩
set_option maxRecDepth 100000 in
theorem fX7_58 : zFld RX7 58 5 12 := ⟨_, rfl, by decide, Or.inr ⟨"LetterTown", (List.mem_of_getElem? (i := 247) rfl)⟩⟩
set_option maxRecDepth 100000 in
theorem fX2_192 : zFld RX2 192 5 12 := ⟨_, rfl, by decide, Or.inr ⟨"LetterTown", (List.mem_of_getElem? (i := 248) rfl)⟩⟩
set_option maxRecDepth 100000 in
theorem fX1_214 : zFld RX1 214 5 12 := ⟨_, rfl, by decide, Or.inr ⟨"LetterTown", (List.mem_of_getElem? (i := 249) rfl)⟩⟩
set_option maxRecDepth 100000 in
theorem fX5_61 : zFld RX5 61 5 13 := ⟨_, rfl, by decide, Or.inl (List.mem_of_getElem? (i := 250) rfl)⟩
set_option maxRecDepth 100000 in
theorem fX6_61 : zFld RX6 61 5 13 := ⟨_, rfl, by decide, Or.inr ⟨"LetterTown", (List.mem_of_getElem? (i := 251) rfl)⟩⟩
set_option maxRecDepth 100000 in
theorem fX8_304 : zFld RX8 304 5 13 := ⟨_, rfl, by decide, Or.inr ⟨"LetterTown", (List.mem_of_getElem? (i := 252) rfl)⟩⟩
set_option maxRecDepth 100000 in
theorem fX2_18 : zFld RX2 18 2 0 := ⟨_, rfl, by decide, Or.inl (List.mem_of_getElem? (i := 283) rfl)⟩
set_option maxRecDepth 100000 in
theorem fX2_12 : zFld RX2 12 2 1 := ⟨_, rfl, by decide, Or.inl (List.mem_of_getElem? (i := 284) rfl)⟩
set_option maxRecDepth 100000 in
theorem fX8_107 : zFld RX8 107 2 1 := ⟨_, rfl, by decide, Or.inr ⟨"LetterTown", (List.mem_of_getElem? (i := 285) rfl)⟩⟩
set_option maxRecDepth 100000 in
theorem fX2_31 : zFld RX2 31 2 2 := ⟨_, rfl, by decide, Or.inl (List.mem_of_getElem? (i := 286) rfl)⟩
set_option maxRecDepth 100000 in
theorem fX2_35 : zFld RX2 35 2 3 := ⟨_, rfl, by decide, Or.inl (List.mem_of_getElem? (i := 287) rfl)⟩
set_option maxRecDepth 100000 in
theorem fX2_50 : zFld RX2 50 2 4 := ⟨_, rfl, by decide, Or.inl (List.mem_of_getElem? (i := 288) rfl)⟩
set_option maxRecDepth 100000 in
theorem fX2_57 : zFld RX2 57 2 5 := ⟨_, rfl, by decide, Or.inl (List.mem_of_getElem? (i := 289) rfl)⟩
set_option maxRecDepth 100000 in
theorem fX2_67 : zFld RX2 67 2 6 := ⟨_, rfl, by decide, Or.inl (List.mem_of_getElem? (i := 290) rfl)⟩
set_option maxRecDepth 100000 in
theorem fX2_70 : zFld RX2 70 2 7 := ⟨_, rfl, by decide, Or.inl (List.mem_of_getElem? (i := 291) rfl)⟩
set_option maxRecDepth 100000 in
theorem fX2_38 : zFld RX2 38 2 8 := ⟨_, rfl, by decide, Or.inl (List.mem_of_getElem? (i := 292) rfl)⟩
set_option maxRecDepth 100000 in
theorem fX2_41 : zFld RX2 41 2 9 := ⟨_, rfl, by decide, Or.inl (List.mem_of_getElem? (i := 293) rfl)⟩
set_option maxRecDepth 100000 in
theorem fX2_44 : zFld RX2 44 2 10 := ⟨_, rfl, by decide, Or.inl (List.mem_of_getElem? (i := 294) rfl)⟩
set_option maxRecDepth 100000 in
theorem fX8_104 : zFld RX8 104 2 10 := ⟨_, rfl, by decide, Or.inr ⟨"LetterTown", (List.mem_of_getElem? (i := 295) rfl)⟩⟩
set_option maxRecDepth 100000 in
theorem fX6_15 : zFld RX6 15 6 0 := ⟨_, rfl, by decide, Or.inl (List.mem_of_getElem? (i := 335) rfl)⟩
set_option maxRecDepth 100000 in
theorem fX6_18 : zFld RX6 18 6 1 := ⟨_, rfl, by decide, Or.inl (List.mem_of_getElem? (i := 336) rfl)⟩
set_option maxRecDepth 100000 in
theorem fX1_101 : zFld RX1 101 6 1 := ⟨_, rfl, by decide, Or.inr ⟨"LetterTown", (List.mem_of_getElem? (i := 337) rfl)⟩⟩
set_option maxRecDepth 100000 in
theorem fX7_71 : zFld RX7 71 6 1 := ⟨_, rfl, by decide, Or.inr ⟨"LetterTown", (List.mem_of_getElem? (i := 338) rfl)⟩⟩
set_option maxRecDepth 100000 in
theorem fX6_22 : zFld RX6 22 6 2 := ⟨_, rfl, by decide, Or.inl (List.mem_of_getElem? (i := 339) rfl)⟩
set_option maxRecDepth 100000 in
theorem fX7_90 : zFld RX7 90 6 2 := ⟨_, rfl, by decide, Or.inr ⟨"LetterTown", (List.mem_of_getElem? (i := 340) rfl)⟩⟩
set_option maxRecDepth 100000 in
theorem fX1_187 : zFld RX1 187 6 2 := ⟨_, rfl, by decide, Or.inr ⟨"LetterTown", (List.mem_of_getElem? (i := 341) rfl)⟩⟩
set_option maxRecDepth 100000 in
theorem fX6_26 : zFld RX6 26 6 3 := ⟨_, rfl, by decide, Or.inl (List.mem_of_getElem? (i := 342) rfl)⟩
set_option maxRecDepth 100000 in
theorem fX1_158 : zFld RX1 158 6 3 := ⟨_, rfl, by decide, Or.inr ⟨"LetterTown", (List.mem_of_getElem? (i := 343) rfl)⟩⟩
set_option maxRecDepth 100000 in
theorem fX7_115 : zFld RX7 115 6 3 := ⟨_, rfl, by decide, Or.inr ⟨"LetterTown", (List.mem_of_getElem? (i := 344) rfl)⟩⟩
set_option maxRecDepth 100000 in
theorem fX6_29 : zFld RX6 29 6 4 := ⟨_, rfl, by decide, Or.inl (List.mem_of_getElem? (i := 345) rfl)⟩
set_option maxRecDepth 100000 in
theorem fX1_95 : zFld RX1 95 6 5 := ⟨_, rfl, by decide, Or.inr ⟨"LetterTown", (List.mem_of_getElem? (i := 346) rfl)⟩⟩
set_option maxRecDepth 100000 in
theorem fX6_72 : zFld RX6 72 6 5 := ⟨_, rfl, by decide, Or.inl (List.mem_of_getElem? (i := 347) rfl)⟩
set_option maxRecDepth 100000 in
theorem fX6_11 : zFld RX6 11 6 6 := ⟨_, rfl, by decide, Or.inl (List.mem_of_getElem? (i := 348) rfl)⟩
set_option maxRecDepth 100000 in
theorem fX6_82 : zFld RX6 82 6 7 := ⟨_, rfl, by decide, Or.inl (List.mem_of_getElem? (i := 349) rfl)⟩
set_option maxRecDepth 100000 in
theorem fX1_12 : zFld RX1 12 1 0 := ⟨_, rfl, by decide, Or.inl (List.mem_of_getElem? (i := 368) rfl)⟩
set_option maxRecDepth 100000 in
theorem fX7_52 : zFld RX7 52 1 0 := ⟨_, rfl, by decide, Or.inr ⟨"LetterTown", (List.mem_of_getElem? (i := 369) rfl)⟩⟩
set_option maxRecDepth 100000 in
theorem fX1_34 : zFld RX1 34 1 1 := ⟨_, rfl, by decide, Or.inl (List.mem_of_getElem? (i := 370) rfl)⟩
set_option maxRecDepth 100000 in
theorem fX7_67 : zFld RX7 67 1 1 := ⟨_, rfl, by decide, Or.inr ⟨"LetterTown", (List.mem_of_getElem? (i := 371) rfl)⟩⟩
set_option maxRecDepth 100000 in
theorem fX1_38 : zFld RX1 38 1 2 := ⟨_, rfl, by decide, Or.inl (List.mem_of_getElem? (i := 372) rfl)⟩
set_option maxRecDepth 100000 in
theorem fX8_307 : zFld RX8 307 1 2 := ⟨_, rfl, by decide, Or.inr ⟨"LetterTown", (List.mem_of_getElem? (i := 373) rfl)⟩⟩
set_option maxRecDepth 100000 in
theorem fX1_41 : zFld RX1 41 1 3 := ⟨_, rfl, by decide, Or.inl (List.mem_of_getElem? (i := 374) rfl)⟩
set_option maxRecDepth 100000 in
theorem fX8_203 : zFld RX8 203 1 3 := ⟨_, rfl, by decide, Or.inr ⟨"LetterTown", (List.mem_of_getElem? (i := 375) rfl)⟩⟩
set_option maxRecDepth 100000 in
theorem fX1_44 : zFld RX1 44 1 4 := ⟨_, rfl, by decide, Or.inl (List.mem_of_getElem? (i := 376) rfl)⟩
set_option maxRecDepth 100000 in
theorem fX7_109 : zFld RX7 109 1 4 := ⟨_, rfl, by decide, Or.inr ⟨"LetterTown", (List.mem_of_getElem? (i := 377) rfl)⟩⟩
set_option maxRecDepth 100000 in
theorem fX1_47 : zFld RX1 47 1 5 := ⟨_, rfl, by decide, Or.inl (List.mem_of_getElem? (i := 378) rfl)⟩
set_option maxRecDepth 100000 in
theorem fX8_299 : zFld RX8 299 1 5 := ⟨_, rfl, by decide, Or.inr ⟨"LetterTown", (List.mem_of_getElem? (i := 379) rfl)⟩⟩
set_option maxRecDepth 100000 in
theorem fX1_50 : zFld RX1 50 1 6 := ⟨_, rfl, by decide, Or.inl (List.mem_of_getElem? (i := 380) rfl)⟩
set_option maxRecDepth 100000 in
theorem fX8_289 : zFld RX8 289 1 6 := ⟨_, rfl, by decide, Or.inr ⟨"LetterTown", (List.mem_of_getElem? (i := 381) rfl)⟩⟩
set_option maxRecDepth 100000 in
theorem fX1_18 : zFld RX1 18 1 7 := ⟨_, rfl, by decide, Or.inl (List.mem_of_getElem? (i := 382) rfl)⟩
set_option maxRecDepth 100000 in
theorem fX1_22 : zFld RX1 22 1 8 := ⟨_, rfl, by decide, Or.inl (List.mem_of_getElem? (i := 383) rfl)⟩
set_option maxRecDepth 100000 in
theorem fX1_25 : zFld RX1 25 1 9 := ⟨_, rfl, by decide, Or.inl (List.mem_of_getElem? (i := 384) rfl)⟩
set_option maxRecDepth 100000 in
theorem fX1_92 : zFld RX1 92 1 10 := ⟨_, rfl, by decide, Or.inl (List.mem_of_getElem? (i := 385) rfl)⟩
set_option maxRecDepth 100000 in
theorem fX1_53 : zFld RX1 53 1 11 := ⟨_, rfl, by decide, Or.inl (List.mem_of_getElem? (i := 386) rfl)⟩
set_option maxRecDepth 100000 in
theorem fX1_68 : zFld RX1 68 1 12 := ⟨_, rfl, by decide, Or.inl (List.mem_of_getElem? (i := 387) rfl)⟩
set_option maxRecDepth 100000 in
theorem fX1_71 : zFld RX1 71 1 13 := ⟨_, rfl, by decide, Or.inl (List.mem_of_getElem? (i := 388) rfl)⟩
set_option maxRecDepth 100000 in
theorem fX1_88 : zFld RX1 88 1 14 := ⟨_, rfl, by decide, Or.inl (List.mem_of_getElem? (i := 389) rfl)⟩
set_option maxRecDepth 100000 in
theorem fX3_11 : zFld RX3 11 3 0 := ⟨_, rfl, by decide, Or.inl (List.mem_of_getElem? (i := 427) rfl)⟩
set_option maxRecDepth 100000 in
theorem fX8_250 : zFld RX8 250 3 0 := ⟨_, rfl, by decide, Or.inr ⟨"LetterTown", (List.mem_of_getElem? (i := 428) rfl)⟩⟩
set_option maxRecDepth 100000 in
theorem fX3_21 : zFld RX3 21 3 1 := ⟨_, rfl, by decide, Or.inl (List.mem_of_getElem? (i := 429) rfl)⟩
set_option maxRecDepth 100000 in
theorem fX8_144 : zFld RX8 144 3 1 := ⟨_, rfl, by decide, Or.inr ⟨"LetterTown", (List.mem_of_getElem? (i := 430) rfl)⟩⟩
set_option maxRecDepth 100000 in
theorem fX3_15 : zFld RX3 15 3 2 := ⟨_, rfl, by decide, Or.inl (List.mem_of_getElem? (i := 431) rfl)⟩
set_option maxRecDepth 100000 in
theorem fX0_48 : zFld RX0 48 3 2 := ⟨_, rfl, by decide, Or.inr ⟨"LetterTown", (List.mem_of_getElem? (i := 432) rfl)⟩⟩
set_option maxRecDepth 100000 in
theorem fX3_18 : zFld RX3 18 3 3 := ⟨_, rfl, by decide, Or.inl (List.mem_of_getElem? (i := 433) rfl)⟩
set_option maxRecDepth 100000 in
theorem fX0_51 : zFld RX0 51 3 3 := ⟨_, rfl, by decide, Or.inr ⟨"LetterTown", (List.mem_of_getElem? (i := 434) rfl)⟩⟩
set_option maxRecDepth 100000 in
theorem fX3_25 : zFld RX3 25 3 4 := ⟨_, rfl, by decide, Or.inl (List.mem_of_getElem? (i := 435) rfl)⟩
set_option maxRecDepth 100000 in
theorem fX8_147 : zFld RX8 147 3 4 := ⟨_, rfl, by decide, Or.inr ⟨"LetterTown", (List.mem_of_getElem? (i := 436) rfl)⟩⟩
set_option maxRecDepth 100000 in
theorem fX0_45 : zFld RX0 45 3 4 := ⟨_, rfl, by decide, Or.inr ⟨"LetterTown", (List.mem_of_getElem? (i := 437) rfl)⟩⟩
set_option maxRecDepth 100000 in
theorem fX0_9 : zFld RX0 9 0 0 := ⟨_, rfl, by decide, Or.inl (List.mem_of_getElem? (i := 456) rfl)⟩
set_option maxRecDepth 100000 in
theorem fX0_15 : zFld RX0 15 0 1 := ⟨_, rfl, by decide, Or.inl (List.mem_of_getElem? (i := 457) rfl)⟩
set_option maxRecDepth 100000 in
theorem fX0_33 : zFld RX0 33 0 2 := ⟨_, rfl, by decide, Or.inl (List.mem_of_getElem? (i := 458) rfl)⟩
set_option maxRecDepth 100000 in
theorem fX0_20 : zFld RX0 20 0 3 := ⟨_, rfl, by decide, Or.inl (List.mem_of_getElem? (i := 459) rfl)⟩
set_option maxRecDepth 100000 in
theorem fX0_24 : zFld RX0 24 0 4 := ⟨_, rfl, by decide, Or.inl (List.mem_of_getElem? (i := 460) rfl)⟩
set_option maxRecDepth 100000 in
theorem fX4_11 : zFld RX4 11 4 0 := ⟨_, rfl, by decide, Or.inl (List.mem_of_getElem? (i := 478) rfl)⟩
set_option maxRecDepth 100000 in
theorem fX4_15 : zFld RX4 15 4 1 := ⟨_, rfl, by decide, Or.inl (List.mem_of_getElem? (i := 479) rfl)⟩
set_option maxRecDepth 100000 in
theorem fX4_21 : zFld RX4 21 4 2 := ⟨_, rfl, by decide, Or.inl (List.mem_of_getElem? (i := 480) rfl)⟩
set_option maxRecDepth 100000 in
theorem fX8_150 : zFld RX8 150 4 2 := ⟨_, rfl, by decide, Or.inr ⟨"LetterTown", (List.mem_of_getElem? (i := 481) rfl)⟩⟩
set_option maxRecDepth 100000 in
theorem fX4_34 : zFld RX4 34 4 3 := ⟨_, rfl, by decide, Or.inl (List.mem_of_getElem? (i := 482) rfl)⟩
set_option maxRecDepth 100000 in
theorem fX8_325 : zFld RX8 325 4 3 := ⟨_, rfl, by decide, Or.inr ⟨"LetterTown", (List.mem_of_getElem? (i := 483) rfl)⟩⟩
set_option maxRecDepth 100000 in
theorem fX4_37 : zFld RX4 37 4 4 := ⟨_, rfl, by decide, Or.inl (List.mem_of_getElem? (i := 484) rfl)⟩
set_option maxRecDepth 100000 in
theorem fX8_328 : zFld RX8 328 4 4 := ⟨_, rfl, by decide, Or.inr ⟨"LetterTown", (List.mem_of_getElem? (i := 485) rfl)⟩⟩
set_option maxRecDepth 100000 in
theorem fX4_31 : zFld RX4 31 4 5 := ⟨_, rfl, by decide, Or.inl (List.mem_of_getElem? (i := 486) rfl)⟩
set_option maxRecDepth 100000 in
theorem fX8_331 : zFld RX8 331 4 5 := ⟨_, rfl, by decide, Or.inr ⟨"LetterTown", (List.mem_of_getElem? (i := 487) rfl)⟩⟩
set_option maxRecDepth 100000 in
theorem fX4_40 : zFld RX4 40 4 6 := ⟨_, rfl, by decide, Or.inl (List.mem_of_getElem? (i := 488) rfl)⟩
set_option maxRecDepth 100000 in
theorem fX8_334 : zFld RX8 334 4 6 := ⟨_, rfl, by decide, Or.inr ⟨"LetterTown", (List.mem_of_getElem? (i := 489) rfl)⟩⟩
set_option maxRecDepth 100000 in
theorem fX4_18 : zFld RX4 18 4 7 := ⟨_, rfl, by decide, Or.inl (List.mem_of_getElem? (i := 490) rfl)⟩
set_option maxRecDepth 100000 in
theorem fX7_21 : zFld RX7 21 7 0 := ⟨_, rfl, by decide, Or.inl (List.mem_of_getElem? (i := 514) rfl)⟩
set_option maxRecDepth 100000 in
theorem fX8_354 : zFld RX8 354 7 0 := ⟨_, rfl, by decide, Or.inr ⟨"LetterTown", (List.mem_of_getElem? (i := 515) rfl)⟩⟩
set_option maxRecDepth 100000 in
theorem fX7_29 : zFld RX7 29 7 1 := ⟨_, rfl, by decide, Or.inl (List.mem_of_getElem? (i := 516) rfl)⟩
set_option maxRecDepth 100000 in
theorem fX7_32 : zFld RX7 32 7 2 := ⟨_, rfl, by decide, Or.inl (List.mem_of_getElem? (i := 517) rfl)⟩
set_option maxRecDepth 100000 in
theorem fX7_25 : zFld RX7 25 7 3 := ⟨_, rfl, by decide, Or.inl (List.mem_of_getElem? (i := 518) rfl)⟩
set_option maxRecDepth 100000 in
theorem fX8_358 : zFld RX8 358 7 3 := ⟨_, rfl, by decide, Or.inr ⟨"LetterTown", (List.mem_of_getElem? (i := 519) rfl)⟩⟩
set_option maxRecDepth 100000 in
theorem fX7_11 : zFld RX7 11 7 4 := ⟨_, rfl, by decide, Or.inl (List.mem_of_getElem? (i := 520) rfl)⟩
set_option maxRecDepth 100000 in
theorem fX8_365 : zFld RX8 365 7 4 := ⟨_, rfl, by decide, Or.inr ⟨"LetterTown", (List.mem_of_getElem? (i := 521) rfl)⟩⟩
set_option maxRecDepth 100000 in
theorem fX7_15 : zFld RX7 15 7 5 := ⟨_, rfl, by decide, Or.inl (List.mem_of_getElem? (i := 522) rfl)⟩
set_option maxRecDepth 100000 in
theorem fX8_368 : zFld RX8 368 7 5 := ⟨_, rfl, by decide, Or.inr ⟨"LetterTown", (List.mem_of_getElem? (i := 523) rfl)⟩⟩
set_option maxRecDepth 100000 in
theorem fX7_18 : zFld RX7 18 7 6 := ⟨_, rfl, by decide, Or.inl (List.mem_of_getElem? (i := 524) rfl)⟩
set_option maxRecDepth 100000 in
theorem fX8_9 : zFld RX8 9 8 0 := ⟨_, rfl, by decide, Or.inl (List.mem_of_getElem? (i := 540) rfl)⟩
set_option maxRecDepth 100000 in
theorem fX8_86 : zFld RX8 86 8 1 := ⟨_, rfl, by decide, Or.inl (List.mem_of_getElem? (i := 541) rfl)⟩
set_option maxRecDepth 100000 in
theorem fX8_13 : zFld RX8 13 8 2 := ⟨_, rfl, by decide, Or.inl (List.mem_of_getElem? (i := 542) rfl)⟩
set_option maxRecDepth 100000 in
theorem fX8_17 : zFld RX8 17 8 3 := ⟨_, rfl, by decide, Or.inl (List.mem_of_getElem? (i := 543) rfl)⟩
set_option maxRecDepth 100000 in
theorem fX8_25 : zFld RX8 25 8 4 := ⟨_, rfl, by decide, Or.inl (List.mem_of_getElem? (i := 544) rfl)⟩
set_option maxRecDepth 100000 in
theorem fX8_32 : zFld RX8 32 8 5 := ⟨_, rfl, by decide, Or.inl (List.mem_of_getElem? (i := 545) rfl)⟩
set_option maxRecDepth 100000 in
theorem fX8_36 : zFld RX8 36 8 6 := ⟨_, rfl, by decide, Or.inl (List.mem_of_getElem? (i := 546) rfl)⟩
set_option maxRecDepth 100000 in
theorem fX8_44 : zFld RX8 44 8 7 := ⟨_, rfl, by decide, Or.inl (List.mem_of_getElem? (i := 547) rfl)⟩
set_option maxRecDepth 100000 in
theorem fX8_385 : zFld RX8 385 8 8 := ⟨_, rfl, by decide, Or.inl (List.mem_of_getElem? (i := 548) rfl)⟩
set_option maxRecDepth 100000 in
theorem fX8_51 : zFld RX8 51 8 9 := ⟨_, rfl, by decide, Or.inl (List.mem_of_getElem? (i := 549) rfl)⟩
set_option maxRecDepth 100000 in
theorem fX8_58 : zFld RX8 58 8 10 := ⟨_, rfl, by decide, Or.inl (List.mem_of_getElem? (i := 550) rfl)⟩
set_option maxRecDepth 100000 in
theorem fX8_65 : zFld RX8 65 8 11 := ⟨_, rfl, by decide, Or.inl (List.mem_of_getElem? (i := 551) rfl)⟩
set_option maxRecDepth 100000 in
theorem fX8_69 : zFld RX8 69 8 12 := ⟨_, rfl, by decide, Or.inl (List.mem_of_getElem? (i := 552) rfl)⟩
set_option maxRecDepth 100000 in
theorem fX8_73 : zFld RX8 73 8 13 := ⟨_, rfl, by decide, Or.inl (List.mem_of_getElem? (i := 553) rfl)⟩
set_option maxRecDepth 100000 in
theorem fX8_292 : zFld RX8 292 8 14 := ⟨_, rfl, by decide, Or.inl (List.mem_of_getElem? (i := 554) rfl)⟩
set_option maxRecDepth 100000 in
theorem fX8_296 : zFld RX8 296 8 15 := ⟨_, rfl, by decide, Or.inl (List.mem_of_getElem? (i := 555) rfl)⟩
set_option maxRecDepth 100000 in
theorem fX8_79 : zFld RX8 79 8 16 := ⟨_, rfl, by decide, Or.inl (List.mem_of_getElem? (i := 556) rfl)⟩
set_option maxRecDepth 100000 in
theorem fX8_83 : zFld RX8 83 8 17 := ⟨_, rfl, by decide, Or.inl (List.mem_of_getElem? (i := 557) rfl)⟩
set_option maxRecDepth 100000 in
theorem fX9_170 : zFld RX9 170 9 0 := ⟨_, rfl, by decide, Or.inl (List.mem_of_getElem? (i := 1432) rfl)⟩
set_option maxRecDepth 100000 in
theorem fX9_298 : zFld RX9 298 9 1 := ⟨_, rfl, by decide, Or.inl (List.mem_of_getElem? (i := 1433) rfl)⟩
set_option maxRecDepth 100000 in
theorem fX9_301 : zFld RX9 301 9 2 := ⟨_, rfl, by decide, Or.inl (List.mem_of_getElem? (i := 1434) rfl)⟩
set_option maxRecDepth 100000 in
theorem fX9_7 : zFld RX9 7 9 3 := ⟨_, rfl, by decide, Or.inl (List.mem_of_getElem? (i := 1435) rfl)⟩
set_option maxRecDepth 100000 in
theorem fX9_13 : zFld RX9 13 9 4 := ⟨_, rfl, by decide, Or.inl (List.mem_of_getElem? (i := 1436) rfl)⟩
set_option maxRecDepth 100000 in
theorem fX9_16 : zFld RX9 16 9 5 := ⟨_, rfl, by decide, Or.inl (List.mem_of_getElem? (i := 1437) rfl)⟩
set_option maxRecDepth 100000 in
theorem fX9_304 : zFld RX9 304 9 6 := ⟨_, rfl, by decide, Or.inl (List.mem_of_getElem? (i := 1438) rfl)⟩
set_option maxRecDepth 100000 in
theorem fX9_307 : zFld RX9 307 9 7 := ⟨_, rfl, by decide, Or.inl (List.mem_of_getElem? (i := 1439) rfl)⟩
set_option maxRecDepth 100000 in
theorem fX9_310 : zFld RX9 310 9 8 := ⟨_, rfl, by decide, Or.inl (List.mem_of_getElem? (i := 1440) rfl)⟩
set_option maxRecDepth 100000 in
theorem fX9_19 : zFld RX9 19 9 9 := ⟨_, rfl, by decide, Or.inl (List.mem_of_getElem? (i := 1441) rfl)⟩
set_option maxRecDepth 100000 in
theorem fX9_22 : zFld RX9 22 9 10 := ⟨_, rfl, by decide, Or.inl (List.mem_of_getElem? (i := 1442) rfl)⟩
set_option maxRecDepth 100000 in
theorem fX9_26 : zFld RX9 26 9 11 := ⟨_, rfl, by decide, Or.inl (List.mem_of_getElem? (i := 1443) rfl)⟩
set_option maxRecDepth 100000 in
theorem fX9_29 : zFld RX9 29 9 12 := ⟨_, rfl, by decide, Or.inl (List.mem_of_getElem? (i := 1444) rfl)⟩
set_option maxRecDepth 100000 in
theorem fX9_32 : zFld RX9 32 9 13 := ⟨_, rfl, by decide, Or.inl (List.mem_of_getElem? (i := 1445) rfl)⟩
set_option maxRecDepth 100000 in
theorem fX9_173 : zFld RX9 173 9 14 := ⟨_, rfl, by decide, Or.inl (List.mem_of_getElem? (i := 1446) rfl)⟩
set_option maxRecDepth 100000 in
theorem fX9_221 : zFld RX9 221 9 15 := ⟨_, rfl, by decide, Or.inl (List.mem_of_getElem? (i := 1447) rfl)⟩
set_option maxRecDepth 100000 in
theorem fX9_35 : zFld RX9 35 9 16 := ⟨_, rfl, by decide, Or.inl (List.mem_of_getElem? (i := 1448) rfl)⟩
set_option maxRecDepth 100000 in
theorem fX9_38 : zFld RX9 38 9 17 := ⟨_, rfl, by decide, Or.inl (List.mem_of_getElem? (i := 1449) rfl)⟩
set_option maxRecDepth 100000 in
theorem fX9_180 : zFld RX9 180 9 18 := ⟨_, rfl, by decide, Or.inl (List.mem_of_getElem? (i := 1450) rfl)⟩
set_option maxRecDepth 100000 in
theorem fX9_183 : zFld RX9 183 9 19 := ⟨_, rfl, by decide, Or.inl (List.mem_of_getElem? (i := 1451) rfl)⟩
set_option maxRecDepth 100000 in
theorem fX9_200 : zFld RX9 200 9 20 := ⟨_, rfl, by decide, Or.inl (List.mem_of_getElem? (i := 1452) rfl)⟩
set_option maxRecDepth 100000 in
theorem fX9_190 : zFld RX9 190 9 21 := ⟨_, rfl, by decide, Or.inl (List.mem_of_getElem? (i := 1453) rfl)⟩
set_option maxRecDepth 100000 in
theorem fX9_210 : zFld RX9 210 9 22 := ⟨_, rfl, by decide, Or.inl (List.mem_of_getElem? (i := 1454) rfl)⟩
set_option maxRecDepth 100000 in
theorem fX9_197 : zFld RX9 197 9 23 := ⟨_, rfl, by decide, Or.inl (List.mem_of_getElem? (i := 1455) rfl)⟩
set_option maxRecDepth 100000 in
theorem fX9_193 : zFld RX9 193 9 24 := ⟨_, rfl, by decide, Or.inl (List.mem_of_getElem? (i := 1456) rfl)⟩
set_option maxRecDepth 100000 in
theorem fX9_241 : zFld RX9 241 9 25 := ⟨_, rfl, by decide, Or.inl (List.mem_of_getElem? (i := 1457) rfl)⟩
set_option maxRecDepth 100000 in
theorem fX9_288 : zFld RX9 288 9 26 := ⟨_, rfl, by decide, Or.inl (List.mem_of_getElem? (i := 1458) rfl)⟩
set_option maxRecDepth 100000 in
theorem fX9_251 : zFld RX9 251 9 27 := ⟨_, rfl, by decide, Or.inl (List.mem_of_getElem? (i := 1459) rfl)⟩
set_option maxRecDepth 100000 in
theorem fX9_254 : zFld RX9 254 9 28 := ⟨_, rfl, by decide, Or.inl (List.mem_of_getElem? (i := 1460) rfl)⟩
set_option maxRecDepth 100000 in
theorem fX9_257 : zFld RX9 257 9 29 := ⟨_, rfl, by decide, Or.inl (List.mem_of_getElem? (i := 1461) rfl)⟩
set_option maxRecDepth 100000 in
theorem fX9_260 : zFld RX9 260 9 30 := ⟨_, rfl, by decide, Or.inl (List.mem_of_getElem? (i := 1462) rfl)⟩
set_option maxRecDepth 100000 in
theorem fX9_263 : zFld RX9 263 9 31 := ⟨_, rfl, by decide, Or.inl (List.mem_of_getElem? (i := 1463) rfl)⟩
set_option maxRecDepth 100000 in
theorem fX9_278 : zFld RX9 278 9 32 := ⟨_, rfl, by decide, Or.inl (List.mem_of_getElem? (i := 1464) rfl)⟩
set_option maxRecDepth 100000 in
theorem fX9_285 : zFld RX9 285 9 33 := ⟨_, rfl, by decide, Or.inl (List.mem_of_getElem? (i := 1465) rfl)⟩
set_option maxRecDepth 100000 in
theorem fX9_272 : zFld RX9 272 9 34 := ⟨_, rfl, by decide, Or.inl (List.mem_of_getElem? (i := 1466) rfl)⟩
set_option maxRecDepth 100000 in
theorem fX9_41 : zFld RX9 41 9 35 := ⟨_, rfl, by decide, Or.inl (List.mem_of_getElem? (i := 1467) rfl)⟩
set_option maxRecDepth 100000 in
theorem fX9_44 : zFld RX9 44 9 36 := ⟨_, rfl, by decide, Or.inl (List.mem_of_getElem? (i := 1468) rfl)⟩
set_option maxRecDepth 100000 in
theorem fX9_47 : zFld RX9 47 9 37 := ⟨_, rfl, by decide, Or.inl (List.mem_of_getElem? (i := 1469) rfl)⟩
set_option maxRecDepth 100000 in
theorem fX9_354 : zFld RX9 354 9 38 := ⟨_, rfl, by decide, Or.inl (List.mem_of_getElem? (i := 1470) rfl)⟩
set_option maxRecDepth 100000 in
theorem fX9_50 : zFld RX9 50 9 39 := ⟨_, rfl, by decide, Or.inl (List.mem_of_getElem? (i := 1471) rfl)⟩
set_option maxRecDepth 100000 in
theorem fX9_53 : zFld RX9 53 9 40 := ⟨_, rfl, by decide, Or.inl (List.mem_of_getElem? (i := 1472) rfl)⟩
set_option maxRecDepth 100000 in
theorem fX9_56 : zFld RX9 56 9 41 := ⟨_, rfl, by decide, Or.inl (List.mem_of_getElem? (i := 1473) rfl)⟩
set_option maxRecDepth 100000 in
theorem fX9_59 : zFld RX9 59 9 42 := ⟨_, rfl, by decide, Or.inl (List.mem_of_getElem? (i := 1474) rfl)⟩
set_option maxRecDepth 100000 in
theorem fX9_63 : zFld RX9 63 9 43 := ⟨_, rfl, by decide, Or.inl (List.mem_of_getElem? (i := 1475) rfl)⟩
set_option maxRecDepth 100000 in
theorem fX9_67 : zFld RX9 67 9 44 := ⟨_, rfl, by decide, Or.inl (List.mem_of_getElem? (i := 1476) rfl)⟩
set_option maxRecDepth 100000 in
theorem fX9_357 : zFld RX9 357 9 45 := ⟨_, rfl, by decide, Or.inl (List.mem_of_getElem? (i := 1477) rfl)⟩
set_option maxRecDepth 100000 in
theorem fX9_342 : zFld RX9 342 9 46 := ⟨_, rfl, by decide, Or.inl (List.mem_of_getElem? (i := 1478) rfl)⟩
set_option maxRecDepth 100000 in
theorem fX9_345 : zFld RX9 345 9 47 := ⟨_, rfl, by decide, Or.inl (List.mem_of_getElem? (i := 1479) rfl)⟩
set_option maxRecDepth 100000 in
theorem fX9_70 : zFld RX9 70 9 48 := ⟨_, rfl, by decide, Or.inl (List.mem_of_getElem? (i := 1480) rfl)⟩
set_option maxRecDepth 100000 in
theorem fX9_73 : zFld RX9 73 9 49 := ⟨_, rfl, by decide, Or.inl (List.mem_of_getElem? (i := 1481) rfl)⟩
set_option maxRecDepth 100000 in
theorem fX9_76 : zFld RX9 76 9 50 := ⟨_, rfl, by decide, Or.inl (List.mem_of_getElem? (i := 1482) rfl)⟩
set_option maxRecDepth 100000 in
theorem fX9_80 : zFld RX9 80 9 51 := ⟨_, rfl, by decide, Or.inl (List.mem_of_getElem? (i := 1483) rfl)⟩
set_option maxRecDepth 100000 in
theorem fX9_83 : zFld RX9 83 9 52 := ⟨_, rfl, by decide, Or.inl (List.mem_of_getElem? (i := 1484) rfl)⟩
set_option maxRecDepth 100000 in
theorem fX9_86 : zFld RX9 86 9 53 := ⟨_, rfl, by decide, Or.inl (List.mem_of_getElem? (i := 1485) rfl)⟩
set_option maxRecDepth 100000 in
theorem fX9_89 : zFld RX9 89 9 54 := ⟨_, rfl, by decide, Or.inl (List.mem_of_getElem? (i := 1486) rfl)⟩
set_option maxRecDepth 100000 in
theorem fX9_317 : zFld RX9 317 9 55 := ⟨_, rfl, by decide, Or.inl (List.mem_of_getElem? (i := 1487) rfl)⟩
set_option maxRecDepth 100000 in
theorem fX9_320 : zFld RX9 320 9 56 := ⟨_, rfl, by decide, Or.inl (List.mem_of_getElem? (i := 1488) rfl)⟩
set_option maxRecDepth 100000 in
theorem fX9_92 : zFld RX9 92 9 57 := ⟨_, rfl, by decide, Or.inl (List.mem_of_getElem? (i := 1489) rfl)⟩
set_option maxRecDepth 100000 in
theorem fX9_95 : zFld RX9 95 9 58 := ⟨_, rfl, by decide, Or.inl (List.mem_of_getElem? (i := 1490) rfl)⟩
set_option maxRecDepth 100000 in
theorem fX9_98 : zFld RX9 98 9 59 := ⟨_, rfl, by decide, Or.inl (List.mem_of_getElem? (i := 1491) rfl)⟩
set_option maxRecDepth 100000 in
theorem fX9_101 : zFld RX9 101 9 60 := ⟨_, rfl, by decide, Or.inl (List.mem_of_getElem? (i := 1492) rfl)⟩
set_option maxRecDepth 100000 in
theorem fX9_435 : zFld RX9 435 9 61 := ⟨_, rfl, by decide, Or.inl (List.mem_of_getElem? (i := 1493) rfl)⟩
set_option maxRecDepth 100000 in
theorem fX9_104 : zFld RX9 104 9 62 := ⟨_, rfl, by decide, Or.inl (List.mem_of_getElem? (i := 1494) rfl)⟩
set_option maxRecDepth 100000 in
theorem fX9_107 : zFld RX9 107 9 63 := ⟨_, rfl, by decide, Or.inl (List.mem_of_getElem? (i := 1495) rfl)⟩
set_option maxRecDepth 100000 in
theorem fX9_110 : zFld RX9 110 9 64 := ⟨_, rfl, by decide, Or.inl (List.mem_of_getElem? (i := 1496) rfl)⟩
set_option maxRecDepth 100000 in
theorem fX9_113 : zFld RX9 113 9 65 := ⟨_, rfl, by decide, Or.inl (List.mem_of_getElem? (i := 1497) rfl)⟩
set_option maxRecDepth 100000 in
theorem fX9_326 : zFld RX9 326 9 66 := ⟨_, rfl, by decide, Or.inl (List.mem_of_getElem? (i := 1498) rfl)⟩
set_option maxRecDepth 100000 in
theorem fX9_116 : zFld RX9 116 9 67 := ⟨_, rfl, by decide, Or.inl (List.mem_of_getElem? (i := 1499) rfl)⟩
set_option maxRecDepth 100000 in
theorem fX9_119 : zFld RX9 119 9 68 := ⟨_, rfl, by decide, Or.inl (List.mem_of_getElem? (i := 1500) rfl)⟩
set_option maxRecDepth 100000 in
theorem fX9_122 : zFld RX9 122 9 69 := ⟨_, rfl, by decide, Or.inl (List.mem_of_getElem? (i := 1501) rfl)⟩
set_option maxRecDepth 100000 in
theorem fX9_125 : zFld RX9 125 9 70 := ⟨_, rfl, by decide, Or.inl (List.mem_of_getElem? (i := 1502) rfl)⟩
set_option maxRecDepth 100000 in
theorem fX9_323 : zFld RX9 323 9 71 := ⟨_, rfl, by decide, Or.inl (List.mem_of_getElem? (i := 1503) rfl)⟩
set_option maxRecDepth 100000 in
theorem fX9_128 : zFld RX9 128 9 72 := ⟨_, rfl, by decide, Or.inl (List.mem_of_getElem? (i := 1504) rfl)⟩
set_option maxRecDepth 100000 in
theorem fX9_131 : zFld RX9 131 9 73 := ⟨_, rfl, by decide, Or.inl (List.mem_of_getElem? (i := 1505) rfl)⟩
set_option maxRecDepth 100000 in
theorem fX9_134 : zFld RX9 134 9 74 := ⟨_, rfl, by decide, Or.inl (List.mem_of_getElem? (i := 1506) rfl)⟩
set_option maxRecDepth 100000 in
theorem fX9_137 : zFld RX9 137 9 75 := ⟨_, rfl, by decide, Or.inl (List.mem_of_getElem? (i := 1507) rfl)⟩
set_option maxRecDepth 100000 in
theorem fX9_329 : zFld RX9 329 9 76 := ⟨_, rfl, by decide, Or.inl (List.mem_of_getElem? (i := 1508) rfl)⟩
set_option maxRecDepth 100000 in
theorem fX9_333 : zFld RX9 333 9 77 := ⟨_, rfl, by decide, Or.inl (List.mem_of_getElem? (i := 1509) rfl)⟩
set_option maxRecDepth 100000 in
theorem fX9_140 : zFld RX9 140 9 78 := ⟨_, rfl, by decide, Or.inl (List.mem_of_getElem? (i := 1510) rfl)⟩
set_option maxRecDepth 100000 in
theorem fX9_143 : zFld RX9 143 9 79 := ⟨_, rfl, by decide, Or.inl (List.mem_of_getElem? (i := 1511) rfl)⟩
set_option maxRecDepth 100000 in
theorem fX9_146 : zFld RX9 146 9 80 := ⟨_, rfl, by decide, Or.inl (List.mem_of_getElem? (i := 1512) rfl)⟩
set_option maxRecDepth 100000 in
theorem fX9_149 : zFld RX9 149 9 81 := ⟨_, rfl, by decide, Or.inl (List.mem_of_getElem? (i := 1513) rfl)⟩
set_option maxRecDepth 100000 in
theorem fX9_152 : zFld RX9 152 9 82 := ⟨_, rfl, by decide, Or.inl (List.mem_of_getElem? (i := 1514) rfl)⟩
set_option maxRecDepth 100000 in
theorem fX9_155 : zFld RX9 155 9 83 := ⟨_, rfl, by decide, Or.inl (List.mem_of_getElem? (i := 1515) rfl)⟩
set_option maxRecDepth 100000 in
theorem fX9_158 : zFld RX9 158 9 84 := ⟨_, rfl, by decide, Or.inl (List.mem_of_getElem? (i := 1516) rfl)⟩
set_option maxRecDepth 100000 in
theorem fX9_161 : zFld RX9 161 9 85 := ⟨_, rfl, by decide, Or.inl (List.mem_of_getElem? (i := 1517) rfl)⟩
set_option maxRecDepth 100000 in
theorem fX9_164 : zFld RX9 164 9 86 := ⟨_, rfl, by decide, Or.inl (List.mem_of_getElem? (i := 1518) rfl)⟩
set_option maxRecDepth 100000 in
theorem fX9_167 : zFld RX9 167 9 87 := ⟨_, rfl, by decide, Or.inl (List.mem_of_getElem? (i := 1519) rfl)⟩
set_option maxRecDepth 100000 in
theorem kX6_64 : Cond.constantLong RX6 64 (255) ∈ lw_tbl := (List.mem_of_getElem? (i := 627) rfl)
set_option maxRecDepth 100000 in
theorem kX6_47 : Cond.constantLong RX6 47 (32640) ∈ lw_tbl := (List.mem_of_getElem? (i := 631) rfl)
set_option maxRecDepth 100000 in
theorem kX6_53 : Cond.constantLong RX6 53 (-524288) ∈ lw_tbl := (List.mem_of_getElem? (i := 636) rfl)
set_option maxRecDepth 100000 in
theorem kX6_98 : Cond.constantLong RX6 98 (-7046029254386353131) ∈ lw_tbl := (List.mem_of_getElem? (i := 991) rfl)
set_option maxRecDepth 100000 in
theorem kX8_400 : Cond.constant RX8 400 (32768) ∈ lw_tbl := (List.mem_of_getElem? (i := 998) rfl)
set_option maxRecDepth 100000 in
theorem kX1_139 : Cond.constantLong RX1 139 (1000) ∈ lw_tbl := (List.mem_of_getElem? (i := 1040) rfl)
set_option maxRecDepth 100000 in
theorem kX1_147 : Cond.constantLong RX1 147 (1000000000) ∈ lw_tbl := (List.mem_of_getElem? (i := 1041) rfl)
set_option maxRecDepth 100000 in
theorem kX8_232 : Cond.constantLong RX8 232 (-1) ∈ lw_tbl := (List.mem_of_getElem? (i := 1181) rfl)
set_option maxRecDepth 100000 in
theorem kX8_234 : Cond.constantLong RX8 234 (1000) ∈ lw_tbl := (List.mem_of_getElem? (i := 1182) rfl)
set_option maxRecDepth 100000 in
theorem kJ6_265 : Cond.constant RJ6 265 (1431655765) ∈ lw_tbl := (List.mem_of_getElem? (i := 1254) rfl)
set_option maxRecDepth 100000 in
theorem kJ6_266 : Cond.constant RJ6 266 (858993459) ∈ lw_tbl := (List.mem_of_getElem? (i := 1255) rfl)
set_option maxRecDepth 100000 in
theorem kJ6_267 : Cond.constant RJ6 267 (252645135) ∈ lw_tbl := (List.mem_of_getElem? (i := 1256) rfl)
set_option maxRecDepth 100000 in
theorem kX0_66 : Cond.constant RX0 66 (1000000) ∈ lw_tbl := (List.mem_of_getElem? (i := 1257) rfl)
set_option maxRecDepth 100000 in
theorem kX0_78 : Cond.constantLong RX0 78 (1000) ∈ lw_tbl := (List.mem_of_getElem? (i := 1264) rfl)
set_option maxRecDepth 100000 in
theorem kX0_86 : Cond.constantLong RX0 86 (1000000) ∈ lw_tbl := (List.mem_of_getElem? (i := 1268) rfl)
set_option maxRecDepth 100000 in
theorem kX8_310 : Cond.constantLong RX8 310 (1000000000) ∈ lw_tbl := (List.mem_of_getElem? (i := 1304) rfl)
set_option maxRecDepth 100000 in
theorem kX7_47 : Cond.constant RX7 47 (1103515245) ∈ lw_tbl := (List.mem_of_getElem? (i := 1401) rfl)
set_option maxRecDepth 100000 in
theorem kX9_62 : Cond.constant RX9 62 (160000) ∈ lw_tbl := (List.mem_of_getElem? (i := 1430) rfl)
set_option maxRecDepth 100000 in
theorem kX9_66 : Cond.constant RX9 66 (65536) ∈ lw_tbl := (List.mem_of_getElem? (i := 1431) rfl)
set_option maxRecDepth 100000 in
theorem kX9_348 : Cond.constant RX9 348 (40503) ∈ lw_tbl := (List.mem_of_getElem? (i := 1831) rfl)
set_option maxRecDepth 100000 in
theorem kX9_349 : Cond.constant RX9 349 (48271) ∈ lw_tbl := (List.mem_of_getElem? (i := 1832) rfl)
set_option maxRecDepth 100000 in
theorem kX9_350 : Cond.constant RX9 350 (65535) ∈ lw_tbl := (List.mem_of_getElem? (i := 1833) rfl)
set_option maxRecDepth 100000 in
theorem kX9_370 : Cond.constantLong RX9 370 (1000) ∈ lw_tbl := (List.mem_of_getElem? (i := 1850) rfl)
set_option maxRecDepth 100000 in
theorem kX9_372 : Cond.constantLong RX9 372 (1000000000) ∈ lw_tbl := (List.mem_of_getElem? (i := 1855) rfl)
set_option maxRecDepth 100000 in
theorem kX9_433 : Cond.constantLong RX9 433 (-1) ∈ lw_tbl := (List.mem_of_getElem? (i := 1923) rfl)
set_option maxRecDepth 100000 in
theorem kX9_457 : Cond.constantLong RX9 457 (1000000) ∈ lw_tbl := (List.mem_of_getElem? (i := 1972) rfl)
set_option maxRecDepth 100000 in
theorem kX9_459 : Cond.constantLong RX9 459 (8) ∈ lw_tbl := (List.mem_of_getElem? (i := 1977) rfl)
set_option maxRecDepth 100000 in
theorem kX9_467 : Cond.constant RX9 467 (1103515245) ∈ lw_tbl := (List.mem_of_getElem? (i := 2033) rfl)
