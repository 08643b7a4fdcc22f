set_option maxRecDepth 100000 in
theorem sL_97 : zSI RL 97 yX8_init := ⟨Or.inl (List.mem_of_getElem? (i := 167) rfl), (List.mem_of_getElem? (i := 168) rfl), rfl, (List.mem_of_getElem? (i := 142) rfl)⟩
set_option maxRecDepth 100000 in
theorem pL_97 : Cond.methodLink RL 97 yX8_init ∈ lw_tbl := (List.mem_of_getElem? (i := 167) rfl)
set_option maxRecDepth 100000 in
theorem sX8_22 : zSI RX8 22 yX2_init := ⟨Or.inr ⟨"LetterTown", (List.mem_of_getElem? (i := 175) rfl)⟩, (List.mem_of_getElem? (i := 176) rfl), rfl, (List.mem_of_getElem? (i := 143) rfl)⟩
set_option maxRecDepth 100000 in
theorem sX2_11 : zSI RX2 11 yX5_init := ⟨Or.inr ⟨"LetterTown", (List.mem_of_getElem? (i := 181) rfl)⟩, (List.mem_of_getElem? (i := 182) rfl), rfl, (List.mem_of_getElem? (i := 144) rfl)⟩
set_option maxRecDepth 100000 in
theorem sX5_24 : zSV RX5 24 yX5_reset := ⟨Or.inl (List.mem_of_getElem? (i := 185) rfl), (List.mem_of_getElem? (i := 187) rfl), (List.mem_of_getElem? (i := 0) rfl), (List.mem_of_getElem? (i := 144) rfl)⟩
set_option maxRecDepth 100000 in
theorem pX5_24 : Cond.methodLink RX5 24 yX5_reset ∈ lw_tbl := (List.mem_of_getElem? (i := 185) rfl)
set_option maxRecDepth 100000 in
theorem sX5_31 : zSS RX5 31 yJ7_fill_53178 := ⟨Or.inl (List.mem_of_getElem? (i := 189) rfl), (List.mem_of_getElem? (i := 190) rfl), (List.mem_of_getElem? (i := 145) rfl)⟩
set_option maxRecDepth 100000 in
theorem pX5_31 : Cond.methodLink RX5 31 yJ7_fill_53178 ∈ lw_tbl := (List.mem_of_getElem? (i := 189) rfl)
set_option maxRecDepth 100000 in
theorem sX8_31 : zSI RX8 31 yX5_init := ⟨Or.inr ⟨"LetterTown", (List.mem_of_getElem? (i := 320) rfl)⟩, (List.mem_of_getElem? (i := 182) rfl), rfl, (List.mem_of_getElem? (i := 144) rfl)⟩
set_option maxRecDepth 100000 in
theorem sX8_41 : zSI RX8 41 yX1_init := ⟨Or.inr ⟨"LetterTown", (List.mem_of_getElem? (i := 323) rfl)⟩, (List.mem_of_getElem? (i := 324) rfl), rfl, (List.mem_of_getElem? (i := 146) rfl)⟩
set_option maxRecDepth 100000 in
theorem sX1_11 : zSI RX1 11 yX5_init := ⟨Or.inr ⟨"LetterTown", (List.mem_of_getElem? (i := 328) rfl)⟩, (List.mem_of_getElem? (i := 182) rfl), rfl, (List.mem_of_getElem? (i := 144) rfl)⟩
set_option maxRecDepth 100000 in
theorem sX1_31 : zSI RX1 31 yX6_init := ⟨Or.inr ⟨"LetterTown", (List.mem_of_getElem? (i := 331) rfl)⟩, (List.mem_of_getElem? (i := 332) rfl), rfl, (List.mem_of_getElem? (i := 147) rfl)⟩
set_option maxRecDepth 100000 in
theorem sX8_50 : zSI RX8 50 yX3_init := ⟨Or.inr ⟨"LetterTown", (List.mem_of_getElem? (i := 423) rfl)⟩, (List.mem_of_getElem? (i := 424) rfl), rfl, (List.mem_of_getElem? (i := 148) rfl)⟩
set_option maxRecDepth 100000 in
theorem sX8_57 : zSI RX8 57 yX0_init := ⟨Or.inr ⟨"LetterTown", (List.mem_of_getElem? (i := 451) rfl)⟩, (List.mem_of_getElem? (i := 452) rfl), rfl, (List.mem_of_getElem? (i := 149) rfl)⟩
set_option maxRecDepth 100000 in
theorem sX0_27 : zSS RX0 27 yJ7_fill_53178 := ⟨Or.inl (List.mem_of_getElem? (i := 455) rfl), (List.mem_of_getElem? (i := 190) rfl), (List.mem_of_getElem? (i := 145) rfl)⟩
set_option maxRecDepth 100000 in
theorem pX0_27 : Cond.methodLink RX0 27 yJ7_fill_53178 ∈ lw_tbl := (List.mem_of_getElem? (i := 455) rfl)
set_option maxRecDepth 100000 in
theorem sX8_64 : zSI RX8 64 yX4_init := ⟨Or.inr ⟨"LetterTown", (List.mem_of_getElem? (i := 474) rfl)⟩, (List.mem_of_getElem? (i := 475) rfl), rfl, (List.mem_of_getElem? (i := 150) rfl)⟩
set_option maxRecDepth 100000 in
theorem sX8_78 : zSI RX8 78 yX7_init := ⟨Or.inr ⟨"LetterTown", (List.mem_of_getElem? (i := 510) rfl)⟩, (List.mem_of_getElem? (i := 511) rfl), rfl, (List.mem_of_getElem? (i := 151) rfl)⟩
set_option maxRecDepth 100000 in
theorem sL_101 : zSV RL 101 yX8_feed := ⟨Or.inl (List.mem_of_getElem? (i := 595) rfl), (List.mem_of_getElem? (i := 596) rfl), (List.mem_of_getElem? (i := 597) rfl), (List.mem_of_getElem? (i := 142) rfl)⟩
set_option maxRecDepth 100000 in
theorem pL_101 : Cond.methodLink RL 101 yX8_feed ∈ lw_tbl := (List.mem_of_getElem? (i := 595) rfl)
set_option maxRecDepth 100000 in
theorem sX8_89 : zSV RX8 89 yX8_putBytes := ⟨Or.inl (List.mem_of_getElem? (i := 599) rfl), (List.mem_of_getElem? (i := 601) rfl), (List.mem_of_getElem? (i := 1) rfl), (List.mem_of_getElem? (i := 142) rfl)⟩
set_option maxRecDepth 100000 in
theorem pX8_89 : Cond.methodLink RX8 89 yX8_putBytes ∈ lw_tbl := (List.mem_of_getElem? (i := 599) rfl)
set_option maxRecDepth 100000 in
theorem sL_115 : zSV RL 115 yX8_fault := ⟨Or.inl (List.mem_of_getElem? (i := 603) rfl), (List.mem_of_getElem? (i := 604) rfl), (List.mem_of_getElem? (i := 605) rfl), (List.mem_of_getElem? (i := 142) rfl)⟩
set_option maxRecDepth 100000 in
theorem pL_115 : Cond.methodLink RL 115 yX8_fault ∈ lw_tbl := (List.mem_of_getElem? (i := 603) rfl)
set_option maxRecDepth 100000 in
theorem sL_155 : zSV RL 155 yX8_judge := ⟨Or.inl (List.mem_of_getElem? (i := 607) rfl), (List.mem_of_getElem? (i := 608) rfl), (List.mem_of_getElem? (i := 609) rfl), (List.mem_of_getElem? (i := 142) rfl)⟩
set_option maxRecDepth 100000 in
theorem pL_155 : Cond.methodLink RL 155 yX8_judge ∈ lw_tbl := (List.mem_of_getElem? (i := 607) rfl)
set_option maxRecDepth 100000 in
theorem sX8_243 : zSV RX8 243 yX3_firstWrong := ⟨Or.inr ⟨"LetterTown", (List.mem_of_getElem? (i := 611) rfl)⟩, (List.mem_of_getElem? (i := 613) rfl), (List.mem_of_getElem? (i := 2) rfl), (List.mem_of_getElem? (i := 148) rfl)⟩
set_option maxRecDepth 100000 in
theorem sX3_39 : zSS RX3 39 yX6_firstKey := ⟨Or.inr ⟨"LetterTown", (List.mem_of_getElem? (i := 615) rfl)⟩, (List.mem_of_getElem? (i := 616) rfl), (List.mem_of_getElem? (i := 147) rfl)⟩
set_option maxRecDepth 100000 in
theorem sX3_45 : zSS RX3 45 yX6_maySendTo := ⟨Or.inr ⟨"LetterTown", (List.mem_of_getElem? (i := 618) rfl)⟩, (List.mem_of_getElem? (i := 619) rfl), (List.mem_of_getElem? (i := 147) rfl)⟩
set_option maxRecDepth 100000 in
theorem sX6_44 : zSS RX6 44 yX6_handOf := ⟨Or.inl (List.mem_of_getElem? (i := 621) rfl), (List.mem_of_getElem? (i := 622) rfl), (List.mem_of_getElem? (i := 147) rfl)⟩
set_option maxRecDepth 100000 in
theorem pX6_44 : Cond.methodLink RX6 44 yX6_handOf ∈ lw_tbl := (List.mem_of_getElem? (i := 621) rfl)
set_option maxRecDepth 100000 in
theorem sX6_40 : zSS RX6 40 yX6_whoOf := ⟨Or.inl (List.mem_of_getElem? (i := 624) rfl), (List.mem_of_getElem? (i := 625) rfl), (List.mem_of_getElem? (i := 147) rfl)⟩
set_option maxRecDepth 100000 in
theorem pX6_40 : Cond.methodLink RX6 40 yX6_whoOf ∈ lw_tbl := (List.mem_of_getElem? (i := 624) rfl)
set_option maxRecDepth 100000 in
theorem sX3_49 : zSS RX3 49 yX6_keyBehind := ⟨Or.inr ⟨"LetterTown", (List.mem_of_getElem? (i := 628) rfl)⟩, (List.mem_of_getElem? (i := 629) rfl), (List.mem_of_getElem? (i := 147) rfl)⟩
set_option maxRecDepth 100000 in
theorem sX6_49 : zSV RX6 49 yX5_countsSent := ⟨Or.inr ⟨"LetterTown", (List.mem_of_getElem? (i := 632) rfl)⟩, (List.mem_of_getElem? (i := 634) rfl), (List.mem_of_getElem? (i := 3) rfl), (List.mem_of_getElem? (i := 144) rfl)⟩
set_option maxRecDepth 100000 in
theorem sL_163 : zSV RL 163 yX8_ended := ⟨Or.inl (List.mem_of_getElem? (i := 637) rfl), (List.mem_of_getElem? (i := 638) rfl), (List.mem_of_getElem? (i := 639) rfl), (List.mem_of_getElem? (i := 142) rfl)⟩
set_option maxRecDepth 100000 in
theorem pL_163 : Cond.methodLink RL 163 yX8_ended ∈ lw_tbl := (List.mem_of_getElem? (i := 637) rfl)
set_option maxRecDepth 100000 in
theorem sX8_257 : zSV RX8 257 yX3_end := ⟨Or.inr ⟨"LetterTown", (List.mem_of_getElem? (i := 641) rfl)⟩, (List.mem_of_getElem? (i := 643) rfl), (List.mem_of_getElem? (i := 4) rfl), (List.mem_of_getElem? (i := 148) rfl)⟩
set_option maxRecDepth 100000 in
theorem sL_205 : zSV RL 205 yX8_image := ⟨Or.inl (List.mem_of_getElem? (i := 648) rfl), (List.mem_of_getElem? (i := 649) rfl), (List.mem_of_getElem? (i := 650) rfl), (List.mem_of_getElem? (i := 142) rfl)⟩
set_option maxRecDepth 100000 in
theorem pL_205 : Cond.methodLink RL 205 yX8_image ∈ lw_tbl := (List.mem_of_getElem? (i := 648) rfl)
set_option maxRecDepth 100000 in
theorem sX8_373 : zSV RX8 373 yX7_copy := ⟨Or.inr ⟨"LetterTown", (List.mem_of_getElem? (i := 652) rfl)⟩, (List.mem_of_getElem? (i := 654) rfl), (List.mem_of_getElem? (i := 5) rfl), (List.mem_of_getElem? (i := 151) rfl)⟩
set_option maxRecDepth 100000 in
theorem sL_210 : zSV RL 210 yX8_restore := ⟨Or.inl (List.mem_of_getElem? (i := 657) rfl), (List.mem_of_getElem? (i := 658) rfl), (List.mem_of_getElem? (i := 659) rfl), (List.mem_of_getElem? (i := 142) rfl)⟩
set_option maxRecDepth 100000 in
theorem pL_210 : Cond.methodLink RL 210 yX8_restore ∈ lw_tbl := (List.mem_of_getElem? (i := 657) rfl)
set_option maxRecDepth 100000 in
theorem sL_106 : zSS RL 106 yL_town := ⟨Or.inl (List.mem_of_getElem? (i := 661) rfl), (List.mem_of_getElem? (i := 662) rfl), (List.mem_of_getElem? (i := 141) rfl)⟩
set_option maxRecDepth 100000 in
theorem pL_106 : Cond.methodLink RL 106 yL_town ∈ lw_tbl := (List.mem_of_getElem? (i := 661) rfl)
set_option maxRecDepth 100000 in
theorem sL_7 : zSV RL 7 yX8_town := ⟨Or.inl (List.mem_of_getElem? (i := 665) rfl), (List.mem_of_getElem? (i := 666) rfl), (List.mem_of_getElem? (i := 667) rfl), (List.mem_of_getElem? (i := 142) rfl)⟩
set_option maxRecDepth 100000 in
theorem pL_7 : Cond.methodLink RL 7 yX8_town ∈ lw_tbl := (List.mem_of_getElem? (i := 665) rfl)
set_option maxRecDepth 100000 in
theorem sX8_100 : zSV RX8 100 yX2_read := ⟨Or.inr ⟨"LetterTown", (List.mem_of_getElem? (i := 736) rfl)⟩, (List.mem_of_getElem? (i := 738) rfl), (List.mem_of_getElem? (i := 7) rfl), (List.mem_of_getElem? (i := 143) rfl)⟩
set_option maxRecDepth 100000 in
theorem sX2_22 : zSV RX2 22 yX5_reset := ⟨Or.inr ⟨"LetterTown", (List.mem_of_getElem? (i := 740) rfl)⟩, (List.mem_of_getElem? (i := 187) rfl), (List.mem_of_getElem? (i := 0) rfl), (List.mem_of_getElem? (i := 144) rfl)⟩
set_option maxRecDepth 100000 in
theorem sX2_25 : zSS RX2 25 yJ9_min_7cf53 := ⟨Or.inl (List.mem_of_getElem? (i := 741) rfl), (List.mem_of_getElem? (i := 742) rfl), (List.mem_of_getElem? (i := 157) rfl)⟩
set_option maxRecDepth 100000 in
theorem pX2_25 : Cond.methodLink RX2 25 yJ9_min_7cf53 ∈ lw_tbl := (List.mem_of_getElem? (i := 741) rfl)
set_option maxRecDepth 100000 in
theorem sX2_47 : zSV RX2 47 yX2_takeToken := ⟨Or.inl (List.mem_of_getElem? (i := 744) rfl), (List.mem_of_getElem? (i := 746) rfl), (List.mem_of_getElem? (i := 8) rfl), (List.mem_of_getElem? (i := 143) rfl)⟩
set_option maxRecDepth 100000 in
theorem pX2_47 : Cond.methodLink RX2 47 yX2_takeToken ∈ lw_tbl := (List.mem_of_getElem? (i := 744) rfl)
set_option maxRecDepth 100000 in
theorem sX2_60 : zSS RX2 60 yX2_isLetter := ⟨Or.inl (List.mem_of_getElem? (i := 748) rfl), (List.mem_of_getElem? (i := 749) rfl), (List.mem_of_getElem? (i := 143) rfl)⟩
set_option maxRecDepth 100000 in
theorem pX2_60 : Cond.methodLink RX2 60 yX2_isLetter ∈ lw_tbl := (List.mem_of_getElem? (i := 748) rfl)
set_option maxRecDepth 100000 in
theorem sX2_64 : zSS RX2 64 yX2_isDigit := ⟨Or.inl (List.mem_of_getElem? (i := 751) rfl), (List.mem_of_getElem? (i := 752) rfl), (List.mem_of_getElem? (i := 143) rfl)⟩
set_option maxRecDepth 100000 in
theorem pX2_64 : Cond.methodLink RX2 64 yX2_isDigit ∈ lw_tbl := (List.mem_of_getElem? (i := 751) rfl)
set_option maxRecDepth 100000 in
theorem sX2_53 : zSV RX2 53 yX2_readLine := ⟨Or.inl (List.mem_of_getElem? (i := 754) rfl), (List.mem_of_getElem? (i := 756) rfl), (List.mem_of_getElem? (i := 9) rfl), (List.mem_of_getElem? (i := 143) rfl)⟩
set_option maxRecDepth 100000 in
theorem pX2_53 : Cond.methodLink RX2 53 yX2_readLine ∈ lw_tbl := (List.mem_of_getElem? (i := 754) rfl)
set_option maxRecDepth 100000 in
theorem sX2_84 : zSV RX2 84 yX2_isWord := ⟨Or.inl (List.mem_of_getElem? (i := 759) rfl), (List.mem_of_getElem? (i := 761) rfl), (List.mem_of_getElem? (i := 10) rfl), (List.mem_of_getElem? (i := 143) rfl)⟩
set_option maxRecDepth 100000 in
theorem pX2_84 : Cond.methodLink RX2 84 yX2_isWord ∈ lw_tbl := (List.mem_of_getElem? (i := 759) rfl)
set_option maxRecDepth 100000 in
theorem sX2_73 : zSV RX2 73 yJ0_length_8abf5 := ⟨Or.inl (List.mem_of_getElem? (i := 763) rfl), (List.mem_of_getElem? (i := 764) rfl), (List.mem_of_getElem? (i := 765) rfl), (List.mem_of_getElem? (i := 158) rfl)⟩
set_option maxRecDepth 100000 in
theorem pX2_73 : Cond.methodLink RX2 73 yJ0_length_8abf5 ∈ lw_tbl := (List.mem_of_getElem? (i := 763) rfl)
set_option maxRecDepth 100000 in
theorem sJ0_335 : zSV RJ0 335 yJ0_coder_7d493 := ⟨Or.inl (List.mem_of_getElem? (i := 767) rfl), (List.mem_of_getElem? (i := 768) rfl), (List.mem_of_getElem? (i := 769) rfl), (List.mem_of_getElem? (i := 158) rfl)⟩
set_option maxRecDepth 100000 in
theorem pJ0_335 : Cond.methodLink RJ0 335 yJ0_coder_7d493 ∈ lw_tbl := (List.mem_of_getElem? (i := 767) rfl)
set_option maxRecDepth 100000 in
theorem sX2_78 : zSV RX2 78 yJ0_charAt_5068e := ⟨Or.inl (List.mem_of_getElem? (i := 773) rfl), (List.mem_of_getElem? (i := 774) rfl), (List.mem_of_getElem? (i := 775) rfl), (List.mem_of_getElem? (i := 158) rfl)⟩
set_option maxRecDepth 100000 in
theorem pX2_78 : Cond.methodLink RX2 78 yJ0_charAt_5068e ∈ lw_tbl := (List.mem_of_getElem? (i := 773) rfl)
set_option maxRecDepth 100000 in
theorem sJ0_492 : zSV RJ0 492 yJ0_isLatin1_aae02 := ⟨Or.inl (List.mem_of_getElem? (i := 777) rfl), (List.mem_of_getElem? (i := 778) rfl), (List.mem_of_getElem? (i := 779) rfl), (List.mem_of_getElem? (i := 158) rfl)⟩
set_option maxRecDepth 100000 in
theorem pJ0_492 : Cond.methodLink RJ0 492 yJ0_isLatin1_aae02 ∈ lw_tbl := (List.mem_of_getElem? (i := 777) rfl)
set_option maxRecDepth 100000 in
theorem sJ0_495 : zSS RJ0 495 yJ1_charAt_3b067 := ⟨Or.inl (List.mem_of_getElem? (i := 781) rfl), (List.mem_of_getElem? (i := 782) rfl), (List.mem_of_getElem? (i := 159) rfl)⟩
set_option maxRecDepth 100000 in
theorem pJ0_495 : Cond.methodLink RJ0 495 yJ1_charAt_3b067 ∈ lw_tbl := (List.mem_of_getElem? (i := 781) rfl)
set_option maxRecDepth 100000 in
theorem sJ1_9 : zSS RJ1 9 yJ0_checkIndex_df160 := ⟨Or.inl (List.mem_of_getElem? (i := 784) rfl), (List.mem_of_getElem? (i := 785) rfl), (List.mem_of_getElem? (i := 158) rfl)⟩
set_option maxRecDepth 100000 in
theorem pJ1_9 : Cond.methodLink RJ1 9 yJ0_checkIndex_df160 ∈ lw_tbl := (List.mem_of_getElem? (i := 784) rfl)
set_option maxRecDepth 100000 in
theorem sJ0_1059 : zSS RJ0 1059 yJ3_checkIndex_8e157 := ⟨Or.inl (List.mem_of_getElem? (i := 789) rfl), (List.mem_of_getElem? (i := 790) rfl), (List.mem_of_getElem? (i := 160) rfl)⟩
set_option maxRecDepth 100000 in
theorem pJ0_1059 : Cond.methodLink RJ0 1059 yJ3_checkIndex_8e157 ∈ lw_tbl := (List.mem_of_getElem? (i := 789) rfl)
set_option maxRecDepth 100000 in
theorem sJ0_498 : zSS RJ0 498 yJ2_charAt_3b067 := ⟨Or.inl (List.mem_of_getElem? (i := 792) rfl), (List.mem_of_getElem? (i := 793) rfl), (List.mem_of_getElem? (i := 161) rfl)⟩
set_option maxRecDepth 100000 in
theorem pJ0_498 : Cond.methodLink RJ0 498 yJ2_charAt_3b067 ∈ lw_tbl := (List.mem_of_getElem? (i := 792) rfl)
set_option maxRecDepth 100000 in
theorem sJ2_67 : zSS RJ2 67 yJ2_checkIndex_2214a := ⟨Or.inl (List.mem_of_getElem? (i := 795) rfl), (List.mem_of_getElem? (i := 796) rfl), (List.mem_of_getElem? (i := 161) rfl)⟩
set_option maxRecDepth 100000 in
theorem pJ2_67 : Cond.methodLink RJ2 67 yJ2_checkIndex_2214a ∈ lw_tbl := (List.mem_of_getElem? (i := 795) rfl)
set_option maxRecDepth 100000 in
theorem sJ2_48 : zSS RJ2 48 yJ2_length_9d52b := ⟨Or.inl (List.mem_of_getElem? (i := 798) rfl), (List.mem_of_getElem? (i := 799) rfl), (List.mem_of_getElem? (i := 161) rfl)⟩
set_option maxRecDepth 100000 in
theorem pJ2_48 : Cond.methodLink RJ2 48 yJ2_length_9d52b ∈ lw_tbl := (List.mem_of_getElem? (i := 798) rfl)
set_option maxRecDepth 100000 in
theorem sJ2_414 : zSS RJ2 414 yJ0_checkIndex_df160 := ⟨Or.inl (List.mem_of_getElem? (i := 801) rfl), (List.mem_of_getElem? (i := 785) rfl), (List.mem_of_getElem? (i := 158) rfl)⟩
set_option maxRecDepth 100000 in
theorem pJ2_414 : Cond.methodLink RJ2 414 yJ0_checkIndex_df160 ∈ lw_tbl := (List.mem_of_getElem? (i := 801) rfl)
set_option maxRecDepth 100000 in
theorem sJ2_71 : zSS RJ2 71 yJ2_getChar_3b067 := ⟨Or.inl (List.mem_of_getElem? (i := 802) rfl), (List.mem_of_getElem? (i := 803) rfl), (List.mem_of_getElem? (i := 161) rfl)⟩
set_option maxRecDepth 100000 in
theorem pJ2_71 : Cond.methodLink RJ2 71 yJ2_getChar_3b067 ∈ lw_tbl := (List.mem_of_getElem? (i := 802) rfl)
set_option maxRecDepth 100000 in
theorem sX2_88 : zSV RX2 88 yX2_readPerson := ⟨Or.inl (List.mem_of_getElem? (i := 811) rfl), (List.mem_of_getElem? (i := 813) rfl), (List.mem_of_getElem? (i := 11) rfl), (List.mem_of_getElem? (i := 143) rfl)⟩
set_option maxRecDepth 100000 in
theorem pX2_88 : Cond.methodLink RX2 88 yX2_readPerson ∈ lw_tbl := (List.mem_of_getElem? (i := 811) rfl)
set_option maxRecDepth 100000 in
theorem sX2_119 : zSV RX2 119 yX2_refuse := ⟨Or.inl (List.mem_of_getElem? (i := 815) rfl), (List.mem_of_getElem? (i := 817) rfl), (List.mem_of_getElem? (i := 12) rfl), (List.mem_of_getElem? (i := 143) rfl)⟩
set_option maxRecDepth 100000 in
theorem pX2_119 : Cond.methodLink RX2 119 yX2_refuse ∈ lw_tbl := (List.mem_of_getElem? (i := 815) rfl)
set_option maxRecDepth 100000 in
theorem sX2_129 : zSV RX2 129 yX2_sortOfWord := ⟨Or.inl (List.mem_of_getElem? (i := 819) rfl), (List.mem_of_getElem? (i := 821) rfl), (List.mem_of_getElem? (i := 13) rfl), (List.mem_of_getElem? (i := 143) rfl)⟩
set_option maxRecDepth 100000 in
theorem pX2_129 : Cond.methodLink RX2 129 yX2_sortOfWord ∈ lw_tbl := (List.mem_of_getElem? (i := 819) rfl)
set_option maxRecDepth 100000 in
theorem sX2_122 : zSV RX2 122 yX2_readNumber := ⟨Or.inl (List.mem_of_getElem? (i := 827) rfl), (List.mem_of_getElem? (i := 829) rfl), (List.mem_of_getElem? (i := 14) rfl), (List.mem_of_getElem? (i := 143) rfl)⟩
set_option maxRecDepth 100000 in
theorem pX2_122 : Cond.methodLink RX2 122 yX2_readNumber ∈ lw_tbl := (List.mem_of_getElem? (i := 827) rfl)
set_option maxRecDepth 100000 in
theorem sX2_134 : zSV RX2 134 yX2_readPerhaps := ⟨Or.inl (List.mem_of_getElem? (i := 832) rfl), (List.mem_of_getElem? (i := 834) rfl), (List.mem_of_getElem? (i := 15) rfl), (List.mem_of_getElem? (i := 143) rfl)⟩
set_option maxRecDepth 100000 in
theorem pX2_134 : Cond.methodLink RX2 134 yX2_readPerhaps ∈ lw_tbl := (List.mem_of_getElem? (i := 832) rfl)
set_option maxRecDepth 100000 in
theorem sX2_144 : zSV RX2 144 yX2_isClosed := ⟨Or.inl (List.mem_of_getElem? (i := 836) rfl), (List.mem_of_getElem? (i := 838) rfl), (List.mem_of_getElem? (i := 16) rfl), (List.mem_of_getElem? (i := 143) rfl)⟩
set_option maxRecDepth 100000 in
theorem pX2_144 : Cond.methodLink RX2 144 yX2_isClosed ∈ lw_tbl := (List.mem_of_getElem? (i := 836) rfl)
set_option maxRecDepth 100000 in
theorem sX2_93 : zSV RX2 93 yX2_readKnows := ⟨Or.inl (List.mem_of_getElem? (i := 841) rfl), (List.mem_of_getElem? (i := 843) rfl), (List.mem_of_getElem? (i := 17) rfl), (List.mem_of_getElem? (i := 143) rfl)⟩
set_option maxRecDepth 100000 in
theorem pX2_93 : Cond.methodLink RX2 93 yX2_readKnows ∈ lw_tbl := (List.mem_of_getElem? (i := 841) rfl)
set_option maxRecDepth 100000 in
theorem sX2_155 : zSV RX2 155 yX2_readKnown := ⟨Or.inl (List.mem_of_getElem? (i := 845) rfl), (List.mem_of_getElem? (i := 847) rfl), (List.mem_of_getElem? (i := 18) rfl), (List.mem_of_getElem? (i := 143) rfl)⟩
set_option maxRecDepth 100000 in
theorem pX2_155 : Cond.methodLink RX2 155 yX2_readKnown ∈ lw_tbl := (List.mem_of_getElem? (i := 845) rfl)
set_option maxRecDepth 100000 in
theorem sX2_98 : zSV RX2 98 yX2_tellOnce := ⟨Or.inl (List.mem_of_getElem? (i := 851) rfl), (List.mem_of_getElem? (i := 853) rfl), (List.mem_of_getElem? (i := 19) rfl), (List.mem_of_getElem? (i := 143) rfl)⟩
set_option maxRecDepth 100000 in
theorem pX2_98 : Cond.methodLink RX2 98 yX2_tellOnce ∈ lw_tbl := (List.mem_of_getElem? (i := 851) rfl)
set_option maxRecDepth 100000 in
theorem sX2_101 : zSV RX2 101 yX2_readLetter := ⟨Or.inl (List.mem_of_getElem? (i := 855) rfl), (List.mem_of_getElem? (i := 857) rfl), (List.mem_of_getElem? (i := 20) rfl), (List.mem_of_getElem? (i := 143) rfl)⟩
set_option maxRecDepth 100000 in
theorem pX2_101 : Cond.methodLink RX2 101 yX2_readLetter ∈ lw_tbl := (List.mem_of_getElem? (i := 855) rfl)
set_option maxRecDepth 100000 in
theorem sX2_106 : zSV RX2 106 yX2_readLaw := ⟨Or.inl (List.mem_of_getElem? (i := 862) rfl), (List.mem_of_getElem? (i := 864) rfl), (List.mem_of_getElem? (i := 21) rfl), (List.mem_of_getElem? (i := 143) rfl)⟩
set_option maxRecDepth 100000 in
theorem pX2_106 : Cond.methodLink RX2 106 yX2_readLaw ∈ lw_tbl := (List.mem_of_getElem? (i := 862) rfl)
set_option maxRecDepth 100000 in
theorem sX2_111 : zSV RX2 111 yX2_readWax := ⟨Or.inl (List.mem_of_getElem? (i := 870) rfl), (List.mem_of_getElem? (i := 872) rfl), (List.mem_of_getElem? (i := 22) rfl), (List.mem_of_getElem? (i := 143) rfl)⟩
set_option maxRecDepth 100000 in
theorem pX2_111 : Cond.methodLink RX2 111 yX2_readWax ∈ lw_tbl := (List.mem_of_getElem? (i := 870) rfl)
set_option maxRecDepth 100000 in
theorem sX2_116 : zSV RX2 116 yX2_readFirst := ⟨Or.inl (List.mem_of_getElem? (i := 875) rfl), (List.mem_of_getElem? (i := 877) rfl), (List.mem_of_getElem? (i := 23) rfl), (List.mem_of_getElem? (i := 143) rfl)⟩
set_option maxRecDepth 100000 in
theorem pX2_116 : Cond.methodLink RX2 116 yX2_readFirst ∈ lw_tbl := (List.mem_of_getElem? (i := 875) rfl)
set_option maxRecDepth 100000 in
theorem sX8_110 : zSV RX8 110 yX5_copy := ⟨Or.inr ⟨"LetterTown", (List.mem_of_getElem? (i := 879) rfl)⟩, (List.mem_of_getElem? (i := 881) rfl), (List.mem_of_getElem? (i := 24) rfl), (List.mem_of_getElem? (i := 144) rfl)⟩
set_option maxRecDepth 100000 in
theorem sX8_114 : zSV RX8 114 yX8_startAnew := ⟨Or.inl (List.mem_of_getElem? (i := 884) rfl), (List.mem_of_getElem? (i := 886) rfl), (List.mem_of_getElem? (i := 25) rfl), (List.mem_of_getElem? (i := 142) rfl)⟩
set_option maxRecDepth 100000 in
theorem pX8_114 : Cond.methodLink RX8 114 yX8_startAnew ∈ lw_tbl := (List.mem_of_getElem? (i := 884) rfl)
set_option maxRecDepth 100000 in
theorem sX8_376 : zSV RX8 376 yX3_clear := ⟨Or.inr ⟨"LetterTown", (List.mem_of_getElem? (i := 888) rfl)⟩, (List.mem_of_getElem? (i := 890) rfl), (List.mem_of_getElem? (i := 26) rfl), (List.mem_of_getElem? (i := 148) rfl)⟩
set_option maxRecDepth 100000 in
theorem sX8_379 : zSV RX8 379 yX0_clear := ⟨Or.inr ⟨"LetterTown", (List.mem_of_getElem? (i := 892) rfl)⟩, (List.mem_of_getElem? (i := 894) rfl), (List.mem_of_getElem? (i := 27) rfl), (List.mem_of_getElem? (i := 149) rfl)⟩
set_option maxRecDepth 100000 in
theorem sX8_380 : zSV RX8 380 yX4_clear := ⟨Or.inr ⟨"LetterTown", (List.mem_of_getElem? (i := 896) rfl)⟩, (List.mem_of_getElem? (i := 898) rfl), (List.mem_of_getElem? (i := 28) rfl), (List.mem_of_getElem? (i := 150) rfl)⟩
set_option maxRecDepth 100000 in
theorem sX8_381 : zSV RX8 381 yX7_clear := ⟨Or.inr ⟨"LetterTown", (List.mem_of_getElem? (i := 900) rfl)⟩, (List.mem_of_getElem? (i := 902) rfl), (List.mem_of_getElem? (i := 29) rfl), (List.mem_of_getElem? (i := 151) rfl)⟩
set_option maxRecDepth 100000 in
theorem sX8_382 : zSV RX8 382 yX1_forget := ⟨Or.inr ⟨"LetterTown", (List.mem_of_getElem? (i := 904) rfl)⟩, (List.mem_of_getElem? (i := 906) rfl), (List.mem_of_getElem? (i := 30) rfl), (List.mem_of_getElem? (i := 146) rfl)⟩
set_option maxRecDepth 100000 in
theorem sX1_57 : zSV RX1 57 yX6_forget := ⟨Or.inr ⟨"LetterTown", (List.mem_of_getElem? (i := 908) rfl)⟩, (List.mem_of_getElem? (i := 910) rfl), (List.mem_of_getElem? (i := 31) rfl), (List.mem_of_getElem? (i := 147) rfl)⟩
set_option maxRecDepth 100000 in
theorem sL_119 : zSS RL 119 yL_count := ⟨Or.inl (List.mem_of_getElem? (i := 912) rfl), (List.mem_of_getElem? (i := 913) rfl), (List.mem_of_getElem? (i := 141) rfl)⟩
set_option maxRecDepth 100000 in
theorem pL_119 : Cond.methodLink RL 119 yL_count ∈ lw_tbl := (List.mem_of_getElem? (i := 912) rfl)
set_option maxRecDepth 100000 in
theorem sL_15 : zSV RL 15 yX8_count := ⟨Or.inl (List.mem_of_getElem? (i := 916) rfl), (List.mem_of_getElem? (i := 917) rfl), (List.mem_of_getElem? (i := 918) rfl), (List.mem_of_getElem? (i := 142) rfl)⟩
set_option maxRecDepth 100000 in
theorem pL_15 : Cond.methodLink RL 15 yX8_count ∈ lw_tbl := (List.mem_of_getElem? (i := 916) rfl)
set_option maxRecDepth 100000 in
theorem sL_122 : zSS RL 122 yL_person := ⟨Or.inl (List.mem_of_getElem? (i := 936) rfl), (List.mem_of_getElem? (i := 937) rfl), (List.mem_of_getElem? (i := 141) rfl)⟩
set_option maxRecDepth 100000 in
theorem pL_122 : Cond.methodLink RL 122 yL_person ∈ lw_tbl := (List.mem_of_getElem? (i := 936) rfl)
set_option maxRecDepth 100000 in
theorem sL_20 : zSV RL 20 yX8_person := ⟨Or.inl (List.mem_of_getElem? (i := 939) rfl), (List.mem_of_getElem? (i := 940) rfl), (List.mem_of_getElem? (i := 941) rfl), (List.mem_of_getElem? (i := 142) rfl)⟩
set_option maxRecDepth 100000 in
theorem pL_20 : Cond.methodLink RL 20 yX8_person ∈ lw_tbl := (List.mem_of_getElem? (i := 939) rfl)
set_option maxRecDepth 100000 in
theorem sX8_158 : zSV RX8 158 yX8_needPerson := ⟨Or.inl (List.mem_of_getElem? (i := 943) rfl), (List.mem_of_getElem? (i := 945) rfl), (List.mem_of_getElem? (i := 32) rfl), (List.mem_of_getElem? (i := 142) rfl)⟩
set_option maxRecDepth 100000 in
theorem pX8_158 : Cond.methodLink RX8 158 yX8_needPerson ∈ lw_tbl := (List.mem_of_getElem? (i := 943) rfl)
set_option maxRecDepth 100000 in
theorem sX8_161 : zSV RX8 161 yX8_needWhat := ⟨Or.inl (List.mem_of_getElem? (i := 948) rfl), (List.mem_of_getElem? (i := 950) rfl), (List.mem_of_getElem? (i := 33) rfl), (List.mem_of_getElem? (i := 142) rfl)⟩
set_option maxRecDepth 100000 in
theorem pX8_161 : Cond.methodLink RX8 161 yX8_needWhat ∈ lw_tbl := (List.mem_of_getElem? (i := 948) rfl)
set_option maxRecDepth 100000 in
theorem sL_126 : zSS RL 126 yL_weight := ⟨Or.inl (List.mem_of_getElem? (i := 953) rfl), (List.mem_of_getElem? (i := 954) rfl), (List.mem_of_getElem? (i := 141) rfl)⟩
set_option maxRecDepth 100000 in
theorem pL_126 : Cond.methodLink RL 126 yL_weight ∈ lw_tbl := (List.mem_of_getElem? (i := 953) rfl)
set_option maxRecDepth 100000 in
theorem sL_24 : zSV RL 24 yX8_weight := ⟨Or.inl (List.mem_of_getElem? (i := 956) rfl), (List.mem_of_getElem? (i := 957) rfl), (List.mem_of_getElem? (i := 958) rfl), (List.mem_of_getElem? (i := 142) rfl)⟩
set_option maxRecDepth 100000 in
theorem pL_24 : Cond.methodLink RL 24 yX8_weight ∈ lw_tbl := (List.mem_of_getElem? (i := 956) rfl)
set_option maxRecDepth 100000 in
theorem sL_129 : zSS RL 129 yL_opened := ⟨Or.inl (List.mem_of_getElem? (i := 960) rfl), (List.mem_of_getElem? (i := 961) rfl), (List.mem_of_getElem? (i := 141) rfl)⟩
set_option maxRecDepth 100000 in
theorem pL_129 : Cond.methodLink RL 129 yL_opened ∈ lw_tbl := (List.mem_of_getElem? (i := 960) rfl)
set_option maxRecDepth 100000 in
theorem sL_27 : zSV RL 27 yX8_opened := ⟨Or.inl (List.mem_of_getElem? (i := 963) rfl), (List.mem_of_getElem? (i := 964) rfl), (List.mem_of_getElem? (i := 965) rfl), (List.mem_of_getElem? (i := 142) rfl)⟩
set_option maxRecDepth 100000 in
theorem pL_27 : Cond.methodLink RL 27 yX8_opened ∈ lw_tbl := (List.mem_of_getElem? (i := 963) rfl)
set_option maxRecDepth 100000 in
theorem sX8_178 : zSV RX8 178 yX8_playAsked := ⟨Or.inl (List.mem_of_getElem? (i := 968) rfl), (List.mem_of_getElem? (i := 970) rfl), (List.mem_of_getElem? (i := 34) rfl), (List.mem_of_getElem? (i := 142) rfl)⟩
set_option maxRecDepth 100000 in
theorem pX8_178 : Cond.methodLink RX8 178 yX8_playAsked ∈ lw_tbl := (List.mem_of_getElem? (i := 968) rfl)
set_option maxRecDepth 100000 in
theorem sX8_396 : zSV RX8 396 yX1_follow := ⟨Or.inr ⟨"LetterTown", (List.mem_of_getElem? (i := 972) rfl)⟩, (List.mem_of_getElem? (i := 974) rfl), (List.mem_of_getElem? (i := 35) rfl), (List.mem_of_getElem? (i := 146) rfl)⟩
set_option maxRecDepth 100000 in
theorem sX1_60 : zSV RX1 60 yX5_isAsked := ⟨Or.inr ⟨"LetterTown", (List.mem_of_getElem? (i := 976) rfl)⟩, (List.mem_of_getElem? (i := 978) rfl), (List.mem_of_getElem? (i := 36) rfl), (List.mem_of_getElem? (i := 144) rfl)⟩
set_option maxRecDepth 100000 in
theorem sX1_64 : zSV RX1 64 yX5_copy := ⟨Or.inr ⟨"LetterTown", (List.mem_of_getElem? (i := 980) rfl)⟩, (List.mem_of_getElem? (i := 881) rfl), (List.mem_of_getElem? (i := 24) rfl), (List.mem_of_getElem? (i := 144) rfl)⟩
set_option maxRecDepth 100000 in
theorem sX1_74 : zSV RX1 74 yX6_lay := ⟨Or.inr ⟨"LetterTown", (List.mem_of_getElem? (i := 981) rfl)⟩, (List.mem_of_getElem? (i := 983) rfl), (List.mem_of_getElem? (i := 37) rfl), (List.mem_of_getElem? (i := 147) rfl)⟩
set_option maxRecDepth 100000 in
theorem sX6_66 : zSS RX6 66 yJ7_fill_53178 := ⟨Or.inl (List.mem_of_getElem? (i := 985) rfl), (List.mem_of_getElem? (i := 190) rfl), (List.mem_of_getElem? (i := 145) rfl)⟩
set_option maxRecDepth 100000 in
theorem pX6_66 : Cond.methodLink RX6 66 yJ7_fill_53178 ∈ lw_tbl := (List.mem_of_getElem? (i := 985) rfl)
set_option maxRecDepth 100000 in
theorem sX6_75 : zSS RX6 75 yX6_firstKey := ⟨Or.inl (List.mem_of_getElem? (i := 986) rfl), (List.mem_of_getElem? (i := 616) rfl), (List.mem_of_getElem? (i := 147) rfl)⟩
set_option maxRecDepth 100000 in
theorem pX6_75 : Cond.methodLink RX6 75 yX6_firstKey ∈ lw_tbl := (List.mem_of_getElem? (i := 986) rfl)
set_option maxRecDepth 100000 in
theorem sX6_79 : zSV RX6 79 yX6_placeOf := ⟨Or.inl (List.mem_of_getElem? (i := 987) rfl), (List.mem_of_getElem? (i := 989) rfl), (List.mem_of_getElem? (i := 38) rfl), (List.mem_of_getElem? (i := 147) rfl)⟩
set_option maxRecDepth 100000 in
theorem pX6_79 : Cond.methodLink RX6 79 yX6_placeOf ∈ lw_tbl := (List.mem_of_getElem? (i := 987) rfl)
set_option maxRecDepth 100000 in
theorem sX6_86 : zSV RX6 86 yX6_layHand := ⟨Or.inl (List.mem_of_getElem? (i := 992) rfl), (List.mem_of_getElem? (i := 994) rfl), (List.mem_of_getElem? (i := 39) rfl), (List.mem_of_getElem? (i := 147) rfl)⟩
set_option maxRecDepth 100000 in
theorem pX6_86 : Cond.methodLink RX6 86 yX6_layHand ∈ lw_tbl := (List.mem_of_getElem? (i := 992) rfl)
set_option maxRecDepth 100000 in
theorem sX6_90 : zSS RX6 90 yX6_maySendTo := ⟨Or.inl (List.mem_of_getElem? (i := 996) rfl), (List.mem_of_getElem? (i := 619) rfl), (List.mem_of_getElem? (i := 147) rfl)⟩
set_option maxRecDepth 100000 in
theorem pX6_90 : Cond.methodLink RX6 90 yX6_maySendTo ∈ lw_tbl := (List.mem_of_getElem? (i := 996) rfl)
set_option maxRecDepth 100000 in
theorem sX6_94 : zSS RX6 94 yX6_keyBehind := ⟨Or.inl (List.mem_of_getElem? (i := 997) rfl), (List.mem_of_getElem? (i := 629) rfl), (List.mem_of_getElem? (i := 147) rfl)⟩
set_option maxRecDepth 100000 in
theorem pX6_94 : Cond.methodLink RX6 94 yX6_keyBehind ∈ lw_tbl := (List.mem_of_getElem? (i := 997) rfl)
set_option maxRecDepth 100000 in
theorem sX8_182 : zSV RX8 182 yX1_countCases := ⟨Or.inr ⟨"LetterTown", (List.mem_of_getElem? (i := 1000) rfl)⟩, (List.mem_of_getElem? (i := 1002) rfl), (List.mem_of_getElem? (i := 40) rfl), (List.mem_of_getElem? (i := 146) rfl)⟩
set_option maxRecDepth 100000 in
theorem sX1_196 : zSV RX1 196 yX1_choose := ⟨Or.inl (List.mem_of_getElem? (i := 1004) rfl), (List.mem_of_getElem? (i := 1006) rfl), (List.mem_of_getElem? (i := 41) rfl), (List.mem_of_getElem? (i := 146) rfl)⟩
set_option maxRecDepth 100000 in
theorem pX1_196 : Cond.methodLink RX1 196 yX1_choose ∈ lw_tbl := (List.mem_of_getElem? (i := 1004) rfl)
set_option maxRecDepth 100000 in
theorem sX1_77 : zSV RX1 77 yX5_reckoners := ⟨Or.inr ⟨"LetterTown", (List.mem_of_getElem? (i := 1008) rfl)⟩, (List.mem_of_getElem? (i := 1010) rfl), (List.mem_of_getElem? (i := 42) rfl), (List.mem_of_getElem? (i := 144) rfl)⟩
set_option maxRecDepth 100000 in
theorem sX1_81 : zSV RX1 81 yX1_reckon := ⟨Or.inl (List.mem_of_getElem? (i := 1012) rfl), (List.mem_of_getElem? (i := 1014) rfl), (List.mem_of_getElem? (i := 43) rfl), (List.mem_of_getElem? (i := 146) rfl)⟩
set_option maxRecDepth 100000 in
theorem pX1_81 : Cond.methodLink RX1 81 yX1_reckon ∈ lw_tbl := (List.mem_of_getElem? (i := 1012) rfl)
set_option maxRecDepth 100000 in
theorem sX1_85 : zSV RX1 85 yX5_everyone := ⟨Or.inr ⟨"LetterTown", (List.mem_of_getElem? (i := 1016) rfl)⟩, (List.mem_of_getElem? (i := 1018) rfl), (List.mem_of_getElem? (i := 44) rfl), (List.mem_of_getElem? (i := 144) rfl)⟩
set_option maxRecDepth 100000 in
theorem sX1_98 : zSV RX1 98 yX1_reckonHand := ⟨Or.inl (List.mem_of_getElem? (i := 1020) rfl), (List.mem_of_getElem? (i := 1022) rfl), (List.mem_of_getElem? (i := 45) rfl), (List.mem_of_getElem? (i := 146) rfl)⟩
set_option maxRecDepth 100000 in
theorem pX1_98 : Cond.methodLink RX1 98 yX1_reckonHand ∈ lw_tbl := (List.mem_of_getElem? (i := 1020) rfl)
set_option maxRecDepth 100000 in
theorem sX1_104 : zSS RX1 104 yX6_whoOf := ⟨Or.inr ⟨"LetterTown", (List.mem_of_getElem? (i := 1024) rfl)⟩, (List.mem_of_getElem? (i := 625) rfl), (List.mem_of_getElem? (i := 147) rfl)⟩
set_option maxRecDepth 100000 in
theorem sX1_111 : zSV RX1 111 yX1_likedMost := ⟨Or.inl (List.mem_of_getElem? (i := 1025) rfl), (List.mem_of_getElem? (i := 1027) rfl), (List.mem_of_getElem? (i := 46) rfl), (List.mem_of_getElem? (i := 146) rfl)⟩
set_option maxRecDepth 100000 in
theorem pX1_111 : Cond.methodLink RX1 111 yX1_likedMost ∈ lw_tbl := (List.mem_of_getElem? (i := 1025) rfl)
set_option maxRecDepth 100000 in
theorem sX1_115 : zSV RX1 115 yX1_worthOf := ⟨Or.inl (List.mem_of_getElem? (i := 1029) rfl), (List.mem_of_getElem? (i := 1031) rfl), (List.mem_of_getElem? (i := 47) rfl), (List.mem_of_getElem? (i := 146) rfl)⟩
set_option maxRecDepth 100000 in
theorem pX1_115 : Cond.methodLink RX1 115 yX1_worthOf ∈ lw_tbl := (List.mem_of_getElem? (i := 1029) rfl)
set_option maxRecDepth 100000 in
theorem sX1_180 : zSS RX1 180 yX6_timesSent := ⟨Or.inr ⟨"LetterTown", (List.mem_of_getElem? (i := 1033) rfl)⟩, (List.mem_of_getElem? (i := 1034) rfl), (List.mem_of_getElem? (i := 147) rfl)⟩
set_option maxRecDepth 100000 in
theorem sX1_165 : zSV RX1 165 yX1_payFor := ⟨Or.inl (List.mem_of_getElem? (i := 1036) rfl), (List.mem_of_getElem? (i := 1038) rfl), (List.mem_of_getElem? (i := 48) rfl), (List.mem_of_getElem? (i := 146) rfl)⟩
set_option maxRecDepth 100000 in
theorem pX1_165 : Cond.methodLink RX1 165 yX1_payFor ∈ lw_tbl := (List.mem_of_getElem? (i := 1036) rfl)
set_option maxRecDepth 100000 in
theorem sX1_119 : zSV RX1 119 yX1_openingOf := ⟨Or.inl (List.mem_of_getElem? (i := 1042) rfl), (List.mem_of_getElem? (i := 1044) rfl), (List.mem_of_getElem? (i := 49) rfl), (List.mem_of_getElem? (i := 146) rfl)⟩
set_option maxRecDepth 100000 in
theorem pX1_119 : Cond.methodLink RX1 119 yX1_openingOf ∈ lw_tbl := (List.mem_of_getElem? (i := 1042) rfl)
set_option maxRecDepth 100000 in
theorem sX1_133 : zSS RX1 133 yX6_handOf := ⟨Or.inr ⟨"LetterTown", (List.mem_of_getElem? (i := 1046) rfl)⟩, (List.mem_of_getElem? (i := 622) rfl), (List.mem_of_getElem? (i := 147) rfl)⟩
set_option maxRecDepth 100000 in
theorem sX1_141 : zSV RX1 141 yX5_pence := ⟨Or.inr ⟨"LetterTown", (List.mem_of_getElem? (i := 1047) rfl)⟩, (List.mem_of_getElem? (i := 1049) rfl), (List.mem_of_getElem? (i := 50) rfl), (List.mem_of_getElem? (i := 144) rfl)⟩
set_option maxRecDepth 100000 in
theorem sX1_123 : zSV RX1 123 yX1_shareOpened := ⟨Or.inl (List.mem_of_getElem? (i := 1051) rfl), (List.mem_of_getElem? (i := 1053) rfl), (List.mem_of_getElem? (i := 51) rfl), (List.mem_of_getElem? (i := 146) rfl)⟩
set_option maxRecDepth 100000 in
theorem pX1_123 : Cond.methodLink RX1 123 yX1_shareOpened ∈ lw_tbl := (List.mem_of_getElem? (i := 1051) rfl)
set_option maxRecDepth 100000 in
theorem sX1_190 : zSV RX1 190 yX5_felt := ⟨Or.inr ⟨"LetterTown", (List.mem_of_getElem? (i := 1055) rfl)⟩, (List.mem_of_getElem? (i := 1057) rfl), (List.mem_of_getElem? (i := 52) rfl), (List.mem_of_getElem? (i := 144) rfl)⟩
set_option maxRecDepth 100000 in
theorem sX5_70 : zSV RX5 70 yX5_pence := ⟨Or.inl (List.mem_of_getElem? (i := 1059) rfl), (List.mem_of_getElem? (i := 1049) rfl), (List.mem_of_getElem? (i := 50) rfl), (List.mem_of_getElem? (i := 144) rfl)⟩
set_option maxRecDepth 100000 in
theorem pX5_70 : Cond.methodLink RX5 70 yX5_pence ∈ lw_tbl := (List.mem_of_getElem? (i := 1059) rfl)
set_option maxRecDepth 100000 in
theorem sX1_126 : zSV RX1 126 yX1_reckonOpened := ⟨Or.inl (List.mem_of_getElem? (i := 1060) rfl), (List.mem_of_getElem? (i := 1062) rfl), (List.mem_of_getElem? (i := 53) rfl), (List.mem_of_getElem? (i := 146) rfl)⟩
set_option maxRecDepth 100000 in
theorem pX1_126 : Cond.methodLink RX1 126 yX1_reckonOpened ∈ lw_tbl := (List.mem_of_getElem? (i := 1060) rfl)
set_option maxRecDepth 100000 in
theorem sX1_129 : zSV RX1 129 yX1_reckonSent := ⟨Or.inl (List.mem_of_getElem? (i := 1064) rfl), (List.mem_of_getElem? (i := 1066) rfl), (List.mem_of_getElem? (i := 54) rfl), (List.mem_of_getElem? (i := 146) rfl)⟩
set_option maxRecDepth 100000 in
theorem pX1_129 : Cond.methodLink RX1 129 yX1_reckonSent ∈ lw_tbl := (List.mem_of_getElem? (i := 1064) rfl)
set_option maxRecDepth 100000 in
theorem sX1_149 : zSS RX1 149 yJ7_fill_d0a16 := ⟨Or.inl (List.mem_of_getElem? (i := 1068) rfl), (List.mem_of_getElem? (i := 1069) rfl), (List.mem_of_getElem? (i := 145) rfl)⟩
set_option maxRecDepth 100000 in
theorem pX1_149 : Cond.methodLink RX1 149 yJ7_fill_d0a16 ∈ lw_tbl := (List.mem_of_getElem? (i := 1068) rfl)
set_option maxRecDepth 100000 in
theorem sX1_155 : zSV RX1 155 yX1_targetsOf := ⟨Or.inl (List.mem_of_getElem? (i := 1071) rfl), (List.mem_of_getElem? (i := 1073) rfl), (List.mem_of_getElem? (i := 55) rfl), (List.mem_of_getElem? (i := 146) rfl)⟩
set_option maxRecDepth 100000 in
theorem pX1_155 : Cond.methodLink RX1 155 yX1_targetsOf ∈ lw_tbl := (List.mem_of_getElem? (i := 1071) rfl)
set_option maxRecDepth 100000 in
theorem sX1_161 : zSV RX1 161 yX1_weightTo := ⟨Or.inl (List.mem_of_getElem? (i := 1075) rfl), (List.mem_of_getElem? (i := 1077) rfl), (List.mem_of_getElem? (i := 56) rfl), (List.mem_of_getElem? (i := 146) rfl)⟩
set_option maxRecDepth 100000 in
theorem pX1_161 : Cond.methodLink RX1 161 yX1_weightTo ∈ lw_tbl := (List.mem_of_getElem? (i := 1075) rfl)
set_option maxRecDepth 100000 in
theorem sX1_171 : zSS RX1 171 yJ9_floorDiv_f86c9 := ⟨Or.inl (List.mem_of_getElem? (i := 1079) rfl), (List.mem_of_getElem? (i := 1080) rfl), (List.mem_of_getElem? (i := 157) rfl)⟩
set_option maxRecDepth 100000 in
theorem pX1_171 : Cond.methodLink RX1 171 yJ9_floorDiv_f86c9 ∈ lw_tbl := (List.mem_of_getElem? (i := 1079) rfl)
set_option maxRecDepth 100000 in
theorem sX1_199 : zSV RX1 199 yX1_clearTally := ⟨Or.inl (List.mem_of_getElem? (i := 1082) rfl), (List.mem_of_getElem? (i := 1084) rfl), (List.mem_of_getElem? (i := 57) rfl), (List.mem_of_getElem? (i := 146) rfl)⟩
set_option maxRecDepth 100000 in
theorem pX1_199 : Cond.methodLink RX1 199 yX1_clearTally ∈ lw_tbl := (List.mem_of_getElem? (i := 1082) rfl)
set_option maxRecDepth 100000 in
theorem sX1_202 : zSV RX1 202 yX1_spreadCases := ⟨Or.inl (List.mem_of_getElem? (i := 1086) rfl), (List.mem_of_getElem? (i := 1088) rfl), (List.mem_of_getElem? (i := 58) rfl), (List.mem_of_getElem? (i := 146) rfl)⟩
set_option maxRecDepth 100000 in
theorem pX1_202 : Cond.methodLink RX1 202 yX1_spreadCases ∈ lw_tbl := (List.mem_of_getElem? (i := 1086) rfl)
set_option maxRecDepth 100000 in
theorem sX1_205 : zSV RX1 205 yX1_weightsTo := ⟨Or.inl (List.mem_of_getElem? (i := 1090) rfl), (List.mem_of_getElem? (i := 1092) rfl), (List.mem_of_getElem? (i := 59) rfl), (List.mem_of_getElem? (i := 146) rfl)⟩
set_option maxRecDepth 100000 in
theorem pX1_205 : Cond.methodLink RX1 205 yX1_weightsTo ∈ lw_tbl := (List.mem_of_getElem? (i := 1090) rfl)
set_option maxRecDepth 100000 in
theorem sX8_185 : zSV RX8 185 yX1_casesOf := ⟨Or.inr ⟨"LetterTown", (List.mem_of_getElem? (i := 1094) rfl)⟩, (List.mem_of_getElem? (i := 1096) rfl), (List.mem_of_getElem? (i := 60) rfl), (List.mem_of_getElem? (i := 146) rfl)⟩
set_option maxRecDepth 100000 in
theorem sL_132 : zSS RL 132 yL_goes := ⟨Or.inl (List.mem_of_getElem? (i := 1098) rfl), (List.mem_of_getElem? (i := 1099) rfl), (List.mem_of_getElem? (i := 141) rfl)⟩
set_option maxRecDepth 100000 in
theorem pL_132 : Cond.methodLink RL 132 yL_goes ∈ lw_tbl := (List.mem_of_getElem? (i := 1098) rfl)
set_option maxRecDepth 100000 in
theorem sL_30 : zSV RL 30 yX8_goes := ⟨Or.inl (List.mem_of_getElem? (i := 1101) rfl), (List.mem_of_getElem? (i := 1102) rfl), (List.mem_of_getElem? (i := 1103) rfl), (List.mem_of_getElem? (i := 142) rfl)⟩
set_option maxRecDepth 100000 in
theorem pL_30 : Cond.methodLink RL 30 yX8_goes ∈ lw_tbl := (List.mem_of_getElem? (i := 1101) rfl)
set_option maxRecDepth 100000 in
theorem sX8_189 : zSV RX8 189 yX8_needPeople := ⟨Or.inl (List.mem_of_getElem? (i := 1105) rfl), (List.mem_of_getElem? (i := 1107) rfl), (List.mem_of_getElem? (i := 61) rfl), (List.mem_of_getElem? (i := 142) rfl)⟩
set_option maxRecDepth 100000 in
theorem pX8_189 : Cond.methodLink RX8 189 yX8_needPeople ∈ lw_tbl := (List.mem_of_getElem? (i := 1105) rfl)
set_option maxRecDepth 100000 in
theorem sX8_192 : zSV RX8 192 yX1_casesAt := ⟨Or.inr ⟨"LetterTown", (List.mem_of_getElem? (i := 1110) rfl)⟩, (List.mem_of_getElem? (i := 1112) rfl), (List.mem_of_getElem? (i := 62) rfl), (List.mem_of_getElem? (i := 146) rfl)⟩
set_option maxRecDepth 100000 in
theorem sX1_208 : zSV RX1 208 yX1_casesOf := ⟨Or.inl (List.mem_of_getElem? (i := 1114) rfl), (List.mem_of_getElem? (i := 1096) rfl), (List.mem_of_getElem? (i := 60) rfl), (List.mem_of_getElem? (i := 146) rfl)⟩
set_option maxRecDepth 100000 in
theorem pX1_208 : Cond.methodLink RX1 208 yX1_casesOf ∈ lw_tbl := (List.mem_of_getElem? (i := 1114) rfl)
set_option maxRecDepth 100000 in
theorem sX8_196 : zSV RX8 196 yX1_lengthOfAll := ⟨Or.inr ⟨"LetterTown", (List.mem_of_getElem? (i := 1115) rfl)⟩, (List.mem_of_getElem? (i := 1117) rfl), (List.mem_of_getElem? (i := 63) rfl), (List.mem_of_getElem? (i := 146) rfl)⟩
set_option maxRecDepth 100000 in
theorem sX1_211 : zSV RX1 211 yX1_casesAt := ⟨Or.inl (List.mem_of_getElem? (i := 1119) rfl), (List.mem_of_getElem? (i := 1112) rfl), (List.mem_of_getElem? (i := 62) rfl), (List.mem_of_getElem? (i := 146) rfl)⟩
set_option maxRecDepth 100000 in
theorem pX1_211 : Cond.methodLink RX1 211 yX1_casesAt ∈ lw_tbl := (List.mem_of_getElem? (i := 1119) rfl)
set_option maxRecDepth 100000 in
theorem sL_135 : zSS RL 135 yL_gets := ⟨Or.inl (List.mem_of_getElem? (i := 1120) rfl), (List.mem_of_getElem? (i := 1121) rfl), (List.mem_of_getElem? (i := 141) rfl)⟩
set_option maxRecDepth 100000 in
theorem pL_135 : Cond.methodLink RL 135 yL_gets ∈ lw_tbl := (List.mem_of_getElem? (i := 1120) rfl)
set_option maxRecDepth 100000 in
theorem sL_34 : zSV RL 34 yX8_gets := ⟨Or.inl (List.mem_of_getElem? (i := 1123) rfl), (List.mem_of_getElem? (i := 1124) rfl), (List.mem_of_getElem? (i := 1125) rfl), (List.mem_of_getElem? (i := 142) rfl)⟩
set_option maxRecDepth 100000 in
theorem pL_34 : Cond.methodLink RL 34 yX8_gets ∈ lw_tbl := (List.mem_of_getElem? (i := 1123) rfl)
set_option maxRecDepth 100000 in
theorem sX8_200 : zSV RX8 200 yX1_reckon := ⟨Or.inr ⟨"LetterTown", (List.mem_of_getElem? (i := 1127) rfl)⟩, (List.mem_of_getElem? (i := 1014) rfl), (List.mem_of_getElem? (i := 43) rfl), (List.mem_of_getElem? (i := 146) rfl)⟩
set_option maxRecDepth 100000 in
theorem sL_138 : zSS RL 138 yL_all := ⟨Or.inl (List.mem_of_getElem? (i := 1128) rfl), (List.mem_of_getElem? (i := 1129) rfl), (List.mem_of_getElem? (i := 141) rfl)⟩
set_option maxRecDepth 100000 in
theorem pL_138 : Cond.methodLink RL 138 yL_all ∈ lw_tbl := (List.mem_of_getElem? (i := 1128) rfl)
set_option maxRecDepth 100000 in
theorem sL_37 : zSV RL 37 yX8_all := ⟨Or.inl (List.mem_of_getElem? (i := 1131) rfl), (List.mem_of_getElem? (i := 1132) rfl), (List.mem_of_getElem? (i := 1133) rfl), (List.mem_of_getElem? (i := 142) rfl)⟩
set_option maxRecDepth 100000 in
theorem pL_37 : Cond.methodLink RL 37 yX8_all ∈ lw_tbl := (List.mem_of_getElem? (i := 1131) rfl)
set_option maxRecDepth 100000 in
theorem sX8_206 : zSV RX8 206 yX5_letAllReckon := ⟨Or.inr ⟨"LetterTown", (List.mem_of_getElem? (i := 1135) rfl)⟩, (List.mem_of_getElem? (i := 1137) rfl), (List.mem_of_getElem? (i := 64) rfl), (List.mem_of_getElem? (i := 144) rfl)⟩
set_option maxRecDepth 100000 in
theorem sX8_209 : zSV RX8 209 yX8_lastHandOfAll := ⟨Or.inl (List.mem_of_getElem? (i := 1139) rfl), (List.mem_of_getElem? (i := 1141) rfl), (List.mem_of_getElem? (i := 65) rfl), (List.mem_of_getElem? (i := 142) rfl)⟩
set_option maxRecDepth 100000 in
theorem pX8_209 : Cond.methodLink RX8 209 yX8_lastHandOfAll ∈ lw_tbl := (List.mem_of_getElem? (i := 1139) rfl)
set_option maxRecDepth 100000 in
theorem sX8_403 : zSV RX8 403 yX1_lastByChoice := ⟨Or.inr ⟨"LetterTown", (List.mem_of_getElem? (i := 1143) rfl)⟩, (List.mem_of_getElem? (i := 1145) rfl), (List.mem_of_getElem? (i := 66) rfl), (List.mem_of_getElem? (i := 146) rfl)⟩
set_option maxRecDepth 100000 in
theorem sX8_212 : zSS RX8 212 yX6_whoOf := ⟨Or.inr ⟨"LetterTown", (List.mem_of_getElem? (i := 1147) rfl)⟩, (List.mem_of_getElem? (i := 625) rfl), (List.mem_of_getElem? (i := 147) rfl)⟩
set_option maxRecDepth 100000 in
theorem sX8_218 : zSS RX8 218 yX6_handOf := ⟨Or.inr ⟨"LetterTown", (List.mem_of_getElem? (i := 1148) rfl)⟩, (List.mem_of_getElem? (i := 622) rfl), (List.mem_of_getElem? (i := 147) rfl)⟩
set_option maxRecDepth 100000 in
theorem sL_141 : zSS RL 141 yL_least := ⟨Or.inl (List.mem_of_getElem? (i := 1149) rfl), (List.mem_of_getElem? (i := 1150) rfl), (List.mem_of_getElem? (i := 141) rfl)⟩
set_option maxRecDepth 100000 in
theorem pL_141 : Cond.methodLink RL 141 yL_least ∈ lw_tbl := (List.mem_of_getElem? (i := 1149) rfl)
set_option maxRecDepth 100000 in
theorem sL_40 : zSV RL 40 yX8_least := ⟨Or.inl (List.mem_of_getElem? (i := 1152) rfl), (List.mem_of_getElem? (i := 1153) rfl), (List.mem_of_getElem? (i := 1154) rfl), (List.mem_of_getElem? (i := 142) rfl)⟩
set_option maxRecDepth 100000 in
theorem pL_40 : Cond.methodLink RL 40 yX8_least ∈ lw_tbl := (List.mem_of_getElem? (i := 1152) rfl)
set_option maxRecDepth 100000 in
theorem sL_145 : zSS RL 145 yL_one := ⟨Or.inl (List.mem_of_getElem? (i := 1157) rfl), (List.mem_of_getElem? (i := 1158) rfl), (List.mem_of_getElem? (i := 141) rfl)⟩
set_option maxRecDepth 100000 in
theorem pL_145 : Cond.methodLink RL 145 yL_one ∈ lw_tbl := (List.mem_of_getElem? (i := 1157) rfl)
set_option maxRecDepth 100000 in
theorem sL_44 : zSV RL 44 yX8_one := ⟨Or.inl (List.mem_of_getElem? (i := 1160) rfl), (List.mem_of_getElem? (i := 1161) rfl), (List.mem_of_getElem? (i := 1162) rfl), (List.mem_of_getElem? (i := 142) rfl)⟩
set_option maxRecDepth 100000 in
theorem pL_44 : Cond.methodLink RL 44 yX8_one ∈ lw_tbl := (List.mem_of_getElem? (i := 1160) rfl)
set_option maxRecDepth 100000 in
theorem sX8_223 : zSV RX8 223 yX5_handsOpenedAt := ⟨Or.inr ⟨"LetterTown", (List.mem_of_getElem? (i := 1164) rfl)⟩, (List.mem_of_getElem? (i := 1166) rfl), (List.mem_of_getElem? (i := 67) rfl), (List.mem_of_getElem? (i := 144) rfl)⟩
set_option maxRecDepth 100000 in
theorem sX5_74 : zSV RX5 74 yX5_felt := ⟨Or.inl (List.mem_of_getElem? (i := 1168) rfl), (List.mem_of_getElem? (i := 1057) rfl), (List.mem_of_getElem? (i := 52) rfl), (List.mem_of_getElem? (i := 144) rfl)⟩
set_option maxRecDepth 100000 in
theorem pX5_74 : Cond.methodLink RX5 74 yX5_felt ∈ lw_tbl := (List.mem_of_getElem? (i := 1168) rfl)
set_option maxRecDepth 100000 in
theorem sX8_226 : zSV RX8 226 yX8_gainAsked := ⟨Or.inl (List.mem_of_getElem? (i := 1169) rfl), (List.mem_of_getElem? (i := 1171) rfl), (List.mem_of_getElem? (i := 68) rfl), (List.mem_of_getElem? (i := 142) rfl)⟩
set_option maxRecDepth 100000 in
theorem pX8_226 : Cond.methodLink RX8 226 yX8_gainAsked ∈ lw_tbl := (List.mem_of_getElem? (i := 1169) rfl)
set_option maxRecDepth 100000 in
theorem sL_149 : zSS RL 149 yL_named := ⟨Or.inl (List.mem_of_getElem? (i := 1173) rfl), (List.mem_of_getElem? (i := 1174) rfl), (List.mem_of_getElem? (i := 141) rfl)⟩
set_option maxRecDepth 100000 in
theorem pL_149 : Cond.methodLink RL 149 yL_named ∈ lw_tbl := (List.mem_of_getElem? (i := 1173) rfl)
set_option maxRecDepth 100000 in
theorem sL_48 : zSV RL 48 yX8_named := ⟨Or.inl (List.mem_of_getElem? (i := 1176) rfl), (List.mem_of_getElem? (i := 1177) rfl), (List.mem_of_getElem? (i := 1178) rfl), (List.mem_of_getElem? (i := 142) rfl)⟩
set_option maxRecDepth 100000 in
theorem pL_48 : Cond.methodLink RL 48 yX8_named ∈ lw_tbl := (List.mem_of_getElem? (i := 1176) rfl)
set_option maxRecDepth 100000 in
theorem sX8_229 : zSV RX8 229 yX1_likedMost := ⟨Or.inr ⟨"LetterTown", (List.mem_of_getElem? (i := 1180) rfl)⟩, (List.mem_of_getElem? (i := 1027) rfl), (List.mem_of_getElem? (i := 46) rfl), (List.mem_of_getElem? (i := 146) rfl)⟩
set_option maxRecDepth 100000 in
theorem sX8_236 : zSV RX8 236 yX1_worthOf := ⟨Or.inr ⟨"LetterTown", (List.mem_of_getElem? (i := 1183) rfl)⟩, (List.mem_of_getElem? (i := 1031) rfl), (List.mem_of_getElem? (i := 47) rfl), (List.mem_of_getElem? (i := 146) rfl)⟩
set_option maxRecDepth 100000 in
theorem sL_152 : zSS RL 152 yL_hand := ⟨Or.inl (List.mem_of_getElem? (i := 1184) rfl), (List.mem_of_getElem? (i := 1185) rfl), (List.mem_of_getElem? (i := 141) rfl)⟩
set_option maxRecDepth 100000 in
theorem pL_152 : Cond.methodLink RL 152 yL_hand ∈ lw_tbl := (List.mem_of_getElem? (i := 1184) rfl)
set_option maxRecDepth 100000 in
theorem sL_51 : zSV RL 51 yX8_hand := ⟨Or.inl (List.mem_of_getElem? (i := 1187) rfl), (List.mem_of_getElem? (i := 1188) rfl), (List.mem_of_getElem? (i := 1189) rfl), (List.mem_of_getElem? (i := 142) rfl)⟩
set_option maxRecDepth 100000 in
theorem pL_51 : Cond.methodLink RL 51 yX8_hand ∈ lw_tbl := (List.mem_of_getElem? (i := 1187) rfl)
set_option maxRecDepth 100000 in
theorem sX8_239 : zSV RX8 239 yX3_add := ⟨Or.inr ⟨"LetterTown", (List.mem_of_getElem? (i := 1191) rfl)⟩, (List.mem_of_getElem? (i := 1193) rfl), (List.mem_of_getElem? (i := 69) rfl), (List.mem_of_getElem? (i := 148) rfl)⟩
set_option maxRecDepth 100000 in
theorem sL_159 : zSS RL 159 yL_odds := ⟨Or.inl (List.mem_of_getElem? (i := 1195) rfl), (List.mem_of_getElem? (i := 1196) rfl), (List.mem_of_getElem? (i := 141) rfl)⟩
set_option maxRecDepth 100000 in
theorem pL_159 : Cond.methodLink RL 159 yL_odds ∈ lw_tbl := (List.mem_of_getElem? (i := 1195) rfl)
set_option maxRecDepth 100000 in
theorem sL_54 : zSV RL 54 yX8_odds := ⟨Or.inl (List.mem_of_getElem? (i := 1198) rfl), (List.mem_of_getElem? (i := 1199) rfl), (List.mem_of_getElem? (i := 1200) rfl), (List.mem_of_getElem? (i := 142) rfl)⟩
set_option maxRecDepth 100000 in
theorem pL_54 : Cond.methodLink RL 54 yX8_odds ∈ lw_tbl := (List.mem_of_getElem? (i := 1198) rfl)
set_option maxRecDepth 100000 in
theorem sX8_247 : zSV RX8 247 yX1_choose := ⟨Or.inr ⟨"LetterTown", (List.mem_of_getElem? (i := 1202) rfl)⟩, (List.mem_of_getElem? (i := 1006) rfl), (List.mem_of_getElem? (i := 41) rfl), (List.mem_of_getElem? (i := 146) rfl)⟩
set_option maxRecDepth 100000 in
theorem sX8_253 : zSV RX8 253 yX1_oddsOf := ⟨Or.inr ⟨"LetterTown", (List.mem_of_getElem? (i := 1203) rfl)⟩, (List.mem_of_getElem? (i := 1205) rfl), (List.mem_of_getElem? (i := 70) rfl), (List.mem_of_getElem? (i := 146) rfl)⟩
set_option maxRecDepth 100000 in
theorem sX1_217 : zSV RX1 217 yX1_chanceTo := ⟨Or.inl (List.mem_of_getElem? (i := 1207) rfl), (List.mem_of_getElem? (i := 1209) rfl), (List.mem_of_getElem? (i := 71) rfl), (List.mem_of_getElem? (i := 146) rfl)⟩
set_option maxRecDepth 100000 in
theorem pX1_217 : Cond.methodLink RX1 217 yX1_chanceTo ∈ lw_tbl := (List.mem_of_getElem? (i := 1207) rfl)
set_option maxRecDepth 100000 in
theorem sL_167 : zSS RL 167 yL_guess := ⟨Or.inl (List.mem_of_getElem? (i := 1211) rfl), (List.mem_of_getElem? (i := 1212) rfl), (List.mem_of_getElem? (i := 141) rfl)⟩
set_option maxRecDepth 100000 in
theorem pL_167 : Cond.methodLink RL 167 yL_guess ∈ lw_tbl := (List.mem_of_getElem? (i := 1211) rfl)
set_option maxRecDepth 100000 in
theorem sL_58 : zSV RL 58 yX8_guess := ⟨Or.inl (List.mem_of_getElem? (i := 1214) rfl), (List.mem_of_getElem? (i := 1215) rfl), (List.mem_of_getElem? (i := 1216) rfl), (List.mem_of_getElem? (i := 142) rfl)⟩
set_option maxRecDepth 100000 in
theorem pL_58 : Cond.methodLink RL 58 yX8_guess ∈ lw_tbl := (List.mem_of_getElem? (i := 1214) rfl)
set_option maxRecDepth 100000 in
theorem sX8_261 : zSV RX8 261 yX8_needGuess := ⟨Or.inl (List.mem_of_getElem? (i := 1218) rfl), (List.mem_of_getElem? (i := 1220) rfl), (List.mem_of_getElem? (i := 72) rfl), (List.mem_of_getElem? (i := 142) rfl)⟩
set_option maxRecDepth 100000 in
theorem pX8_261 : Cond.methodLink RX8 261 yX8_needGuess ∈ lw_tbl := (List.mem_of_getElem? (i := 1218) rfl)
set_option maxRecDepth 100000 in
theorem sX8_264 : zSV RX8 264 yX0_tell := ⟨Or.inr ⟨"LetterTown", (List.mem_of_getElem? (i := 1223) rfl)⟩, (List.mem_of_getElem? (i := 1225) rfl), (List.mem_of_getElem? (i := 73) rfl), (List.mem_of_getElem? (i := 149) rfl)⟩
set_option maxRecDepth 100000 in
theorem sL_170 : zSS RL 170 yL_credit := ⟨Or.inl (List.mem_of_getElem? (i := 1227) rfl), (List.mem_of_getElem? (i := 1228) rfl), (List.mem_of_getElem? (i := 141) rfl)⟩
set_option maxRecDepth 100000 in
theorem pL_170 : Cond.methodLink RL 170 yL_credit ∈ lw_tbl := (List.mem_of_getElem? (i := 1227) rfl)
set_option maxRecDepth 100000 in
theorem sL_62 : zSV RL 62 yX8_credit := ⟨Or.inl (List.mem_of_getElem? (i := 1230) rfl), (List.mem_of_getElem? (i := 1231) rfl), (List.mem_of_getElem? (i := 1232) rfl), (List.mem_of_getElem? (i := 142) rfl)⟩
set_option maxRecDepth 100000 in
theorem pL_62 : Cond.methodLink RL 62 yX8_credit ∈ lw_tbl := (List.mem_of_getElem? (i := 1230) rfl)
set_option maxRecDepth 100000 in
theorem sX8_268 : zSV RX8 268 yX0_isTold := ⟨Or.inr ⟨"LetterTown", (List.mem_of_getElem? (i := 1234) rfl)⟩, (List.mem_of_getElem? (i := 1236) rfl), (List.mem_of_getElem? (i := 74) rfl), (List.mem_of_getElem? (i := 149) rfl)⟩
set_option maxRecDepth 100000 in
theorem sX8_271 : zSV RX8 271 yX0_putInto := ⟨Or.inr ⟨"LetterTown", (List.mem_of_getElem? (i := 1238) rfl)⟩, (List.mem_of_getElem? (i := 1240) rfl), (List.mem_of_getElem? (i := 75) rfl), (List.mem_of_getElem? (i := 149) rfl)⟩
set_option maxRecDepth 100000 in
theorem sX8_275 : zSV RX8 275 yX0_noteOdds := ⟨Or.inr ⟨"LetterTown", (List.mem_of_getElem? (i := 1242) rfl)⟩, (List.mem_of_getElem? (i := 1244) rfl), (List.mem_of_getElem? (i := 76) rfl), (List.mem_of_getElem? (i := 149) rfl)⟩
set_option maxRecDepth 100000 in
theorem sX0_54 : zSV RX0 54 yX1_oddsOf := ⟨Or.inr ⟨"LetterTown", (List.mem_of_getElem? (i := 1246) rfl)⟩, (List.mem_of_getElem? (i := 1205) rfl), (List.mem_of_getElem? (i := 70) rfl), (List.mem_of_getElem? (i := 146) rfl)⟩
set_option maxRecDepth 100000 in
theorem sX8_279 : zSV RX8 279 yX0_creditOf := ⟨Or.inr ⟨"LetterTown", (List.mem_of_getElem? (i := 1247) rfl)⟩, (List.mem_of_getElem? (i := 1249) rfl), (List.mem_of_getElem? (i := 77) rfl), (List.mem_of_getElem? (i := 149) rfl)⟩
set_option maxRecDepth 100000 in
theorem sX0_60 : zSS RX0 60 yJ6_bitCount_0f7a4 := ⟨Or.inl (List.mem_of_getElem? (i := 1251) rfl), (List.mem_of_getElem? (i := 1252) rfl), (List.mem_of_getElem? (i := 164) rfl)⟩
set_option maxRecDepth 100000 in
theorem pX0_60 : Cond.methodLink RX0 60 yJ6_bitCount_0f7a4 ∈ lw_tbl := (List.mem_of_getElem? (i := 1251) rfl)
set_option maxRecDepth 100000 in
theorem sX0_67 : zSS RX0 67 yJ7_fill_d0a16 := ⟨Or.inl (List.mem_of_getElem? (i := 1258) rfl), (List.mem_of_getElem? (i := 1069) rfl), (List.mem_of_getElem? (i := 145) rfl)⟩
set_option maxRecDepth 100000 in
theorem pX0_67 : Cond.methodLink RX0 67 yJ7_fill_d0a16 ∈ lw_tbl := (List.mem_of_getElem? (i := 1258) rfl)
set_option maxRecDepth 100000 in
theorem sX0_70 : zSV RX0 70 yX0_weighBy := ⟨Or.inl (List.mem_of_getElem? (i := 1259) rfl), (List.mem_of_getElem? (i := 1261) rfl), (List.mem_of_getElem? (i := 78) rfl), (List.mem_of_getElem? (i := 149) rfl)⟩
set_option maxRecDepth 100000 in
theorem pX0_70 : Cond.methodLink RX0 70 yX0_weighBy ∈ lw_tbl := (List.mem_of_getElem? (i := 1259) rfl)
set_option maxRecDepth 100000 in
theorem sX0_74 : zSV RX0 74 yX0_isTold := ⟨Or.inl (List.mem_of_getElem? (i := 1263) rfl), (List.mem_of_getElem? (i := 1236) rfl), (List.mem_of_getElem? (i := 74) rfl), (List.mem_of_getElem? (i := 149) rfl)⟩
set_option maxRecDepth 100000 in
theorem pX0_74 : Cond.methodLink RX0 74 yX0_isTold ∈ lw_tbl := (List.mem_of_getElem? (i := 1263) rfl)
set_option maxRecDepth 100000 in
theorem sX0_80 : zSS RX0 80 yJ9_max_f86c9 := ⟨Or.inl (List.mem_of_getElem? (i := 1265) rfl), (List.mem_of_getElem? (i := 1266) rfl), (List.mem_of_getElem? (i := 157) rfl)⟩
set_option maxRecDepth 100000 in
theorem pX0_80 : Cond.methodLink RX0 80 yJ9_max_f86c9 ∈ lw_tbl := (List.mem_of_getElem? (i := 1265) rfl)
set_option maxRecDepth 100000 in
theorem sL_173 : zSS RL 173 yL_chain := ⟨Or.inl (List.mem_of_getElem? (i := 1269) rfl), (List.mem_of_getElem? (i := 1270) rfl), (List.mem_of_getElem? (i := 141) rfl)⟩
set_option maxRecDepth 100000 in
theorem pL_173 : Cond.methodLink RL 173 yL_chain ∈ lw_tbl := (List.mem_of_getElem? (i := 1269) rfl)
set_option maxRecDepth 100000 in
theorem sL_65 : zSV RL 65 yX8_chain := ⟨Or.inl (List.mem_of_getElem? (i := 1272) rfl), (List.mem_of_getElem? (i := 1273) rfl), (List.mem_of_getElem? (i := 1274) rfl), (List.mem_of_getElem? (i := 142) rfl)⟩
set_option maxRecDepth 100000 in
theorem pL_65 : Cond.methodLink RL 65 yX8_chain ∈ lw_tbl := (List.mem_of_getElem? (i := 1272) rfl)
set_option maxRecDepth 100000 in
theorem sX8_285 : zSV RX8 285 yX1_surestEnd := ⟨Or.inr ⟨"LetterTown", (List.mem_of_getElem? (i := 1277) rfl)⟩, (List.mem_of_getElem? (i := 1279) rfl), (List.mem_of_getElem? (i := 79) rfl), (List.mem_of_getElem? (i := 146) rfl)⟩
set_option maxRecDepth 100000 in
theorem sX1_221 : zSV RX1 221 yX1_tellBehind := ⟨Or.inl (List.mem_of_getElem? (i := 1281) rfl), (List.mem_of_getElem? (i := 1283) rfl), (List.mem_of_getElem? (i := 80) rfl), (List.mem_of_getElem? (i := 146) rfl)⟩
set_option maxRecDepth 100000 in
theorem pX1_221 : Cond.methodLink RX1 221 yX1_tellBehind ∈ lw_tbl := (List.mem_of_getElem? (i := 1281) rfl)
set_option maxRecDepth 100000 in
theorem sX1_224 : zSV RX1 224 yX1_isSurer := ⟨Or.inl (List.mem_of_getElem? (i := 1285) rfl), (List.mem_of_getElem? (i := 1287) rfl), (List.mem_of_getElem? (i := 81) rfl), (List.mem_of_getElem? (i := 146) rfl)⟩
set_option maxRecDepth 100000 in
theorem pX1_224 : Cond.methodLink RX1 224 yX1_isSurer ∈ lw_tbl := (List.mem_of_getElem? (i := 1285) rfl)
set_option maxRecDepth 100000 in
theorem sL_176 : zSS RL 176 yL_chained := ⟨Or.inl (List.mem_of_getElem? (i := 1289) rfl), (List.mem_of_getElem? (i := 1290) rfl), (List.mem_of_getElem? (i := 141) rfl)⟩
set_option maxRecDepth 100000 in
theorem pL_176 : Cond.methodLink RL 176 yL_chained ∈ lw_tbl := (List.mem_of_getElem? (i := 1289) rfl)
set_option maxRecDepth 100000 in
theorem sL_68 : zSV RL 68 yX8_chained := ⟨Or.inl (List.mem_of_getElem? (i := 1292) rfl), (List.mem_of_getElem? (i := 1293) rfl), (List.mem_of_getElem? (i := 1294) rfl), (List.mem_of_getElem? (i := 142) rfl)⟩
set_option maxRecDepth 100000 in
theorem pL_68 : Cond.methodLink RL 68 yX8_chained ∈ lw_tbl := (List.mem_of_getElem? (i := 1292) rfl)
set_option maxRecDepth 100000 in
theorem sL_179 : zSS RL 179 yL_two := ⟨Or.inl (List.mem_of_getElem? (i := 1297) rfl), (List.mem_of_getElem? (i := 1298) rfl), (List.mem_of_getElem? (i := 141) rfl)⟩
set_option maxRecDepth 100000 in
theorem pL_179 : Cond.methodLink RL 179 yL_two ∈ lw_tbl := (List.mem_of_getElem? (i := 1297) rfl)
set_option maxRecDepth 100000 in
theorem sL_71 : zSV RL 71 yX8_two := ⟨Or.inl (List.mem_of_getElem? (i := 1300) rfl), (List.mem_of_getElem? (i := 1301) rfl), (List.mem_of_getElem? (i := 1302) rfl), (List.mem_of_getElem? (i := 142) rfl)⟩
set_option maxRecDepth 100000 in
theorem pL_71 : Cond.methodLink RL 71 yX8_two ∈ lw_tbl := (List.mem_of_getElem? (i := 1300) rfl)
set_option maxRecDepth 100000 in
theorem sL_182 : zSS RL 182 yL_feeling := ⟨Or.inl (List.mem_of_getElem? (i := 1305) rfl), (List.mem_of_getElem? (i := 1306) rfl), (List.mem_of_getElem? (i := 141) rfl)⟩
set_option maxRecDepth 100000 in
theorem pL_182 : Cond.methodLink RL 182 yL_feeling ∈ lw_tbl := (List.mem_of_getElem? (i := 1305) rfl)
set_option maxRecDepth 100000 in
theorem sL_74 : zSV RL 74 yX8_feeling := ⟨Or.inl (List.mem_of_getElem? (i := 1308) rfl), (List.mem_of_getElem? (i := 1309) rfl), (List.mem_of_getElem? (i := 1310) rfl), (List.mem_of_getElem? (i := 142) rfl)⟩
set_option maxRecDepth 100000 in
theorem pL_74 : Cond.methodLink RL 74 yX8_feeling ∈ lw_tbl := (List.mem_of_getElem? (i := 1308) rfl)
set_option maxRecDepth 100000 in
theorem sL_185 : zSS RL 185 yL_theft := ⟨Or.inl (List.mem_of_getElem? (i := 1313) rfl), (List.mem_of_getElem? (i := 1314) rfl), (List.mem_of_getElem? (i := 141) rfl)⟩
set_option maxRecDepth 100000 in
theorem pL_185 : Cond.methodLink RL 185 yL_theft ∈ lw_tbl := (List.mem_of_getElem? (i := 1313) rfl)
set_option maxRecDepth 100000 in
theorem sL_77 : zSV RL 77 yX8_theft := ⟨Or.inl (List.mem_of_getElem? (i := 1316) rfl), (List.mem_of_getElem? (i := 1317) rfl), (List.mem_of_getElem? (i := 1318) rfl), (List.mem_of_getElem? (i := 142) rfl)⟩
set_option maxRecDepth 100000 in
theorem pL_77 : Cond.methodLink RL 77 yX8_theft ∈ lw_tbl := (List.mem_of_getElem? (i := 1316) rfl)
set_option maxRecDepth 100000 in
theorem sX8_314 : zSV RX8 314 yX5_everyone := ⟨Or.inr ⟨"LetterTown", (List.mem_of_getElem? (i := 1320) rfl)⟩, (List.mem_of_getElem? (i := 1018) rfl), (List.mem_of_getElem? (i := 44) rfl), (List.mem_of_getElem? (i := 144) rfl)⟩
set_option maxRecDepth 100000 in
theorem sX8_319 : zSV RX8 319 yX4_add := ⟨Or.inr ⟨"LetterTown", (List.mem_of_getElem? (i := 1322) rfl)⟩, (List.mem_of_getElem? (i := 1324) rfl), (List.mem_of_getElem? (i := 82) rfl), (List.mem_of_getElem? (i := 150) rfl)⟩
set_option maxRecDepth 100000 in
theorem sL_188 : zSS RL 188 yL_thieves := ⟨Or.inl (List.mem_of_getElem? (i := 1326) rfl), (List.mem_of_getElem? (i := 1327) rfl), (List.mem_of_getElem? (i := 141) rfl)⟩
set_option maxRecDepth 100000 in
theorem pL_188 : Cond.methodLink RL 188 yL_thieves ∈ lw_tbl := (List.mem_of_getElem? (i := 1326) rfl)
set_option maxRecDepth 100000 in
theorem sL_80 : zSV RL 80 yX8_thieves := ⟨Or.inl (List.mem_of_getElem? (i := 1329) rfl), (List.mem_of_getElem? (i := 1330) rfl), (List.mem_of_getElem? (i := 1331) rfl), (List.mem_of_getElem? (i := 142) rfl)⟩
set_option maxRecDepth 100000 in
theorem pL_80 : Cond.methodLink RL 80 yX8_thieves ∈ lw_tbl := (List.mem_of_getElem? (i := 1329) rfl)
set_option maxRecDepth 100000 in
theorem sX8_322 : zSV RX8 322 yX4_weigh := ⟨Or.inr ⟨"LetterTown", (List.mem_of_getElem? (i := 1333) rfl)⟩, (List.mem_of_getElem? (i := 1335) rfl), (List.mem_of_getElem? (i := 83) rfl), (List.mem_of_getElem? (i := 150) rfl)⟩
set_option maxRecDepth 100000 in
theorem sX4_43 : zSS RX4 43 yJ7_fill_53178 := ⟨Or.inl (List.mem_of_getElem? (i := 1337) rfl), (List.mem_of_getElem? (i := 190) rfl), (List.mem_of_getElem? (i := 145) rfl)⟩
set_option maxRecDepth 100000 in
theorem pX4_43 : Cond.methodLink RX4 43 yJ7_fill_53178 ∈ lw_tbl := (List.mem_of_getElem? (i := 1337) rfl)
set_option maxRecDepth 100000 in
theorem sX4_49 : zSV RX4 49 yX4_explains := ⟨Or.inl (List.mem_of_getElem? (i := 1338) rfl), (List.mem_of_getElem? (i := 1340) rfl), (List.mem_of_getElem? (i := 84) rfl), (List.mem_of_getElem? (i := 150) rfl)⟩
set_option maxRecDepth 100000 in
theorem pX4_49 : Cond.methodLink RX4 49 yX4_explains ∈ lw_tbl := (List.mem_of_getElem? (i := 1338) rfl)
set_option maxRecDepth 100000 in
theorem sX4_25 : zSS RX4 25 yJ6_bitCount_0f7a4 := ⟨Or.inl (List.mem_of_getElem? (i := 1342) rfl), (List.mem_of_getElem? (i := 1252) rfl), (List.mem_of_getElem? (i := 164) rfl)⟩
set_option maxRecDepth 100000 in
theorem pX4_25 : Cond.methodLink RX4 25 yJ6_bitCount_0f7a4 ∈ lw_tbl := (List.mem_of_getElem? (i := 1342) rfl)
set_option maxRecDepth 100000 in
theorem sX4_53 : zSV RX4 53 yX4_take := ⟨Or.inl (List.mem_of_getElem? (i := 1343) rfl), (List.mem_of_getElem? (i := 1345) rfl), (List.mem_of_getElem? (i := 85) rfl), (List.mem_of_getElem? (i := 150) rfl)⟩
set_option maxRecDepth 100000 in
theorem pX4_53 : Cond.methodLink RX4 53 yX4_take ∈ lw_tbl := (List.mem_of_getElem? (i := 1343) rfl)
set_option maxRecDepth 100000 in
theorem sX8_337 : zSV RX8 337 yX4_whomToAsk := ⟨Or.inr ⟨"LetterTown", (List.mem_of_getElem? (i := 1347) rfl)⟩, (List.mem_of_getElem? (i := 1349) rfl), (List.mem_of_getElem? (i := 86) rfl), (List.mem_of_getElem? (i := 150) rfl)⟩
set_option maxRecDepth 100000 in
theorem sX4_57 : zSS RX4 57 yJ9_abs_0f7a4 := ⟨Or.inl (List.mem_of_getElem? (i := 1351) rfl), (List.mem_of_getElem? (i := 1352) rfl), (List.mem_of_getElem? (i := 157) rfl)⟩
set_option maxRecDepth 100000 in
theorem pX4_57 : Cond.methodLink RX4 57 yJ9_abs_0f7a4 ∈ lw_tbl := (List.mem_of_getElem? (i := 1351) rfl)
set_option maxRecDepth 100000 in
theorem sL_191 : zSS RL 191 yL_luck := ⟨Or.inl (List.mem_of_getElem? (i := 1354) rfl), (List.mem_of_getElem? (i := 1355) rfl), (List.mem_of_getElem? (i := 141) rfl)⟩
set_option maxRecDepth 100000 in
theorem pL_191 : Cond.methodLink RL 191 yL_luck ∈ lw_tbl := (List.mem_of_getElem? (i := 1354) rfl)
set_option maxRecDepth 100000 in
theorem sL_83 : zSV RL 83 yX8_luck := ⟨Or.inl (List.mem_of_getElem? (i := 1357) rfl), (List.mem_of_getElem? (i := 1358) rfl), (List.mem_of_getElem? (i := 1359) rfl), (List.mem_of_getElem? (i := 142) rfl)⟩
set_option maxRecDepth 100000 in
theorem pL_83 : Cond.methodLink RL 83 yX8_luck ∈ lw_tbl := (List.mem_of_getElem? (i := 1357) rfl)
set_option maxRecDepth 100000 in
theorem sX8_342 : zSS RX8 342 yJ7_fill_d0a16 := ⟨Or.inl (List.mem_of_getElem? (i := 1362) rfl), (List.mem_of_getElem? (i := 1069) rfl), (List.mem_of_getElem? (i := 145) rfl)⟩
set_option maxRecDepth 100000 in
theorem pX8_342 : Cond.methodLink RX8 342 yJ7_fill_d0a16 ∈ lw_tbl := (List.mem_of_getElem? (i := 1362) rfl)
set_option maxRecDepth 100000 in
theorem sL_195 : zSS RL 195 yL_begin := ⟨Or.inl (List.mem_of_getElem? (i := 1363) rfl), (List.mem_of_getElem? (i := 1364) rfl), (List.mem_of_getElem? (i := 141) rfl)⟩
set_option maxRecDepth 100000 in
theorem pL_195 : Cond.methodLink RL 195 yL_begin ∈ lw_tbl := (List.mem_of_getElem? (i := 1363) rfl)
set_option maxRecDepth 100000 in
theorem sL_87 : zSV RL 87 yX8_begin := ⟨Or.inl (List.mem_of_getElem? (i := 1366) rfl), (List.mem_of_getElem? (i := 1367) rfl), (List.mem_of_getElem? (i := 1368) rfl), (List.mem_of_getElem? (i := 142) rfl)⟩
set_option maxRecDepth 100000 in
theorem pL_87 : Cond.methodLink RL 87 yX8_begin ∈ lw_tbl := (List.mem_of_getElem? (i := 1366) rfl)
set_option maxRecDepth 100000 in
theorem sX8_350 : zSV RX8 350 yX7_start := ⟨Or.inr ⟨"LetterTown", (List.mem_of_getElem? (i := 1371) rfl)⟩, (List.mem_of_getElem? (i := 1373) rfl), (List.mem_of_getElem? (i := 87) rfl), (List.mem_of_getElem? (i := 151) rfl)⟩
set_option maxRecDepth 100000 in
theorem sX7_35 : zSS RX7 35 yJ7_fill_53178 := ⟨Or.inl (List.mem_of_getElem? (i := 1375) rfl), (List.mem_of_getElem? (i := 190) rfl), (List.mem_of_getElem? (i := 145) rfl)⟩
set_option maxRecDepth 100000 in
theorem pX7_35 : Cond.methodLink RX7 35 yJ7_fill_53178 ∈ lw_tbl := (List.mem_of_getElem? (i := 1375) rfl)
set_option maxRecDepth 100000 in
theorem sL_199 : zSS RL 199 yL_on := ⟨Or.inl (List.mem_of_getElem? (i := 1376) rfl), (List.mem_of_getElem? (i := 1377) rfl), (List.mem_of_getElem? (i := 141) rfl)⟩
set_option maxRecDepth 100000 in
theorem pL_199 : Cond.methodLink RL 199 yL_on ∈ lw_tbl := (List.mem_of_getElem? (i := 1376) rfl)
set_option maxRecDepth 100000 in
theorem sL_91 : zSV RL 91 yX8_on := ⟨Or.inl (List.mem_of_getElem? (i := 1379) rfl), (List.mem_of_getElem? (i := 1380) rfl), (List.mem_of_getElem? (i := 1381) rfl), (List.mem_of_getElem? (i := 142) rfl)⟩
set_option maxRecDepth 100000 in
theorem pL_91 : Cond.methodLink RL 91 yX8_on ∈ lw_tbl := (List.mem_of_getElem? (i := 1379) rfl)
set_option maxRecDepth 100000 in
theorem sX8_359 : zSV RX8 359 yX7_runOne := ⟨Or.inr ⟨"LetterTown", (List.mem_of_getElem? (i := 1384) rfl)⟩, (List.mem_of_getElem? (i := 1386) rfl), (List.mem_of_getElem? (i := 88) rfl), (List.mem_of_getElem? (i := 151) rfl)⟩
set_option maxRecDepth 100000 in
theorem sX7_48 : zSV RX7 48 yX7_whoAreOut := ⟨Or.inl (List.mem_of_getElem? (i := 1388) rfl), (List.mem_of_getElem? (i := 1390) rfl), (List.mem_of_getElem? (i := 89) rfl), (List.mem_of_getElem? (i := 151) rfl)⟩
set_option maxRecDepth 100000 in
theorem pX7_48 : Cond.methodLink RX7 48 yX7_whoAreOut ∈ lw_tbl := (List.mem_of_getElem? (i := 1388) rfl)
set_option maxRecDepth 100000 in
theorem sX7_63 : zSV RX7 63 yX7_nodeBehind := ⟨Or.inl (List.mem_of_getElem? (i := 1392) rfl), (List.mem_of_getElem? (i := 1394) rfl), (List.mem_of_getElem? (i := 90) rfl), (List.mem_of_getElem? (i := 151) rfl)⟩
set_option maxRecDepth 100000 in
theorem pX7_63 : Cond.methodLink RX7 63 yX7_nodeBehind ∈ lw_tbl := (List.mem_of_getElem? (i := 1392) rfl)
set_option maxRecDepth 100000 in
theorem sX7_83 : zSS RX7 83 yX6_whoOf := ⟨Or.inr ⟨"LetterTown", (List.mem_of_getElem? (i := 1396) rfl)⟩, (List.mem_of_getElem? (i := 625) rfl), (List.mem_of_getElem? (i := 147) rfl)⟩
set_option maxRecDepth 100000 in
theorem sX7_96 : zSV RX7 96 yX7_draw := ⟨Or.inl (List.mem_of_getElem? (i := 1397) rfl), (List.mem_of_getElem? (i := 1399) rfl), (List.mem_of_getElem? (i := 91) rfl), (List.mem_of_getElem? (i := 151) rfl)⟩
set_option maxRecDepth 100000 in
theorem pX7_96 : Cond.methodLink RX7 96 yX7_draw ∈ lw_tbl := (List.mem_of_getElem? (i := 1397) rfl)
set_option maxRecDepth 100000 in
theorem sX7_103 : zSV RX7 103 yX1_shareOpened := ⟨Or.inr ⟨"LetterTown", (List.mem_of_getElem? (i := 1402) rfl)⟩, (List.mem_of_getElem? (i := 1053) rfl), (List.mem_of_getElem? (i := 51) rfl), (List.mem_of_getElem? (i := 146) rfl)⟩
set_option maxRecDepth 100000 in
theorem sX7_106 : zSV RX7 106 yX1_targetsOf := ⟨Or.inr ⟨"LetterTown", (List.mem_of_getElem? (i := 1403) rfl)⟩, (List.mem_of_getElem? (i := 1073) rfl), (List.mem_of_getElem? (i := 55) rfl), (List.mem_of_getElem? (i := 146) rfl)⟩
set_option maxRecDepth 100000 in
theorem sX7_112 : zSV RX7 112 yX7_drawnOf := ⟨Or.inl (List.mem_of_getElem? (i := 1404) rfl), (List.mem_of_getElem? (i := 1406) rfl), (List.mem_of_getElem? (i := 92) rfl), (List.mem_of_getElem? (i := 151) rfl)⟩
set_option maxRecDepth 100000 in
theorem pX7_112 : Cond.methodLink RX7 112 yX7_drawnOf ∈ lw_tbl := (List.mem_of_getElem? (i := 1404) rfl)
set_option maxRecDepth 100000 in
theorem sX7_118 : zSV RX7 118 yX1_weightsTo := ⟨Or.inr ⟨"LetterTown", (List.mem_of_getElem? (i := 1408) rfl)⟩, (List.mem_of_getElem? (i := 1092) rfl), (List.mem_of_getElem? (i := 59) rfl), (List.mem_of_getElem? (i := 146) rfl)⟩
set_option maxRecDepth 100000 in
theorem sX7_122 : zSV RX7 122 yX1_weightTo := ⟨Or.inr ⟨"LetterTown", (List.mem_of_getElem? (i := 1409) rfl)⟩, (List.mem_of_getElem? (i := 1077) rfl), (List.mem_of_getElem? (i := 56) rfl), (List.mem_of_getElem? (i := 146) rfl)⟩
set_option maxRecDepth 100000 in
theorem sX7_79 : zSV RX7 79 yX7_noteOpened := ⟨Or.inl (List.mem_of_getElem? (i := 1410) rfl), (List.mem_of_getElem? (i := 1412) rfl), (List.mem_of_getElem? (i := 93) rfl), (List.mem_of_getElem? (i := 151) rfl)⟩
set_option maxRecDepth 100000 in
theorem pX7_79 : Cond.methodLink RX7 79 yX7_noteOpened ∈ lw_tbl := (List.mem_of_getElem? (i := 1410) rfl)
set_option maxRecDepth 100000 in
theorem sX7_87 : zSS RX7 87 yX6_handOf := ⟨Or.inr ⟨"LetterTown", (List.mem_of_getElem? (i := 1414) rfl)⟩, (List.mem_of_getElem? (i := 622) rfl), (List.mem_of_getElem? (i := 147) rfl)⟩
set_option maxRecDepth 100000 in
theorem sL_202 : zSS RL 202 yL_week := ⟨Or.inl (List.mem_of_getElem? (i := 1415) rfl), (List.mem_of_getElem? (i := 1416) rfl), (List.mem_of_getElem? (i := 141) rfl)⟩
set_option maxRecDepth 100000 in
theorem pL_202 : Cond.methodLink RL 202 yL_week ∈ lw_tbl := (List.mem_of_getElem? (i := 1415) rfl)
set_option maxRecDepth 100000 in
theorem sL_94 : zSV RL 94 yX8_week := ⟨Or.inl (List.mem_of_getElem? (i := 1418) rfl), (List.mem_of_getElem? (i := 1419) rfl), (List.mem_of_getElem? (i := 1420) rfl), (List.mem_of_getElem? (i := 142) rfl)⟩
set_option maxRecDepth 100000 in
theorem pL_94 : Cond.methodLink RL 94 yX8_week ∈ lw_tbl := (List.mem_of_getElem? (i := 1418) rfl)
set_option maxRecDepth 100000 in
theorem sX8_370 : zSV RX8 370 yX5_pence := ⟨Or.inr ⟨"LetterTown", (List.mem_of_getElem? (i := 1423) rfl)⟩, (List.mem_of_getElem? (i := 1049) rfl), (List.mem_of_getElem? (i := 50) rfl), (List.mem_of_getElem? (i := 144) rfl)⟩
set_option maxRecDepth 100000 in
theorem sL_100 : zSI RL 100 yX9_init := ⟨Or.inl (List.mem_of_getElem? (i := 1426) rfl), (List.mem_of_getElem? (i := 1427) rfl), rfl, (List.mem_of_getElem? (i := 152) rfl)⟩
set_option maxRecDepth 100000 in
theorem pL_100 : Cond.methodLink RL 100 yX9_init ∈ lw_tbl := (List.mem_of_getElem? (i := 1426) rfl)
set_option maxRecDepth 100000 in
theorem sL_112 : zSV RL 112 yX9_thrown := ⟨Or.inl (List.mem_of_getElem? (i := 1697) rfl), (List.mem_of_getElem? (i := 1698) rfl), (List.mem_of_getElem? (i := 1699) rfl), (List.mem_of_getElem? (i := 152) rfl)⟩
set_option maxRecDepth 100000 in
theorem pL_112 : Cond.methodLink RL 112 yX9_thrown ∈ lw_tbl := (List.mem_of_getElem? (i := 1697) rfl)
set_option maxRecDepth 100000 in
theorem sL_105 : zSV RL 105 yX9_feed := ⟨Or.inl (List.mem_of_getElem? (i := 1701) rfl), (List.mem_of_getElem? (i := 1702) rfl), (List.mem_of_getElem? (i := 1703) rfl), (List.mem_of_getElem? (i := 152) rfl)⟩
set_option maxRecDepth 100000 in
theorem pL_105 : Cond.methodLink RL 105 yX9_feed ∈ lw_tbl := (List.mem_of_getElem? (i := 1701) rfl)
set_option maxRecDepth 100000 in
theorem sX9_176 : zSV RX9 176 yX9_lays := ⟨Or.inl (List.mem_of_getElem? (i := 1705) rfl), (List.mem_of_getElem? (i := 1707) rfl), (List.mem_of_getElem? (i := 94) rfl), (List.mem_of_getElem? (i := 152) rfl)⟩
set_option maxRecDepth 100000 in
theorem pX9_176 : Cond.methodLink RX9 176 yX9_lays ∈ lw_tbl := (List.mem_of_getElem? (i := 1705) rfl)
set_option maxRecDepth 100000 in
theorem sL_111 : zSV RL 111 yX9_town := ⟨Or.inl (List.mem_of_getElem? (i := 1709) rfl), (List.mem_of_getElem? (i := 1710) rfl), (List.mem_of_getElem? (i := 1711) rfl), (List.mem_of_getElem? (i := 152) rfl)⟩
set_option maxRecDepth 100000 in
theorem pL_111 : Cond.methodLink RL 111 yX9_town ∈ lw_tbl := (List.mem_of_getElem? (i := 1709) rfl)
set_option maxRecDepth 100000 in
theorem sX9_291 : zSV RX9 291 yX9_right := ⟨Or.inl (List.mem_of_getElem? (i := 1713) rfl), (List.mem_of_getElem? (i := 1715) rfl), (List.mem_of_getElem? (i := 95) rfl), (List.mem_of_getElem? (i := 152) rfl)⟩
set_option maxRecDepth 100000 in
theorem pX9_291 : Cond.methodLink RX9 291 yX9_right ∈ lw_tbl := (List.mem_of_getElem? (i := 1713) rfl)
set_option maxRecDepth 100000 in
theorem sX9_228 : zSV RX9 228 yX9_steps := ⟨Or.inl (List.mem_of_getElem? (i := 1717) rfl), (List.mem_of_getElem? (i := 1719) rfl), (List.mem_of_getElem? (i := 96) rfl), (List.mem_of_getElem? (i := 152) rfl)⟩
set_option maxRecDepth 100000 in
theorem pX9_228 : Cond.methodLink RX9 228 yX9_steps ∈ lw_tbl := (List.mem_of_getElem? (i := 1717) rfl)
set_option maxRecDepth 100000 in
theorem sX9_186 : zSV RX9 186 yX9_byteAt := ⟨Or.inl (List.mem_of_getElem? (i := 1721) rfl), (List.mem_of_getElem? (i := 1723) rfl), (List.mem_of_getElem? (i := 97) rfl), (List.mem_of_getElem? (i := 152) rfl)⟩
set_option maxRecDepth 100000 in
theorem pX9_186 : Cond.methodLink RX9 186 yX9_byteAt ∈ lw_tbl := (List.mem_of_getElem? (i := 1721) rfl)
set_option maxRecDepth 100000 in
theorem sX9_203 : zSS RX9 203 yX9_isLetter := ⟨Or.inl (List.mem_of_getElem? (i := 1725) rfl), (List.mem_of_getElem? (i := 1726) rfl), (List.mem_of_getElem? (i := 152) rfl)⟩
set_option maxRecDepth 100000 in
theorem pX9_203 : Cond.methodLink RX9 203 yX9_isLetter ∈ lw_tbl := (List.mem_of_getElem? (i := 1725) rfl)
set_option maxRecDepth 100000 in
theorem sX9_207 : zSS RX9 207 yX9_isDigit := ⟨Or.inl (List.mem_of_getElem? (i := 1728) rfl), (List.mem_of_getElem? (i := 1729) rfl), (List.mem_of_getElem? (i := 152) rfl)⟩
set_option maxRecDepth 100000 in
theorem pX9_207 : Cond.methodLink RX9 207 yX9_isDigit ∈ lw_tbl := (List.mem_of_getElem? (i := 1728) rfl)
set_option maxRecDepth 100000 in
theorem sX9_224 : zSV RX9 224 yX9_isGood := ⟨Or.inl (List.mem_of_getElem? (i := 1731) rfl), (List.mem_of_getElem? (i := 1733) rfl), (List.mem_of_getElem? (i := 98) rfl), (List.mem_of_getElem? (i := 152) rfl)⟩
set_option maxRecDepth 100000 in
theorem pX9_224 : Cond.methodLink RX9 224 yX9_isGood ∈ lw_tbl := (List.mem_of_getElem? (i := 1731) rfl)
set_option maxRecDepth 100000 in
theorem sX9_295 : zSV RX9 295 yX9_line := ⟨Or.inl (List.mem_of_getElem? (i := 1735) rfl), (List.mem_of_getElem? (i := 1737) rfl), (List.mem_of_getElem? (i := 99) rfl), (List.mem_of_getElem? (i := 152) rfl)⟩
set_option maxRecDepth 100000 in
theorem pX9_295 : Cond.methodLink RX9 295 yX9_line ∈ lw_tbl := (List.mem_of_getElem? (i := 1735) rfl)
set_option maxRecDepth 100000 in
theorem sX9_234 : zSV RX9 234 yX9_is := ⟨Or.inl (List.mem_of_getElem? (i := 1739) rfl), (List.mem_of_getElem? (i := 1741) rfl), (List.mem_of_getElem? (i := 100) rfl), (List.mem_of_getElem? (i := 152) rfl)⟩
set_option maxRecDepth 100000 in
theorem pX9_234 : Cond.methodLink RX9 234 yX9_is ∈ lw_tbl := (List.mem_of_getElem? (i := 1739) rfl)
set_option maxRecDepth 100000 in
theorem sX9_217 : zSS RX9 217 yX9_letters := ⟨Or.inl (List.mem_of_getElem? (i := 1743) rfl), (List.mem_of_getElem? (i := 1744) rfl), (List.mem_of_getElem? (i := 152) rfl)⟩
set_option maxRecDepth 100000 in
theorem pX9_217 : Cond.methodLink RX9 217 yX9_letters ∈ lw_tbl := (List.mem_of_getElem? (i := 1743) rfl)
set_option maxRecDepth 100000 in
theorem sX9_213 : zSS RX9 213 yX9_spelled := ⟨Or.inl (List.mem_of_getElem? (i := 1746) rfl), (List.mem_of_getElem? (i := 1747) rfl), (List.mem_of_getElem? (i := 152) rfl)⟩
set_option maxRecDepth 100000 in
theorem pX9_213 : Cond.methodLink RX9 213 yX9_spelled ∈ lw_tbl := (List.mem_of_getElem? (i := 1746) rfl)
set_option maxRecDepth 100000 in
theorem sX9_266 : zSV RX9 266 yX9_readsPerson := ⟨Or.inl (List.mem_of_getElem? (i := 1749) rfl), (List.mem_of_getElem? (i := 1751) rfl), (List.mem_of_getElem? (i := 101) rfl), (List.mem_of_getElem? (i := 152) rfl)⟩
set_option maxRecDepth 100000 in
theorem pX9_266 : Cond.methodLink RX9 266 yX9_readsPerson ∈ lw_tbl := (List.mem_of_getElem? (i := 1749) rfl)
set_option maxRecDepth 100000 in
theorem sX9_231 : zSV RX9 231 yX9_wrong := ⟨Or.inl (List.mem_of_getElem? (i := 1753) rfl), (List.mem_of_getElem? (i := 1755) rfl), (List.mem_of_getElem? (i := 102) rfl), (List.mem_of_getElem? (i := 152) rfl)⟩
set_option maxRecDepth 100000 in
theorem pX9_231 : Cond.methodLink RX9 231 yX9_wrong ∈ lw_tbl := (List.mem_of_getElem? (i := 1753) rfl)
set_option maxRecDepth 100000 in
theorem sX9_237 : zSV RX9 237 yX9_number := ⟨Or.inl (List.mem_of_getElem? (i := 1757) rfl), (List.mem_of_getElem? (i := 1759) rfl), (List.mem_of_getElem? (i := 103) rfl), (List.mem_of_getElem? (i := 152) rfl)⟩
set_option maxRecDepth 100000 in
theorem pX9_237 : Cond.methodLink RX9 237 yX9_number ∈ lw_tbl := (List.mem_of_getElem? (i := 1757) rfl)
set_option maxRecDepth 100000 in
theorem sX9_244 : zSV RX9 244 yX9_perhaps := ⟨Or.inl (List.mem_of_getElem? (i := 1761) rfl), (List.mem_of_getElem? (i := 1763) rfl), (List.mem_of_getElem? (i := 104) rfl), (List.mem_of_getElem? (i := 152) rfl)⟩
set_option maxRecDepth 100000 in
theorem pX9_244 : Cond.methodLink RX9 244 yX9_perhaps ∈ lw_tbl := (List.mem_of_getElem? (i := 1761) rfl)
set_option maxRecDepth 100000 in
theorem sX9_269 : zSV RX9 269 yX9_readsKnows := ⟨Or.inl (List.mem_of_getElem? (i := 1765) rfl), (List.mem_of_getElem? (i := 1767) rfl), (List.mem_of_getElem? (i := 105) rfl), (List.mem_of_getElem? (i := 152) rfl)⟩
set_option maxRecDepth 100000 in
theorem pX9_269 : Cond.methodLink RX9 269 yX9_readsKnows ∈ lw_tbl := (List.mem_of_getElem? (i := 1765) rfl)
set_option maxRecDepth 100000 in
theorem sX9_248 : zSV RX9 248 yX9_personHere := ⟨Or.inl (List.mem_of_getElem? (i := 1769) rfl), (List.mem_of_getElem? (i := 1771) rfl), (List.mem_of_getElem? (i := 106) rfl), (List.mem_of_getElem? (i := 152) rfl)⟩
set_option maxRecDepth 100000 in
theorem pX9_248 : Cond.methodLink RX9 248 yX9_personHere ∈ lw_tbl := (List.mem_of_getElem? (i := 1769) rfl)
set_option maxRecDepth 100000 in
theorem sX9_275 : zSV RX9 275 yX9_readsLetter := ⟨Or.inl (List.mem_of_getElem? (i := 1773) rfl), (List.mem_of_getElem? (i := 1775) rfl), (List.mem_of_getElem? (i := 107) rfl), (List.mem_of_getElem? (i := 152) rfl)⟩
set_option maxRecDepth 100000 in
theorem pX9_275 : Cond.methodLink RX9 275 yX9_readsLetter ∈ lw_tbl := (List.mem_of_getElem? (i := 1773) rfl)
set_option maxRecDepth 100000 in
theorem sX9_281 : zSV RX9 281 yX9_need := ⟨Or.inl (List.mem_of_getElem? (i := 1777) rfl), (List.mem_of_getElem? (i := 1779) rfl), (List.mem_of_getElem? (i := 108) rfl), (List.mem_of_getElem? (i := 152) rfl)⟩
set_option maxRecDepth 100000 in
theorem pX9_281 : Cond.methodLink RX9 281 yX9_need ∈ lw_tbl := (List.mem_of_getElem? (i := 1777) rfl)
set_option maxRecDepth 100000 in
theorem sX9_313 : zSV RX9 313 yX9_copies := ⟨Or.inl (List.mem_of_getElem? (i := 1781) rfl), (List.mem_of_getElem? (i := 1783) rfl), (List.mem_of_getElem? (i := 109) rfl), (List.mem_of_getElem? (i := 152) rfl)⟩
set_option maxRecDepth 100000 in
theorem pX9_313 : Cond.methodLink RX9 313 yX9_copies ∈ lw_tbl := (List.mem_of_getElem? (i := 1781) rfl)
set_option maxRecDepth 100000 in
theorem sL_118 : zSV RL 118 yX9_fault := ⟨Or.inl (List.mem_of_getElem? (i := 1785) rfl), (List.mem_of_getElem? (i := 1786) rfl), (List.mem_of_getElem? (i := 1787) rfl), (List.mem_of_getElem? (i := 152) rfl)⟩
set_option maxRecDepth 100000 in
theorem pL_118 : Cond.methodLink RL 118 yX9_fault ∈ lw_tbl := (List.mem_of_getElem? (i := 1785) rfl)
set_option maxRecDepth 100000 in
theorem sL_121 : zSV RL 121 yX9_count := ⟨Or.inl (List.mem_of_getElem? (i := 1789) rfl), (List.mem_of_getElem? (i := 1790) rfl), (List.mem_of_getElem? (i := 1791) rfl), (List.mem_of_getElem? (i := 152) rfl)⟩
set_option maxRecDepth 100000 in
theorem pL_121 : Cond.methodLink RL 121 yX9_count ∈ lw_tbl := (List.mem_of_getElem? (i := 1789) rfl)
set_option maxRecDepth 100000 in
theorem sX9_336 : zSS RX9 336 yX9_within := ⟨Or.inl (List.mem_of_getElem? (i := 1793) rfl), (List.mem_of_getElem? (i := 1794) rfl), (List.mem_of_getElem? (i := 152) rfl)⟩
set_option maxRecDepth 100000 in
theorem pX9_336 : Cond.methodLink RX9 336 yX9_within ∈ lw_tbl := (List.mem_of_getElem? (i := 1793) rfl)
set_option maxRecDepth 100000 in
theorem sL_125 : zSV RL 125 yX9_person := ⟨Or.inl (List.mem_of_getElem? (i := 1796) rfl), (List.mem_of_getElem? (i := 1797) rfl), (List.mem_of_getElem? (i := 1798) rfl), (List.mem_of_getElem? (i := 152) rfl)⟩
set_option maxRecDepth 100000 in
theorem pL_125 : Cond.methodLink RL 125 yX9_person ∈ lw_tbl := (List.mem_of_getElem? (i := 1796) rfl)
set_option maxRecDepth 100000 in
theorem sX9_339 : zSV RX9 339 yX9_isPerson := ⟨Or.inl (List.mem_of_getElem? (i := 1800) rfl), (List.mem_of_getElem? (i := 1802) rfl), (List.mem_of_getElem? (i := 110) rfl), (List.mem_of_getElem? (i := 152) rfl)⟩
set_option maxRecDepth 100000 in
theorem pX9_339 : Cond.methodLink RX9 339 yX9_isPerson ∈ lw_tbl := (List.mem_of_getElem? (i := 1800) rfl)
set_option maxRecDepth 100000 in
theorem sL_128 : zSV RL 128 yX9_weight := ⟨Or.inl (List.mem_of_getElem? (i := 1804) rfl), (List.mem_of_getElem? (i := 1805) rfl), (List.mem_of_getElem? (i := 1806) rfl), (List.mem_of_getElem? (i := 152) rfl)⟩
set_option maxRecDepth 100000 in
theorem pL_128 : Cond.methodLink RL 128 yX9_weight ∈ lw_tbl := (List.mem_of_getElem? (i := 1804) rfl)
set_option maxRecDepth 100000 in
theorem sL_131 : zSV RL 131 yX9_opened := ⟨Or.inl (List.mem_of_getElem? (i := 1808) rfl), (List.mem_of_getElem? (i := 1809) rfl), (List.mem_of_getElem? (i := 1810) rfl), (List.mem_of_getElem? (i := 152) rfl)⟩
set_option maxRecDepth 100000 in
theorem pL_131 : Cond.methodLink RL 131 yX9_opened ∈ lw_tbl := (List.mem_of_getElem? (i := 1808) rfl)
set_option maxRecDepth 100000 in
theorem sX9_413 : zSV RX9 413 yX9_asTold := ⟨Or.inl (List.mem_of_getElem? (i := 1812) rfl), (List.mem_of_getElem? (i := 1814) rfl), (List.mem_of_getElem? (i := 111) rfl), (List.mem_of_getElem? (i := 152) rfl)⟩
set_option maxRecDepth 100000 in
theorem pX9_413 : Cond.methodLink RX9 413 yX9_asTold ∈ lw_tbl := (List.mem_of_getElem? (i := 1812) rfl)
set_option maxRecDepth 100000 in
theorem sX9_416 : zSV RX9 416 yX9_asks := ⟨Or.inl (List.mem_of_getElem? (i := 1816) rfl), (List.mem_of_getElem? (i := 1818) rfl), (List.mem_of_getElem? (i := 112) rfl), (List.mem_of_getElem? (i := 152) rfl)⟩
set_option maxRecDepth 100000 in
theorem pX9_416 : Cond.methodLink RX9 416 yX9_asks ∈ lw_tbl := (List.mem_of_getElem? (i := 1816) rfl)
set_option maxRecDepth 100000 in
theorem sX9_403 : zSV RX9 403 yX9_builds := ⟨Or.inl (List.mem_of_getElem? (i := 1820) rfl), (List.mem_of_getElem? (i := 1822) rfl), (List.mem_of_getElem? (i := 113) rfl), (List.mem_of_getElem? (i := 152) rfl)⟩
set_option maxRecDepth 100000 in
theorem pX9_403 : Cond.methodLink RX9 403 yX9_builds ∈ lw_tbl := (List.mem_of_getElem? (i := 1820) rfl)
set_option maxRecDepth 100000 in
theorem sX9_360 : zSV RX9 360 yX9_hand0 := ⟨Or.inl (List.mem_of_getElem? (i := 1824) rfl), (List.mem_of_getElem? (i := 1826) rfl), (List.mem_of_getElem? (i := 114) rfl), (List.mem_of_getElem? (i := 152) rfl)⟩
set_option maxRecDepth 100000 in
theorem pX9_360 : Cond.methodLink RX9 360 yX9_hand0 ∈ lw_tbl := (List.mem_of_getElem? (i := 1824) rfl)
set_option maxRecDepth 100000 in
theorem sX9_351 : zSS RX9 351 yX9_mixOf := ⟨Or.inl (List.mem_of_getElem? (i := 1828) rfl), (List.mem_of_getElem? (i := 1829) rfl), (List.mem_of_getElem? (i := 152) rfl)⟩
set_option maxRecDepth 100000 in
theorem pX9_351 : Cond.methodLink RX9 351 yX9_mixOf ∈ lw_tbl := (List.mem_of_getElem? (i := 1828) rfl)
set_option maxRecDepth 100000 in
theorem sX9_363 : zSV RX9 363 yX9_may := ⟨Or.inl (List.mem_of_getElem? (i := 1834) rfl), (List.mem_of_getElem? (i := 1836) rfl), (List.mem_of_getElem? (i := 115) rfl), (List.mem_of_getElem? (i := 152) rfl)⟩
set_option maxRecDepth 100000 in
theorem pX9_363 : Cond.methodLink RX9 363 yX9_may ∈ lw_tbl := (List.mem_of_getElem? (i := 1834) rfl)
set_option maxRecDepth 100000 in
theorem sX9_406 : zSV RX9 406 yX9_reckons := ⟨Or.inl (List.mem_of_getElem? (i := 1838) rfl), (List.mem_of_getElem? (i := 1840) rfl), (List.mem_of_getElem? (i := 116) rfl), (List.mem_of_getElem? (i := 152) rfl)⟩
set_option maxRecDepth 100000 in
theorem pX9_406 : Cond.methodLink RX9 406 yX9_reckons ∈ lw_tbl := (List.mem_of_getElem? (i := 1838) rfl)
set_option maxRecDepth 100000 in
theorem sX9_386 : zSV RX9 386 yX9_weightsOf := ⟨Or.inl (List.mem_of_getElem? (i := 1842) rfl), (List.mem_of_getElem? (i := 1844) rfl), (List.mem_of_getElem? (i := 117) rfl), (List.mem_of_getElem? (i := 152) rfl)⟩
set_option maxRecDepth 100000 in
theorem pX9_386 : Cond.methodLink RX9 386 yX9_weightsOf ∈ lw_tbl := (List.mem_of_getElem? (i := 1842) rfl)
set_option maxRecDepth 100000 in
theorem sX9_389 : zSV RX9 389 yX9_opens := ⟨Or.inl (List.mem_of_getElem? (i := 1846) rfl), (List.mem_of_getElem? (i := 1848) rfl), (List.mem_of_getElem? (i := 118) rfl), (List.mem_of_getElem? (i := 152) rfl)⟩
set_option maxRecDepth 100000 in
theorem pX9_389 : Cond.methodLink RX9 389 yX9_opens ∈ lw_tbl := (List.mem_of_getElem? (i := 1846) rfl)
set_option maxRecDepth 100000 in
theorem sX9_367 : zSV RX9 367 yX9_pence := ⟨Or.inl (List.mem_of_getElem? (i := 1851) rfl), (List.mem_of_getElem? (i := 1853) rfl), (List.mem_of_getElem? (i := 119) rfl), (List.mem_of_getElem? (i := 152) rfl)⟩
set_option maxRecDepth 100000 in
theorem pX9_367 : Cond.methodLink RX9 367 yX9_pence ∈ lw_tbl := (List.mem_of_getElem? (i := 1851) rfl)
set_option maxRecDepth 100000 in
theorem sX9_392 : zSV RX9 392 yX9_worth := ⟨Or.inl (List.mem_of_getElem? (i := 1856) rfl), (List.mem_of_getElem? (i := 1858) rfl), (List.mem_of_getElem? (i := 120) rfl), (List.mem_of_getElem? (i := 152) rfl)⟩
set_option maxRecDepth 100000 in
theorem pX9_392 : Cond.methodLink RX9 392 yX9_worth ∈ lw_tbl := (List.mem_of_getElem? (i := 1856) rfl)
set_option maxRecDepth 100000 in
theorem sX9_378 : zSV RX9 378 yX9_bySending := ⟨Or.inl (List.mem_of_getElem? (i := 1860) rfl), (List.mem_of_getElem? (i := 1862) rfl), (List.mem_of_getElem? (i := 121) rfl), (List.mem_of_getElem? (i := 152) rfl)⟩
set_option maxRecDepth 100000 in
theorem pX9_378 : Cond.methodLink RX9 378 yX9_bySending ∈ lw_tbl := (List.mem_of_getElem? (i := 1860) rfl)
set_option maxRecDepth 100000 in
theorem sX9_374 : zSV RX9 374 yX9_paid := ⟨Or.inl (List.mem_of_getElem? (i := 1864) rfl), (List.mem_of_getElem? (i := 1866) rfl), (List.mem_of_getElem? (i := 122) rfl), (List.mem_of_getElem? (i := 152) rfl)⟩
set_option maxRecDepth 100000 in
theorem pX9_374 : Cond.methodLink RX9 374 yX9_paid ∈ lw_tbl := (List.mem_of_getElem? (i := 1864) rfl)
set_option maxRecDepth 100000 in
theorem sX9_396 : zSV RX9 396 yX9_isOpenedAt := ⟨Or.inl (List.mem_of_getElem? (i := 1868) rfl), (List.mem_of_getElem? (i := 1870) rfl), (List.mem_of_getElem? (i := 123) rfl), (List.mem_of_getElem? (i := 152) rfl)⟩
set_option maxRecDepth 100000 in
theorem pX9_396 : Cond.methodLink RX9 396 yX9_isOpenedAt ∈ lw_tbl := (List.mem_of_getElem? (i := 1868) rfl)
set_option maxRecDepth 100000 in
theorem sX9_399 : zSV RX9 399 yX9_sends := ⟨Or.inl (List.mem_of_getElem? (i := 1872) rfl), (List.mem_of_getElem? (i := 1874) rfl), (List.mem_of_getElem? (i := 124) rfl), (List.mem_of_getElem? (i := 152) rfl)⟩
set_option maxRecDepth 100000 in
theorem pX9_399 : Cond.methodLink RX9 399 yX9_sends ∈ lw_tbl := (List.mem_of_getElem? (i := 1872) rfl)
set_option maxRecDepth 100000 in
theorem sX9_382 : zSS RX9 382 yX9_floor := ⟨Or.inl (List.mem_of_getElem? (i := 1876) rfl), (List.mem_of_getElem? (i := 1877) rfl), (List.mem_of_getElem? (i := 152) rfl)⟩
set_option maxRecDepth 100000 in
theorem pX9_382 : Cond.methodLink RX9 382 yX9_floor ∈ lw_tbl := (List.mem_of_getElem? (i := 1876) rfl)
set_option maxRecDepth 100000 in
theorem sX9_419 : zSV RX9 419 yX9_spreads := ⟨Or.inl (List.mem_of_getElem? (i := 1879) rfl), (List.mem_of_getElem? (i := 1881) rfl), (List.mem_of_getElem? (i := 125) rfl), (List.mem_of_getElem? (i := 152) rfl)⟩
set_option maxRecDepth 100000 in
theorem pX9_419 : Cond.methodLink RX9 419 yX9_spreads ∈ lw_tbl := (List.mem_of_getElem? (i := 1879) rfl)
set_option maxRecDepth 100000 in
theorem sX9_409 : zSV RX9 409 yX9_openedOf := ⟨Or.inl (List.mem_of_getElem? (i := 1883) rfl), (List.mem_of_getElem? (i := 1885) rfl), (List.mem_of_getElem? (i := 126) rfl), (List.mem_of_getElem? (i := 152) rfl)⟩
set_option maxRecDepth 100000 in
theorem pX9_409 : Cond.methodLink RX9 409 yX9_openedOf ∈ lw_tbl := (List.mem_of_getElem? (i := 1883) rfl)
set_option maxRecDepth 100000 in
theorem sL_134 : zSV RL 134 yX9_goes := ⟨Or.inl (List.mem_of_getElem? (i := 1887) rfl), (List.mem_of_getElem? (i := 1888) rfl), (List.mem_of_getElem? (i := 1889) rfl), (List.mem_of_getElem? (i := 152) rfl)⟩
set_option maxRecDepth 100000 in
theorem pL_134 : Cond.methodLink RL 134 yX9_goes ∈ lw_tbl := (List.mem_of_getElem? (i := 1887) rfl)
set_option maxRecDepth 100000 in
theorem sX9_422 : zSV RX9 422 yX9_endAll := ⟨Or.inl (List.mem_of_getElem? (i := 1891) rfl), (List.mem_of_getElem? (i := 1893) rfl), (List.mem_of_getElem? (i := 127) rfl), (List.mem_of_getElem? (i := 152) rfl)⟩
set_option maxRecDepth 100000 in
theorem pX9_422 : Cond.methodLink RX9 422 yX9_endAll ∈ lw_tbl := (List.mem_of_getElem? (i := 1891) rfl)
set_option maxRecDepth 100000 in
theorem sX9_426 : zSV RX9 426 yX9_goesAll := ⟨Or.inl (List.mem_of_getElem? (i := 1895) rfl), (List.mem_of_getElem? (i := 1897) rfl), (List.mem_of_getElem? (i := 128) rfl), (List.mem_of_getElem? (i := 152) rfl)⟩
set_option maxRecDepth 100000 in
theorem pX9_426 : Cond.methodLink RX9 426 yX9_goesAll ∈ lw_tbl := (List.mem_of_getElem? (i := 1895) rfl)
set_option maxRecDepth 100000 in
theorem sL_137 : zSV RL 137 yX9_gets := ⟨Or.inl (List.mem_of_getElem? (i := 1899) rfl), (List.mem_of_getElem? (i := 1900) rfl), (List.mem_of_getElem? (i := 1901) rfl), (List.mem_of_getElem? (i := 152) rfl)⟩
set_option maxRecDepth 100000 in
theorem pL_137 : Cond.methodLink RL 137 yX9_gets ∈ lw_tbl := (List.mem_of_getElem? (i := 1899) rfl)
set_option maxRecDepth 100000 in
theorem sL_140 : zSV RL 140 yX9_all := ⟨Or.inl (List.mem_of_getElem? (i := 1903) rfl), (List.mem_of_getElem? (i := 1904) rfl), (List.mem_of_getElem? (i := 1905) rfl), (List.mem_of_getElem? (i := 152) rfl)⟩
set_option maxRecDepth 100000 in
theorem pL_140 : Cond.methodLink RL 140 yX9_all ∈ lw_tbl := (List.mem_of_getElem? (i := 1903) rfl)
set_option maxRecDepth 100000 in
theorem sX9_429 : zSV RX9 429 yX9_allReckon := ⟨Or.inl (List.mem_of_getElem? (i := 1907) rfl), (List.mem_of_getElem? (i := 1909) rfl), (List.mem_of_getElem? (i := 129) rfl), (List.mem_of_getElem? (i := 152) rfl)⟩
set_option maxRecDepth 100000 in
theorem pX9_429 : Cond.methodLink RX9 429 yX9_allReckon ∈ lw_tbl := (List.mem_of_getElem? (i := 1907) rfl)
set_option maxRecDepth 100000 in
theorem sL_144 : zSV RL 144 yX9_least := ⟨Or.inl (List.mem_of_getElem? (i := 1911) rfl), (List.mem_of_getElem? (i := 1912) rfl), (List.mem_of_getElem? (i := 1913) rfl), (List.mem_of_getElem? (i := 152) rfl)⟩
set_option maxRecDepth 100000 in
theorem pL_144 : Cond.methodLink RL 144 yX9_least ∈ lw_tbl := (List.mem_of_getElem? (i := 1911) rfl)
set_option maxRecDepth 100000 in
theorem sL_148 : zSV RL 148 yX9_one := ⟨Or.inl (List.mem_of_getElem? (i := 1915) rfl), (List.mem_of_getElem? (i := 1916) rfl), (List.mem_of_getElem? (i := 1917) rfl), (List.mem_of_getElem? (i := 152) rfl)⟩
set_option maxRecDepth 100000 in
theorem pL_148 : Cond.methodLink RL 148 yX9_one ∈ lw_tbl := (List.mem_of_getElem? (i := 1915) rfl)
set_option maxRecDepth 100000 in
theorem sL_151 : zSV RL 151 yX9_named := ⟨Or.inl (List.mem_of_getElem? (i := 1919) rfl), (List.mem_of_getElem? (i := 1920) rfl), (List.mem_of_getElem? (i := 1921) rfl), (List.mem_of_getElem? (i := 152) rfl)⟩
set_option maxRecDepth 100000 in
theorem pL_151 : Cond.methodLink RL 151 yX9_named ∈ lw_tbl := (List.mem_of_getElem? (i := 1919) rfl)
set_option maxRecDepth 100000 in
theorem sL_154 : zSV RL 154 yX9_hand := ⟨Or.inl (List.mem_of_getElem? (i := 1924) rfl), (List.mem_of_getElem? (i := 1925) rfl), (List.mem_of_getElem? (i := 1926) rfl), (List.mem_of_getElem? (i := 152) rfl)⟩
set_option maxRecDepth 100000 in
theorem pL_154 : Cond.methodLink RL 154 yX9_hand ∈ lw_tbl := (List.mem_of_getElem? (i := 1924) rfl)
set_option maxRecDepth 100000 in
theorem sL_158 : zSV RL 158 yX9_judge := ⟨Or.inl (List.mem_of_getElem? (i := 1928) rfl), (List.mem_of_getElem? (i := 1929) rfl), (List.mem_of_getElem? (i := 1930) rfl), (List.mem_of_getElem? (i := 152) rfl)⟩
set_option maxRecDepth 100000 in
theorem pL_158 : Cond.methodLink RL 158 yX9_judge ∈ lw_tbl := (List.mem_of_getElem? (i := 1928) rfl)
set_option maxRecDepth 100000 in
theorem sX9_438 : zSV RX9 438 yX9_asksRow := ⟨Or.inl (List.mem_of_getElem? (i := 1932) rfl), (List.mem_of_getElem? (i := 1934) rfl), (List.mem_of_getElem? (i := 130) rfl), (List.mem_of_getElem? (i := 152) rfl)⟩
set_option maxRecDepth 100000 in
theorem pX9_438 : Cond.methodLink RX9 438 yX9_asksRow ∈ lw_tbl := (List.mem_of_getElem? (i := 1932) rfl)
set_option maxRecDepth 100000 in
theorem sX9_441 : zSV RX9 441 yX9_firstWrong := ⟨Or.inl (List.mem_of_getElem? (i := 1936) rfl), (List.mem_of_getElem? (i := 1938) rfl), (List.mem_of_getElem? (i := 131) rfl), (List.mem_of_getElem? (i := 152) rfl)⟩
set_option maxRecDepth 100000 in
theorem pX9_441 : Cond.methodLink RX9 441 yX9_firstWrong ∈ lw_tbl := (List.mem_of_getElem? (i := 1936) rfl)
set_option maxRecDepth 100000 in
theorem sL_162 : zSV RL 162 yX9_odds := ⟨Or.inl (List.mem_of_getElem? (i := 1940) rfl), (List.mem_of_getElem? (i := 1941) rfl), (List.mem_of_getElem? (i := 1942) rfl), (List.mem_of_getElem? (i := 152) rfl)⟩
set_option maxRecDepth 100000 in
theorem pL_162 : Cond.methodLink RL 162 yX9_odds ∈ lw_tbl := (List.mem_of_getElem? (i := 1940) rfl)
set_option maxRecDepth 100000 in
theorem sX9_451 : zSV RX9 451 yX9_oddsNow := ⟨Or.inl (List.mem_of_getElem? (i := 1944) rfl), (List.mem_of_getElem? (i := 1946) rfl), (List.mem_of_getElem? (i := 132) rfl), (List.mem_of_getElem? (i := 152) rfl)⟩
set_option maxRecDepth 100000 in
theorem pX9_451 : Cond.methodLink RX9 451 yX9_oddsNow ∈ lw_tbl := (List.mem_of_getElem? (i := 1944) rfl)
set_option maxRecDepth 100000 in
theorem sX9_447 : zSV RX9 447 yX9_stepTo := ⟨Or.inl (List.mem_of_getElem? (i := 1948) rfl), (List.mem_of_getElem? (i := 1950) rfl), (List.mem_of_getElem? (i := 133) rfl), (List.mem_of_getElem? (i := 152) rfl)⟩
set_option maxRecDepth 100000 in
theorem pX9_447 : Cond.methodLink RX9 447 yX9_stepTo ∈ lw_tbl := (List.mem_of_getElem? (i := 1948) rfl)
set_option maxRecDepth 100000 in
theorem sX9_444 : zSV RX9 444 yX9_sentOf := ⟨Or.inl (List.mem_of_getElem? (i := 1952) rfl), (List.mem_of_getElem? (i := 1954) rfl), (List.mem_of_getElem? (i := 134) rfl), (List.mem_of_getElem? (i := 152) rfl)⟩
set_option maxRecDepth 100000 in
theorem pX9_444 : Cond.methodLink RX9 444 yX9_sentOf ∈ lw_tbl := (List.mem_of_getElem? (i := 1952) rfl)
set_option maxRecDepth 100000 in
theorem sL_166 : zSV RL 166 yX9_ended := ⟨Or.inl (List.mem_of_getElem? (i := 1956) rfl), (List.mem_of_getElem? (i := 1957) rfl), (List.mem_of_getElem? (i := 1958) rfl), (List.mem_of_getElem? (i := 152) rfl)⟩
set_option maxRecDepth 100000 in
theorem pL_166 : Cond.methodLink RL 166 yX9_ended ∈ lw_tbl := (List.mem_of_getElem? (i := 1956) rfl)
set_option maxRecDepth 100000 in
theorem sL_169 : zSV RL 169 yX9_guess := ⟨Or.inl (List.mem_of_getElem? (i := 1960) rfl), (List.mem_of_getElem? (i := 1961) rfl), (List.mem_of_getElem? (i := 1962) rfl), (List.mem_of_getElem? (i := 152) rfl)⟩
set_option maxRecDepth 100000 in
theorem pL_169 : Cond.methodLink RL 169 yX9_guess ∈ lw_tbl := (List.mem_of_getElem? (i := 1960) rfl)
set_option maxRecDepth 100000 in
theorem sL_172 : zSV RL 172 yX9_credit := ⟨Or.inl (List.mem_of_getElem? (i := 1964) rfl), (List.mem_of_getElem? (i := 1965) rfl), (List.mem_of_getElem? (i := 1966) rfl), (List.mem_of_getElem? (i := 152) rfl)⟩
set_option maxRecDepth 100000 in
theorem pL_172 : Cond.methodLink RL 172 yX9_credit ∈ lw_tbl := (List.mem_of_getElem? (i := 1964) rfl)
set_option maxRecDepth 100000 in
theorem sX9_454 : zSV RX9 454 yX9_isTold := ⟨Or.inl (List.mem_of_getElem? (i := 1968) rfl), (List.mem_of_getElem? (i := 1970) rfl), (List.mem_of_getElem? (i := 135) rfl), (List.mem_of_getElem? (i := 152) rfl)⟩
set_option maxRecDepth 100000 in
theorem pX9_454 : Cond.methodLink RX9 454 yX9_isTold ∈ lw_tbl := (List.mem_of_getElem? (i := 1968) rfl)
set_option maxRecDepth 100000 in
theorem sL_175 : zSV RL 175 yX9_chain := ⟨Or.inl (List.mem_of_getElem? (i := 1973) rfl), (List.mem_of_getElem? (i := 1974) rfl), (List.mem_of_getElem? (i := 1975) rfl), (List.mem_of_getElem? (i := 152) rfl)⟩
set_option maxRecDepth 100000 in
theorem pL_175 : Cond.methodLink RL 175 yX9_chain ∈ lw_tbl := (List.mem_of_getElem? (i := 1973) rfl)
set_option maxRecDepth 100000 in
theorem sL_178 : zSV RL 178 yX9_chained := ⟨Or.inl (List.mem_of_getElem? (i := 1978) rfl), (List.mem_of_getElem? (i := 1979) rfl), (List.mem_of_getElem? (i := 1980) rfl), (List.mem_of_getElem? (i := 152) rfl)⟩
set_option maxRecDepth 100000 in
theorem pL_178 : Cond.methodLink RL 178 yX9_chained ∈ lw_tbl := (List.mem_of_getElem? (i := 1978) rfl)
set_option maxRecDepth 100000 in
theorem sL_181 : zSV RL 181 yX9_two := ⟨Or.inl (List.mem_of_getElem? (i := 1982) rfl), (List.mem_of_getElem? (i := 1983) rfl), (List.mem_of_getElem? (i := 1984) rfl), (List.mem_of_getElem? (i := 152) rfl)⟩
set_option maxRecDepth 100000 in
theorem pL_181 : Cond.methodLink RL 181 yX9_two ∈ lw_tbl := (List.mem_of_getElem? (i := 1982) rfl)
set_option maxRecDepth 100000 in
theorem sL_184 : zSV RL 184 yX9_feeling := ⟨Or.inl (List.mem_of_getElem? (i := 1986) rfl), (List.mem_of_getElem? (i := 1987) rfl), (List.mem_of_getElem? (i := 1988) rfl), (List.mem_of_getElem? (i := 152) rfl)⟩
set_option maxRecDepth 100000 in
theorem pL_184 : Cond.methodLink RL 184 yX9_feeling ∈ lw_tbl := (List.mem_of_getElem? (i := 1986) rfl)
set_option maxRecDepth 100000 in
theorem sL_187 : zSV RL 187 yX9_theft := ⟨Or.inl (List.mem_of_getElem? (i := 1990) rfl), (List.mem_of_getElem? (i := 1991) rfl), (List.mem_of_getElem? (i := 1992) rfl), (List.mem_of_getElem? (i := 152) rfl)⟩
set_option maxRecDepth 100000 in
theorem pL_187 : Cond.methodLink RL 187 yX9_theft ∈ lw_tbl := (List.mem_of_getElem? (i := 1990) rfl)
set_option maxRecDepth 100000 in
theorem sL_190 : zSV RL 190 yX9_thieves := ⟨Or.inl (List.mem_of_getElem? (i := 1994) rfl), (List.mem_of_getElem? (i := 1995) rfl), (List.mem_of_getElem? (i := 1996) rfl), (List.mem_of_getElem? (i := 152) rfl)⟩
set_option maxRecDepth 100000 in
theorem pL_190 : Cond.methodLink RL 190 yX9_thieves ∈ lw_tbl := (List.mem_of_getElem? (i := 1994) rfl)
set_option maxRecDepth 100000 in
theorem sX9_461 : zSS RX9 461 yX9_bits := ⟨Or.inl (List.mem_of_getElem? (i := 1998) rfl), (List.mem_of_getElem? (i := 1999) rfl), (List.mem_of_getElem? (i := 152) rfl)⟩
set_option maxRecDepth 100000 in
theorem pX9_461 : Cond.methodLink RX9 461 yX9_bits ∈ lw_tbl := (List.mem_of_getElem? (i := 1998) rfl)
set_option maxRecDepth 100000 in
theorem sX9_464 : zSV RX9 464 yX9_nearest := ⟨Or.inl (List.mem_of_getElem? (i := 2001) rfl), (List.mem_of_getElem? (i := 2003) rfl), (List.mem_of_getElem? (i := 136) rfl), (List.mem_of_getElem? (i := 152) rfl)⟩
set_option maxRecDepth 100000 in
theorem pX9_464 : Cond.methodLink RX9 464 yX9_nearest ∈ lw_tbl := (List.mem_of_getElem? (i := 2001) rfl)
set_option maxRecDepth 100000 in
theorem sL_194 : zSV RL 194 yX9_luck := ⟨Or.inl (List.mem_of_getElem? (i := 2005) rfl), (List.mem_of_getElem? (i := 2006) rfl), (List.mem_of_getElem? (i := 2007) rfl), (List.mem_of_getElem? (i := 152) rfl)⟩
set_option maxRecDepth 100000 in
theorem pL_194 : Cond.methodLink RL 194 yX9_luck ∈ lw_tbl := (List.mem_of_getElem? (i := 2005) rfl)
set_option maxRecDepth 100000 in
theorem sL_198 : zSV RL 198 yX9_begin := ⟨Or.inl (List.mem_of_getElem? (i := 2009) rfl), (List.mem_of_getElem? (i := 2010) rfl), (List.mem_of_getElem? (i := 2011) rfl), (List.mem_of_getElem? (i := 152) rfl)⟩
set_option maxRecDepth 100000 in
theorem pL_198 : Cond.methodLink RL 198 yX9_begin ∈ lw_tbl := (List.mem_of_getElem? (i := 2009) rfl)
set_option maxRecDepth 100000 in
theorem sL_201 : zSV RL 201 yX9_on := ⟨Or.inl (List.mem_of_getElem? (i := 2013) rfl), (List.mem_of_getElem? (i := 2014) rfl), (List.mem_of_getElem? (i := 2015) rfl), (List.mem_of_getElem? (i := 152) rfl)⟩
set_option maxRecDepth 100000 in
theorem pL_201 : Cond.methodLink RL 201 yX9_on ∈ lw_tbl := (List.mem_of_getElem? (i := 2013) rfl)
set_option maxRecDepth 100000 in
theorem sX9_477 : zSV RX9 477 yX9_week0 := ⟨Or.inl (List.mem_of_getElem? (i := 2017) rfl), (List.mem_of_getElem? (i := 2019) rfl), (List.mem_of_getElem? (i := 137) rfl), (List.mem_of_getElem? (i := 152) rfl)⟩
set_option maxRecDepth 100000 in
theorem pX9_477 : Cond.methodLink RX9 477 yX9_week0 ∈ lw_tbl := (List.mem_of_getElem? (i := 2017) rfl)
set_option maxRecDepth 100000 in
theorem sX9_471 : zSV RX9 471 yX9_isOut := ⟨Or.inl (List.mem_of_getElem? (i := 2021) rfl), (List.mem_of_getElem? (i := 2023) rfl), (List.mem_of_getElem? (i := 138) rfl), (List.mem_of_getElem? (i := 152) rfl)⟩
set_option maxRecDepth 100000 in
theorem pX9_471 : Cond.methodLink RX9 471 yX9_isOut ∈ lw_tbl := (List.mem_of_getElem? (i := 2021) rfl)
set_option maxRecDepth 100000 in
theorem sX9_474 : zSV RX9 474 yX9_goesTo := ⟨Or.inl (List.mem_of_getElem? (i := 2025) rfl), (List.mem_of_getElem? (i := 2027) rfl), (List.mem_of_getElem? (i := 139) rfl), (List.mem_of_getElem? (i := 152) rfl)⟩
set_option maxRecDepth 100000 in
theorem pX9_474 : Cond.methodLink RX9 474 yX9_goesTo ∈ lw_tbl := (List.mem_of_getElem? (i := 2025) rfl)
set_option maxRecDepth 100000 in
theorem sX9_468 : zSV RX9 468 yX9_draw := ⟨Or.inl (List.mem_of_getElem? (i := 2029) rfl), (List.mem_of_getElem? (i := 2031) rfl), (List.mem_of_getElem? (i := 140) rfl), (List.mem_of_getElem? (i := 152) rfl)⟩
set_option maxRecDepth 100000 in
theorem pX9_468 : Cond.methodLink RX9 468 yX9_draw ∈ lw_tbl := (List.mem_of_getElem? (i := 2029) rfl)
set_option maxRecDepth 100000 in
theorem sL_204 : zSV RL 204 yX9_week := ⟨Or.inl (List.mem_of_getElem? (i := 2034) rfl), (List.mem_of_getElem? (i := 2035) rfl), (List.mem_of_getElem? (i := 2036) rfl), (List.mem_of_getElem? (i := 152) rfl)⟩
set_option maxRecDepth 100000 in
theorem pL_204 : Cond.methodLink RL 204 yX9_week ∈ lw_tbl := (List.mem_of_getElem? (i := 2034) rfl)
set_option maxRecDepth 100000 in
theorem sL_209 : zSV RL 209 yX9_image := ⟨Or.inl (List.mem_of_getElem? (i := 2038) rfl), (List.mem_of_getElem? (i := 2039) rfl), (List.mem_of_getElem? (i := 2040) rfl), (List.mem_of_getElem? (i := 152) rfl)⟩
set_option maxRecDepth 100000 in
theorem pL_209 : Cond.methodLink RL 209 yX9_image ∈ lw_tbl := (List.mem_of_getElem? (i := 2038) rfl)
set_option maxRecDepth 100000 in
theorem sL_213 : zSV RL 213 yX9_restore := ⟨Or.inl (List.mem_of_getElem? (i := 2042) rfl), (List.mem_of_getElem? (i := 2043) rfl), (List.mem_of_getElem? (i := 2044) rfl), (List.mem_of_getElem? (i := 152) rfl)⟩
set_option maxRecDepth 100000 in
theorem pL_213 : Cond.methodLink RL 213 yX9_restore ∈ lw_tbl := (List.mem_of_getElem? (i := 2042) rfl)
