abbrev mX8_init : zMI := (RX8, cX8_init, 1, none, [], true)
set_option maxRecDepth 100000 in
theorem mfX8_init : zMf yX8_init mX8_init 0 := ⟨List.mem_of_getElem? (i := 169) rfl, by decide +kernel, by decide +kernel, rfl, by decide +kernel, rfl, by decide, by decide +kernel⟩
abbrev mX2_init : zMI := (RX2, cX2_init, 2, none, [], true)
set_option maxRecDepth 100000 in
theorem mfX2_init : zMf yX2_init mX2_init 1 := ⟨List.mem_of_getElem? (i := 177) rfl, by decide +kernel, by decide +kernel, rfl, by decide +kernel, rfl, by decide, by decide +kernel⟩
abbrev mX5_init : zMI := (RX5, cX5_init, 1, none, [], true)
set_option maxRecDepth 100000 in
theorem mfX5_init : zMf yX5_init mX5_init 0 := ⟨List.mem_of_getElem? (i := 183) rfl, by decide +kernel, by decide +kernel, rfl, by decide +kernel, rfl, by decide, by decide +kernel⟩
abbrev mX5_reset : zMI := (RX5, cX5_reset, 1, none, [], false)
set_option maxRecDepth 100000 in
theorem mfX5_reset : zMf yX5_reset mX5_reset 0 := ⟨List.mem_of_getElem? (i := 188) rfl, by decide +kernel, by decide +kernel, rfl, by decide +kernel, rfl, by decide, by decide +kernel⟩
abbrev mJ7_fill_53178 : zMI := (RJ7, cJ7_fill_53178, 4, none, [], false)
set_option maxRecDepth 100000 in
theorem mfJ7_fill_53178 : zMf yJ7_fill_53178 mJ7_fill_53178 2 := ⟨List.mem_of_getElem? (i := 191) rfl, by decide +kernel, by decide +kernel, rfl, by decide +kernel, rfl, by decide, by decide +kernel⟩
abbrev mX1_init : zMI := (RX1, cX1_init, 3, none, [], true)
set_option maxRecDepth 100000 in
theorem mfX1_init : zMf yX1_init mX1_init 2 := ⟨List.mem_of_getElem? (i := 325) rfl, by decide +kernel, by decide +kernel, rfl, by decide +kernel, rfl, by decide, by decide +kernel⟩
abbrev mX6_init : zMI := (RX6, cX6_init, 3, none, [], true)
set_option maxRecDepth 100000 in
theorem mfX6_init : zMf yX6_init mX6_init 2 := ⟨List.mem_of_getElem? (i := 333) rfl, by decide +kernel, by decide +kernel, rfl, by decide +kernel, rfl, by decide, by decide +kernel⟩
abbrev mX3_init : zMI := (RX3, cX3_init, 1, none, [], true)
set_option maxRecDepth 100000 in
theorem mfX3_init : zMf yX3_init mX3_init 0 := ⟨List.mem_of_getElem? (i := 425) rfl, by decide +kernel, by decide +kernel, rfl, by decide +kernel, rfl, by decide, by decide +kernel⟩
abbrev mX0_init : zMI := (RX0, cX0_init, 1, none, [], true)
set_option maxRecDepth 100000 in
theorem mfX0_init : zMf yX0_init mX0_init 0 := ⟨List.mem_of_getElem? (i := 453) rfl, by decide +kernel, by decide +kernel, rfl, by decide +kernel, rfl, by decide, by decide +kernel⟩
abbrev mX4_init : zMI := (RX4, cX4_init, 1, none, [], true)
set_option maxRecDepth 100000 in
theorem mfX4_init : zMf yX4_init mX4_init 0 := ⟨List.mem_of_getElem? (i := 476) rfl, by decide +kernel, by decide +kernel, rfl, by decide +kernel, rfl, by decide, by decide +kernel⟩
abbrev mX7_init : zMI := (RX7, cX7_init, 1, none, [], true)
set_option maxRecDepth 100000 in
theorem mfX7_init : zMf yX7_init mX7_init 0 := ⟨List.mem_of_getElem? (i := 512) rfl, by decide +kernel, by decide +kernel, rfl, by decide +kernel, rfl, by decide, by decide +kernel⟩
abbrev mX8_feed : zMI := (RX8, cX8_feed, 6, (some .int), [], false)
set_option maxRecDepth 100000 in
theorem mfX8_feed : zMf yX8_feed mX8_feed 5 := ⟨List.mem_of_getElem? (i := 598) rfl, by decide +kernel, by decide +kernel, rfl, by decide +kernel, rfl, by decide, by decide +kernel⟩
abbrev mX8_putBytes : zMI := (RX8, cX8_putBytes, 3, none, [], false)
set_option maxRecDepth 100000 in
theorem mfX8_putBytes : zMf yX8_putBytes mX8_putBytes 1 := ⟨List.mem_of_getElem? (i := 602) rfl, by decide +kernel, by decide +kernel, rfl, by decide +kernel, rfl, by decide, by decide +kernel⟩
abbrev mX8_fault : zMI := (RX8, cX8_fault, 1, (some .int), [], false)
set_option maxRecDepth 100000 in
theorem mfX8_fault : zMf yX8_fault mX8_fault 0 := ⟨List.mem_of_getElem? (i := 606) rfl, by decide +kernel, by decide +kernel, rfl, by decide +kernel, rfl, by decide, by decide +kernel⟩
abbrev mX8_judge : zMI := (RX8, cX8_judge, 1, (some .int), [], false)
set_option maxRecDepth 100000 in
theorem mfX8_judge : zMf yX8_judge mX8_judge 0 := ⟨List.mem_of_getElem? (i := 610) rfl, by decide +kernel, by decide +kernel, rfl, by decide +kernel, rfl, by decide, by decide +kernel⟩
abbrev mX3_firstWrong : zMI := (RX3, cX3_firstWrong, 5, (some .int), [], false)
set_option maxRecDepth 100000 in
theorem mfX3_firstWrong : zMf yX3_firstWrong mX3_firstWrong 1 := ⟨List.mem_of_getElem? (i := 614) rfl, by decide +kernel, by decide +kernel, rfl, by decide +kernel, rfl, by decide, by decide +kernel⟩
abbrev mX6_firstKey : zMI := (RX6, cX6_firstKey, 3, (some .long), [], false)
set_option maxRecDepth 100000 in
theorem mfX6_firstKey : zMf yX6_firstKey mX6_firstKey 1 := ⟨List.mem_of_getElem? (i := 617) rfl, by decide +kernel, by decide +kernel, rfl, by decide +kernel, rfl, by decide, by decide +kernel⟩
abbrev mX6_maySendTo : zMI := (RX6, cX6_maySendTo, 5, (some .int), [], false)
set_option maxRecDepth 100000 in
theorem mfX6_maySendTo : zMf yX6_maySendTo mX6_maySendTo 2 := ⟨List.mem_of_getElem? (i := 620) rfl, by decide +kernel, by decide +kernel, rfl, by decide +kernel, rfl, by decide, by decide +kernel⟩
abbrev mX6_handOf : zMI := (RX6, cX6_handOf, 2, (some .int), [], false)
set_option maxRecDepth 100000 in
theorem mfX6_handOf : zMf yX6_handOf mX6_handOf 1 := ⟨List.mem_of_getElem? (i := 623) rfl, by decide +kernel, by decide +kernel, rfl, by decide +kernel, rfl, by decide, by decide +kernel⟩
abbrev mX6_whoOf : zMI := (RX6, cX6_whoOf, 2, (some .int), [], false)
set_option maxRecDepth 100000 in
theorem mfX6_whoOf : zMf yX6_whoOf mX6_whoOf 1 := ⟨List.mem_of_getElem? (i := 626) rfl, by decide +kernel, by decide +kernel, rfl, by decide +kernel, rfl, by decide, by decide +kernel⟩
abbrev mX6_keyBehind : zMI := (RX6, cX6_keyBehind, 7, (some .long), [], false)
set_option maxRecDepth 100000 in
theorem mfX6_keyBehind : zMf yX6_keyBehind mX6_keyBehind 3 := ⟨List.mem_of_getElem? (i := 630) rfl, by decide +kernel, by decide +kernel, rfl, by decide +kernel, rfl, by decide, by decide +kernel⟩
abbrev mX5_countsSent : zMI := (RX5, cX5_countsSent, 1, (some .boolean), [], false)
set_option maxRecDepth 100000 in
theorem mfX5_countsSent : zMf yX5_countsSent mX5_countsSent 0 := ⟨List.mem_of_getElem? (i := 635) rfl, by decide +kernel, by decide +kernel, rfl, by decide +kernel, rfl, by decide, by decide +kernel⟩
abbrev mX8_ended : zMI := (RX8, cX8_ended, 1, (some .int), [], false)
set_option maxRecDepth 100000 in
theorem mfX8_ended : zMf yX8_ended mX8_ended 0 := ⟨List.mem_of_getElem? (i := 640) rfl, by decide +kernel, by decide +kernel, rfl, by decide +kernel, rfl, by decide, by decide +kernel⟩
abbrev mX3_end : zMI := (RX3, cX3_end, 1, (some .boolean), [], false)
set_option maxRecDepth 100000 in
theorem mfX3_end : zMf yX3_end mX3_end 0 := ⟨List.mem_of_getElem? (i := 644) rfl, by decide +kernel, by decide +kernel, rfl, by decide +kernel, rfl, by decide, by decide +kernel⟩
abbrev mX8_image : zMI := (RX8, cX8_image, 1, (some .boolean), [], false)
set_option maxRecDepth 100000 in
theorem mfX8_image : zMf yX8_image mX8_image 0 := ⟨List.mem_of_getElem? (i := 651) rfl, by decide +kernel, by decide +kernel, rfl, by decide +kernel, rfl, by decide, by decide +kernel⟩
abbrev mX7_copy : zMI := (RX7, cX7_copy, 2, none, [], false)
set_option maxRecDepth 100000 in
theorem mfX7_copy : zMf yX7_copy mX7_copy 1 := ⟨List.mem_of_getElem? (i := 655) rfl, by decide +kernel, by decide +kernel, rfl, by decide +kernel, rfl, by decide, by decide +kernel⟩
abbrev mX8_restore : zMI := (RX8, cX8_restore, 1, (some .boolean), [], false)
set_option maxRecDepth 100000 in
theorem mfX8_restore : zMf yX8_restore mX8_restore 0 := ⟨List.mem_of_getElem? (i := 660) rfl, by decide +kernel, by decide +kernel, rfl, by decide +kernel, rfl, by decide, by decide +kernel⟩
abbrev mX8_town : zMI := (RX8, cX8_town, 3, (some .int), [], false)
set_option maxRecDepth 100000 in
theorem mfX8_town : zMf yX8_town mX8_town 1 := ⟨List.mem_of_getElem? (i := 668) rfl, by decide +kernel, by decide +kernel, rfl, by decide +kernel, rfl, by decide, by decide +kernel⟩
abbrev mX2_read : zMI := (RX2, cX2_read, 3, (some .int), [], false)
set_option maxRecDepth 100000 in
theorem mfX2_read : zMf yX2_read mX2_read 1 := ⟨List.mem_of_getElem? (i := 739) rfl, by decide +kernel, by decide +kernel, rfl, by decide +kernel, rfl, by decide, by decide +kernel⟩
abbrev mJ9_min_7cf53 : zMI := (RJ9, cJ9_min_7cf53, 2, (some .int), [], false)
set_option maxRecDepth 100000 in
theorem mfJ9_min_7cf53 : zMf yJ9_min_7cf53 mJ9_min_7cf53 2 := ⟨List.mem_of_getElem? (i := 743) rfl, by decide +kernel, by decide +kernel, rfl, by decide +kernel, rfl, by decide, by decide +kernel⟩
abbrev mX2_takeToken : zMI := (RX2, cX2_takeToken, 1, none, [], false)
set_option maxRecDepth 100000 in
theorem mfX2_takeToken : zMf yX2_takeToken mX2_takeToken 0 := ⟨List.mem_of_getElem? (i := 747) rfl, by decide +kernel, by decide +kernel, rfl, by decide +kernel, rfl, by decide, by decide +kernel⟩
abbrev mX2_isLetter : zMI := (RX2, cX2_isLetter, 1, (some .boolean), [], false)
set_option maxRecDepth 100000 in
theorem mfX2_isLetter : zMf yX2_isLetter mX2_isLetter 1 := ⟨List.mem_of_getElem? (i := 750) rfl, by decide +kernel, by decide +kernel, rfl, by decide +kernel, rfl, by decide, by decide +kernel⟩
abbrev mX2_isDigit : zMI := (RX2, cX2_isDigit, 1, (some .boolean), [], false)
set_option maxRecDepth 100000 in
theorem mfX2_isDigit : zMf yX2_isDigit mX2_isDigit 1 := ⟨List.mem_of_getElem? (i := 753) rfl, by decide +kernel, by decide +kernel, rfl, by decide +kernel, rfl, by decide, by decide +kernel⟩
abbrev mX2_readLine : zMI := (RX2, cX2_readLine, 1, (some .boolean), [], false)
set_option maxRecDepth 100000 in
theorem mfX2_readLine : zMf yX2_readLine mX2_readLine 0 := ⟨List.mem_of_getElem? (i := 757) rfl, by decide +kernel, by decide +kernel, rfl, by decide +kernel, rfl, by decide, by decide +kernel⟩
abbrev mX2_isWord : zMI := (RX2, cX2_isWord, 3, (some .boolean), [], false)
set_option maxRecDepth 100000 in
theorem mfX2_isWord : zMf yX2_isWord mX2_isWord 1 := ⟨List.mem_of_getElem? (i := 762) rfl, by decide +kernel, by decide +kernel, rfl, by decide +kernel, rfl, by decide, by decide +kernel⟩
abbrev mJ0_length_8abf5 : zMI := (RJ0, cJ0_length_8abf5, 1, (some .int), [], false)
set_option maxRecDepth 100000 in
theorem mfJ0_length_8abf5 : zMf yJ0_length_8abf5 mJ0_length_8abf5 0 := ⟨List.mem_of_getElem? (i := 766) rfl, by decide +kernel, by decide +kernel, rfl, by decide +kernel, rfl, by decide, by decide +kernel⟩
abbrev mJ0_coder_7d493 : zMI := (RJ0, cJ0_coder_7d493, 1, (some .byte), [], false)
set_option maxRecDepth 100000 in
theorem mfJ0_coder_7d493 : zMf yJ0_coder_7d493 mJ0_coder_7d493 0 := ⟨List.mem_of_getElem? (i := 770) rfl, by decide +kernel, by decide +kernel, rfl, by decide +kernel, rfl, by decide, by decide +kernel⟩
abbrev mJ0_charAt_5068e : zMI := (RJ0, cJ0_charAt_5068e, 2, (some .char), [], false)
set_option maxRecDepth 100000 in
theorem mfJ0_charAt_5068e : zMf yJ0_charAt_5068e mJ0_charAt_5068e 1 := ⟨List.mem_of_getElem? (i := 776) rfl, by decide +kernel, by decide +kernel, rfl, by decide +kernel, rfl, by decide, by decide +kernel⟩
abbrev mJ0_isLatin1_aae02 : zMI := (RJ0, cJ0_isLatin1_aae02, 1, (some .boolean), [], false)
set_option maxRecDepth 100000 in
theorem mfJ0_isLatin1_aae02 : zMf yJ0_isLatin1_aae02 mJ0_isLatin1_aae02 0 := ⟨List.mem_of_getElem? (i := 780) rfl, by decide +kernel, by decide +kernel, rfl, by decide +kernel, rfl, by decide, by decide +kernel⟩
abbrev mJ1_charAt_3b067 : zMI := (RJ1, cJ1_charAt_3b067, 2, (some .char), [], false)
set_option maxRecDepth 100000 in
theorem mfJ1_charAt_3b067 : zMf yJ1_charAt_3b067 mJ1_charAt_3b067 2 := ⟨List.mem_of_getElem? (i := 783) rfl, by decide +kernel, by decide +kernel, rfl, by decide +kernel, rfl, by decide, by decide +kernel⟩
abbrev mJ0_checkIndex_df160 : zMI := (RJ0, cJ0_checkIndex_df160, 2, none, [], false)
set_option maxRecDepth 100000 in
theorem mfJ0_checkIndex_df160 : zMf yJ0_checkIndex_df160 mJ0_checkIndex_df160 2 := ⟨List.mem_of_getElem? (i := 786) rfl, by decide +kernel, by decide +kernel, rfl, by decide +kernel, rfl, by decide, by decide +kernel⟩
abbrev mJ3_checkIndex_8e157 : zMI := (RJ3, cJ3_checkIndex_8e157, 3, (some .int), [], false)
set_option maxRecDepth 100000 in
theorem mfJ3_checkIndex_8e157 : zMf yJ3_checkIndex_8e157 mJ3_checkIndex_8e157 3 := ⟨List.mem_of_getElem? (i := 791) rfl, by decide +kernel, by decide +kernel, rfl, by decide +kernel, rfl, by decide, by decide +kernel⟩
abbrev mJ2_charAt_3b067 : zMI := (RJ2, cJ2_charAt_3b067, 2, (some .char), [], false)
set_option maxRecDepth 100000 in
theorem mfJ2_charAt_3b067 : zMf yJ2_charAt_3b067 mJ2_charAt_3b067 2 := ⟨List.mem_of_getElem? (i := 794) rfl, by decide +kernel, by decide +kernel, rfl, by decide +kernel, rfl, by decide, by decide +kernel⟩
abbrev mJ2_checkIndex_2214a : zMI := (RJ2, cJ2_checkIndex_2214a, 2, none, [], false)
set_option maxRecDepth 100000 in
theorem mfJ2_checkIndex_2214a : zMf yJ2_checkIndex_2214a mJ2_checkIndex_2214a 2 := ⟨List.mem_of_getElem? (i := 797) rfl, by decide +kernel, by decide +kernel, rfl, by decide +kernel, rfl, by decide, by decide +kernel⟩
abbrev mJ2_length_9d52b : zMI := (RJ2, cJ2_length_9d52b, 1, (some .int), [], false)
set_option maxRecDepth 100000 in
theorem mfJ2_length_9d52b : zMf yJ2_length_9d52b mJ2_length_9d52b 1 := ⟨List.mem_of_getElem? (i := 800) rfl, by decide +kernel, by decide +kernel, rfl, by decide +kernel, rfl, by decide, by decide +kernel⟩
abbrev mJ2_getChar_3b067 : zMI := (RJ2, cJ2_getChar_3b067, 2, (some .char), [], false)
set_option maxRecDepth 100000 in
theorem mfJ2_getChar_3b067 : zMf yJ2_getChar_3b067 mJ2_getChar_3b067 2 := ⟨List.mem_of_getElem? (i := 804) rfl, by decide +kernel, by decide +kernel, rfl, by decide +kernel, rfl, by decide, by decide +kernel⟩
abbrev mX2_readPerson : zMI := (RX2, cX2_readPerson, 3, (some .boolean), [], false)
set_option maxRecDepth 100000 in
theorem mfX2_readPerson : zMf yX2_readPerson mX2_readPerson 0 := ⟨List.mem_of_getElem? (i := 814) rfl, by decide +kernel, by decide +kernel, rfl, by decide +kernel, rfl, by decide, by decide +kernel⟩
abbrev mX2_refuse : zMI := (RX2, cX2_refuse, 2, (some .boolean), [], false)
set_option maxRecDepth 100000 in
theorem mfX2_refuse : zMf yX2_refuse mX2_refuse 1 := ⟨List.mem_of_getElem? (i := 818) rfl, by decide +kernel, by decide +kernel, rfl, by decide +kernel, rfl, by decide, by decide +kernel⟩
abbrev mX2_sortOfWord : zMI := (RX2, cX2_sortOfWord, 1, (some .int), [], false)
set_option maxRecDepth 100000 in
theorem mfX2_sortOfWord : zMf yX2_sortOfWord mX2_sortOfWord 0 := ⟨List.mem_of_getElem? (i := 822) rfl, by decide +kernel, by decide +kernel, rfl, by decide +kernel, rfl, by decide, by decide +kernel⟩
abbrev mX2_readNumber : zMI := (RX2, cX2_readNumber, 3, (some .boolean), [], false)
set_option maxRecDepth 100000 in
theorem mfX2_readNumber : zMf yX2_readNumber mX2_readNumber 2 := ⟨List.mem_of_getElem? (i := 830) rfl, by decide +kernel, by decide +kernel, rfl, by decide +kernel, rfl, by decide, by decide +kernel⟩
abbrev mX2_readPerhaps : zMI := (RX2, cX2_readPerhaps, 6, (some .boolean), [], false)
set_option maxRecDepth 100000 in
theorem mfX2_readPerhaps : zMf yX2_readPerhaps mX2_readPerhaps 4 := ⟨List.mem_of_getElem? (i := 835) rfl, by decide +kernel, by decide +kernel, rfl, by decide +kernel, rfl, by decide, by decide +kernel⟩
abbrev mX2_isClosed : zMI := (RX2, cX2_isClosed, 1, (some .boolean), [], false)
set_option maxRecDepth 100000 in
theorem mfX2_isClosed : zMf yX2_isClosed mX2_isClosed 0 := ⟨List.mem_of_getElem? (i := 839) rfl, by decide +kernel, by decide +kernel, rfl, by decide +kernel, rfl, by decide, by decide +kernel⟩
abbrev mX2_readKnows : zMI := (RX2, cX2_readKnows, 3, (some .boolean), [], false)
set_option maxRecDepth 100000 in
theorem mfX2_readKnows : zMf yX2_readKnows mX2_readKnows 0 := ⟨List.mem_of_getElem? (i := 844) rfl, by decide +kernel, by decide +kernel, rfl, by decide +kernel, rfl, by decide, by decide +kernel⟩
abbrev mX2_readKnown : zMI := (RX2, cX2_readKnown, 1, (some .boolean), [], false)
set_option maxRecDepth 100000 in
theorem mfX2_readKnown : zMf yX2_readKnown mX2_readKnown 0 := ⟨List.mem_of_getElem? (i := 848) rfl, by decide +kernel, by decide +kernel, rfl, by decide +kernel, rfl, by decide, by decide +kernel⟩
abbrev mX2_tellOnce : zMI := (RX2, cX2_tellOnce, 2, (some .boolean), [], false)
set_option maxRecDepth 100000 in
theorem mfX2_tellOnce : zMf yX2_tellOnce mX2_tellOnce 1 := ⟨List.mem_of_getElem? (i := 854) rfl, by decide +kernel, by decide +kernel, rfl, by decide +kernel, rfl, by decide, by decide +kernel⟩
abbrev mX2_readLetter : zMI := (RX2, cX2_readLetter, 1, (some .boolean), [], false)
set_option maxRecDepth 100000 in
theorem mfX2_readLetter : zMf yX2_readLetter mX2_readLetter 0 := ⟨List.mem_of_getElem? (i := 858) rfl, by decide +kernel, by decide +kernel, rfl, by decide +kernel, rfl, by decide, by decide +kernel⟩
abbrev mX2_readLaw : zMI := (RX2, cX2_readLaw, 1, (some .boolean), [], false)
set_option maxRecDepth 100000 in
theorem mfX2_readLaw : zMf yX2_readLaw mX2_readLaw 0 := ⟨List.mem_of_getElem? (i := 865) rfl, by decide +kernel, by decide +kernel, rfl, by decide +kernel, rfl, by decide, by decide +kernel⟩
abbrev mX2_readWax : zMI := (RX2, cX2_readWax, 1, (some .boolean), [], false)
set_option maxRecDepth 100000 in
theorem mfX2_readWax : zMf yX2_readWax mX2_readWax 0 := ⟨List.mem_of_getElem? (i := 873) rfl, by decide +kernel, by decide +kernel, rfl, by decide +kernel, rfl, by decide, by decide +kernel⟩
abbrev mX2_readFirst : zMI := (RX2, cX2_readFirst, 1, (some .boolean), [], false)
set_option maxRecDepth 100000 in
theorem mfX2_readFirst : zMf yX2_readFirst mX2_readFirst 0 := ⟨List.mem_of_getElem? (i := 878) rfl, by decide +kernel, by decide +kernel, rfl, by decide +kernel, rfl, by decide, by decide +kernel⟩
abbrev mX5_copy : zMI := (RX5, cX5_copy, 2, none, [], false)
set_option maxRecDepth 100000 in
theorem mfX5_copy : zMf yX5_copy mX5_copy 1 := ⟨List.mem_of_getElem? (i := 882) rfl, by decide +kernel, by decide +kernel, rfl, by decide +kernel, rfl, by decide, by decide +kernel⟩
abbrev mX8_startAnew : zMI := (RX8, cX8_startAnew, 1, none, [], false)
set_option maxRecDepth 100000 in
theorem mfX8_startAnew : zMf yX8_startAnew mX8_startAnew 0 := ⟨List.mem_of_getElem? (i := 887) rfl, by decide +kernel, by decide +kernel, rfl, by decide +kernel, rfl, by decide, by decide +kernel⟩
abbrev mX3_clear : zMI := (RX3, cX3_clear, 1, none, [], false)
set_option maxRecDepth 100000 in
theorem mfX3_clear : zMf yX3_clear mX3_clear 0 := ⟨List.mem_of_getElem? (i := 891) rfl, by decide +kernel, by decide +kernel, rfl, by decide +kernel, rfl, by decide, by decide +kernel⟩
abbrev mX0_clear : zMI := (RX0, cX0_clear, 1, none, [], false)
set_option maxRecDepth 100000 in
theorem mfX0_clear : zMf yX0_clear mX0_clear 0 := ⟨List.mem_of_getElem? (i := 895) rfl, by decide +kernel, by decide +kernel, rfl, by decide +kernel, rfl, by decide, by decide +kernel⟩
abbrev mX4_clear : zMI := (RX4, cX4_clear, 1, none, [], false)
set_option maxRecDepth 100000 in
theorem mfX4_clear : zMf yX4_clear mX4_clear 0 := ⟨List.mem_of_getElem? (i := 899) rfl, by decide +kernel, by decide +kernel, rfl, by decide +kernel, rfl, by decide, by decide +kernel⟩
abbrev mX7_clear : zMI := (RX7, cX7_clear, 1, none, [], false)
set_option maxRecDepth 100000 in
theorem mfX7_clear : zMf yX7_clear mX7_clear 0 := ⟨List.mem_of_getElem? (i := 903) rfl, by decide +kernel, by decide +kernel, rfl, by decide +kernel, rfl, by decide, by decide +kernel⟩
abbrev mX1_forget : zMI := (RX1, cX1_forget, 1, none, [], false)
set_option maxRecDepth 100000 in
theorem mfX1_forget : zMf yX1_forget mX1_forget 0 := ⟨List.mem_of_getElem? (i := 907) rfl, by decide +kernel, by decide +kernel, rfl, by decide +kernel, rfl, by decide, by decide +kernel⟩
abbrev mX6_forget : zMI := (RX6, cX6_forget, 1, none, [], false)
set_option maxRecDepth 100000 in
theorem mfX6_forget : zMf yX6_forget mX6_forget 0 := ⟨List.mem_of_getElem? (i := 911) rfl, by decide +kernel, by decide +kernel, rfl, by decide +kernel, rfl, by decide, by decide +kernel⟩
abbrev mX8_count : zMI := (RX8, cX8_count, 2, (some .int), [], false)
set_option maxRecDepth 100000 in
theorem mfX8_count : zMf yX8_count mX8_count 1 := ⟨List.mem_of_getElem? (i := 919) rfl, by decide +kernel, by decide +kernel, rfl, by decide +kernel, rfl, by decide, by decide +kernel⟩
abbrev mX8_person : zMI := (RX8, cX8_person, 3, (some .int), [], false)
set_option maxRecDepth 100000 in
theorem mfX8_person : zMf yX8_person mX8_person 2 := ⟨List.mem_of_getElem? (i := 942) rfl, by decide +kernel, by decide +kernel, rfl, by decide +kernel, rfl, by decide, by decide +kernel⟩
abbrev mX8_needPerson : zMI := (RX8, cX8_needPerson, 2, none, [], false)
set_option maxRecDepth 100000 in
theorem mfX8_needPerson : zMf yX8_needPerson mX8_needPerson 1 := ⟨List.mem_of_getElem? (i := 946) rfl, by decide +kernel, by decide +kernel, rfl, by decide +kernel, rfl, by decide, by decide +kernel⟩
abbrev mX8_needWhat : zMI := (RX8, cX8_needWhat, 3, none, [], false)
set_option maxRecDepth 100000 in
theorem mfX8_needWhat : zMf yX8_needWhat mX8_needWhat 2 := ⟨List.mem_of_getElem? (i := 951) rfl, by decide +kernel, by decide +kernel, rfl, by decide +kernel, rfl, by decide, by decide +kernel⟩
abbrev mX8_weight : zMI := (RX8, cX8_weight, 3, (some .int), [], false)
set_option maxRecDepth 100000 in
theorem mfX8_weight : zMf yX8_weight mX8_weight 2 := ⟨List.mem_of_getElem? (i := 959) rfl, by decide +kernel, by decide +kernel, rfl, by decide +kernel, rfl, by decide, by decide +kernel⟩
abbrev mX8_opened : zMI := (RX8, cX8_opened, 4, (some .int), [], false)
set_option maxRecDepth 100000 in
theorem mfX8_opened : zMf yX8_opened mX8_opened 2 := ⟨List.mem_of_getElem? (i := 966) rfl, by decide +kernel, by decide +kernel, rfl, by decide +kernel, rfl, by decide, by decide +kernel⟩
abbrev mX8_playAsked : zMI := (RX8, cX8_playAsked, 1, (some (.object "LetterTown$Play")), [], false)
set_option maxRecDepth 100000 in
theorem mfX8_playAsked : zMf yX8_playAsked mX8_playAsked 0 := ⟨List.mem_of_getElem? (i := 971) rfl, by decide +kernel, by decide +kernel, rfl, by decide +kernel, rfl, by decide, by decide +kernel⟩
abbrev mX1_follow : zMI := (RX1, cX1_follow, 2, (some .boolean), [], false)
set_option maxRecDepth 100000 in
theorem mfX1_follow : zMf yX1_follow mX1_follow 1 := ⟨List.mem_of_getElem? (i := 975) rfl, by decide +kernel, by decide +kernel, rfl, by decide +kernel, rfl, by decide, by decide +kernel⟩
abbrev mX5_isAsked : zMI := (RX5, cX5_isAsked, 3, (some .boolean), [], false)
set_option maxRecDepth 100000 in
theorem mfX5_isAsked : zMf yX5_isAsked mX5_isAsked 1 := ⟨List.mem_of_getElem? (i := 979) rfl, by decide +kernel, by decide +kernel, rfl, by decide +kernel, rfl, by decide, by decide +kernel⟩
abbrev mX6_lay : zMI := (RX6, cX6_lay, 4, (some .boolean), [], false)
set_option maxRecDepth 100000 in
theorem mfX6_lay : zMf yX6_lay mX6_lay 1 := ⟨List.mem_of_getElem? (i := 984) rfl, by decide +kernel, by decide +kernel, rfl, by decide +kernel, rfl, by decide, by decide +kernel⟩
abbrev mX6_placeOf : zMI := (RX6, cX6_placeOf, 7, (some .int), [], false)
set_option maxRecDepth 100000 in
theorem mfX6_placeOf : zMf yX6_placeOf mX6_placeOf 1 := ⟨List.mem_of_getElem? (i := 990) rfl, by decide +kernel, by decide +kernel, rfl, by decide +kernel, rfl, by decide, by decide +kernel⟩
abbrev mX6_layHand : zMI := (RX6, cX6_layHand, 6, none, [], false)
set_option maxRecDepth 100000 in
theorem mfX6_layHand : zMf yX6_layHand mX6_layHand 2 := ⟨List.mem_of_getElem? (i := 995) rfl, by decide +kernel, by decide +kernel, rfl, by decide +kernel, rfl, by decide, by decide +kernel⟩
abbrev mX1_countCases : zMI := (RX1, cX1_countCases, 2, none, [], false)
set_option maxRecDepth 100000 in
theorem mfX1_countCases : zMf yX1_countCases mX1_countCases 0 := ⟨List.mem_of_getElem? (i := 1003) rfl, by decide +kernel, by decide +kernel, rfl, by decide +kernel, rfl, by decide, by decide +kernel⟩
abbrev mX1_choose : zMI := (RX1, cX1_choose, 1, none, [], false)
set_option maxRecDepth 100000 in
theorem mfX1_choose : zMf yX1_choose mX1_choose 0 := ⟨List.mem_of_getElem? (i := 1007) rfl, by decide +kernel, by decide +kernel, rfl, by decide +kernel, rfl, by decide, by decide +kernel⟩
abbrev mX5_reckoners : zMI := (RX5, cX5_reckoners, 3, (some .int), [], false)
set_option maxRecDepth 100000 in
theorem mfX5_reckoners : zMf yX5_reckoners mX5_reckoners 0 := ⟨List.mem_of_getElem? (i := 1011) rfl, by decide +kernel, by decide +kernel, rfl, by decide +kernel, rfl, by decide, by decide +kernel⟩
abbrev mX1_reckon : zMI := (RX1, cX1_reckon, 4, none, [], false)
set_option maxRecDepth 100000 in
theorem mfX1_reckon : zMf yX1_reckon mX1_reckon 1 := ⟨List.mem_of_getElem? (i := 1015) rfl, by decide +kernel, by decide +kernel, rfl, by decide +kernel, rfl, by decide, by decide +kernel⟩
abbrev mX5_everyone : zMI := (RX5, cX5_everyone, 1, (some .int), [], false)
set_option maxRecDepth 100000 in
theorem mfX5_everyone : zMf yX5_everyone mX5_everyone 0 := ⟨List.mem_of_getElem? (i := 1019) rfl, by decide +kernel, by decide +kernel, rfl, by decide +kernel, rfl, by decide, by decide +kernel⟩
abbrev mX1_reckonHand : zMI := (RX1, cX1_reckonHand, 5, none, [], false)
set_option maxRecDepth 100000 in
theorem mfX1_reckonHand : zMf yX1_reckonHand mX1_reckonHand 1 := ⟨List.mem_of_getElem? (i := 1023) rfl, by decide +kernel, by decide +kernel, rfl, by decide +kernel, rfl, by decide, by decide +kernel⟩
abbrev mX1_likedMost : zMI := (RX1, cX1_likedMost, 8, (some .int), [], false)
set_option maxRecDepth 100000 in
theorem mfX1_likedMost : zMf yX1_likedMost mX1_likedMost 1 := ⟨List.mem_of_getElem? (i := 1028) rfl, by decide +kernel, by decide +kernel, rfl, by decide +kernel, rfl, by decide, by decide +kernel⟩
abbrev mX1_worthOf : zMI := (RX1, cX1_worthOf, 11, (some .long), [], false)
set_option maxRecDepth 100000 in
theorem mfX1_worthOf : zMf yX1_worthOf mX1_worthOf 2 := ⟨List.mem_of_getElem? (i := 1032) rfl, by decide +kernel, by decide +kernel, rfl, by decide +kernel, rfl, by decide, by decide +kernel⟩
abbrev mX6_timesSent : zMI := (RX6, cX6_timesSent, 3, (some .int), [], false)
set_option maxRecDepth 100000 in
theorem mfX6_timesSent : zMf yX6_timesSent mX6_timesSent 2 := ⟨List.mem_of_getElem? (i := 1035) rfl, by decide +kernel, by decide +kernel, rfl, by decide +kernel, rfl, by decide, by decide +kernel⟩
abbrev mX1_payFor : zMI := (RX1, cX1_payFor, 2, (some .long), [], false)
set_option maxRecDepth 100000 in
theorem mfX1_payFor : zMf yX1_payFor mX1_payFor 1 := ⟨List.mem_of_getElem? (i := 1039) rfl, by decide +kernel, by decide +kernel, rfl, by decide +kernel, rfl, by decide, by decide +kernel⟩
abbrev mX1_openingOf : zMI := (RX1, cX1_openingOf, 2, (some .long), [], false)
set_option maxRecDepth 100000 in
theorem mfX1_openingOf : zMf yX1_openingOf mX1_openingOf 1 := ⟨List.mem_of_getElem? (i := 1045) rfl, by decide +kernel, by decide +kernel, rfl, by decide +kernel, rfl, by decide, by decide +kernel⟩
abbrev mX5_pence : zMI := (RX5, cX5_pence, 2, (some .int), [], false)
set_option maxRecDepth 100000 in
theorem mfX5_pence : zMf yX5_pence mX5_pence 1 := ⟨List.mem_of_getElem? (i := 1050) rfl, by decide +kernel, by decide +kernel, rfl, by decide +kernel, rfl, by decide, by decide +kernel⟩
abbrev mX1_shareOpened : zMI := (RX1, cX1_shareOpened, 5, (some .int), [], false)
set_option maxRecDepth 100000 in
theorem mfX1_shareOpened : zMf yX1_shareOpened mX1_shareOpened 1 := ⟨List.mem_of_getElem? (i := 1054) rfl, by decide +kernel, by decide +kernel, rfl, by decide +kernel, rfl, by decide, by decide +kernel⟩
abbrev mX5_felt : zMI := (RX5, cX5_felt, 3, (some .int), [], false)
set_option maxRecDepth 100000 in
theorem mfX5_felt : zMf yX5_felt mX5_felt 1 := ⟨List.mem_of_getElem? (i := 1058) rfl, by decide +kernel, by decide +kernel, rfl, by decide +kernel, rfl, by decide, by decide +kernel⟩
abbrev mX1_reckonOpened : zMI := (RX1, cX1_reckonOpened, 6, none, [], false)
set_option maxRecDepth 100000 in
theorem mfX1_reckonOpened : zMf yX1_reckonOpened mX1_reckonOpened 2 := ⟨List.mem_of_getElem? (i := 1063) rfl, by decide +kernel, by decide +kernel, rfl, by decide +kernel, rfl, by decide, by decide +kernel⟩
abbrev mX1_reckonSent : zMI := (RX1, cX1_reckonSent, 15, none, [], false)
set_option maxRecDepth 100000 in
theorem mfX1_reckonSent : zMf yX1_reckonSent mX1_reckonSent 3 := ⟨List.mem_of_getElem? (i := 1067) rfl, by decide +kernel, by decide +kernel, rfl, by decide +kernel, rfl, by decide, by decide +kernel⟩
abbrev mJ7_fill_d0a16 : zMI := (RJ7, cJ7_fill_d0a16, 5, none, [], false)
set_option maxRecDepth 100000 in
theorem mfJ7_fill_d0a16 : zMf yJ7_fill_d0a16 mJ7_fill_d0a16 2 := ⟨List.mem_of_getElem? (i := 1070) rfl, by decide +kernel, by decide +kernel, rfl, by decide +kernel, rfl, by decide, by decide +kernel⟩
abbrev mX1_targetsOf : zMI := (RX1, cX1_targetsOf, 2, (some .int), [], false)
set_option maxRecDepth 100000 in
theorem mfX1_targetsOf : zMf yX1_targetsOf mX1_targetsOf 1 := ⟨List.mem_of_getElem? (i := 1074) rfl, by decide +kernel, by decide +kernel, rfl, by decide +kernel, rfl, by decide, by decide +kernel⟩
abbrev mX1_weightTo : zMI := (RX1, cX1_weightTo, 3, (some .int), [], false)
set_option maxRecDepth 100000 in
theorem mfX1_weightTo : zMf yX1_weightTo mX1_weightTo 2 := ⟨List.mem_of_getElem? (i := 1078) rfl, by decide +kernel, by decide +kernel, rfl, by decide +kernel, rfl, by decide, by decide +kernel⟩
abbrev mJ9_floorDiv_f86c9 : zMI := (RJ9, cJ9_floorDiv_f86c9, 6, (some .long), [], false)
set_option maxRecDepth 100000 in
theorem mfJ9_floorDiv_f86c9 : zMf yJ9_floorDiv_f86c9 mJ9_floorDiv_f86c9 2 := ⟨List.mem_of_getElem? (i := 1081) rfl, by decide +kernel, by decide +kernel, rfl, by decide +kernel, rfl, by decide, by decide +kernel⟩
abbrev mX1_clearTally : zMI := (RX1, cX1_clearTally, 2, none, [], false)
set_option maxRecDepth 100000 in
theorem mfX1_clearTally : zMf yX1_clearTally mX1_clearTally 0 := ⟨List.mem_of_getElem? (i := 1085) rfl, by decide +kernel, by decide +kernel, rfl, by decide +kernel, rfl, by decide, by decide +kernel⟩
abbrev mX1_spreadCases : zMI := (RX1, cX1_spreadCases, 19, none, [], false)
set_option maxRecDepth 100000 in
theorem mfX1_spreadCases : zMf yX1_spreadCases mX1_spreadCases 1 := ⟨List.mem_of_getElem? (i := 1089) rfl, by decide +kernel, by decide +kernel, rfl, by decide +kernel, rfl, by decide, by decide +kernel⟩
abbrev mX1_weightsTo : zMI := (RX1, cX1_weightsTo, 5, (some .int), [], false)
set_option maxRecDepth 100000 in
theorem mfX1_weightsTo : zMf yX1_weightsTo mX1_weightsTo 2 := ⟨List.mem_of_getElem? (i := 1093) rfl, by decide +kernel, by decide +kernel, rfl, by decide +kernel, rfl, by decide, by decide +kernel⟩
abbrev mX1_casesOf : zMI := (RX1, cX1_casesOf, 3, (some .long), [], false)
set_option maxRecDepth 100000 in
theorem mfX1_casesOf : zMf yX1_casesOf mX1_casesOf 2 := ⟨List.mem_of_getElem? (i := 1097) rfl, by decide +kernel, by decide +kernel, rfl, by decide +kernel, rfl, by decide, by decide +kernel⟩
abbrev mX8_goes : zMI := (RX8, cX8_goes, 3, (some .long), [], false)
set_option maxRecDepth 100000 in
theorem mfX8_goes : zMf yX8_goes mX8_goes 1 := ⟨List.mem_of_getElem? (i := 1104) rfl, by decide +kernel, by decide +kernel, rfl, by decide +kernel, rfl, by decide, by decide +kernel⟩
abbrev mX8_needPeople : zMI := (RX8, cX8_needPeople, 1, none, [], false)
set_option maxRecDepth 100000 in
theorem mfX8_needPeople : zMf yX8_needPeople mX8_needPeople 0 := ⟨List.mem_of_getElem? (i := 1108) rfl, by decide +kernel, by decide +kernel, rfl, by decide +kernel, rfl, by decide, by decide +kernel⟩
abbrev mX1_casesAt : zMI := (RX1, cX1_casesAt, 5, (some .long), [], false)
set_option maxRecDepth 100000 in
theorem mfX1_casesAt : zMf yX1_casesAt mX1_casesAt 1 := ⟨List.mem_of_getElem? (i := 1113) rfl, by decide +kernel, by decide +kernel, rfl, by decide +kernel, rfl, by decide, by decide +kernel⟩
abbrev mX1_lengthOfAll : zMI := (RX1, cX1_lengthOfAll, 4, (some .long), [], false)
set_option maxRecDepth 100000 in
theorem mfX1_lengthOfAll : zMf yX1_lengthOfAll mX1_lengthOfAll 0 := ⟨List.mem_of_getElem? (i := 1118) rfl, by decide +kernel, by decide +kernel, rfl, by decide +kernel, rfl, by decide, by decide +kernel⟩
abbrev mX8_gets : zMI := (RX8, cX8_gets, 3, (some .long), [], false)
set_option maxRecDepth 100000 in
theorem mfX8_gets : zMf yX8_gets mX8_gets 1 := ⟨List.mem_of_getElem? (i := 1126) rfl, by decide +kernel, by decide +kernel, rfl, by decide +kernel, rfl, by decide, by decide +kernel⟩
abbrev mX8_all : zMI := (RX8, cX8_all, 4, (some .int), [], false)
set_option maxRecDepth 100000 in
theorem mfX8_all : zMf yX8_all mX8_all 1 := ⟨List.mem_of_getElem? (i := 1134) rfl, by decide +kernel, by decide +kernel, rfl, by decide +kernel, rfl, by decide, by decide +kernel⟩
abbrev mX5_letAllReckon : zMI := (RX5, cX5_letAllReckon, 2, none, [], false)
set_option maxRecDepth 100000 in
theorem mfX5_letAllReckon : zMf yX5_letAllReckon mX5_letAllReckon 0 := ⟨List.mem_of_getElem? (i := 1138) rfl, by decide +kernel, by decide +kernel, rfl, by decide +kernel, rfl, by decide, by decide +kernel⟩
abbrev mX8_lastHandOfAll : zMI := (RX8, cX8_lastHandOfAll, 2, (some .long), [], false)
set_option maxRecDepth 100000 in
theorem mfX8_lastHandOfAll : zMf yX8_lastHandOfAll mX8_lastHandOfAll 0 := ⟨List.mem_of_getElem? (i := 1142) rfl, by decide +kernel, by decide +kernel, rfl, by decide +kernel, rfl, by decide, by decide +kernel⟩
abbrev mX1_lastByChoice : zMI := (RX1, cX1_lastByChoice, 5, (some .long), [], false)
set_option maxRecDepth 100000 in
theorem mfX1_lastByChoice : zMf yX1_lastByChoice mX1_lastByChoice 0 := ⟨List.mem_of_getElem? (i := 1146) rfl, by decide +kernel, by decide +kernel, rfl, by decide +kernel, rfl, by decide, by decide +kernel⟩
abbrev mX8_least : zMI := (RX8, cX8_least, 8, (some .int), [], false)
set_option maxRecDepth 100000 in
theorem mfX8_least : zMf yX8_least mX8_least 4 := ⟨List.mem_of_getElem? (i := 1155) rfl, by decide +kernel, by decide +kernel, rfl, by decide +kernel, rfl, by decide, by decide +kernel⟩
abbrev mX8_one : zMI := (RX8, cX8_one, 14, (some .long), [], false)
set_option maxRecDepth 100000 in
theorem mfX8_one : zMf yX8_one mX8_one 4 := ⟨List.mem_of_getElem? (i := 1163) rfl, by decide +kernel, by decide +kernel, rfl, by decide +kernel, rfl, by decide, by decide +kernel⟩
abbrev mX5_handsOpenedAt : zMI := (RX5, cX5_handsOpenedAt, 4, (some .int), [], false)
set_option maxRecDepth 100000 in
theorem mfX5_handsOpenedAt : zMf yX5_handsOpenedAt mX5_handsOpenedAt 1 := ⟨List.mem_of_getElem? (i := 1167) rfl, by decide +kernel, by decide +kernel, rfl, by decide +kernel, rfl, by decide, by decide +kernel⟩
abbrev mX8_gainAsked : zMI := (RX8, cX8_gainAsked, 3, (some .long), [], false)
set_option maxRecDepth 100000 in
theorem mfX8_gainAsked : zMf yX8_gainAsked mX8_gainAsked 1 := ⟨List.mem_of_getElem? (i := 1172) rfl, by decide +kernel, by decide +kernel, rfl, by decide +kernel, rfl, by decide, by decide +kernel⟩
abbrev mX8_named : zMI := (RX8, cX8_named, 6, (some .long), [], false)
set_option maxRecDepth 100000 in
theorem mfX8_named : zMf yX8_named mX8_named 1 := ⟨List.mem_of_getElem? (i := 1179) rfl, by decide +kernel, by decide +kernel, rfl, by decide +kernel, rfl, by decide, by decide +kernel⟩
abbrev mX8_hand : zMI := (RX8, cX8_hand, 2, (some .int), [], false)
set_option maxRecDepth 100000 in
theorem mfX8_hand : zMf yX8_hand mX8_hand 1 := ⟨List.mem_of_getElem? (i := 1190) rfl, by decide +kernel, by decide +kernel, rfl, by decide +kernel, rfl, by decide, by decide +kernel⟩
abbrev mX3_add : zMI := (RX3, cX3_add, 2, (some .boolean), [], false)
set_option maxRecDepth 100000 in
theorem mfX3_add : zMf yX3_add mX3_add 1 := ⟨List.mem_of_getElem? (i := 1194) rfl, by decide +kernel, by decide +kernel, rfl, by decide +kernel, rfl, by decide, by decide +kernel⟩
abbrev mX8_odds : zMI := (RX8, cX8_odds, 2, (some .int), [], false)
set_option maxRecDepth 100000 in
theorem mfX8_odds : zMf yX8_odds mX8_odds 0 := ⟨List.mem_of_getElem? (i := 1201) rfl, by decide +kernel, by decide +kernel, rfl, by decide +kernel, rfl, by decide, by decide +kernel⟩
abbrev mX1_oddsOf : zMI := (RX1, cX1_oddsOf, 10, (some .long), [], false)
set_option maxRecDepth 100000 in
theorem mfX1_oddsOf : zMf yX1_oddsOf mX1_oddsOf 3 := ⟨List.mem_of_getElem? (i := 1206) rfl, by decide +kernel, by decide +kernel, rfl, by decide +kernel, rfl, by decide, by decide +kernel⟩
abbrev mX1_chanceTo : zMI := (RX1, cX1_chanceTo, 10, (some .long), [], false)
set_option maxRecDepth 100000 in
theorem mfX1_chanceTo : zMf yX1_chanceTo mX1_chanceTo 3 := ⟨List.mem_of_getElem? (i := 1210) rfl, by decide +kernel, by decide +kernel, rfl, by decide +kernel, rfl, by decide, by decide +kernel⟩
abbrev mX8_guess : zMI := (RX8, cX8_guess, 5, (some .boolean), [], false)
set_option maxRecDepth 100000 in
theorem mfX8_guess : zMf yX8_guess mX8_guess 4 := ⟨List.mem_of_getElem? (i := 1217) rfl, by decide +kernel, by decide +kernel, rfl, by decide +kernel, rfl, by decide, by decide +kernel⟩
abbrev mX8_needGuess : zMI := (RX8, cX8_needGuess, 2, none, [], false)
set_option maxRecDepth 100000 in
theorem mfX8_needGuess : zMf yX8_needGuess mX8_needGuess 1 := ⟨List.mem_of_getElem? (i := 1221) rfl, by decide +kernel, by decide +kernel, rfl, by decide +kernel, rfl, by decide, by decide +kernel⟩
abbrev mX0_tell : zMI := (RX0, cX0_tell, 5, none, [], false)
set_option maxRecDepth 100000 in
theorem mfX0_tell : zMf yX0_tell mX0_tell 4 := ⟨List.mem_of_getElem? (i := 1226) rfl, by decide +kernel, by decide +kernel, rfl, by decide +kernel, rfl, by decide, by decide +kernel⟩
abbrev mX8_credit : zMI := (RX8, cX8_credit, 4, (some .int), [], false)
set_option maxRecDepth 100000 in
theorem mfX8_credit : zMf yX8_credit mX8_credit 1 := ⟨List.mem_of_getElem? (i := 1233) rfl, by decide +kernel, by decide +kernel, rfl, by decide +kernel, rfl, by decide, by decide +kernel⟩
abbrev mX0_isTold : zMI := (RX0, cX0_isTold, 2, (some .boolean), [], false)
set_option maxRecDepth 100000 in
theorem mfX0_isTold : zMf yX0_isTold mX0_isTold 1 := ⟨List.mem_of_getElem? (i := 1237) rfl, by decide +kernel, by decide +kernel, rfl, by decide +kernel, rfl, by decide, by decide +kernel⟩
abbrev mX0_putInto : zMI := (RX0, cX0_putInto, 4, none, [], false)
set_option maxRecDepth 100000 in
theorem mfX0_putInto : zMf yX0_putInto mX0_putInto 2 := ⟨List.mem_of_getElem? (i := 1241) rfl, by decide +kernel, by decide +kernel, rfl, by decide +kernel, rfl, by decide, by decide +kernel⟩
abbrev mX0_noteOdds : zMI := (RX0, cX0_noteOdds, 5, none, [], false)
set_option maxRecDepth 100000 in
theorem mfX0_noteOdds : zMf yX0_noteOdds mX0_noteOdds 3 := ⟨List.mem_of_getElem? (i := 1245) rfl, by decide +kernel, by decide +kernel, rfl, by decide +kernel, rfl, by decide, by decide +kernel⟩
abbrev mX0_creditOf : zMI := (RX0, cX0_creditOf, 5, (some .int), [], false)
set_option maxRecDepth 100000 in
theorem mfX0_creditOf : zMf yX0_creditOf mX0_creditOf 2 := ⟨List.mem_of_getElem? (i := 1250) rfl, by decide +kernel, by decide +kernel, rfl, by decide +kernel, rfl, by decide, by decide +kernel⟩
abbrev mJ6_bitCount_0f7a4 : zMI := (RJ6, cJ6_bitCount_0f7a4, 1, (some .int), [], false)
set_option maxRecDepth 100000 in
theorem mfJ6_bitCount_0f7a4 : zMf yJ6_bitCount_0f7a4 mJ6_bitCount_0f7a4 1 := ⟨List.mem_of_getElem? (i := 1253) rfl, by decide +kernel, by decide +kernel, rfl, by decide +kernel, rfl, by decide, by decide +kernel⟩
abbrev mX0_weighBy : zMI := (RX0, cX0_weighBy, 5, none, [], false)
set_option maxRecDepth 100000 in
theorem mfX0_weighBy : zMf yX0_weighBy mX0_weighBy 1 := ⟨List.mem_of_getElem? (i := 1262) rfl, by decide +kernel, by decide +kernel, rfl, by decide +kernel, rfl, by decide, by decide +kernel⟩
abbrev mJ9_max_f86c9 : zMI := (RJ9, cJ9_max_f86c9, 4, (some .long), [], false)
set_option maxRecDepth 100000 in
theorem mfJ9_max_f86c9 : zMf yJ9_max_f86c9 mJ9_max_f86c9 2 := ⟨List.mem_of_getElem? (i := 1267) rfl, by decide +kernel, by decide +kernel, rfl, by decide +kernel, rfl, by decide, by decide +kernel⟩
abbrev mX8_chain : zMI := (RX8, cX8_chain, 4, (some .int), [], false)
set_option maxRecDepth 100000 in
theorem mfX8_chain : zMf yX8_chain mX8_chain 1 := ⟨List.mem_of_getElem? (i := 1275) rfl, by decide +kernel, by decide +kernel, rfl, by decide +kernel, rfl, by decide, by decide +kernel⟩
abbrev mX1_surestEnd : zMI := (RX1, cX1_surestEnd, 3, (some .int), [], false)
set_option maxRecDepth 100000 in
theorem mfX1_surestEnd : zMf yX1_surestEnd mX1_surestEnd 0 := ⟨List.mem_of_getElem? (i := 1280) rfl, by decide +kernel, by decide +kernel, rfl, by decide +kernel, rfl, by decide, by decide +kernel⟩
abbrev mX1_tellBehind : zMI := (RX1, cX1_tellBehind, 8, none, [], false)
set_option maxRecDepth 100000 in
theorem mfX1_tellBehind : zMf yX1_tellBehind mX1_tellBehind 1 := ⟨List.mem_of_getElem? (i := 1284) rfl, by decide +kernel, by decide +kernel, rfl, by decide +kernel, rfl, by decide, by decide +kernel⟩
abbrev mX1_isSurer : zMI := (RX1, cX1_isSurer, 6, (some .boolean), [], false)
set_option maxRecDepth 100000 in
theorem mfX1_isSurer : zMf yX1_isSurer mX1_isSurer 3 := ⟨List.mem_of_getElem? (i := 1288) rfl, by decide +kernel, by decide +kernel, rfl, by decide +kernel, rfl, by decide, by decide +kernel⟩
abbrev mX8_chained : zMI := (RX8, cX8_chained, 2, (some .int), [], false)
set_option maxRecDepth 100000 in
theorem mfX8_chained : zMf yX8_chained mX8_chained 1 := ⟨List.mem_of_getElem? (i := 1295) rfl, by decide +kernel, by decide +kernel, rfl, by decide +kernel, rfl, by decide, by decide +kernel⟩
abbrev mX8_two : zMI := (RX8, cX8_two, 7, (some .int), [], false)
set_option maxRecDepth 100000 in
theorem mfX8_two : zMf yX8_two mX8_two 2 := ⟨List.mem_of_getElem? (i := 1303) rfl, by decide +kernel, by decide +kernel, rfl, by decide +kernel, rfl, by decide, by decide +kernel⟩
abbrev mX8_feeling : zMI := (RX8, cX8_feeling, 3, (some .long), [], false)
set_option maxRecDepth 100000 in
theorem mfX8_feeling : zMf yX8_feeling mX8_feeling 1 := ⟨List.mem_of_getElem? (i := 1311) rfl, by decide +kernel, by decide +kernel, rfl, by decide +kernel, rfl, by decide, by decide +kernel⟩
abbrev mX8_theft : zMI := (RX8, cX8_theft, 3, (some .int), [], false)
set_option maxRecDepth 100000 in
theorem mfX8_theft : zMf yX8_theft mX8_theft 2 := ⟨List.mem_of_getElem? (i := 1319) rfl, by decide +kernel, by decide +kernel, rfl, by decide +kernel, rfl, by decide, by decide +kernel⟩
abbrev mX4_add : zMI := (RX4, cX4_add, 3, (some .boolean), [], false)
set_option maxRecDepth 100000 in
theorem mfX4_add : zMf yX4_add mX4_add 2 := ⟨List.mem_of_getElem? (i := 1325) rfl, by decide +kernel, by decide +kernel, rfl, by decide +kernel, rfl, by decide, by decide +kernel⟩
abbrev mX8_thieves : zMI := (RX8, cX8_thieves, 2, (some .int), [], false)
set_option maxRecDepth 100000 in
theorem mfX8_thieves : zMf yX8_thieves mX8_thieves 1 := ⟨List.mem_of_getElem? (i := 1332) rfl, by decide +kernel, by decide +kernel, rfl, by decide +kernel, rfl, by decide, by decide +kernel⟩
abbrev mX4_weigh : zMI := (RX4, cX4_weigh, 3, none, [], false)
set_option maxRecDepth 100000 in
theorem mfX4_weigh : zMf yX4_weigh mX4_weigh 1 := ⟨List.mem_of_getElem? (i := 1336) rfl, by decide +kernel, by decide +kernel, rfl, by decide +kernel, rfl, by decide, by decide +kernel⟩
abbrev mX4_explains : zMI := (RX4, cX4_explains, 3, (some .boolean), [], false)
set_option maxRecDepth 100000 in
theorem mfX4_explains : zMf yX4_explains mX4_explains 1 := ⟨List.mem_of_getElem? (i := 1341) rfl, by decide +kernel, by decide +kernel, rfl, by decide +kernel, rfl, by decide, by decide +kernel⟩
abbrev mX4_take : zMI := (RX4, cX4_take, 4, none, [], false)
set_option maxRecDepth 100000 in
theorem mfX4_take : zMf yX4_take mX4_take 2 := ⟨List.mem_of_getElem? (i := 1346) rfl, by decide +kernel, by decide +kernel, rfl, by decide +kernel, rfl, by decide, by decide +kernel⟩
abbrev mX4_whomToAsk : zMI := (RX4, cX4_whomToAsk, 6, (some .int), [], false)
set_option maxRecDepth 100000 in
theorem mfX4_whomToAsk : zMf yX4_whomToAsk mX4_whomToAsk 1 := ⟨List.mem_of_getElem? (i := 1350) rfl, by decide +kernel, by decide +kernel, rfl, by decide +kernel, rfl, by decide, by decide +kernel⟩
abbrev mJ9_abs_0f7a4 : zMI := (RJ9, cJ9_abs_0f7a4, 1, (some .int), [], false)
set_option maxRecDepth 100000 in
theorem mfJ9_abs_0f7a4 : zMf yJ9_abs_0f7a4 mJ9_abs_0f7a4 1 := ⟨List.mem_of_getElem? (i := 1353) rfl, by decide +kernel, by decide +kernel, rfl, by decide +kernel, rfl, by decide, by decide +kernel⟩
abbrev mX8_luck : zMI := (RX8, cX8_luck, 8, (some .int), [], false)
set_option maxRecDepth 100000 in
theorem mfX8_luck : zMf yX8_luck mX8_luck 3 := ⟨List.mem_of_getElem? (i := 1360) rfl, by decide +kernel, by decide +kernel, rfl, by decide +kernel, rfl, by decide, by decide +kernel⟩
abbrev mX8_begin : zMI := (RX8, cX8_begin, 3, none, [], false)
set_option maxRecDepth 100000 in
theorem mfX8_begin : zMf yX8_begin mX8_begin 2 := ⟨List.mem_of_getElem? (i := 1369) rfl, by decide +kernel, by decide +kernel, rfl, by decide +kernel, rfl, by decide, by decide +kernel⟩
abbrev mX7_start : zMI := (RX7, cX7_start, 3, none, [], false)
set_option maxRecDepth 100000 in
theorem mfX7_start : zMf yX7_start mX7_start 2 := ⟨List.mem_of_getElem? (i := 1374) rfl, by decide +kernel, by decide +kernel, rfl, by decide +kernel, rfl, by decide, by decide +kernel⟩
abbrev mX8_on : zMI := (RX8, cX8_on, 4, (some .int), [], false)
set_option maxRecDepth 100000 in
theorem mfX8_on : zMf yX8_on mX8_on 1 := ⟨List.mem_of_getElem? (i := 1382) rfl, by decide +kernel, by decide +kernel, rfl, by decide +kernel, rfl, by decide, by decide +kernel⟩
abbrev mX7_runOne : zMI := (RX7, cX7_runOne, 6, none, [], false)
set_option maxRecDepth 100000 in
theorem mfX7_runOne : zMf yX7_runOne mX7_runOne 1 := ⟨List.mem_of_getElem? (i := 1387) rfl, by decide +kernel, by decide +kernel, rfl, by decide +kernel, rfl, by decide, by decide +kernel⟩
abbrev mX7_whoAreOut : zMI := (RX7, cX7_whoAreOut, 3, (some .int), [], false)
set_option maxRecDepth 100000 in
theorem mfX7_whoAreOut : zMf yX7_whoAreOut mX7_whoAreOut 0 := ⟨List.mem_of_getElem? (i := 1391) rfl, by decide +kernel, by decide +kernel, rfl, by decide +kernel, rfl, by decide, by decide +kernel⟩
abbrev mX7_nodeBehind : zMI := (RX7, cX7_nodeBehind, 9, (some .int), [], false)
set_option maxRecDepth 100000 in
theorem mfX7_nodeBehind : zMf yX7_nodeBehind mX7_nodeBehind 3 := ⟨List.mem_of_getElem? (i := 1395) rfl, by decide +kernel, by decide +kernel, rfl, by decide +kernel, rfl, by decide, by decide +kernel⟩
abbrev mX7_draw : zMI := (RX7, cX7_draw, 2, (some .int), [], false)
set_option maxRecDepth 100000 in
theorem mfX7_draw : zMf yX7_draw mX7_draw 1 := ⟨List.mem_of_getElem? (i := 1400) rfl, by decide +kernel, by decide +kernel, rfl, by decide +kernel, rfl, by decide, by decide +kernel⟩
abbrev mX7_drawnOf : zMI := (RX7, cX7_drawnOf, 7, (some .int), [], false)
set_option maxRecDepth 100000 in
theorem mfX7_drawnOf : zMf yX7_drawnOf mX7_drawnOf 3 := ⟨List.mem_of_getElem? (i := 1407) rfl, by decide +kernel, by decide +kernel, rfl, by decide +kernel, rfl, by decide, by decide +kernel⟩
abbrev mX7_noteOpened : zMI := (RX7, cX7_noteOpened, 5, none, [], false)
set_option maxRecDepth 100000 in
theorem mfX7_noteOpened : zMf yX7_noteOpened mX7_noteOpened 2 := ⟨List.mem_of_getElem? (i := 1413) rfl, by decide +kernel, by decide +kernel, rfl, by decide +kernel, rfl, by decide, by decide +kernel⟩
abbrev mX8_week : zMI := (RX8, cX8_week, 4, (some .int), [], false)
set_option maxRecDepth 100000 in
theorem mfX8_week : zMf yX8_week mX8_week 2 := ⟨List.mem_of_getElem? (i := 1421) rfl, by decide +kernel, by decide +kernel, rfl, by decide +kernel, rfl, by decide, by decide +kernel⟩
abbrev mX9_init : zMI := (RX9, cX9_init, 1, none, [], true)
set_option maxRecDepth 100000 in
theorem mfX9_init : zMf yX9_init mX9_init 0 := ⟨List.mem_of_getElem? (i := 1428) rfl, by decide +kernel, by decide +kernel, rfl, by decide +kernel, rfl, by decide, by decide +kernel⟩
abbrev mX9_thrown : zMI := (RX9, cX9_thrown, 1, (some .int), [], false)
set_option maxRecDepth 100000 in
theorem mfX9_thrown : zMf yX9_thrown mX9_thrown 0 := ⟨List.mem_of_getElem? (i := 1700) rfl, by decide +kernel, by decide +kernel, rfl, by decide +kernel, rfl, by decide, by decide +kernel⟩
abbrev mX9_feed : zMI := (RX9, cX9_feed, 6, (some .int), [], false)
set_option maxRecDepth 100000 in
theorem mfX9_feed : zMf yX9_feed mX9_feed 5 := ⟨List.mem_of_getElem? (i := 1704) rfl, by decide +kernel, by decide +kernel, rfl, by decide +kernel, rfl, by decide, by decide +kernel⟩
abbrev mX9_lays : zMI := (RX9, cX9_lays, 3, none, [], false)
set_option maxRecDepth 100000 in
theorem mfX9_lays : zMf yX9_lays mX9_lays 1 := ⟨List.mem_of_getElem? (i := 1708) rfl, by decide +kernel, by decide +kernel, rfl, by decide +kernel, rfl, by decide, by decide +kernel⟩
abbrev mX9_town : zMI := (RX9, cX9_town, 3, (some .int), [], false)
set_option maxRecDepth 100000 in
theorem mfX9_town : zMf yX9_town mX9_town 1 := ⟨List.mem_of_getElem? (i := 1712) rfl, by decide +kernel, by decide +kernel, rfl, by decide +kernel, rfl, by decide, by decide +kernel⟩
abbrev mX9_right : zMI := (RX9, cX9_right, 3, (some .boolean), [], false)
set_option maxRecDepth 100000 in
theorem mfX9_right : zMf yX9_right mX9_right 2 := ⟨List.mem_of_getElem? (i := 1716) rfl, by decide +kernel, by decide +kernel, rfl, by decide +kernel, rfl, by decide, by decide +kernel⟩
abbrev mX9_steps : zMI := (RX9, cX9_steps, 2, none, [], false)
set_option maxRecDepth 100000 in
theorem mfX9_steps : zMf yX9_steps mX9_steps 0 := ⟨List.mem_of_getElem? (i := 1720) rfl, by decide +kernel, by decide +kernel, rfl, by decide +kernel, rfl, by decide, by decide +kernel⟩
abbrev mX9_byteAt : zMI := (RX9, cX9_byteAt, 2, (some .int), [], false)
set_option maxRecDepth 100000 in
theorem mfX9_byteAt : zMf yX9_byteAt mX9_byteAt 1 := ⟨List.mem_of_getElem? (i := 1724) rfl, by decide +kernel, by decide +kernel, rfl, by decide +kernel, rfl, by decide, by decide +kernel⟩
abbrev mX9_isLetter : zMI := (RX9, cX9_isLetter, 1, (some .boolean), [], false)
set_option maxRecDepth 100000 in
theorem mfX9_isLetter : zMf yX9_isLetter mX9_isLetter 1 := ⟨List.mem_of_getElem? (i := 1727) rfl, by decide +kernel, by decide +kernel, rfl, by decide +kernel, rfl, by decide, by decide +kernel⟩
abbrev mX9_isDigit : zMI := (RX9, cX9_isDigit, 1, (some .boolean), [], false)
set_option maxRecDepth 100000 in
theorem mfX9_isDigit : zMf yX9_isDigit mX9_isDigit 1 := ⟨List.mem_of_getElem? (i := 1730) rfl, by decide +kernel, by decide +kernel, rfl, by decide +kernel, rfl, by decide, by decide +kernel⟩
abbrev mX9_isGood : zMI := (RX9, cX9_isGood, 1, (some .boolean), [], false)
set_option maxRecDepth 100000 in
theorem mfX9_isGood : zMf yX9_isGood mX9_isGood 0 := ⟨List.mem_of_getElem? (i := 1734) rfl, by decide +kernel, by decide +kernel, rfl, by decide +kernel, rfl, by decide, by decide +kernel⟩
abbrev mX9_line : zMI := (RX9, cX9_line, 2, none, [], false)
set_option maxRecDepth 100000 in
theorem mfX9_line : zMf yX9_line mX9_line 0 := ⟨List.mem_of_getElem? (i := 1738) rfl, by decide +kernel, by decide +kernel, rfl, by decide +kernel, rfl, by decide, by decide +kernel⟩
abbrev mX9_is : zMI := (RX9, cX9_is, 2, (some .boolean), [], false)
set_option maxRecDepth 100000 in
theorem mfX9_is : zMf yX9_is mX9_is 1 := ⟨List.mem_of_getElem? (i := 1742) rfl, by decide +kernel, by decide +kernel, rfl, by decide +kernel, rfl, by decide, by decide +kernel⟩
abbrev mX9_letters : zMI := (RX9, cX9_letters, 1, (some .long), [], false)
set_option maxRecDepth 100000 in
theorem mfX9_letters : zMf yX9_letters mX9_letters 1 := ⟨List.mem_of_getElem? (i := 1745) rfl, by decide +kernel, by decide +kernel, rfl, by decide +kernel, rfl, by decide, by decide +kernel⟩
abbrev mX9_spelled : zMI := (RX9, cX9_spelled, 8, (some .long), [], false)
set_option maxRecDepth 100000 in
theorem mfX9_spelled : zMf yX9_spelled mX9_spelled 6 := ⟨List.mem_of_getElem? (i := 1748) rfl, by decide +kernel, by decide +kernel, rfl, by decide +kernel, rfl, by decide, by decide +kernel⟩
abbrev mX9_readsPerson : zMI := (RX9, cX9_readsPerson, 4, none, [], false)
set_option maxRecDepth 100000 in
theorem mfX9_readsPerson : zMf yX9_readsPerson mX9_readsPerson 0 := ⟨List.mem_of_getElem? (i := 1752) rfl, by decide +kernel, by decide +kernel, rfl, by decide +kernel, rfl, by decide, by decide +kernel⟩
abbrev mX9_wrong : zMI := (RX9, cX9_wrong, 2, none, [], false)
set_option maxRecDepth 100000 in
theorem mfX9_wrong : zMf yX9_wrong mX9_wrong 1 := ⟨List.mem_of_getElem? (i := 1756) rfl, by decide +kernel, by decide +kernel, rfl, by decide +kernel, rfl, by decide, by decide +kernel⟩
abbrev mX9_number : zMI := (RX9, cX9_number, 4, (some .int), [], false)
set_option maxRecDepth 100000 in
theorem mfX9_number : zMf yX9_number mX9_number 2 := ⟨List.mem_of_getElem? (i := 1760) rfl, by decide +kernel, by decide +kernel, rfl, by decide +kernel, rfl, by decide, by decide +kernel⟩
abbrev mX9_perhaps : zMI := (RX9, cX9_perhaps, 5, (some .int), [], false)
set_option maxRecDepth 100000 in
theorem mfX9_perhaps : zMf yX9_perhaps mX9_perhaps 4 := ⟨List.mem_of_getElem? (i := 1764) rfl, by decide +kernel, by decide +kernel, rfl, by decide +kernel, rfl, by decide, by decide +kernel⟩
abbrev mX9_readsKnows : zMI := (RX9, cX9_readsKnows, 4, none, [], false)
set_option maxRecDepth 100000 in
theorem mfX9_readsKnows : zMf yX9_readsKnows mX9_readsKnows 0 := ⟨List.mem_of_getElem? (i := 1768) rfl, by decide +kernel, by decide +kernel, rfl, by decide +kernel, rfl, by decide, by decide +kernel⟩
abbrev mX9_personHere : zMI := (RX9, cX9_personHere, 1, (some .boolean), [], false)
set_option maxRecDepth 100000 in
theorem mfX9_personHere : zMf yX9_personHere mX9_personHere 0 := ⟨List.mem_of_getElem? (i := 1772) rfl, by decide +kernel, by decide +kernel, rfl, by decide +kernel, rfl, by decide, by decide +kernel⟩
abbrev mX9_readsLetter : zMI := (RX9, cX9_readsLetter, 1, none, [], false)
set_option maxRecDepth 100000 in
theorem mfX9_readsLetter : zMf yX9_readsLetter mX9_readsLetter 0 := ⟨List.mem_of_getElem? (i := 1776) rfl, by decide +kernel, by decide +kernel, rfl, by decide +kernel, rfl, by decide, by decide +kernel⟩
abbrev mX9_need : zMI := (RX9, cX9_need, 2, none, [], false)
set_option maxRecDepth 100000 in
theorem mfX9_need : zMf yX9_need mX9_need 1 := ⟨List.mem_of_getElem? (i := 1780) rfl, by decide +kernel, by decide +kernel, rfl, by decide +kernel, rfl, by decide, by decide +kernel⟩
abbrev mX9_copies : zMI := (RX9, cX9_copies, 4, none, [], false)
set_option maxRecDepth 100000 in
theorem mfX9_copies : zMf yX9_copies mX9_copies 2 := ⟨List.mem_of_getElem? (i := 1784) rfl, by decide +kernel, by decide +kernel, rfl, by decide +kernel, rfl, by decide, by decide +kernel⟩
abbrev mX9_fault : zMI := (RX9, cX9_fault, 1, (some .int), [], false)
set_option maxRecDepth 100000 in
theorem mfX9_fault : zMf yX9_fault mX9_fault 0 := ⟨List.mem_of_getElem? (i := 1788) rfl, by decide +kernel, by decide +kernel, rfl, by decide +kernel, rfl, by decide, by decide +kernel⟩
abbrev mX9_count : zMI := (RX9, cX9_count, 2, (some .int), [], false)
set_option maxRecDepth 100000 in
theorem mfX9_count : zMf yX9_count mX9_count 1 := ⟨List.mem_of_getElem? (i := 1792) rfl, by decide +kernel, by decide +kernel, rfl, by decide +kernel, rfl, by decide, by decide +kernel⟩
abbrev mX9_within : zMI := (RX9, cX9_within, 3, (some .boolean), [], false)
set_option maxRecDepth 100000 in
theorem mfX9_within : zMf yX9_within mX9_within 3 := ⟨List.mem_of_getElem? (i := 1795) rfl, by decide +kernel, by decide +kernel, rfl, by decide +kernel, rfl, by decide, by decide +kernel⟩
abbrev mX9_person : zMI := (RX9, cX9_person, 5, (some .int), [], false)
set_option maxRecDepth 100000 in
theorem mfX9_person : zMf yX9_person mX9_person 2 := ⟨List.mem_of_getElem? (i := 1799) rfl, by decide +kernel, by decide +kernel, rfl, by decide +kernel, rfl, by decide, by decide +kernel⟩
abbrev mX9_isPerson : zMI := (RX9, cX9_isPerson, 2, (some .boolean), [], false)
set_option maxRecDepth 100000 in
theorem mfX9_isPerson : zMf yX9_isPerson mX9_isPerson 1 := ⟨List.mem_of_getElem? (i := 1803) rfl, by decide +kernel, by decide +kernel, rfl, by decide +kernel, rfl, by decide, by decide +kernel⟩
abbrev mX9_weight : zMI := (RX9, cX9_weight, 3, (some .int), [], false)
set_option maxRecDepth 100000 in
theorem mfX9_weight : zMf yX9_weight mX9_weight 2 := ⟨List.mem_of_getElem? (i := 1807) rfl, by decide +kernel, by decide +kernel, rfl, by decide +kernel, rfl, by decide, by decide +kernel⟩
abbrev mX9_opened : zMI := (RX9, cX9_opened, 3, (some .int), [], false)
set_option maxRecDepth 100000 in
theorem mfX9_opened : zMf yX9_opened mX9_opened 2 := ⟨List.mem_of_getElem? (i := 1811) rfl, by decide +kernel, by decide +kernel, rfl, by decide +kernel, rfl, by decide, by decide +kernel⟩
abbrev mX9_asTold : zMI := (RX9, cX9_asTold, 1, none, [], false)
set_option maxRecDepth 100000 in
theorem mfX9_asTold : zMf yX9_asTold mX9_asTold 0 := ⟨List.mem_of_getElem? (i := 1815) rfl, by decide +kernel, by decide +kernel, rfl, by decide +kernel, rfl, by decide, by decide +kernel⟩
abbrev mX9_asks : zMI := (RX9, cX9_asks, 3, (some .boolean), [], false)
set_option maxRecDepth 100000 in
theorem mfX9_asks : zMf yX9_asks mX9_asks 1 := ⟨List.mem_of_getElem? (i := 1819) rfl, by decide +kernel, by decide +kernel, rfl, by decide +kernel, rfl, by decide, by decide +kernel⟩
abbrev mX9_builds : zMI := (RX9, cX9_builds, 5, (some .boolean), [], false)
set_option maxRecDepth 100000 in
theorem mfX9_builds : zMf yX9_builds mX9_builds 1 := ⟨List.mem_of_getElem? (i := 1823) rfl, by decide +kernel, by decide +kernel, rfl, by decide +kernel, rfl, by decide, by decide +kernel⟩
abbrev mX9_hand0 : zMI := (RX9, cX9_hand0, 7, (some .int), [], false)
set_option maxRecDepth 100000 in
theorem mfX9_hand0 : zMf yX9_hand0 mX9_hand0 4 := ⟨List.mem_of_getElem? (i := 1827) rfl, by decide +kernel, by decide +kernel, rfl, by decide +kernel, rfl, by decide, by decide +kernel⟩
abbrev mX9_mixOf : zMI := (RX9, cX9_mixOf, 5, (some .int), [], false)
set_option maxRecDepth 100000 in
theorem mfX9_mixOf : zMf yX9_mixOf mX9_mixOf 4 := ⟨List.mem_of_getElem? (i := 1830) rfl, by decide +kernel, by decide +kernel, rfl, by decide +kernel, rfl, by decide, by decide +kernel⟩
abbrev mX9_may : zMI := (RX9, cX9_may, 3, (some .boolean), [], false)
set_option maxRecDepth 100000 in
theorem mfX9_may : zMf yX9_may mX9_may 2 := ⟨List.mem_of_getElem? (i := 1837) rfl, by decide +kernel, by decide +kernel, rfl, by decide +kernel, rfl, by decide, by decide +kernel⟩
abbrev mX9_reckons : zMI := (RX9, cX9_reckons, 8, none, [], false)
set_option maxRecDepth 100000 in
theorem mfX9_reckons : zMf yX9_reckons mX9_reckons 1 := ⟨List.mem_of_getElem? (i := 1841) rfl, by decide +kernel, by decide +kernel, rfl, by decide +kernel, rfl, by decide, by decide +kernel⟩
abbrev mX9_weightsOf : zMI := (RX9, cX9_weightsOf, 4, (some .int), [], false)
set_option maxRecDepth 100000 in
theorem mfX9_weightsOf : zMf yX9_weightsOf mX9_weightsOf 1 := ⟨List.mem_of_getElem? (i := 1845) rfl, by decide +kernel, by decide +kernel, rfl, by decide +kernel, rfl, by decide, by decide +kernel⟩
abbrev mX9_opens : zMI := (RX9, cX9_opens, 3, none, [], false)
set_option maxRecDepth 100000 in
theorem mfX9_opens : zMf yX9_opens mX9_opens 1 := ⟨List.mem_of_getElem? (i := 1849) rfl, by decide +kernel, by decide +kernel, rfl, by decide +kernel, rfl, by decide, by decide +kernel⟩
abbrev mX9_pence : zMI := (RX9, cX9_pence, 2, (some .int), [], false)
set_option maxRecDepth 100000 in
theorem mfX9_pence : zMf yX9_pence mX9_pence 1 := ⟨List.mem_of_getElem? (i := 1854) rfl, by decide +kernel, by decide +kernel, rfl, by decide +kernel, rfl, by decide, by decide +kernel⟩
abbrev mX9_worth : zMI := (RX9, cX9_worth, 5, (some .long), [], false)
set_option maxRecDepth 100000 in
theorem mfX9_worth : zMf yX9_worth mX9_worth 2 := ⟨List.mem_of_getElem? (i := 1859) rfl, by decide +kernel, by decide +kernel, rfl, by decide +kernel, rfl, by decide, by decide +kernel⟩
abbrev mX9_bySending : zMI := (RX9, cX9_bySending, 5, (some .long), [], false)
set_option maxRecDepth 100000 in
theorem mfX9_bySending : zMf yX9_bySending mX9_bySending 3 := ⟨List.mem_of_getElem? (i := 1863) rfl, by decide +kernel, by decide +kernel, rfl, by decide +kernel, rfl, by decide, by decide +kernel⟩
abbrev mX9_paid : zMI := (RX9, cX9_paid, 3, (some .long), [], false)
set_option maxRecDepth 100000 in
theorem mfX9_paid : zMf yX9_paid mX9_paid 1 := ⟨List.mem_of_getElem? (i := 1867) rfl, by decide +kernel, by decide +kernel, rfl, by decide +kernel, rfl, by decide, by decide +kernel⟩
abbrev mX9_isOpenedAt : zMI := (RX9, cX9_isOpenedAt, 3, (some .boolean), [], false)
set_option maxRecDepth 100000 in
theorem mfX9_isOpenedAt : zMf yX9_isOpenedAt mX9_isOpenedAt 2 := ⟨List.mem_of_getElem? (i := 1871) rfl, by decide +kernel, by decide +kernel, rfl, by decide +kernel, rfl, by decide, by decide +kernel⟩
abbrev mX9_sends : zMI := (RX9, cX9_sends, 7, none, [], false)
set_option maxRecDepth 100000 in
theorem mfX9_sends : zMf yX9_sends mX9_sends 2 := ⟨List.mem_of_getElem? (i := 1875) rfl, by decide +kernel, by decide +kernel, rfl, by decide +kernel, rfl, by decide, by decide +kernel⟩
abbrev mX9_floor : zMI := (RX9, cX9_floor, 6, (some .long), [], false)
set_option maxRecDepth 100000 in
theorem mfX9_floor : zMf yX9_floor mX9_floor 2 := ⟨List.mem_of_getElem? (i := 1878) rfl, by decide +kernel, by decide +kernel, rfl, by decide +kernel, rfl, by decide, by decide +kernel⟩
abbrev mX9_spreads : zMI := (RX9, cX9_spreads, 15, none, [], false)
set_option maxRecDepth 100000 in
theorem mfX9_spreads : zMf yX9_spreads mX9_spreads 0 := ⟨List.mem_of_getElem? (i := 1882) rfl, by decide +kernel, by decide +kernel, rfl, by decide +kernel, rfl, by decide, by decide +kernel⟩
abbrev mX9_openedOf : zMI := (RX9, cX9_openedOf, 5, (some .long), [], false)
set_option maxRecDepth 100000 in
theorem mfX9_openedOf : zMf yX9_openedOf mX9_openedOf 2 := ⟨List.mem_of_getElem? (i := 1886) rfl, by decide +kernel, by decide +kernel, rfl, by decide +kernel, rfl, by decide, by decide +kernel⟩
abbrev mX9_goes : zMI := (RX9, cX9_goes, 2, (some .long), [], false)
set_option maxRecDepth 100000 in
theorem mfX9_goes : zMf yX9_goes mX9_goes 1 := ⟨List.mem_of_getElem? (i := 1890) rfl, by decide +kernel, by decide +kernel, rfl, by decide +kernel, rfl, by decide, by decide +kernel⟩
abbrev mX9_endAll : zMI := (RX9, cX9_endAll, 4, (some .long), [], false)
set_option maxRecDepth 100000 in
theorem mfX9_endAll : zMf yX9_endAll mX9_endAll 0 := ⟨List.mem_of_getElem? (i := 1894) rfl, by decide +kernel, by decide +kernel, rfl, by decide +kernel, rfl, by decide, by decide +kernel⟩
abbrev mX9_goesAll : zMI := (RX9, cX9_goesAll, 5, (some .long), [], false)
set_option maxRecDepth 100000 in
theorem mfX9_goesAll : zMf yX9_goesAll mX9_goesAll 0 := ⟨List.mem_of_getElem? (i := 1898) rfl, by decide +kernel, by decide +kernel, rfl, by decide +kernel, rfl, by decide, by decide +kernel⟩
abbrev mX9_gets : zMI := (RX9, cX9_gets, 2, (some .long), [], false)
set_option maxRecDepth 100000 in
theorem mfX9_gets : zMf yX9_gets mX9_gets 1 := ⟨List.mem_of_getElem? (i := 1902) rfl, by decide +kernel, by decide +kernel, rfl, by decide +kernel, rfl, by decide, by decide +kernel⟩
abbrev mX9_all : zMI := (RX9, cX9_all, 3, (some .int), [], false)
set_option maxRecDepth 100000 in
theorem mfX9_all : zMf yX9_all mX9_all 1 := ⟨List.mem_of_getElem? (i := 1906) rfl, by decide +kernel, by decide +kernel, rfl, by decide +kernel, rfl, by decide, by decide +kernel⟩
abbrev mX9_allReckon : zMI := (RX9, cX9_allReckon, 2, (some .int), [], false)
set_option maxRecDepth 100000 in
theorem mfX9_allReckon : zMf yX9_allReckon mX9_allReckon 0 := ⟨List.mem_of_getElem? (i := 1910) rfl, by decide +kernel, by decide +kernel, rfl, by decide +kernel, rfl, by decide, by decide +kernel⟩
abbrev mX9_least : zMI := (RX9, cX9_least, 11, (some .int), [], false)
set_option maxRecDepth 100000 in
theorem mfX9_least : zMf yX9_least mX9_least 4 := ⟨List.mem_of_getElem? (i := 1914) rfl, by decide +kernel, by decide +kernel, rfl, by decide +kernel, rfl, by decide, by decide +kernel⟩
abbrev mX9_one : zMI := (RX9, cX9_one, 10, (some .long), [], false)
set_option maxRecDepth 100000 in
theorem mfX9_one : zMf yX9_one mX9_one 4 := ⟨List.mem_of_getElem? (i := 1918) rfl, by decide +kernel, by decide +kernel, rfl, by decide +kernel, rfl, by decide, by decide +kernel⟩
abbrev mX9_named : zMI := (RX9, cX9_named, 7, (some .long), [], false)
set_option maxRecDepth 100000 in
theorem mfX9_named : zMf yX9_named mX9_named 1 := ⟨List.mem_of_getElem? (i := 1922) rfl, by decide +kernel, by decide +kernel, rfl, by decide +kernel, rfl, by decide, by decide +kernel⟩
abbrev mX9_hand : zMI := (RX9, cX9_hand, 2, (some .int), [], false)
set_option maxRecDepth 100000 in
theorem mfX9_hand : zMf yX9_hand mX9_hand 1 := ⟨List.mem_of_getElem? (i := 1927) rfl, by decide +kernel, by decide +kernel, rfl, by decide +kernel, rfl, by decide, by decide +kernel⟩
abbrev mX9_judge : zMI := (RX9, cX9_judge, 1, (some .int), [], false)
set_option maxRecDepth 100000 in
theorem mfX9_judge : zMf yX9_judge mX9_judge 0 := ⟨List.mem_of_getElem? (i := 1931) rfl, by decide +kernel, by decide +kernel, rfl, by decide +kernel, rfl, by decide, by decide +kernel⟩
abbrev mX9_asksRow : zMI := (RX9, cX9_asksRow, 1, none, [], false)
set_option maxRecDepth 100000 in
theorem mfX9_asksRow : zMf yX9_asksRow mX9_asksRow 0 := ⟨List.mem_of_getElem? (i := 1935) rfl, by decide +kernel, by decide +kernel, rfl, by decide +kernel, rfl, by decide, by decide +kernel⟩
abbrev mX9_firstWrong : zMI := (RX9, cX9_firstWrong, 5, (some .int), [], false)
set_option maxRecDepth 100000 in
theorem mfX9_firstWrong : zMf yX9_firstWrong mX9_firstWrong 0 := ⟨List.mem_of_getElem? (i := 1939) rfl, by decide +kernel, by decide +kernel, rfl, by decide +kernel, rfl, by decide, by decide +kernel⟩
abbrev mX9_odds : zMI := (RX9, cX9_odds, 1, (some .int), [], false)
set_option maxRecDepth 100000 in
theorem mfX9_odds : zMf yX9_odds mX9_odds 0 := ⟨List.mem_of_getElem? (i := 1943) rfl, by decide +kernel, by decide +kernel, rfl, by decide +kernel, rfl, by decide, by decide +kernel⟩
abbrev mX9_oddsNow : zMI := (RX9, cX9_oddsNow, 5, (some .long), [], false)
set_option maxRecDepth 100000 in
theorem mfX9_oddsNow : zMf yX9_oddsNow mX9_oddsNow 0 := ⟨List.mem_of_getElem? (i := 1947) rfl, by decide +kernel, by decide +kernel, rfl, by decide +kernel, rfl, by decide, by decide +kernel⟩
abbrev mX9_stepTo : zMI := (RX9, cX9_stepTo, 6, (some .long), [], false)
set_option maxRecDepth 100000 in
theorem mfX9_stepTo : zMf yX9_stepTo mX9_stepTo 3 := ⟨List.mem_of_getElem? (i := 1951) rfl, by decide +kernel, by decide +kernel, rfl, by decide +kernel, rfl, by decide, by decide +kernel⟩
abbrev mX9_sentOf : zMI := (RX9, cX9_sentOf, 5, (some .long), [], false)
set_option maxRecDepth 100000 in
theorem mfX9_sentOf : zMf yX9_sentOf mX9_sentOf 2 := ⟨List.mem_of_getElem? (i := 1955) rfl, by decide +kernel, by decide +kernel, rfl, by decide +kernel, rfl, by decide, by decide +kernel⟩
abbrev mX9_ended : zMI := (RX9, cX9_ended, 2, (some .int), [], false)
set_option maxRecDepth 100000 in
theorem mfX9_ended : zMf yX9_ended mX9_ended 0 := ⟨List.mem_of_getElem? (i := 1959) rfl, by decide +kernel, by decide +kernel, rfl, by decide +kernel, rfl, by decide, by decide +kernel⟩
abbrev mX9_guess : zMI := (RX9, cX9_guess, 5, (some .boolean), [], false)
set_option maxRecDepth 100000 in
theorem mfX9_guess : zMf yX9_guess mX9_guess 4 := ⟨List.mem_of_getElem? (i := 1963) rfl, by decide +kernel, by decide +kernel, rfl, by decide +kernel, rfl, by decide, by decide +kernel⟩
abbrev mX9_credit : zMI := (RX9, cX9_credit, 9, (some .int), [], false)
set_option maxRecDepth 100000 in
theorem mfX9_credit : zMf yX9_credit mX9_credit 1 := ⟨List.mem_of_getElem? (i := 1967) rfl, by decide +kernel, by decide +kernel, rfl, by decide +kernel, rfl, by decide, by decide +kernel⟩
abbrev mX9_isTold : zMI := (RX9, cX9_isTold, 4, (some .boolean), [], false)
set_option maxRecDepth 100000 in
theorem mfX9_isTold : zMf yX9_isTold mX9_isTold 1 := ⟨List.mem_of_getElem? (i := 1971) rfl, by decide +kernel, by decide +kernel, rfl, by decide +kernel, rfl, by decide, by decide +kernel⟩
abbrev mX9_chain : zMI := (RX9, cX9_chain, 10, (some .int), [], false)
set_option maxRecDepth 100000 in
theorem mfX9_chain : zMf yX9_chain mX9_chain 1 := ⟨List.mem_of_getElem? (i := 1976) rfl, by decide +kernel, by decide +kernel, rfl, by decide +kernel, rfl, by decide, by decide +kernel⟩
abbrev mX9_chained : zMI := (RX9, cX9_chained, 2, (some .int), [], false)
set_option maxRecDepth 100000 in
theorem mfX9_chained : zMf yX9_chained mX9_chained 1 := ⟨List.mem_of_getElem? (i := 1981) rfl, by decide +kernel, by decide +kernel, rfl, by decide +kernel, rfl, by decide, by decide +kernel⟩
abbrev mX9_two : zMI := (RX9, cX9_two, 6, (some .int), [], false)
set_option maxRecDepth 100000 in
theorem mfX9_two : zMf yX9_two mX9_two 2 := ⟨List.mem_of_getElem? (i := 1985) rfl, by decide +kernel, by decide +kernel, rfl, by decide +kernel, rfl, by decide, by decide +kernel⟩
abbrev mX9_feeling : zMI := (RX9, cX9_feeling, 4, (some .long), [], false)
set_option maxRecDepth 100000 in
theorem mfX9_feeling : zMf yX9_feeling mX9_feeling 1 := ⟨List.mem_of_getElem? (i := 1989) rfl, by decide +kernel, by decide +kernel, rfl, by decide +kernel, rfl, by decide, by decide +kernel⟩
abbrev mX9_theft : zMI := (RX9, cX9_theft, 3, (some .int), [], false)
set_option maxRecDepth 100000 in
theorem mfX9_theft : zMf yX9_theft mX9_theft 2 := ⟨List.mem_of_getElem? (i := 1993) rfl, by decide +kernel, by decide +kernel, rfl, by decide +kernel, rfl, by decide, by decide +kernel⟩
abbrev mX9_thieves : zMI := (RX9, cX9_thieves, 9, (some .int), [], false)
set_option maxRecDepth 100000 in
theorem mfX9_thieves : zMf yX9_thieves mX9_thieves 1 := ⟨List.mem_of_getElem? (i := 1997) rfl, by decide +kernel, by decide +kernel, rfl, by decide +kernel, rfl, by decide, by decide +kernel⟩
abbrev mX9_bits : zMI := (RX9, cX9_bits, 3, (some .int), [], false)
set_option maxRecDepth 100000 in
theorem mfX9_bits : zMf yX9_bits mX9_bits 1 := ⟨List.mem_of_getElem? (i := 2000) rfl, by decide +kernel, by decide +kernel, rfl, by decide +kernel, rfl, by decide, by decide +kernel⟩
abbrev mX9_nearest : zMI := (RX9, cX9_nearest, 6, (some .int), [], false)
set_option maxRecDepth 100000 in
theorem mfX9_nearest : zMf yX9_nearest mX9_nearest 1 := ⟨List.mem_of_getElem? (i := 2004) rfl, by decide +kernel, by decide +kernel, rfl, by decide +kernel, rfl, by decide, by decide +kernel⟩
abbrev mX9_luck : zMI := (RX9, cX9_luck, 7, (some .int), [], false)
set_option maxRecDepth 100000 in
theorem mfX9_luck : zMf yX9_luck mX9_luck 3 := ⟨List.mem_of_getElem? (i := 2008) rfl, by decide +kernel, by decide +kernel, rfl, by decide +kernel, rfl, by decide, by decide +kernel⟩
abbrev mX9_begin : zMI := (RX9, cX9_begin, 4, none, [], false)
set_option maxRecDepth 100000 in
theorem mfX9_begin : zMf yX9_begin mX9_begin 2 := ⟨List.mem_of_getElem? (i := 2012) rfl, by decide +kernel, by decide +kernel, rfl, by decide +kernel, rfl, by decide, by decide +kernel⟩
abbrev mX9_on : zMI := (RX9, cX9_on, 3, (some .int), [], false)
set_option maxRecDepth 100000 in
theorem mfX9_on : zMf yX9_on mX9_on 1 := ⟨List.mem_of_getElem? (i := 2016) rfl, by decide +kernel, by decide +kernel, rfl, by decide +kernel, rfl, by decide, by decide +kernel⟩
abbrev mX9_week0 : zMI := (RX9, cX9_week0, 4, none, [], false)
set_option maxRecDepth 100000 in
theorem mfX9_week0 : zMf yX9_week0 mX9_week0 1 := ⟨List.mem_of_getElem? (i := 2020) rfl, by decide +kernel, by decide +kernel, rfl, by decide +kernel, rfl, by decide, by decide +kernel⟩
abbrev mX9_isOut : zMI := (RX9, cX9_isOut, 3, (some .boolean), [], false)
set_option maxRecDepth 100000 in
theorem mfX9_isOut : zMf yX9_isOut mX9_isOut 2 := ⟨List.mem_of_getElem? (i := 2024) rfl, by decide +kernel, by decide +kernel, rfl, by decide +kernel, rfl, by decide, by decide +kernel⟩
abbrev mX9_goesTo : zMI := (RX9, cX9_goesTo, 7, (some .int), [], false)
set_option maxRecDepth 100000 in
theorem mfX9_goesTo : zMf yX9_goesTo mX9_goesTo 2 := ⟨List.mem_of_getElem? (i := 2028) rfl, by decide +kernel, by decide +kernel, rfl, by decide +kernel, rfl, by decide, by decide +kernel⟩
abbrev mX9_draw : zMI := (RX9, cX9_draw, 2, (some .int), [], false)
set_option maxRecDepth 100000 in
theorem mfX9_draw : zMf yX9_draw mX9_draw 1 := ⟨List.mem_of_getElem? (i := 2032) rfl, by decide +kernel, by decide +kernel, rfl, by decide +kernel, rfl, by decide, by decide +kernel⟩
abbrev mX9_week : zMI := (RX9, cX9_week, 3, (some .int), [], false)
set_option maxRecDepth 100000 in
theorem mfX9_week : zMf yX9_week mX9_week 2 := ⟨List.mem_of_getElem? (i := 2037) rfl, by decide +kernel, by decide +kernel, rfl, by decide +kernel, rfl, by decide, by decide +kernel⟩
abbrev mX9_image : zMI := (RX9, cX9_image, 1, (some .boolean), [], false)
set_option maxRecDepth 100000 in
theorem mfX9_image : zMf yX9_image mX9_image 0 := ⟨List.mem_of_getElem? (i := 2041) rfl, by decide +kernel, by decide +kernel, rfl, by decide +kernel, rfl, by decide, by decide +kernel⟩
abbrev mX9_restore : zMI := (RX9, cX9_restore, 1, (some .boolean), [], false)
set_option maxRecDepth 100000 in
theorem mfX9_restore : zMf yX9_restore mX9_restore 0 := ⟨List.mem_of_getElem? (i := 2045) rfl, by decide +kernel, by decide +kernel, rfl, by decide +kernel, rfl, by decide, by decide +kernel⟩
