/-! words: a method's own (m..), a pool entry that is a method (k..), a field (f..) -/
theorem t1 {i : Nat} {w : Cond} (h : tables_1_1[i]? = some w) (hg : goodWord w = true) : w ∈ tblG := List.mem_filter.mpr ⟨List.mem_append_right _ (show w ∈ tables_1 from List.mem_append_left _ (List.mem_of_getElem? h)), hg⟩
theorem t2 {i : Nat} {w : Cond} (h : tables_1_2[i]? = some w) (hg : goodWord w = true) : w ∈ tblG := List.mem_filter.mpr ⟨List.mem_append_right _ (show w ∈ tables_1 from List.mem_append_right _ (List.mem_append_left _ (List.mem_of_getElem? h))), hg⟩
theorem t3 {i : Nat} {w : Cond} (h : tables_1_3[i]? = some w) (hg : goodWord w = true) : w ∈ tblG := List.mem_filter.mpr ⟨List.mem_append_right _ (show w ∈ tables_1 from List.mem_append_right _ (List.mem_append_right _ (List.mem_append_left _ (List.mem_of_getElem? h)))), hg⟩
theorem t4 {i : Nat} {w : Cond} (h : tables_1_4[i]? = some w) (hg : goodWord w = true) : w ∈ tblG := List.mem_filter.mpr ⟨List.mem_append_right _ (show w ∈ tables_1 from List.mem_append_right _ (List.mem_append_right _ (List.mem_append_right _ (List.mem_append_left _ (List.mem_of_getElem? h))))), hg⟩
theorem t5 {i : Nat} {w : Cond} (h : tables_1_5[i]? = some w) (hg : goodWord w = true) : w ∈ tblG := List.mem_filter.mpr ⟨List.mem_append_right _ (show w ∈ tables_1 from List.mem_append_right _ (List.mem_append_right _ (List.mem_append_right _ (List.mem_append_right _ (List.mem_append_left _ (List.mem_of_getElem? h)))))), hg⟩
theorem t6 {i : Nat} {w : Cond} (h : tables_1_6[i]? = some w) (hg : goodWord w = true) : w ∈ tblG := List.mem_filter.mpr ⟨List.mem_append_right _ (show w ∈ tables_1 from List.mem_append_right _ (List.mem_append_right _ (List.mem_append_right _ (List.mem_append_right _ (List.mem_append_right _ (List.mem_append_left _ (List.mem_of_getElem? h))))))), hg⟩
theorem t7 {i : Nat} {w : Cond} (h : tables_1_7[i]? = some w) (hg : goodWord w = true) : w ∈ tblG := List.mem_filter.mpr ⟨List.mem_append_right _ (show w ∈ tables_1 from List.mem_append_right _ (List.mem_append_right _ (List.mem_append_right _ (List.mem_append_right _ (List.mem_append_right _ (List.mem_append_right _ (List.mem_append_left _ (List.mem_of_getElem? h)))))))), hg⟩
theorem t8 {i : Nat} {w : Cond} (h : tables_1_8[i]? = some w) (hg : goodWord w = true) : w ∈ tblG := List.mem_filter.mpr ⟨List.mem_append_right _ (show w ∈ tables_1 from List.mem_append_right _ (List.mem_append_right _ (List.mem_append_right _ (List.mem_append_right _ (List.mem_append_right _ (List.mem_append_right _ (List.mem_append_right _ (List.mem_append_left _ (List.mem_of_getElem? h))))))))), hg⟩
theorem t9 {i : Nat} {w : Cond} (h : tables_1_9[i]? = some w) (hg : goodWord w = true) : w ∈ tblG := List.mem_filter.mpr ⟨List.mem_append_right _ (show w ∈ tables_1 from List.mem_append_right _ (List.mem_append_right _ (List.mem_append_right _ (List.mem_append_right _ (List.mem_append_right _ (List.mem_append_right _ (List.mem_append_right _ (List.mem_append_right _ (List.mem_of_getElem? h))))))))), hg⟩
theorem mX10_init : mI yX10_init cX10_init 1 0 := ⟨⟨(t1 (i := 28) rfl rfl), (t1 (i := 1) rfl rfl), ⟨by decide, by decide⟩, by decide +kernel, by decide⟩, (t1 (i := 27) rfl rfl), rfl⟩
theorem mX7_init : mI yX7_init cX7_init 2 0 := ⟨⟨(t1 (i := 36) rfl rfl), (t1 (i := 2) rfl rfl), ⟨by decide, by decide⟩, by decide +kernel, by decide⟩, (t1 (i := 35) rfl rfl), rfl⟩
theorem mX2_init : mI yX2_init cX2_init 2 1 := ⟨⟨(t1 (i := 43) rfl rfl), (t1 (i := 3) rfl rfl), ⟨by decide, by decide⟩, by decide +kernel, by decide⟩, (t1 (i := 42) rfl rfl), rfl⟩
theorem mX3_init : mI yX3_init cX3_init 2 1 := ⟨⟨(t1 (i := 114) rfl rfl), (t1 (i := 4) rfl rfl), ⟨by decide, by decide⟩, by decide +kernel, by decide⟩, (t1 (i := 113) rfl rfl), rfl⟩
theorem mX8_init : mI yX8_init cX8_init 3 2 := ⟨⟨(t1 (i := 212) rfl rfl), (t1 (i := 5) rfl rfl), ⟨by decide, by decide⟩, by decide +kernel, by decide⟩, (t1 (i := 211) rfl rfl), rfl⟩
theorem mX7_clear : mV yX7_clear cX7_clear 1 (Option.none : Option FieldType) 0 := ⟨⟨(t1 (i := 229) rfl rfl), (t1 (i := 2) rfl rfl), ⟨by decide, by decide⟩, by decide +kernel, by decide⟩, (t1 (i := 227) rfl rfl), (t1 (i := 228) rfl rfl)⟩
theorem mX1_init : mI yX1_init cX1_init 2 0 := ⟨⟨(t2 (i := 47) rfl rfl), (t1 (i := 7) rfl rfl), ⟨by decide, by decide⟩, by decide +kernel, by decide⟩, (t2 (i := 46) rfl rfl), rfl⟩
theorem mX6_init : mI yX6_init cX6_init 6 0 := ⟨⟨(t2 (i := 67) rfl rfl), (t1 (i := 8) rfl rfl), ⟨by decide, by decide⟩, by decide +kernel, by decide⟩, (t2 (i := 66) rfl rfl), rfl⟩
theorem mX10_keyword : mS yX10_keyword cX10_keyword 1 (Option.some (.object "java/lang/String")) 1 := ⟨⟨(t2 (i := 71) rfl rfl), (t1 (i := 1) rfl rfl), ⟨by decide, by decide⟩, by decide +kernel, by decide⟩, (t2 (i := 70) rfl rfl)⟩
theorem mJ0_length_8abf5 : mV yJ0_length_8abf5 cJ0_length_8abf5 1 (Option.some .int) 0 := ⟨⟨(t2 (i := 86) rfl rfl), (t1 (i := 9) rfl rfl), ⟨by decide, by decide⟩, by decide +kernel, by decide⟩, (t2 (i := 84) rfl rfl), (t2 (i := 85) rfl rfl)⟩
theorem mJ0_coder_7d493 : mV yJ0_coder_7d493 cJ0_coder_7d493 1 (Option.some .byte) 0 := ⟨⟨(t2 (i := 90) rfl rfl), (t1 (i := 9) rfl rfl), ⟨by decide, by decide⟩, by decide +kernel, by decide⟩, (t2 (i := 88) rfl rfl), (t2 (i := 89) rfl rfl)⟩
theorem mJ0_charAt_5068e : mV yJ0_charAt_5068e cJ0_charAt_5068e 2 (Option.some .char) 1 := ⟨⟨(t2 (i := 96) rfl rfl), (t1 (i := 9) rfl rfl), ⟨by decide, by decide⟩, by decide +kernel, by decide⟩, (t2 (i := 94) rfl rfl), (t2 (i := 95) rfl rfl)⟩
theorem mJ0_isLatin1_aae02 : mV yJ0_isLatin1_aae02 cJ0_isLatin1_aae02 1 (Option.some .boolean) 0 := ⟨⟨(t2 (i := 100) rfl rfl), (t1 (i := 9) rfl rfl), ⟨by decide, by decide⟩, by decide +kernel, by decide⟩, (t2 (i := 98) rfl rfl), (t2 (i := 99) rfl rfl)⟩
theorem mJ1_charAt_3b067 : mS yJ1_charAt_3b067 cJ1_charAt_3b067 2 (Option.some .char) 2 := ⟨⟨(t2 (i := 103) rfl rfl), (t1 (i := 10) rfl rfl), ⟨by decide, by decide⟩, by decide +kernel, by decide⟩, (t2 (i := 102) rfl rfl)⟩
theorem mJ0_checkIndex_df160 : mS yJ0_checkIndex_df160 cJ0_checkIndex_df160 2 (Option.none : Option FieldType) 2 := ⟨⟨(t2 (i := 106) rfl rfl), (t1 (i := 9) rfl rfl), ⟨by decide, by decide⟩, by decide +kernel, by decide⟩, (t2 (i := 105) rfl rfl)⟩
theorem mJ3_checkIndex_8e157 : mS yJ3_checkIndex_8e157 cJ3_checkIndex_8e157 3 (Option.some .int) 3 := ⟨⟨(t2 (i := 111) rfl rfl), (t1 (i := 11) rfl rfl), ⟨by decide, by decide⟩, by decide +kernel, by decide⟩, (t2 (i := 110) rfl rfl)⟩
theorem mJ2_charAt_3b067 : mS yJ2_charAt_3b067 cJ2_charAt_3b067 2 (Option.some .char) 2 := ⟨⟨(t2 (i := 114) rfl rfl), (t1 (i := 12) rfl rfl), ⟨by decide, by decide⟩, by decide +kernel, by decide⟩, (t2 (i := 113) rfl rfl)⟩
theorem mJ2_checkIndex_2214a : mS yJ2_checkIndex_2214a cJ2_checkIndex_2214a 2 (Option.none : Option FieldType) 2 := ⟨⟨(t2 (i := 117) rfl rfl), (t1 (i := 12) rfl rfl), ⟨by decide, by decide⟩, by decide +kernel, by decide⟩, (t2 (i := 116) rfl rfl)⟩
theorem mJ2_length_9d52b : mS yJ2_length_9d52b cJ2_length_9d52b 1 (Option.some .int) 1 := ⟨⟨(t2 (i := 120) rfl rfl), (t1 (i := 12) rfl rfl), ⟨by decide, by decide⟩, by decide +kernel, by decide⟩, (t2 (i := 119) rfl rfl)⟩
theorem mJ2_getChar_3b067 : mS yJ2_getChar_3b067 cJ2_getChar_3b067 2 (Option.some .char) 2 := ⟨⟨(t2 (i := 124) rfl rfl), (t1 (i := 12) rfl rfl), ⟨by decide, by decide⟩, by decide +kernel, by decide⟩, (t2 (i := 123) rfl rfl)⟩
theorem mX6_packLetter : mS yX6_packLetter cX6_packLetter 3 (Option.some .long) 2 := ⟨⟨(t2 (i := 133) rfl rfl), (t1 (i := 8) rfl rfl), ⟨by decide, by decide⟩, by decide +kernel, by decide⟩, (t2 (i := 132) rfl rfl)⟩
theorem mX5_init : mI yX5_init cX5_init 1 0 := ⟨⟨(t2 (i := 181) rfl rfl), (t1 (i := 13) rfl rfl), ⟨by decide, by decide⟩, by decide +kernel, by decide⟩, (t2 (i := 180) rfl rfl), rfl⟩
theorem mX4_init : mI yX4_init cX4_init 1 0 := ⟨⟨(t2 (i := 195) rfl rfl), (t1 (i := 14) rfl rfl), ⟨by decide, by decide⟩, by decide +kernel, by decide⟩, (t2 (i := 194) rfl rfl), rfl⟩
theorem mX0_init : mI yX0_init cX0_init 1 0 := ⟨⟨(t2 (i := 214) rfl rfl), (t1 (i := 15) rfl rfl), ⟨by decide, by decide⟩, by decide +kernel, by decide⟩, (t2 (i := 213) rfl rfl), rfl⟩
theorem mX9_init : mI yX9_init cX9_init 1 0 := ⟨⟨(t3 (i := 3) rfl rfl), (t1 (i := 16) rfl rfl), ⟨by decide, by decide⟩, by decide +kernel, by decide⟩, (t3 (i := 2) rfl rfl), rfl⟩
theorem mX10_status : mV yX10_status cX10_status 1 (Option.some .int) 0 := ⟨⟨(t3 (i := 58) rfl rfl), (t1 (i := 1) rfl rfl), ⟨by decide, by decide⟩, by decide +kernel, by decide⟩, (t3 (i := 56) rfl rfl), (t3 (i := 57) rfl rfl)⟩
theorem mX10_feed : mV yX10_feed cX10_feed 6 (Option.some .int) 5 := ⟨⟨(t3 (i := 62) rfl rfl), (t1 (i := 1) rfl rfl), ⟨by decide, by decide⟩, by decide +kernel, by decide⟩, (t3 (i := 60) rfl rfl), (t3 (i := 61) rfl rfl)⟩
theorem mX6_hasRoom : mV yX6_hasRoom cX6_hasRoom 2 (Option.some .boolean) 1 := ⟨⟨(t3 (i := 66) rfl rfl), (t1 (i := 8) rfl rfl), ⟨by decide, by decide⟩, by decide +kernel, by decide⟩, (t3 (i := 64) rfl rfl), (t3 (i := 65) rfl rfl)⟩
theorem mX6_append : mV yX6_append cX6_append 3 (Option.none : Option FieldType) 1 := ⟨⟨(t3 (i := 70) rfl rfl), (t1 (i := 8) rfl rfl), ⟨by decide, by decide⟩, by decide +kernel, by decide⟩, (t3 (i := 68) rfl rfl), (t3 (i := 69) rfl rfl)⟩
theorem mX10_load : mV yX10_load cX10_load 3 (Option.some .int) 1 := ⟨⟨(t3 (i := 74) rfl rfl), (t1 (i := 1) rfl rfl), ⟨by decide, by decide⟩, by decide +kernel, by decide⟩, (t3 (i := 72) rfl rfl), (t3 (i := 73) rfl rfl)⟩
theorem mX10_fail : mV yX10_fail cX10_fail 2 (Option.some .int) 1 := ⟨⟨(t3 (i := 78) rfl rfl), (t1 (i := 1) rfl rfl), ⟨by decide, by decide⟩, by decide +kernel, by decide⟩, (t3 (i := 77) rfl rfl), tS (i := 0) rfl rfl⟩
theorem mX6_readText : mV yX6_readText cX6_readText 4 (Option.some .boolean) 2 := ⟨⟨(t3 (i := 82) rfl rfl), (t1 (i := 8) rfl rfl), ⟨by decide, by decide⟩, by decide +kernel, by decide⟩, (t3 (i := 80) rfl rfl), (t3 (i := 81) rfl rfl)⟩
theorem mX6_next : mV yX6_next cX6_next 2 (Option.none : Option FieldType) 0 := ⟨⟨(t3 (i := 87) rfl rfl), (t1 (i := 8) rfl rfl), ⟨by decide, by decide⟩, by decide +kernel, by decide⟩, (t3 (i := 86) rfl rfl), tS (i := 1) rfl rfl⟩
theorem mX6_byteAt : mV yX6_byteAt cX6_byteAt 2 (Option.some .int) 1 := ⟨⟨(t3 (i := 91) rfl rfl), (t1 (i := 8) rfl rfl), ⟨by decide, by decide⟩, by decide +kernel, by decide⟩, (t3 (i := 90) rfl rfl), tS (i := 2) rfl rfl⟩
theorem mX6_isLetter : mS yX6_isLetter cX6_isLetter 1 (Option.some .boolean) 1 := ⟨⟨(t3 (i := 94) rfl rfl), (t1 (i := 8) rfl rfl), ⟨by decide, by decide⟩, by decide +kernel, by decide⟩, (t3 (i := 93) rfl rfl)⟩
theorem mX6_nextWord : mV yX6_nextWord cX6_nextWord 2 (Option.none : Option FieldType) 0 := ⟨⟨(t3 (i := 98) rfl rfl), (t1 (i := 8) rfl rfl), ⟨by decide, by decide⟩, by decide +kernel, by decide⟩, (t3 (i := 97) rfl rfl), tS (i := 3) rfl rfl⟩
theorem mX6_isDigit : mS yX6_isDigit cX6_isDigit 1 (Option.some .boolean) 1 := ⟨⟨(t3 (i := 101) rfl rfl), (t1 (i := 8) rfl rfl), ⟨by decide, by decide⟩, by decide +kernel, by decide⟩, (t3 (i := 100) rfl rfl)⟩
theorem mX6_nextNumber : mV yX6_nextNumber cX6_nextNumber 1 (Option.none : Option FieldType) 0 := ⟨⟨(t3 (i := 105) rfl rfl), (t1 (i := 8) rfl rfl), ⟨by decide, by decide⟩, by decide +kernel, by decide⟩, (t3 (i := 104) rfl rfl), tS (i := 4) rfl rfl⟩
theorem mX6_readLine : mV yX6_readLine cX6_readLine 2 (Option.some .boolean) 1 := ⟨⟨(t3 (i := 109) rfl rfl), (t1 (i := 8) rfl rfl), ⟨by decide, by decide⟩, by decide +kernel, by decide⟩, (t3 (i := 108) rfl rfl), tS (i := 5) rfl rfl⟩
theorem mX6_misplaced : mV yX6_misplaced cX6_misplaced 1 (Option.some .boolean) 0 := ⟨⟨(t3 (i := 113) rfl rfl), (t1 (i := 8) rfl rfl), ⟨by decide, by decide⟩, by decide +kernel, by decide⟩, (t3 (i := 112) rfl rfl), tS (i := 6) rfl rfl⟩
theorem mX6_wrong : mV yX6_wrong cX6_wrong 2 (Option.some .boolean) 1 := ⟨⟨(t3 (i := 117) rfl rfl), (t1 (i := 8) rfl rfl), ⟨by decide, by decide⟩, by decide +kernel, by decide⟩, (t3 (i := 116) rfl rfl), tS (i := 7) rfl rfl⟩
theorem mX6_readHome : mV yX6_readHome cX6_readHome 3 (Option.some .boolean) 1 := ⟨⟨(t3 (i := 121) rfl rfl), (t1 (i := 8) rfl rfl), ⟨by decide, by decide⟩, by decide +kernel, by decide⟩, (t3 (i := 120) rfl rfl), tS (i := 8) rfl rfl⟩
theorem mX6_isNewName : mV yX6_isNewName cX6_isNewName 2 (Option.some .boolean) 1 := ⟨⟨(t3 (i := 125) rfl rfl), (t1 (i := 8) rfl rfl), ⟨by decide, by decide⟩, by decide +kernel, by decide⟩, (t3 (i := 124) rfl rfl), tS (i := 9) rfl rfl⟩
theorem mX6_isName : mV yX6_isName cX6_isName 1 (Option.some .boolean) 0 := ⟨⟨(t3 (i := 129) rfl rfl), (t1 (i := 8) rfl rfl), ⟨by decide, by decide⟩, by decide +kernel, by decide⟩, (t3 (i := 128) rfl rfl), tS (i := 10) rfl rfl⟩
theorem mX7_isTaken : mV yX7_isTaken cX7_isTaken 4 (Option.some .boolean) 1 := ⟨⟨(t3 (i := 133) rfl rfl), (t1 (i := 2) rfl rfl), ⟨by decide, by decide⟩, by decide +kernel, by decide⟩, (t3 (i := 131) rfl rfl), (t3 (i := 132) rfl rfl)⟩
theorem mX7_homeNamed : mV yX7_homeNamed cX7_homeNamed 4 (Option.some (.object "HomesQueue$Home")) 1 := ⟨⟨(t3 (i := 137) rfl rfl), (t1 (i := 2) rfl rfl), ⟨by decide, by decide⟩, by decide +kernel, by decide⟩, (t3 (i := 135) rfl rfl), (t3 (i := 136) rfl rfl)⟩
theorem mX7_addHome : mV yX7_addHome cX7_addHome 4 (Option.some (.object "HomesQueue$Home")) 1 := ⟨⟨(t3 (i := 141) rfl rfl), (t1 (i := 2) rfl rfl), ⟨by decide, by decide⟩, by decide +kernel, by decide⟩, (t3 (i := 139) rfl rfl), (t3 (i := 140) rfl rfl)⟩
theorem mX2_begin : mV yX2_begin cX2_begin 3 (Option.none : Option FieldType) 1 := ⟨⟨(t3 (i := 145) rfl rfl), (t1 (i := 3) rfl rfl), ⟨by decide, by decide⟩, by decide +kernel, by decide⟩, (t3 (i := 143) rfl rfl), (t3 (i := 144) rfl rfl)⟩
theorem mX6_isNumber : mV yX6_isNumber cX6_isNumber 3 (Option.some .boolean) 2 := ⟨⟨(t3 (i := 149) rfl rfl), (t1 (i := 8) rfl rfl), ⟨by decide, by decide⟩, by decide +kernel, by decide⟩, (t3 (i := 148) rfl rfl), tS (i := 11) rfl rfl⟩
theorem mX6_readHouse : mV yX6_readHouse cX6_readHouse 3 (Option.some .boolean) 1 := ⟨⟨(t3 (i := 153) rfl rfl), (t1 (i := 8) rfl rfl), ⟨by decide, by decide⟩, by decide +kernel, by decide⟩, (t3 (i := 152) rfl rfl), tS (i := 12) rfl rfl⟩
theorem mX7_addHouse : mV yX7_addHouse cX7_addHouse 4 (Option.some (.object "HomesQueue$House")) 1 := ⟨⟨(t3 (i := 157) rfl rfl), (t1 (i := 2) rfl rfl), ⟨by decide, by decide⟩, by decide +kernel, by decide⟩, (t3 (i := 155) rfl rfl), (t3 (i := 156) rfl rfl)⟩
theorem mX3_begin : mV yX3_begin cX3_begin 3 (Option.none : Option FieldType) 1 := ⟨⟨(t3 (i := 161) rfl rfl), (t1 (i := 4) rfl rfl), ⟨by decide, by decide⟩, by decide +kernel, by decide⟩, (t3 (i := 159) rfl rfl), (t3 (i := 160) rfl rfl)⟩
theorem mX6_readNumbers : mV yX6_readNumbers cX6_readNumbers 2 (Option.some .boolean) 1 := ⟨⟨(t3 (i := 165) rfl rfl), (t1 (i := 8) rfl rfl), ⟨by decide, by decide⟩, by decide +kernel, by decide⟩, (t3 (i := 164) rfl rfl), tS (i := 13) rfl rfl⟩
theorem mX6_readWhere : mV yX6_readWhere cX6_readWhere 4 (Option.some .boolean) 2 := ⟨⟨(t3 (i := 169) rfl rfl), (t1 (i := 8) rfl rfl), ⟨by decide, by decide⟩, by decide +kernel, by decide⟩, (t3 (i := 168) rfl rfl), tS (i := 14) rfl rfl⟩
theorem mX6_readWishes : mV yX6_readWishes cX6_readWishes 5 (Option.some .boolean) 2 := ⟨⟨(t3 (i := 174) rfl rfl), (t1 (i := 8) rfl rfl), ⟨by decide, by decide⟩, by decide +kernel, by decide⟩, (t3 (i := 173) rfl rfl), tS (i := 15) rfl rfl⟩
theorem mX3_rankOfWish : mV yX3_rankOfWish cX3_rankOfWish 3 (Option.some .int) 1 := ⟨⟨(t3 (i := 178) rfl rfl), (t1 (i := 4) rfl rfl), ⟨by decide, by decide⟩, by decide +kernel, by decide⟩, (t3 (i := 176) rfl rfl), (t3 (i := 177) rfl rfl)⟩
theorem mX3_addWish : mV yX3_addWish cX3_addWish 2 (Option.none : Option FieldType) 1 := ⟨⟨(t3 (i := 182) rfl rfl), (t1 (i := 4) rfl rfl), ⟨by decide, by decide⟩, by decide +kernel, by decide⟩, (t3 (i := 180) rfl rfl), (t3 (i := 181) rfl rfl)⟩
theorem mX6_readRule : mV yX6_readRule cX6_readRule 3 (Option.some .boolean) 1 := ⟨⟨(t3 (i := 186) rfl rfl), (t1 (i := 8) rfl rfl), ⟨by decide, by decide⟩, by decide +kernel, by decide⟩, (t3 (i := 185) rfl rfl), tS (i := 16) rfl rfl⟩
theorem mX10_canBeTold : mS yX10_canBeTold cX10_canBeTold 2 (Option.some .boolean) 2 := ⟨⟨(t3 (i := 189) rfl rfl), (t1 (i := 1) rfl rfl), ⟨by decide, by decide⟩, by decide +kernel, by decide⟩, (t3 (i := 188) rfl rfl)⟩
theorem mX7_setRule : mV yX7_setRule cX7_setRule 3 (Option.none : Option FieldType) 2 := ⟨⟨(t3 (i := 197) rfl rfl), (t1 (i := 2) rfl rfl), ⟨by decide, by decide⟩, by decide +kernel, by decide⟩, (t3 (i := 195) rfl rfl), (t3 (i := 196) rfl rfl)⟩
theorem mX6_readSign : mV yX6_readSign cX6_readSign 1 (Option.some .boolean) 0 := ⟨⟨(t3 (i := 201) rfl rfl), (t1 (i := 8) rfl rfl), ⟨by decide, by decide⟩, by decide +kernel, by decide⟩, (t3 (i := 200) rfl rfl), tS (i := 17) rfl rfl⟩
theorem mX7_copy : mV yX7_copy cX7_copy 3 (Option.none : Option FieldType) 1 := ⟨⟨(t3 (i := 205) rfl rfl), (t1 (i := 2) rfl rfl), ⟨by decide, by decide⟩, by decide +kernel, by decide⟩, (t3 (i := 203) rfl rfl), (t3 (i := 204) rfl rfl)⟩
theorem mX2_copy : mV yX2_copy cX2_copy 2 (Option.none : Option FieldType) 1 := ⟨⟨(t3 (i := 209) rfl rfl), (t1 (i := 3) rfl rfl), ⟨by decide, by decide⟩, by decide +kernel, by decide⟩, (t3 (i := 207) rfl rfl), (t3 (i := 208) rfl rfl)⟩
theorem mX3_copy : mV yX3_copy cX3_copy 2 (Option.none : Option FieldType) 1 := ⟨⟨(t3 (i := 213) rfl rfl), (t1 (i := 4) rfl rfl), ⟨by decide, by decide⟩, by decide +kernel, by decide⟩, (t3 (i := 211) rfl rfl), (t3 (i := 212) rfl rfl)⟩
theorem mX8_copy : mV yX8_copy cX8_copy 3 (Option.none : Option FieldType) 1 := ⟨⟨(t3 (i := 218) rfl rfl), (t1 (i := 5) rfl rfl), ⟨by decide, by decide⟩, by decide +kernel, by decide⟩, (t3 (i := 216) rfl rfl), (t3 (i := 217) rfl rfl)⟩
theorem mJ9_min_7cf53 : mS yJ9_min_7cf53 cJ9_min_7cf53 2 (Option.some .int) 2 := ⟨⟨(t3 (i := 221) rfl rfl), (t1 (i := 18) rfl rfl), ⟨by decide, by decide⟩, by decide +kernel, by decide⟩, (t3 (i := 220) rfl rfl)⟩
theorem mX10_answer : mV yX10_answer cX10_answer 2 (Option.some .int) 1 := ⟨⟨(t3 (i := 226) rfl rfl), (t1 (i := 1) rfl rfl), ⟨by decide, by decide⟩, by decide +kernel, by decide⟩, (t3 (i := 225) rfl rfl), tS (i := 18) rfl rfl⟩
theorem mX10_fault : mV yX10_fault cX10_fault 2 (Option.some .int) 1 := ⟨⟨(t3 (i := 230) rfl rfl), (t1 (i := 1) rfl rfl), ⟨by decide, by decide⟩, by decide +kernel, by decide⟩, (t3 (i := 228) rfl rfl), (t3 (i := 229) rfl rfl)⟩
theorem mX10_many : mV yX10_many cX10_many 2 (Option.some .int) 1 := ⟨⟨(t3 (i := 234) rfl rfl), (t1 (i := 1) rfl rfl), ⟨by decide, by decide⟩, by decide +kernel, by decide⟩, (t3 (i := 232) rfl rfl), (t3 (i := 233) rfl rfl)⟩
theorem mX7_countBids : mV yX7_countBids cX7_countBids 3 (Option.some .int) 0 := ⟨⟨(t3 (i := 238) rfl rfl), (t1 (i := 2) rfl rfl), ⟨by decide, by decide⟩, by decide +kernel, by decide⟩, (t3 (i := 236) rfl rfl), (t3 (i := 237) rfl rfl)⟩
theorem mX3_countBids : mV yX3_countBids cX3_countBids 1 (Option.some .int) 0 := ⟨⟨(t4 (i := 2) rfl rfl), (t1 (i := 4) rfl rfl), ⟨by decide, by decide⟩, by decide +kernel, by decide⟩, (t4 (i := 0) rfl rfl), (t4 (i := 1) rfl rfl)⟩
theorem mJ6_bitCount_0f7a4 : mS yJ6_bitCount_0f7a4 cJ6_bitCount_0f7a4 1 (Option.some .int) 1 := ⟨⟨(t4 (i := 5) rfl rfl), (t1 (i := 19) rfl rfl), ⟨by decide, by decide⟩, by decide +kernel, by decide⟩, (t4 (i := 4) rfl rfl)⟩
theorem mX7_countFree : mV yX7_countFree cX7_countFree 3 (Option.some .int) 0 := ⟨⟨(t4 (i := 12) rfl rfl), (t1 (i := 2) rfl rfl), ⟨by decide, by decide⟩, by decide +kernel, by decide⟩, (t4 (i := 10) rfl rfl), (t4 (i := 11) rfl rfl)⟩
theorem mX2_isFree : mV yX2_isFree cX2_isFree 1 (Option.some .boolean) 0 := ⟨⟨(t4 (i := 16) rfl rfl), (t1 (i := 3) rfl rfl), ⟨by decide, by decide⟩, by decide +kernel, by decide⟩, (t4 (i := 14) rfl rfl), (t4 (i := 15) rfl rfl)⟩
theorem mX7_countWaiting : mV yX7_countWaiting cX7_countWaiting 1 (Option.some .int) 0 := ⟨⟨(t4 (i := 20) rfl rfl), (t1 (i := 2) rfl rfl), ⟨by decide, by decide⟩, by decide +kernel, by decide⟩, (t4 (i := 18) rfl rfl), (t4 (i := 19) rfl rfl)⟩
theorem mX7_waiting : mV yX7_waiting cX7_waiting 3 (Option.some .int) 0 := ⟨⟨(t4 (i := 24) rfl rfl), (t1 (i := 2) rfl rfl), ⟨by decide, by decide⟩, by decide +kernel, by decide⟩, (t4 (i := 22) rfl rfl), (t4 (i := 23) rfl rfl)⟩
theorem mX10_home : mV yX10_home cX10_home 4 (Option.some .int) 2 := ⟨⟨(t4 (i := 29) rfl rfl), (t1 (i := 1) rfl rfl), ⟨by decide, by decide⟩, by decide +kernel, by decide⟩, (t4 (i := 27) rfl rfl), (t4 (i := 28) rfl rfl)⟩
theorem mX7_homeAt : mV yX7_homeAt cX7_homeAt 2 (Option.some (.object "HomesQueue$Home")) 1 := ⟨⟨(t4 (i := 33) rfl rfl), (t1 (i := 2) rfl rfl), ⟨by decide, by decide⟩, by decide +kernel, by decide⟩, (t4 (i := 31) rfl rfl), (t4 (i := 32) rfl rfl)⟩
theorem mX10_answerIfAny : mV yX10_answerIfAny cX10_answerIfAny 2 (Option.some .int) 1 := ⟨⟨(t4 (i := 37) rfl rfl), (t1 (i := 1) rfl rfl), ⟨by decide, by decide⟩, by decide +kernel, by decide⟩, (t4 (i := 36) rfl rfl), tS (i := 19) rfl rfl⟩
theorem mX10_answerFlag : mV yX10_answerFlag cX10_answerFlag 2 (Option.some .int) 1 := ⟨⟨(t4 (i := 42) rfl rfl), (t1 (i := 1) rfl rfl), ⟨by decide, by decide⟩, by decide +kernel, by decide⟩, (t4 (i := 41) rfl rfl), tS (i := 20) rfl rfl⟩
theorem mX7_biddersFor : mV yX7_biddersFor cX7_biddersFor 4 (Option.some .int) 1 := ⟨⟨(t4 (i := 46) rfl rfl), (t1 (i := 2) rfl rfl), ⟨by decide, by decide⟩, by decide +kernel, by decide⟩, (t4 (i := 44) rfl rfl), (t4 (i := 45) rfl rfl)⟩
theorem mX3_bidsFor : mV yX3_bidsFor cX3_bidsFor 2 (Option.some .boolean) 1 := ⟨⟨(t4 (i := 50) rfl rfl), (t1 (i := 4) rfl rfl), ⟨by decide, by decide⟩, by decide +kernel, by decide⟩, (t4 (i := 48) rfl rfl), (t4 (i := 49) rfl rfl)⟩
theorem mX3_isAble : mV yX3_isAble cX3_isAble 1 (Option.some .boolean) 0 := ⟨⟨(t4 (i := 54) rfl rfl), (t1 (i := 4) rfl rfl), ⟨by decide, by decide⟩, by decide +kernel, by decide⟩, (t4 (i := 52) rfl rfl), (t4 (i := 53) rfl rfl)⟩
theorem mX10_house : mV yX10_house cX10_house 4 (Option.some .int) 2 := ⟨⟨(t4 (i := 59) rfl rfl), (t1 (i := 1) rfl rfl), ⟨by decide, by decide⟩, by decide +kernel, by decide⟩, (t4 (i := 57) rfl rfl), (t4 (i := 58) rfl rfl)⟩
theorem mX7_houseAt : mV yX7_houseAt cX7_houseAt 2 (Option.some (.object "HomesQueue$House")) 1 := ⟨⟨(t4 (i := 63) rfl rfl), (t1 (i := 2) rfl rfl), ⟨by decide, by decide⟩, by decide +kernel, by decide⟩, (t4 (i := 61) rfl rfl), (t4 (i := 62) rfl rfl)⟩
theorem mX7_bandNow : mV yX7_bandNow cX7_bandNow 4 (Option.some .int) 1 := ⟨⟨(t4 (i := 67) rfl rfl), (t1 (i := 2) rfl rfl), ⟨by decide, by decide⟩, by decide +kernel, by decide⟩, (t4 (i := 65) rfl rfl), (t4 (i := 66) rfl rfl)⟩
theorem mX7_waited : mV yX7_waited cX7_waited 2 (Option.some .int) 1 := ⟨⟨(t4 (i := 71) rfl rfl), (t1 (i := 2) rfl rfl), ⟨by decide, by decide⟩, by decide +kernel, by decide⟩, (t4 (i := 69) rfl rfl), (t4 (i := 70) rfl rfl)⟩
theorem mJ9_max_7cf53 : mS yJ9_max_7cf53 cJ9_max_7cf53 2 (Option.some .int) 2 := ⟨⟨(t4 (i := 74) rfl rfl), (t1 (i := 18) rfl rfl), ⟨by decide, by decide⟩, by decide +kernel, by decide⟩, (t4 (i := 73) rfl rfl)⟩
theorem mX3_wishAt : mV yX3_wishAt cX3_wishAt 2 (Option.some .int) 1 := ⟨⟨(t4 (i := 79) rfl rfl), (t1 (i := 4) rfl rfl), ⟨by decide, by decide⟩, by decide +kernel, by decide⟩, (t4 (i := 77) rfl rfl), (t4 (i := 78) rfl rfl)⟩
theorem mX10_rule : mV yX10_rule cX10_rule 2 (Option.some .int) 1 := ⟨⟨(t4 (i := 83) rfl rfl), (t1 (i := 1) rfl rfl), ⟨by decide, by decide⟩, by decide +kernel, by decide⟩, (t4 (i := 81) rfl rfl), (t4 (i := 82) rfl rfl)⟩
theorem mX7_ruleAt : mV yX7_ruleAt cX7_ruleAt 2 (Option.some .int) 1 := ⟨⟨(t4 (i := 87) rfl rfl), (t1 (i := 2) rfl rfl), ⟨by decide, by decide⟩, by decide +kernel, by decide⟩, (t4 (i := 85) rfl rfl), (t4 (i := 86) rfl rfl)⟩
theorem mX10_why : mV yX10_why cX10_why 5 (Option.some .int) 2 := ⟨⟨(t4 (i := 91) rfl rfl), (t1 (i := 1) rfl rfl), ⟨by decide, by decide⟩, by decide +kernel, by decide⟩, (t4 (i := 89) rfl rfl), (t4 (i := 90) rfl rfl)⟩
theorem mX7_whyNot : mV yX7_whyNot cX7_whyNot 3 (Option.some .int) 2 := ⟨⟨(t4 (i := 95) rfl rfl), (t1 (i := 2) rfl rfl), ⟨by decide, by decide⟩, by decide +kernel, by decide⟩, (t4 (i := 93) rfl rfl), (t4 (i := 94) rfl rfl)⟩
theorem mX3_suits : mV yX3_suits cX3_suits 2 (Option.some .boolean) 1 := ⟨⟨(t4 (i := 99) rfl rfl), (t1 (i := 4) rfl rfl), ⟨by decide, by decide⟩, by decide +kernel, by decide⟩, (t4 (i := 97) rfl rfl), (t4 (i := 98) rfl rfl)⟩
theorem mX10_bids : mV yX10_bids cX10_bids 5 (Option.some .int) 2 := ⟨⟨(t4 (i := 103) rfl rfl), (t1 (i := 1) rfl rfl), ⟨by decide, by decide⟩, by decide +kernel, by decide⟩, (t4 (i := 101) rfl rfl), (t4 (i := 102) rfl rfl)⟩
theorem mX10_order : mV yX10_order cX10_order 4 (Option.some .int) 2 := ⟨⟨(t4 (i := 108) rfl rfl), (t1 (i := 1) rfl rfl), ⟨by decide, by decide⟩, by decide +kernel, by decide⟩, (t4 (i := 106) rfl rfl), (t4 (i := 107) rfl rfl)⟩
theorem mX7_kthOf : mV yX7_kthOf cX7_kthOf 8 (Option.some (.object "HomesQueue$House")) 3 := ⟨⟨(t4 (i := 112) rfl rfl), (t1 (i := 2) rfl rfl), ⟨by decide, by decide⟩, by decide +kernel, by decide⟩, (t4 (i := 110) rfl rfl), (t4 (i := 111) rfl rfl)⟩
theorem mX7_turnsAt : mV yX7_turnsAt cX7_turnsAt 4 (Option.some .int) 1 := ⟨⟨(t4 (i := 116) rfl rfl), (t1 (i := 2) rfl rfl), ⟨by decide, by decide⟩, by decide +kernel, by decide⟩, (t4 (i := 114) rfl rfl), (t4 (i := 115) rfl rfl)⟩
theorem mX8_countWith : mV yX8_countWith cX8_countWith 5 (Option.some .int) 2 := ⟨⟨(t4 (i := 120) rfl rfl), (t1 (i := 5) rfl rfl), ⟨by decide, by decide⟩, by decide +kernel, by decide⟩, (t4 (i := 118) rfl rfl), (t4 (i := 119) rfl rfl)⟩
theorem mX8_at : mV yX8_at cX8_at 3 (Option.some .int) 2 := ⟨⟨(t4 (i := 124) rfl rfl), (t1 (i := 5) rfl rfl), ⟨by decide, by decide⟩, by decide +kernel, by decide⟩, (t4 (i := 122) rfl rfl), (t4 (i := 123) rfl rfl)⟩
theorem mX7_firstOf : mV yX7_firstOf cX7_firstOf 9 (Option.some (.object "HomesQueue$House")) 3 := ⟨⟨(t4 (i := 128) rfl rfl), (t1 (i := 2) rfl rfl), ⟨by decide, by decide⟩, by decide +kernel, by decide⟩, (t4 (i := 126) rfl rfl), (t4 (i := 127) rfl rfl)⟩
theorem mX7_rank : mV yX7_rank cX7_rank 8 (Option.some .int) 4 := ⟨⟨(t4 (i := 133) rfl rfl), (t1 (i := 2) rfl rfl), ⟨by decide, by decide⟩, by decide +kernel, by decide⟩, (t4 (i := 131) rfl rfl), (t4 (i := 132) rfl rfl)⟩
theorem mX10_answerNumber : mV yX10_answerNumber cX10_answerNumber 2 (Option.some .int) 1 := ⟨⟨(t4 (i := 137) rfl rfl), (t1 (i := 1) rfl rfl), ⟨by decide, by decide⟩, by decide +kernel, by decide⟩, (t4 (i := 136) rfl rfl), tS (i := 21) rfl rfl⟩
theorem mX10_ahead : mV yX10_ahead cX10_ahead 5 (Option.some .int) 2 := ⟨⟨(t4 (i := 141) rfl rfl), (t1 (i := 1) rfl rfl), ⟨by decide, by decide⟩, by decide +kernel, by decide⟩, (t4 (i := 139) rfl rfl), (t4 (i := 140) rfl rfl)⟩
theorem mX7_ableFor : mV yX7_ableFor cX7_ableFor 4 (Option.some .int) 1 := ⟨⟨(t4 (i := 147) rfl rfl), (t1 (i := 2) rfl rfl), ⟨by decide, by decide⟩, by decide +kernel, by decide⟩, (t4 (i := 145) rfl rfl), (t4 (i := 146) rfl rfl)⟩
theorem mX7_countAhead : mV yX7_countAhead cX7_countAhead 11 (Option.some .int) 4 := ⟨⟨(t4 (i := 151) rfl rfl), (t1 (i := 2) rfl rfl), ⟨by decide, by decide⟩, by decide +kernel, by decide⟩, (t4 (i := 149) rfl rfl), (t4 (i := 150) rfl rfl)⟩
theorem mX10_turn : mV yX10_turn cX10_turn 5 (Option.some .int) 2 := ⟨⟨(t4 (i := 155) rfl rfl), (t1 (i := 1) rfl rfl), ⟨by decide, by decide⟩, by decide +kernel, by decide⟩, (t4 (i := 153) rfl rfl), (t4 (i := 154) rfl rfl)⟩
theorem mX10_let : mV yX10_let cX10_let 3 (Option.some .int) 2 := ⟨⟨(t4 (i := 160) rfl rfl), (t1 (i := 1) rfl rfl), ⟨by decide, by decide⟩, by decide +kernel, by decide⟩, (t4 (i := 158) rfl rfl), (t4 (i := 159) rfl rfl)⟩
theorem mX10_offer : mV yX10_offer cX10_offer 3 (Option.some .int) 2 := ⟨⟨(t4 (i := 165) rfl rfl), (t1 (i := 1) rfl rfl), ⟨by decide, by decide⟩, by decide +kernel, by decide⟩, (t4 (i := 163) rfl rfl), (t4 (i := 164) rfl rfl)⟩
theorem mX10_tally : mV yX10_tally cX10_tally 2 (Option.some .int) 1 := ⟨⟨(t4 (i := 169) rfl rfl), (t1 (i := 1) rfl rfl), ⟨by decide, by decide⟩, by decide +kernel, by decide⟩, (t4 (i := 167) rfl rfl), (t4 (i := 168) rfl rfl)⟩
theorem mX7_greatestChain : mV yX7_greatestChain cX7_greatestChain 3 (Option.some .int) 0 := ⟨⟨(t4 (i := 173) rfl rfl), (t1 (i := 2) rfl rfl), ⟨by decide, by decide⟩, by decide +kernel, by decide⟩, (t4 (i := 171) rfl rfl), (t4 (i := 172) rfl rfl)⟩
theorem mX7_countPassed : mV yX7_countPassed cX7_countPassed 3 (Option.some .int) 0 := ⟨⟨(t4 (i := 179) rfl rfl), (t1 (i := 2) rfl rfl), ⟨by decide, by decide⟩, by decide +kernel, by decide⟩, (t4 (i := 177) rfl rfl), (t4 (i := 178) rfl rfl)⟩
theorem mX10_lack : mV yX10_lack cX10_lack 2 (Option.some .int) 1 := ⟨⟨(t4 (i := 183) rfl rfl), (t1 (i := 1) rfl rfl), ⟨by decide, by decide⟩, by decide +kernel, by decide⟩, (t4 (i := 181) rfl rfl), (t4 (i := 182) rfl rfl)⟩
theorem mX7_lackOf : mV yX7_lackOf cX7_lackOf 4 (Option.some .int) 1 := ⟨⟨(t4 (i := 187) rfl rfl), (t1 (i := 2) rfl rfl), ⟨by decide, by decide⟩, by decide +kernel, by decide⟩, (t4 (i := 185) rfl rfl), (t4 (i := 186) rfl rfl)⟩
theorem mX10_weeks : mV yX10_weeks cX10_weeks 3 (Option.some .int) 2 := ⟨⟨(t4 (i := 191) rfl rfl), (t1 (i := 1) rfl rfl), ⟨by decide, by decide⟩, by decide +kernel, by decide⟩, (t4 (i := 189) rfl rfl), (t4 (i := 190) rfl rfl)⟩
theorem mX7_runAhead : mV yX7_runAhead cX7_runAhead 3 (Option.none : Option FieldType) 1 := ⟨⟨(t4 (i := 195) rfl rfl), (t1 (i := 2) rfl rfl), ⟨by decide, by decide⟩, by decide +kernel, by decide⟩, (t4 (i := 193) rfl rfl), (t4 (i := 194) rfl rfl)⟩
theorem mX7_bidAsTheyWould : mV yX7_bidAsTheyWould cX7_bidAsTheyWould 3 (Option.some .int) 0 := ⟨⟨(t4 (i := 199) rfl rfl), (t1 (i := 2) rfl rfl), ⟨by decide, by decide⟩, by decide +kernel, by decide⟩, (t4 (i := 197) rfl rfl), (t4 (i := 198) rfl rfl)⟩
theorem mX7_bidAsItWould : mV yX7_bidAsItWould cX7_bidAsItWould 6 (Option.some .int) 1 := ⟨⟨(t4 (i := 203) rfl rfl), (t1 (i := 2) rfl rfl), ⟨by decide, by decide⟩, by decide +kernel, by decide⟩, (t4 (i := 201) rfl rfl), (t4 (i := 202) rfl rfl)⟩
theorem mX7_countLiked : mV yX7_countLiked cX7_countLiked 2 (Option.some .int) 1 := ⟨⟨(t4 (i := 207) rfl rfl), (t1 (i := 2) rfl rfl), ⟨by decide, by decide⟩, by decide +kernel, by decide⟩, (t4 (i := 205) rfl rfl), (t4 (i := 206) rfl rfl)⟩
theorem mX7_liked : mV yX7_liked cX7_liked 3 (Option.some (.object "HomesQueue$Home")) 2 := ⟨⟨(t4 (i := 211) rfl rfl), (t1 (i := 2) rfl rfl), ⟨by decide, by decide⟩, by decide +kernel, by decide⟩, (t4 (i := 209) rfl rfl), (t4 (i := 210) rfl rfl)⟩
theorem mX7_endWeek : mV yX7_endWeek cX7_endWeek 3 (Option.some .int) 0 := ⟨⟨(t4 (i := 218) rfl rfl), (t1 (i := 2) rfl rfl), ⟨by decide, by decide⟩, by decide +kernel, by decide⟩, (t4 (i := 216) rfl rfl), (t4 (i := 217) rfl rfl)⟩
theorem mX7_offerRound : mV yX7_offerRound cX7_offerRound 7 (Option.some .boolean) 1 := ⟨⟨(t4 (i := 222) rfl rfl), (t1 (i := 2) rfl rfl), ⟨by decide, by decide⟩, by decide +kernel, by decide⟩, (t4 (i := 220) rfl rfl), (t4 (i := 221) rfl rfl)⟩
theorem mX3_wouldTake : mV yX3_wouldTake cX3_wouldTake 2 (Option.some .boolean) 1 := ⟨⟨(t4 (i := 227) rfl rfl), (t1 (i := 4) rfl rfl), ⟨by decide, by decide⟩, by decide +kernel, by decide⟩, (t4 (i := 225) rfl rfl), (t4 (i := 226) rfl rfl)⟩
theorem mX7_noteOffer : mV yX7_noteOffer cX7_noteOffer 5 (Option.none : Option FieldType) 3 := ⟨⟨(t4 (i := 232) rfl rfl), (t1 (i := 2) rfl rfl), ⟨by decide, by decide⟩, by decide +kernel, by decide⟩, (t4 (i := 230) rfl rfl), (t4 (i := 231) rfl rfl)⟩
theorem mX8_addRow : mV yX8_addRow cX8_addRow 1 (Option.some .int) 0 := ⟨⟨(t4 (i := 236) rfl rfl), (t1 (i := 5) rfl rfl), ⟨by decide, by decide⟩, by decide +kernel, by decide⟩, (t4 (i := 234) rfl rfl), (t4 (i := 235) rfl rfl)⟩
theorem mX8_set : mV yX8_set cX8_set 4 (Option.none : Option FieldType) 3 := ⟨⟨(t5 (i := 0) rfl rfl), (t1 (i := 5) rfl rfl), ⟨by decide, by decide⟩, by decide +kernel, by decide⟩, (t4 (i := 238) rfl rfl), (t4 (i := 239) rfl rfl)⟩
theorem mX7_takeHome : mV yX7_takeHome cX7_takeHome 8 (Option.none : Option FieldType) 4 := ⟨⟨(t5 (i := 4) rfl rfl), (t1 (i := 2) rfl rfl), ⟨by decide, by decide⟩, by decide +kernel, by decide⟩, (t5 (i := 2) rfl rfl), (t5 (i := 3) rfl rfl)⟩
theorem mX7_noteLet : mV yX7_noteLet cX7_noteLet 7 (Option.none : Option FieldType) 5 := ⟨⟨(t5 (i := 8) rfl rfl), (t1 (i := 2) rfl rfl), ⟨by decide, by decide⟩, by decide +kernel, by decide⟩, (t5 (i := 6) rfl rfl), (t5 (i := 7) rfl rfl)⟩
theorem mX7_vacate : mV yX7_vacate cX7_vacate 4 (Option.none : Option FieldType) 2 := ⟨⟨(t5 (i := 12) rfl rfl), (t1 (i := 2) rfl rfl), ⟨by decide, by decide⟩, by decide +kernel, by decide⟩, (t5 (i := 10) rfl rfl), (t5 (i := 11) rfl rfl)⟩
theorem mX7_refuseHome : mV yX7_refuseHome cX7_refuseHome 2 (Option.none : Option FieldType) 1 := ⟨⟨(t5 (i := 16) rfl rfl), (t1 (i := 2) rfl rfl), ⟨by decide, by decide⟩, by decide +kernel, by decide⟩, (t5 (i := 14) rfl rfl), (t5 (i := 15) rfl rfl)⟩
theorem mX7_beginNextWeek : mV yX7_beginNextWeek cX7_beginNextWeek 2 (Option.none : Option FieldType) 0 := ⟨⟨(t5 (i := 20) rfl rfl), (t1 (i := 2) rfl rfl), ⟨by decide, by decide⟩, by decide +kernel, by decide⟩, (t5 (i := 18) rfl rfl), (t5 (i := 19) rfl rfl)⟩
theorem mX10_when : mV yX10_when cX10_when 6 (Option.some .int) 3 := ⟨⟨(t5 (i := 24) rfl rfl), (t1 (i := 1) rfl rfl), ⟨by decide, by decide⟩, by decide +kernel, by decide⟩, (t5 (i := 22) rfl rfl), (t5 (i := 23) rfl rfl)⟩
theorem mX8_find : mV yX8_find cX8_find 4 (Option.some .int) 2 := ⟨⟨(t5 (i := 28) rfl rfl), (t1 (i := 5) rfl rfl), ⟨by decide, by decide⟩, by decide +kernel, by decide⟩, (t5 (i := 26) rfl rfl), (t5 (i := 27) rfl rfl)⟩
theorem mX10_tip : mV yX10_tip cX10_tip 3 (Option.some .int) 1 := ⟨⟨(t5 (i := 32) rfl rfl), (t1 (i := 1) rfl rfl), ⟨by decide, by decide⟩, by decide +kernel, by decide⟩, (t5 (i := 30) rfl rfl), (t5 (i := 31) rfl rfl)⟩
theorem mX7_bestTip : mV yX7_bestTip cX7_bestTip 8 (Option.some .int) 1 := ⟨⟨(t5 (i := 36) rfl rfl), (t1 (i := 2) rfl rfl), ⟨by decide, by decide⟩, by decide +kernel, by decide⟩, (t5 (i := 34) rfl rfl), (t5 (i := 35) rfl rfl)⟩
theorem mX10_would : mV yX10_would cX10_would 6 (Option.some .int) 2 := ⟨⟨(t5 (i := 41) rfl rfl), (t1 (i := 1) rfl rfl), ⟨by decide, by decide⟩, by decide +kernel, by decide⟩, (t5 (i := 39) rfl rfl), (t5 (i := 40) rfl rfl)⟩
theorem mX7_bidAlone : mV yX7_bidAlone cX7_bidAlone 4 (Option.none : Option FieldType) 2 := ⟨⟨(t5 (i := 45) rfl rfl), (t1 (i := 2) rfl rfl), ⟨by decide, by decide⟩, by decide +kernel, by decide⟩, (t5 (i := 43) rfl rfl), (t5 (i := 44) rfl rfl)⟩
theorem mX10_top : mV yX10_top cX10_top 3 (Option.some .int) 1 := ⟨⟨(t5 (i := 51) rfl rfl), (t1 (i := 1) rfl rfl), ⟨by decide, by decide⟩, by decide +kernel, by decide⟩, (t5 (i := 49) rfl rfl), (t5 (i := 50) rfl rfl)⟩
theorem mX7_takersOf : mV yX7_takersOf cX7_takersOf 4 (Option.some .int) 1 := ⟨⟨(t5 (i := 55) rfl rfl), (t1 (i := 2) rfl rfl), ⟨by decide, by decide⟩, by decide +kernel, by decide⟩, (t5 (i := 53) rfl rfl), (t5 (i := 54) rfl rfl)⟩
theorem mX3_couldBeGiven : mV yX3_couldBeGiven cX3_couldBeGiven 2 (Option.some .boolean) 1 := ⟨⟨(t5 (i := 59) rfl rfl), (t1 (i := 4) rfl rfl), ⟨by decide, by decide⟩, by decide +kernel, by decide⟩, (t5 (i := 57) rfl rfl), (t5 (i := 58) rfl rfl)⟩
theorem mX10_lot : mV yX10_lot cX10_lot 4 (Option.some .int) 2 := ⟨⟨(t5 (i := 66) rfl rfl), (t1 (i := 1) rfl rfl), ⟨by decide, by decide⟩, by decide +kernel, by decide⟩, (t5 (i := 64) rfl rfl), (t5 (i := 65) rfl rfl)⟩
theorem mX7_drawn : mV yX7_drawn cX7_drawn 7 (Option.some (.object "HomesQueue$House")) 2 := ⟨⟨(t5 (i := 72) rfl rfl), (t1 (i := 2) rfl rfl), ⟨by decide, by decide⟩, by decide +kernel, by decide⟩, (t5 (i := 70) rfl rfl), (t5 (i := 71) rfl rfl)⟩
theorem mX7_lotsOf : mV yX7_lotsOf cX7_lotsOf 2 (Option.some .int) 1 := ⟨⟨(t5 (i := 77) rfl rfl), (t1 (i := 2) rfl rfl), ⟨by decide, by decide⟩, by decide +kernel, by decide⟩, (t5 (i := 75) rfl rfl), (t5 (i := 76) rfl rfl)⟩
theorem mX10_fits : mV yX10_fits cX10_fits 4 (Option.some .int) 2 := ⟨⟨(t5 (i := 81) rfl rfl), (t1 (i := 1) rfl rfl), ⟨by decide, by decide⟩, by decide +kernel, by decide⟩, (t5 (i := 79) rfl rfl), (t5 (i := 80) rfl rfl)⟩
theorem mX7_homesThatFit : mV yX7_homesThatFit cX7_homesThatFit 8 (Option.some .int) 3 := ⟨⟨(t5 (i := 85) rfl rfl), (t1 (i := 2) rfl rfl), ⟨by decide, by decide⟩, by decide +kernel, by decide⟩, (t5 (i := 83) rfl rfl), (t5 (i := 84) rfl rfl)⟩
theorem mX10_ward : mV yX10_ward cX10_ward 3 (Option.some .int) 1 := ⟨⟨(t5 (i := 89) rfl rfl), (t1 (i := 1) rfl rfl), ⟨by decide, by decide⟩, by decide +kernel, by decide⟩, (t5 (i := 87) rfl rfl), (t5 (i := 88) rfl rfl)⟩
theorem mX7_shortestWard : mV yX7_shortestWard cX7_shortestWard 5 (Option.some .int) 0 := ⟨⟨(t5 (i := 93) rfl rfl), (t1 (i := 2) rfl rfl), ⟨by decide, by decide⟩, by decide +kernel, by decide⟩, (t5 (i := 91) rfl rfl), (t5 (i := 92) rfl rfl)⟩
theorem mX7_wantOf : mV yX7_wantOf cX7_wantOf 4 (Option.some .int) 1 := ⟨⟨(t5 (i := 97) rfl rfl), (t1 (i := 2) rfl rfl), ⟨by decide, by decide⟩, by decide +kernel, by decide⟩, (t5 (i := 95) rfl rfl), (t5 (i := 96) rfl rfl)⟩
theorem mX10_envy : mV yX10_envy cX10_envy 2 (Option.some .int) 1 := ⟨⟨(t5 (i := 102) rfl rfl), (t1 (i := 1) rfl rfl), ⟨by decide, by decide⟩, by decide +kernel, by decide⟩, (t5 (i := 100) rfl rfl), (t5 (i := 101) rfl rfl)⟩
theorem mX7_countEnvy : mV yX7_countEnvy cX7_countEnvy 4 (Option.some .int) 0 := ⟨⟨(t5 (i := 106) rfl rfl), (t1 (i := 2) rfl rfl), ⟨by decide, by decide⟩, by decide +kernel, by decide⟩, (t5 (i := 104) rfl rfl), (t5 (i := 105) rfl rfl)⟩
theorem mX7_envyEachOther : mV yX7_envyEachOther cX7_envyEachOther 5 (Option.some .boolean) 2 := ⟨⟨(t5 (i := 110) rfl rfl), (t1 (i := 2) rfl rfl), ⟨by decide, by decide⟩, by decide +kernel, by decide⟩, (t5 (i := 108) rfl rfl), (t5 (i := 109) rfl rfl)⟩
theorem mX3_wouldRather : mV yX3_wouldRather cX3_wouldRather 4 (Option.some .boolean) 1 := ⟨⟨(t5 (i := 114) rfl rfl), (t1 (i := 4) rfl rfl), ⟨by decide, by decide⟩, by decide +kernel, by decide⟩, (t5 (i := 112) rfl rfl), (t5 (i := 113) rfl rfl)⟩
theorem mX7_firstEnvious : mV yX7_firstEnvious cX7_firstEnvious 2 (Option.some (.object "HomesQueue$House")) 0 := ⟨⟨(t5 (i := 118) rfl rfl), (t1 (i := 2) rfl rfl), ⟨by decide, by decide⟩, by decide +kernel, by decide⟩, (t5 (i := 116) rfl rfl), (t5 (i := 117) rfl rfl)⟩
theorem mX7_envyPartner : mV yX7_envyPartner cX7_envyPartner 3 (Option.some (.object "HomesQueue$House")) 1 := ⟨⟨(t5 (i := 122) rfl rfl), (t1 (i := 2) rfl rfl), ⟨by decide, by decide⟩, by decide +kernel, by decide⟩, (t5 (i := 120) rfl rfl), (t5 (i := 121) rfl rfl)⟩
theorem mX10_lever : mV yX10_lever cX10_lever 10 (Option.some .int) 2 := ⟨⟨(t5 (i := 127) rfl rfl), (t1 (i := 1) rfl rfl), ⟨by decide, by decide⟩, by decide +kernel, by decide⟩, (t5 (i := 125) rfl rfl), (t5 (i := 126) rfl rfl)⟩
theorem mX10_letsAhead : mV yX10_letsAhead cX10_letsAhead 4 (Option.some .int) 3 := ⟨⟨(t5 (i := 132) rfl rfl), (t1 (i := 1) rfl rfl), ⟨by decide, by decide⟩, by decide +kernel, by decide⟩, (t5 (i := 131) rfl rfl), tS (i := 22) rfl rfl⟩
theorem mX10_queue : mV yX10_queue cX10_queue 2 (Option.some .int) 1 := ⟨⟨(t5 (i := 137) rfl rfl), (t1 (i := 1) rfl rfl), ⟨by decide, by decide⟩, by decide +kernel, by decide⟩, (t5 (i := 135) rfl rfl), (t5 (i := 136) rfl rfl)⟩
theorem mX10_most : mV yX10_most cX10_most 1 (Option.some .int) 0 := ⟨⟨(t5 (i := 142) rfl rfl), (t1 (i := 1) rfl rfl), ⟨by decide, by decide⟩, by decide +kernel, by decide⟩, (t5 (i := 140) rfl rfl), (t5 (i := 141) rfl rfl)⟩
theorem mX4_look : mV yX4_look cX4_look 4 (Option.none : Option FieldType) 1 := ⟨⟨(t5 (i := 146) rfl rfl), (t1 (i := 14) rfl rfl), ⟨by decide, by decide⟩, by decide +kernel, by decide⟩, (t5 (i := 144) rfl rfl), (t5 (i := 145) rfl rfl)⟩
theorem mX4_largest : mV yX4_largest cX4_largest 5 (Option.some .int) 2 := ⟨⟨(t5 (i := 152) rfl rfl), (t1 (i := 14) rfl rfl), ⟨by decide, by decide⟩, by decide +kernel, by decide⟩, (t5 (i := 150) rfl rfl), (t5 (i := 151) rfl rfl)⟩
theorem mX4_place : mS yX4_place cX4_place 5 (Option.some .boolean) 3 := ⟨⟨(t5 (i := 155) rfl rfl), (t1 (i := 14) rfl rfl), ⟨by decide, by decide⟩, by decide +kernel, by decide⟩, (t5 (i := 154) rfl rfl)⟩
theorem mX10_gift : mV yX10_gift cX10_gift 2 (Option.some .int) 1 := ⟨⟨(t5 (i := 159) rfl rfl), (t1 (i := 1) rfl rfl), ⟨by decide, by decide⟩, by decide +kernel, by decide⟩, (t5 (i := 157) rfl rfl), (t5 (i := 158) rfl rfl)⟩
theorem mX4_giftOf : mV yX4_giftOf cX4_giftOf 6 (Option.some .int) 1 := ⟨⟨(t5 (i := 163) rfl rfl), (t1 (i := 14) rfl rfl), ⟨by decide, by decide⟩, by decide +kernel, by decide⟩, (t5 (i := 161) rfl rfl), (t5 (i := 162) rfl rfl)⟩
theorem mX4_leastGift : mV yX4_leastGift cX4_leastGift 7 (Option.some .int) 3 := ⟨⟨(t5 (i := 168) rfl rfl), (t1 (i := 14) rfl rfl), ⟨by decide, by decide⟩, by decide +kernel, by decide⟩, (t5 (i := 167) rfl rfl), tS (i := 23) rfl rfl⟩
theorem mX10_trade : mV yX10_trade cX10_trade 3 (Option.some .int) 1 := ⟨⟨(t5 (i := 172) rfl rfl), (t1 (i := 1) rfl rfl), ⟨by decide, by decide⟩, by decide +kernel, by decide⟩, (t5 (i := 170) rfl rfl), (t5 (i := 171) rfl rfl)⟩
theorem mX9_work : mV yX9_work cX9_work 3 (Option.none : Option FieldType) 1 := ⟨⟨(t5 (i := 176) rfl rfl), (t1 (i := 16) rfl rfl), ⟨by decide, by decide⟩, by decide +kernel, by decide⟩, (t5 (i := 174) rfl rfl), (t5 (i := 175) rfl rfl)⟩
theorem mX9_lookRound : mV yX9_lookRound cX9_lookRound 3 (Option.none : Option FieldType) 1 := ⟨⟨(t5 (i := 180) rfl rfl), (t1 (i := 16) rfl rfl), ⟨by decide, by decide⟩, by decide +kernel, by decide⟩, (t5 (i := 179) rfl rfl), tS (i := 24) rfl rfl⟩
theorem mX9_isIn : mV yX9_isIn cX9_isIn 2 (Option.some .boolean) 1 := ⟨⟨(t5 (i := 184) rfl rfl), (t1 (i := 16) rfl rfl), ⟨by decide, by decide⟩, by decide +kernel, by decide⟩, (t5 (i := 183) rfl rfl), tS (i := 25) rfl rfl⟩
theorem mX9_lookOfOne : mV yX9_lookOfOne cX9_lookOfOne 5 (Option.some .int) 2 := ⟨⟨(t5 (i := 188) rfl rfl), (t1 (i := 16) rfl rfl), ⟨by decide, by decide⟩, by decide +kernel, by decide⟩, (t5 (i := 187) rfl rfl), tS (i := 26) rfl rfl⟩
theorem mX9_someoneInCircle : mV yX9_someoneInCircle cX9_someoneInCircle 3 (Option.some .int) 0 := ⟨⟨(t5 (i := 195) rfl rfl), (t1 (i := 16) rfl rfl), ⟨by decide, by decide⟩, by decide +kernel, by decide⟩, (t5 (i := 194) rfl rfl), tS (i := 27) rfl rfl⟩
theorem mJ6_numberOfTrailingZeros_0f7a4 : mS yJ6_numberOfTrailingZeros_0f7a4 cJ6_numberOfTrailingZeros_0f7a4 2 (Option.some .int) 1 := ⟨⟨(t5 (i := 198) rfl rfl), (t1 (i := 19) rfl rfl), ⟨by decide, by decide⟩, by decide +kernel, by decide⟩, (t5 (i := 197) rfl rfl)⟩
theorem mX9_lookOf : mV yX9_lookOf cX9_lookOf 2 (Option.some .int) 1 := ⟨⟨(t5 (i := 203) rfl rfl), (t1 (i := 16) rfl rfl), ⟨by decide, by decide⟩, by decide +kernel, by decide⟩, (t5 (i := 202) rfl rfl), tS (i := 28) rfl rfl⟩
theorem mX9_tradeCircle : mV yX9_tradeCircle cX9_tradeCircle 7 (Option.none : Option FieldType) 2 := ⟨⟨(t5 (i := 207) rfl rfl), (t1 (i := 16) rfl rfl), ⟨by decide, by decide⟩, by decide +kernel, by decide⟩, (t5 (i := 206) rfl rfl), tS (i := 29) rfl rfl⟩
theorem mX9_gotBy : mV yX9_gotBy cX9_gotBy 2 (Option.some .int) 1 := ⟨⟨(t5 (i := 213) rfl rfl), (t1 (i := 16) rfl rfl), ⟨by decide, by decide⟩, by decide +kernel, by decide⟩, (t5 (i := 211) rfl rfl), (t5 (i := 212) rfl rfl)⟩
theorem mX10_trades : mV yX10_trades cX10_trades 2 (Option.some .int) 1 := ⟨⟨(t5 (i := 217) rfl rfl), (t1 (i := 1) rfl rfl), ⟨by decide, by decide⟩, by decide +kernel, by decide⟩, (t5 (i := 215) rfl rfl), (t5 (i := 216) rfl rfl)⟩
theorem mX10_longest : mV yX10_longest cX10_longest 3 (Option.some .int) 2 := ⟨⟨(t5 (i := 221) rfl rfl), (t1 (i := 1) rfl rfl), ⟨by decide, by decide⟩, by decide +kernel, by decide⟩, (t5 (i := 219) rfl rfl), (t5 (i := 220) rfl rfl)⟩
theorem mX0_work : mV yX0_work cX0_work 5 (Option.none : Option FieldType) 1 := ⟨⟨(t5 (i := 225) rfl rfl), (t1 (i := 15) rfl rfl), ⟨by decide, by decide⟩, by decide +kernel, by decide⟩, (t5 (i := 223) rfl rfl), (t5 (i := 224) rfl rfl)⟩
theorem mX0_look : mV yX0_look cX0_look 4 (Option.none : Option FieldType) 1 := ⟨⟨(t5 (i := 229) rfl rfl), (t1 (i := 15) rfl rfl), ⟨by decide, by decide⟩, by decide +kernel, by decide⟩, (t5 (i := 228) rfl rfl), tS (i := 30) rfl rfl⟩
theorem mX0_fillFollow : mV yX0_fillFollow cX0_fillFollow 3 (Option.none : Option FieldType) 0 := ⟨⟨(t5 (i := 235) rfl rfl), (t1 (i := 15) rfl rfl), ⟨by decide, by decide⟩, by decide +kernel, by decide⟩, (t5 (i := 234) rfl rfl), tS (i := 31) rfl rfl⟩
theorem mX0_longestFrom : mV yX0_longestFrom cX0_longestFrom 5 (Option.some .int) 2 := ⟨⟨(t5 (i := 239) rfl rfl), (t1 (i := 15) rfl rfl), ⟨by decide, by decide⟩, by decide +kernel, by decide⟩, (t5 (i := 238) rfl rfl), tS (i := 32) rfl rfl⟩
theorem mX0_movesBy : mV yX0_movesBy cX0_movesBy 5 (Option.some .int) 3 := ⟨⟨(t6 (i := 3) rfl rfl), (t1 (i := 15) rfl rfl), ⟨by decide, by decide⟩, by decide +kernel, by decide⟩, (t6 (i := 2) rfl rfl), tS (i := 33) rfl rfl⟩
theorem mX0_noteRow : mV yX0_noteRow cX0_noteRow 6 (Option.none : Option FieldType) 1 := ⟨⟨(t6 (i := 9) rfl rfl), (t1 (i := 15) rfl rfl), ⟨by decide, by decide⟩, by decide +kernel, by decide⟩, (t6 (i := 8) rfl rfl), tS (i := 34) rfl rfl⟩
theorem mX0_moverFor : mV yX0_moverFor cX0_moverFor 5 (Option.some .int) 3 := ⟨⟨(t6 (i := 13) rfl rfl), (t1 (i := 15) rfl rfl), ⟨by decide, by decide⟩, by decide +kernel, by decide⟩, (t6 (i := 12) rfl rfl), tS (i := 35) rfl rfl⟩
theorem mX0_homeAt : mV yX0_homeAt cX0_homeAt 2 (Option.some .int) 1 := ⟨⟨(t6 (i := 17) rfl rfl), (t1 (i := 15) rfl rfl), ⟨by decide, by decide⟩, by decide +kernel, by decide⟩, (t6 (i := 15) rfl rfl), (t6 (i := 16) rfl rfl)⟩
theorem mX0_houseAt : mV yX0_houseAt cX0_houseAt 2 (Option.some .int) 1 := ⟨⟨(t6 (i := 21) rfl rfl), (t1 (i := 15) rfl rfl), ⟨by decide, by decide⟩, by decide +kernel, by decide⟩, (t6 (i := 19) rfl rfl), (t6 (i := 20) rfl rfl)⟩
theorem mX10_gap : mV yX10_gap cX10_gap 5 (Option.some .int) 2 := ⟨⟨(t6 (i := 25) rfl rfl), (t1 (i := 1) rfl rfl), ⟨by decide, by decide⟩, by decide +kernel, by decide⟩, (t6 (i := 23) rfl rfl), (t6 (i := 24) rfl rfl)⟩
theorem mX7_bandsToBeFirst : mV yX7_bandsToBeFirst cX7_bandsToBeFirst 6 (Option.some .int) 2 := ⟨⟨(t6 (i := 29) rfl rfl), (t1 (i := 2) rfl rfl), ⟨by decide, by decide⟩, by decide +kernel, by decide⟩, (t6 (i := 27) rfl rfl), (t6 (i := 28) rfl rfl)⟩
theorem mX10_bid : mV yX10_bid cX10_bid 5 (Option.some .int) 2 := ⟨⟨(t6 (i := 33) rfl rfl), (t1 (i := 1) rfl rfl), ⟨by decide, by decide⟩, by decide +kernel, by decide⟩, (t6 (i := 31) rfl rfl), (t6 (i := 32) rfl rfl)⟩
theorem mX1_keep : mV yX1_keep cX1_keep 2 (Option.none : Option FieldType) 1 := ⟨⟨(t6 (i := 37) rfl rfl), (t1 (i := 7) rfl rfl), ⟨by decide, by decide⟩, by decide +kernel, by decide⟩, (t6 (i := 35) rfl rfl), (t6 (i := 36) rfl rfl)⟩
theorem mX10_unbid : mV yX10_unbid cX10_unbid 5 (Option.some .int) 2 := ⟨⟨(t6 (i := 43) rfl rfl), (t1 (i := 1) rfl rfl), ⟨by decide, by decide⟩, by decide +kernel, by decide⟩, (t6 (i := 41) rfl rfl), (t6 (i := 42) rfl rfl)⟩
theorem mX10_auto : mV yX10_auto cX10_auto 2 (Option.some .int) 0 := ⟨⟨(t6 (i := 47) rfl rfl), (t1 (i := 1) rfl rfl), ⟨by decide, by decide⟩, by decide +kernel, by decide⟩, (t6 (i := 45) rfl rfl), (t6 (i := 46) rfl rfl)⟩
theorem mX10_week : mV yX10_week cX10_week 1 (Option.some .int) 0 := ⟨⟨(t6 (i := 52) rfl rfl), (t1 (i := 1) rfl rfl), ⟨by decide, by decide⟩, by decide +kernel, by decide⟩, (t6 (i := 50) rfl rfl), (t6 (i := 51) rfl rfl)⟩
theorem mX10_wish : mV yX10_wish cX10_wish 5 (Option.some .int) 2 := ⟨⟨(t6 (i := 56) rfl rfl), (t1 (i := 1) rfl rfl), ⟨by decide, by decide⟩, by decide +kernel, by decide⟩, (t6 (i := 54) rfl rfl), (t6 (i := 55) rfl rfl)⟩
theorem mX10_unwish : mV yX10_unwish cX10_unwish 6 (Option.some .int) 2 := ⟨⟨(t6 (i := 62) rfl rfl), (t1 (i := 1) rfl rfl), ⟨by decide, by decide⟩, by decide +kernel, by decide⟩, (t6 (i := 60) rfl rfl), (t6 (i := 61) rfl rfl)⟩
theorem mX3_dropWish : mV yX3_dropWish cX3_dropWish 3 (Option.none : Option FieldType) 1 := ⟨⟨(t6 (i := 66) rfl rfl), (t1 (i := 4) rfl rfl), ⟨by decide, by decide⟩, by decide +kernel, by decide⟩, (t6 (i := 64) rfl rfl), (t6 (i := 65) rfl rfl)⟩
theorem mX10_leave : mV yX10_leave cX10_leave 3 (Option.some .int) 1 := ⟨⟨(t6 (i := 70) rfl rfl), (t1 (i := 1) rfl rfl), ⟨by decide, by decide⟩, by decide +kernel, by decide⟩, (t6 (i := 68) rfl rfl), (t6 (i := 69) rfl rfl)⟩
theorem mX10_shut : mV yX10_shut cX10_shut 4 (Option.some .int) 2 := ⟨⟨(t6 (i := 75) rfl rfl), (t1 (i := 1) rfl rfl), ⟨by decide, by decide⟩, by decide +kernel, by decide⟩, (t6 (i := 73) rfl rfl), (t6 (i := 74) rfl rfl)⟩
theorem mX7_dropBidsFor : mV yX7_dropBidsFor cX7_dropBidsFor 3 (Option.none : Option FieldType) 1 := ⟨⟨(t6 (i := 79) rfl rfl), (t1 (i := 2) rfl rfl), ⟨by decide, by decide⟩, by decide +kernel, by decide⟩, (t6 (i := 77) rfl rfl), (t6 (i := 78) rfl rfl)⟩
theorem mX10_need : mV yX10_need cX10_need 5 (Option.some .int) 2 := ⟨⟨(t6 (i := 83) rfl rfl), (t1 (i := 1) rfl rfl), ⟨by decide, by decide⟩, by decide +kernel, by decide⟩, (t6 (i := 81) rfl rfl), (t6 (i := 82) rfl rfl)⟩
theorem mX10_rules : mV yX10_rules cX10_rules 4 (Option.some .int) 2 := ⟨⟨(t6 (i := 87) rfl rfl), (t1 (i := 1) rfl rfl), ⟨by decide, by decide⟩, by decide +kernel, by decide⟩, (t6 (i := 85) rfl rfl), (t6 (i := 86) rfl rfl)⟩
theorem mX10_undo : mV yX10_undo cX10_undo 1 (Option.some .int) 0 := ⟨⟨(t6 (i := 91) rfl rfl), (t1 (i := 1) rfl rfl), ⟨by decide, by decide⟩, by decide +kernel, by decide⟩, (t6 (i := 89) rfl rfl), (t6 (i := 90) rfl rfl)⟩
theorem mX1_goBack : mV yX1_goBack cX1_goBack 2 (Option.none : Option FieldType) 1 := ⟨⟨(t6 (i := 95) rfl rfl), (t1 (i := 7) rfl rfl), ⟨by decide, by decide⟩, by decide +kernel, by decide⟩, (t6 (i := 93) rfl rfl), (t6 (i := 94) rfl rfl)⟩
theorem mX10_print : mV yX10_print cX10_print 1 (Option.some .int) 0 := ⟨⟨(t6 (i := 99) rfl rfl), (t1 (i := 1) rfl rfl), ⟨by decide, by decide⟩, by decide +kernel, by decide⟩, (t6 (i := 97) rfl rfl), (t6 (i := 98) rfl rfl)⟩
theorem mX5_write : mV yX5_write cX5_write 3 (Option.none : Option FieldType) 1 := ⟨⟨(t6 (i := 103) rfl rfl), (t1 (i := 13) rfl rfl), ⟨by decide, by decide⟩, by decide +kernel, by decide⟩, (t6 (i := 101) rfl rfl), (t6 (i := 102) rfl rfl)⟩
theorem mX5_putText : mV yX5_putText cX5_putText 3 (Option.none : Option FieldType) 1 := ⟨⟨(t6 (i := 108) rfl rfl), (t1 (i := 13) rfl rfl), ⟨by decide, by decide⟩, by decide +kernel, by decide⟩, (t6 (i := 107) rfl rfl), tS (i := 36) rfl rfl⟩
theorem mX5_put : mV yX5_put cX5_put 2 (Option.none : Option FieldType) 1 := ⟨⟨(t6 (i := 114) rfl rfl), (t1 (i := 13) rfl rfl), ⟨by decide, by decide⟩, by decide +kernel, by decide⟩, (t6 (i := 113) rfl rfl), tS (i := 37) rfl rfl⟩
theorem mX5_putNumber : mV yX5_putNumber cX5_putNumber 2 (Option.none : Option FieldType) 1 := ⟨⟨(t6 (i := 120) rfl rfl), (t1 (i := 13) rfl rfl), ⟨by decide, by decide⟩, by decide +kernel, by decide⟩, (t6 (i := 119) rfl rfl), tS (i := 38) rfl rfl⟩
theorem mX5_isTold : mS yX5_isTold cX5_isTold 3 (Option.some .boolean) 2 := ⟨⟨(t6 (i := 123) rfl rfl), (t1 (i := 13) rfl rfl), ⟨by decide, by decide⟩, by decide +kernel, by decide⟩, (t6 (i := 122) rfl rfl)⟩
theorem mX5_writeHome : mV yX5_writeHome cX5_writeHome 2 (Option.none : Option FieldType) 1 := ⟨⟨(t6 (i := 128) rfl rfl), (t1 (i := 13) rfl rfl), ⟨by decide, by decide⟩, by decide +kernel, by decide⟩, (t6 (i := 127) rfl rfl), tS (i := 39) rfl rfl⟩
theorem mX5_putName : mV yX5_putName cX5_putName 5 (Option.none : Option FieldType) 1 := ⟨⟨(t6 (i := 133) rfl rfl), (t1 (i := 13) rfl rfl), ⟨by decide, by decide⟩, by decide +kernel, by decide⟩, (t6 (i := 132) rfl rfl), tS (i := 40) rfl rfl⟩
theorem mX5_writeHouse : mV yX5_writeHouse cX5_writeHouse 6 (Option.none : Option FieldType) 2 := ⟨⟨(t6 (i := 137) rfl rfl), (t1 (i := 13) rfl rfl), ⟨by decide, by decide⟩, by decide +kernel, by decide⟩, (t6 (i := 136) rfl rfl), tS (i := 41) rfl rfl⟩
theorem mX10_out : mV yX10_out cX10_out 2 (Option.some .int) 1 := ⟨⟨(t6 (i := 149) rfl rfl), (t1 (i := 1) rfl rfl), ⟨by decide, by decide⟩, by decide +kernel, by decide⟩, (t6 (i := 147) rfl rfl), (t6 (i := 148) rfl rfl)⟩
theorem mX5_byteAt : mV yX5_byteAt cX5_byteAt 2 (Option.some .int) 1 := ⟨⟨(t6 (i := 218) rfl rfl), (t1 (i := 13) rfl rfl), ⟨by decide, by decide⟩, by decide +kernel, by decide⟩, (t6 (i := 216) rfl rfl), (t6 (i := 217) rfl rfl)⟩
theorem mX11_init : mI yX11_init cX11_init 1 0 := ⟨⟨(t6 (i := 223) rfl rfl), (t1 (i := 17) rfl rfl), ⟨by decide, by decide⟩, by decide +kernel, by decide⟩, (t6 (i := 222) rfl rfl), rfl⟩
theorem mX11_plain : mS yX11_plain cX11_plain 2 (Option.none : Option FieldType) 1 := ⟨⟨(t6 (i := 227) rfl rfl), (t1 (i := 17) rfl rfl), ⟨by decide, by decide⟩, by decide +kernel, by decide⟩, (t6 (i := 226) rfl rfl)⟩
theorem mX11_thrown : mV yX11_thrown cX11_thrown 1 (Option.some .int) 0 := ⟨⟨(t7 (i := 90) rfl rfl), (t1 (i := 17) rfl rfl), ⟨by decide, by decide⟩, by decide +kernel, by decide⟩, (t7 (i := 88) rfl rfl), (t7 (i := 89) rfl rfl)⟩
theorem mX11_status : mV yX11_status cX11_status 1 (Option.some .int) 0 := ⟨⟨(t7 (i := 94) rfl rfl), (t1 (i := 17) rfl rfl), ⟨by decide, by decide⟩, by decide +kernel, by decide⟩, (t7 (i := 92) rfl rfl), (t7 (i := 93) rfl rfl)⟩
theorem mX11_feed : mV yX11_feed cX11_feed 6 (Option.some .int) 5 := ⟨⟨(t7 (i := 98) rfl rfl), (t1 (i := 17) rfl rfl), ⟨by decide, by decide⟩, by decide +kernel, by decide⟩, (t7 (i := 96) rfl rfl), (t7 (i := 97) rfl rfl)⟩
theorem mX11_come : mV yX11_come cX11_come 3 (Option.none : Option FieldType) 1 := ⟨⟨(t7 (i := 102) rfl rfl), (t1 (i := 17) rfl rfl), ⟨by decide, by decide⟩, by decide +kernel, by decide⟩, (t7 (i := 101) rfl rfl), tS (i := 43) rfl rfl⟩
theorem mX11_load : mV yX11_load cX11_load 4 (Option.some .int) 1 := ⟨⟨(t7 (i := 106) rfl rfl), (t1 (i := 17) rfl rfl), ⟨by decide, by decide⟩, by decide +kernel, by decide⟩, (t7 (i := 104) rfl rfl), (t7 (i := 105) rfl rfl)⟩
theorem mX11_isFrom : mS yX11_isFrom cX11_isFrom 3 (Option.some .boolean) 3 := ⟨⟨(t7 (i := 109) rfl rfl), (t1 (i := 17) rfl rfl), ⟨by decide, by decide⟩, by decide +kernel, by decide⟩, (t7 (i := 108) rfl rfl)⟩
theorem mX11_refuse : mV yX11_refuse cX11_refuse 2 (Option.some .int) 1 := ⟨⟨(t7 (i := 113) rfl rfl), (t1 (i := 17) rfl rfl), ⟨by decide, by decide⟩, by decide +kernel, by decide⟩, (t7 (i := 112) rfl rfl), tS (i := 44) rfl rfl⟩
theorem mX11_go : mV yX11_go cX11_go 2 (Option.none : Option FieldType) 0 := ⟨⟨(t7 (i := 117) rfl rfl), (t1 (i := 17) rfl rfl), ⟨by decide, by decide⟩, by decide +kernel, by decide⟩, (t7 (i := 116) rfl rfl), tS (i := 45) rfl rfl⟩
theorem mX11_byteAt : mV yX11_byteAt cX11_byteAt 2 (Option.some .int) 1 := ⟨⟨(t7 (i := 121) rfl rfl), (t1 (i := 17) rfl rfl), ⟨by decide, by decide⟩, by decide +kernel, by decide⟩, (t7 (i := 120) rfl rfl), tS (i := 46) rfl rfl⟩
theorem mX11_isLetter : mS yX11_isLetter cX11_isLetter 1 (Option.some .boolean) 1 := ⟨⟨(t7 (i := 124) rfl rfl), (t1 (i := 17) rfl rfl), ⟨by decide, by decide⟩, by decide +kernel, by decide⟩, (t7 (i := 123) rfl rfl)⟩
theorem mX11_isDigit : mS yX11_isDigit cX11_isDigit 1 (Option.some .boolean) 1 := ⟨⟨(t7 (i := 128) rfl rfl), (t1 (i := 17) rfl rfl), ⟨by decide, by decide⟩, by decide +kernel, by decide⟩, (t7 (i := 127) rfl rfl)⟩
theorem mX11_readLine : mV yX11_readLine cX11_readLine 1 (Option.some .boolean) 0 := ⟨⟨(t7 (i := 132) rfl rfl), (t1 (i := 17) rfl rfl), ⟨by decide, by decide⟩, by decide +kernel, by decide⟩, (t7 (i := 131) rfl rfl), tS (i := 47) rfl rfl⟩
theorem mX11_isWord : mV yX11_isWord cX11_isWord 2 (Option.some .boolean) 1 := ⟨⟨(t7 (i := 136) rfl rfl), (t1 (i := 17) rfl rfl), ⟨by decide, by decide⟩, by decide +kernel, by decide⟩, (t7 (i := 135) rfl rfl), tS (i := 48) rfl rfl⟩
theorem mX11_wordOf : mS yX11_wordOf cX11_wordOf 1 (Option.some .long) 1 := ⟨⟨(t7 (i := 139) rfl rfl), (t1 (i := 17) rfl rfl), ⟨by decide, by decide⟩, by decide +kernel, by decide⟩, (t7 (i := 138) rfl rfl)⟩
theorem mX11_spelt : mS yX11_spelt cX11_spelt 6 (Option.some .long) 6 := ⟨⟨(t7 (i := 142) rfl rfl), (t1 (i := 17) rfl rfl), ⟨by decide, by decide⟩, by decide +kernel, by decide⟩, (t7 (i := 141) rfl rfl)⟩
theorem mX11_joined : mS yX11_joined cX11_joined 3 (Option.some .long) 2 := ⟨⟨(t7 (i := 145) rfl rfl), (t1 (i := 17) rfl rfl), ⟨by decide, by decide⟩, by decide +kernel, by decide⟩, (t7 (i := 144) rfl rfl)⟩
theorem mX11_readHome : mV yX11_readHome cX11_readHome 3 (Option.some .boolean) 0 := ⟨⟨(t7 (i := 149) rfl rfl), (t1 (i := 17) rfl rfl), ⟨by decide, by decide⟩, by decide +kernel, by decide⟩, (t7 (i := 148) rfl rfl), tS (i := 49) rfl rfl⟩
theorem mX11_bad : mV yX11_bad cX11_bad 2 (Option.some .boolean) 1 := ⟨⟨(t7 (i := 153) rfl rfl), (t1 (i := 17) rfl rfl), ⟨by decide, by decide⟩, by decide +kernel, by decide⟩, (t7 (i := 152) rfl rfl), tS (i := 50) rfl rfl⟩
theorem mX11_readName : mV yX11_readName cX11_readName 2 (Option.some .boolean) 1 := ⟨⟨(t7 (i := 157) rfl rfl), (t1 (i := 17) rfl rfl), ⟨by decide, by decide⟩, by decide +kernel, by decide⟩, (t7 (i := 156) rfl rfl), tS (i := 51) rfl rfl⟩
theorem mX11_isName : mV yX11_isName cX11_isName 2 (Option.some .boolean) 0 := ⟨⟨(t7 (i := 161) rfl rfl), (t1 (i := 17) rfl rfl), ⟨by decide, by decide⟩, by decide +kernel, by decide⟩, (t7 (i := 160) rfl rfl), tS (i := 52) rfl rfl⟩
theorem mX11_isTaken : mV yX11_isTaken cX11_isTaken 2 (Option.some .boolean) 0 := ⟨⟨(t7 (i := 165) rfl rfl), (t1 (i := 17) rfl rfl), ⟨by decide, by decide⟩, by decide +kernel, by decide⟩, (t7 (i := 164) rfl rfl), tS (i := 53) rfl rfl⟩
theorem mX11_homeHere : mV yX11_homeHere cX11_homeHere 2 (Option.some .int) 0 := ⟨⟨(t7 (i := 169) rfl rfl), (t1 (i := 17) rfl rfl), ⟨by decide, by decide⟩, by decide +kernel, by decide⟩, (t7 (i := 168) rfl rfl), tS (i := 54) rfl rfl⟩
theorem mX11_readNumber : mV yX11_readNumber cX11_readNumber 4 (Option.some .boolean) 3 := ⟨⟨(t7 (i := 173) rfl rfl), (t1 (i := 17) rfl rfl), ⟨by decide, by decide⟩, by decide +kernel, by decide⟩, (t7 (i := 172) rfl rfl), tS (i := 55) rfl rfl⟩
theorem mX11_readEnd : mV yX11_readEnd cX11_readEnd 1 (Option.some .boolean) 0 := ⟨⟨(t7 (i := 177) rfl rfl), (t1 (i := 17) rfl rfl), ⟨by decide, by decide⟩, by decide +kernel, by decide⟩, (t7 (i := 176) rfl rfl), tS (i := 56) rfl rfl⟩
theorem mX11_readHouse : mV yX11_readHouse cX11_readHouse 2 (Option.some .boolean) 0 := ⟨⟨(t7 (i := 181) rfl rfl), (t1 (i := 17) rfl rfl), ⟨by decide, by decide⟩, by decide +kernel, by decide⟩, (t7 (i := 180) rfl rfl), tS (i := 57) rfl rfl⟩
theorem mX11_at : mS yX11_at cX11_at 2 (Option.some .int) 2 := ⟨⟨(t7 (i := 184) rfl rfl), (t1 (i := 17) rfl rfl), ⟨by decide, by decide⟩, by decide +kernel, by decide⟩, (t7 (i := 183) rfl rfl)⟩
theorem mX11_readIn : mV yX11_readIn cX11_readIn 3 (Option.some .boolean) 1 := ⟨⟨(t7 (i := 188) rfl rfl), (t1 (i := 17) rfl rfl), ⟨by decide, by decide⟩, by decide +kernel, by decide⟩, (t7 (i := 187) rfl rfl), tS (i := 58) rfl rfl⟩
theorem mX11_readWish : mV yX11_readWish cX11_readWish 5 (Option.some .boolean) 1 := ⟨⟨(t7 (i := 192) rfl rfl), (t1 (i := 17) rfl rfl), ⟨by decide, by decide⟩, by decide +kernel, by decide⟩, (t7 (i := 191) rfl rfl), tS (i := 59) rfl rfl⟩
theorem mX11_readRule : mV yX11_readRule cX11_readRule 2 (Option.some .boolean) 0 := ⟨⟨(t7 (i := 196) rfl rfl), (t1 (i := 17) rfl rfl), ⟨by decide, by decide⟩, by decide +kernel, by decide⟩, (t7 (i := 195) rfl rfl), tS (i := 60) rfl rfl⟩
theorem mX11_leastOf : mS yX11_leastOf cX11_leastOf 1 (Option.some .int) 1 := ⟨⟨(t7 (i := 199) rfl rfl), (t1 (i := 17) rfl rfl), ⟨by decide, by decide⟩, by decide +kernel, by decide⟩, (t7 (i := 198) rfl rfl)⟩
theorem mX11_mostOf : mS yX11_mostOf cX11_mostOf 1 (Option.some .int) 1 := ⟨⟨(t7 (i := 202) rfl rfl), (t1 (i := 17) rfl rfl), ⟨by decide, by decide⟩, by decide +kernel, by decide⟩, (t7 (i := 201) rfl rfl)⟩
theorem mX11_copies : mS yX11_copies cX11_copies 3 (Option.none : Option FieldType) 2 := ⟨⟨(t7 (i := 205) rfl rfl), (t1 (i := 17) rfl rfl), ⟨by decide, by decide⟩, by decide +kernel, by decide⟩, (t7 (i := 204) rfl rfl)⟩
theorem mX11_gives : mV yX11_gives cX11_gives 2 (Option.some .int) 1 := ⟨⟨(t7 (i := 209) rfl rfl), (t1 (i := 17) rfl rfl), ⟨by decide, by decide⟩, by decide +kernel, by decide⟩, (t7 (i := 208) rfl rfl), tS (i := 61) rfl rfl⟩
theorem mX11_fault : mV yX11_fault cX11_fault 2 (Option.some .int) 1 := ⟨⟨(t7 (i := 213) rfl rfl), (t1 (i := 17) rfl rfl), ⟨by decide, by decide⟩, by decide +kernel, by decide⟩, (t7 (i := 211) rfl rfl), (t7 (i := 212) rfl rfl)⟩
theorem mX11_many : mV yX11_many cX11_many 2 (Option.some .int) 1 := ⟨⟨(t7 (i := 217) rfl rfl), (t1 (i := 17) rfl rfl), ⟨by decide, by decide⟩, by decide +kernel, by decide⟩, (t7 (i := 215) rfl rfl), (t7 (i := 216) rfl rfl)⟩
theorem mX11_allBids : mV yX11_allBids cX11_allBids 3 (Option.some .int) 0 := ⟨⟨(t7 (i := 221) rfl rfl), (t1 (i := 17) rfl rfl), ⟨by decide, by decide⟩, by decide +kernel, by decide⟩, (t7 (i := 220) rfl rfl), tS (i := 62) rfl rfl⟩
theorem mX11_of : mV yX11_of cX11_of 3 (Option.some .int) 2 := ⟨⟨(t7 (i := 225) rfl rfl), (t1 (i := 17) rfl rfl), ⟨by decide, by decide⟩, by decide +kernel, by decide⟩, (t7 (i := 224) rfl rfl), tS (i := 63) rfl rfl⟩
theorem mX11_bits : mS yX11_bits cX11_bits 3 (Option.some .int) 1 := ⟨⟨(t7 (i := 228) rfl rfl), (t1 (i := 17) rfl rfl), ⟨by decide, by decide⟩, by decide +kernel, by decide⟩, (t7 (i := 227) rfl rfl)⟩
theorem mX11_freeOnes : mV yX11_freeOnes cX11_freeOnes 3 (Option.some .int) 0 := ⟨⟨(t7 (i := 232) rfl rfl), (t1 (i := 17) rfl rfl), ⟨by decide, by decide⟩, by decide +kernel, by decide⟩, (t7 (i := 231) rfl rfl), tS (i := 64) rfl rfl⟩
theorem mX11_isFree : mV yX11_isFree cX11_isFree 2 (Option.some .boolean) 1 := ⟨⟨(t7 (i := 236) rfl rfl), (t1 (i := 17) rfl rfl), ⟨by decide, by decide⟩, by decide +kernel, by decide⟩, (t7 (i := 235) rfl rfl), tS (i := 65) rfl rfl⟩
theorem mX11_home0 : mV yX11_home0 cX11_home0 3 (Option.some .int) 2 := ⟨⟨(t8 (i := 0) rfl rfl), (t1 (i := 17) rfl rfl), ⟨by decide, by decide⟩, by decide +kernel, by decide⟩, (t7 (i := 239) rfl rfl), tS (i := 66) rfl rfl⟩
theorem mX11_inOnes : mV yX11_inOnes cX11_inOnes 3 (Option.some .int) 0 := ⟨⟨(t8 (i := 4) rfl rfl), (t1 (i := 17) rfl rfl), ⟨by decide, by decide⟩, by decide +kernel, by decide⟩, (t8 (i := 3) rfl rfl), tS (i := 67) rfl rfl⟩
theorem mX11_isIn : mV yX11_isIn cX11_isIn 2 (Option.some .boolean) 1 := ⟨⟨(t8 (i := 8) rfl rfl), (t1 (i := 17) rfl rfl), ⟨by decide, by decide⟩, by decide +kernel, by decide⟩, (t8 (i := 7) rfl rfl), tS (i := 68) rfl rfl⟩
theorem mX11_home : mV yX11_home cX11_home 3 (Option.some .int) 2 := ⟨⟨(t8 (i := 12) rfl rfl), (t1 (i := 17) rfl rfl), ⟨by decide, by decide⟩, by decide +kernel, by decide⟩, (t8 (i := 10) rfl rfl), (t8 (i := 11) rfl rfl)⟩
theorem mX11_isHome : mV yX11_isHome cX11_isHome 2 (Option.some .boolean) 1 := ⟨⟨(t8 (i := 16) rfl rfl), (t1 (i := 17) rfl rfl), ⟨by decide, by decide⟩, by decide +kernel, by decide⟩, (t8 (i := 15) rfl rfl), tS (i := 69) rfl rfl⟩
theorem mX11_bidders : mV yX11_bidders cX11_bidders 4 (Option.some .int) 1 := ⟨⟨(t8 (i := 20) rfl rfl), (t1 (i := 17) rfl rfl), ⟨by decide, by decide⟩, by decide +kernel, by decide⟩, (t8 (i := 19) rfl rfl), tS (i := 70) rfl rfl⟩
theorem mX11_isBid : mV yX11_isBid cX11_isBid 3 (Option.some .boolean) 2 := ⟨⟨(t8 (i := 24) rfl rfl), (t1 (i := 17) rfl rfl), ⟨by decide, by decide⟩, by decide +kernel, by decide⟩, (t8 (i := 23) rfl rfl), tS (i := 71) rfl rfl⟩
theorem mX11_house : mV yX11_house cX11_house 3 (Option.some .int) 2 := ⟨⟨(t8 (i := 28) rfl rfl), (t1 (i := 17) rfl rfl), ⟨by decide, by decide⟩, by decide +kernel, by decide⟩, (t8 (i := 26) rfl rfl), (t8 (i := 27) rfl rfl)⟩
theorem mX11_isHouse : mV yX11_isHouse cX11_isHouse 2 (Option.some .boolean) 1 := ⟨⟨(t8 (i := 32) rfl rfl), (t1 (i := 17) rfl rfl), ⟨by decide, by decide⟩, by decide +kernel, by decide⟩, (t8 (i := 31) rfl rfl), tS (i := 72) rfl rfl⟩
theorem mX11_bandNow : mV yX11_bandNow cX11_bandNow 2 (Option.some .int) 1 := ⟨⟨(t8 (i := 36) rfl rfl), (t1 (i := 17) rfl rfl), ⟨by decide, by decide⟩, by decide +kernel, by decide⟩, (t8 (i := 35) rfl rfl), tS (i := 73) rfl rfl⟩
theorem mX11_rule : mV yX11_rule cX11_rule 2 (Option.some .int) 1 := ⟨⟨(t8 (i := 41) rfl rfl), (t1 (i := 17) rfl rfl), ⟨by decide, by decide⟩, by decide +kernel, by decide⟩, (t8 (i := 39) rfl rfl), (t8 (i := 40) rfl rfl)⟩
theorem mX11_why : mV yX11_why cX11_why 3 (Option.some .int) 2 := ⟨⟨(t8 (i := 45) rfl rfl), (t1 (i := 17) rfl rfl), ⟨by decide, by decide⟩, by decide +kernel, by decide⟩, (t8 (i := 43) rfl rfl), (t8 (i := 44) rfl rfl)⟩
theorem mX11_areOnes : mV yX11_areOnes cX11_areOnes 3 (Option.some .boolean) 2 := ⟨⟨(t8 (i := 49) rfl rfl), (t1 (i := 17) rfl rfl), ⟨by decide, by decide⟩, by decide +kernel, by decide⟩, (t8 (i := 48) rfl rfl), tS (i := 74) rfl rfl⟩
theorem mX11_whyNot : mV yX11_whyNot cX11_whyNot 3 (Option.some .int) 2 := ⟨⟨(t8 (i := 53) rfl rfl), (t1 (i := 17) rfl rfl), ⟨by decide, by decide⟩, by decide +kernel, by decide⟩, (t8 (i := 52) rfl rfl), tS (i := 75) rfl rfl⟩
theorem mX11_doesFit : mV yX11_doesFit cX11_doesFit 3 (Option.some .boolean) 2 := ⟨⟨(t8 (i := 57) rfl rfl), (t1 (i := 17) rfl rfl), ⟨by decide, by decide⟩, by decide +kernel, by decide⟩, (t8 (i := 56) rfl rfl), tS (i := 76) rfl rfl⟩
theorem mX11_bids : mV yX11_bids cX11_bids 3 (Option.some .int) 2 := ⟨⟨(t8 (i := 61) rfl rfl), (t1 (i := 17) rfl rfl), ⟨by decide, by decide⟩, by decide +kernel, by decide⟩, (t8 (i := 59) rfl rfl), (t8 (i := 60) rfl rfl)⟩
theorem mX11_order : mV yX11_order cX11_order 5 (Option.some .int) 2 := ⟨⟨(t8 (i := 65) rfl rfl), (t1 (i := 17) rfl rfl), ⟨by decide, by decide⟩, by decide +kernel, by decide⟩, (t8 (i := 63) rfl rfl), (t8 (i := 64) rfl rfl)⟩
theorem mX11_biddersOf : mV yX11_biddersOf cX11_biddersOf 4 (Option.some .int) 1 := ⟨⟨(t8 (i := 69) rfl rfl), (t1 (i := 17) rfl rfl), ⟨by decide, by decide⟩, by decide +kernel, by decide⟩, (t8 (i := 68) rfl rfl), tS (i := 77) rfl rfl⟩
theorem mX11_firstOf : mV yX11_firstOf cX11_firstOf 5 (Option.some .int) 2 := ⟨⟨(t8 (i := 73) rfl rfl), (t1 (i := 17) rfl rfl), ⟨by decide, by decide⟩, by decide +kernel, by decide⟩, (t8 (i := 72) rfl rfl), tS (i := 78) rfl rfl⟩
theorem mX11_weight_ : mV yX11_weight_ cX11_weight_ 3 (Option.some .int) 2 := ⟨⟨(t8 (i := 77) rfl rfl), (t1 (i := 17) rfl rfl), ⟨by decide, by decide⟩, by decide +kernel, by decide⟩, (t8 (i := 76) rfl rfl), tS (i := 79) rfl rfl⟩
theorem mX11_weight : mV yX11_weight cX11_weight 6 (Option.some .int) 3 := ⟨⟨(t8 (i := 81) rfl rfl), (t1 (i := 17) rfl rfl), ⟨by decide, by decide⟩, by decide +kernel, by decide⟩, (t8 (i := 80) rfl rfl), tS (i := 80) rfl rfl⟩
theorem mX11_isLocal : mV yX11_isLocal cX11_isLocal 4 (Option.some .boolean) 1 := ⟨⟨(t8 (i := 85) rfl rfl), (t1 (i := 17) rfl rfl), ⟨by decide, by decide⟩, by decide +kernel, by decide⟩, (t8 (i := 84) rfl rfl), tS (i := 81) rfl rfl⟩
theorem mX11_let0 : mV yX11_let0 cX11_let0 3 (Option.some .int) 2 := ⟨⟨(t8 (i := 89) rfl rfl), (t1 (i := 17) rfl rfl), ⟨by decide, by decide⟩, by decide +kernel, by decide⟩, (t8 (i := 88) rfl rfl), tS (i := 82) rfl rfl⟩
theorem mX11_isQuota : mV yX11_isQuota cX11_isQuota 1 (Option.some .boolean) 0 := ⟨⟨(t8 (i := 93) rfl rfl), (t1 (i := 17) rfl rfl), ⟨by decide, by decide⟩, by decide +kernel, by decide⟩, (t8 (i := 92) rfl rfl), tS (i := 83) rfl rfl⟩
theorem mX11_livedLets : mV yX11_livedLets cX11_livedLets 3 (Option.some .int) 0 := ⟨⟨(t8 (i := 97) rfl rfl), (t1 (i := 17) rfl rfl), ⟨by decide, by decide⟩, by decide +kernel, by decide⟩, (t8 (i := 96) rfl rfl), tS (i := 84) rfl rfl⟩
theorem mX11_ahead : mV yX11_ahead cX11_ahead 5 (Option.some .int) 2 := ⟨⟨(t8 (i := 101) rfl rfl), (t1 (i := 17) rfl rfl), ⟨by decide, by decide⟩, by decide +kernel, by decide⟩, (t8 (i := 99) rfl rfl), (t8 (i := 100) rfl rfl)⟩
theorem mX11_mayHope : mV yX11_mayHope cX11_mayHope 2 (Option.some .boolean) 1 := ⟨⟨(t8 (i := 105) rfl rfl), (t1 (i := 17) rfl rfl), ⟨by decide, by decide⟩, by decide +kernel, by decide⟩, (t8 (i := 104) rfl rfl), tS (i := 85) rfl rfl⟩
theorem mX11_aheadOf : mV yX11_aheadOf cX11_aheadOf 6 (Option.some .int) 3 := ⟨⟨(t8 (i := 109) rfl rfl), (t1 (i := 17) rfl rfl), ⟨by decide, by decide⟩, by decide +kernel, by decide⟩, (t8 (i := 108) rfl rfl), tS (i := 86) rfl rfl⟩
theorem mX11_turn : mV yX11_turn cX11_turn 3 (Option.some .int) 2 := ⟨⟨(t8 (i := 113) rfl rfl), (t1 (i := 17) rfl rfl), ⟨by decide, by decide⟩, by decide +kernel, by decide⟩, (t8 (i := 111) rfl rfl), (t8 (i := 112) rfl rfl)⟩
theorem mX11_gap : mV yX11_gap cX11_gap 6 (Option.some .int) 2 := ⟨⟨(t8 (i := 117) rfl rfl), (t1 (i := 17) rfl rfl), ⟨by decide, by decide⟩, by decide +kernel, by decide⟩, (t8 (i := 115) rfl rfl), (t8 (i := 116) rfl rfl)⟩
theorem mX11_let : mV yX11_let cX11_let 3 (Option.some .int) 2 := ⟨⟨(t8 (i := 121) rfl rfl), (t1 (i := 17) rfl rfl), ⟨by decide, by decide⟩, by decide +kernel, by decide⟩, (t8 (i := 119) rfl rfl), (t8 (i := 120) rfl rfl)⟩
theorem mX11_offer : mV yX11_offer cX11_offer 3 (Option.some .int) 2 := ⟨⟨(t8 (i := 125) rfl rfl), (t1 (i := 17) rfl rfl), ⟨by decide, by decide⟩, by decide +kernel, by decide⟩, (t8 (i := 123) rfl rfl), (t8 (i := 124) rfl rfl)⟩
theorem mX11_tally : mV yX11_tally cX11_tally 4 (Option.some .int) 1 := ⟨⟨(t8 (i := 129) rfl rfl), (t1 (i := 17) rfl rfl), ⟨by decide, by decide⟩, by decide +kernel, by decide⟩, (t8 (i := 127) rfl rfl), (t8 (i := 128) rfl rfl)⟩
theorem mX11_greatestChain : mV yX11_greatestChain cX11_greatestChain 3 (Option.some .int) 0 := ⟨⟨(t8 (i := 133) rfl rfl), (t1 (i := 17) rfl rfl), ⟨by decide, by decide⟩, by decide +kernel, by decide⟩, (t8 (i := 132) rfl rfl), tS (i := 87) rfl rfl⟩
theorem mX11_allPassed : mV yX11_allPassed cX11_allPassed 3 (Option.some .int) 0 := ⟨⟨(t8 (i := 137) rfl rfl), (t1 (i := 17) rfl rfl), ⟨by decide, by decide⟩, by decide +kernel, by decide⟩, (t8 (i := 136) rfl rfl), tS (i := 88) rfl rfl⟩
theorem mX11_lack : mV yX11_lack cX11_lack 4 (Option.some .int) 1 := ⟨⟨(t8 (i := 141) rfl rfl), (t1 (i := 17) rfl rfl), ⟨by decide, by decide⟩, by decide +kernel, by decide⟩, (t8 (i := 139) rfl rfl), (t8 (i := 140) rfl rfl)⟩
theorem mX11_weeks : mV yX11_weeks cX11_weeks 7 (Option.some .int) 2 := ⟨⟨(t8 (i := 145) rfl rfl), (t1 (i := 17) rfl rfl), ⟨by decide, by decide⟩, by decide +kernel, by decide⟩, (t8 (i := 143) rfl rfl), (t8 (i := 144) rfl rfl)⟩
theorem mX11_oneMore : mV yX11_oneMore cX11_oneMore 1 (Option.none : Option FieldType) 0 := ⟨⟨(t8 (i := 149) rfl rfl), (t1 (i := 17) rfl rfl), ⟨by decide, by decide⟩, by decide +kernel, by decide⟩, (t8 (i := 148) rfl rfl), tS (i := 89) rfl rfl⟩
theorem mX11_allBid : mV yX11_allBid cX11_allBid 3 (Option.some .int) 0 := ⟨⟨(t8 (i := 153) rfl rfl), (t1 (i := 17) rfl rfl), ⟨by decide, by decide⟩, by decide +kernel, by decide⟩, (t8 (i := 152) rfl rfl), tS (i := 90) rfl rfl⟩
theorem mX11_bidsBy : mV yX11_bidsBy cX11_bidsBy 6 (Option.some .int) 1 := ⟨⟨(t8 (i := 157) rfl rfl), (t1 (i := 17) rfl rfl), ⟨by decide, by decide⟩, by decide +kernel, by decide⟩, (t8 (i := 156) rfl rfl), tS (i := 91) rfl rfl⟩
theorem mX11_puts : mV yX11_puts cX11_puts 4 (Option.none : Option FieldType) 3 := ⟨⟨(t8 (i := 161) rfl rfl), (t1 (i := 17) rfl rfl), ⟨by decide, by decide⟩, by decide +kernel, by decide⟩, (t8 (i := 160) rfl rfl), tS (i := 92) rfl rfl⟩
theorem mX11_weekEnds : mV yX11_weekEnds cX11_weekEnds 4 (Option.some .int) 0 := ⟨⟨(t8 (i := 165) rfl rfl), (t1 (i := 17) rfl rfl), ⟨by decide, by decide⟩, by decide +kernel, by decide⟩, (t8 (i := 164) rfl rfl), tS (i := 93) rfl rfl⟩
theorem mX11_lets : mV yX11_lets cX11_lets 6 (Option.none : Option FieldType) 1 := ⟨⟨(t8 (i := 169) rfl rfl), (t1 (i := 17) rfl rfl), ⟨by decide, by decide⟩, by decide +kernel, by decide⟩, (t8 (i := 168) rfl rfl), tS (i := 94) rfl rfl⟩
theorem mX11_wouldTake : mV yX11_wouldTake cX11_wouldTake 3 (Option.some .boolean) 2 := ⟨⟨(t8 (i := 173) rfl rfl), (t1 (i := 17) rfl rfl), ⟨by decide, by decide⟩, by decide +kernel, by decide⟩, (t8 (i := 172) rfl rfl), tS (i := 95) rfl rfl⟩
theorem mX11_wishOf : mV yX11_wishOf cX11_wishOf 4 (Option.some .int) 2 := ⟨⟨(t8 (i := 177) rfl rfl), (t1 (i := 17) rfl rfl), ⟨by decide, by decide⟩, by decide +kernel, by decide⟩, (t8 (i := 176) rfl rfl), tS (i := 96) rfl rfl⟩
theorem mX11_offered : mV yX11_offered cX11_offered 5 (Option.none : Option FieldType) 3 := ⟨⟨(t8 (i := 181) rfl rfl), (t1 (i := 17) rfl rfl), ⟨by decide, by decide⟩, by decide +kernel, by decide⟩, (t8 (i := 180) rfl rfl), tS (i := 97) rfl rfl⟩
theorem mX11_takes : mV yX11_takes cX11_takes 8 (Option.none : Option FieldType) 3 := ⟨⟨(t8 (i := 185) rfl rfl), (t1 (i := 17) rfl rfl), ⟨by decide, by decide⟩, by decide +kernel, by decide⟩, (t8 (i := 184) rfl rfl), tS (i := 98) rfl rfl⟩
theorem mX11_putsHome : mV yX11_putsHome cX11_putsHome 4 (Option.none : Option FieldType) 3 := ⟨⟨(t8 (i := 189) rfl rfl), (t1 (i := 17) rfl rfl), ⟨by decide, by decide⟩, by decide +kernel, by decide⟩, (t8 (i := 188) rfl rfl), tS (i := 99) rfl rfl⟩
theorem mX11_leaves : mV yX11_leaves cX11_leaves 3 (Option.none : Option FieldType) 2 := ⟨⟨(t8 (i := 193) rfl rfl), (t1 (i := 17) rfl rfl), ⟨by decide, by decide⟩, by decide +kernel, by decide⟩, (t8 (i := 192) rfl rfl), tS (i := 100) rfl rfl⟩
theorem mX11_refuses : mV yX11_refuses cX11_refuses 2 (Option.none : Option FieldType) 1 := ⟨⟨(t8 (i := 197) rfl rfl), (t1 (i := 17) rfl rfl), ⟨by decide, by decide⟩, by decide +kernel, by decide⟩, (t8 (i := 196) rfl rfl), tS (i := 101) rfl rfl⟩
theorem mX11_when : mV yX11_when cX11_when 7 (Option.some .int) 3 := ⟨⟨(t8 (i := 201) rfl rfl), (t1 (i := 17) rfl rfl), ⟨by decide, by decide⟩, by decide +kernel, by decide⟩, (t8 (i := 199) rfl rfl), (t8 (i := 200) rfl rfl)⟩
theorem mX11_tip : mV yX11_tip cX11_tip 8 (Option.some .int) 1 := ⟨⟨(t8 (i := 205) rfl rfl), (t1 (i := 17) rfl rfl), ⟨by decide, by decide⟩, by decide +kernel, by decide⟩, (t8 (i := 203) rfl rfl), (t8 (i := 204) rfl rfl)⟩
theorem mX11_would : mV yX11_would cX11_would 5 (Option.some .int) 2 := ⟨⟨(t8 (i := 209) rfl rfl), (t1 (i := 17) rfl rfl), ⟨by decide, by decide⟩, by decide +kernel, by decide⟩, (t8 (i := 207) rfl rfl), (t8 (i := 208) rfl rfl)⟩
theorem mX11_queue : mV yX11_queue cX11_queue 6 (Option.some .int) 1 := ⟨⟨(t8 (i := 213) rfl rfl), (t1 (i := 17) rfl rfl), ⟨by decide, by decide⟩, by decide +kernel, by decide⟩, (t8 (i := 211) rfl rfl), (t8 (i := 212) rfl rfl)⟩
theorem mX11_plainWeight : mV yX11_plainWeight cX11_plainWeight 2 (Option.some .int) 1 := ⟨⟨(t8 (i := 217) rfl rfl), (t1 (i := 17) rfl rfl), ⟨by decide, by decide⟩, by decide +kernel, by decide⟩, (t8 (i := 216) rfl rfl), tS (i := 102) rfl rfl⟩
theorem mX11_most : mV yX11_most cX11_most 1 (Option.some .int) 0 := ⟨⟨(t8 (i := 221) rfl rfl), (t1 (i := 17) rfl rfl), ⟨by decide, by decide⟩, by decide +kernel, by decide⟩, (t8 (i := 219) rfl rfl), (t8 (i := 220) rfl rfl)⟩
theorem mX11_laysGifts : mV yX11_laysGifts cX11_laysGifts 5 (Option.some .int) 0 := ⟨⟨(t8 (i := 225) rfl rfl), (t1 (i := 17) rfl rfl), ⟨by decide, by decide⟩, by decide +kernel, by decide⟩, (t8 (i := 224) rfl rfl), tS (i := 103) rfl rfl⟩
theorem mX11_gave : mV yX11_gave cX11_gave 3 (Option.some .int) 2 := ⟨⟨(t8 (i := 229) rfl rfl), (t1 (i := 17) rfl rfl), ⟨by decide, by decide⟩, by decide +kernel, by decide⟩, (t8 (i := 228) rfl rfl), tS (i := 104) rfl rfl⟩
theorem mX11_canGive : mV yX11_canGive cX11_canGive 3 (Option.some .boolean) 2 := ⟨⟨(t8 (i := 233) rfl rfl), (t1 (i := 17) rfl rfl), ⟨by decide, by decide⟩, by decide +kernel, by decide⟩, (t8 (i := 232) rfl rfl), tS (i := 105) rfl rfl⟩
theorem mX11_couldHave : mV yX11_couldHave cX11_couldHave 3 (Option.some .boolean) 2 := ⟨⟨(t8 (i := 237) rfl rfl), (t1 (i := 17) rfl rfl), ⟨by decide, by decide⟩, by decide +kernel, by decide⟩, (t8 (i := 236) rfl rfl), tS (i := 106) rfl rfl⟩
theorem mX11_gift : mV yX11_gift cX11_gift 6 (Option.some .int) 1 := ⟨⟨(t9 (i := 1) rfl rfl), (t1 (i := 17) rfl rfl), ⟨by decide, by decide⟩, by decide +kernel, by decide⟩, (t8 (i := 239) rfl rfl), (t9 (i := 0) rfl rfl)⟩
theorem mX11_top : mV yX11_top cX11_top 3 (Option.some .int) 1 := ⟨⟨(t9 (i := 5) rfl rfl), (t1 (i := 17) rfl rfl), ⟨by decide, by decide⟩, by decide +kernel, by decide⟩, (t9 (i := 3) rfl rfl), (t9 (i := 4) rfl rfl)⟩
theorem mX11_allThatCould : mV yX11_allThatCould cX11_allThatCould 4 (Option.some .int) 1 := ⟨⟨(t9 (i := 9) rfl rfl), (t1 (i := 17) rfl rfl), ⟨by decide, by decide⟩, by decide +kernel, by decide⟩, (t9 (i := 8) rfl rfl), tS (i := 107) rfl rfl⟩
theorem mX11_lot : mV yX11_lot cX11_lot 7 (Option.some .int) 2 := ⟨⟨(t9 (i := 13) rfl rfl), (t1 (i := 17) rfl rfl), ⟨by decide, by decide⟩, by decide +kernel, by decide⟩, (t9 (i := 11) rfl rfl), (t9 (i := 12) rfl rfl)⟩
theorem mX11_weeksWaited : mV yX11_weeksWaited cX11_weeksWaited 2 (Option.some .int) 1 := ⟨⟨(t9 (i := 18) rfl rfl), (t1 (i := 17) rfl rfl), ⟨by decide, by decide⟩, by decide +kernel, by decide⟩, (t9 (i := 17) rfl rfl), tS (i := 108) rfl rfl⟩
theorem mX11_fits : mV yX11_fits cX11_fits 5 (Option.some .int) 2 := ⟨⟨(t9 (i := 23) rfl rfl), (t1 (i := 17) rfl rfl), ⟨by decide, by decide⟩, by decide +kernel, by decide⟩, (t9 (i := 21) rfl rfl), (t9 (i := 22) rfl rfl)⟩
theorem mX11_ward : mV yX11_ward cX11_ward 5 (Option.some .int) 1 := ⟨⟨(t9 (i := 27) rfl rfl), (t1 (i := 17) rfl rfl), ⟨by decide, by decide⟩, by decide +kernel, by decide⟩, (t9 (i := 25) rfl rfl), (t9 (i := 26) rfl rfl)⟩
theorem mX11_lackOf : mV yX11_lackOf cX11_lackOf 4 (Option.some .int) 1 := ⟨⟨(t9 (i := 31) rfl rfl), (t1 (i := 17) rfl rfl), ⟨by decide, by decide⟩, by decide +kernel, by decide⟩, (t9 (i := 30) rfl rfl), tS (i := 109) rfl rfl⟩
theorem mX11_envy : mV yX11_envy cX11_envy 6 (Option.some .int) 1 := ⟨⟨(t9 (i := 35) rfl rfl), (t1 (i := 17) rfl rfl), ⟨by decide, by decide⟩, by decide +kernel, by decide⟩, (t9 (i := 33) rfl rfl), (t9 (i := 34) rfl rfl)⟩
theorem mX11_isRather : mV yX11_isRather cX11_isRather 5 (Option.some .boolean) 2 := ⟨⟨(t9 (i := 39) rfl rfl), (t1 (i := 17) rfl rfl), ⟨by decide, by decide⟩, by decide +kernel, by decide⟩, (t9 (i := 38) rfl rfl), tS (i := 110) rfl rfl⟩
theorem mX11_lever : mV yX11_lever cX11_lever 10 (Option.some .int) 2 := ⟨⟨(t9 (i := 43) rfl rfl), (t1 (i := 17) rfl rfl), ⟨by decide, by decide⟩, by decide +kernel, by decide⟩, (t9 (i := 41) rfl rfl), (t9 (i := 42) rfl rfl)⟩
theorem mX11_letsAhead : mV yX11_letsAhead cX11_letsAhead 4 (Option.some .int) 1 := ⟨⟨(t9 (i := 47) rfl rfl), (t1 (i := 17) rfl rfl), ⟨by decide, by decide⟩, by decide +kernel, by decide⟩, (t9 (i := 46) rfl rfl), tS (i := 111) rfl rfl⟩
theorem mX11_trade : mV yX11_trade cX11_trade 2 (Option.some .int) 1 := ⟨⟨(t9 (i := 51) rfl rfl), (t1 (i := 17) rfl rfl), ⟨by decide, by decide⟩, by decide +kernel, by decide⟩, (t9 (i := 49) rfl rfl), (t9 (i := 50) rfl rfl)⟩
theorem mX11_laysTrades : mV yX11_laysTrades cX11_laysTrades 4 (Option.none : Option FieldType) 0 := ⟨⟨(t9 (i := 55) rfl rfl), (t1 (i := 17) rfl rfl), ⟨by decide, by decide⟩, by decide +kernel, by decide⟩, (t9 (i := 54) rfl rfl), tS (i := 112) rfl rfl⟩
theorem mX11_looksAt : mV yX11_looksAt cX11_looksAt 6 (Option.some .int) 2 := ⟨⟨(t9 (i := 60) rfl rfl), (t1 (i := 17) rfl rfl), ⟨by decide, by decide⟩, by decide +kernel, by decide⟩, (t9 (i := 59) rfl rfl), tS (i := 113) rfl rfl⟩
theorem mX11_trades : mV yX11_trades cX11_trades 4 (Option.some .int) 1 := ⟨⟨(t9 (i := 64) rfl rfl), (t1 (i := 17) rfl rfl), ⟨by decide, by decide⟩, by decide +kernel, by decide⟩, (t9 (i := 62) rfl rfl), (t9 (i := 63) rfl rfl)⟩
theorem mX11_longest : mV yX11_longest cX11_longest 4 (Option.some .int) 2 := ⟨⟨(t9 (i := 68) rfl rfl), (t1 (i := 17) rfl rfl), ⟨by decide, by decide⟩, by decide +kernel, by decide⟩, (t9 (i := 66) rfl rfl), (t9 (i := 67) rfl rfl)⟩
theorem mX11_movesOn : mV yX11_movesOn cX11_movesOn 6 (Option.none : Option FieldType) 3 := ⟨⟨(t9 (i := 72) rfl rfl), (t1 (i := 17) rfl rfl), ⟨by decide, by decide⟩, by decide +kernel, by decide⟩, (t9 (i := 71) rfl rfl), tS (i := 114) rfl rfl⟩
theorem mX11_undo : mV yX11_undo cX11_undo 2 (Option.some .int) 0 := ⟨⟨(t9 (i := 76) rfl rfl), (t1 (i := 17) rfl rfl), ⟨by decide, by decide⟩, by decide +kernel, by decide⟩, (t9 (i := 74) rfl rfl), (t9 (i := 75) rfl rfl)⟩
theorem mX11_bid : mV yX11_bid cX11_bid 3 (Option.some .int) 2 := ⟨⟨(t9 (i := 80) rfl rfl), (t1 (i := 17) rfl rfl), ⟨by decide, by decide⟩, by decide +kernel, by decide⟩, (t9 (i := 78) rfl rfl), (t9 (i := 79) rfl rfl)⟩
theorem mX11_keeps : mV yX11_keeps cX11_keeps 2 (Option.none : Option FieldType) 0 := ⟨⟨(t9 (i := 84) rfl rfl), (t1 (i := 17) rfl rfl), ⟨by decide, by decide⟩, by decide +kernel, by decide⟩, (t9 (i := 83) rfl rfl), tS (i := 115) rfl rfl⟩
theorem mX11_unbid : mV yX11_unbid cX11_unbid 3 (Option.some .int) 2 := ⟨⟨(t9 (i := 88) rfl rfl), (t1 (i := 17) rfl rfl), ⟨by decide, by decide⟩, by decide +kernel, by decide⟩, (t9 (i := 86) rfl rfl), (t9 (i := 87) rfl rfl)⟩
theorem mX11_auto : mV yX11_auto cX11_auto 2 (Option.some .int) 0 := ⟨⟨(t9 (i := 92) rfl rfl), (t1 (i := 17) rfl rfl), ⟨by decide, by decide⟩, by decide +kernel, by decide⟩, (t9 (i := 90) rfl rfl), (t9 (i := 91) rfl rfl)⟩
theorem mX11_week : mV yX11_week cX11_week 1 (Option.some .int) 0 := ⟨⟨(t9 (i := 96) rfl rfl), (t1 (i := 17) rfl rfl), ⟨by decide, by decide⟩, by decide +kernel, by decide⟩, (t9 (i := 94) rfl rfl), (t9 (i := 95) rfl rfl)⟩
theorem mX11_wish : mV yX11_wish cX11_wish 4 (Option.some .int) 2 := ⟨⟨(t9 (i := 100) rfl rfl), (t1 (i := 17) rfl rfl), ⟨by decide, by decide⟩, by decide +kernel, by decide⟩, (t9 (i := 98) rfl rfl), (t9 (i := 99) rfl rfl)⟩
theorem mX11_unwish : mV yX11_unwish cX11_unwish 6 (Option.some .int) 2 := ⟨⟨(t9 (i := 104) rfl rfl), (t1 (i := 17) rfl rfl), ⟨by decide, by decide⟩, by decide +kernel, by decide⟩, (t9 (i := 102) rfl rfl), (t9 (i := 103) rfl rfl)⟩
theorem mX11_leave : mV yX11_leave cX11_leave 2 (Option.some .int) 1 := ⟨⟨(t9 (i := 108) rfl rfl), (t1 (i := 17) rfl rfl), ⟨by decide, by decide⟩, by decide +kernel, by decide⟩, (t9 (i := 106) rfl rfl), (t9 (i := 107) rfl rfl)⟩
theorem mX11_shut : mV yX11_shut cX11_shut 4 (Option.some .int) 2 := ⟨⟨(t9 (i := 112) rfl rfl), (t1 (i := 17) rfl rfl), ⟨by decide, by decide⟩, by decide +kernel, by decide⟩, (t9 (i := 110) rfl rfl), (t9 (i := 111) rfl rfl)⟩
theorem mX11_dropsBid : mV yX11_dropsBid cX11_dropsBid 3 (Option.none : Option FieldType) 2 := ⟨⟨(t9 (i := 116) rfl rfl), (t1 (i := 17) rfl rfl), ⟨by decide, by decide⟩, by decide +kernel, by decide⟩, (t9 (i := 115) rfl rfl), tS (i := 116) rfl rfl⟩
theorem mX11_need : mV yX11_need cX11_need 5 (Option.some .int) 2 := ⟨⟨(t9 (i := 120) rfl rfl), (t1 (i := 17) rfl rfl), ⟨by decide, by decide⟩, by decide +kernel, by decide⟩, (t9 (i := 118) rfl rfl), (t9 (i := 119) rfl rfl)⟩
theorem mX11_rules : mV yX11_rules cX11_rules 4 (Option.some .int) 2 := ⟨⟨(t9 (i := 124) rfl rfl), (t1 (i := 17) rfl rfl), ⟨by decide, by decide⟩, by decide +kernel, by decide⟩, (t9 (i := 122) rfl rfl), (t9 (i := 123) rfl rfl)⟩
theorem mX11_print : mV yX11_print cX11_print 2 (Option.some .int) 0 := ⟨⟨(t9 (i := 128) rfl rfl), (t1 (i := 17) rfl rfl), ⟨by decide, by decide⟩, by decide +kernel, by decide⟩, (t9 (i := 126) rfl rfl), (t9 (i := 127) rfl rfl)⟩
theorem mX11_printsWord : mV yX11_printsWord cX11_printsWord 4 (Option.none : Option FieldType) 1 := ⟨⟨(t9 (i := 132) rfl rfl), (t1 (i := 17) rfl rfl), ⟨by decide, by decide⟩, by decide +kernel, by decide⟩, (t9 (i := 131) rfl rfl), tS (i := 117) rfl rfl⟩
theorem mX11_prints : mV yX11_prints cX11_prints 2 (Option.none : Option FieldType) 1 := ⟨⟨(t9 (i := 137) rfl rfl), (t1 (i := 17) rfl rfl), ⟨by decide, by decide⟩, by decide +kernel, by decide⟩, (t9 (i := 136) rfl rfl), tS (i := 118) rfl rfl⟩
theorem mX11_printsNumber : mV yX11_printsNumber cX11_printsNumber 2 (Option.none : Option FieldType) 1 := ⟨⟨(t9 (i := 141) rfl rfl), (t1 (i := 17) rfl rfl), ⟨by decide, by decide⟩, by decide +kernel, by decide⟩, (t9 (i := 140) rfl rfl), tS (i := 119) rfl rfl⟩
theorem mX11_isTold : mV yX11_isTold cX11_isTold 2 (Option.some .boolean) 1 := ⟨⟨(t9 (i := 145) rfl rfl), (t1 (i := 17) rfl rfl), ⟨by decide, by decide⟩, by decide +kernel, by decide⟩, (t9 (i := 144) rfl rfl), tS (i := 120) rfl rfl⟩
theorem mX11_printsNamed : mV yX11_printsNamed cX11_printsNamed 2 (Option.none : Option FieldType) 1 := ⟨⟨(t9 (i := 149) rfl rfl), (t1 (i := 17) rfl rfl), ⟨by decide, by decide⟩, by decide +kernel, by decide⟩, (t9 (i := 148) rfl rfl), tS (i := 121) rfl rfl⟩
theorem mX11_printsHouse : mV yX11_printsHouse cX11_printsHouse 3 (Option.none : Option FieldType) 1 := ⟨⟨(t9 (i := 153) rfl rfl), (t1 (i := 17) rfl rfl), ⟨by decide, by decide⟩, by decide +kernel, by decide⟩, (t9 (i := 152) rfl rfl), tS (i := 122) rfl rfl⟩
theorem mX11_out : mV yX11_out cX11_out 2 (Option.some .int) 1 := ⟨⟨(t9 (i := 157) rfl rfl), (t1 (i := 17) rfl rfl), ⟨by decide, by decide⟩, by decide +kernel, by decide⟩, (t9 (i := 155) rfl rfl), (t9 (i := 156) rfl rfl)⟩
theorem kL_15 : Cond.methodLink RL 15 yX10_init ∈ tblG := (t1 (i := 26) rfl rfl)
theorem kX10_9 : Cond.methodLink RX10 9 yX7_init ∈ tblG := (t1 (i := 34) rfl rfl)
theorem kX7_17 : Cond.methodLink RX7 17 yX2_init ∈ tblG := (t1 (i := 41) rfl rfl)
theorem kX7_26 : Cond.methodLink RX7 26 yX3_init ∈ tblG := (t1 (i := 112) rfl rfl)
theorem kX7_33 : Cond.methodLink RX7 33 yX8_init ∈ tblG := (t1 (i := 210) rfl rfl)
theorem kX7_43 : Cond.methodLink RX7 43 yX7_clear ∈ tblG := (t1 (i := 226) rfl rfl)
theorem kX10_21 : Cond.methodLink RX10 21 yX1_init ∈ tblG := (t2 (i := 45) rfl rfl)
theorem kX1_17 : Cond.methodLink RX1 17 yX7_init ∈ tblG := (t2 (i := 51) rfl rfl)
theorem kX10_28 : Cond.methodLink RX10 28 yX6_init ∈ tblG := (t2 (i := 65) rfl rfl)
theorem kX6_23 : Cond.methodLink RX6 23 yJ0_length_8abf5 ∈ tblG := (t2 (i := 83) rfl rfl)
theorem kJ0_335 : Cond.methodLink RJ0 335 yJ0_coder_7d493 ∈ tblG := (t2 (i := 87) rfl rfl)
theorem kX6_29 : Cond.methodLink RX6 29 yJ0_charAt_5068e ∈ tblG := (t2 (i := 93) rfl rfl)
theorem kJ0_492 : Cond.methodLink RJ0 492 yJ0_isLatin1_aae02 ∈ tblG := (t2 (i := 97) rfl rfl)
theorem kJ0_495 : Cond.methodLink RJ0 495 yJ1_charAt_3b067 ∈ tblG := (t2 (i := 101) rfl rfl)
theorem kJ1_9 : Cond.methodLink RJ1 9 yJ0_checkIndex_df160 ∈ tblG := (t2 (i := 104) rfl rfl)
theorem kJ0_1059 : Cond.methodLink RJ0 1059 yJ3_checkIndex_8e157 ∈ tblG := (t2 (i := 109) rfl rfl)
theorem kJ0_498 : Cond.methodLink RJ0 498 yJ2_charAt_3b067 ∈ tblG := (t2 (i := 112) rfl rfl)
theorem kJ2_67 : Cond.methodLink RJ2 67 yJ2_checkIndex_2214a ∈ tblG := (t2 (i := 115) rfl rfl)
theorem kJ2_48 : Cond.methodLink RJ2 48 yJ2_length_9d52b ∈ tblG := (t2 (i := 118) rfl rfl)
theorem kJ2_414 : Cond.methodLink RJ2 414 yJ0_checkIndex_df160 ∈ tblG := (t2 (i := 121) rfl rfl)
theorem kJ2_71 : Cond.methodLink RJ2 71 yJ2_getChar_3b067 ∈ tblG := (t2 (i := 122) rfl rfl)
theorem kX6_33 : Cond.methodLink RX6 33 yX6_packLetter ∈ tblG := (t2 (i := 131) rfl rfl)
theorem kX10_35 : Cond.methodLink RX10 35 yX5_init ∈ tblG := (t2 (i := 179) rfl rfl)
theorem kX10_42 : Cond.methodLink RX10 42 yX4_init ∈ tblG := (t2 (i := 193) rfl rfl)
theorem kX10_49 : Cond.methodLink RX10 49 yX0_init ∈ tblG := (t2 (i := 212) rfl rfl)
theorem kX10_56 : Cond.methodLink RX10 56 yX9_init ∈ tblG := (t3 (i := 1) rfl rfl)
theorem kL_19 : Cond.methodLink RL 19 yX10_status ∈ tblG := (t3 (i := 55) rfl rfl)
theorem kL_24 : Cond.methodLink RL 24 yX10_feed ∈ tblG := (t3 (i := 59) rfl rfl)
theorem kX10_65 : Cond.methodLink RX10 65 yX6_hasRoom ∈ tblG := (t3 (i := 63) rfl rfl)
theorem kX10_69 : Cond.methodLink RX10 69 yX6_append ∈ tblG := (t3 (i := 67) rfl rfl)
theorem kL_29 : Cond.methodLink RL 29 yX10_load ∈ tblG := (t3 (i := 71) rfl rfl)
theorem kX10_76 : Cond.methodLink RX10 76 yX10_fail ∈ tblG := (t3 (i := 75) rfl rfl)
theorem kX10_80 : Cond.methodLink RX10 80 yX6_readText ∈ tblG := (t3 (i := 79) rfl rfl)
theorem kX6_48 : Cond.methodLink RX6 48 yX7_clear ∈ tblG := (t3 (i := 83) rfl rfl)
theorem kX6_59 : Cond.methodLink RX6 59 yX6_next ∈ tblG := (t3 (i := 84) rfl rfl)
theorem kX6_191 : Cond.methodLink RX6 191 yX6_byteAt ∈ tblG := (t3 (i := 88) rfl rfl)
theorem kX6_194 : Cond.methodLink RX6 194 yX6_isLetter ∈ tblG := (t3 (i := 92) rfl rfl)
theorem kX6_197 : Cond.methodLink RX6 197 yX6_nextWord ∈ tblG := (t3 (i := 95) rfl rfl)
theorem kX6_200 : Cond.methodLink RX6 200 yX6_isDigit ∈ tblG := (t3 (i := 99) rfl rfl)
theorem kX6_203 : Cond.methodLink RX6 203 yX6_nextNumber ∈ tblG := (t3 (i := 102) rfl rfl)
theorem kX6_65 : Cond.methodLink RX6 65 yX6_readLine ∈ tblG := (t3 (i := 106) rfl rfl)
theorem kX6_73 : Cond.methodLink RX6 73 yX6_misplaced ∈ tblG := (t3 (i := 110) rfl rfl)
theorem kX6_90 : Cond.methodLink RX6 90 yX6_wrong ∈ tblG := (t3 (i := 114) rfl rfl)
theorem kX6_78 : Cond.methodLink RX6 78 yX6_readHome ∈ tblG := (t3 (i := 118) rfl rfl)
theorem kX6_94 : Cond.methodLink RX6 94 yX6_isNewName ∈ tblG := (t3 (i := 122) rfl rfl)
theorem kX6_152 : Cond.methodLink RX6 152 yX6_isName ∈ tblG := (t3 (i := 126) rfl rfl)
theorem kX6_184 : Cond.methodLink RX6 184 yX7_isTaken ∈ tblG := (t3 (i := 130) rfl rfl)
theorem kX7_91 : Cond.methodLink RX7 91 yX7_homeNamed ∈ tblG := (t3 (i := 134) rfl rfl)
theorem kX6_101 : Cond.methodLink RX6 101 yX7_addHome ∈ tblG := (t3 (i := 138) rfl rfl)
theorem kX7_81 : Cond.methodLink RX7 81 yX2_begin ∈ tblG := (t3 (i := 142) rfl rfl)
theorem kX6_105 : Cond.methodLink RX6 105 yX6_isNumber ∈ tblG := (t3 (i := 146) rfl rfl)
theorem kX6_81 : Cond.methodLink RX6 81 yX6_readHouse ∈ tblG := (t3 (i := 150) rfl rfl)
theorem kX6_123 : Cond.methodLink RX6 123 yX7_addHouse ∈ tblG := (t3 (i := 154) rfl rfl)
theorem kX7_85 : Cond.methodLink RX7 85 yX3_begin ∈ tblG := (t3 (i := 158) rfl rfl)
theorem kX6_127 : Cond.methodLink RX6 127 yX6_readNumbers ∈ tblG := (t3 (i := 162) rfl rfl)
theorem kX6_131 : Cond.methodLink RX6 131 yX6_readWhere ∈ tblG := (t3 (i := 166) rfl rfl)
theorem kX6_155 : Cond.methodLink RX6 155 yX7_homeNamed ∈ tblG := (t3 (i := 170) rfl rfl)
theorem kX6_135 : Cond.methodLink RX6 135 yX6_readWishes ∈ tblG := (t3 (i := 171) rfl rfl)
theorem kX6_166 : Cond.methodLink RX6 166 yX3_rankOfWish ∈ tblG := (t3 (i := 175) rfl rfl)
theorem kX6_173 : Cond.methodLink RX6 173 yX3_addWish ∈ tblG := (t3 (i := 179) rfl rfl)
theorem kX6_84 : Cond.methodLink RX6 84 yX6_readRule ∈ tblG := (t3 (i := 183) rfl rfl)
theorem kX6_180 : Cond.methodLink RX6 180 yX7_setRule ∈ tblG := (t3 (i := 194) rfl rfl)
theorem kX6_69 : Cond.methodLink RX6 69 yX6_readSign ∈ tblG := (t3 (i := 198) rfl rfl)
theorem kX10_84 : Cond.methodLink RX10 84 yX7_copy ∈ tblG := (t3 (i := 202) rfl rfl)
theorem kX7_71 : Cond.methodLink RX7 71 yX2_copy ∈ tblG := (t3 (i := 206) rfl rfl)
theorem kX7_75 : Cond.methodLink RX7 75 yX3_copy ∈ tblG := (t3 (i := 210) rfl rfl)
theorem kX7_78 : Cond.methodLink RX7 78 yX8_copy ∈ tblG := (t3 (i := 215) rfl rfl)
theorem kX8_26 : Cond.methodLink RX8 26 yJ9_min_7cf53 ∈ tblG := (t3 (i := 219) rfl rfl)
theorem kX10_94 : Cond.methodLink RX10 94 yX10_answer ∈ tblG := (t3 (i := 223) rfl rfl)
theorem kL_33 : Cond.methodLink RL 33 yX10_fault ∈ tblG := (t3 (i := 227) rfl rfl)
theorem kL_37 : Cond.methodLink RL 37 yX10_many ∈ tblG := (t3 (i := 231) rfl rfl)
theorem kX10_116 : Cond.methodLink RX10 116 yX7_countBids ∈ tblG := (t3 (i := 235) rfl rfl)
theorem kX7_116 : Cond.methodLink RX7 116 yX3_countBids ∈ tblG := (t3 (i := 239) rfl rfl)
theorem kX3_43 : Cond.methodLink RX3 43 yJ6_bitCount_0f7a4 ∈ tblG := (t4 (i := 3) rfl rfl)
theorem kX10_120 : Cond.methodLink RX10 120 yX7_countFree ∈ tblG := (t4 (i := 9) rfl rfl)
theorem kX7_95 : Cond.methodLink RX7 95 yX2_isFree ∈ tblG := (t4 (i := 13) rfl rfl)
theorem kX10_123 : Cond.methodLink RX10 123 yX7_countWaiting ∈ tblG := (t4 (i := 17) rfl rfl)
theorem kX7_106 : Cond.methodLink RX7 106 yX7_waiting ∈ tblG := (t4 (i := 21) rfl rfl)
theorem kX7_110 : Cond.methodLink RX7 110 yJ6_bitCount_0f7a4 ∈ tblG := (t4 (i := 25) rfl rfl)
theorem kL_41 : Cond.methodLink RL 41 yX10_home ∈ tblG := (t4 (i := 26) rfl rfl)
theorem kX10_132 : Cond.methodLink RX10 132 yX7_homeAt ∈ tblG := (t4 (i := 30) rfl rfl)
theorem kX10_147 : Cond.methodLink RX10 147 yX10_answerIfAny ∈ tblG := (t4 (i := 34) rfl rfl)
theorem kX10_150 : Cond.methodLink RX10 150 yX2_isFree ∈ tblG := (t4 (i := 38) rfl rfl)
theorem kX10_154 : Cond.methodLink RX10 154 yX10_answerFlag ∈ tblG := (t4 (i := 39) rfl rfl)
theorem kX10_158 : Cond.methodLink RX10 158 yX7_biddersFor ∈ tblG := (t4 (i := 43) rfl rfl)
theorem kX7_164 : Cond.methodLink RX7 164 yX3_bidsFor ∈ tblG := (t4 (i := 47) rfl rfl)
theorem kX7_167 : Cond.methodLink RX7 167 yX3_isAble ∈ tblG := (t4 (i := 51) rfl rfl)
theorem kX10_162 : Cond.methodLink RX10 162 yJ6_bitCount_0f7a4 ∈ tblG := (t4 (i := 55) rfl rfl)
theorem kL_46 : Cond.methodLink RL 46 yX10_house ∈ tblG := (t4 (i := 56) rfl rfl)
theorem kX10_176 : Cond.methodLink RX10 176 yX7_houseAt ∈ tblG := (t4 (i := 60) rfl rfl)
theorem kX10_185 : Cond.methodLink RX10 185 yX7_bandNow ∈ tblG := (t4 (i := 64) rfl rfl)
theorem kX7_157 : Cond.methodLink RX7 157 yX7_waited ∈ tblG := (t4 (i := 68) rfl rfl)
theorem kX7_126 : Cond.methodLink RX7 126 yJ9_max_7cf53 ∈ tblG := (t4 (i := 72) rfl rfl)
theorem kX10_208 : Cond.methodLink RX10 208 yX3_countBids ∈ tblG := (t4 (i := 75) rfl rfl)
theorem kX10_215 : Cond.methodLink RX10 215 yX3_wishAt ∈ tblG := (t4 (i := 76) rfl rfl)
theorem kL_50 : Cond.methodLink RL 50 yX10_rule ∈ tblG := (t4 (i := 80) rfl rfl)
theorem kX10_218 : Cond.methodLink RX10 218 yX7_ruleAt ∈ tblG := (t4 (i := 84) rfl rfl)
theorem kL_54 : Cond.methodLink RL 54 yX10_why ∈ tblG := (t4 (i := 88) rfl rfl)
theorem kX10_221 : Cond.methodLink RX10 221 yX7_whyNot ∈ tblG := (t4 (i := 92) rfl rfl)
theorem kX7_150 : Cond.methodLink RX7 150 yX3_suits ∈ tblG := (t4 (i := 96) rfl rfl)
theorem kL_58 : Cond.methodLink RL 58 yX10_bids ∈ tblG := (t4 (i := 100) rfl rfl)
theorem kX10_225 : Cond.methodLink RX10 225 yX3_bidsFor ∈ tblG := (t4 (i := 104) rfl rfl)
theorem kL_62 : Cond.methodLink RL 62 yX10_order ∈ tblG := (t4 (i := 105) rfl rfl)
theorem kX10_229 : Cond.methodLink RX10 229 yX7_kthOf ∈ tblG := (t4 (i := 109) rfl rfl)
theorem kX7_189 : Cond.methodLink RX7 189 yX7_turnsAt ∈ tblG := (t4 (i := 113) rfl rfl)
theorem kX7_173 : Cond.methodLink RX7 173 yX8_countWith ∈ tblG := (t4 (i := 117) rfl rfl)
theorem kX8_22 : Cond.methodLink RX8 22 yX8_at ∈ tblG := (t4 (i := 121) rfl rfl)
theorem kX7_193 : Cond.methodLink RX7 193 yX7_firstOf ∈ tblG := (t4 (i := 125) rfl rfl)
theorem kX7_182 : Cond.methodLink RX7 182 yX7_bandNow ∈ tblG := (t4 (i := 129) rfl rfl)
theorem kX7_185 : Cond.methodLink RX7 185 yX7_rank ∈ tblG := (t4 (i := 130) rfl rfl)
theorem kX10_233 : Cond.methodLink RX10 233 yX10_answerNumber ∈ tblG := (t4 (i := 134) rfl rfl)
theorem kL_66 : Cond.methodLink RL 66 yX10_ahead ∈ tblG := (t4 (i := 138) rfl rfl)
theorem kX10_236 : Cond.methodLink RX10 236 yX3_isAble ∈ tblG := (t4 (i := 142) rfl rfl)
theorem kX10_239 : Cond.methodLink RX10 239 yX3_suits ∈ tblG := (t4 (i := 143) rfl rfl)
theorem kX10_242 : Cond.methodLink RX10 242 yX7_ableFor ∈ tblG := (t4 (i := 144) rfl rfl)
theorem kX10_245 : Cond.methodLink RX10 245 yX7_countAhead ∈ tblG := (t4 (i := 148) rfl rfl)
theorem kL_70 : Cond.methodLink RL 70 yX10_turn ∈ tblG := (t4 (i := 152) rfl rfl)
theorem kX10_249 : Cond.methodLink RX10 249 yX7_turnsAt ∈ tblG := (t4 (i := 156) rfl rfl)
theorem kL_74 : Cond.methodLink RL 74 yX10_let ∈ tblG := (t4 (i := 157) rfl rfl)
theorem kX10_252 : Cond.methodLink RX10 252 yX8_at ∈ tblG := (t4 (i := 161) rfl rfl)
theorem kL_78 : Cond.methodLink RL 78 yX10_offer ∈ tblG := (t4 (i := 162) rfl rfl)
theorem kL_82 : Cond.methodLink RL 82 yX10_tally ∈ tblG := (t4 (i := 166) rfl rfl)
theorem kX10_256 : Cond.methodLink RX10 256 yX7_greatestChain ∈ tblG := (t4 (i := 170) rfl rfl)
theorem kX7_122 : Cond.methodLink RX7 122 yX8_at ∈ tblG := (t4 (i := 174) rfl rfl)
theorem kX10_259 : Cond.methodLink RX10 259 yX8_countWith ∈ tblG := (t4 (i := 175) rfl rfl)
theorem kX10_262 : Cond.methodLink RX10 262 yX7_countPassed ∈ tblG := (t4 (i := 176) rfl rfl)
theorem kL_86 : Cond.methodLink RL 86 yX10_lack ∈ tblG := (t4 (i := 180) rfl rfl)
theorem kX10_265 : Cond.methodLink RX10 265 yX7_lackOf ∈ tblG := (t4 (i := 184) rfl rfl)
theorem kL_90 : Cond.methodLink RL 90 yX10_weeks ∈ tblG := (t4 (i := 188) rfl rfl)
theorem kX10_268 : Cond.methodLink RX10 268 yX7_runAhead ∈ tblG := (t4 (i := 192) rfl rfl)
theorem kX7_238 : Cond.methodLink RX7 238 yX7_bidAsTheyWould ∈ tblG := (t4 (i := 196) rfl rfl)
theorem kX7_216 : Cond.methodLink RX7 216 yX7_bidAsItWould ∈ tblG := (t4 (i := 200) rfl rfl)
theorem kX7_219 : Cond.methodLink RX7 219 yX7_countLiked ∈ tblG := (t4 (i := 204) rfl rfl)
theorem kX7_222 : Cond.methodLink RX7 222 yX7_liked ∈ tblG := (t4 (i := 208) rfl rfl)
theorem kX7_209 : Cond.methodLink RX7 209 yX3_wishAt ∈ tblG := (t4 (i := 212) rfl rfl)
theorem kX7_212 : Cond.methodLink RX7 212 yX7_homeAt ∈ tblG := (t4 (i := 213) rfl rfl)
theorem kX7_226 : Cond.methodLink RX7 226 yX7_whyNot ∈ tblG := (t4 (i := 214) rfl rfl)
theorem kX7_241 : Cond.methodLink RX7 241 yX7_endWeek ∈ tblG := (t4 (i := 215) rfl rfl)
theorem kX7_244 : Cond.methodLink RX7 244 yX7_offerRound ∈ tblG := (t4 (i := 219) rfl rfl)
theorem kX7_197 : Cond.methodLink RX7 197 yX7_biddersFor ∈ tblG := (t4 (i := 223) rfl rfl)
theorem kX7_146 : Cond.methodLink RX7 146 yX3_wouldTake ∈ tblG := (t4 (i := 224) rfl rfl)
theorem kX3_54 : Cond.methodLink RX3 54 yX3_rankOfWish ∈ tblG := (t4 (i := 228) rfl rfl)
theorem kX7_253 : Cond.methodLink RX7 253 yX7_noteOffer ∈ tblG := (t4 (i := 229) rfl rfl)
theorem kX7_264 : Cond.methodLink RX7 264 yX8_addRow ∈ tblG := (t4 (i := 233) rfl rfl)
theorem kX7_267 : Cond.methodLink RX7 267 yX8_set ∈ tblG := (t4 (i := 237) rfl rfl)
theorem kX7_257 : Cond.methodLink RX7 257 yX7_takeHome ∈ tblG := (t5 (i := 1) rfl rfl)
theorem kX7_272 : Cond.methodLink RX7 272 yX7_noteLet ∈ tblG := (t5 (i := 5) rfl rfl)
theorem kX7_279 : Cond.methodLink RX7 279 yX7_vacate ∈ tblG := (t5 (i := 9) rfl rfl)
theorem kX7_261 : Cond.methodLink RX7 261 yX7_refuseHome ∈ tblG := (t5 (i := 13) rfl rfl)
theorem kX7_250 : Cond.methodLink RX7 250 yX7_beginNextWeek ∈ tblG := (t5 (i := 17) rfl rfl)
theorem kL_94 : Cond.methodLink RL 94 yX10_when ∈ tblG := (t5 (i := 21) rfl rfl)
theorem kX10_271 : Cond.methodLink RX10 271 yX8_find ∈ tblG := (t5 (i := 25) rfl rfl)
theorem kL_99 : Cond.methodLink RL 99 yX10_tip ∈ tblG := (t5 (i := 29) rfl rfl)
theorem kX10_274 : Cond.methodLink RX10 274 yX7_bestTip ∈ tblG := (t5 (i := 33) rfl rfl)
theorem kX7_200 : Cond.methodLink RX7 200 yX7_countAhead ∈ tblG := (t5 (i := 37) rfl rfl)
theorem kL_103 : Cond.methodLink RL 103 yX10_would ∈ tblG := (t5 (i := 38) rfl rfl)
theorem kX10_277 : Cond.methodLink RX10 277 yX7_bidAlone ∈ tblG := (t5 (i := 42) rfl rfl)
theorem kX7_233 : Cond.methodLink RX7 233 yX7_houseAt ∈ tblG := (t5 (i := 46) rfl rfl)
theorem kX10_281 : Cond.methodLink RX10 281 yX7_endWeek ∈ tblG := (t5 (i := 47) rfl rfl)
theorem kL_107 : Cond.methodLink RL 107 yX10_top ∈ tblG := (t5 (i := 48) rfl rfl)
theorem kX10_284 : Cond.methodLink RX10 284 yX7_takersOf ∈ tblG := (t5 (i := 52) rfl rfl)
theorem kX7_170 : Cond.methodLink RX7 170 yX3_couldBeGiven ∈ tblG := (t5 (i := 56) rfl rfl)
theorem kX3_57 : Cond.methodLink RX3 57 yX3_isAble ∈ tblG := (t5 (i := 60) rfl rfl)
theorem kX3_61 : Cond.methodLink RX3 61 yX3_suits ∈ tblG := (t5 (i := 61) rfl rfl)
theorem kX3_65 : Cond.methodLink RX3 65 yX3_wouldTake ∈ tblG := (t5 (i := 62) rfl rfl)
theorem kL_111 : Cond.methodLink RL 111 yX10_lot ∈ tblG := (t5 (i := 63) rfl rfl)
theorem kX10_289 : Cond.methodLink RX10 289 yX7_drawn ∈ tblG := (t5 (i := 69) rfl rfl)
theorem kX7_291 : Cond.methodLink RX7 291 yX7_takersOf ∈ tblG := (t5 (i := 73) rfl rfl)
theorem kX7_294 : Cond.methodLink RX7 294 yX7_lotsOf ∈ tblG := (t5 (i := 74) rfl rfl)
theorem kL_115 : Cond.methodLink RL 115 yX10_fits ∈ tblG := (t5 (i := 78) rfl rfl)
theorem kX10_293 : Cond.methodLink RX10 293 yX7_homesThatFit ∈ tblG := (t5 (i := 82) rfl rfl)
theorem kL_119 : Cond.methodLink RL 119 yX10_ward ∈ tblG := (t5 (i := 86) rfl rfl)
theorem kX10_297 : Cond.methodLink RX10 297 yX7_shortestWard ∈ tblG := (t5 (i := 90) rfl rfl)
theorem kX7_143 : Cond.methodLink RX7 143 yX7_wantOf ∈ tblG := (t5 (i := 94) rfl rfl)
theorem kX10_300 : Cond.methodLink RX10 300 yX7_wantOf ∈ tblG := (t5 (i := 98) rfl rfl)
theorem kL_124 : Cond.methodLink RL 124 yX10_envy ∈ tblG := (t5 (i := 99) rfl rfl)
theorem kX10_303 : Cond.methodLink RX10 303 yX7_countEnvy ∈ tblG := (t5 (i := 103) rfl rfl)
theorem kX7_300 : Cond.methodLink RX7 300 yX7_envyEachOther ∈ tblG := (t5 (i := 107) rfl rfl)
theorem kX7_297 : Cond.methodLink RX7 297 yX3_wouldRather ∈ tblG := (t5 (i := 111) rfl rfl)
theorem kX10_306 : Cond.methodLink RX10 306 yX7_firstEnvious ∈ tblG := (t5 (i := 115) rfl rfl)
theorem kX7_304 : Cond.methodLink RX7 304 yX7_envyPartner ∈ tblG := (t5 (i := 119) rfl rfl)
theorem kX10_310 : Cond.methodLink RX10 310 yX7_envyPartner ∈ tblG := (t5 (i := 123) rfl rfl)
theorem kL_128 : Cond.methodLink RL 128 yX10_lever ∈ tblG := (t5 (i := 124) rfl rfl)
theorem kX10_314 : Cond.methodLink RX10 314 yX10_canBeTold ∈ tblG := (t5 (i := 128) rfl rfl)
theorem kX10_318 : Cond.methodLink RX10 318 yX10_letsAhead ∈ tblG := (t5 (i := 129) rfl rfl)
theorem kX10_387 : Cond.methodLink RX10 387 yX7_setRule ∈ tblG := (t5 (i := 133) rfl rfl)
theorem kL_132 : Cond.methodLink RL 132 yX10_queue ∈ tblG := (t5 (i := 134) rfl rfl)
theorem kX10_322 : Cond.methodLink RX10 322 yX7_waiting ∈ tblG := (t5 (i := 138) rfl rfl)
theorem kL_136 : Cond.methodLink RL 136 yX10_most ∈ tblG := (t5 (i := 139) rfl rfl)
theorem kX10_325 : Cond.methodLink RX10 325 yX4_look ∈ tblG := (t5 (i := 143) rfl rfl)
theorem kX4_29 : Cond.methodLink RX4 29 yX3_isAble ∈ tblG := (t5 (i := 147) rfl rfl)
theorem kX4_35 : Cond.methodLink RX4 35 yX7_homesThatFit ∈ tblG := (t5 (i := 148) rfl rfl)
theorem kX10_328 : Cond.methodLink RX10 328 yX4_largest ∈ tblG := (t5 (i := 149) rfl rfl)
theorem kX4_42 : Cond.methodLink RX4 42 yX4_place ∈ tblG := (t5 (i := 153) rfl rfl)
theorem kL_140 : Cond.methodLink RL 140 yX10_gift ∈ tblG := (t5 (i := 156) rfl rfl)
theorem kX10_331 : Cond.methodLink RX10 331 yX4_giftOf ∈ tblG := (t5 (i := 160) rfl rfl)
theorem kX4_46 : Cond.methodLink RX4 46 yX4_largest ∈ tblG := (t5 (i := 164) rfl rfl)
theorem kX4_50 : Cond.methodLink RX4 50 yX4_leastGift ∈ tblG := (t5 (i := 165) rfl rfl)
theorem kL_144 : Cond.methodLink RL 144 yX10_trade ∈ tblG := (t5 (i := 169) rfl rfl)
theorem kX10_334 : Cond.methodLink RX10 334 yX9_work ∈ tblG := (t5 (i := 173) rfl rfl)
theorem kX9_45 : Cond.methodLink RX9 45 yX9_lookRound ∈ tblG := (t5 (i := 177) rfl rfl)
theorem kX9_57 : Cond.methodLink RX9 57 yX9_isIn ∈ tblG := (t5 (i := 181) rfl rfl)
theorem kX9_61 : Cond.methodLink RX9 61 yX9_lookOfOne ∈ tblG := (t5 (i := 185) rfl rfl)
theorem kX9_68 : Cond.methodLink RX9 68 yX3_wishAt ∈ tblG := (t5 (i := 189) rfl rfl)
theorem kX9_72 : Cond.methodLink RX9 72 yX7_homeAt ∈ tblG := (t5 (i := 190) rfl rfl)
theorem kX9_76 : Cond.methodLink RX9 76 yX3_suits ∈ tblG := (t5 (i := 191) rfl rfl)
theorem kX9_49 : Cond.methodLink RX9 49 yX9_someoneInCircle ∈ tblG := (t5 (i := 192) rfl rfl)
theorem kX9_88 : Cond.methodLink RX9 88 yJ6_numberOfTrailingZeros_0f7a4 ∈ tblG := (t5 (i := 196) rfl rfl)
theorem kX9_93 : Cond.methodLink RX9 93 yX9_lookOf ∈ tblG := (t5 (i := 200) rfl rfl)
theorem kX9_53 : Cond.methodLink RX9 53 yX9_tradeCircle ∈ tblG := (t5 (i := 204) rfl rfl)
theorem kX9_96 : Cond.methodLink RX9 96 yX7_houseAt ∈ tblG := (t5 (i := 208) rfl rfl)
theorem kX9_100 : Cond.methodLink RX9 100 yJ9_max_7cf53 ∈ tblG := (t5 (i := 209) rfl rfl)
theorem kX10_337 : Cond.methodLink RX10 337 yX9_gotBy ∈ tblG := (t5 (i := 210) rfl rfl)
theorem kL_148 : Cond.methodLink RL 148 yX10_trades ∈ tblG := (t5 (i := 214) rfl rfl)
theorem kL_152 : Cond.methodLink RL 152 yX10_longest ∈ tblG := (t5 (i := 218) rfl rfl)
theorem kX10_349 : Cond.methodLink RX10 349 yX0_work ∈ tblG := (t5 (i := 222) rfl rfl)
theorem kX0_31 : Cond.methodLink RX0 31 yX0_look ∈ tblG := (t5 (i := 226) rfl rfl)
theorem kX0_69 : Cond.methodLink RX0 69 yX3_isAble ∈ tblG := (t5 (i := 230) rfl rfl)
theorem kX0_74 : Cond.methodLink RX0 74 yX7_homesThatFit ∈ tblG := (t5 (i := 231) rfl rfl)
theorem kX0_35 : Cond.methodLink RX0 35 yX0_fillFollow ∈ tblG := (t5 (i := 232) rfl rfl)
theorem kX0_53 : Cond.methodLink RX0 53 yX0_longestFrom ∈ tblG := (t5 (i := 236) rfl rfl)
theorem kX0_81 : Cond.methodLink RX0 81 yX0_movesBy ∈ tblG := (t6 (i := 0) rfl rfl)
theorem kX0_85 : Cond.methodLink RX0 85 yJ9_max_7cf53 ∈ tblG := (t6 (i := 4) rfl rfl)
theorem kX0_47 : Cond.methodLink RX0 47 yX2_isFree ∈ tblG := (t6 (i := 5) rfl rfl)
theorem kX0_57 : Cond.methodLink RX0 57 yX0_noteRow ∈ tblG := (t6 (i := 6) rfl rfl)
theorem kX0_90 : Cond.methodLink RX0 90 yX0_moverFor ∈ tblG := (t6 (i := 10) rfl rfl)
theorem kX10_351 : Cond.methodLink RX10 351 yX0_homeAt ∈ tblG := (t6 (i := 14) rfl rfl)
theorem kX10_353 : Cond.methodLink RX10 353 yX0_houseAt ∈ tblG := (t6 (i := 18) rfl rfl)
theorem kL_157 : Cond.methodLink RL 157 yX10_gap ∈ tblG := (t6 (i := 22) rfl rfl)
theorem kX10_355 : Cond.methodLink RX10 355 yX7_bandsToBeFirst ∈ tblG := (t6 (i := 26) rfl rfl)
theorem kL_161 : Cond.methodLink RL 161 yX10_bid ∈ tblG := (t6 (i := 30) rfl rfl)
theorem kX10_358 : Cond.methodLink RX10 358 yX1_keep ∈ tblG := (t6 (i := 34) rfl rfl)
theorem kX1_25 : Cond.methodLink RX1 25 yX7_copy ∈ tblG := (t6 (i := 38) rfl rfl)
theorem kX1_29 : Cond.methodLink RX1 29 yJ9_min_7cf53 ∈ tblG := (t6 (i := 39) rfl rfl)
theorem kL_165 : Cond.methodLink RL 165 yX10_unbid ∈ tblG := (t6 (i := 40) rfl rfl)
theorem kL_169 : Cond.methodLink RL 169 yX10_auto ∈ tblG := (t6 (i := 44) rfl rfl)
theorem kX10_367 : Cond.methodLink RX10 367 yX7_bidAsTheyWould ∈ tblG := (t6 (i := 48) rfl rfl)
theorem kL_173 : Cond.methodLink RL 173 yX10_week ∈ tblG := (t6 (i := 49) rfl rfl)
theorem kL_177 : Cond.methodLink RL 177 yX10_wish ∈ tblG := (t6 (i := 53) rfl rfl)
theorem kX10_370 : Cond.methodLink RX10 370 yX3_rankOfWish ∈ tblG := (t6 (i := 57) rfl rfl)
theorem kX10_373 : Cond.methodLink RX10 373 yX3_addWish ∈ tblG := (t6 (i := 58) rfl rfl)
theorem kL_181 : Cond.methodLink RL 181 yX10_unwish ∈ tblG := (t6 (i := 59) rfl rfl)
theorem kX10_376 : Cond.methodLink RX10 376 yX3_dropWish ∈ tblG := (t6 (i := 63) rfl rfl)
theorem kL_185 : Cond.methodLink RL 185 yX10_leave ∈ tblG := (t6 (i := 67) rfl rfl)
theorem kX10_379 : Cond.methodLink RX10 379 yX7_vacate ∈ tblG := (t6 (i := 71) rfl rfl)
theorem kL_189 : Cond.methodLink RL 189 yX10_shut ∈ tblG := (t6 (i := 72) rfl rfl)
theorem kX10_383 : Cond.methodLink RX10 383 yX7_dropBidsFor ∈ tblG := (t6 (i := 76) rfl rfl)
theorem kL_193 : Cond.methodLink RL 193 yX10_need ∈ tblG := (t6 (i := 80) rfl rfl)
theorem kL_197 : Cond.methodLink RL 197 yX10_rules ∈ tblG := (t6 (i := 84) rfl rfl)
theorem kL_201 : Cond.methodLink RL 201 yX10_undo ∈ tblG := (t6 (i := 88) rfl rfl)
theorem kX10_391 : Cond.methodLink RX10 391 yX1_goBack ∈ tblG := (t6 (i := 92) rfl rfl)
theorem kL_205 : Cond.methodLink RL 205 yX10_print ∈ tblG := (t6 (i := 96) rfl rfl)
theorem kX10_394 : Cond.methodLink RX10 394 yX5_write ∈ tblG := (t6 (i := 100) rfl rfl)
theorem kX5_21 : Cond.methodLink RX5 21 yX5_putText ∈ tblG := (t6 (i := 105) rfl rfl)
theorem kX5_133 : Cond.methodLink RX5 133 yJ0_length_8abf5 ∈ tblG := (t6 (i := 109) rfl rfl)
theorem kX5_138 : Cond.methodLink RX5 138 yJ0_charAt_5068e ∈ tblG := (t6 (i := 110) rfl rfl)
theorem kX5_25 : Cond.methodLink RX5 25 yX5_put ∈ tblG := (t6 (i := 111) rfl rfl)
theorem kX5_35 : Cond.methodLink RX5 35 yX7_ruleAt ∈ tblG := (t6 (i := 116) rfl rfl)
theorem kX5_41 : Cond.methodLink RX5 41 yX5_putNumber ∈ tblG := (t6 (i := 117) rfl rfl)
theorem kX5_51 : Cond.methodLink RX5 51 yX5_isTold ∈ tblG := (t6 (i := 121) rfl rfl)
theorem kX5_126 : Cond.methodLink RX5 126 yX7_houseAt ∈ tblG := (t6 (i := 124) rfl rfl)
theorem kX5_55 : Cond.methodLink RX5 55 yX5_writeHome ∈ tblG := (t6 (i := 125) rfl rfl)
theorem kX5_84 : Cond.methodLink RX5 84 yX5_putName ∈ tblG := (t6 (i := 130) rfl rfl)
theorem kX5_72 : Cond.methodLink RX5 72 yX5_writeHouse ∈ tblG := (t6 (i := 134) rfl rfl)
theorem kX5_111 : Cond.methodLink RX5 111 yX7_homeAt ∈ tblG := (t6 (i := 139) rfl rfl)
theorem kX5_120 : Cond.methodLink RX5 120 yX3_wishAt ∈ tblG := (t6 (i := 141) rfl rfl)
theorem kL_209 : Cond.methodLink RL 209 yL_out ∈ tblG := (t6 (i := 142) rfl rfl)
theorem kL_7 : Cond.methodLink RL 7 yX10_out ∈ tblG := (t6 (i := 146) rfl rfl)
theorem kX10_405 : Cond.methodLink RX10 405 yX5_byteAt ∈ tblG := (t6 (i := 215) rfl rfl)
theorem kL_18 : Cond.methodLink RL 18 yX11_init ∈ tblG := (t6 (i := 221) rfl rfl)
theorem kX11_61 : Cond.methodLink RX11 61 yX11_plain ∈ tblG := (t6 (i := 225) rfl rfl)
theorem kL_215 : Cond.methodLink RL 215 yX11_thrown ∈ tblG := (t7 (i := 87) rfl rfl)
theorem kL_23 : Cond.methodLink RL 23 yX11_status ∈ tblG := (t7 (i := 91) rfl rfl)
theorem kL_28 : Cond.methodLink RL 28 yX11_feed ∈ tblG := (t7 (i := 95) rfl rfl)
theorem kX11_82 : Cond.methodLink RX11 82 yX11_come ∈ tblG := (t7 (i := 99) rfl rfl)
theorem kL_32 : Cond.methodLink RL 32 yX11_load ∈ tblG := (t7 (i := 103) rfl rfl)
theorem kX11_71 : Cond.methodLink RX11 71 yX11_isFrom ∈ tblG := (t7 (i := 107) rfl rfl)
theorem kX11_186 : Cond.methodLink RX11 186 yX11_refuse ∈ tblG := (t7 (i := 110) rfl rfl)
theorem kX11_142 : Cond.methodLink RX11 142 yX11_go ∈ tblG := (t7 (i := 114) rfl rfl)
theorem kX11_92 : Cond.methodLink RX11 92 yX11_byteAt ∈ tblG := (t7 (i := 118) rfl rfl)
theorem kX11_102 : Cond.methodLink RX11 102 yX11_isLetter ∈ tblG := (t7 (i := 122) rfl rfl)
theorem kX11_112 : Cond.methodLink RX11 112 yX11_isDigit ∈ tblG := (t7 (i := 126) rfl rfl)
theorem kX11_189 : Cond.methodLink RX11 189 yX11_readLine ∈ tblG := (t7 (i := 129) rfl rfl)
theorem kX11_130 : Cond.methodLink RX11 130 yX11_isWord ∈ tblG := (t7 (i := 133) rfl rfl)
theorem kX11_126 : Cond.methodLink RX11 126 yX11_wordOf ∈ tblG := (t7 (i := 137) rfl rfl)
theorem kX11_122 : Cond.methodLink RX11 122 yX11_spelt ∈ tblG := (t7 (i := 140) rfl rfl)
theorem kX11_118 : Cond.methodLink RX11 118 yX11_joined ∈ tblG := (t7 (i := 143) rfl rfl)
theorem kX11_177 : Cond.methodLink RX11 177 yX11_readHome ∈ tblG := (t7 (i := 146) rfl rfl)
theorem kX11_139 : Cond.methodLink RX11 139 yX11_bad ∈ tblG := (t7 (i := 150) rfl rfl)
theorem kX11_156 : Cond.methodLink RX11 156 yX11_readName ∈ tblG := (t7 (i := 154) rfl rfl)
theorem kX11_149 : Cond.methodLink RX11 149 yX11_isName ∈ tblG := (t7 (i := 158) rfl rfl)
theorem kX11_153 : Cond.methodLink RX11 153 yX11_isTaken ∈ tblG := (t7 (i := 162) rfl rfl)
theorem kX11_145 : Cond.methodLink RX11 145 yX11_homeHere ∈ tblG := (t7 (i := 166) rfl rfl)
theorem kX11_159 : Cond.methodLink RX11 159 yX11_readNumber ∈ tblG := (t7 (i := 170) rfl rfl)
theorem kX11_162 : Cond.methodLink RX11 162 yX11_readEnd ∈ tblG := (t7 (i := 174) rfl rfl)
theorem kX11_180 : Cond.methodLink RX11 180 yX11_readHouse ∈ tblG := (t7 (i := 178) rfl rfl)
theorem kX11_75 : Cond.methodLink RX11 75 yX11_at ∈ tblG := (t7 (i := 182) rfl rfl)
theorem kX11_165 : Cond.methodLink RX11 165 yX11_readIn ∈ tblG := (t7 (i := 185) rfl rfl)
theorem kX11_168 : Cond.methodLink RX11 168 yX11_readWish ∈ tblG := (t7 (i := 189) rfl rfl)
theorem kX11_183 : Cond.methodLink RX11 183 yX11_readRule ∈ tblG := (t7 (i := 193) rfl rfl)
theorem kX11_171 : Cond.methodLink RX11 171 yX11_leastOf ∈ tblG := (t7 (i := 197) rfl rfl)
theorem kX11_174 : Cond.methodLink RX11 174 yX11_mostOf ∈ tblG := (t7 (i := 200) rfl rfl)
theorem kX11_192 : Cond.methodLink RX11 192 yX11_copies ∈ tblG := (t7 (i := 203) rfl rfl)
theorem kX11_199 : Cond.methodLink RX11 199 yX11_gives ∈ tblG := (t7 (i := 206) rfl rfl)
theorem kL_36 : Cond.methodLink RL 36 yX11_fault ∈ tblG := (t7 (i := 210) rfl rfl)
theorem kL_40 : Cond.methodLink RL 40 yX11_many ∈ tblG := (t7 (i := 214) rfl rfl)
theorem kX11_225 : Cond.methodLink RX11 225 yX11_allBids ∈ tblG := (t7 (i := 218) rfl rfl)
theorem kX11_205 : Cond.methodLink RX11 205 yX11_of ∈ tblG := (t7 (i := 222) rfl rfl)
theorem kX11_222 : Cond.methodLink RX11 222 yX11_bits ∈ tblG := (t7 (i := 226) rfl rfl)
theorem kX11_228 : Cond.methodLink RX11 228 yX11_freeOnes ∈ tblG := (t7 (i := 229) rfl rfl)
theorem kX11_219 : Cond.methodLink RX11 219 yX11_isFree ∈ tblG := (t7 (i := 233) rfl rfl)
theorem kX11_202 : Cond.methodLink RX11 202 yX11_home0 ∈ tblG := (t7 (i := 237) rfl rfl)
theorem kX11_231 : Cond.methodLink RX11 231 yX11_inOnes ∈ tblG := (t8 (i := 1) rfl rfl)
theorem kX11_208 : Cond.methodLink RX11 208 yX11_isIn ∈ tblG := (t8 (i := 5) rfl rfl)
theorem kL_45 : Cond.methodLink RL 45 yX11_home ∈ tblG := (t8 (i := 9) rfl rfl)
theorem kX11_238 : Cond.methodLink RX11 238 yX11_isHome ∈ tblG := (t8 (i := 13) rfl rfl)
theorem kX11_241 : Cond.methodLink RX11 241 yX11_bidders ∈ tblG := (t8 (i := 17) rfl rfl)
theorem kX11_234 : Cond.methodLink RX11 234 yX11_isBid ∈ tblG := (t8 (i := 21) rfl rfl)
theorem kL_49 : Cond.methodLink RL 49 yX11_house ∈ tblG := (t8 (i := 25) rfl rfl)
theorem kX11_244 : Cond.methodLink RX11 244 yX11_isHouse ∈ tblG := (t8 (i := 29) rfl rfl)
theorem kX11_247 : Cond.methodLink RX11 247 yX11_bandNow ∈ tblG := (t8 (i := 33) rfl rfl)
theorem kX11_211 : Cond.methodLink RX11 211 yJ9_max_7cf53 ∈ tblG := (t8 (i := 37) rfl rfl)
theorem kL_53 : Cond.methodLink RL 53 yX11_rule ∈ tblG := (t8 (i := 38) rfl rfl)
theorem kL_57 : Cond.methodLink RL 57 yX11_why ∈ tblG := (t8 (i := 42) rfl rfl)
theorem kX11_253 : Cond.methodLink RX11 253 yX11_areOnes ∈ tblG := (t8 (i := 46) rfl rfl)
theorem kX11_256 : Cond.methodLink RX11 256 yX11_whyNot ∈ tblG := (t8 (i := 50) rfl rfl)
theorem kX11_250 : Cond.methodLink RX11 250 yX11_doesFit ∈ tblG := (t8 (i := 54) rfl rfl)
theorem kL_61 : Cond.methodLink RL 61 yX11_bids ∈ tblG := (t8 (i := 58) rfl rfl)
theorem kL_65 : Cond.methodLink RL 65 yX11_order ∈ tblG := (t8 (i := 62) rfl rfl)
theorem kX11_277 : Cond.methodLink RX11 277 yX11_biddersOf ∈ tblG := (t8 (i := 66) rfl rfl)
theorem kX11_280 : Cond.methodLink RX11 280 yX11_firstOf ∈ tblG := (t8 (i := 70) rfl rfl)
theorem kX11_275 : Cond.methodLink RX11 275 yX11_weight_ ∈ tblG := (t8 (i := 74) rfl rfl)
theorem kX11_271 : Cond.methodLink RX11 271 yX11_weight ∈ tblG := (t8 (i := 78) rfl rfl)
theorem kX11_265 : Cond.methodLink RX11 265 yX11_isLocal ∈ tblG := (t8 (i := 82) rfl rfl)
theorem kX11_259 : Cond.methodLink RX11 259 yX11_let0 ∈ tblG := (t8 (i := 86) rfl rfl)
theorem kX11_268 : Cond.methodLink RX11 268 yX11_isQuota ∈ tblG := (t8 (i := 90) rfl rfl)
theorem kX11_262 : Cond.methodLink RX11 262 yX11_livedLets ∈ tblG := (t8 (i := 94) rfl rfl)
theorem kL_69 : Cond.methodLink RL 69 yX11_ahead ∈ tblG := (t8 (i := 98) rfl rfl)
theorem kX11_283 : Cond.methodLink RX11 283 yX11_mayHope ∈ tblG := (t8 (i := 102) rfl rfl)
theorem kX11_286 : Cond.methodLink RX11 286 yX11_aheadOf ∈ tblG := (t8 (i := 106) rfl rfl)
theorem kL_73 : Cond.methodLink RL 73 yX11_turn ∈ tblG := (t8 (i := 110) rfl rfl)
theorem kL_160 : Cond.methodLink RL 160 yX11_gap ∈ tblG := (t8 (i := 114) rfl rfl)
theorem kL_77 : Cond.methodLink RL 77 yX11_let ∈ tblG := (t8 (i := 118) rfl rfl)
theorem kL_81 : Cond.methodLink RL 81 yX11_offer ∈ tblG := (t8 (i := 122) rfl rfl)
theorem kL_85 : Cond.methodLink RL 85 yX11_tally ∈ tblG := (t8 (i := 126) rfl rfl)
theorem kX11_319 : Cond.methodLink RX11 319 yX11_greatestChain ∈ tblG := (t8 (i := 130) rfl rfl)
theorem kX11_322 : Cond.methodLink RX11 322 yX11_allPassed ∈ tblG := (t8 (i := 134) rfl rfl)
theorem kL_89 : Cond.methodLink RL 89 yX11_lack ∈ tblG := (t8 (i := 138) rfl rfl)
theorem kL_93 : Cond.methodLink RL 93 yX11_weeks ∈ tblG := (t8 (i := 142) rfl rfl)
theorem kX11_331 : Cond.methodLink RX11 331 yX11_oneMore ∈ tblG := (t8 (i := 146) rfl rfl)
theorem kX11_325 : Cond.methodLink RX11 325 yX11_allBid ∈ tblG := (t8 (i := 150) rfl rfl)
theorem kX11_316 : Cond.methodLink RX11 316 yX11_bidsBy ∈ tblG := (t8 (i := 154) rfl rfl)
theorem kX11_289 : Cond.methodLink RX11 289 yX11_puts ∈ tblG := (t8 (i := 158) rfl rfl)
theorem kX11_328 : Cond.methodLink RX11 328 yX11_weekEnds ∈ tblG := (t8 (i := 162) rfl rfl)
theorem kX11_313 : Cond.methodLink RX11 313 yX11_lets ∈ tblG := (t8 (i := 166) rfl rfl)
theorem kX11_300 : Cond.methodLink RX11 300 yX11_wouldTake ∈ tblG := (t8 (i := 170) rfl rfl)
theorem kX11_216 : Cond.methodLink RX11 216 yX11_wishOf ∈ tblG := (t8 (i := 174) rfl rfl)
theorem kX11_303 : Cond.methodLink RX11 303 yX11_offered ∈ tblG := (t8 (i := 178) rfl rfl)
theorem kX11_307 : Cond.methodLink RX11 307 yX11_takes ∈ tblG := (t8 (i := 182) rfl rfl)
theorem kX11_293 : Cond.methodLink RX11 293 yX11_putsHome ∈ tblG := (t8 (i := 186) rfl rfl)
theorem kX11_296 : Cond.methodLink RX11 296 yX11_leaves ∈ tblG := (t8 (i := 190) rfl rfl)
theorem kX11_310 : Cond.methodLink RX11 310 yX11_refuses ∈ tblG := (t8 (i := 194) rfl rfl)
theorem kL_98 : Cond.methodLink RL 98 yX11_when ∈ tblG := (t8 (i := 198) rfl rfl)
theorem kL_102 : Cond.methodLink RL 102 yX11_tip ∈ tblG := (t8 (i := 202) rfl rfl)
theorem kL_106 : Cond.methodLink RL 106 yX11_would ∈ tblG := (t8 (i := 206) rfl rfl)
theorem kL_135 : Cond.methodLink RL 135 yX11_queue ∈ tblG := (t8 (i := 210) rfl rfl)
theorem kX11_334 : Cond.methodLink RX11 334 yX11_plainWeight ∈ tblG := (t8 (i := 214) rfl rfl)
theorem kL_139 : Cond.methodLink RL 139 yX11_most ∈ tblG := (t8 (i := 218) rfl rfl)
theorem kX11_346 : Cond.methodLink RX11 346 yX11_laysGifts ∈ tblG := (t8 (i := 222) rfl rfl)
theorem kX11_340 : Cond.methodLink RX11 340 yX11_gave ∈ tblG := (t8 (i := 226) rfl rfl)
theorem kX11_343 : Cond.methodLink RX11 343 yX11_canGive ∈ tblG := (t8 (i := 230) rfl rfl)
theorem kX11_337 : Cond.methodLink RX11 337 yX11_couldHave ∈ tblG := (t8 (i := 234) rfl rfl)
theorem kL_143 : Cond.methodLink RL 143 yX11_gift ∈ tblG := (t8 (i := 238) rfl rfl)
theorem kL_110 : Cond.methodLink RL 110 yX11_top ∈ tblG := (t9 (i := 2) rfl rfl)
theorem kX11_349 : Cond.methodLink RX11 349 yX11_allThatCould ∈ tblG := (t9 (i := 6) rfl rfl)
theorem kL_114 : Cond.methodLink RL 114 yX11_lot ∈ tblG := (t9 (i := 10) rfl rfl)
theorem kX11_353 : Cond.methodLink RX11 353 yX11_weeksWaited ∈ tblG := (t9 (i := 15) rfl rfl)
theorem kL_118 : Cond.methodLink RL 118 yX11_fits ∈ tblG := (t9 (i := 20) rfl rfl)
theorem kL_123 : Cond.methodLink RL 123 yX11_ward ∈ tblG := (t9 (i := 24) rfl rfl)
theorem kX11_357 : Cond.methodLink RX11 357 yX11_lackOf ∈ tblG := (t9 (i := 28) rfl rfl)
theorem kL_127 : Cond.methodLink RL 127 yX11_envy ∈ tblG := (t9 (i := 32) rfl rfl)
theorem kX11_360 : Cond.methodLink RX11 360 yX11_isRather ∈ tblG := (t9 (i := 36) rfl rfl)
theorem kL_131 : Cond.methodLink RL 131 yX11_lever ∈ tblG := (t9 (i := 40) rfl rfl)
theorem kX11_363 : Cond.methodLink RX11 363 yX11_letsAhead ∈ tblG := (t9 (i := 44) rfl rfl)
theorem kL_147 : Cond.methodLink RL 147 yX11_trade ∈ tblG := (t9 (i := 48) rfl rfl)
theorem kX11_380 : Cond.methodLink RX11 380 yX11_laysTrades ∈ tblG := (t9 (i := 52) rfl rfl)
theorem kX11_372 : Cond.methodLink RX11 372 yJ6_numberOfTrailingZeros_0f7a4 ∈ tblG := (t9 (i := 56) rfl rfl)
theorem kX11_377 : Cond.methodLink RX11 377 yX11_looksAt ∈ tblG := (t9 (i := 57) rfl rfl)
theorem kL_151 : Cond.methodLink RL 151 yX11_trades ∈ tblG := (t9 (i := 61) rfl rfl)
theorem kL_156 : Cond.methodLink RL 156 yX11_longest ∈ tblG := (t9 (i := 65) rfl rfl)
theorem kX11_386 : Cond.methodLink RX11 386 yX11_movesOn ∈ tblG := (t9 (i := 69) rfl rfl)
theorem kL_204 : Cond.methodLink RL 204 yX11_undo ∈ tblG := (t9 (i := 73) rfl rfl)
theorem kL_164 : Cond.methodLink RL 164 yX11_bid ∈ tblG := (t9 (i := 77) rfl rfl)
theorem kX11_389 : Cond.methodLink RX11 389 yX11_keeps ∈ tblG := (t9 (i := 81) rfl rfl)
theorem kL_168 : Cond.methodLink RL 168 yX11_unbid ∈ tblG := (t9 (i := 85) rfl rfl)
theorem kL_172 : Cond.methodLink RL 172 yX11_auto ∈ tblG := (t9 (i := 89) rfl rfl)
theorem kL_176 : Cond.methodLink RL 176 yX11_week ∈ tblG := (t9 (i := 93) rfl rfl)
theorem kL_180 : Cond.methodLink RL 180 yX11_wish ∈ tblG := (t9 (i := 97) rfl rfl)
theorem kL_184 : Cond.methodLink RL 184 yX11_unwish ∈ tblG := (t9 (i := 101) rfl rfl)
theorem kL_188 : Cond.methodLink RL 188 yX11_leave ∈ tblG := (t9 (i := 105) rfl rfl)
theorem kL_192 : Cond.methodLink RL 192 yX11_shut ∈ tblG := (t9 (i := 109) rfl rfl)
theorem kX11_392 : Cond.methodLink RX11 392 yX11_dropsBid ∈ tblG := (t9 (i := 113) rfl rfl)
theorem kL_196 : Cond.methodLink RL 196 yX11_need ∈ tblG := (t9 (i := 117) rfl rfl)
theorem kL_200 : Cond.methodLink RL 200 yX11_rules ∈ tblG := (t9 (i := 121) rfl rfl)
theorem kL_208 : Cond.methodLink RL 208 yX11_print ∈ tblG := (t9 (i := 125) rfl rfl)
theorem kX11_403 : Cond.methodLink RX11 403 yX11_printsWord ∈ tblG := (t9 (i := 129) rfl rfl)
theorem kX11_400 : Cond.methodLink RX11 400 yX11_prints ∈ tblG := (t9 (i := 134) rfl rfl)
theorem kX11_410 : Cond.methodLink RX11 410 yX11_printsNumber ∈ tblG := (t9 (i := 138) rfl rfl)
theorem kX11_413 : Cond.methodLink RX11 413 yX11_isTold ∈ tblG := (t9 (i := 142) rfl rfl)
theorem kX11_407 : Cond.methodLink RX11 407 yX11_printsNamed ∈ tblG := (t9 (i := 146) rfl rfl)
theorem kX11_416 : Cond.methodLink RX11 416 yX11_printsHouse ∈ tblG := (t9 (i := 150) rfl rfl)
theorem kL_214 : Cond.methodLink RL 214 yX11_out ∈ tblG := (t9 (i := 154) rfl rfl)
theorem fX2_9 : fL RX2 9 2 0 := ⟨by decide, by decide, (t1 (i := 45) rfl rfl)⟩
theorem fX3_53 : fL RX3 53 2 0 := ⟨by decide, by decide, (t1 (i := 46) rfl rfl)⟩
theorem fX6_162 : fL RX6 162 2 0 := ⟨by decide, by decide, (t1 (i := 47) rfl rfl)⟩
theorem fX7_237 : fL RX7 237 2 0 := ⟨by decide, by decide, (t1 (i := 48) rfl rfl)⟩
theorem fX2_15 : fL RX2 15 2 1 := ⟨by decide, by decide, (t1 (i := 49) rfl rfl)⟩
theorem fX3_49 : fL RX3 49 2 1 := ⟨by decide, by decide, (t1 (i := 50) rfl rfl)⟩
theorem fX7_153 : fL RX7 153 2 1 := ⟨by decide, by decide, (t1 (i := 51) rfl rfl)⟩
theorem fX10_364 : fL RX10 364 2 1 := ⟨by decide, by decide, (t1 (i := 52) rfl rfl)⟩
theorem fX2_28 : fL RX2 28 2 2 := ⟨by decide, by decide, (t1 (i := 53) rfl rfl)⟩
theorem fX5_78 : fL RX5 78 2 2 := ⟨by decide, by decide, (t1 (i := 54) rfl rfl)⟩
theorem fX7_86 : fL RX7 86 2 2 := ⟨by decide, by decide, (t1 (i := 55) rfl rfl)⟩
theorem fX3_32 : fL RX3 32 2 3 := ⟨by decide, by decide, (t1 (i := 56) rfl rfl)⟩
theorem fX2_32 : fL RX2 32 2 3 := ⟨by decide, by decide, (t1 (i := 57) rfl rfl)⟩
theorem fX5_88 : fL RX5 88 2 3 := ⟨by decide, by decide, (t1 (i := 58) rfl rfl)⟩
theorem fX6_112 : fL RX6 112 2 3 := ⟨by decide, by decide, (t1 (i := 59) rfl rfl)⟩
theorem fX10_136 : fL RX10 136 2 3 := ⟨by decide, by decide, (t1 (i := 60) rfl rfl)⟩
theorem fX7_134 : fL RX7 134 2 3 := ⟨by decide, by decide, (t1 (i := 61) rfl rfl)⟩
theorem fX2_35 : fL RX2 35 2 4 := ⟨by decide, by decide, (t1 (i := 62) rfl rfl)⟩
theorem fX5_91 : fL RX5 91 2 4 := ⟨by decide, by decide, (t1 (i := 63) rfl rfl)⟩
theorem fX6_117 : fL RX6 117 2 4 := ⟨by decide, by decide, (t1 (i := 64) rfl rfl)⟩
theorem fX10_141 : fL RX10 141 2 4 := ⟨by decide, by decide, (t1 (i := 65) rfl rfl)⟩
theorem fX7_140 : fL RX7 140 2 4 := ⟨by decide, by decide, (t1 (i := 66) rfl rfl)⟩
theorem fX2_18 : fL RX2 18 2 5 := ⟨by decide, by decide, (t1 (i := 67) rfl rfl)⟩
theorem fX5_123 : fL RX5 123 2 5 := ⟨by decide, by decide, (t1 (i := 68) rfl rfl)⟩
theorem fX9_80 : fL RX9 80 2 5 := ⟨by decide, by decide, (t1 (i := 69) rfl rfl)⟩
theorem fX10_144 : fL RX10 144 2 5 := ⟨by decide, by decide, (t1 (i := 70) rfl rfl)⟩
theorem fX6_158 : fL RX6 158 2 5 := ⟨by decide, by decide, (t1 (i := 71) rfl rfl)⟩
theorem fX7_283 : fL RX7 283 2 5 := ⟨by decide, by decide, (t1 (i := 72) rfl rfl)⟩
theorem fX2_21 : fL RX2 21 2 6 := ⟨by decide, by decide, (t1 (i := 73) rfl rfl)⟩
theorem fX7_288 : fL RX7 288 2 6 := ⟨by decide, by decide, (t1 (i := 74) rfl rfl)⟩
theorem fX2_25 : fL RX2 25 2 7 := ⟨by decide, by decide, (t1 (i := 75) rfl rfl)⟩
theorem fX5_130 : fL RX5 130 2 7 := ⟨by decide, by decide, (t1 (i := 76) rfl rfl)⟩
theorem fX10_169 : fL RX10 169 2 7 := ⟨by decide, by decide, (t1 (i := 77) rfl rfl)⟩
theorem fX2_38 : fL RX2 38 2 8 := ⟨by decide, by decide, (t1 (i := 78) rfl rfl)⟩
theorem fX10_167 : fL RX10 167 2 8 := ⟨by decide, by decide, (t1 (i := 79) rfl rfl)⟩
theorem fX7_286 : fL RX7 286 2 8 := ⟨by decide, by decide, (t1 (i := 80) rfl rfl)⟩
theorem fX2_41 : fL RX2 41 2 9 := ⟨by decide, by decide, (t1 (i := 81) rfl rfl)⟩
theorem fX10_173 : fL RX10 173 2 9 := ⟨by decide, by decide, (t1 (i := 82) rfl rfl)⟩
theorem fX7_247 : fL RX7 247 2 9 := ⟨by decide, by decide, (t1 (i := 83) rfl rfl)⟩
theorem fX2_44 : fL RX2 44 2 10 := ⟨by decide, by decide, (t1 (i := 84) rfl rfl)⟩
theorem fX7_276 : fL RX7 276 2 10 := ⟨by decide, by decide, (t1 (i := 85) rfl rfl)⟩
theorem fX3_9 : fL RX3 9 3 0 := ⟨by decide, by decide, (t1 (i := 116) rfl rfl)⟩
theorem fX9_85 : fL RX9 85 3 0 := ⟨by decide, by decide, (t1 (i := 117) rfl rfl)⟩
theorem fX6_161 : fL RX6 161 3 0 := ⟨by decide, by decide, (t1 (i := 118) rfl rfl)⟩
theorem fX7_179 : fL RX7 179 3 0 := ⟨by decide, by decide, (t1 (i := 119) rfl rfl)⟩
theorem fX10_408 : fL RX10 408 3 0 := ⟨by decide, by decide, (t1 (i := 120) rfl rfl)⟩
theorem fX3_15 : fL RX3 15 3 1 := ⟨by decide, by decide, (t1 (i := 121) rfl rfl)⟩
theorem fX7_103 : fL RX7 103 3 1 := ⟨by decide, by decide, (t1 (i := 122) rfl rfl)⟩
theorem fX3_18 : fL RX3 18 3 2 := ⟨by decide, by decide, (t1 (i := 123) rfl rfl)⟩
theorem fX5_117 : fL RX5 117 3 3 := ⟨by decide, by decide, (t1 (i := 124) rfl rfl)⟩
theorem fX3_50 : fL RX3 50 3 3 := ⟨by decide, by decide, (t1 (i := 125) rfl rfl)⟩
theorem fX9_65 : fL RX9 65 3 3 := ⟨by decide, by decide, (t1 (i := 126) rfl rfl)⟩
theorem fX10_209 : fL RX10 209 3 3 := ⟨by decide, by decide, (t1 (i := 127) rfl rfl)⟩
theorem fX6_170 : fL RX6 170 3 3 := ⟨by decide, by decide, (t1 (i := 128) rfl rfl)⟩
theorem fX7_206 : fL RX7 206 3 3 := ⟨by decide, by decide, (t1 (i := 129) rfl rfl)⟩
theorem fX5_96 : fL RX5 96 3 4 := ⟨by decide, by decide, (t1 (i := 130) rfl rfl)⟩
theorem fX7_90 : fL RX7 90 3 4 := ⟨by decide, by decide, (t1 (i := 131) rfl rfl)⟩
theorem fX3_68 : fL RX3 68 3 4 := ⟨by decide, by decide, (t1 (i := 132) rfl rfl)⟩
theorem fX5_97 : fL RX5 97 3 5 := ⟨by decide, by decide, (t1 (i := 133) rfl rfl)⟩
theorem fX10_180 : fL RX10 180 3 5 := ⟨by decide, by decide, (t1 (i := 134) rfl rfl)⟩
theorem fX6_138 : fL RX6 138 3 5 := ⟨by decide, by decide, (t1 (i := 135) rfl rfl)⟩
theorem fX3_72 : fL RX3 72 3 5 := ⟨by decide, by decide, (t1 (i := 136) rfl rfl)⟩
theorem fX7_161 : fL RX7 161 3 5 := ⟨by decide, by decide, (t1 (i := 137) rfl rfl)⟩
theorem fX3_37 : fL RX3 37 3 6 := ⟨by decide, by decide, (t1 (i := 138) rfl rfl)⟩
theorem fX5_100 : fL RX5 100 3 6 := ⟨by decide, by decide, (t1 (i := 139) rfl rfl)⟩
theorem fX10_189 : fL RX10 189 3 6 := ⟨by decide, by decide, (t1 (i := 140) rfl rfl)⟩
theorem fX6_143 : fL RX6 143 3 6 := ⟨by decide, by decide, (t1 (i := 141) rfl rfl)⟩
theorem fX7_131 : fL RX7 131 3 6 := ⟨by decide, by decide, (t1 (i := 142) rfl rfl)⟩
theorem fX5_103 : fL RX5 103 3 7 := ⟨by decide, by decide, (t1 (i := 143) rfl rfl)⟩
theorem fX10_192 : fL RX10 192 3 7 := ⟨by decide, by decide, (t1 (i := 144) rfl rfl)⟩
theorem fX6_146 : fL RX6 146 3 7 := ⟨by decide, by decide, (t1 (i := 145) rfl rfl)⟩
theorem fX3_75 : fL RX3 75 3 7 := ⟨by decide, by decide, (t1 (i := 146) rfl rfl)⟩
theorem fX7_137 : fL RX7 137 3 7 := ⟨by decide, by decide, (t1 (i := 147) rfl rfl)⟩
theorem fX5_106 : fL RX5 106 3 8 := ⟨by decide, by decide, (t1 (i := 148) rfl rfl)⟩
theorem fX10_195 : fL RX10 195 3 8 := ⟨by decide, by decide, (t1 (i := 149) rfl rfl)⟩
theorem fX6_149 : fL RX6 149 3 8 := ⟨by decide, by decide, (t1 (i := 150) rfl rfl)⟩
theorem fX3_78 : fL RX3 78 3 8 := ⟨by decide, by decide, (t1 (i := 151) rfl rfl)⟩
theorem fX7_154 : fL RX7 154 3 8 := ⟨by decide, by decide, (t1 (i := 152) rfl rfl)⟩
theorem fX3_22 : fL RX3 22 3 9 := ⟨by decide, by decide, (t1 (i := 153) rfl rfl)⟩
theorem fX9_40 : fL RX9 40 3 9 := ⟨by decide, by decide, (t1 (i := 154) rfl rfl)⟩
theorem fX5_109 : fL RX5 109 3 9 := ⟨by decide, by decide, (t1 (i := 155) rfl rfl)⟩
theorem fX0_78 : fL RX0 78 3 9 := ⟨by decide, by decide, (t1 (i := 156) rfl rfl)⟩
theorem fX10_198 : fL RX10 198 3 9 := ⟨by decide, by decide, (t1 (i := 157) rfl rfl)⟩
theorem fX6_163 : fL RX6 163 3 9 := ⟨by decide, by decide, (t1 (i := 158) rfl rfl)⟩
theorem fX7_176 : fL RX7 176 3 9 := ⟨by decide, by decide, (t1 (i := 159) rfl rfl)⟩
theorem fX10_201 : fL RX10 201 3 10 := ⟨by decide, by decide, (t1 (i := 160) rfl rfl)⟩
theorem fX3_81 : fL RX3 81 3 10 := ⟨by decide, by decide, (t1 (i := 161) rfl rfl)⟩
theorem fX7_271 : fL RX7 271 3 10 := ⟨by decide, by decide, (t1 (i := 162) rfl rfl)⟩
theorem fX3_29 : fL RX3 29 3 11 := ⟨by decide, by decide, (t1 (i := 163) rfl rfl)⟩
theorem fX10_202 : fL RX10 202 3 11 := ⟨by decide, by decide, (t1 (i := 164) rfl rfl)⟩
theorem fX7_203 : fL RX7 203 3 11 := ⟨by decide, by decide, (t1 (i := 165) rfl rfl)⟩
theorem fX3_25 : fL RX3 25 3 12 := ⟨by decide, by decide, (t1 (i := 166) rfl rfl)⟩
theorem fX5_66 : fL RX5 66 3 12 := ⟨by decide, by decide, (t1 (i := 167) rfl rfl)⟩
theorem fX10_205 : fL RX10 205 3 12 := ⟨by decide, by decide, (t1 (i := 168) rfl rfl)⟩
theorem fX7_99 : fL RX7 99 3 12 := ⟨by decide, by decide, (t1 (i := 169) rfl rfl)⟩
theorem fX3_40 : fL RX3 40 3 13 := ⟨by decide, by decide, (t1 (i := 170) rfl rfl)⟩
theorem fX10_361 : fL RX10 361 3 13 := ⟨by decide, by decide, (t1 (i := 171) rfl rfl)⟩
theorem fX7_230 : fL RX7 230 3 13 := ⟨by decide, by decide, (t1 (i := 172) rfl rfl)⟩
theorem fX10_212 : fL RX10 212 3 14 := ⟨by decide, by decide, (t1 (i := 173) rfl rfl)⟩
theorem fX3_84 : fL RX3 84 3 14 := ⟨by decide, by decide, (t1 (i := 174) rfl rfl)⟩
theorem fX7_119 : fL RX7 119 3 14 := ⟨by decide, by decide, (t1 (i := 175) rfl rfl)⟩
theorem fX8_9 : fL RX8 9 8 0 := ⟨by decide, by decide, (t1 (i := 214) rfl rfl)⟩
theorem fX8_15 : fL RX8 15 8 1 := ⟨by decide, by decide, (t1 (i := 215) rfl rfl)⟩
theorem fX8_19 : fL RX8 19 8 2 := ⟨by decide, by decide, (t1 (i := 216) rfl rfl)⟩
theorem fX7_55 : fL RX7 55 8 2 := ⟨by decide, by decide, (t1 (i := 217) rfl rfl)⟩
theorem fX10_113 : fL RX10 113 8 2 := ⟨by decide, by decide, (t1 (i := 218) rfl rfl)⟩
theorem fX7_11 : fL RX7 11 7 0 := ⟨by decide, by decide, (t1 (i := 235) rfl rfl)⟩
theorem fX5_47 : fL RX5 47 7 0 := ⟨by decide, by decide, (t1 (i := 236) rfl rfl)⟩
theorem fX0_43 : fL RX0 43 7 0 := ⟨by decide, by decide, (t1 (i := 237) rfl rfl)⟩
theorem fX7_22 : fL RX7 22 7 1 := ⟨by decide, by decide, (t1 (i := 238) rfl rfl)⟩
theorem fX4_25 : fL RX4 25 7 1 := ⟨by decide, by decide, (t1 (i := 239) rfl rfl)⟩
theorem fX9_36 : fL RX9 36 7 1 := ⟨by decide, by decide, (t2 (i := 0) rfl rfl)⟩
theorem fX5_62 : fL RX5 62 7 1 := ⟨by decide, by decide, (t2 (i := 1) rfl rfl)⟩
theorem fX0_65 : fL RX0 65 7 1 := ⟨by decide, by decide, (t2 (i := 2) rfl rfl)⟩
theorem fX7_27 : fL RX7 27 7 2 := ⟨by decide, by decide, (t2 (i := 3) rfl rfl)⟩
theorem fX7_36 : fL RX7 36 7 3 := ⟨by decide, by decide, (t2 (i := 4) rfl rfl)⟩
theorem fX10_109 : fL RX10 109 7 3 := ⟨by decide, by decide, (t2 (i := 5) rfl rfl)⟩
theorem fX7_40 : fL RX7 40 7 4 := ⟨by decide, by decide, (t2 (i := 6) rfl rfl)⟩
theorem fX10_129 : fL RX10 129 7 4 := ⟨by decide, by decide, (t2 (i := 7) rfl rfl)⟩
theorem fX7_59 : fL RX7 59 7 5 := ⟨by decide, by decide, (t2 (i := 8) rfl rfl)⟩
theorem fX5_44 : fL RX5 44 7 5 := ⟨by decide, by decide, (t2 (i := 9) rfl rfl)⟩
theorem fX0_38 : fL RX0 38 7 5 := ⟨by decide, by decide, (t2 (i := 10) rfl rfl)⟩
theorem fX10_103 : fL RX10 103 7 5 := ⟨by decide, by decide, (t2 (i := 11) rfl rfl)⟩
theorem fX6_87 : fL RX6 87 7 5 := ⟨by decide, by decide, (t2 (i := 12) rfl rfl)⟩
theorem fX4_18 : fL RX4 18 7 6 := ⟨by decide, by decide, (t2 (i := 13) rfl rfl)⟩
theorem fX7_62 : fL RX7 62 7 6 := ⟨by decide, by decide, (t2 (i := 14) rfl rfl)⟩
theorem fX9_31 : fL RX9 31 7 6 := ⟨by decide, by decide, (t2 (i := 15) rfl rfl)⟩
theorem fX5_59 : fL RX5 59 7 6 := ⟨by decide, by decide, (t2 (i := 16) rfl rfl)⟩
theorem fX10_91 : fL RX10 91 7 6 := ⟨by decide, by decide, (t2 (i := 17) rfl rfl)⟩
theorem fX0_61 : fL RX0 61 7 6 := ⟨by decide, by decide, (t2 (i := 18) rfl rfl)⟩
theorem fX6_120 : fL RX6 120 7 6 := ⟨by decide, by decide, (t2 (i := 19) rfl rfl)⟩
theorem fX7_65 : fL RX7 65 7 7 := ⟨by decide, by decide, (t2 (i := 20) rfl rfl)⟩
theorem fX10_106 : fL RX10 106 7 7 := ⟨by decide, by decide, (t2 (i := 21) rfl rfl)⟩
theorem fX7_68 : fL RX7 68 7 8 := ⟨by decide, by decide, (t2 (i := 22) rfl rfl)⟩
theorem fX10_126 : fL RX10 126 7 8 := ⟨by decide, by decide, (t2 (i := 23) rfl rfl)⟩
theorem fX1_11 : fL RX1 11 1 0 := ⟨by decide, by decide, (t2 (i := 52) rfl rfl)⟩
theorem fX1_18 : fL RX1 18 1 1 := ⟨by decide, by decide, (t2 (i := 53) rfl rfl)⟩
theorem fX1_22 : fL RX1 22 1 2 := ⟨by decide, by decide, (t2 (i := 54) rfl rfl)⟩
theorem fX10_88 : fL RX10 88 1 2 := ⟨by decide, by decide, (t2 (i := 55) rfl rfl)⟩
theorem fX6_9 : fL RX6 9 6 0 := ⟨by decide, by decide, (t2 (i := 135) rfl rfl)⟩
theorem fX6_15 : fL RX6 15 6 1 := ⟨by decide, by decide, (t2 (i := 136) rfl rfl)⟩
theorem fX6_46 : fL RX6 46 6 2 := ⟨by decide, by decide, (t2 (i := 137) rfl rfl)⟩
theorem fX10_73 : fL RX10 73 6 2 := ⟨by decide, by decide, (t2 (i := 138) rfl rfl)⟩
theorem fX6_37 : fL RX6 37 6 3 := ⟨by decide, by decide, (t2 (i := 139) rfl rfl)⟩
theorem fX10_97 : fL RX10 97 6 3 := ⟨by decide, by decide, (t2 (i := 140) rfl rfl)⟩
theorem fX6_41 : fL RX6 41 6 4 := ⟨by decide, by decide, (t2 (i := 141) rfl rfl)⟩
theorem fX10_100 : fL RX10 100 6 4 := ⟨by decide, by decide, (t2 (i := 142) rfl rfl)⟩
theorem fX6_53 : fL RX6 53 6 5 := ⟨by decide, by decide, (t2 (i := 143) rfl rfl)⟩
theorem fX6_56 : fL RX6 56 6 6 := ⟨by decide, by decide, (t2 (i := 144) rfl rfl)⟩
theorem fX6_62 : fL RX6 62 6 7 := ⟨by decide, by decide, (t2 (i := 145) rfl rfl)⟩
theorem fX6_188 : fL RX6 188 6 8 := ⟨by decide, by decide, (t2 (i := 146) rfl rfl)⟩
theorem fX6_97 : fL RX6 97 6 9 := ⟨by decide, by decide, (t2 (i := 147) rfl rfl)⟩
theorem fX6_109 : fL RX6 109 6 10 := ⟨by decide, by decide, (t2 (i := 148) rfl rfl)⟩
theorem fX6_76 : fL RX6 76 6 11 := ⟨by decide, by decide, (t2 (i := 149) rfl rfl)⟩
theorem fX5_9 : fL RX5 9 5 0 := ⟨by decide, by decide, (t2 (i := 183) rfl rfl)⟩
theorem fX5_15 : fL RX5 15 5 1 := ⟨by decide, by decide, (t2 (i := 184) rfl rfl)⟩
theorem fX10_397 : fL RX10 397 5 1 := ⟨by decide, by decide, (t2 (i := 185) rfl rfl)⟩
theorem fX4_9 : fL RX4 9 4 0 := ⟨by decide, by decide, (t2 (i := 197) rfl rfl)⟩
theorem fX4_15 : fL RX4 15 4 1 := ⟨by decide, by decide, (t2 (i := 198) rfl rfl)⟩
theorem fX4_24 : fL RX4 24 4 2 := ⟨by decide, by decide, (t2 (i := 199) rfl rfl)⟩
theorem fX4_39 : fL RX4 39 4 3 := ⟨by decide, by decide, (t2 (i := 200) rfl rfl)⟩
theorem fX0_9 : fL RX0 9 0 0 := ⟨by decide, by decide, (t2 (i := 216) rfl rfl)⟩
theorem fX0_15 : fL RX0 15 0 1 := ⟨by decide, by decide, (t2 (i := 217) rfl rfl)⟩
theorem fX0_18 : fL RX0 18 0 2 := ⟨by decide, by decide, (t2 (i := 218) rfl rfl)⟩
theorem fX0_21 : fL RX0 21 0 3 := ⟨by decide, by decide, (t2 (i := 219) rfl rfl)⟩
theorem fX0_24 : fL RX0 24 0 4 := ⟨by decide, by decide, (t2 (i := 220) rfl rfl)⟩
theorem fX0_64 : fL RX0 64 0 5 := ⟨by decide, by decide, (t2 (i := 221) rfl rfl)⟩
theorem fX0_27 : fL RX0 27 0 6 := ⟨by decide, by decide, (t2 (i := 222) rfl rfl)⟩
theorem fX10_350 : fL RX10 350 0 6 := ⟨by decide, by decide, (t2 (i := 223) rfl rfl)⟩
theorem fX9_9 : fL RX9 9 9 0 := ⟨by decide, by decide, (t3 (i := 5) rfl rfl)⟩
theorem fX9_15 : fL RX9 15 9 1 := ⟨by decide, by decide, (t3 (i := 6) rfl rfl)⟩
theorem fX9_18 : fL RX9 18 9 2 := ⟨by decide, by decide, (t3 (i := 7) rfl rfl)⟩
theorem fX9_22 : fL RX9 22 9 3 := ⟨by decide, by decide, (t3 (i := 8) rfl rfl)⟩
theorem fX10_340 : fL RX10 340 9 3 := ⟨by decide, by decide, (t3 (i := 9) rfl rfl)⟩
theorem fX9_25 : fL RX9 25 9 4 := ⟨by decide, by decide, (t3 (i := 10) rfl rfl)⟩
theorem fX10_343 : fL RX10 343 9 4 := ⟨by decide, by decide, (t3 (i := 11) rfl rfl)⟩
theorem fX9_28 : fL RX9 28 9 5 := ⟨by decide, by decide, (t3 (i := 12) rfl rfl)⟩
theorem fX10_346 : fL RX10 346 9 5 := ⟨by decide, by decide, (t3 (i := 13) rfl rfl)⟩
theorem fX10_10 : fL RX10 10 10 0 := ⟨by decide, by decide, (t3 (i := 27) rfl rfl)⟩
theorem fX10_16 : fL RX10 16 10 1 := ⟨by decide, by decide, (t3 (i := 28) rfl rfl)⟩
theorem fX10_22 : fL RX10 22 10 2 := ⟨by decide, by decide, (t3 (i := 29) rfl rfl)⟩
theorem fX10_29 : fL RX10 29 10 3 := ⟨by decide, by decide, (t3 (i := 30) rfl rfl)⟩
theorem fX10_36 : fL RX10 36 10 4 := ⟨by decide, by decide, (t3 (i := 31) rfl rfl)⟩
theorem fX10_43 : fL RX10 43 10 5 := ⟨by decide, by decide, (t3 (i := 32) rfl rfl)⟩
theorem fX10_50 : fL RX10 50 10 6 := ⟨by decide, by decide, (t3 (i := 33) rfl rfl)⟩
theorem fX10_57 : fL RX10 57 10 7 := ⟨by decide, by decide, (t3 (i := 34) rfl rfl)⟩
theorem fX10_61 : fL RX10 61 10 8 := ⟨by decide, by decide, (t3 (i := 35) rfl rfl)⟩
theorem fX11_65 : fL RX11 65 11 0 := ⟨by decide, by decide, (t6 (i := 228) rfl rfl)⟩
theorem fX11_7 : fL RX11 7 11 1 := ⟨by decide, by decide, (t6 (i := 229) rfl rfl)⟩
theorem fX11_13 : fL RX11 13 11 2 := ⟨by decide, by decide, (t6 (i := 230) rfl rfl)⟩
theorem fX11_16 : fL RX11 16 11 3 := ⟨by decide, by decide, (t6 (i := 231) rfl rfl)⟩
theorem fX11_19 : fL RX11 19 11 4 := ⟨by decide, by decide, (t6 (i := 232) rfl rfl)⟩
theorem fX11_22 : fL RX11 22 11 5 := ⟨by decide, by decide, (t6 (i := 233) rfl rfl)⟩
theorem fX11_25 : fL RX11 25 11 6 := ⟨by decide, by decide, (t6 (i := 234) rfl rfl)⟩
theorem fX11_29 : fL RX11 29 11 7 := ⟨by decide, by decide, (t6 (i := 235) rfl rfl)⟩
theorem fX11_79 : fL RX11 79 11 8 := ⟨by decide, by decide, (t6 (i := 236) rfl rfl)⟩
theorem fX11_68 : fL RX11 68 11 9 := ⟨by decide, by decide, (t6 (i := 237) rfl rfl)⟩
theorem fX11_32 : fL RX11 32 11 10 := ⟨by decide, by decide, (t6 (i := 238) rfl rfl)⟩
theorem fX11_36 : fL RX11 36 11 11 := ⟨by decide, by decide, (t6 (i := 239) rfl rfl)⟩
theorem fX11_196 : fL RX11 196 11 12 := ⟨by decide, by decide, (t7 (i := 0) rfl rfl)⟩
theorem fX11_86 : fL RX11 86 11 13 := ⟨by decide, by decide, (t7 (i := 1) rfl rfl)⟩
theorem fX11_96 : fL RX11 96 11 14 := ⟨by decide, by decide, (t7 (i := 2) rfl rfl)⟩
theorem fX11_89 : fL RX11 89 11 15 := ⟨by decide, by decide, (t7 (i := 3) rfl rfl)⟩
theorem fX11_99 : fL RX11 99 11 16 := ⟨by decide, by decide, (t7 (i := 4) rfl rfl)⟩
theorem fX11_115 : fL RX11 115 11 17 := ⟨by decide, by decide, (t7 (i := 5) rfl rfl)⟩
theorem fX11_133 : fL RX11 133 11 18 := ⟨by decide, by decide, (t7 (i := 6) rfl rfl)⟩
theorem fX11_136 : fL RX11 136 11 19 := ⟨by decide, by decide, (t7 (i := 7) rfl rfl)⟩
theorem fX11_106 : fL RX11 106 11 21 := ⟨by decide, by decide, (t7 (i := 8) rfl rfl)⟩
theorem fX11_39 : fL RX11 39 11 22 := ⟨by decide, by decide, (t7 (i := 9) rfl rfl)⟩
theorem fX11_42 : fL RX11 42 11 23 := ⟨by decide, by decide, (t7 (i := 10) rfl rfl)⟩
theorem fX11_366 : fL RX11 366 11 24 := ⟨by decide, by decide, (t7 (i := 11) rfl rfl)⟩
theorem fX11_369 : fL RX11 369 11 25 := ⟨by decide, by decide, (t7 (i := 12) rfl rfl)⟩
theorem fX11_45 : fL RX11 45 11 26 := ⟨by decide, by decide, (t7 (i := 13) rfl rfl)⟩
theorem fX11_48 : fL RX11 48 11 27 := ⟨by decide, by decide, (t7 (i := 14) rfl rfl)⟩
theorem fX11_51 : fL RX11 51 11 28 := ⟨by decide, by decide, (t7 (i := 15) rfl rfl)⟩
theorem fX11_54 : fL RX11 54 11 29 := ⟨by decide, by decide, (t7 (i := 16) rfl rfl)⟩
theorem fX11_383 : fL RX11 383 11 30 := ⟨by decide, by decide, (t7 (i := 17) rfl rfl)⟩
theorem fX11_57 : fL RX11 57 11 31 := ⟨by decide, by decide, (t7 (i := 18) rfl rfl)⟩
theorem fX11_395 : fL RX11 395 11 32 := ⟨by decide, by decide, (t7 (i := 19) rfl rfl)⟩
theorem qJ6_265 : Cond.constant RJ6 265 (1431655765) ∈ tblG := (t4 (i := 6) rfl rfl)
theorem qJ6_266 : Cond.constant RJ6 266 (858993459) ∈ tblG := (t4 (i := 7) rfl rfl)
theorem qJ6_267 : Cond.constant RJ6 267 (252645135) ∈ tblG := (t4 (i := 8) rfl rfl)
theorem qX10_287 : Cond.constant RX10 287 (65536) ∈ tblG := (t5 (i := 67) rfl rfl)
theorem qX10_288 : Cond.constant RX10 288 (65537) ∈ tblG := (t5 (i := 68) rfl rfl)
theorem qJ6_264 : Cond.constant RJ6 264 (65536) ∈ tblG := (t5 (i := 199) rfl rfl)
theorem qX11_352 : Cond.constant RX11 352 (65536) ∈ tblG := (t9 (i := 14) rfl rfl)
theorem qX11_356 : Cond.constant RX11 356 (65537) ∈ tblG := (t9 (i := 19) rfl rfl)
theorem qX6_44 : Cond.constantLong RX6 44 (32) ∈ tblG := (t2 (i := 134) rfl rfl)
theorem qX11_110 : Cond.constantLong RX11 110 (96) ∈ tblG := (t7 (i := 125) rfl rfl)
theorem qX11_398 : Cond.constantLong RX11 398 (31) ∈ tblG := (t9 (i := 133) rfl rfl)
