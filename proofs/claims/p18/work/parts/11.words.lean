theorem sp_tb1 : ∀ w ∈ tables_1_1, w ∈ lw_tbl := fun w h => List.mem_append_right _ (show w ∈ tables_1 from (by unfold tables_1; exact List.mem_append_left _ h))
theorem sp_tb2 : ∀ w ∈ tables_1_2, w ∈ lw_tbl := fun w h => List.mem_append_right _ (show w ∈ tables_1 from (by unfold tables_1; exact List.mem_append_right _ (List.mem_append_left _ h)))
theorem sp_tb3 : ∀ w ∈ tables_1_3, w ∈ lw_tbl := fun w h => List.mem_append_right _ (show w ∈ tables_1 from (by unfold tables_1; exact List.mem_append_right _ (List.mem_append_right _ (List.mem_append_left _ h))))
theorem sp_tb4 : ∀ w ∈ tables_1_4, w ∈ lw_tbl := fun w h => List.mem_append_right _ (show w ∈ tables_1 from (by unfold tables_1; exact List.mem_append_right _ (List.mem_append_right _ (List.mem_append_right _ (List.mem_append_left _ h)))))
theorem sp_tb5 : ∀ w ∈ tables_1_5, w ∈ lw_tbl := fun w h => List.mem_append_right _ (show w ∈ tables_1 from (by unfold tables_1; exact List.mem_append_right _ (List.mem_append_right _ (List.mem_append_right _ (List.mem_append_right _ (List.mem_append_left _ h))))))
theorem sp_tb6 : ∀ w ∈ tables_1_6, w ∈ lw_tbl := fun w h => List.mem_append_right _ (show w ∈ tables_1 from (by unfold tables_1; exact List.mem_append_right _ (List.mem_append_right _ (List.mem_append_right _ (List.mem_append_right _ (List.mem_append_right _ (h)))))))
/-! WORDS: methods, what the tables say of them, links -/
abbrev M_Body_init : sp_Me := (yX0_init, cX0_init, 5, (Option.none : Option Jvm.ClassFile.FieldType), 1, 14)
theorem ok_Body_init : sp_okI M_Body_init 3 := ⟨⟨sp_tb1 _ (List.mem_of_getElem? (i := 118) rfl), sp_tb1 _ (List.mem_of_getElem? (i := 8) rfl), ⟨by decide, by decide⟩, by decide +kernel⟩, rfl, sp_tb1 _ (List.mem_of_getElem? (i := 117) rfl)⟩
abbrev M_Draft_init : sp_Me := (yX1_init, cX1_init, 1, (Option.none : Option Jvm.ClassFile.FieldType), 1, 14)
theorem ok_Draft_init : sp_okI M_Draft_init 0 := ⟨⟨sp_tb1 _ (List.mem_of_getElem? (i := 69) rfl), sp_tb1 _ (List.mem_of_getElem? (i := 3) rfl), ⟨by decide, by decide⟩, by decide +kernel⟩, rfl, sp_tb1 _ (List.mem_of_getElem? (i := 68) rfl)⟩
abbrev M_Draft_append : sp_Me := (yX1_append, cX1_append, 2, (Option.some Jvm.ClassFile.FieldType.int), 0, 0)
theorem ok_Draft_append : sp_okV M_Draft_append 1 := ⟨⟨sp_tb2 _ (List.mem_of_getElem? (i := 169) rfl), sp_tb1 _ (List.mem_of_getElem? (i := 3) rfl), ⟨by decide, by decide⟩, by decide +kernel⟩, sp_tb2 _ (List.mem_of_getElem? (i := 167) rfl), sp_tb2 _ (List.mem_of_getElem? (i := 168) rfl)⟩
abbrev M_Draft_clear : sp_Me := (yX1_clear, cX1_clear, 1, (Option.none : Option Jvm.ClassFile.FieldType), 0, 0)
theorem ok_Draft_clear : sp_okV M_Draft_clear 0 := ⟨⟨sp_tb3 _ (List.mem_of_getElem? (i := 164) rfl), sp_tb1 _ (List.mem_of_getElem? (i := 3) rfl), ⟨by decide, by decide⟩, by decide +kernel⟩, sp_tb3 _ (List.mem_of_getElem? (i := 162) rfl), sp_tb3 _ (List.mem_of_getElem? (i := 163) rfl)⟩
abbrev M_Draft_length : sp_Me := (yX1_length, cX1_length, 1, (Option.some Jvm.ClassFile.FieldType.int), 0, 0)
theorem ok_Draft_length : sp_okV M_Draft_length 0 := ⟨⟨sp_tb3 _ (List.mem_of_getElem? (i := 213) rfl), sp_tb1 _ (List.mem_of_getElem? (i := 3) rfl), ⟨by decide, by decide⟩, by decide +kernel⟩, sp_tb3 _ (List.mem_of_getElem? (i := 211) rfl), sp_tb3 _ (List.mem_of_getElem? (i := 212) rfl)⟩
abbrev M_Draft_beginsWithDivider : sp_Me := (yX1_beginsWithDivider, cX1_beginsWithDivider, 2, (Option.some Jvm.ClassFile.FieldType.boolean), 1, 21)
theorem ok_Draft_beginsWithDivider : sp_okV M_Draft_beginsWithDivider 1 := ⟨⟨sp_tb2 _ (List.mem_of_getElem? (i := 206) rfl), sp_tb1 _ (List.mem_of_getElem? (i := 3) rfl), ⟨by decide, by decide⟩, by decide +kernel⟩, sp_tb2 _ (List.mem_of_getElem? (i := 204) rfl), sp_tb2 _ (List.mem_of_getElem? (i := 205) rfl)⟩
abbrev M_Draft_beginsWithDrive : sp_Me := (yX1_beginsWithDrive, cX1_beginsWithDrive, 2, (Option.some Jvm.ClassFile.FieldType.boolean), 0, 0)
theorem ok_Draft_beginsWithDrive : sp_okV M_Draft_beginsWithDrive 0 := ⟨⟨sp_tb2 _ (List.mem_of_getElem? (i := 210) rfl), sp_tb1 _ (List.mem_of_getElem? (i := 3) rfl), ⟨by decide, by decide⟩, by decide +kernel⟩, sp_tb2 _ (List.mem_of_getElem? (i := 208) rfl), sp_tb2 _ (List.mem_of_getElem? (i := 209) rfl)⟩
abbrev M_Draft_cut : sp_Me := (yX1_cut, cX1_cut, 5, (Option.some (Jvm.ClassFile.FieldType.object "java/util/ArrayList")), 8, 195)
theorem ok_Draft_cut : sp_okV M_Draft_cut 1 := ⟨⟨sp_tb2 _ (List.mem_of_getElem? (i := 177) rfl), sp_tb1 _ (List.mem_of_getElem? (i := 3) rfl), ⟨by decide, by decide⟩, by decide +kernel⟩, sp_tb2 _ (List.mem_of_getElem? (i := 175) rfl), sp_tb2 _ (List.mem_of_getElem? (i := 176) rfl)⟩
abbrev M_Draft_addUnlessPassedOver : sp_Me := (yX1_addUnlessPassedOver, cX1_addUnlessPassedOver, 5, (Option.none : Option Jvm.ClassFile.FieldType), 7, 171)
theorem ok_Draft_addUnlessPassedOver : sp_okV M_Draft_addUnlessPassedOver 3 := ⟨⟨sp_tb2 _ (List.mem_of_getElem? (i := 187) rfl), sp_tb1 _ (List.mem_of_getElem? (i := 3) rfl), ⟨by decide, by decide⟩, by decide +kernel⟩, sp_tb2 _ (List.mem_of_getElem? (i := 186) rfl), List.mem_of_getElem? (i := 3) rfl⟩
abbrev M_Entry_init : sp_Me := (yX2_init, cX2_init, 7, (Option.none : Option Jvm.ClassFile.FieldType), 1, 14)
theorem ok_Entry_init : sp_okI M_Entry_init 5 := ⟨⟨sp_tb3 _ (List.mem_of_getElem? (i := 227) rfl), sp_tb1 _ (List.mem_of_getElem? (i := 25) rfl), ⟨by decide, by decide⟩, by decide +kernel⟩, rfl, sp_tb3 _ (List.mem_of_getElem? (i := 226) rfl)⟩
abbrev M_Name_init : sp_Me := (yX3_init, cX3_init, 8, (Option.none : Option Jvm.ClassFile.FieldType), 1, 21)
theorem ok_Name_init : sp_okI M_Name_init 3 := ⟨⟨sp_tb1 _ (List.mem_of_getElem? (i := 141) rfl), sp_tb1 _ (List.mem_of_getElem? (i := 10) rfl), ⟨by decide, by decide⟩, by decide +kernel⟩, rfl, sp_tb1 _ (List.mem_of_getElem? (i := 140) rfl)⟩
abbrev M_Name_smallLetter : sp_Me := (yX3_smallLetter, cX3_smallLetter, 1, (Option.some Jvm.ClassFile.FieldType.int), 0, 0)
theorem ok_Name_smallLetter : sp_okS M_Name_smallLetter 1 := ⟨⟨sp_tb1 _ (List.mem_of_getElem? (i := 151) rfl), sp_tb1 _ (List.mem_of_getElem? (i := 10) rfl), ⟨by decide, by decide⟩, by decide +kernel⟩, sp_tb1 _ (List.mem_of_getElem? (i := 150) rfl)⟩
abbrev M_Name_length : sp_Me := (yX3_length, cX3_length, 1, (Option.some Jvm.ClassFile.FieldType.int), 0, 0)
theorem ok_Name_length : sp_okV M_Name_length 0 := ⟨⟨sp_tb5 _ (List.mem_of_getElem? (i := 3) rfl), sp_tb1 _ (List.mem_of_getElem? (i := 10) rfl), ⟨by decide, by decide⟩, by decide +kernel⟩, sp_tb5 _ (List.mem_of_getElem? (i := 1) rfl), sp_tb5 _ (List.mem_of_getElem? (i := 2) rfl)⟩
abbrev M_Name_byteAt : sp_Me := (yX3_byteAt, cX3_byteAt, 2, (Option.some Jvm.ClassFile.FieldType.int), 0, 0)
theorem ok_Name_byteAt : sp_okV M_Name_byteAt 1 := ⟨⟨sp_tb3 _ (List.mem_of_getElem? (i := 9) rfl), sp_tb1 _ (List.mem_of_getElem? (i := 10) rfl), ⟨by decide, by decide⟩, by decide +kernel⟩, sp_tb3 _ (List.mem_of_getElem? (i := 7) rfl), sp_tb3 _ (List.mem_of_getElem? (i := 8) rfl)⟩
abbrev M_Name_isSameAs : sp_Me := (yX3_isSameAs, cX3_isSameAs, 2, (Option.some Jvm.ClassFile.FieldType.boolean), 1, 22)
theorem ok_Name_isSameAs : sp_okV M_Name_isSameAs 1 := ⟨⟨sp_tb3 _ (List.mem_of_getElem? (i := 194) rfl), sp_tb1 _ (List.mem_of_getElem? (i := 10) rfl), ⟨by decide, by decide⟩, by decide +kernel⟩, sp_tb3 _ (List.mem_of_getElem? (i := 192) rfl), sp_tb3 _ (List.mem_of_getElem? (i := 193) rfl)⟩
abbrev M_Name_isAlike : sp_Me := (yX3_isAlike, cX3_isAlike, 2, (Option.some Jvm.ClassFile.FieldType.boolean), 1, 22)
theorem ok_Name_isAlike : sp_okV M_Name_isAlike 1 := ⟨⟨sp_tb3 _ (List.mem_of_getElem? (i := 201) rfl), sp_tb1 _ (List.mem_of_getElem? (i := 10) rfl), ⟨by decide, by decide⟩, by decide +kernel⟩, sp_tb3 _ (List.mem_of_getElem? (i := 199) rfl), sp_tb3 _ (List.mem_of_getElem? (i := 200) rfl)⟩
abbrev M_Name_isEqual : sp_Me := (yX3_isEqual, cX3_isEqual, 3, (Option.some Jvm.ClassFile.FieldType.boolean), 0, 0)
theorem ok_Name_isEqual : sp_okS M_Name_isEqual 2 := ⟨⟨sp_tb3 _ (List.mem_of_getElem? (i := 197) rfl), sp_tb1 _ (List.mem_of_getElem? (i := 10) rfl), ⟨by decide, by decide⟩, by decide +kernel⟩, sp_tb3 _ (List.mem_of_getElem? (i := 196) rfl)⟩
abbrev M_Name_isStay : sp_Me := (yX3_isStay, cX3_isStay, 1, (Option.some Jvm.ClassFile.FieldType.boolean), 0, 0)
theorem ok_Name_isStay : sp_okV M_Name_isStay 0 := ⟨⟨sp_tb2 _ (List.mem_of_getElem? (i := 193) rfl), sp_tb1 _ (List.mem_of_getElem? (i := 10) rfl), ⟨by decide, by decide⟩, by decide +kernel⟩, sp_tb2 _ (List.mem_of_getElem? (i := 191) rfl), sp_tb2 _ (List.mem_of_getElem? (i := 192) rfl)⟩
abbrev M_Name_isUp : sp_Me := (yX3_isUp, cX3_isUp, 1, (Option.some Jvm.ClassFile.FieldType.boolean), 0, 0)
theorem ok_Name_isUp : sp_okV M_Name_isUp 0 := ⟨⟨sp_tb2 _ (List.mem_of_getElem? (i := 237) rfl), sp_tb1 _ (List.mem_of_getElem? (i := 10) rfl), ⟨by decide, by decide⟩, by decide +kernel⟩, sp_tb2 _ (List.mem_of_getElem? (i := 235) rfl), sp_tb2 _ (List.mem_of_getElem? (i := 236) rfl)⟩
abbrev M_Name_judge : sp_Me := (yX3_judge, cX3_judge, 2, (Option.some Jvm.ClassFile.FieldType.int), 9, 201)
theorem ok_Name_judge : sp_okV M_Name_judge 1 := ⟨⟨sp_tb2 _ (List.mem_of_getElem? (i := 233) rfl), sp_tb1 _ (List.mem_of_getElem? (i := 10) rfl), ⟨by decide, by decide⟩, by decide +kernel⟩, sp_tb2 _ (List.mem_of_getElem? (i := 231) rfl), sp_tb2 _ (List.mem_of_getElem? (i := 232) rfl)⟩
abbrev M_Name_hasControlByte : sp_Me := (yX3_hasControlByte, cX3_hasControlByte, 2, (Option.some Jvm.ClassFile.FieldType.boolean), 0, 0)
theorem ok_Name_hasControlByte : sp_okV M_Name_hasControlByte 0 := ⟨⟨sp_tb3 _ (List.mem_of_getElem? (i := 1) rfl), sp_tb1 _ (List.mem_of_getElem? (i := 10) rfl), ⟨by decide, by decide⟩, by decide +kernel⟩, sp_tb3 _ (List.mem_of_getElem? (i := 0) rfl), List.mem_of_getElem? (i := 5) rfl⟩
abbrev M_Name_isOfOtherSystems : sp_Me := (yX3_isOfOtherSystems, cX3_isOfOtherSystems, 2, (Option.some Jvm.ClassFile.FieldType.boolean), 8, 180)
theorem ok_Name_isOfOtherSystems : sp_okV M_Name_isOfOtherSystems 0 := ⟨⟨sp_tb3 _ (List.mem_of_getElem? (i := 5) rfl), sp_tb1 _ (List.mem_of_getElem? (i := 10) rfl), ⟨by decide, by decide⟩, by decide +kernel⟩, sp_tb3 _ (List.mem_of_getElem? (i := 4) rfl), List.mem_of_getElem? (i := 6) rfl⟩
abbrev M_Name_hasMark : sp_Me := (yX3_hasMark, cX3_hasMark, 2, (Option.some Jvm.ClassFile.FieldType.boolean), 7, 159)
theorem ok_Name_hasMark : sp_okV M_Name_hasMark 0 := ⟨⟨sp_tb3 _ (List.mem_of_getElem? (i := 13) rfl), sp_tb1 _ (List.mem_of_getElem? (i := 10) rfl), ⟨by decide, by decide⟩, by decide +kernel⟩, sp_tb3 _ (List.mem_of_getElem? (i := 12) rfl), List.mem_of_getElem? (i := 7) rfl⟩
abbrev M_Name_isKeptWord : sp_Me := (yX3_isKeptWord, cX3_isKeptWord, 3, (Option.some Jvm.ClassFile.FieldType.boolean), 6, 129)
theorem ok_Name_isKeptWord : sp_okV M_Name_isKeptWord 0 := ⟨⟨sp_tb3 _ (List.mem_of_getElem? (i := 100) rfl), sp_tb1 _ (List.mem_of_getElem? (i := 10) rfl), ⟨by decide, by decide⟩, by decide +kernel⟩, sp_tb3 _ (List.mem_of_getElem? (i := 99) rfl), List.mem_of_getElem? (i := 8) rfl⟩
abbrev M_Name_lengthToFirstDot : sp_Me := (yX3_lengthToFirstDot, cX3_lengthToFirstDot, 2, (Option.some Jvm.ClassFile.FieldType.int), 0, 0)
theorem ok_Name_lengthToFirstDot : sp_okV M_Name_lengthToFirstDot 0 := ⟨⟨sp_tb3 _ (List.mem_of_getElem? (i := 104) rfl), sp_tb1 _ (List.mem_of_getElem? (i := 10) rfl), ⟨by decide, by decide⟩, by decide +kernel⟩, sp_tb3 _ (List.mem_of_getElem? (i := 103) rfl), List.mem_of_getElem? (i := 9) rfl⟩
abbrev M_Name_beginsWithOneOf : sp_Me := (yX3_beginsWithOneOf, cX3_beginsWithOneOf, 4, (Option.some Jvm.ClassFile.FieldType.boolean), 5, 106)
theorem ok_Name_beginsWithOneOf : sp_okV M_Name_beginsWithOneOf 1 := ⟨⟨sp_tb3 _ (List.mem_of_getElem? (i := 109) rfl), sp_tb1 _ (List.mem_of_getElem? (i := 10) rfl), ⟨by decide, by decide⟩, by decide +kernel⟩, sp_tb3 _ (List.mem_of_getElem? (i := 108) rfl), List.mem_of_getElem? (i := 10) rfl⟩
abbrev M_Node_init : sp_Me := (yX4_init, cX4_init, 7, (Option.none : Option Jvm.ClassFile.FieldType), 1, 14)
theorem ok_Node_init : sp_okI M_Node_init 6 := ⟨⟨sp_tb1 _ (List.mem_of_getElem? (i := 161) rfl), sp_tb1 _ (List.mem_of_getElem? (i := 9) rfl), ⟨by decide, by decide⟩, by decide +kernel⟩, rfl, sp_tb1 _ (List.mem_of_getElem? (i := 160) rfl)⟩
abbrev M_Node_isFolder : sp_Me := (yX4_isFolder, cX4_isFolder, 1, (Option.some Jvm.ClassFile.FieldType.boolean), 0, 0)
theorem ok_Node_isFolder : sp_okV M_Node_isFolder 0 := ⟨⟨sp_tb4 _ (List.mem_of_getElem? (i := 72) rfl), sp_tb1 _ (List.mem_of_getElem? (i := 9) rfl), ⟨by decide, by decide⟩, by decide +kernel⟩, sp_tb4 _ (List.mem_of_getElem? (i := 70) rfl), sp_tb4 _ (List.mem_of_getElem? (i := 71) rfl)⟩
abbrev M_Node_up : sp_Me := (yX4_up, cX4_up, 1, (Option.some (Jvm.ClassFile.FieldType.object "SafePaths$Node")), 0, 0)
theorem ok_Node_up : sp_okV M_Node_up 0 := ⟨⟨sp_tb4 _ (List.mem_of_getElem? (i := 45) rfl), sp_tb1 _ (List.mem_of_getElem? (i := 9) rfl), ⟨by decide, by decide⟩, by decide +kernel⟩, sp_tb4 _ (List.mem_of_getElem? (i := 43) rfl), sp_tb4 _ (List.mem_of_getElem? (i := 44) rfl)⟩
abbrev M_Node_state : sp_Me := (yX4_state, cX4_state, 1, (Option.some Jvm.ClassFile.FieldType.int), 0, 0)
theorem ok_Node_state : sp_okV M_Node_state 0 := ⟨⟨sp_tb4 _ (List.mem_of_getElem? (i := 198) rfl), sp_tb1 _ (List.mem_of_getElem? (i := 9) rfl), ⟨by decide, by decide⟩, by decide +kernel⟩, sp_tb4 _ (List.mem_of_getElem? (i := 196) rfl), sp_tb4 _ (List.mem_of_getElem? (i := 197) rfl)⟩
abbrev M_Note_init : sp_Me := (yX5_init, cX5_init, 3, (Option.none : Option Jvm.ClassFile.FieldType), 1, 14)
theorem ok_Note_init : sp_okI M_Note_init 2 := ⟨⟨sp_tb4 _ (List.mem_of_getElem? (i := 165) rfl), sp_tb1 _ (List.mem_of_getElem? (i := 26) rfl), ⟨by decide, by decide⟩, by decide +kernel⟩, rfl, sp_tb4 _ (List.mem_of_getElem? (i := 164) rfl)⟩
abbrev M_Parted_init : sp_Me := (yX6_init, cX6_init, 4, (Option.none : Option Jvm.ClassFile.FieldType), 2, 48)
theorem ok_Parted_init : sp_okI M_Parted_init 3 := ⟨⟨sp_tb3 _ (List.mem_of_getElem? (i := 139) rfl), sp_tb1 _ (List.mem_of_getElem? (i := 24) rfl), ⟨by decide, by decide⟩, by decide +kernel⟩, rfl, sp_tb3 _ (List.mem_of_getElem? (i := 138) rfl)⟩
abbrev M_Parted_count : sp_Me := (yX6_count, cX6_count, 1, (Option.some Jvm.ClassFile.FieldType.int), 1, 20)
theorem ok_Parted_count : sp_okV M_Parted_count 0 := ⟨⟨sp_tb3 _ (List.mem_of_getElem? (i := 186) rfl), sp_tb1 _ (List.mem_of_getElem? (i := 24) rfl), ⟨by decide, by decide⟩, by decide +kernel⟩, sp_tb3 _ (List.mem_of_getElem? (i := 184) rfl), sp_tb3 _ (List.mem_of_getElem? (i := 185) rfl)⟩
abbrev M_Parted_at : sp_Me := (yX6_at, cX6_at, 2, (Option.some (Jvm.ClassFile.FieldType.object "SafePaths$Name")), 3, 64)
theorem ok_Parted_at : sp_okV M_Parted_at 1 := ⟨⟨sp_tb3 _ (List.mem_of_getElem? (i := 175) rfl), sp_tb1 _ (List.mem_of_getElem? (i := 24) rfl), ⟨by decide, by decide⟩, by decide +kernel⟩, sp_tb3 _ (List.mem_of_getElem? (i := 173) rfl), sp_tb3 _ (List.mem_of_getElem? (i := 174) rfl)⟩
abbrev M_Rules_init : sp_Me := (yX7_init, cX7_init, 2, (Option.none : Option Jvm.ClassFile.FieldType), 1, 14)
theorem ok_Rules_init : sp_okI M_Rules_init 1 := ⟨⟨sp_tb1 _ (List.mem_of_getElem? (i := 39) rfl), sp_tb1 _ (List.mem_of_getElem? (i := 2) rfl), ⟨by decide, by decide⟩, by decide +kernel⟩, rfl, sp_tb1 _ (List.mem_of_getElem? (i := 38) rfl)⟩
abbrev M_Rules_divides : sp_Me := (yX7_divides, cX7_divides, 2, (Option.some Jvm.ClassFile.FieldType.boolean), 0, 0)
theorem ok_Rules_divides : sp_okV M_Rules_divides 1 := ⟨⟨sp_tb2 _ (List.mem_of_getElem? (i := 183) rfl), sp_tb1 _ (List.mem_of_getElem? (i := 2) rfl), ⟨by decide, by decide⟩, by decide +kernel⟩, sp_tb2 _ (List.mem_of_getElem? (i := 181) rfl), sp_tb2 _ (List.mem_of_getElem? (i := 182) rfl)⟩
abbrev M_Rules_takeAsOne : sp_Me := (yX7_takeAsOne, cX7_takeAsOne, 3, (Option.some Jvm.ClassFile.FieldType.boolean), 2, 43)
theorem ok_Rules_takeAsOne : sp_okV M_Rules_takeAsOne 2 := ⟨⟨sp_tb3 _ (List.mem_of_getElem? (i := 190) rfl), sp_tb1 _ (List.mem_of_getElem? (i := 2) rfl), ⟨by decide, by decide⟩, by decide +kernel⟩, sp_tb3 _ (List.mem_of_getElem? (i := 188) rfl), sp_tb3 _ (List.mem_of_getElem? (i := 189) rfl)⟩
abbrev M_Taking_init : sp_Me := (yX8_init, cX8_init, 4, (Option.none : Option Jvm.ClassFile.FieldType), 4, 74)
theorem ok_Taking_init : sp_okI M_Taking_init 3 := ⟨⟨sp_tb2 _ (List.mem_of_getElem? (i := 84) rfl), sp_tb1 _ (List.mem_of_getElem? (i := 16) rfl), ⟨by decide, by decide⟩, by decide +kernel⟩, rfl, sp_tb2 _ (List.mem_of_getElem? (i := 83) rfl)⟩
abbrev M_Taking_changeNodeLimit : sp_Me := (yX8_changeNodeLimit, cX8_changeNodeLimit, 5, (Option.some Jvm.ClassFile.FieldType.long), 0, 0)
theorem ok_Taking_changeNodeLimit : sp_okV M_Taking_changeNodeLimit 1 := ⟨⟨sp_tb4 _ (List.mem_of_getElem? (i := 207) rfl), sp_tb1 _ (List.mem_of_getElem? (i := 16) rfl), ⟨by decide, by decide⟩, by decide +kernel⟩, sp_tb4 _ (List.mem_of_getElem? (i := 205) rfl), sp_tb4 _ (List.mem_of_getElem? (i := 206) rfl)⟩
abbrev M_Taking_changeSizeLimit : sp_Me := (yX8_changeSizeLimit, cX8_changeSizeLimit, 5, (Option.some Jvm.ClassFile.FieldType.long), 0, 0)
theorem ok_Taking_changeSizeLimit : sp_okV M_Taking_changeSizeLimit 1 := ⟨⟨sp_tb4 _ (List.mem_of_getElem? (i := 211) rfl), sp_tb1 _ (List.mem_of_getElem? (i := 16) rfl), ⟨by decide, by decide⟩, by decide +kernel⟩, sp_tb4 _ (List.mem_of_getElem? (i := 209) rfl), sp_tb4 _ (List.mem_of_getElem? (i := 210) rfl)⟩
abbrev M_Taking_notedCount : sp_Me := (yX8_notedCount, cX8_notedCount, 1, (Option.some Jvm.ClassFile.FieldType.int), 1, 20)
theorem ok_Taking_notedCount : sp_okV M_Taking_notedCount 0 := ⟨⟨sp_tb5 _ (List.mem_of_getElem? (i := 45) rfl), sp_tb1 _ (List.mem_of_getElem? (i := 16) rfl), ⟨by decide, by decide⟩, by decide +kernel⟩, sp_tb5 _ (List.mem_of_getElem? (i := 43) rfl), sp_tb5 _ (List.mem_of_getElem? (i := 44) rfl)⟩
abbrev M_Taking_setNotedRights : sp_Me := (yX8_setNotedRights, cX8_setNotedRights, 3, (Option.none : Option Jvm.ClassFile.FieldType), 3, 64)
theorem ok_Taking_setNotedRights : sp_okV M_Taking_setNotedRights 0 := ⟨⟨sp_tb4 _ (List.mem_of_getElem? (i := 188) rfl), sp_tb1 _ (List.mem_of_getElem? (i := 16) rfl), ⟨by decide, by decide⟩, by decide +kernel⟩, sp_tb4 _ (List.mem_of_getElem? (i := 186) rfl), sp_tb4 _ (List.mem_of_getElem? (i := 187) rfl)⟩
abbrev M_Taking_judge : sp_Me := (yX8_judge, cX8_judge, 3, (Option.some Jvm.ClassFile.FieldType.int), 11, 262)
theorem ok_Taking_judge : sp_okV M_Taking_judge 1 := ⟨⟨sp_tb4 _ (List.mem_of_getElem? (i := 17) rfl), sp_tb1 _ (List.mem_of_getElem? (i := 16) rfl), ⟨by decide, by decide⟩, by decide +kernel⟩, sp_tb4 _ (List.mem_of_getElem? (i := 15) rfl), sp_tb4 _ (List.mem_of_getElem? (i := 16) rfl)⟩
abbrev M_Taking_forgetLastJudgement : sp_Me := (yX8_forgetLastJudgement, cX8_forgetLastJudgement, 1, (Option.none : Option Jvm.ClassFile.FieldType), 0, 0)
theorem ok_Taking_forgetLastJudgement : sp_okV M_Taking_forgetLastJudgement 0 := ⟨⟨sp_tb4 _ (List.mem_of_getElem? (i := 21) rfl), sp_tb1 _ (List.mem_of_getElem? (i := 16) rfl), ⟨by decide, by decide⟩, by decide +kernel⟩, sp_tb4 _ (List.mem_of_getElem? (i := 20) rfl), List.mem_of_getElem? (i := 13) rfl⟩
abbrev M_Taking_judgeWay : sp_Me := (yX8_judgeWay, cX8_judgeWay, 4, (Option.some Jvm.ClassFile.FieldType.int), 6, 132)
theorem ok_Taking_judgeWay : sp_okV M_Taking_judgeWay 1 := ⟨⟨sp_tb4 _ (List.mem_of_getElem? (i := 25) rfl), sp_tb1 _ (List.mem_of_getElem? (i := 16) rfl), ⟨by decide, by decide⟩, by decide +kernel⟩, sp_tb4 _ (List.mem_of_getElem? (i := 24) rfl), List.mem_of_getElem? (i := 14) rfl⟩
abbrev M_Taking_judgeWayPart : sp_Me := (yX8_judgeWayPart, cX8_judgeWayPart, 3, (Option.some Jvm.ClassFile.FieldType.int), 5, 110)
theorem ok_Taking_judgeWayPart : sp_okV M_Taking_judgeWayPart 1 := ⟨⟨sp_tb4 _ (List.mem_of_getElem? (i := 31) rfl), sp_tb1 _ (List.mem_of_getElem? (i := 16) rfl), ⟨by decide, by decide⟩, by decide +kernel⟩, sp_tb4 _ (List.mem_of_getElem? (i := 30) rfl), List.mem_of_getElem? (i := 15) rfl⟩
abbrev M_Taking_nextBy : sp_Me := (yX8_nextBy, cX8_nextBy, 2, (Option.some (Jvm.ClassFile.FieldType.object "SafePaths$Node")), 4, 89)
theorem ok_Taking_nextBy : sp_okV M_Taking_nextBy 1 := ⟨⟨sp_tb4 _ (List.mem_of_getElem? (i := 35) rfl), sp_tb1 _ (List.mem_of_getElem? (i := 16) rfl), ⟨by decide, by decide⟩, by decide +kernel⟩, sp_tb4 _ (List.mem_of_getElem? (i := 34) rfl), List.mem_of_getElem? (i := 16) rfl⟩
abbrev M_Taking_judgeLack : sp_Me := (yX8_judgeLack, cX8_judgeLack, 1, (Option.some Jvm.ClassFile.FieldType.int), 1, 20)
theorem ok_Taking_judgeLack : sp_okV M_Taking_judgeLack 0 := ⟨⟨sp_tb4 _ (List.mem_of_getElem? (i := 51) rfl), sp_tb1 _ (List.mem_of_getElem? (i := 16) rfl), ⟨by decide, by decide⟩, by decide +kernel⟩, sp_tb4 _ (List.mem_of_getElem? (i := 50) rfl), List.mem_of_getElem? (i := 17) rfl⟩
abbrev M_Taking_isShut : sp_Me := (yX8_isShut, cX8_isShut, 1, (Option.some Jvm.ClassFile.FieldType.boolean), 0, 0)
theorem ok_Taking_isShut : sp_okV M_Taking_isShut 0 := ⟨⟨sp_tb4 _ (List.mem_of_getElem? (i := 55) rfl), sp_tb1 _ (List.mem_of_getElem? (i := 16) rfl), ⟨by decide, by decide⟩, by decide +kernel⟩, sp_tb4 _ (List.mem_of_getElem? (i := 54) rfl), List.mem_of_getElem? (i := 18) rfl⟩
abbrev M_Taking_isRefusedMeeting : sp_Me := (yX8_isRefusedMeeting, cX8_isRefusedMeeting, 3, (Option.some Jvm.ClassFile.FieldType.boolean), 2, 43)
theorem ok_Taking_isRefusedMeeting : sp_okV M_Taking_isRefusedMeeting 2 := ⟨⟨sp_tb4 _ (List.mem_of_getElem? (i := 59) rfl), sp_tb1 _ (List.mem_of_getElem? (i := 16) rfl), ⟨by decide, by decide⟩, by decide +kernel⟩, sp_tb4 _ (List.mem_of_getElem? (i := 58) rfl), List.mem_of_getElem? (i := 19) rfl⟩
abbrev M_Taking_judgeLast : sp_Me := (yX8_judgeLast, cX8_judgeLast, 2, (Option.some Jvm.ClassFile.FieldType.int), 5, 110)
theorem ok_Taking_judgeLast : sp_okV M_Taking_judgeLast 1 := ⟨⟨sp_tb4 _ (List.mem_of_getElem? (i := 64) rfl), sp_tb1 _ (List.mem_of_getElem? (i := 16) rfl), ⟨by decide, by decide⟩, by decide +kernel⟩, sp_tb4 _ (List.mem_of_getElem? (i := 63) rfl), List.mem_of_getElem? (i := 20) rfl⟩
abbrev M_Taking_judgeKind : sp_Me := (yX8_judgeKind, cX8_judgeKind, 2, (Option.some Jvm.ClassFile.FieldType.int), 10, 241)
theorem ok_Taking_judgeKind : sp_okV M_Taking_judgeKind 1 := ⟨⟨sp_tb4 _ (List.mem_of_getElem? (i := 68) rfl), sp_tb1 _ (List.mem_of_getElem? (i := 16) rfl), ⟨by decide, by decide⟩, by decide +kernel⟩, sp_tb4 _ (List.mem_of_getElem? (i := 67) rfl), List.mem_of_getElem? (i := 21) rfl⟩
abbrev M_Taking_isPlaceTaken : sp_Me := (yX8_isPlaceTaken, cX8_isPlaceTaken, 2, (Option.some Jvm.ClassFile.FieldType.boolean), 1, 20)
theorem ok_Taking_isPlaceTaken : sp_okV M_Taking_isPlaceTaken 1 := ⟨⟨sp_tb4 _ (List.mem_of_getElem? (i := 76) rfl), sp_tb1 _ (List.mem_of_getElem? (i := 16) rfl), ⟨by decide, by decide⟩, by decide +kernel⟩, sp_tb4 _ (List.mem_of_getElem? (i := 75) rfl), List.mem_of_getElem? (i := 22) rfl⟩
abbrev M_Taking_judgeSharing : sp_Me := (yX8_judgeSharing, cX8_judgeSharing, 3, (Option.some Jvm.ClassFile.FieldType.int), 5, 114)
theorem ok_Taking_judgeSharing : sp_okV M_Taking_judgeSharing 1 := ⟨⟨sp_tb4 _ (List.mem_of_getElem? (i := 123) rfl), sp_tb1 _ (List.mem_of_getElem? (i := 16) rfl), ⟨by decide, by decide⟩, by decide +kernel⟩, sp_tb4 _ (List.mem_of_getElem? (i := 122) rfl), List.mem_of_getElem? (i := 27) rfl⟩
abbrev M_Taking_judgeLimits : sp_Me := (yX8_judgeLimits, cX8_judgeLimits, 3, (Option.some Jvm.ClassFile.FieldType.int), 2, 40)
theorem ok_Taking_judgeLimits : sp_okV M_Taking_judgeLimits 1 := ⟨⟨sp_tb4 _ (List.mem_of_getElem? (i := 135) rfl), sp_tb1 _ (List.mem_of_getElem? (i := 16) rfl), ⟨by decide, by decide⟩, by decide +kernel⟩, sp_tb4 _ (List.mem_of_getElem? (i := 134) rfl), List.mem_of_getElem? (i := 28) rfl⟩
abbrev M_Taking_carryOut : sp_Me := (yX8_carryOut, cX8_carryOut, 3, (Option.some Jvm.ClassFile.FieldType.int), 10, 240)
theorem ok_Taking_carryOut : sp_okV M_Taking_carryOut 1 := ⟨⟨sp_tb4 _ (List.mem_of_getElem? (i := 143) rfl), sp_tb1 _ (List.mem_of_getElem? (i := 16) rfl), ⟨by decide, by decide⟩, by decide +kernel⟩, sp_tb4 _ (List.mem_of_getElem? (i := 141) rfl), sp_tb4 _ (List.mem_of_getElem? (i := 142) rfl)⟩
abbrev M_Taking_bring : sp_Me := (yX8_bring, cX8_bring, 5, (Option.some (Jvm.ClassFile.FieldType.object "SafePaths$Node")), 9, 216)
theorem ok_Taking_bring : sp_okV M_Taking_bring 1 := ⟨⟨sp_tb4 _ (List.mem_of_getElem? (i := 147) rfl), sp_tb1 _ (List.mem_of_getElem? (i := 16) rfl), ⟨by decide, by decide⟩, by decide +kernel⟩, sp_tb4 _ (List.mem_of_getElem? (i := 146) rfl), List.mem_of_getElem? (i := 29) rfl⟩
abbrev M_Taking_bodyFor : sp_Me := (yX8_bodyFor, cX8_bodyFor, 2, (Option.some (Jvm.ClassFile.FieldType.object "SafePaths$Body")), 8, 195)
theorem ok_Taking_bodyFor : sp_okV M_Taking_bodyFor 1 := ⟨⟨sp_tb4 _ (List.mem_of_getElem? (i := 155) rfl), sp_tb1 _ (List.mem_of_getElem? (i := 16) rfl), ⟨by decide, by decide⟩, by decide +kernel⟩, sp_tb4 _ (List.mem_of_getElem? (i := 154) rfl), List.mem_of_getElem? (i := 30) rfl⟩
abbrev M_Tree_init : sp_Me := (yX9_init, cX9_init, 3, (Option.none : Option Jvm.ClassFile.FieldType), 7, 171)
theorem ok_Tree_init : sp_okI M_Tree_init 1 := ⟨⟨sp_tb1 _ (List.mem_of_getElem? (i := 109) rfl), sp_tb1 _ (List.mem_of_getElem? (i := 7) rfl), ⟨by decide, by decide⟩, by decide +kernel⟩, rfl, sp_tb1 _ (List.mem_of_getElem? (i := 108) rfl)⟩
abbrev M_Tree_nodeCount : sp_Me := (yX9_nodeCount, cX9_nodeCount, 1, (Option.some Jvm.ClassFile.FieldType.int), 1, 20)
theorem ok_Tree_nodeCount : sp_okV M_Tree_nodeCount 0 := ⟨⟨sp_tb4 _ (List.mem_of_getElem? (i := 139) rfl), sp_tb1 _ (List.mem_of_getElem? (i := 7) rfl), ⟨by decide, by decide⟩, by decide +kernel⟩, sp_tb4 _ (List.mem_of_getElem? (i := 137) rfl), sp_tb4 _ (List.mem_of_getElem? (i := 138) rfl)⟩
abbrev M_Tree_bodyCount : sp_Me := (yX9_bodyCount, cX9_bodyCount, 1, (Option.some Jvm.ClassFile.FieldType.int), 1, 20)
theorem ok_Tree_bodyCount : sp_okV M_Tree_bodyCount 0 := ⟨⟨sp_tb5 _ (List.mem_of_getElem? (i := 41) rfl), sp_tb1 _ (List.mem_of_getElem? (i := 7) rfl), ⟨by decide, by decide⟩, by decide +kernel⟩, sp_tb5 _ (List.mem_of_getElem? (i := 39) rfl), sp_tb5 _ (List.mem_of_getElem? (i := 40) rfl)⟩
abbrev M_Tree_at : sp_Me := (yX9_at, cX9_at, 2, (Option.some (Jvm.ClassFile.FieldType.object "SafePaths$Node")), 3, 64)
theorem ok_Tree_at : sp_okV M_Tree_at 1 := ⟨⟨sp_tb4 _ (List.mem_of_getElem? (i := 219) rfl), sp_tb1 _ (List.mem_of_getElem? (i := 7) rfl), ⟨by decide, by decide⟩, by decide +kernel⟩, sp_tb4 _ (List.mem_of_getElem? (i := 217) rfl), sp_tb4 _ (List.mem_of_getElem? (i := 218) rfl)⟩
abbrev M_Tree_bodyAt : sp_Me := (yX9_bodyAt, cX9_bodyAt, 2, (Option.some (Jvm.ClassFile.FieldType.object "SafePaths$Body")), 3, 64)
theorem ok_Tree_bodyAt : sp_okV M_Tree_bodyAt 1 := ⟨⟨sp_tb5 _ (List.mem_of_getElem? (i := 15) rfl), sp_tb1 _ (List.mem_of_getElem? (i := 7) rfl), ⟨by decide, by decide⟩, by decide +kernel⟩, sp_tb5 _ (List.mem_of_getElem? (i := 13) rfl), sp_tb5 _ (List.mem_of_getElem? (i := 14) rfl)⟩
abbrev M_Tree_addNode : sp_Me := (yX9_addNode, cX9_addNode, 7, (Option.some (Jvm.ClassFile.FieldType.object "SafePaths$Node")), 7, 171)
theorem ok_Tree_addNode : sp_okV M_Tree_addNode 5 := ⟨⟨sp_tb4 _ (List.mem_of_getElem? (i := 151) rfl), sp_tb1 _ (List.mem_of_getElem? (i := 7) rfl), ⟨by decide, by decide⟩, by decide +kernel⟩, sp_tb4 _ (List.mem_of_getElem? (i := 149) rfl), sp_tb4 _ (List.mem_of_getElem? (i := 150) rfl)⟩
abbrev M_Tree_addBody : sp_Me := (yX9_addBody, cX9_addBody, 5, (Option.some (Jvm.ClassFile.FieldType.object "SafePaths$Body")), 7, 171)
theorem ok_Tree_addBody : sp_okV M_Tree_addBody 2 := ⟨⟨sp_tb4 _ (List.mem_of_getElem? (i := 159) rfl), sp_tb1 _ (List.mem_of_getElem? (i := 7) rfl), ⟨by decide, by decide⟩, by decide +kernel⟩, sp_tb4 _ (List.mem_of_getElem? (i := 157) rfl), sp_tb4 _ (List.mem_of_getElem? (i := 158) rfl)⟩
abbrev M_Tree_childOf : sp_Me := (yX9_childOf, cX9_childOf, 6, (Option.some (Jvm.ClassFile.FieldType.object "SafePaths$Node")), 3, 64)
theorem ok_Tree_childOf : sp_okV M_Tree_childOf 2 := ⟨⟨sp_tb4 _ (List.mem_of_getElem? (i := 39) rfl), sp_tb1 _ (List.mem_of_getElem? (i := 7) rfl), ⟨by decide, by decide⟩, by decide +kernel⟩, sp_tb4 _ (List.mem_of_getElem? (i := 37) rfl), sp_tb4 _ (List.mem_of_getElem? (i := 38) rfl)⟩
abbrev M_Tree_reach : sp_Me := (yX9_reach, cX9_reach, 6, (Option.some (Jvm.ClassFile.FieldType.object "SafePaths$Node")), 4, 89)
theorem ok_Tree_reach : sp_okV M_Tree_reach 2 := ⟨⟨sp_tb4 _ (List.mem_of_getElem? (i := 127) rfl), sp_tb1 _ (List.mem_of_getElem? (i := 7) rfl), ⟨by decide, by decide⟩, by decide +kernel⟩, sp_tb4 _ (List.mem_of_getElem? (i := 125) rfl), sp_tb4 _ (List.mem_of_getElem? (i := 126) rfl)⟩
abbrev M_Tree_isOutside : sp_Me := (yX9_isOutside, cX9_isOutside, 3, (Option.some Jvm.ClassFile.FieldType.boolean), 0, 0)
theorem ok_Tree_isOutside : sp_okV M_Tree_isOutside 1 := ⟨⟨sp_tb4 _ (List.mem_of_getElem? (i := 95) rfl), sp_tb1 _ (List.mem_of_getElem? (i := 7) rfl), ⟨by decide, by decide⟩, by decide +kernel⟩, sp_tb4 _ (List.mem_of_getElem? (i := 93) rfl), sp_tb4 _ (List.mem_of_getElem? (i := 94) rfl)⟩
abbrev M_Tree_isUntouchedOutside : sp_Me := (yX9_isUntouchedOutside, cX9_isUntouchedOutside, 1, (Option.some Jvm.ClassFile.FieldType.boolean), 1, 20)
theorem ok_Tree_isUntouchedOutside : sp_okV M_Tree_isUntouchedOutside 0 := ⟨⟨sp_tb5 _ (List.mem_of_getElem? (i := 27) rfl), sp_tb1 _ (List.mem_of_getElem? (i := 7) rfl), ⟨by decide, by decide⟩, by decide +kernel⟩, sp_tb5 _ (List.mem_of_getElem? (i := 25) rfl), sp_tb5 _ (List.mem_of_getElem? (i := 26) rfl)⟩
abbrev M_Tree_isAllElseBelowRoot : sp_Me := (yX9_isAllElseBelowRoot, cX9_isAllElseBelowRoot, 2, (Option.some Jvm.ClassFile.FieldType.boolean), 3, 64)
theorem ok_Tree_isAllElseBelowRoot : sp_okV M_Tree_isAllElseBelowRoot 0 := ⟨⟨sp_tb5 _ (List.mem_of_getElem? (i := 31) rfl), sp_tb1 _ (List.mem_of_getElem? (i := 7) rfl), ⟨by decide, by decide⟩, by decide +kernel⟩, sp_tb5 _ (List.mem_of_getElem? (i := 29) rfl), sp_tb5 _ (List.mem_of_getElem? (i := 30) rfl)⟩
abbrev M_Tree_contentOf : sp_Me := (yX9_contentOf, cX9_contentOf, 2, (Option.some Jvm.ClassFile.FieldType.int), 4, 88)
theorem ok_Tree_contentOf : sp_okV M_Tree_contentOf 1 := ⟨⟨sp_tb4 _ (List.mem_of_getElem? (i := 235) rfl), sp_tb1 _ (List.mem_of_getElem? (i := 7) rfl), ⟨by decide, by decide⟩, by decide +kernel⟩, sp_tb4 _ (List.mem_of_getElem? (i := 233) rfl), sp_tb4 _ (List.mem_of_getElem? (i := 234) rfl)⟩
abbrev M_Tree_countIn : sp_Me := (yX9_countIn, cX9_countIn, 5, (Option.some Jvm.ClassFile.FieldType.int), 3, 64)
theorem ok_Tree_countIn : sp_okV M_Tree_countIn 1 := ⟨⟨sp_tb4 _ (List.mem_of_getElem? (i := 239) rfl), sp_tb1 _ (List.mem_of_getElem? (i := 7) rfl), ⟨by decide, by decide⟩, by decide +kernel⟩, sp_tb4 _ (List.mem_of_getElem? (i := 238) rfl), List.mem_of_getElem? (i := 31) rfl⟩
abbrev M_Tree_countShut : sp_Me := (yX9_countShut, cX9_countShut, 3, (Option.some Jvm.ClassFile.FieldType.int), 3, 64)
theorem ok_Tree_countShut : sp_okV M_Tree_countShut 0 := ⟨⟨sp_tb4 _ (List.mem_of_getElem? (i := 194) rfl), sp_tb1 _ (List.mem_of_getElem? (i := 7) rfl), ⟨by decide, by decide⟩, by decide +kernel⟩, sp_tb4 _ (List.mem_of_getElem? (i := 192) rfl), sp_tb4 _ (List.mem_of_getElem? (i := 193) rfl)⟩
abbrev M_Tree_countFilesWith : sp_Me := (yX9_countFilesWith, cX9_countFilesWith, 5, (Option.some Jvm.ClassFile.FieldType.int), 3, 64)
theorem ok_Tree_countFilesWith : sp_okV M_Tree_countFilesWith 1 := ⟨⟨sp_tb5 _ (List.mem_of_getElem? (i := 19) rfl), sp_tb1 _ (List.mem_of_getElem? (i := 7) rfl), ⟨by decide, by decide⟩, by decide +kernel⟩, sp_tb5 _ (List.mem_of_getElem? (i := 17) rfl), sp_tb5 _ (List.mem_of_getElem? (i := 18) rfl)⟩
abbrev M_Walk_init : sp_Me := (yX10_init, cX10_init, 2, (Option.none : Option Jvm.ClassFile.FieldType), 4, 74)
theorem ok_Walk_init : sp_okI M_Walk_init 1 := ⟨⟨sp_tb2 _ (List.mem_of_getElem? (i := 60) rfl), sp_tb1 _ (List.mem_of_getElem? (i := 15) rfl), ⟨by decide, by decide⟩, by decide +kernel⟩, rfl, sp_tb2 _ (List.mem_of_getElem? (i := 59) rfl)⟩
abbrev M_Walk_goThrough : sp_Me := (yX10_goThrough, cX10_goThrough, 7, (Option.some Jvm.ClassFile.FieldType.int), 9, 215)
theorem ok_Walk_goThrough : sp_okV M_Walk_goThrough 3 := ⟨⟨sp_tb4 _ (List.mem_of_getElem? (i := 80) rfl), sp_tb1 _ (List.mem_of_getElem? (i := 15) rfl), ⟨by decide, by decide⟩, by decide +kernel⟩, sp_tb4 _ (List.mem_of_getElem? (i := 78) rfl), sp_tb4 _ (List.mem_of_getElem? (i := 79) rfl)⟩
abbrev M_Walk_begin : sp_Me := (yX10_begin, cX10_begin, 4, (Option.none : Option Jvm.ClassFile.FieldType), 7, 171)
theorem ok_Walk_begin : sp_okV M_Walk_begin 2 := ⟨⟨sp_tb4 _ (List.mem_of_getElem? (i := 88) rfl), sp_tb1 _ (List.mem_of_getElem? (i := 15) rfl), ⟨by decide, by decide⟩, by decide +kernel⟩, sp_tb4 _ (List.mem_of_getElem? (i := 87) rfl), List.mem_of_getElem? (i := 23) rfl⟩
abbrev M_Walk_goUp : sp_Me := (yX10_goUp, cX10_goUp, 1, (Option.some Jvm.ClassFile.FieldType.int), 1, 20)
theorem ok_Walk_goUp : sp_okV M_Walk_goUp 0 := ⟨⟨sp_tb4 _ (List.mem_of_getElem? (i := 112) rfl), sp_tb1 _ (List.mem_of_getElem? (i := 15) rfl), ⟨by decide, by decide⟩, by decide +kernel⟩, sp_tb4 _ (List.mem_of_getElem? (i := 111) rfl), List.mem_of_getElem? (i := 25) rfl⟩
abbrev M_Walk_goTo : sp_Me := (yX10_goTo, cX10_goTo, 2, (Option.some Jvm.ClassFile.FieldType.int), 8, 194)
theorem ok_Walk_goTo : sp_okV M_Walk_goTo 1 := ⟨⟨sp_tb4 _ (List.mem_of_getElem? (i := 118) rfl), sp_tb1 _ (List.mem_of_getElem? (i := 15) rfl), ⟨by decide, by decide⟩, by decide +kernel⟩, sp_tb4 _ (List.mem_of_getElem? (i := 117) rfl), List.mem_of_getElem? (i := 26) rfl⟩
abbrev M_SP_init : sp_Me := (yX11_init, cX11_init, 2, (Option.none : Option Jvm.ClassFile.FieldType), 8, 193)
theorem ok_SP_init : sp_okI M_SP_init 1 := ⟨⟨sp_tb1 _ (List.mem_of_getElem? (i := 31) rfl), sp_tb1 _ (List.mem_of_getElem? (i := 1) rfl), ⟨by decide, by decide⟩, by decide +kernel⟩, rfl, sp_tb1 _ (List.mem_of_getElem? (i := 30) rfl)⟩
abbrev M_SP_put : sp_Me := (yX11_put, cX11_put, 2, (Option.some Jvm.ClassFile.FieldType.int), 1, 21)
theorem ok_SP_put : sp_okV M_SP_put 1 := ⟨⟨sp_tb2 _ (List.mem_of_getElem? (i := 165) rfl), sp_tb1 _ (List.mem_of_getElem? (i := 1) rfl), ⟨by decide, by decide⟩, by decide +kernel⟩, sp_tb2 _ (List.mem_of_getElem? (i := 163) rfl), sp_tb2 _ (List.mem_of_getElem? (i := 164) rfl)⟩
abbrev M_SP_path : sp_Me := (yX11_path, cX11_path, 3, (Option.some Jvm.ClassFile.FieldType.int), 11, 245)
theorem ok_SP_path : sp_okV M_SP_path 0 := ⟨⟨sp_tb2 _ (List.mem_of_getElem? (i := 173) rfl), sp_tb1 _ (List.mem_of_getElem? (i := 1) rfl), ⟨by decide, by decide⟩, by decide +kernel⟩, sp_tb2 _ (List.mem_of_getElem? (i := 171) rfl), sp_tb2 _ (List.mem_of_getElem? (i := 172) rfl)⟩
abbrev M_SP_part : sp_Me := (yX11_part, cX11_part, 5, (Option.some Jvm.ClassFile.FieldType.int), 4, 85)
theorem ok_SP_part : sp_okV M_SP_part 3 := ⟨⟨sp_tb3 _ (List.mem_of_getElem? (i := 168) rfl), sp_tb1 _ (List.mem_of_getElem? (i := 1) rfl), ⟨by decide, by decide⟩, by decide +kernel⟩, sp_tb3 _ (List.mem_of_getElem? (i := 166) rfl), sp_tb3 _ (List.mem_of_getElem? (i := 167) rfl)⟩
abbrev M_SP_meets : sp_Me := (yX11_meets, cX11_meets, 6, (Option.some Jvm.ClassFile.FieldType.int), 4, 85)
theorem ok_SP_meets : sp_okV M_SP_meets 2 := ⟨⟨sp_tb3 _ (List.mem_of_getElem? (i := 182) rfl), sp_tb1 _ (List.mem_of_getElem? (i := 1) rfl), ⟨by decide, by decide⟩, by decide +kernel⟩, sp_tb3 _ (List.mem_of_getElem? (i := 180) rfl), sp_tb3 _ (List.mem_of_getElem? (i := 181) rfl)⟩
abbrev M_SP_target : sp_Me := (yX11_target, cX11_target, 2, (Option.some Jvm.ClassFile.FieldType.int), 9, 219)
theorem ok_SP_target : sp_okV M_SP_target 0 := ⟨⟨sp_tb3 _ (List.mem_of_getElem? (i := 205) rfl), sp_tb1 _ (List.mem_of_getElem? (i := 1) rfl), ⟨by decide, by decide⟩, by decide +kernel⟩, sp_tb3 _ (List.mem_of_getElem? (i := 203) rfl), sp_tb3 _ (List.mem_of_getElem? (i := 204) rfl)⟩
abbrev M_SP_entry : sp_Me := (yX11_entry, cX11_entry, 8, (Option.some Jvm.ClassFile.FieldType.int), 7, 171)
theorem ok_SP_entry : sp_okV M_SP_entry 4 := ⟨⟨sp_tb3 _ (List.mem_of_getElem? (i := 217) rfl), sp_tb1 _ (List.mem_of_getElem? (i := 1) rfl), ⟨by decide, by decide⟩, by decide +kernel⟩, sp_tb3 _ (List.mem_of_getElem? (i := 215) rfl), sp_tb3 _ (List.mem_of_getElem? (i := 216) rfl)⟩
abbrev M_SP_take : sp_Me := (yX11_take, cX11_take, 4, (Option.some Jvm.ClassFile.FieldType.int), 12, 284)
theorem ok_SP_take : sp_okV M_SP_take 1 := ⟨⟨sp_tb4 _ (List.mem_of_getElem? (i := 13) rfl), sp_tb1 _ (List.mem_of_getElem? (i := 1) rfl), ⟨by decide, by decide⟩, by decide +kernel⟩, sp_tb4 _ (List.mem_of_getElem? (i := 11) rfl), sp_tb4 _ (List.mem_of_getElem? (i := 12) rfl)⟩
abbrev M_SP_dry : sp_Me := (yX11_dry, cX11_dry, 2, (Option.some Jvm.ClassFile.FieldType.int), 12, 284)
theorem ok_SP_dry : sp_okV M_SP_dry 1 := ⟨⟨sp_tb4 _ (List.mem_of_getElem? (i := 180) rfl), sp_tb1 _ (List.mem_of_getElem? (i := 1) rfl), ⟨by decide, by decide⟩, by decide +kernel⟩, sp_tb4 _ (List.mem_of_getElem? (i := 178) rfl), sp_tb4 _ (List.mem_of_getElem? (i := 179) rfl)⟩
abbrev M_SP_finish : sp_Me := (yX11_finish, cX11_finish, 1, (Option.some Jvm.ClassFile.FieldType.int), 4, 86)
theorem ok_SP_finish : sp_okV M_SP_finish 0 := ⟨⟨sp_tb4 _ (List.mem_of_getElem? (i := 184) rfl), sp_tb1 _ (List.mem_of_getElem? (i := 1) rfl), ⟨by decide, by decide⟩, by decide +kernel⟩, sp_tb4 _ (List.mem_of_getElem? (i := 182) rfl), sp_tb4 _ (List.mem_of_getElem? (i := 183) rfl)⟩
abbrev M_SP_limit : sp_Me := (yX11_limit, cX11_limit, 4, (Option.some Jvm.ClassFile.FieldType.long), 1, 24)
theorem ok_SP_limit : sp_okV M_SP_limit 2 := ⟨⟨sp_tb4 _ (List.mem_of_getElem? (i := 202) rfl), sp_tb1 _ (List.mem_of_getElem? (i := 1) rfl), ⟨by decide, by decide⟩, by decide +kernel⟩, sp_tb4 _ (List.mem_of_getElem? (i := 200) rfl), sp_tb4 _ (List.mem_of_getElem? (i := 201) rfl)⟩
abbrev M_SP_lead : sp_Me := (yX11_lead, cX11_lead, 3, (Option.some Jvm.ClassFile.FieldType.int), 10, 241)
theorem ok_SP_lead : sp_okV M_SP_lead 1 := ⟨⟨sp_tb4 _ (List.mem_of_getElem? (i := 215) rfl), sp_tb1 _ (List.mem_of_getElem? (i := 1) rfl), ⟨by decide, by decide⟩, by decide +kernel⟩, sp_tb4 _ (List.mem_of_getElem? (i := 213) rfl), sp_tb4 _ (List.mem_of_getElem? (i := 214) rfl)⟩
abbrev M_SP_find : sp_Me := (yX11_find, cX11_find, 4, (Option.some Jvm.ClassFile.FieldType.int), 5, 114)
theorem ok_SP_find : sp_okV M_SP_find 1 := ⟨⟨sp_tb4 _ (List.mem_of_getElem? (i := 225) rfl), sp_tb1 _ (List.mem_of_getElem? (i := 1) rfl), ⟨by decide, by decide⟩, by decide +kernel⟩, sp_tb4 _ (List.mem_of_getElem? (i := 223) rfl), sp_tb4 _ (List.mem_of_getElem? (i := 224) rfl)⟩
abbrev M_SP_node : sp_Me := (yX11_node, cX11_node, 4, (Option.some Jvm.ClassFile.FieldType.int), 5, 109)
theorem ok_SP_node : sp_okV M_SP_node 2 := ⟨⟨sp_tb4 _ (List.mem_of_getElem? (i := 230) rfl), sp_tb1 _ (List.mem_of_getElem? (i := 1) rfl), ⟨by decide, by decide⟩, by decide +kernel⟩, sp_tb4 _ (List.mem_of_getElem? (i := 228) rfl), sp_tb4 _ (List.mem_of_getElem? (i := 229) rfl)⟩
abbrev M_SP_name : sp_Me := (yX11_name, cX11_name, 4, (Option.some Jvm.ClassFile.FieldType.int), 4, 85)
theorem ok_SP_name : sp_okV M_SP_name 2 := ⟨⟨sp_tb5 _ (List.mem_of_getElem? (i := 7) rfl), sp_tb1 _ (List.mem_of_getElem? (i := 1) rfl), ⟨by decide, by decide⟩, by decide +kernel⟩, sp_tb5 _ (List.mem_of_getElem? (i := 5) rfl), sp_tb5 _ (List.mem_of_getElem? (i := 6) rfl)⟩
abbrev M_SP_body : sp_Me := (yX11_body, cX11_body, 4, (Option.some Jvm.ClassFile.FieldType.long), 4, 88)
theorem ok_SP_body : sp_okV M_SP_body 2 := ⟨⟨sp_tb5 _ (List.mem_of_getElem? (i := 11) rfl), sp_tb1 _ (List.mem_of_getElem? (i := 1) rfl), ⟨by decide, by decide⟩, by decide +kernel⟩, sp_tb5 _ (List.mem_of_getElem? (i := 9) rfl), sp_tb5 _ (List.mem_of_getElem? (i := 10) rfl)⟩
abbrev M_SP_inside : sp_Me := (yX11_inside, cX11_inside, 1, (Option.some Jvm.ClassFile.FieldType.boolean), 4, 85)
theorem ok_SP_inside : sp_okV M_SP_inside 0 := ⟨⟨sp_tb5 _ (List.mem_of_getElem? (i := 23) rfl), sp_tb1 _ (List.mem_of_getElem? (i := 1) rfl), ⟨by decide, by decide⟩, by decide +kernel⟩, sp_tb5 _ (List.mem_of_getElem? (i := 21) rfl), sp_tb5 _ (List.mem_of_getElem? (i := 22) rfl)⟩
abbrev M_SP_told : sp_Me := (yX11_told, cX11_told, 2, (Option.some Jvm.ClassFile.FieldType.int), 2, 40)
theorem ok_SP_told : sp_okV M_SP_told 1 := ⟨⟨sp_tb5 _ (List.mem_of_getElem? (i := 36) rfl), sp_tb1 _ (List.mem_of_getElem? (i := 1) rfl), ⟨by decide, by decide⟩, by decide +kernel⟩, sp_tb5 _ (List.mem_of_getElem? (i := 34) rfl), sp_tb5 _ (List.mem_of_getElem? (i := 35) rfl)⟩
abbrev M_SP_judgeAsPath : sp_Me := (yX11_judgeAsPath, cX11_judgeAsPath, 4, (Option.some Jvm.ClassFile.FieldType.int), 10, 222)
theorem ok_SP_judgeAsPath : sp_okV M_SP_judgeAsPath 1 := ⟨⟨sp_tb2 _ (List.mem_of_getElem? (i := 198) rfl), sp_tb1 _ (List.mem_of_getElem? (i := 1) rfl), ⟨by decide, by decide⟩, by decide +kernel⟩, sp_tb2 _ (List.mem_of_getElem? (i := 197) rfl), List.mem_of_getElem? (i := 4) rfl⟩
abbrev M_SP_earlierOf : sp_Me := (yX11_earlierOf, cX11_earlierOf, 2, (Option.some Jvm.ClassFile.FieldType.int), 1, 21)
theorem ok_SP_earlierOf : sp_okS M_SP_earlierOf 2 := ⟨⟨sp_tb3 _ (List.mem_of_getElem? (i := 132) rfl), sp_tb1 _ (List.mem_of_getElem? (i := 1) rfl), ⟨by decide, by decide⟩, by decide +kernel⟩, sp_tb3 _ (List.mem_of_getElem? (i := 131) rfl)⟩
abbrev M_SP_judgeAsTarget : sp_Me := (yX11_judgeAsTarget, cX11_judgeAsTarget, 1, (Option.some Jvm.ClassFile.FieldType.int), 1, 20)
theorem ok_SP_judgeAsTarget : sp_okV M_SP_judgeAsTarget 0 := ⟨⟨sp_tb3 _ (List.mem_of_getElem? (i := 209) rfl), sp_tb1 _ (List.mem_of_getElem? (i := 1) rfl), ⟨by decide, by decide⟩, by decide +kernel⟩, sp_tb3 _ (List.mem_of_getElem? (i := 208) rfl), List.mem_of_getElem? (i := 11) rfl⟩
abbrev M_SP_otherOf : sp_Me := (yX11_otherOf, cX11_otherOf, 4, (Option.some (Jvm.ClassFile.FieldType.object "SafePaths$Parted")), 4, 85)
theorem ok_SP_otherOf : sp_okV M_SP_otherOf 3 := ⟨⟨sp_tb3 _ (List.mem_of_getElem? (i := 221) rfl), sp_tb1 _ (List.mem_of_getElem? (i := 1) rfl), ⟨by decide, by decide⟩, by decide +kernel⟩, sp_tb3 _ (List.mem_of_getElem? (i := 220) rfl), List.mem_of_getElem? (i := 12) rfl⟩
abbrev M_SP_memberOf : sp_Me := (yX11_memberOf, cX11_memberOf, 2, (Option.some (Jvm.ClassFile.FieldType.object "SafePaths$Parted")), 3, 64)
theorem ok_SP_memberOf : sp_okS M_SP_memberOf 2 := ⟨⟨sp_tb3 _ (List.mem_of_getElem? (i := 171) rfl), sp_tb1 _ (List.mem_of_getElem? (i := 1) rfl), ⟨by decide, by decide⟩, by decide +kernel⟩, sp_tb3 _ (List.mem_of_getElem? (i := 170) rfl)⟩
abbrev M_Mo_init : sp_Me := (yX12_init, cX12_init, 2, (Option.none : Option Jvm.ClassFile.FieldType), 1, 24)
theorem ok_Mo_init : sp_okI M_Mo_init 1 := ⟨⟨sp_tb5 _ (List.mem_of_getElem? (i := 53) rfl), sp_tb1 _ (List.mem_of_getElem? (i := 17) rfl), ⟨by decide, by decide⟩, by decide +kernel⟩, rfl, sp_tb5 _ (List.mem_of_getElem? (i := 52) rfl)⟩
abbrev M_Mo_word3 : sp_Me := (yX12_word3, cX12_word3, 4, (Option.none : Option Jvm.ClassFile.FieldType), 0, 0)
theorem ok_Mo_word3 : sp_okV M_Mo_word3 3 := ⟨⟨sp_tb5 _ (List.mem_of_getElem? (i := 64) rfl), sp_tb1 _ (List.mem_of_getElem? (i := 17) rfl), ⟨by decide, by decide⟩, by decide +kernel⟩, sp_tb5 _ (List.mem_of_getElem? (i := 63) rfl), List.mem_of_getElem? (i := 33) rfl⟩
abbrev M_Mo_add : sp_Me := (yX12_add, cX12_add, 5, (Option.some Jvm.ClassFile.FieldType.int), 0, 0)
theorem ok_Mo_add : sp_okV M_Mo_add 2 := ⟨⟨sp_tb5 _ (List.mem_of_getElem? (i := 60) rfl), sp_tb1 _ (List.mem_of_getElem? (i := 17) rfl), ⟨by decide, by decide⟩, by decide +kernel⟩, sp_tb5 _ (List.mem_of_getElem? (i := 59) rfl), List.mem_of_getElem? (i := 32) rfl⟩
abbrev M_Mo_hasRule : sp_Me := (yX12_hasRule, cX12_hasRule, 2, (Option.some Jvm.ClassFile.FieldType.boolean), 0, 0)
theorem ok_Mo_hasRule : sp_okV M_Mo_hasRule 1 := ⟨⟨sp_tb5 _ (List.mem_of_getElem? (i := 214) rfl), sp_tb1 _ (List.mem_of_getElem? (i := 17) rfl), ⟨by decide, by decide⟩, by decide +kernel⟩, sp_tb5 _ (List.mem_of_getElem? (i := 213) rfl), List.mem_of_getElem? (i := 36) rfl⟩
abbrev M_Mo_isParting : sp_Me := (yX12_isParting, cX12_isParting, 2, (Option.some Jvm.ClassFile.FieldType.boolean), 1, 21)
theorem ok_Mo_isParting : sp_okV M_Mo_isParting 1 := ⟨⟨sp_tb5 _ (List.mem_of_getElem? (i := 210) rfl), sp_tb1 _ (List.mem_of_getElem? (i := 17) rfl), ⟨by decide, by decide⟩, by decide +kernel⟩, sp_tb5 _ (List.mem_of_getElem? (i := 209) rfl), List.mem_of_getElem? (i := 35) rfl⟩
abbrev M_Mo_small : sp_Me := (yX12_small, cX12_small, 1, (Option.some Jvm.ClassFile.FieldType.int), 0, 0)
theorem ok_Mo_small : sp_okS M_Mo_small 1 := ⟨⟨sp_tb5 _ (List.mem_of_getElem? (i := 229) rfl), sp_tb1 _ (List.mem_of_getElem? (i := 17) rfl), ⟨by decide, by decide⟩, by decide +kernel⟩, sp_tb5 _ (List.mem_of_getElem? (i := 228) rfl)⟩
abbrev M_Mo_put : sp_Me := (yX12_put, cX12_put, 2, (Option.some Jvm.ClassFile.FieldType.int), 0, 0)
theorem ok_Mo_put : sp_okV M_Mo_put 1 := ⟨⟨sp_tb5 _ (List.mem_of_getElem? (i := 198) rfl), sp_tb1 _ (List.mem_of_getElem? (i := 17) rfl), ⟨by decide, by decide⟩, by decide +kernel⟩, sp_tb5 _ (List.mem_of_getElem? (i := 196) rfl), sp_tb5 _ (List.mem_of_getElem? (i := 197) rfl)⟩
abbrev M_Mo_nextPart : sp_Me := (yX12_nextPart, cX12_nextPart, 4, (Option.some Jvm.ClassFile.FieldType.int), 2, 42)
theorem ok_Mo_nextPart : sp_okV M_Mo_nextPart 2 := ⟨⟨sp_tb5 _ (List.mem_of_getElem? (i := 206) rfl), sp_tb1 _ (List.mem_of_getElem? (i := 17) rfl), ⟨by decide, by decide⟩, by decide +kernel⟩, sp_tb5 _ (List.mem_of_getElem? (i := 205) rfl), List.mem_of_getElem? (i := 34) rfl⟩
abbrev M_Mo_isUp : sp_Me := (yX12_isUp, cX12_isUp, 1, (Option.some Jvm.ClassFile.FieldType.boolean), 0, 0)
theorem ok_Mo_isUp : sp_okV M_Mo_isUp 0 := ⟨⟨sp_tb5 _ (List.mem_of_getElem? (i := 218) rfl), sp_tb1 _ (List.mem_of_getElem? (i := 17) rfl), ⟨by decide, by decide⟩, by decide +kernel⟩, sp_tb5 _ (List.mem_of_getElem? (i := 217) rfl), List.mem_of_getElem? (i := 37) rfl⟩
abbrev M_Mo_isLike : sp_Me := (yX12_isLike, cX12_isLike, 5, (Option.some Jvm.ClassFile.FieldType.boolean), 1, 20)
theorem ok_Mo_isLike : sp_okV M_Mo_isLike 4 := ⟨⟨sp_tb5 _ (List.mem_of_getElem? (i := 226) rfl), sp_tb1 _ (List.mem_of_getElem? (i := 17) rfl), ⟨by decide, by decide⟩, by decide +kernel⟩, sp_tb5 _ (List.mem_of_getElem? (i := 225) rfl), List.mem_of_getElem? (i := 39) rfl⟩
abbrev M_Mo_isBad : sp_Me := (yX12_isBad, cX12_isBad, 5, (Option.some Jvm.ClassFile.FieldType.boolean), 2, 44)
theorem ok_Mo_isBad : sp_okV M_Mo_isBad 0 := ⟨⟨sp_tb5 _ (List.mem_of_getElem? (i := 222) rfl), sp_tb1 _ (List.mem_of_getElem? (i := 17) rfl), ⟨by decide, by decide⟩, by decide +kernel⟩, sp_tb5 _ (List.mem_of_getElem? (i := 221) rfl), List.mem_of_getElem? (i := 38) rfl⟩
abbrev M_Mo_path : sp_Me := (yX12_path, cX12_path, 10, (Option.some Jvm.ClassFile.FieldType.int), 3, 68)
theorem ok_Mo_path : sp_okV M_Mo_path 0 := ⟨⟨sp_tb5 _ (List.mem_of_getElem? (i := 202) rfl), sp_tb1 _ (List.mem_of_getElem? (i := 17) rfl), ⟨by decide, by decide⟩, by decide +kernel⟩, sp_tb5 _ (List.mem_of_getElem? (i := 200) rfl), sp_tb5 _ (List.mem_of_getElem? (i := 201) rfl)⟩
abbrev M_Mo_isPath : sp_Me := (yX12_isPath, cX12_isPath, 2, (Option.some Jvm.ClassFile.FieldType.boolean), 0, 0)
theorem ok_Mo_isPath : sp_okV M_Mo_isPath 1 := ⟨⟨sp_tb5 _ (List.mem_of_getElem? (i := 237) rfl), sp_tb1 _ (List.mem_of_getElem? (i := 17) rfl), ⟨by decide, by decide⟩, by decide +kernel⟩, sp_tb5 _ (List.mem_of_getElem? (i := 236) rfl), List.mem_of_getElem? (i := 40) rfl⟩
abbrev M_Mo_part : sp_Me := (yX12_part, cX12_part, 5, (Option.some Jvm.ClassFile.FieldType.int), 1, 21)
theorem ok_Mo_part : sp_okV M_Mo_part 3 := ⟨⟨sp_tb5 _ (List.mem_of_getElem? (i := 233) rfl), sp_tb1 _ (List.mem_of_getElem? (i := 17) rfl), ⟨by decide, by decide⟩, by decide +kernel⟩, sp_tb5 _ (List.mem_of_getElem? (i := 231) rfl), sp_tb5 _ (List.mem_of_getElem? (i := 232) rfl)⟩
abbrev M_Mo_meets : sp_Me := (yX12_meets, cX12_meets, 10, (Option.some Jvm.ClassFile.FieldType.int), 1, 21)
theorem ok_Mo_meets : sp_okV M_Mo_meets 2 := ⟨⟨sp_tb6 _ (List.mem_of_getElem? (i := 1) rfl), sp_tb1 _ (List.mem_of_getElem? (i := 17) rfl), ⟨by decide, by decide⟩, by decide +kernel⟩, sp_tb5 _ (List.mem_of_getElem? (i := 239) rfl), sp_tb6 _ (List.mem_of_getElem? (i := 0) rfl)⟩
abbrev M_Mo_target : sp_Me := (yX12_target, cX12_target, 3, (Option.some Jvm.ClassFile.FieldType.int), 0, 0)
theorem ok_Mo_target : sp_okV M_Mo_target 0 := ⟨⟨sp_tb6 _ (List.mem_of_getElem? (i := 5) rfl), sp_tb1 _ (List.mem_of_getElem? (i := 17) rfl), ⟨by decide, by decide⟩, by decide +kernel⟩, sp_tb6 _ (List.mem_of_getElem? (i := 3) rfl), sp_tb6 _ (List.mem_of_getElem? (i := 4) rfl)⟩
abbrev M_Mo_isNamed : sp_Me := (yX12_isNamed, cX12_isNamed, 6, (Option.some Jvm.ClassFile.FieldType.boolean), 1, 20)
theorem ok_Mo_isNamed : sp_okV M_Mo_isNamed 2 := ⟨⟨sp_tb6 _ (List.mem_of_getElem? (i := 33) rfl), sp_tb1 _ (List.mem_of_getElem? (i := 17) rfl), ⟨by decide, by decide⟩, by decide +kernel⟩, sp_tb6 _ (List.mem_of_getElem? (i := 32) rfl), List.mem_of_getElem? (i := 46) rfl⟩
abbrev M_Mo_in : sp_Me := (yX12_in, cX12_in, 4, (Option.some Jvm.ClassFile.FieldType.int), 2, 45)
theorem ok_Mo_in : sp_okV M_Mo_in 1 := ⟨⟨sp_tb6 _ (List.mem_of_getElem? (i := 29) rfl), sp_tb1 _ (List.mem_of_getElem? (i := 17) rfl), ⟨by decide, by decide⟩, by decide +kernel⟩, sp_tb6 _ (List.mem_of_getElem? (i := 28) rfl), List.mem_of_getElem? (i := 45) rfl⟩
abbrev M_Mo_partWord : sp_Me := (yX12_partWord, cX12_partWord, 4, (Option.none : Option Jvm.ClassFile.FieldType), 0, 0)
theorem ok_Mo_partWord : sp_okV M_Mo_partWord 2 := ⟨⟨sp_tb6 _ (List.mem_of_getElem? (i := 62) rfl), sp_tb1 _ (List.mem_of_getElem? (i := 17) rfl), ⟨by decide, by decide⟩, by decide +kernel⟩, sp_tb6 _ (List.mem_of_getElem? (i := 61) rfl), List.mem_of_getElem? (i := 51) rfl⟩
abbrev M_Mo_isInside : sp_Me := (yX12_isInside, cX12_isInside, 3, (Option.some Jvm.ClassFile.FieldType.boolean), 0, 0)
theorem ok_Mo_isInside : sp_okV M_Mo_isInside 1 := ⟨⟨sp_tb6 _ (List.mem_of_getElem? (i := 21) rfl), sp_tb1 _ (List.mem_of_getElem? (i := 17) rfl), ⟨by decide, by decide⟩, by decide +kernel⟩, sp_tb6 _ (List.mem_of_getElem? (i := 20) rfl), List.mem_of_getElem? (i := 43) rfl⟩
abbrev M_Mo_nextWord : sp_Me := (yX12_nextWord, cX12_nextWord, 3, (Option.some Jvm.ClassFile.FieldType.boolean), 2, 42)
theorem ok_Mo_nextWord : sp_okV M_Mo_nextWord 0 := ⟨⟨sp_tb6 _ (List.mem_of_getElem? (i := 25) rfl), sp_tb1 _ (List.mem_of_getElem? (i := 17) rfl), ⟨by decide, by decide⟩, by decide +kernel⟩, sp_tb6 _ (List.mem_of_getElem? (i := 24) rfl), List.mem_of_getElem? (i := 44) rfl⟩
abbrev M_Mo_isLeft : sp_Me := (yX12_isLeft, cX12_isLeft, 6, (Option.some Jvm.ClassFile.FieldType.boolean), 2, 42)
theorem ok_Mo_isLeft : sp_okV M_Mo_isLeft 0 := ⟨⟨sp_tb6 _ (List.mem_of_getElem? (i := 37) rfl), sp_tb1 _ (List.mem_of_getElem? (i := 17) rfl), ⟨by decide, by decide⟩, by decide +kernel⟩, sp_tb6 _ (List.mem_of_getElem? (i := 36) rfl), List.mem_of_getElem? (i := 47) rfl⟩
abbrev M_Mo_startOf : sp_Me := (yX12_startOf, cX12_startOf, 3, (Option.some Jvm.ClassFile.FieldType.int), 2, 42)
theorem ok_Mo_startOf : sp_okV M_Mo_startOf 2 := ⟨⟨sp_tb6 _ (List.mem_of_getElem? (i := 17) rfl), sp_tb1 _ (List.mem_of_getElem? (i := 17) rfl), ⟨by decide, by decide⟩, by decide +kernel⟩, sp_tb6 _ (List.mem_of_getElem? (i := 16) rfl), List.mem_of_getElem? (i := 42) rfl⟩
abbrev M_Mo_leads : sp_Me := (yX12_leads, cX12_leads, 8, (Option.some Jvm.ClassFile.FieldType.int), 3, 68)
theorem ok_Mo_leads : sp_okV M_Mo_leads 3 := ⟨⟨sp_tb6 _ (List.mem_of_getElem? (i := 13) rfl), sp_tb1 _ (List.mem_of_getElem? (i := 17) rfl), ⟨by decide, by decide⟩, by decide +kernel⟩, sp_tb6 _ (List.mem_of_getElem? (i := 12) rfl), List.mem_of_getElem? (i := 41) rfl⟩
abbrev M_Mo_lead : sp_Me := (yX12_lead, cX12_lead, 2, (Option.some Jvm.ClassFile.FieldType.int), 4, 95)
theorem ok_Mo_lead : sp_okV M_Mo_lead 1 := ⟨⟨sp_tb6 _ (List.mem_of_getElem? (i := 9) rfl), sp_tb1 _ (List.mem_of_getElem? (i := 17) rfl), ⟨by decide, by decide⟩, by decide +kernel⟩, sp_tb6 _ (List.mem_of_getElem? (i := 7) rfl), sp_tb6 _ (List.mem_of_getElem? (i := 8) rfl)⟩
abbrev M_Mo_entry : sp_Me := (yX12_entry, cX12_entry, 7, (Option.some Jvm.ClassFile.FieldType.int), 1, 21)
theorem ok_Mo_entry : sp_okV M_Mo_entry 4 := ⟨⟨sp_tb6 _ (List.mem_of_getElem? (i := 41) rfl), sp_tb1 _ (List.mem_of_getElem? (i := 17) rfl), ⟨by decide, by decide⟩, by decide +kernel⟩, sp_tb6 _ (List.mem_of_getElem? (i := 39) rfl), sp_tb6 _ (List.mem_of_getElem? (i := 40) rfl)⟩
abbrev M_Mo_walk : sp_Me := (yX12_walk, cX12_walk, 7, (Option.some Jvm.ClassFile.FieldType.int), 3, 68)
theorem ok_Mo_walk : sp_okV M_Mo_walk 2 := ⟨⟨sp_tb6 _ (List.mem_of_getElem? (i := 58) rfl), sp_tb1 _ (List.mem_of_getElem? (i := 17) rfl), ⟨by decide, by decide⟩, by decide +kernel⟩, sp_tb6 _ (List.mem_of_getElem? (i := 57) rfl), List.mem_of_getElem? (i := 50) rfl⟩
abbrev M_Mo_fileAt : sp_Me := (yX12_fileAt, cX12_fileAt, 3, (Option.some Jvm.ClassFile.FieldType.int), 4, 94)
theorem ok_Mo_fileAt : sp_okV M_Mo_fileAt 1 := ⟨⟨sp_tb6 _ (List.mem_of_getElem? (i := 74) rfl), sp_tb1 _ (List.mem_of_getElem? (i := 17) rfl), ⟨by decide, by decide⟩, by decide +kernel⟩, sp_tb6 _ (List.mem_of_getElem? (i := 73) rfl), List.mem_of_getElem? (i := 54) rfl⟩
abbrev M_Mo_isThere : sp_Me := (yX12_isThere, cX12_isThere, 3, (Option.some Jvm.ClassFile.FieldType.boolean), 0, 0)
theorem ok_Mo_isThere : sp_okV M_Mo_isThere 2 := ⟨⟨sp_tb6 _ (List.mem_of_getElem? (i := 70) rfl), sp_tb1 _ (List.mem_of_getElem? (i := 17) rfl), ⟨by decide, by decide⟩, by decide +kernel⟩, sp_tb6 _ (List.mem_of_getElem? (i := 69) rfl), List.mem_of_getElem? (i := 53) rfl⟩
abbrev M_Mo_takes : sp_Me := (yX12_takes, cX12_takes, 12, (Option.some Jvm.ClassFile.FieldType.int), 5, 116)
theorem ok_Mo_takes : sp_okV M_Mo_takes 2 := ⟨⟨sp_tb6 _ (List.mem_of_getElem? (i := 54) rfl), sp_tb1 _ (List.mem_of_getElem? (i := 17) rfl), ⟨by decide, by decide⟩, by decide +kernel⟩, sp_tb6 _ (List.mem_of_getElem? (i := 53) rfl), List.mem_of_getElem? (i := 49) rfl⟩
abbrev M_Mo_note : sp_Me := (yX12_note, cX12_note, 4, (Option.none : Option Jvm.ClassFile.FieldType), 0, 0)
theorem ok_Mo_note : sp_okV M_Mo_note 3 := ⟨⟨sp_tb6 _ (List.mem_of_getElem? (i := 66) rfl), sp_tb1 _ (List.mem_of_getElem? (i := 17) rfl), ⟨by decide, by decide⟩, by decide +kernel⟩, sp_tb6 _ (List.mem_of_getElem? (i := 65) rfl), List.mem_of_getElem? (i := 52) rfl⟩
abbrev M_Mo_comes : sp_Me := (yX12_comes, cX12_comes, 12, (Option.some Jvm.ClassFile.FieldType.int), 1, 24)
theorem ok_Mo_comes : sp_okV M_Mo_comes 6 := ⟨⟨sp_tb6 _ (List.mem_of_getElem? (i := 78) rfl), sp_tb1 _ (List.mem_of_getElem? (i := 17) rfl), ⟨by decide, by decide⟩, by decide +kernel⟩, sp_tb6 _ (List.mem_of_getElem? (i := 77) rfl), List.mem_of_getElem? (i := 55) rfl⟩
abbrev M_Mo_isEntry : sp_Me := (yX12_isEntry, cX12_isEntry, 2, (Option.some Jvm.ClassFile.FieldType.boolean), 0, 0)
theorem ok_Mo_isEntry : sp_okV M_Mo_isEntry 1 := ⟨⟨sp_tb6 _ (List.mem_of_getElem? (i := 50) rfl), sp_tb1 _ (List.mem_of_getElem? (i := 17) rfl), ⟨by decide, by decide⟩, by decide +kernel⟩, sp_tb6 _ (List.mem_of_getElem? (i := 49) rfl), List.mem_of_getElem? (i := 48) rfl⟩
abbrev M_Mo_take : sp_Me := (yX12_take, cX12_take, 2, (Option.some Jvm.ClassFile.FieldType.int), 6, 147)
theorem ok_Mo_take : sp_okV M_Mo_take 1 := ⟨⟨sp_tb6 _ (List.mem_of_getElem? (i := 46) rfl), sp_tb1 _ (List.mem_of_getElem? (i := 17) rfl), ⟨by decide, by decide⟩, by decide +kernel⟩, sp_tb6 _ (List.mem_of_getElem? (i := 44) rfl), sp_tb6 _ (List.mem_of_getElem? (i := 45) rfl)⟩
abbrev M_Mo_dry : sp_Me := (yX12_dry, cX12_dry, 3, (Option.some Jvm.ClassFile.FieldType.int), 6, 147)
theorem ok_Mo_dry : sp_okV M_Mo_dry 1 := ⟨⟨sp_tb6 _ (List.mem_of_getElem? (i := 82) rfl), sp_tb1 _ (List.mem_of_getElem? (i := 17) rfl), ⟨by decide, by decide⟩, by decide +kernel⟩, sp_tb6 _ (List.mem_of_getElem? (i := 80) rfl), sp_tb6 _ (List.mem_of_getElem? (i := 81) rfl)⟩
abbrev M_Mo_finish : sp_Me := (yX12_finish, cX12_finish, 3, (Option.some Jvm.ClassFile.FieldType.int), 0, 0)
theorem ok_Mo_finish : sp_okV M_Mo_finish 0 := ⟨⟨sp_tb6 _ (List.mem_of_getElem? (i := 86) rfl), sp_tb1 _ (List.mem_of_getElem? (i := 17) rfl), ⟨by decide, by decide⟩, by decide +kernel⟩, sp_tb6 _ (List.mem_of_getElem? (i := 84) rfl), sp_tb6 _ (List.mem_of_getElem? (i := 85) rfl)⟩
abbrev M_Mo_limit : sp_Me := (yX12_limit, cX12_limit, 6, (Option.some Jvm.ClassFile.FieldType.long), 0, 0)
theorem ok_Mo_limit : sp_okV M_Mo_limit 2 := ⟨⟨sp_tb6 _ (List.mem_of_getElem? (i := 90) rfl), sp_tb1 _ (List.mem_of_getElem? (i := 17) rfl), ⟨by decide, by decide⟩, by decide +kernel⟩, sp_tb6 _ (List.mem_of_getElem? (i := 88) rfl), sp_tb6 _ (List.mem_of_getElem? (i := 89) rfl)⟩
abbrev M_Mo_find : sp_Me := (yX12_find, cX12_find, 5, (Option.some Jvm.ClassFile.FieldType.int), 3, 68)
theorem ok_Mo_find : sp_okV M_Mo_find 1 := ⟨⟨sp_tb6 _ (List.mem_of_getElem? (i := 95) rfl), sp_tb1 _ (List.mem_of_getElem? (i := 17) rfl), ⟨by decide, by decide⟩, by decide +kernel⟩, sp_tb6 _ (List.mem_of_getElem? (i := 93) rfl), sp_tb6 _ (List.mem_of_getElem? (i := 94) rfl)⟩
abbrev M_Mo_node : sp_Me := (yX12_node, cX12_node, 5, (Option.some Jvm.ClassFile.FieldType.int), 0, 0)
theorem ok_Mo_node : sp_okV M_Mo_node 2 := ⟨⟨sp_tb6 _ (List.mem_of_getElem? (i := 99) rfl), sp_tb1 _ (List.mem_of_getElem? (i := 17) rfl), ⟨by decide, by decide⟩, by decide +kernel⟩, sp_tb6 _ (List.mem_of_getElem? (i := 97) rfl), sp_tb6 _ (List.mem_of_getElem? (i := 98) rfl)⟩
abbrev M_Mo_name : sp_Me := (yX12_name, cX12_name, 3, (Option.some Jvm.ClassFile.FieldType.int), 0, 0)
theorem ok_Mo_name : sp_okV M_Mo_name 2 := ⟨⟨sp_tb6 _ (List.mem_of_getElem? (i := 103) rfl), sp_tb1 _ (List.mem_of_getElem? (i := 17) rfl), ⟨by decide, by decide⟩, by decide +kernel⟩, sp_tb6 _ (List.mem_of_getElem? (i := 101) rfl), sp_tb6 _ (List.mem_of_getElem? (i := 102) rfl)⟩
abbrev M_Mo_body : sp_Me := (yX12_body, cX12_body, 6, (Option.some Jvm.ClassFile.FieldType.long), 0, 0)
theorem ok_Mo_body : sp_okV M_Mo_body 2 := ⟨⟨sp_tb6 _ (List.mem_of_getElem? (i := 107) rfl), sp_tb1 _ (List.mem_of_getElem? (i := 17) rfl), ⟨by decide, by decide⟩, by decide +kernel⟩, sp_tb6 _ (List.mem_of_getElem? (i := 105) rfl), sp_tb6 _ (List.mem_of_getElem? (i := 106) rfl)⟩
abbrev M_Mo_inside : sp_Me := (yX12_inside, cX12_inside, 3, (Option.some Jvm.ClassFile.FieldType.boolean), 1, 22)
theorem ok_Mo_inside : sp_okV M_Mo_inside 0 := ⟨⟨sp_tb6 _ (List.mem_of_getElem? (i := 111) rfl), sp_tb1 _ (List.mem_of_getElem? (i := 17) rfl), ⟨by decide, by decide⟩, by decide +kernel⟩, sp_tb6 _ (List.mem_of_getElem? (i := 109) rfl), sp_tb6 _ (List.mem_of_getElem? (i := 110) rfl)⟩
abbrev M_Mo_told : sp_Me := (yX12_told, cX12_told, 2, (Option.some Jvm.ClassFile.FieldType.int), 0, 0)
theorem ok_Mo_told : sp_okV M_Mo_told 1 := ⟨⟨sp_tb6 _ (List.mem_of_getElem? (i := 115) rfl), sp_tb1 _ (List.mem_of_getElem? (i := 17) rfl), ⟨by decide, by decide⟩, by decide +kernel⟩, sp_tb6 _ (List.mem_of_getElem? (i := 113) rfl), sp_tb6 _ (List.mem_of_getElem? (i := 114) rfl)⟩
abbrev M_Char_isValidCodePoint : sp_Me := (yJ11_isValidCodePoint_9a6ad, cJ11_isValidCodePoint_9a6ad, 2, (Option.some Jvm.ClassFile.FieldType.boolean), 0, 0)
theorem ok_Char_isValidCodePoint : sp_okS M_Char_isValidCodePoint 1 := ⟨⟨sp_tb3 _ (List.mem_of_getElem? (i := 88) rfl), sp_tb1 _ (List.mem_of_getElem? (i := 23) rfl), ⟨by decide, by decide⟩, by decide +kernel⟩, sp_tb3 _ (List.mem_of_getElem? (i := 87) rfl)⟩
abbrev M_Char_highSurrogate : sp_Me := (yJ11_highSurrogate_5068e, cJ11_highSurrogate_5068e, 1, (Option.some Jvm.ClassFile.FieldType.char), 0, 0)
theorem ok_Char_highSurrogate : sp_okS M_Char_highSurrogate 1 := ⟨⟨sp_tb3 _ (List.mem_of_getElem? (i := 91) rfl), sp_tb1 _ (List.mem_of_getElem? (i := 23) rfl), ⟨by decide, by decide⟩, by decide +kernel⟩, sp_tb3 _ (List.mem_of_getElem? (i := 90) rfl)⟩
abbrev M_Char_lowSurrogate : sp_Me := (yJ11_lowSurrogate_5068e, cJ11_lowSurrogate_5068e, 1, (Option.some Jvm.ClassFile.FieldType.char), 0, 0)
theorem ok_Char_lowSurrogate : sp_okS M_Char_lowSurrogate 1 := ⟨⟨sp_tb3 _ (List.mem_of_getElem? (i := 95) rfl), sp_tb1 _ (List.mem_of_getElem? (i := 23) rfl), ⟨by decide, by decide⟩, by decide +kernel⟩, sp_tb3 _ (List.mem_of_getElem? (i := 94) rfl)⟩
abbrev M_Math_max : sp_Me := (yJ9_max_7cf53, cJ9_max_7cf53, 2, (Option.some Jvm.ClassFile.FieldType.int), 0, 0)
theorem ok_Math_max : sp_okS M_Math_max 2 := ⟨⟨sp_tb1 _ (List.mem_of_getElem? (i := 145) rfl), sp_tb1 _ (List.mem_of_getElem? (i := 11) rfl), ⟨by decide, by decide⟩, by decide +kernel⟩, sp_tb1 _ (List.mem_of_getElem? (i := 144) rfl)⟩
abbrev M_Math_min : sp_Me := (yJ9_min_7cf53, cJ9_min_7cf53, 2, (Option.some Jvm.ClassFile.FieldType.int), 0, 0)
theorem ok_Math_min : sp_okS M_Math_min 2 := ⟨⟨sp_tb1 _ (List.mem_of_getElem? (i := 148) rfl), sp_tb1 _ (List.mem_of_getElem? (i := 11) rfl), ⟨by decide, by decide⟩, by decide +kernel⟩, sp_tb1 _ (List.mem_of_getElem? (i := 147) rfl)⟩
abbrev M_String_length : sp_Me := (yJ0_length_8abf5, cJ0_length_8abf5, 1, (Option.some Jvm.ClassFile.FieldType.int), 1, 20)
theorem ok_String_length : sp_okV M_String_length 0 := ⟨⟨sp_tb3 _ (List.mem_of_getElem? (i := 32) rfl), sp_tb1 _ (List.mem_of_getElem? (i := 20) rfl), ⟨by decide, by decide⟩, by decide +kernel⟩, sp_tb3 _ (List.mem_of_getElem? (i := 30) rfl), sp_tb3 _ (List.mem_of_getElem? (i := 31) rfl)⟩
abbrev M_String_charAt : sp_Me := (yJ0_charAt_5068e, cJ0_charAt_5068e, 2, (Option.some Jvm.ClassFile.FieldType.char), 4, 85)
theorem ok_String_charAt : sp_okV M_String_charAt 1 := ⟨⟨sp_tb3 _ (List.mem_of_getElem? (i := 114) rfl), sp_tb1 _ (List.mem_of_getElem? (i := 20) rfl), ⟨by decide, by decide⟩, by decide +kernel⟩, sp_tb3 _ (List.mem_of_getElem? (i := 112) rfl), sp_tb3 _ (List.mem_of_getElem? (i := 113) rfl)⟩
abbrev M_String_indexOf1 : sp_Me := (yJ0_indexOf_0f7a4, cJ0_indexOf_0f7a4, 2, (Option.some Jvm.ClassFile.FieldType.int), 6, 138)
theorem ok_String_indexOf1 : sp_okV M_String_indexOf1 1 := ⟨⟨sp_tb3 _ (List.mem_of_getElem? (i := 18) rfl), sp_tb1 _ (List.mem_of_getElem? (i := 20) rfl), ⟨by decide, by decide⟩, by decide +kernel⟩, sp_tb3 _ (List.mem_of_getElem? (i := 16) rfl), sp_tb3 _ (List.mem_of_getElem? (i := 17) rfl)⟩
abbrev M_String_indexOf2 : sp_Me := (yJ0_indexOf_7cf53, cJ0_indexOf_7cf53, 3, (Option.some Jvm.ClassFile.FieldType.int), 5, 116)
theorem ok_String_indexOf2 : sp_okV M_String_indexOf2 2 := ⟨⟨sp_tb3 _ (List.mem_of_getElem? (i := 22) rfl), sp_tb1 _ (List.mem_of_getElem? (i := 20) rfl), ⟨by decide, by decide⟩, by decide +kernel⟩, sp_tb3 _ (List.mem_of_getElem? (i := 20) rfl), sp_tb3 _ (List.mem_of_getElem? (i := 21) rfl)⟩
abbrev M_String_coder : sp_Me := (yJ0_coder_7d493, cJ0_coder_7d493, 1, (Option.some Jvm.ClassFile.FieldType.byte), 0, 0)
theorem ok_String_coder : sp_okV M_String_coder 0 := ⟨⟨sp_tb3 _ (List.mem_of_getElem? (i := 36) rfl), sp_tb1 _ (List.mem_of_getElem? (i := 20) rfl), ⟨by decide, by decide⟩, by decide +kernel⟩, sp_tb3 _ (List.mem_of_getElem? (i := 34) rfl), sp_tb3 _ (List.mem_of_getElem? (i := 35) rfl)⟩
abbrev M_String_isLatin1 : sp_Me := (yJ0_isLatin1_aae02, cJ0_isLatin1_aae02, 1, (Option.some Jvm.ClassFile.FieldType.boolean), 0, 0)
theorem ok_String_isLatin1 : sp_okV M_String_isLatin1 0 := ⟨⟨sp_tb3 _ (List.mem_of_getElem? (i := 26) rfl), sp_tb1 _ (List.mem_of_getElem? (i := 20) rfl), ⟨by decide, by decide⟩, by decide +kernel⟩, sp_tb3 _ (List.mem_of_getElem? (i := 24) rfl), sp_tb3 _ (List.mem_of_getElem? (i := 25) rfl)⟩
abbrev M_String_checkIndex : sp_Me := (yJ0_checkIndex_df160, cJ0_checkIndex_df160, 2, (Option.none : Option Jvm.ClassFile.FieldType), 1, 22)
theorem ok_String_checkIndex : sp_okS M_String_checkIndex 2 := ⟨⟨sp_tb3 _ (List.mem_of_getElem? (i := 120) rfl), sp_tb1 _ (List.mem_of_getElem? (i := 20) rfl), ⟨by decide, by decide⟩, by decide +kernel⟩, sp_tb3 _ (List.mem_of_getElem? (i := 119) rfl)⟩
abbrev M_String_checkBoundsBeginEnd : sp_Me := (yJ0_checkBoundsBeginEnd_23922, cJ0_checkBoundsBeginEnd_23922, 3, (Option.none : Option Jvm.ClassFile.FieldType), 1, 23)
theorem ok_String_checkBoundsBeginEnd : sp_okS M_String_checkBoundsBeginEnd 3 := ⟨⟨sp_tb3 _ (List.mem_of_getElem? (i := 65) rfl), sp_tb1 _ (List.mem_of_getElem? (i := 20) rfl), ⟨by decide, by decide⟩, by decide +kernel⟩, sp_tb3 _ (List.mem_of_getElem? (i := 64) rfl)⟩
abbrev M_Latin1_charAt : sp_Me := (yJ1_charAt_3b067, cJ1_charAt_3b067, 2, (Option.some Jvm.ClassFile.FieldType.char), 2, 43)
theorem ok_Latin1_charAt : sp_okS M_Latin1_charAt 2 := ⟨⟨sp_tb3 _ (List.mem_of_getElem? (i := 117) rfl), sp_tb1 _ (List.mem_of_getElem? (i := 21) rfl), ⟨by decide, by decide⟩, by decide +kernel⟩, sp_tb3 _ (List.mem_of_getElem? (i := 116) rfl)⟩
abbrev M_Latin1_canEncode : sp_Me := (yJ1_canEncode_9a6ad, cJ1_canEncode_9a6ad, 1, (Option.some Jvm.ClassFile.FieldType.boolean), 0, 0)
theorem ok_Latin1_canEncode : sp_okS M_Latin1_canEncode 1 := ⟨⟨sp_tb3 _ (List.mem_of_getElem? (i := 42) rfl), sp_tb1 _ (List.mem_of_getElem? (i := 21) rfl), ⟨by decide, by decide⟩, by decide +kernel⟩, sp_tb3 _ (List.mem_of_getElem? (i := 41) rfl)⟩
abbrev M_Latin1_indexOf : sp_Me := (yJ1_indexOf_4cfef, cJ1_indexOf_4cfef, 4, (Option.some Jvm.ClassFile.FieldType.int), 1, 25)
theorem ok_Latin1_indexOf : sp_okS M_Latin1_indexOf 4 := ⟨⟨sp_tb3 _ (List.mem_of_getElem? (i := 39) rfl), sp_tb1 _ (List.mem_of_getElem? (i := 21) rfl), ⟨by decide, by decide⟩, by decide +kernel⟩, sp_tb3 _ (List.mem_of_getElem? (i := 38) rfl)⟩
abbrev M_Latin1_indexOfChar : sp_Me := (yJ1_indexOfChar_4cfef, cJ1_indexOfChar_4cfef, 6, (Option.some Jvm.ClassFile.FieldType.int), 0, 0)
theorem ok_Latin1_indexOfChar : sp_okS M_Latin1_indexOfChar 4 := ⟨⟨sp_tb3 _ (List.mem_of_getElem? (i := 47) rfl), sp_tb1 _ (List.mem_of_getElem? (i := 21) rfl), ⟨by decide, by decide⟩, by decide +kernel⟩, sp_tb3 _ (List.mem_of_getElem? (i := 46) rfl)⟩
abbrev M_UTF16_getChar : sp_Me := (yJ2_getChar_3b067, cJ2_getChar_3b067, 2, (Option.some Jvm.ClassFile.FieldType.char), 1, 20)
theorem ok_UTF16_getChar : sp_okS M_UTF16_getChar 2 := ⟨⟨sp_tb3 _ (List.mem_of_getElem? (i := 76) rfl), sp_tb1 _ (List.mem_of_getElem? (i := 22) rfl), ⟨by decide, by decide⟩, by decide +kernel⟩, sp_tb3 _ (List.mem_of_getElem? (i := 75) rfl)⟩
abbrev M_UTF16_length : sp_Me := (yJ2_length_9d52b, cJ2_length_9d52b, 1, (Option.some Jvm.ClassFile.FieldType.int), 0, 0)
theorem ok_UTF16_length : sp_okS M_UTF16_length 1 := ⟨⟨sp_tb3 _ (List.mem_of_getElem? (i := 62) rfl), sp_tb1 _ (List.mem_of_getElem? (i := 22) rfl), ⟨by decide, by decide⟩, by decide +kernel⟩, sp_tb3 _ (List.mem_of_getElem? (i := 61) rfl)⟩
abbrev M_UTF16_indexOf : sp_Me := (yJ2_indexOf_4cfef, cJ2_indexOf_4cfef, 4, (Option.some Jvm.ClassFile.FieldType.int), 4, 93)
theorem ok_UTF16_indexOf : sp_okS M_UTF16_indexOf 4 := ⟨⟨sp_tb3 _ (List.mem_of_getElem? (i := 50) rfl), sp_tb1 _ (List.mem_of_getElem? (i := 22) rfl), ⟨by decide, by decide⟩, by decide +kernel⟩, sp_tb3 _ (List.mem_of_getElem? (i := 49) rfl)⟩
abbrev M_UTF16_indexOfChar : sp_Me := (yJ2_indexOfChar_4cfef, cJ2_indexOfChar_4cfef, 4, (Option.some Jvm.ClassFile.FieldType.int), 3, 67)
theorem ok_UTF16_indexOfChar : sp_okS M_UTF16_indexOfChar 4 := ⟨⟨sp_tb3 _ (List.mem_of_getElem? (i := 56) rfl), sp_tb1 _ (List.mem_of_getElem? (i := 22) rfl), ⟨by decide, by decide⟩, by decide +kernel⟩, sp_tb3 _ (List.mem_of_getElem? (i := 55) rfl)⟩
abbrev M_UTF16_indexOfCharUnsafe : sp_Me := (yJ2_indexOfCharUnsafe_4cfef, cJ2_indexOfCharUnsafe_4cfef, 5, (Option.some Jvm.ClassFile.FieldType.int), 2, 41)
theorem ok_UTF16_indexOfCharUnsafe : sp_okS M_UTF16_indexOfCharUnsafe 4 := ⟨⟨sp_tb3 _ (List.mem_of_getElem? (i := 73) rfl), sp_tb1 _ (List.mem_of_getElem? (i := 22) rfl), ⟨by decide, by decide⟩, by decide +kernel⟩, sp_tb3 _ (List.mem_of_getElem? (i := 72) rfl)⟩
abbrev M_UTF16_indexOfSupplementary : sp_Me := (yJ2_indexOfSupplementary_4cfef, cJ2_indexOfSupplementary_4cfef, 7, (Option.some Jvm.ClassFile.FieldType.int), 3, 67)
theorem ok_UTF16_indexOfSupplementary : sp_okS M_UTF16_indexOfSupplementary 4 := ⟨⟨sp_tb3 _ (List.mem_of_getElem? (i := 85) rfl), sp_tb1 _ (List.mem_of_getElem? (i := 22) rfl), ⟨by decide, by decide⟩, by decide +kernel⟩, sp_tb3 _ (List.mem_of_getElem? (i := 84) rfl)⟩
abbrev M_UTF16_charAt : sp_Me := (yJ2_charAt_3b067, cJ2_charAt_3b067, 2, (Option.some Jvm.ClassFile.FieldType.char), 3, 64)
theorem ok_UTF16_charAt : sp_okS M_UTF16_charAt 2 := ⟨⟨sp_tb3 _ (List.mem_of_getElem? (i := 124) rfl), sp_tb1 _ (List.mem_of_getElem? (i := 22) rfl), ⟨by decide, by decide⟩, by decide +kernel⟩, sp_tb3 _ (List.mem_of_getElem? (i := 123) rfl)⟩
abbrev M_UTF16_checkIndex : sp_Me := (yJ2_checkIndex_2214a, cJ2_checkIndex_2214a, 2, (Option.none : Option Jvm.ClassFile.FieldType), 2, 43)
theorem ok_UTF16_checkIndex : sp_okS M_UTF16_checkIndex 2 := ⟨⟨sp_tb3 _ (List.mem_of_getElem? (i := 127) rfl), sp_tb1 _ (List.mem_of_getElem? (i := 22) rfl), ⟨by decide, by decide⟩, by decide +kernel⟩, sp_tb3 _ (List.mem_of_getElem? (i := 126) rfl)⟩
abbrev M_UTF16_checkBoundsBeginEnd : sp_Me := (yJ2_checkBoundsBeginEnd_d044e, cJ2_checkBoundsBeginEnd_d044e, 3, (Option.none : Option Jvm.ClassFile.FieldType), 2, 45)
theorem ok_UTF16_checkBoundsBeginEnd : sp_okS M_UTF16_checkBoundsBeginEnd 3 := ⟨⟨sp_tb3 _ (List.mem_of_getElem? (i := 59) rfl), sp_tb1 _ (List.mem_of_getElem? (i := 22) rfl), ⟨by decide, by decide⟩, by decide +kernel⟩, sp_tb3 _ (List.mem_of_getElem? (i := 58) rfl)⟩
abbrev M_AColl_init : sp_Me := (yJxa1e45_init_da8c8, cJxa1e45_init_da8c8, 1, (Option.none : Option Jvm.ClassFile.FieldType), 1, 14)
theorem ok_AColl_init : sp_okI M_AColl_init 0 := ⟨⟨sp_tb1 _ (List.mem_of_getElem? (i := 89) rfl), sp_tb1 _ (List.mem_of_getElem? (i := 4) rfl), ⟨by decide, by decide⟩, by decide +kernel⟩, rfl, sp_tb1 _ (List.mem_of_getElem? (i := 88) rfl)⟩
abbrev M_AList_init : sp_Me := (yJxc12de_init_da8c8, cJxc12de_init_da8c8, 1, (Option.none : Option Jvm.ClassFile.FieldType), 2, 34)
theorem ok_AList_init : sp_okI M_AList_init 0 := ⟨⟨sp_tb1 _ (List.mem_of_getElem? (i := 86) rfl), sp_tb1 _ (List.mem_of_getElem? (i := 5) rfl), ⟨by decide, by decide⟩, by decide +kernel⟩, rfl, sp_tb1 _ (List.mem_of_getElem? (i := 85) rfl)⟩
abbrev M_List_init : sp_Me := (yJx4a65c_init_da8c8, cJx4a65c_init_da8c8, 1, (Option.none : Option Jvm.ClassFile.FieldType), 3, 54)
theorem ok_List_init : sp_okI M_List_init 0 := ⟨⟨sp_tb1 _ (List.mem_of_getElem? (i := 83) rfl), sp_tb1 _ (List.mem_of_getElem? (i := 6) rfl), ⟨by decide, by decide⟩, by decide +kernel⟩, rfl, sp_tb1 _ (List.mem_of_getElem? (i := 82) rfl)⟩
abbrev M_List_grow2 : sp_Me := (yJx4a65c_grow_92f84, cJx4a65c_grow_92f84, 4, (Option.some (Jvm.ClassFile.FieldType.array (Jvm.ClassFile.FieldType.object "java/lang/Object"))), 3, 84)
theorem ok_List_grow2 : sp_okV M_List_grow2 1 := ⟨⟨sp_tb1 _ (List.mem_of_getElem? (i := 229) rfl), sp_tb1 _ (List.mem_of_getElem? (i := 6) rfl), ⟨by decide, by decide⟩, by decide +kernel⟩, sp_tb1 _ (List.mem_of_getElem? (i := 228) rfl), List.mem_of_getElem? (i := 2) rfl⟩
abbrev M_List_grow1 : sp_Me := (yJx4a65c_grow_d5877, cJx4a65c_grow_d5877, 1, (Option.some (Jvm.ClassFile.FieldType.array (Jvm.ClassFile.FieldType.object "java/lang/Object"))), 4, 107)
theorem ok_List_grow1 : sp_okV M_List_grow1 0 := ⟨⟨sp_tb1 _ (List.mem_of_getElem? (i := 225) rfl), sp_tb1 _ (List.mem_of_getElem? (i := 6) rfl), ⟨by decide, by decide⟩, by decide +kernel⟩, sp_tb1 _ (List.mem_of_getElem? (i := 224) rfl), List.mem_of_getElem? (i := 1) rfl⟩
abbrev M_List_size : sp_Me := (yJx4a65c_size_8abf5, cJx4a65c_size_8abf5, 1, (Option.some Jvm.ClassFile.FieldType.int), 0, 0)
theorem ok_List_size : sp_okV M_List_size 0 := ⟨⟨sp_tb2 _ (List.mem_of_getElem? (i := 214) rfl), sp_tb1 _ (List.mem_of_getElem? (i := 6) rfl), ⟨by decide, by decide⟩, by decide +kernel⟩, sp_tb2 _ (List.mem_of_getElem? (i := 212) rfl), sp_tb2 _ (List.mem_of_getElem? (i := 213) rfl)⟩
abbrev M_List_isEmpty : sp_Me := (yJx4a65c_isEmpty_aae02, cJx4a65c_isEmpty_aae02, 1, (Option.some Jvm.ClassFile.FieldType.boolean), 0, 0)
theorem ok_List_isEmpty : sp_okV M_List_isEmpty 0 := ⟨⟨sp_tb2 _ (List.mem_of_getElem? (i := 202) rfl), sp_tb1 _ (List.mem_of_getElem? (i := 6) rfl), ⟨by decide, by decide⟩, by decide +kernel⟩, sp_tb2 _ (List.mem_of_getElem? (i := 200) rfl), sp_tb2 _ (List.mem_of_getElem? (i := 201) rfl)⟩
abbrev M_List_elementData : sp_Me := (yJx4a65c_elementData_915e3, cJx4a65c_elementData_915e3, 2, (Option.some (Jvm.ClassFile.FieldType.object "java/lang/Object")), 0, 0)
theorem ok_List_elementData : sp_okV M_List_elementData 1 := ⟨⟨sp_tb2 _ (List.mem_of_getElem? (i := 228) rfl), sp_tb1 _ (List.mem_of_getElem? (i := 6) rfl), ⟨by decide, by decide⟩, by decide +kernel⟩, sp_tb2 _ (List.mem_of_getElem? (i := 226) rfl), sp_tb2 _ (List.mem_of_getElem? (i := 227) rfl)⟩
abbrev M_List_get : sp_Me := (yJx4a65c_get_915e3, cJx4a65c_get_915e3, 2, (Option.some (Jvm.ClassFile.FieldType.object "java/lang/Object")), 2, 43)
theorem ok_List_get : sp_okV M_List_get 1 := ⟨⟨sp_tb2 _ (List.mem_of_getElem? (i := 218) rfl), sp_tb1 _ (List.mem_of_getElem? (i := 6) rfl), ⟨by decide, by decide⟩, by decide +kernel⟩, sp_tb2 _ (List.mem_of_getElem? (i := 216) rfl), sp_tb2 _ (List.mem_of_getElem? (i := 217) rfl)⟩
abbrev M_List_add2 : sp_Me := (yJx4a65c_add_72be8, cJx4a65c_add_72be8, 4, (Option.none : Option Jvm.ClassFile.FieldType), 5, 127)
theorem ok_List_add2 : sp_okV M_List_add2 3 := ⟨⟨sp_tb1 _ (List.mem_of_getElem? (i := 221) rfl), sp_tb1 _ (List.mem_of_getElem? (i := 6) rfl), ⟨by decide, by decide⟩, by decide +kernel⟩, sp_tb1 _ (List.mem_of_getElem? (i := 220) rfl), List.mem_of_getElem? (i := 0) rfl⟩
abbrev M_List_add1 : sp_Me := (yJx4a65c_add_9ea2d, cJx4a65c_add_9ea2d, 2, (Option.some Jvm.ClassFile.FieldType.boolean), 6, 150)
theorem ok_List_add1 : sp_okV M_List_add1 1 := ⟨⟨sp_tb1 _ (List.mem_of_getElem? (i := 217) rfl), sp_tb1 _ (List.mem_of_getElem? (i := 6) rfl), ⟨by decide, by decide⟩, by decide +kernel⟩, sp_tb1 _ (List.mem_of_getElem? (i := 215) rfl), sp_tb1 _ (List.mem_of_getElem? (i := 216) rfl)⟩
abbrev M_List_remove : sp_Me := (yJx4a65c_remove_915e3, cJx4a65c_remove_915e3, 4, (Option.some (Jvm.ClassFile.FieldType.object "java/lang/Object")), 2, 63)
theorem ok_List_remove : sp_okV M_List_remove 1 := ⟨⟨sp_tb4 _ (List.mem_of_getElem? (i := 101) rfl), sp_tb1 _ (List.mem_of_getElem? (i := 6) rfl), ⟨by decide, by decide⟩, by decide +kernel⟩, sp_tb4 _ (List.mem_of_getElem? (i := 99) rfl), sp_tb4 _ (List.mem_of_getElem? (i := 100) rfl)⟩
abbrev M_List_fastRemove : sp_Me := (yJx4a65c_fastRemove_b59b0, cJx4a65c_fastRemove_b59b0, 4, (Option.none : Option Jvm.ClassFile.FieldType), 1, 40)
theorem ok_List_fastRemove : sp_okV M_List_fastRemove 2 := ⟨⟨sp_tb4 _ (List.mem_of_getElem? (i := 105) rfl), sp_tb1 _ (List.mem_of_getElem? (i := 6) rfl), ⟨by decide, by decide⟩, by decide +kernel⟩, sp_tb4 _ (List.mem_of_getElem? (i := 104) rfl), List.mem_of_getElem? (i := 24) rfl⟩
abbrev M_List_clear : sp_Me := (yJx4a65c_clear_da8c8, cJx4a65c_clear_da8c8, 4, (Option.none : Option Jvm.ClassFile.FieldType), 0, 0)
theorem ok_List_clear : sp_okV M_List_clear 0 := ⟨⟨sp_tb4 _ (List.mem_of_getElem? (i := 84) rfl), sp_tb1 _ (List.mem_of_getElem? (i := 6) rfl), ⟨by decide, by decide⟩, by decide +kernel⟩, sp_tb4 _ (List.mem_of_getElem? (i := 82) rfl), sp_tb4 _ (List.mem_of_getElem? (i := 83) rfl)⟩
abbrev M_Arrays_copyOf1 : sp_Me := (yJ7_copyOf_1904c, cJ7_copyOf_1904c, 2, (Option.some (Jvm.ClassFile.FieldType.array (Jvm.ClassFile.FieldType.object "java/lang/Object"))), 2, 63)
theorem ok_Arrays_copyOf1 : sp_okS M_Arrays_copyOf1 2 := ⟨⟨sp_tb2 _ (List.mem_of_getElem? (i := 0) rfl), sp_tb1 _ (List.mem_of_getElem? (i := 13) rfl), ⟨by decide, by decide⟩, by decide +kernel⟩, sp_tb1 _ (List.mem_of_getElem? (i := 239) rfl)⟩
abbrev M_Arrays_copyOf2 : sp_Me := (yJ7_copyOf_6403c, cJ7_copyOf_6403c, 4, (Option.some (Jvm.ClassFile.FieldType.array (Jvm.ClassFile.FieldType.object "java/lang/Object"))), 1, 40)
theorem ok_Arrays_copyOf2 : sp_okS M_Arrays_copyOf2 3 := ⟨⟨sp_tb2 _ (List.mem_of_getElem? (i := 21) rfl), sp_tb1 _ (List.mem_of_getElem? (i := 13) rfl), ⟨by decide, by decide⟩, by decide +kernel⟩, sp_tb2 _ (List.mem_of_getElem? (i := 20) rfl)⟩
abbrev M_Objects_checkIndex : sp_Me := (yJ15_checkIndex_7cf53, cJ15_checkIndex_7cf53, 2, (Option.some Jvm.ClassFile.FieldType.int), 1, 22)
theorem ok_Objects_checkIndex : sp_okS M_Objects_checkIndex 2 := ⟨⟨sp_tb2 _ (List.mem_of_getElem? (i := 221) rfl), sp_tb1 _ (List.mem_of_getElem? (i := 18) rfl), ⟨by decide, by decide⟩, by decide +kernel⟩, sp_tb2 _ (List.mem_of_getElem? (i := 220) rfl)⟩
abbrev M_ASup_newLength : sp_Me := (yJ8_newLength_cabcc, cJ8_newLength_cabcc, 4, (Option.some Jvm.ClassFile.FieldType.int), 1, 22)
theorem ok_ASup_newLength : sp_okS M_ASup_newLength 3 := ⟨⟨sp_tb1 _ (List.mem_of_getElem? (i := 232) rfl), sp_tb1 _ (List.mem_of_getElem? (i := 12) rfl), ⟨by decide, by decide⟩, by decide +kernel⟩, sp_tb1 _ (List.mem_of_getElem? (i := 231) rfl)⟩
abbrev M_ASup_hugeLength : sp_Me := (yJ8_hugeLength_7cf53, cJ8_hugeLength_7cf53, 3, (Option.some Jvm.ClassFile.FieldType.int), 0, 0)
theorem ok_ASup_hugeLength : sp_okS M_ASup_hugeLength 2 := ⟨⟨sp_tb1 _ (List.mem_of_getElem? (i := 237) rfl), sp_tb1 _ (List.mem_of_getElem? (i := 12) rfl), ⟨by decide, by decide⟩, by decide +kernel⟩, sp_tb1 _ (List.mem_of_getElem? (i := 236) rfl)⟩
abbrev M_Precond_checkIndex : sp_Me := (yJ3_checkIndex_8e157, cJ3_checkIndex_8e157, 3, (Option.some Jvm.ClassFile.FieldType.int), 0, 0)
theorem ok_Precond_checkIndex : sp_okS M_Precond_checkIndex 3 := ⟨⟨sp_tb2 _ (List.mem_of_getElem? (i := 224) rfl), sp_tb1 _ (List.mem_of_getElem? (i := 19) rfl), ⟨by decide, by decide⟩, by decide +kernel⟩, sp_tb2 _ (List.mem_of_getElem? (i := 223) rfl)⟩
abbrev M_Precond_checkFromToIndex : sp_Me := (yJ3_checkFromToIndex_8c36e, cJ3_checkFromToIndex_8c36e, 4, (Option.some Jvm.ClassFile.FieldType.int), 0, 0)
theorem ok_Precond_checkFromToIndex : sp_okS M_Precond_checkFromToIndex 4 := ⟨⟨sp_tb3 _ (List.mem_of_getElem? (i := 70) rfl), sp_tb1 _ (List.mem_of_getElem? (i := 19) rfl), ⟨by decide, by decide⟩, by decide +kernel⟩, sp_tb3 _ (List.mem_of_getElem? (i := 69) rfl)⟩
abbrev M_Law_cell : sp_Me := (yL_cell, cL_cell, 2, (Option.some Jvm.ClassFile.FieldType.int), 0, 0)
theorem ok_Law_cell : sp_okS M_Law_cell 2 := ⟨⟨sp_tb5 _ (List.mem_of_getElem? (i := 48) rfl), sp_tb1 _ (List.mem_of_getElem? (i := 0) rfl), ⟨by decide, by decide⟩, by decide +kernel⟩, sp_tb5 _ (List.mem_of_getElem? (i := 47) rfl)⟩
theorem lk_Law_15 : Cond.methodLink "SafePathsLaw" 15 M_SP_init.1 ∈ lw_tbl := sp_tb1 _ (List.mem_of_getElem? (i := 29) rfl)
theorem lk_SP_1 : Cond.methodLink "SafePaths" 1 Lib.objectInit ∈ lw_tbl := sp_tb1 _ (List.mem_of_getElem? (i := 32) rfl)
theorem lk_SP_9 : Cond.methodLink "SafePaths" 9 M_Rules_init.1 ∈ lw_tbl := sp_tb1 _ (List.mem_of_getElem? (i := 37) rfl)
theorem lk_Rules_3 : Cond.methodLink "SafePaths$Rules" 3 Lib.objectInit ∈ lw_tbl := sp_tb1 _ (List.mem_of_getElem? (i := 40) rfl)
theorem lk_SP_20 : Cond.methodLink "SafePaths" 20 M_Draft_init.1 ∈ lw_tbl := sp_tb1 _ (List.mem_of_getElem? (i := 67) rfl)
theorem lk_Draft_3 : Cond.methodLink "SafePaths$Draft" 3 Lib.objectInit ∈ lw_tbl := sp_tb1 _ (List.mem_of_getElem? (i := 70) rfl)
theorem lk_SP_27 : Cond.methodLink "SafePaths" 27 M_List_init.1 ∈ lw_tbl := sp_tb1 _ (List.mem_of_getElem? (i := 81) rfl)
theorem lk_List_1 : Cond.methodLink "java/util/ArrayList" 1 M_AList_init.1 ∈ lw_tbl := sp_tb1 _ (List.mem_of_getElem? (i := 84) rfl)
theorem lk_AList_1 : Cond.methodLink "java/util/AbstractList" 1 M_AColl_init.1 ∈ lw_tbl := sp_tb1 _ (List.mem_of_getElem? (i := 87) rfl)
theorem lk_AColl_1 : Cond.methodLink "java/util/AbstractCollection" 1 Lib.objectInit ∈ lw_tbl := sp_tb1 _ (List.mem_of_getElem? (i := 90) rfl)
theorem lk_SP_40 : Cond.methodLink "SafePaths" 40 M_Tree_init.1 ∈ lw_tbl := sp_tb1 _ (List.mem_of_getElem? (i := 107) rfl)
theorem lk_Tree_1 : Cond.methodLink "SafePaths$Tree" 1 Lib.objectInit ∈ lw_tbl := sp_tb1 _ (List.mem_of_getElem? (i := 110) rfl)
theorem lk_Tree_15 : Cond.methodLink "SafePaths$Tree" 15 M_List_init.1 ∈ lw_tbl := sp_tb1 _ (List.mem_of_getElem? (i := 112) rfl)
theorem lk_Tree_27 : Cond.methodLink "SafePaths$Tree" 27 M_Body_init.1 ∈ lw_tbl := sp_tb1 _ (List.mem_of_getElem? (i := 116) rfl)
theorem lk_Body_1 : Cond.methodLink "SafePaths$Body" 1 Lib.objectInit ∈ lw_tbl := sp_tb1 _ (List.mem_of_getElem? (i := 119) rfl)
theorem lk_Tree_40 : Cond.methodLink "SafePaths$Tree" 40 M_Name_init.1 ∈ lw_tbl := sp_tb1 _ (List.mem_of_getElem? (i := 139) rfl)
theorem lk_Name_3 : Cond.methodLink "SafePaths$Name" 3 Lib.objectInit ∈ lw_tbl := sp_tb1 _ (List.mem_of_getElem? (i := 142) rfl)
theorem lk_Name_9 : Cond.methodLink "SafePaths$Name" 9 M_Math_max.1 ∈ lw_tbl := sp_tb1 _ (List.mem_of_getElem? (i := 143) rfl)
theorem lk_Name_15 : Cond.methodLink "SafePaths$Name" 15 M_Math_min.1 ∈ lw_tbl := sp_tb1 _ (List.mem_of_getElem? (i := 146) rfl)
theorem lk_Name_27 : Cond.methodLink "SafePaths$Name" 27 M_Name_smallLetter.1 ∈ lw_tbl := sp_tb1 _ (List.mem_of_getElem? (i := 149) rfl)
theorem lk_Tree_43 : Cond.methodLink "SafePaths$Tree" 43 M_Node_init.1 ∈ lw_tbl := sp_tb1 _ (List.mem_of_getElem? (i := 159) rfl)
theorem lk_Node_1 : Cond.methodLink "SafePaths$Node" 1 Lib.objectInit ∈ lw_tbl := sp_tb1 _ (List.mem_of_getElem? (i := 162) rfl)
theorem lk_Tree_68 : Cond.methodLink "SafePaths$Tree" 68 M_List_add1.1 ∈ lw_tbl := sp_tb1 _ (List.mem_of_getElem? (i := 214) rfl)
theorem lk_List_131 : Cond.methodLink "java/util/ArrayList" 131 M_List_add2.1 ∈ lw_tbl := sp_tb1 _ (List.mem_of_getElem? (i := 218) rfl)
theorem lk_List_129 : Cond.methodLink "java/util/ArrayList" 129 M_List_grow1.1 ∈ lw_tbl := sp_tb1 _ (List.mem_of_getElem? (i := 222) rfl)
theorem lk_List_69 : Cond.methodLink "java/util/ArrayList" 69 M_List_grow2.1 ∈ lw_tbl := sp_tb1 _ (List.mem_of_getElem? (i := 226) rfl)
theorem lk_List_73 : Cond.methodLink "java/util/ArrayList" 73 M_ASup_newLength.1 ∈ lw_tbl := sp_tb1 _ (List.mem_of_getElem? (i := 230) rfl)
theorem lk_ASup_194 : Cond.methodLink "jdk/internal/util/ArraysSupport" 194 M_Math_max.1 ∈ lw_tbl := sp_tb1 _ (List.mem_of_getElem? (i := 233) rfl)
theorem lk_ASup_201 : Cond.methodLink "jdk/internal/util/ArraysSupport" 201 M_ASup_hugeLength.1 ∈ lw_tbl := sp_tb1 _ (List.mem_of_getElem? (i := 235) rfl)
theorem lk_List_66 : Cond.methodLink "java/util/ArrayList" 66 M_Arrays_copyOf1.1 ∈ lw_tbl := sp_tb1 _ (List.mem_of_getElem? (i := 238) rfl)
theorem lk_Arrays_300 : Cond.methodLink "java/util/Arrays" 300 M_Arrays_copyOf2.1 ∈ lw_tbl := sp_tb2 _ (List.mem_of_getElem? (i := 19) rfl)
theorem lk_Arrays_304 : Cond.methodLink "java/util/Arrays" 304 M_Math_min.1 ∈ lw_tbl := sp_tb2 _ (List.mem_of_getElem? (i := 25) rfl)
theorem lk_List_79 : Cond.methodLink "java/util/ArrayList" 79 M_Math_max.1 ∈ lw_tbl := sp_tb2 _ (List.mem_of_getElem? (i := 29) rfl)
theorem lk_SP_49 : Cond.methodLink "SafePaths" 49 M_Walk_init.1 ∈ lw_tbl := sp_tb2 _ (List.mem_of_getElem? (i := 58) rfl)
theorem lk_Walk_3 : Cond.methodLink "SafePaths$Walk" 3 Lib.objectInit ∈ lw_tbl := sp_tb2 _ (List.mem_of_getElem? (i := 61) rfl)
theorem lk_Walk_17 : Cond.methodLink "SafePaths$Walk" 17 M_List_init.1 ∈ lw_tbl := sp_tb2 _ (List.mem_of_getElem? (i := 63) rfl)
theorem lk_SP_58 : Cond.methodLink "SafePaths" 58 M_Taking_init.1 ∈ lw_tbl := sp_tb2 _ (List.mem_of_getElem? (i := 82) rfl)
theorem lk_Taking_3 : Cond.methodLink "SafePaths$Taking" 3 Lib.objectInit ∈ lw_tbl := sp_tb2 _ (List.mem_of_getElem? (i := 85) rfl)
theorem lk_Taking_25 : Cond.methodLink "SafePaths$Taking" 25 M_List_init.1 ∈ lw_tbl := sp_tb2 _ (List.mem_of_getElem? (i := 87) rfl)
theorem lk_Law_21 : Cond.methodLink "SafePathsLaw" 21 M_SP_put.1 ∈ lw_tbl := sp_tb2 _ (List.mem_of_getElem? (i := 162) rfl)
theorem lk_SP_69 : Cond.methodLink "SafePaths" 69 M_Draft_append.1 ∈ lw_tbl := sp_tb2 _ (List.mem_of_getElem? (i := 166) rfl)
theorem lk_Law_26 : Cond.methodLink "SafePathsLaw" 26 M_SP_path.1 ∈ lw_tbl := sp_tb2 _ (List.mem_of_getElem? (i := 170) rfl)
theorem lk_SP_73 : Cond.methodLink "SafePaths" 73 M_Draft_cut.1 ∈ lw_tbl := sp_tb2 _ (List.mem_of_getElem? (i := 174) rfl)
theorem lk_Draft_27 : Cond.methodLink "SafePaths$Draft" 27 M_List_init.1 ∈ lw_tbl := sp_tb2 _ (List.mem_of_getElem? (i := 179) rfl)
theorem lk_Draft_19 : Cond.methodLink "SafePaths$Draft" 19 M_Rules_divides.1 ∈ lw_tbl := sp_tb2 _ (List.mem_of_getElem? (i := 180) rfl)
theorem lk_Draft_28 : Cond.methodLink "SafePaths$Draft" 28 M_Draft_addUnlessPassedOver.1 ∈ lw_tbl := sp_tb2 _ (List.mem_of_getElem? (i := 184) rfl)
theorem lk_Draft_34 : Cond.methodLink "SafePaths$Draft" 34 M_Name_init.1 ∈ lw_tbl := sp_tb2 _ (List.mem_of_getElem? (i := 189) rfl)
theorem lk_Draft_37 : Cond.methodLink "SafePaths$Draft" 37 M_Name_isStay.1 ∈ lw_tbl := sp_tb2 _ (List.mem_of_getElem? (i := 190) rfl)
theorem lk_Draft_41 : Cond.methodLink "SafePaths$Draft" 41 M_List_add1.1 ∈ lw_tbl := sp_tb2 _ (List.mem_of_getElem? (i := 194) rfl)
theorem lk_SP_77 : Cond.methodLink "SafePaths" 77 M_SP_judgeAsPath.1 ∈ lw_tbl := sp_tb2 _ (List.mem_of_getElem? (i := 195) rfl)
theorem lk_SP_241 : Cond.methodLink "SafePaths" 241 M_List_isEmpty.1 ∈ lw_tbl := sp_tb2 _ (List.mem_of_getElem? (i := 199) rfl)
theorem lk_SP_120 : Cond.methodLink "SafePaths" 120 M_Draft_beginsWithDivider.1 ∈ lw_tbl := sp_tb2 _ (List.mem_of_getElem? (i := 203) rfl)
theorem lk_SP_244 : Cond.methodLink "SafePaths" 244 M_Draft_beginsWithDrive.1 ∈ lw_tbl := sp_tb2 _ (List.mem_of_getElem? (i := 207) rfl)
theorem lk_SP_81 : Cond.methodLink "SafePaths" 81 M_List_size.1 ∈ lw_tbl := sp_tb2 _ (List.mem_of_getElem? (i := 211) rfl)
theorem lk_SP_135 : Cond.methodLink "SafePaths" 135 M_List_get.1 ∈ lw_tbl := sp_tb2 _ (List.mem_of_getElem? (i := 215) rfl)
theorem lk_List_118 : Cond.methodLink "java/util/ArrayList" 118 M_Objects_checkIndex.1 ∈ lw_tbl := sp_tb2 _ (List.mem_of_getElem? (i := 219) rfl)
theorem lk_Objects_105 : Cond.methodLink "java/util/Objects" 105 M_Precond_checkIndex.1 ∈ lw_tbl := sp_tb2 _ (List.mem_of_getElem? (i := 222) rfl)
theorem lk_List_123 : Cond.methodLink "java/util/ArrayList" 123 M_List_elementData.1 ∈ lw_tbl := sp_tb2 _ (List.mem_of_getElem? (i := 225) rfl)
theorem lk_SP_247 : Cond.methodLink "SafePaths" 247 M_Name_judge.1 ∈ lw_tbl := sp_tb2 _ (List.mem_of_getElem? (i := 230) rfl)
theorem lk_Name_35 : Cond.methodLink "SafePaths$Name" 35 M_Name_isUp.1 ∈ lw_tbl := sp_tb2 _ (List.mem_of_getElem? (i := 234) rfl)
theorem lk_Name_39 : Cond.methodLink "SafePaths$Name" 39 M_Name_hasControlByte.1 ∈ lw_tbl := sp_tb2 _ (List.mem_of_getElem? (i := 238) rfl)
theorem lk_Name_48 : Cond.methodLink "SafePaths$Name" 48 M_Name_isOfOtherSystems.1 ∈ lw_tbl := sp_tb3 _ (List.mem_of_getElem? (i := 2) rfl)
theorem lk_Name_51 : Cond.methodLink "SafePaths$Name" 51 M_Name_byteAt.1 ∈ lw_tbl := sp_tb3 _ (List.mem_of_getElem? (i := 6) rfl)
theorem lk_Name_54 : Cond.methodLink "SafePaths$Name" 54 M_Name_hasMark.1 ∈ lw_tbl := sp_tb3 _ (List.mem_of_getElem? (i := 10) rfl)
theorem lk_Name_62 : Cond.methodLink "SafePaths$Name" 62 M_String_indexOf1.1 ∈ lw_tbl := sp_tb3 _ (List.mem_of_getElem? (i := 15) rfl)
theorem lk_String_633 : Cond.methodLink "java/lang/String" 633 M_String_indexOf2.1 ∈ lw_tbl := sp_tb3 _ (List.mem_of_getElem? (i := 19) rfl)
theorem lk_String_492 : Cond.methodLink "java/lang/String" 492 M_String_isLatin1.1 ∈ lw_tbl := sp_tb3 _ (List.mem_of_getElem? (i := 23) rfl)
theorem lk_String_505 : Cond.methodLink "java/lang/String" 505 M_String_length.1 ∈ lw_tbl := sp_tb3 _ (List.mem_of_getElem? (i := 29) rfl)
theorem lk_String_335 : Cond.methodLink "java/lang/String" 335 M_String_coder.1 ∈ lw_tbl := sp_tb3 _ (List.mem_of_getElem? (i := 33) rfl)
theorem lk_String_637 : Cond.methodLink "java/lang/String" 637 M_Latin1_indexOf.1 ∈ lw_tbl := sp_tb3 _ (List.mem_of_getElem? (i := 37) rfl)
theorem lk_Latin1_88 : Cond.methodLink "java/lang/StringLatin1" 88 M_Latin1_canEncode.1 ∈ lw_tbl := sp_tb3 _ (List.mem_of_getElem? (i := 40) rfl)
theorem lk_Latin1_92 : Cond.methodLink "java/lang/StringLatin1" 92 M_Math_max.1 ∈ lw_tbl := sp_tb3 _ (List.mem_of_getElem? (i := 43) rfl)
theorem lk_Latin1_38 : Cond.methodLink "java/lang/StringLatin1" 38 M_Math_min.1 ∈ lw_tbl := sp_tb3 _ (List.mem_of_getElem? (i := 44) rfl)
theorem lk_Latin1_95 : Cond.methodLink "java/lang/StringLatin1" 95 M_Latin1_indexOfChar.1 ∈ lw_tbl := sp_tb3 _ (List.mem_of_getElem? (i := 45) rfl)
theorem lk_String_640 : Cond.methodLink "java/lang/String" 640 M_UTF16_indexOf.1 ∈ lw_tbl := sp_tb3 _ (List.mem_of_getElem? (i := 48) rfl)
theorem lk_UTF16_224 : Cond.methodLink "java/lang/StringUTF16" 224 M_Math_max.1 ∈ lw_tbl := sp_tb3 _ (List.mem_of_getElem? (i := 51) rfl)
theorem lk_UTF16_183 : Cond.methodLink "java/lang/StringUTF16" 183 M_Math_min.1 ∈ lw_tbl := sp_tb3 _ (List.mem_of_getElem? (i := 52) rfl)
theorem lk_UTF16_228 : Cond.methodLink "java/lang/StringUTF16" 228 M_UTF16_indexOfChar.1 ∈ lw_tbl := sp_tb3 _ (List.mem_of_getElem? (i := 54) rfl)
theorem lk_UTF16_96 : Cond.methodLink "java/lang/StringUTF16" 96 M_UTF16_checkBoundsBeginEnd.1 ∈ lw_tbl := sp_tb3 _ (List.mem_of_getElem? (i := 57) rfl)
theorem lk_UTF16_48 : Cond.methodLink "java/lang/StringUTF16" 48 M_UTF16_length.1 ∈ lw_tbl := sp_tb3 _ (List.mem_of_getElem? (i := 60) rfl)
theorem lk_UTF16_241 : Cond.methodLink "java/lang/StringUTF16" 241 M_String_checkBoundsBeginEnd.1 ∈ lw_tbl := sp_tb3 _ (List.mem_of_getElem? (i := 63) rfl)
theorem lk_String_1062 : Cond.methodLink "java/lang/String" 1062 M_Precond_checkFromToIndex.1 ∈ lw_tbl := sp_tb3 _ (List.mem_of_getElem? (i := 68) rfl)
theorem lk_UTF16_244 : Cond.methodLink "java/lang/StringUTF16" 244 M_UTF16_indexOfCharUnsafe.1 ∈ lw_tbl := sp_tb3 _ (List.mem_of_getElem? (i := 71) rfl)
theorem lk_UTF16_71 : Cond.methodLink "java/lang/StringUTF16" 71 M_UTF16_getChar.1 ∈ lw_tbl := sp_tb3 _ (List.mem_of_getElem? (i := 74) rfl)
theorem lk_UTF16_232 : Cond.methodLink "java/lang/StringUTF16" 232 M_UTF16_indexOfSupplementary.1 ∈ lw_tbl := sp_tb3 _ (List.mem_of_getElem? (i := 83) rfl)
theorem lk_UTF16_164 : Cond.methodLink "java/lang/StringUTF16" 164 M_Char_isValidCodePoint.1 ∈ lw_tbl := sp_tb3 _ (List.mem_of_getElem? (i := 86) rfl)
theorem lk_UTF16_157 : Cond.methodLink "java/lang/StringUTF16" 157 M_Char_highSurrogate.1 ∈ lw_tbl := sp_tb3 _ (List.mem_of_getElem? (i := 89) rfl)
theorem lk_UTF16_161 : Cond.methodLink "java/lang/StringUTF16" 161 M_Char_lowSurrogate.1 ∈ lw_tbl := sp_tb3 _ (List.mem_of_getElem? (i := 93) rfl)
theorem lk_Name_57 : Cond.methodLink "SafePaths$Name" 57 M_Name_isKeptWord.1 ∈ lw_tbl := sp_tb3 _ (List.mem_of_getElem? (i := 97) rfl)
theorem lk_Name_67 : Cond.methodLink "SafePaths$Name" 67 M_Name_lengthToFirstDot.1 ∈ lw_tbl := sp_tb3 _ (List.mem_of_getElem? (i := 101) rfl)
theorem lk_Name_73 : Cond.methodLink "SafePaths$Name" 73 M_Name_beginsWithOneOf.1 ∈ lw_tbl := sp_tb3 _ (List.mem_of_getElem? (i := 106) rfl)
theorem lk_Name_79 : Cond.methodLink "SafePaths$Name" 79 M_String_length.1 ∈ lw_tbl := sp_tb3 _ (List.mem_of_getElem? (i := 110) rfl)
theorem lk_Name_82 : Cond.methodLink "SafePaths$Name" 82 M_String_charAt.1 ∈ lw_tbl := sp_tb3 _ (List.mem_of_getElem? (i := 111) rfl)
theorem lk_String_495 : Cond.methodLink "java/lang/String" 495 M_Latin1_charAt.1 ∈ lw_tbl := sp_tb3 _ (List.mem_of_getElem? (i := 115) rfl)
theorem lk_Latin1_9 : Cond.methodLink "java/lang/StringLatin1" 9 M_String_checkIndex.1 ∈ lw_tbl := sp_tb3 _ (List.mem_of_getElem? (i := 118) rfl)
theorem lk_String_1059 : Cond.methodLink "java/lang/String" 1059 M_Precond_checkIndex.1 ∈ lw_tbl := sp_tb3 _ (List.mem_of_getElem? (i := 121) rfl)
theorem lk_String_498 : Cond.methodLink "java/lang/String" 498 M_UTF16_charAt.1 ∈ lw_tbl := sp_tb3 _ (List.mem_of_getElem? (i := 122) rfl)
theorem lk_UTF16_67 : Cond.methodLink "java/lang/StringUTF16" 67 M_UTF16_checkIndex.1 ∈ lw_tbl := sp_tb3 _ (List.mem_of_getElem? (i := 125) rfl)
theorem lk_UTF16_414 : Cond.methodLink "java/lang/StringUTF16" 414 M_String_checkIndex.1 ∈ lw_tbl := sp_tb3 _ (List.mem_of_getElem? (i := 128) rfl)
theorem lk_SP_250 : Cond.methodLink "SafePaths" 250 M_SP_earlierOf.1 ∈ lw_tbl := sp_tb3 _ (List.mem_of_getElem? (i := 130) rfl)
theorem lk_SP_254 : Cond.methodLink "SafePaths" 254 M_Math_min.1 ∈ lw_tbl := sp_tb3 _ (List.mem_of_getElem? (i := 133) rfl)
theorem lk_SP_259 : Cond.methodLink "SafePaths" 259 M_Math_max.1 ∈ lw_tbl := sp_tb3 _ (List.mem_of_getElem? (i := 134) rfl)
theorem lk_SP_87 : Cond.methodLink "SafePaths" 87 M_Parted_init.1 ∈ lw_tbl := sp_tb3 _ (List.mem_of_getElem? (i := 137) rfl)
theorem lk_Parted_1 : Cond.methodLink "SafePaths$Parted" 1 Lib.objectInit ∈ lw_tbl := sp_tb3 _ (List.mem_of_getElem? (i := 140) rfl)
theorem lk_Parted_29 : Cond.methodLink "SafePaths$Parted" 29 M_Name_init.1 ∈ lw_tbl := sp_tb3 _ (List.mem_of_getElem? (i := 143) rfl)
theorem lk_SP_90 : Cond.methodLink "SafePaths" 90 M_List_add1.1 ∈ lw_tbl := sp_tb3 _ (List.mem_of_getElem? (i := 160) rfl)
theorem lk_SP_94 : Cond.methodLink "SafePaths" 94 M_Draft_clear.1 ∈ lw_tbl := sp_tb3 _ (List.mem_of_getElem? (i := 161) rfl)
theorem lk_Law_31 : Cond.methodLink "SafePathsLaw" 31 M_SP_part.1 ∈ lw_tbl := sp_tb3 _ (List.mem_of_getElem? (i := 165) rfl)
theorem lk_SP_97 : Cond.methodLink "SafePaths" 97 M_SP_memberOf.1 ∈ lw_tbl := sp_tb3 _ (List.mem_of_getElem? (i := 169) rfl)
theorem lk_SP_101 : Cond.methodLink "SafePaths" 101 M_Parted_at.1 ∈ lw_tbl := sp_tb3 _ (List.mem_of_getElem? (i := 172) rfl)
theorem lk_Parted_36 : Cond.methodLink "SafePaths$Parted" 36 M_List_size.1 ∈ lw_tbl := sp_tb3 _ (List.mem_of_getElem? (i := 176) rfl)
theorem lk_Parted_42 : Cond.methodLink "SafePaths$Parted" 42 M_List_get.1 ∈ lw_tbl := sp_tb3 _ (List.mem_of_getElem? (i := 177) rfl)
theorem lk_SP_105 : Cond.methodLink "SafePaths" 105 M_Name_byteAt.1 ∈ lw_tbl := sp_tb3 _ (List.mem_of_getElem? (i := 178) rfl)
theorem lk_Law_36 : Cond.methodLink "SafePathsLaw" 36 M_SP_meets.1 ∈ lw_tbl := sp_tb3 _ (List.mem_of_getElem? (i := 179) rfl)
theorem lk_SP_110 : Cond.methodLink "SafePaths" 110 M_Parted_count.1 ∈ lw_tbl := sp_tb3 _ (List.mem_of_getElem? (i := 183) rfl)
theorem lk_SP_113 : Cond.methodLink "SafePaths" 113 M_Rules_takeAsOne.1 ∈ lw_tbl := sp_tb3 _ (List.mem_of_getElem? (i := 187) rfl)
theorem lk_Rules_30 : Cond.methodLink "SafePaths$Rules" 30 M_Name_isSameAs.1 ∈ lw_tbl := sp_tb3 _ (List.mem_of_getElem? (i := 191) rfl)
theorem lk_Name_31 : Cond.methodLink "SafePaths$Name" 31 M_Name_isEqual.1 ∈ lw_tbl := sp_tb3 _ (List.mem_of_getElem? (i := 195) rfl)
theorem lk_Rules_36 : Cond.methodLink "SafePaths$Rules" 36 M_Name_isAlike.1 ∈ lw_tbl := sp_tb3 _ (List.mem_of_getElem? (i := 198) rfl)
theorem lk_Law_41 : Cond.methodLink "SafePathsLaw" 41 M_SP_target.1 ∈ lw_tbl := sp_tb3 _ (List.mem_of_getElem? (i := 202) rfl)
theorem lk_SP_117 : Cond.methodLink "SafePaths" 117 M_SP_judgeAsTarget.1 ∈ lw_tbl := sp_tb3 _ (List.mem_of_getElem? (i := 206) rfl)
theorem lk_SP_262 : Cond.methodLink "SafePaths" 262 M_Draft_length.1 ∈ lw_tbl := sp_tb3 _ (List.mem_of_getElem? (i := 210) rfl)
theorem lk_Law_47 : Cond.methodLink "SafePathsLaw" 47 M_SP_entry.1 ∈ lw_tbl := sp_tb3 _ (List.mem_of_getElem? (i := 214) rfl)
theorem lk_SP_124 : Cond.methodLink "SafePaths" 124 M_SP_otherOf.1 ∈ lw_tbl := sp_tb3 _ (List.mem_of_getElem? (i := 218) rfl)
theorem lk_SP_132 : Cond.methodLink "SafePaths" 132 M_Entry_init.1 ∈ lw_tbl := sp_tb3 _ (List.mem_of_getElem? (i := 225) rfl)
theorem lk_Entry_1 : Cond.methodLink "SafePaths$Entry" 1 Lib.objectInit ∈ lw_tbl := sp_tb3 _ (List.mem_of_getElem? (i := 228) rfl)
theorem lk_Law_52 : Cond.methodLink "SafePathsLaw" 52 M_SP_take.1 ∈ lw_tbl := sp_tb4 _ (List.mem_of_getElem? (i := 10) rfl)
theorem lk_SP_139 : Cond.methodLink "SafePaths" 139 M_Taking_judge.1 ∈ lw_tbl := sp_tb4 _ (List.mem_of_getElem? (i := 14) rfl)
theorem lk_Taking_94 : Cond.methodLink "SafePaths$Taking" 94 M_Taking_forgetLastJudgement.1 ∈ lw_tbl := sp_tb4 _ (List.mem_of_getElem? (i := 18) rfl)
theorem lk_Taking_103 : Cond.methodLink "SafePaths$Taking" 103 M_Taking_judgeWay.1 ∈ lw_tbl := sp_tb4 _ (List.mem_of_getElem? (i := 22) rfl)
theorem lk_Taking_107 : Cond.methodLink "SafePaths$Taking" 107 M_Parted_count.1 ∈ lw_tbl := sp_tb4 _ (List.mem_of_getElem? (i := 26) rfl)
theorem lk_Taking_112 : Cond.methodLink "SafePaths$Taking" 112 M_Parted_at.1 ∈ lw_tbl := sp_tb4 _ (List.mem_of_getElem? (i := 27) rfl)
theorem lk_Taking_127 : Cond.methodLink "SafePaths$Taking" 127 M_Taking_judgeWayPart.1 ∈ lw_tbl := sp_tb4 _ (List.mem_of_getElem? (i := 28) rfl)
theorem lk_Taking_130 : Cond.methodLink "SafePaths$Taking" 130 M_Taking_nextBy.1 ∈ lw_tbl := sp_tb4 _ (List.mem_of_getElem? (i := 32) rfl)
theorem lk_Taking_147 : Cond.methodLink "SafePaths$Taking" 147 M_Tree_childOf.1 ∈ lw_tbl := sp_tb4 _ (List.mem_of_getElem? (i := 36) rfl)
theorem lk_Tree_72 : Cond.methodLink "SafePaths$Tree" 72 M_List_size.1 ∈ lw_tbl := sp_tb4 _ (List.mem_of_getElem? (i := 40) rfl)
theorem lk_Tree_76 : Cond.methodLink "SafePaths$Tree" 76 M_List_get.1 ∈ lw_tbl := sp_tb4 _ (List.mem_of_getElem? (i := 41) rfl)
theorem lk_Tree_84 : Cond.methodLink "SafePaths$Tree" 84 M_Node_up.1 ∈ lw_tbl := sp_tb4 _ (List.mem_of_getElem? (i := 42) rfl)
theorem lk_Tree_92 : Cond.methodLink "SafePaths$Tree" 92 M_Name_isSameAs.1 ∈ lw_tbl := sp_tb4 _ (List.mem_of_getElem? (i := 46) rfl)
theorem lk_Tree_101 : Cond.methodLink "SafePaths$Tree" 101 M_Name_isAlike.1 ∈ lw_tbl := sp_tb4 _ (List.mem_of_getElem? (i := 47) rfl)
theorem lk_Taking_134 : Cond.methodLink "SafePaths$Taking" 134 M_Taking_judgeLack.1 ∈ lw_tbl := sp_tb4 _ (List.mem_of_getElem? (i := 48) rfl)
theorem lk_Taking_156 : Cond.methodLink "SafePaths$Taking" 156 M_Taking_isShut.1 ∈ lw_tbl := sp_tb4 _ (List.mem_of_getElem? (i := 52) rfl)
theorem lk_Taking_137 : Cond.methodLink "SafePaths$Taking" 137 M_Taking_isRefusedMeeting.1 ∈ lw_tbl := sp_tb4 _ (List.mem_of_getElem? (i := 56) rfl)
theorem lk_Taking_167 : Cond.methodLink "SafePaths$Taking" 167 M_Name_isSameAs.1 ∈ lw_tbl := sp_tb4 _ (List.mem_of_getElem? (i := 60) rfl)
theorem lk_Taking_116 : Cond.methodLink "SafePaths$Taking" 116 M_Taking_judgeLast.1 ∈ lw_tbl := sp_tb4 _ (List.mem_of_getElem? (i := 61) rfl)
theorem lk_Taking_120 : Cond.methodLink "SafePaths$Taking" 120 M_Taking_judgeKind.1 ∈ lw_tbl := sp_tb4 _ (List.mem_of_getElem? (i := 65) rfl)
theorem lk_Taking_176 : Cond.methodLink "SafePaths$Taking" 176 M_Node_isFolder.1 ∈ lw_tbl := sp_tb4 _ (List.mem_of_getElem? (i := 69) rfl)
theorem lk_Taking_179 : Cond.methodLink "SafePaths$Taking" 179 M_Taking_isPlaceTaken.1 ∈ lw_tbl := sp_tb4 _ (List.mem_of_getElem? (i := 73) rfl)
theorem lk_Taking_186 : Cond.methodLink "SafePaths$Taking" 186 M_Walk_goThrough.1 ∈ lw_tbl := sp_tb4 _ (List.mem_of_getElem? (i := 77) rfl)
theorem lk_Walk_38 : Cond.methodLink "SafePaths$Walk" 38 M_List_clear.1 ∈ lw_tbl := sp_tb4 _ (List.mem_of_getElem? (i := 81) rfl)
theorem lk_Walk_41 : Cond.methodLink "SafePaths$Walk" 41 M_Walk_begin.1 ∈ lw_tbl := sp_tb4 _ (List.mem_of_getElem? (i := 85) rfl)
theorem lk_Walk_91 : Cond.methodLink "SafePaths$Walk" 91 M_Parted_count.1 ∈ lw_tbl := sp_tb4 _ (List.mem_of_getElem? (i := 89) rfl)
theorem lk_Walk_94 : Cond.methodLink "SafePaths$Walk" 94 M_Parted_at.1 ∈ lw_tbl := sp_tb4 _ (List.mem_of_getElem? (i := 90) rfl)
theorem lk_Walk_98 : Cond.methodLink "SafePaths$Walk" 98 M_List_add1.1 ∈ lw_tbl := sp_tb4 _ (List.mem_of_getElem? (i := 91) rfl)
theorem lk_Walk_45 : Cond.methodLink "SafePaths$Walk" 45 M_Tree_isOutside.1 ∈ lw_tbl := sp_tb4 _ (List.mem_of_getElem? (i := 92) rfl)
theorem lk_Walk_49 : Cond.methodLink "SafePaths$Walk" 49 M_List_isEmpty.1 ∈ lw_tbl := sp_tb4 _ (List.mem_of_getElem? (i := 96) rfl)
theorem lk_Walk_58 : Cond.methodLink "SafePaths$Walk" 58 M_List_size.1 ∈ lw_tbl := sp_tb4 _ (List.mem_of_getElem? (i := 97) rfl)
theorem lk_Walk_62 : Cond.methodLink "SafePaths$Walk" 62 M_List_remove.1 ∈ lw_tbl := sp_tb4 _ (List.mem_of_getElem? (i := 98) rfl)
theorem lk_List_144 : Cond.methodLink "java/util/ArrayList" 144 M_List_fastRemove.1 ∈ lw_tbl := sp_tb4 _ (List.mem_of_getElem? (i := 102) rfl)
theorem lk_Walk_68 : Cond.methodLink "SafePaths$Walk" 68 M_Name_isUp.1 ∈ lw_tbl := sp_tb4 _ (List.mem_of_getElem? (i := 108) rfl)
theorem lk_Walk_71 : Cond.methodLink "SafePaths$Walk" 71 M_Walk_goUp.1 ∈ lw_tbl := sp_tb4 _ (List.mem_of_getElem? (i := 109) rfl)
theorem lk_Walk_102 : Cond.methodLink "SafePaths$Walk" 102 M_Node_up.1 ∈ lw_tbl := sp_tb4 _ (List.mem_of_getElem? (i := 113) rfl)
theorem lk_Walk_74 : Cond.methodLink "SafePaths$Walk" 74 M_Tree_childOf.1 ∈ lw_tbl := sp_tb4 _ (List.mem_of_getElem? (i := 114) rfl)
theorem lk_Walk_78 : Cond.methodLink "SafePaths$Walk" 78 M_Walk_goTo.1 ∈ lw_tbl := sp_tb4 _ (List.mem_of_getElem? (i := 115) rfl)
theorem lk_Walk_106 : Cond.methodLink "SafePaths$Walk" 106 M_Node_isFolder.1 ∈ lw_tbl := sp_tb4 _ (List.mem_of_getElem? (i := 119) rfl)
theorem lk_Taking_195 : Cond.methodLink "SafePaths$Taking" 195 M_Taking_judgeSharing.1 ∈ lw_tbl := sp_tb4 _ (List.mem_of_getElem? (i := 120) rfl)
theorem lk_Taking_198 : Cond.methodLink "SafePaths$Taking" 198 M_Tree_reach.1 ∈ lw_tbl := sp_tb4 _ (List.mem_of_getElem? (i := 124) rfl)
theorem lk_Tree_104 : Cond.methodLink "SafePaths$Tree" 104 M_Parted_count.1 ∈ lw_tbl := sp_tb4 _ (List.mem_of_getElem? (i := 128) rfl)
theorem lk_Tree_109 : Cond.methodLink "SafePaths$Tree" 109 M_Node_isFolder.1 ∈ lw_tbl := sp_tb4 _ (List.mem_of_getElem? (i := 129) rfl)
theorem lk_Tree_113 : Cond.methodLink "SafePaths$Tree" 113 M_Parted_at.1 ∈ lw_tbl := sp_tb4 _ (List.mem_of_getElem? (i := 130) rfl)
theorem lk_Tree_117 : Cond.methodLink "SafePaths$Tree" 117 M_Tree_childOf.1 ∈ lw_tbl := sp_tb4 _ (List.mem_of_getElem? (i := 131) rfl)
theorem lk_Taking_124 : Cond.methodLink "SafePaths$Taking" 124 M_Taking_judgeLimits.1 ∈ lw_tbl := sp_tb4 _ (List.mem_of_getElem? (i := 132) rfl)
theorem lk_Taking_204 : Cond.methodLink "SafePaths$Taking" 204 M_Tree_nodeCount.1 ∈ lw_tbl := sp_tb4 _ (List.mem_of_getElem? (i := 136) rfl)
theorem lk_SP_143 : Cond.methodLink "SafePaths" 143 M_Taking_carryOut.1 ∈ lw_tbl := sp_tb4 _ (List.mem_of_getElem? (i := 140) rfl)
theorem lk_Taking_207 : Cond.methodLink "SafePaths$Taking" 207 M_Taking_bring.1 ∈ lw_tbl := sp_tb4 _ (List.mem_of_getElem? (i := 144) rfl)
theorem lk_Taking_224 : Cond.methodLink "SafePaths$Taking" 224 M_Tree_addNode.1 ∈ lw_tbl := sp_tb4 _ (List.mem_of_getElem? (i := 148) rfl)
theorem lk_Taking_231 : Cond.methodLink "SafePaths$Taking" 231 M_Taking_bodyFor.1 ∈ lw_tbl := sp_tb4 _ (List.mem_of_getElem? (i := 152) rfl)
theorem lk_Taking_235 : Cond.methodLink "SafePaths$Taking" 235 M_Tree_addBody.1 ∈ lw_tbl := sp_tb4 _ (List.mem_of_getElem? (i := 156) rfl)
theorem lk_Taking_74 : Cond.methodLink "SafePaths$Taking" 74 M_List_size.1 ∈ lw_tbl := sp_tb4 _ (List.mem_of_getElem? (i := 160) rfl)
theorem lk_Taking_214 : Cond.methodLink "SafePaths$Taking" 214 M_Note_init.1 ∈ lw_tbl := sp_tb4 _ (List.mem_of_getElem? (i := 163) rfl)
theorem lk_Note_1 : Cond.methodLink "SafePaths$Note" 1 Lib.objectInit ∈ lw_tbl := sp_tb4 _ (List.mem_of_getElem? (i := 166) rfl)
theorem lk_Taking_217 : Cond.methodLink "SafePaths$Taking" 217 M_List_add1.1 ∈ lw_tbl := sp_tb4 _ (List.mem_of_getElem? (i := 176) rfl)
theorem lk_Law_56 : Cond.methodLink "SafePathsLaw" 56 M_SP_dry.1 ∈ lw_tbl := sp_tb4 _ (List.mem_of_getElem? (i := 177) rfl)
theorem lk_Law_60 : Cond.methodLink "SafePathsLaw" 60 M_SP_finish.1 ∈ lw_tbl := sp_tb4 _ (List.mem_of_getElem? (i := 181) rfl)
theorem lk_SP_146 : Cond.methodLink "SafePaths" 146 M_Taking_setNotedRights.1 ∈ lw_tbl := sp_tb4 _ (List.mem_of_getElem? (i := 185) rfl)
theorem lk_Taking_78 : Cond.methodLink "SafePaths$Taking" 78 M_List_get.1 ∈ lw_tbl := sp_tb4 _ (List.mem_of_getElem? (i := 189) rfl)
theorem lk_Taking_91 : Cond.methodLink "SafePaths$Taking" 91 M_List_clear.1 ∈ lw_tbl := sp_tb4 _ (List.mem_of_getElem? (i := 190) rfl)
theorem lk_SP_149 : Cond.methodLink "SafePaths" 149 M_Tree_countShut.1 ∈ lw_tbl := sp_tb4 _ (List.mem_of_getElem? (i := 191) rfl)
theorem lk_Tree_124 : Cond.methodLink "SafePaths$Tree" 124 M_Node_state.1 ∈ lw_tbl := sp_tb4 _ (List.mem_of_getElem? (i := 195) rfl)
theorem lk_Law_64 : Cond.methodLink "SafePathsLaw" 64 M_SP_limit.1 ∈ lw_tbl := sp_tb4 _ (List.mem_of_getElem? (i := 199) rfl)
theorem lk_SP_154 : Cond.methodLink "SafePaths" 154 M_Taking_changeNodeLimit.1 ∈ lw_tbl := sp_tb4 _ (List.mem_of_getElem? (i := 204) rfl)
theorem lk_SP_158 : Cond.methodLink "SafePaths" 158 M_Taking_changeSizeLimit.1 ∈ lw_tbl := sp_tb4 _ (List.mem_of_getElem? (i := 208) rfl)
theorem lk_Law_69 : Cond.methodLink "SafePathsLaw" 69 M_SP_lead.1 ∈ lw_tbl := sp_tb4 _ (List.mem_of_getElem? (i := 212) rfl)
theorem lk_SP_161 : Cond.methodLink "SafePaths" 161 M_Tree_at.1 ∈ lw_tbl := sp_tb4 _ (List.mem_of_getElem? (i := 216) rfl)
theorem lk_SP_180 : Cond.methodLink "SafePaths" 180 M_Node_up.1 ∈ lw_tbl := sp_tb4 _ (List.mem_of_getElem? (i := 220) rfl)
theorem lk_SP_184 : Cond.methodLink "SafePaths" 184 M_Walk_goThrough.1 ∈ lw_tbl := sp_tb4 _ (List.mem_of_getElem? (i := 221) rfl)
theorem lk_Law_73 : Cond.methodLink "SafePathsLaw" 73 M_SP_find.1 ∈ lw_tbl := sp_tb4 _ (List.mem_of_getElem? (i := 222) rfl)
theorem lk_SP_188 : Cond.methodLink "SafePaths" 188 M_Tree_reach.1 ∈ lw_tbl := sp_tb4 _ (List.mem_of_getElem? (i := 226) rfl)
theorem lk_Law_77 : Cond.methodLink "SafePathsLaw" 77 M_SP_node.1 ∈ lw_tbl := sp_tb4 _ (List.mem_of_getElem? (i := 227) rfl)
theorem lk_SP_192 : Cond.methodLink "SafePaths" 192 M_Node_state.1 ∈ lw_tbl := sp_tb4 _ (List.mem_of_getElem? (i := 231) rfl)
theorem lk_SP_195 : Cond.methodLink "SafePaths" 195 M_Tree_contentOf.1 ∈ lw_tbl := sp_tb4 _ (List.mem_of_getElem? (i := 232) rfl)
theorem lk_Tree_145 : Cond.methodLink "SafePaths$Tree" 145 M_Tree_countIn.1 ∈ lw_tbl := sp_tb4 _ (List.mem_of_getElem? (i := 236) rfl)
theorem lk_SP_203 : Cond.methodLink "SafePaths" 203 M_Name_length.1 ∈ lw_tbl := sp_tb5 _ (List.mem_of_getElem? (i := 0) rfl)
theorem lk_Law_81 : Cond.methodLink "SafePathsLaw" 81 M_SP_name.1 ∈ lw_tbl := sp_tb5 _ (List.mem_of_getElem? (i := 4) rfl)
theorem lk_Law_85 : Cond.methodLink "SafePathsLaw" 85 M_SP_body.1 ∈ lw_tbl := sp_tb5 _ (List.mem_of_getElem? (i := 8) rfl)
theorem lk_SP_206 : Cond.methodLink "SafePaths" 206 M_Tree_bodyAt.1 ∈ lw_tbl := sp_tb5 _ (List.mem_of_getElem? (i := 12) rfl)
theorem lk_SP_218 : Cond.methodLink "SafePaths" 218 M_Tree_countFilesWith.1 ∈ lw_tbl := sp_tb5 _ (List.mem_of_getElem? (i := 16) rfl)
theorem lk_Law_90 : Cond.methodLink "SafePathsLaw" 90 M_SP_inside.1 ∈ lw_tbl := sp_tb5 _ (List.mem_of_getElem? (i := 20) rfl)
theorem lk_SP_222 : Cond.methodLink "SafePaths" 222 M_Tree_isUntouchedOutside.1 ∈ lw_tbl := sp_tb5 _ (List.mem_of_getElem? (i := 24) rfl)
theorem lk_SP_226 : Cond.methodLink "SafePaths" 226 M_Tree_isAllElseBelowRoot.1 ∈ lw_tbl := sp_tb5 _ (List.mem_of_getElem? (i := 28) rfl)
theorem lk_Tree_131 : Cond.methodLink "SafePaths$Tree" 131 M_Tree_isOutside.1 ∈ lw_tbl := sp_tb5 _ (List.mem_of_getElem? (i := 32) rfl)
theorem lk_Law_95 : Cond.methodLink "SafePathsLaw" 95 M_SP_told.1 ∈ lw_tbl := sp_tb5 _ (List.mem_of_getElem? (i := 33) rfl)
theorem lk_SP_229 : Cond.methodLink "SafePaths" 229 M_Tree_nodeCount.1 ∈ lw_tbl := sp_tb5 _ (List.mem_of_getElem? (i := 37) rfl)
theorem lk_SP_232 : Cond.methodLink "SafePaths" 232 M_Tree_bodyCount.1 ∈ lw_tbl := sp_tb5 _ (List.mem_of_getElem? (i := 38) rfl)
theorem lk_SP_238 : Cond.methodLink "SafePaths" 238 M_Taking_notedCount.1 ∈ lw_tbl := sp_tb5 _ (List.mem_of_getElem? (i := 42) rfl)
theorem lk_Law_9 : Cond.methodLink "SafePathsLaw" 9 M_Law_cell.1 ∈ lw_tbl := sp_tb5 _ (List.mem_of_getElem? (i := 46) rfl)
theorem lk_Law_20 : Cond.methodLink "SafePathsLaw" 20 M_Mo_init.1 ∈ lw_tbl := sp_tb5 _ (List.mem_of_getElem? (i := 51) rfl)
theorem lk_Mo_1 : Cond.methodLink "SafePathsModel" 1 Lib.objectInit ∈ lw_tbl := sp_tb5 _ (List.mem_of_getElem? (i := 54) rfl)
theorem lk_Mo_99 : Cond.methodLink "SafePathsModel" 99 M_Mo_add.1 ∈ lw_tbl := sp_tb5 _ (List.mem_of_getElem? (i := 57) rfl)
theorem lk_Mo_103 : Cond.methodLink "SafePathsModel" 103 M_Mo_word3.1 ∈ lw_tbl := sp_tb5 _ (List.mem_of_getElem? (i := 61) rfl)
theorem lk_Law_25 : Cond.methodLink "SafePathsLaw" 25 M_Mo_put.1 ∈ lw_tbl := sp_tb5 _ (List.mem_of_getElem? (i := 195) rfl)
theorem lk_Law_30 : Cond.methodLink "SafePathsLaw" 30 M_Mo_path.1 ∈ lw_tbl := sp_tb5 _ (List.mem_of_getElem? (i := 199) rfl)
theorem lk_Mo_136 : Cond.methodLink "SafePathsModel" 136 M_Mo_nextPart.1 ∈ lw_tbl := sp_tb5 _ (List.mem_of_getElem? (i := 203) rfl)
theorem lk_Mo_125 : Cond.methodLink "SafePathsModel" 125 M_Mo_isParting.1 ∈ lw_tbl := sp_tb5 _ (List.mem_of_getElem? (i := 207) rfl)
theorem lk_Mo_118 : Cond.methodLink "SafePathsModel" 118 M_Mo_hasRule.1 ∈ lw_tbl := sp_tb5 _ (List.mem_of_getElem? (i := 211) rfl)
theorem lk_Mo_139 : Cond.methodLink "SafePathsModel" 139 M_Mo_isUp.1 ∈ lw_tbl := sp_tb5 _ (List.mem_of_getElem? (i := 215) rfl)
theorem lk_Mo_143 : Cond.methodLink "SafePathsModel" 143 M_Mo_isBad.1 ∈ lw_tbl := sp_tb5 _ (List.mem_of_getElem? (i := 219) rfl)
theorem lk_Mo_132 : Cond.methodLink "SafePathsModel" 132 M_Mo_isLike.1 ∈ lw_tbl := sp_tb5 _ (List.mem_of_getElem? (i := 223) rfl)
theorem lk_Mo_128 : Cond.methodLink "SafePathsModel" 128 M_Mo_small.1 ∈ lw_tbl := sp_tb5 _ (List.mem_of_getElem? (i := 227) rfl)
theorem lk_Law_35 : Cond.methodLink "SafePathsLaw" 35 M_Mo_part.1 ∈ lw_tbl := sp_tb5 _ (List.mem_of_getElem? (i := 230) rfl)
theorem lk_Mo_149 : Cond.methodLink "SafePathsModel" 149 M_Mo_isPath.1 ∈ lw_tbl := sp_tb5 _ (List.mem_of_getElem? (i := 234) rfl)
theorem lk_Law_40 : Cond.methodLink "SafePathsLaw" 40 M_Mo_meets.1 ∈ lw_tbl := sp_tb5 _ (List.mem_of_getElem? (i := 238) rfl)
theorem lk_Law_44 : Cond.methodLink "SafePathsLaw" 44 M_Mo_target.1 ∈ lw_tbl := sp_tb6 _ (List.mem_of_getElem? (i := 2) rfl)
theorem lk_Law_72 : Cond.methodLink "SafePathsLaw" 72 M_Mo_lead.1 ∈ lw_tbl := sp_tb6 _ (List.mem_of_getElem? (i := 6) rfl)
theorem lk_Mo_177 : Cond.methodLink "SafePathsModel" 177 M_Mo_leads.1 ∈ lw_tbl := sp_tb6 _ (List.mem_of_getElem? (i := 10) rfl)
theorem lk_Mo_162 : Cond.methodLink "SafePathsModel" 162 M_Mo_startOf.1 ∈ lw_tbl := sp_tb6 _ (List.mem_of_getElem? (i := 14) rfl)
theorem lk_Mo_165 : Cond.methodLink "SafePathsModel" 165 M_Mo_isInside.1 ∈ lw_tbl := sp_tb6 _ (List.mem_of_getElem? (i := 18) rfl)
theorem lk_Mo_168 : Cond.methodLink "SafePathsModel" 168 M_Mo_nextWord.1 ∈ lw_tbl := sp_tb6 _ (List.mem_of_getElem? (i := 22) rfl)
theorem lk_Mo_171 : Cond.methodLink "SafePathsModel" 171 M_Mo_in.1 ∈ lw_tbl := sp_tb6 _ (List.mem_of_getElem? (i := 26) rfl)
theorem lk_Mo_155 : Cond.methodLink "SafePathsModel" 155 M_Mo_isNamed.1 ∈ lw_tbl := sp_tb6 _ (List.mem_of_getElem? (i := 30) rfl)
theorem lk_Mo_174 : Cond.methodLink "SafePathsModel" 174 M_Mo_isLeft.1 ∈ lw_tbl := sp_tb6 _ (List.mem_of_getElem? (i := 34) rfl)
theorem lk_Law_51 : Cond.methodLink "SafePathsLaw" 51 M_Mo_entry.1 ∈ lw_tbl := sp_tb6 _ (List.mem_of_getElem? (i := 38) rfl)
theorem lk_Law_55 : Cond.methodLink "SafePathsLaw" 55 M_Mo_take.1 ∈ lw_tbl := sp_tb6 _ (List.mem_of_getElem? (i := 43) rfl)
theorem lk_Mo_230 : Cond.methodLink "SafePathsModel" 230 M_Mo_isEntry.1 ∈ lw_tbl := sp_tb6 _ (List.mem_of_getElem? (i := 47) rfl)
theorem lk_Mo_233 : Cond.methodLink "SafePathsModel" 233 M_Mo_takes.1 ∈ lw_tbl := sp_tb6 _ (List.mem_of_getElem? (i := 51) rfl)
theorem lk_Mo_199 : Cond.methodLink "SafePathsModel" 199 M_Mo_walk.1 ∈ lw_tbl := sp_tb6 _ (List.mem_of_getElem? (i := 55) rfl)
theorem lk_Mo_189 : Cond.methodLink "SafePathsModel" 189 M_Mo_partWord.1 ∈ lw_tbl := sp_tb6 _ (List.mem_of_getElem? (i := 59) rfl)
theorem lk_Mo_206 : Cond.methodLink "SafePathsModel" 206 M_Mo_note.1 ∈ lw_tbl := sp_tb6 _ (List.mem_of_getElem? (i := 63) rfl)
theorem lk_Mo_210 : Cond.methodLink "SafePathsModel" 210 M_Mo_isThere.1 ∈ lw_tbl := sp_tb6 _ (List.mem_of_getElem? (i := 67) rfl)
theorem lk_Mo_214 : Cond.methodLink "SafePathsModel" 214 M_Mo_fileAt.1 ∈ lw_tbl := sp_tb6 _ (List.mem_of_getElem? (i := 71) rfl)
theorem lk_Mo_223 : Cond.methodLink "SafePathsModel" 223 M_Mo_comes.1 ∈ lw_tbl := sp_tb6 _ (List.mem_of_getElem? (i := 75) rfl)
theorem lk_Law_59 : Cond.methodLink "SafePathsLaw" 59 M_Mo_dry.1 ∈ lw_tbl := sp_tb6 _ (List.mem_of_getElem? (i := 79) rfl)
theorem lk_Law_63 : Cond.methodLink "SafePathsLaw" 63 M_Mo_finish.1 ∈ lw_tbl := sp_tb6 _ (List.mem_of_getElem? (i := 83) rfl)
theorem lk_Law_68 : Cond.methodLink "SafePathsLaw" 68 M_Mo_limit.1 ∈ lw_tbl := sp_tb6 _ (List.mem_of_getElem? (i := 87) rfl)
theorem lk_Law_76 : Cond.methodLink "SafePathsLaw" 76 M_Mo_find.1 ∈ lw_tbl := sp_tb6 _ (List.mem_of_getElem? (i := 92) rfl)
theorem lk_Law_80 : Cond.methodLink "SafePathsLaw" 80 M_Mo_node.1 ∈ lw_tbl := sp_tb6 _ (List.mem_of_getElem? (i := 96) rfl)
theorem lk_Law_84 : Cond.methodLink "SafePathsLaw" 84 M_Mo_name.1 ∈ lw_tbl := sp_tb6 _ (List.mem_of_getElem? (i := 100) rfl)
theorem lk_Law_89 : Cond.methodLink "SafePathsLaw" 89 M_Mo_body.1 ∈ lw_tbl := sp_tb6 _ (List.mem_of_getElem? (i := 104) rfl)
theorem lk_Law_94 : Cond.methodLink "SafePathsLaw" 94 M_Mo_inside.1 ∈ lw_tbl := sp_tb6 _ (List.mem_of_getElem? (i := 108) rfl)
theorem lk_Law_98 : Cond.methodLink "SafePathsLaw" 98 M_Mo_told.1 ∈ lw_tbl := sp_tb6 _ (List.mem_of_getElem? (i := 112) rfl)
theorem oi_1 : Cond.instanceMethod Lib.objectInit ∈ lw_tbl := sp_tb1 _ (List.mem_of_getElem? (i := 33) rfl)
theorem oi_2 : Cond.code Lib.objectInit ⟨#[0xb1]⟩ 1 none ∈ lw_tbl := sp_tb1 _ (List.mem_of_getElem? (i := 34) rfl)
theorem fl_Rules_9 : sp_fl "SafePaths$Rules" 9 (sp_Ct 8 0).1 (sp_Ct 8 0).2.1 (sp_Ct 8 0).2.2.1 := ⟨"SafePaths$Rules", Or.inl rfl, Or.inl (sp_tb1 _ (List.mem_of_getElem? (i := 41) rfl))⟩
theorem fl_Rules_15 : sp_fl "SafePaths$Rules" 15 (sp_Ct 8 1).1 (sp_Ct 8 1).2.1 (sp_Ct 8 1).2.2.1 := ⟨"SafePaths$Rules", Or.inl rfl, Or.inl (sp_tb1 _ (List.mem_of_getElem? (i := 42) rfl))⟩
theorem fl_Tree_96 : sp_fl "SafePaths$Tree" 96 (sp_Ct 8 1).1 (sp_Ct 8 1).2.1 (sp_Ct 8 1).2.2.1 := ⟨"SafePaths$Rules", Or.inl rfl, Or.inr ⟨"SafePaths", sp_tb1 _ (List.mem_of_getElem? (i := 43) rfl)⟩⟩
theorem fl_Rules_18 : sp_fl "SafePaths$Rules" 18 (sp_Ct 8 2).1 (sp_Ct 8 2).2.1 (sp_Ct 8 2).2.2.1 := ⟨"SafePaths$Rules", Or.inl rfl, Or.inl (sp_tb1 _ (List.mem_of_getElem? (i := 44) rfl))⟩
theorem fl_Taking_192 : sp_fl "SafePaths$Taking" 192 (sp_Ct 8 2).1 (sp_Ct 8 2).2.1 (sp_Ct 8 2).2.2.1 := ⟨"SafePaths$Rules", Or.inl rfl, Or.inr ⟨"SafePaths", sp_tb1 _ (List.mem_of_getElem? (i := 45) rfl)⟩⟩
theorem fl_Rules_21 : sp_fl "SafePaths$Rules" 21 (sp_Ct 8 3).1 (sp_Ct 8 3).2.1 (sp_Ct 8 3).2.2.1 := ⟨"SafePaths$Rules", Or.inl rfl, Or.inl (sp_tb1 _ (List.mem_of_getElem? (i := 46) rfl))⟩
theorem fl_Name_42 : sp_fl "SafePaths$Name" 42 (sp_Ct 8 3).1 (sp_Ct 8 3).2.1 (sp_Ct 8 3).2.2.1 := ⟨"SafePaths$Rules", Or.inl rfl, Or.inr ⟨"SafePaths", sp_tb1 _ (List.mem_of_getElem? (i := 47) rfl)⟩⟩
theorem fl_Rules_24 : sp_fl "SafePaths$Rules" 24 (sp_Ct 8 4).1 (sp_Ct 8 4).2.1 (sp_Ct 8 4).2.2.1 := ⟨"SafePaths$Rules", Or.inl rfl, Or.inl (sp_tb1 _ (List.mem_of_getElem? (i := 48) rfl))⟩
theorem fl_Taking_160 : sp_fl "SafePaths$Taking" 160 (sp_Ct 8 4).1 (sp_Ct 8 4).2.1 (sp_Ct 8 4).2.2.1 := ⟨"SafePaths$Rules", Or.inl rfl, Or.inr ⟨"SafePaths", sp_tb1 _ (List.mem_of_getElem? (i := 49) rfl)⟩⟩
theorem fl_Rules_27 : sp_fl "SafePaths$Rules" 27 (sp_Ct 8 5).1 (sp_Ct 8 5).2.1 (sp_Ct 8 5).2.2.1 := ⟨"SafePaths$Rules", Or.inl rfl, Or.inl (sp_tb1 _ (List.mem_of_getElem? (i := 50) rfl))⟩
theorem fl_Taking_151 : sp_fl "SafePaths$Taking" 151 (sp_Ct 8 5).1 (sp_Ct 8 5).2.1 (sp_Ct 8 5).2.2.1 := ⟨"SafePaths$Rules", Or.inl rfl, Or.inr ⟨"SafePaths", sp_tb1 _ (List.mem_of_getElem? (i := 51) rfl)⟩⟩
theorem fl_Draft_9 : sp_fl "SafePaths$Draft" 9 (sp_Ct 2 0).1 (sp_Ct 2 0).2.1 (sp_Ct 2 0).2.2.1 := ⟨"SafePaths$Draft", Or.inl rfl, Or.inl (sp_tb1 _ (List.mem_of_getElem? (i := 71) rfl))⟩
theorem fl_Draft_15 : sp_fl "SafePaths$Draft" 15 (sp_Ct 2 1).1 (sp_Ct 2 1).2.1 (sp_Ct 2 1).2.2.1 := ⟨"SafePaths$Draft", Or.inl rfl, Or.inl (sp_tb1 _ (List.mem_of_getElem? (i := 72) rfl))⟩
theorem gs_List_39 : Cond.fieldLink "java/util/ArrayList" 39 "java/util/ArrayList" "DEFAULTCAPACITY_EMPTY_ELEMENTDATA" "[Ljava/lang/Object;" ∈ lw_tbl ∨ ∃ host, Cond.fieldLinkNest "java/util/ArrayList" 39 "java/util/ArrayList" "DEFAULTCAPACITY_EMPTY_ELEMENTDATA" "[Ljava/lang/Object;" host ∈ lw_tbl := Or.inl (sp_tb1 _ (List.mem_of_getElem? (i := 91) rfl))
theorem fl_List_9 : sp_fl "java/util/ArrayList" 9 (sp_Ct 0 1).1 (sp_Ct 0 1).2.1 (sp_Ct 0 1).2.2.1 := ⟨"java/util/ArrayList", Or.inl rfl, Or.inl (sp_tb1 _ (List.mem_of_getElem? (i := 93) rfl))⟩
theorem fl_List_48 : sp_fl "java/util/ArrayList" 48 (sp_Ct 0 2).1 (sp_Ct 0 2).2.1 (sp_Ct 0 2).2.2.1 := ⟨"java/util/ArrayList", Or.inl rfl, Or.inl (sp_tb1 _ (List.mem_of_getElem? (i := 94) rfl))⟩
theorem fl_AList_7 : sp_fl "java/util/AbstractList" 7 (sp_Ct 0 0).1 (sp_Ct 0 0).2.1 (sp_Ct 0 0).2.2.1 := ⟨"java/util/AbstractList", Or.inl rfl, Or.inl (sp_tb1 _ (List.mem_of_getElem? (i := 95) rfl))⟩
theorem fl_List_63 : sp_fl "java/util/ArrayList" 63 (sp_Ct 0 0).1 (sp_Ct 0 0).2.1 (sp_Ct 0 0).2.2.1 := ⟨"java/util/ArrayList", Or.inr (sp_tb1 _ (List.mem_of_getElem? (i := 97) rfl)), Or.inl (sp_tb1 _ (List.mem_of_getElem? (i := 96) rfl))⟩
theorem fl_Body_7 : sp_fl "SafePaths$Body" 7 (sp_Ct 1 0).1 (sp_Ct 1 0).2.1 (sp_Ct 1 0).2.2.1 := ⟨"SafePaths$Body", Or.inl rfl, Or.inl (sp_tb1 _ (List.mem_of_getElem? (i := 120) rfl))⟩
theorem fl_Tree_139 : sp_fl "SafePaths$Tree" 139 (sp_Ct 1 0).1 (sp_Ct 1 0).2.1 (sp_Ct 1 0).2.2.1 := ⟨"SafePaths$Body", Or.inl rfl, Or.inr ⟨"SafePaths", sp_tb1 _ (List.mem_of_getElem? (i := 121) rfl)⟩⟩
theorem fl_Body_13 : sp_fl "SafePaths$Body" 13 (sp_Ct 1 1).1 (sp_Ct 1 1).2.1 (sp_Ct 1 1).2.2.1 := ⟨"SafePaths$Body", Or.inl rfl, Or.inl (sp_tb1 _ (List.mem_of_getElem? (i := 122) rfl))⟩
theorem fl_SP_210 : sp_fl "SafePaths" 210 (sp_Ct 1 1).1 (sp_Ct 1 1).2.1 (sp_Ct 1 1).2.2.1 := ⟨"SafePaths$Body", Or.inl rfl, Or.inr ⟨"SafePaths", sp_tb1 _ (List.mem_of_getElem? (i := 123) rfl)⟩⟩
theorem fl_Body_17 : sp_fl "SafePaths$Body" 17 (sp_Ct 1 2).1 (sp_Ct 1 2).2.1 (sp_Ct 1 2).2.2.1 := ⟨"SafePaths$Body", Or.inl rfl, Or.inl (sp_tb1 _ (List.mem_of_getElem? (i := 124) rfl))⟩
theorem fl_SP_215 : sp_fl "SafePaths" 215 (sp_Ct 1 2).1 (sp_Ct 1 2).2.1 (sp_Ct 1 2).2.2.1 := ⟨"SafePaths$Body", Or.inl rfl, Or.inr ⟨"SafePaths", sp_tb1 _ (List.mem_of_getElem? (i := 125) rfl)⟩⟩
theorem gs_Tree_34 : Cond.fieldLink "SafePaths$Tree" 34 "SafePaths" "NO_BYTES" "[I" ∈ lw_tbl ∨ ∃ host, Cond.fieldLinkNest "SafePaths$Tree" 34 "SafePaths" "NO_BYTES" "[I" host ∈ lw_tbl := Or.inr ⟨"SafePaths", sp_tb1 _ (List.mem_of_getElem? (i := 137) rfl)⟩
theorem fl_Name_18 : sp_fl "SafePaths$Name" 18 (sp_Ct 4 0).1 (sp_Ct 4 0).2.1 (sp_Ct 4 0).2.2.1 := ⟨"SafePaths$Name", Or.inl rfl, Or.inl (sp_tb1 _ (List.mem_of_getElem? (i := 152) rfl))⟩
theorem fl_Name_24 : sp_fl "SafePaths$Name" 24 (sp_Ct 4 1).1 (sp_Ct 4 1).2.1 (sp_Ct 4 1).2.2.1 := ⟨"SafePaths$Name", Or.inl rfl, Or.inl (sp_tb1 _ (List.mem_of_getElem? (i := 153) rfl))⟩
theorem fl_Node_7 : sp_fl "SafePaths$Node" 7 (sp_Ct 5 0).1 (sp_Ct 5 0).2.1 (sp_Ct 5 0).2.2.1 := ⟨"SafePaths$Node", Or.inl rfl, Or.inl (sp_tb1 _ (List.mem_of_getElem? (i := 163) rfl))⟩
theorem fl_Walk_53 : sp_fl "SafePaths$Walk" 53 (sp_Ct 5 0).1 (sp_Ct 5 0).2.1 (sp_Ct 5 0).2.2.1 := ⟨"SafePaths$Node", Or.inl rfl, Or.inr ⟨"SafePaths", sp_tb1 _ (List.mem_of_getElem? (i := 164) rfl)⟩⟩
theorem fl_Tree_127 : sp_fl "SafePaths$Tree" 127 (sp_Ct 5 0).1 (sp_Ct 5 0).2.1 (sp_Ct 5 0).2.2.1 := ⟨"SafePaths$Node", Or.inl rfl, Or.inr ⟨"SafePaths", sp_tb1 _ (List.mem_of_getElem? (i := 165) rfl)⟩⟩
theorem fl_SP_174 : sp_fl "SafePaths" 174 (sp_Ct 5 0).1 (sp_Ct 5 0).2.1 (sp_Ct 5 0).2.2.1 := ⟨"SafePaths$Node", Or.inl rfl, Or.inr ⟨"SafePaths", sp_tb1 _ (List.mem_of_getElem? (i := 166) rfl)⟩⟩
theorem fl_Taking_221 : sp_fl "SafePaths$Taking" 221 (sp_Ct 5 0).1 (sp_Ct 5 0).2.1 (sp_Ct 5 0).2.2.1 := ⟨"SafePaths$Node", Or.inl rfl, Or.inr ⟨"SafePaths", sp_tb1 _ (List.mem_of_getElem? (i := 167) rfl)⟩⟩
theorem fl_Node_13 : sp_fl "SafePaths$Node" 13 (sp_Ct 5 1).1 (sp_Ct 5 1).2.1 (sp_Ct 5 1).2.2.1 := ⟨"SafePaths$Node", Or.inl rfl, Or.inl (sp_tb1 _ (List.mem_of_getElem? (i := 168) rfl))⟩
theorem fl_Tree_121 : sp_fl "SafePaths$Tree" 121 (sp_Ct 5 1).1 (sp_Ct 5 1).2.1 (sp_Ct 5 1).2.2.1 := ⟨"SafePaths$Node", Or.inl rfl, Or.inr ⟨"SafePaths", sp_tb1 _ (List.mem_of_getElem? (i := 169) rfl)⟩⟩
theorem fl_Node_17 : sp_fl "SafePaths$Node" 17 (sp_Ct 5 2).1 (sp_Ct 5 2).2.1 (sp_Ct 5 2).2.2.1 := ⟨"SafePaths$Node", Or.inl rfl, Or.inl (sp_tb1 _ (List.mem_of_getElem? (i := 170) rfl))⟩
theorem fl_Tree_88 : sp_fl "SafePaths$Tree" 88 (sp_Ct 5 2).1 (sp_Ct 5 2).2.1 (sp_Ct 5 2).2.2.1 := ⟨"SafePaths$Node", Or.inl rfl, Or.inr ⟨"SafePaths", sp_tb1 _ (List.mem_of_getElem? (i := 171) rfl)⟩⟩
theorem fl_Taking_163 : sp_fl "SafePaths$Taking" 163 (sp_Ct 5 2).1 (sp_Ct 5 2).2.1 (sp_Ct 5 2).2.2.1 := ⟨"SafePaths$Node", Or.inl rfl, Or.inr ⟨"SafePaths", sp_tb1 _ (List.mem_of_getElem? (i := 172) rfl)⟩⟩
theorem fl_SP_199 : sp_fl "SafePaths" 199 (sp_Ct 5 2).1 (sp_Ct 5 2).2.1 (sp_Ct 5 2).2.2.1 := ⟨"SafePaths$Node", Or.inl rfl, Or.inr ⟨"SafePaths", sp_tb1 _ (List.mem_of_getElem? (i := 173) rfl)⟩⟩
theorem fl_Node_21 : sp_fl "SafePaths$Node" 21 (sp_Ct 5 3).1 (sp_Ct 5 3).2.1 (sp_Ct 5 3).2.2.1 := ⟨"SafePaths$Node", Or.inl rfl, Or.inl (sp_tb1 _ (List.mem_of_getElem? (i := 174) rfl))⟩
theorem fl_Taking_144 : sp_fl "SafePaths$Taking" 144 (sp_Ct 5 3).1 (sp_Ct 5 3).2.1 (sp_Ct 5 3).2.2.1 := ⟨"SafePaths$Node", Or.inl rfl, Or.inr ⟨"SafePaths", sp_tb1 _ (List.mem_of_getElem? (i := 175) rfl)⟩⟩
theorem fl_Tree_135 : sp_fl "SafePaths$Tree" 135 (sp_Ct 5 3).1 (sp_Ct 5 3).2.1 (sp_Ct 5 3).2.2.1 := ⟨"SafePaths$Node", Or.inl rfl, Or.inr ⟨"SafePaths", sp_tb1 _ (List.mem_of_getElem? (i := 176) rfl)⟩⟩
theorem fl_Node_25 : sp_fl "SafePaths$Node" 25 (sp_Ct 5 4).1 (sp_Ct 5 4).2.1 (sp_Ct 5 4).2.2.1 := ⟨"SafePaths$Node", Or.inl rfl, Or.inl (sp_tb1 _ (List.mem_of_getElem? (i := 177) rfl))⟩
theorem fl_Walk_109 : sp_fl "SafePaths$Walk" 109 (sp_Ct 5 4).1 (sp_Ct 5 4).2.1 (sp_Ct 5 4).2.2.1 := ⟨"SafePaths$Node", Or.inl rfl, Or.inr ⟨"SafePaths", sp_tb1 _ (List.mem_of_getElem? (i := 178) rfl)⟩⟩
theorem fl_Taking_141 : sp_fl "SafePaths$Taking" 141 (sp_Ct 5 4).1 (sp_Ct 5 4).2.1 (sp_Ct 5 4).2.2.1 := ⟨"SafePaths$Node", Or.inl rfl, Or.inr ⟨"SafePaths", sp_tb1 _ (List.mem_of_getElem? (i := 179) rfl)⟩⟩
theorem fl_SP_170 : sp_fl "SafePaths" 170 (sp_Ct 5 4).1 (sp_Ct 5 4).2.1 (sp_Ct 5 4).2.2.1 := ⟨"SafePaths$Node", Or.inl rfl, Or.inr ⟨"SafePaths", sp_tb1 _ (List.mem_of_getElem? (i := 180) rfl)⟩⟩
theorem fl_Tree_140 : sp_fl "SafePaths$Tree" 140 (sp_Ct 5 4).1 (sp_Ct 5 4).2.1 (sp_Ct 5 4).2.2.1 := ⟨"SafePaths$Node", Or.inl rfl, Or.inr ⟨"SafePaths", sp_tb1 _ (List.mem_of_getElem? (i := 181) rfl)⟩⟩
theorem fl_Node_29 : sp_fl "SafePaths$Node" 29 (sp_Ct 5 5).1 (sp_Ct 5 5).2.1 (sp_Ct 5 5).2.2.1 := ⟨"SafePaths$Node", Or.inl rfl, Or.inl (sp_tb1 _ (List.mem_of_getElem? (i := 182) rfl))⟩
theorem fl_Walk_113 : sp_fl "SafePaths$Walk" 113 (sp_Ct 5 5).1 (sp_Ct 5 5).2.1 (sp_Ct 5 5).2.2.1 := ⟨"SafePaths$Node", Or.inl rfl, Or.inr ⟨"SafePaths", sp_tb1 _ (List.mem_of_getElem? (i := 183) rfl)⟩⟩
theorem fl_SP_177 : sp_fl "SafePaths" 177 (sp_Ct 5 5).1 (sp_Ct 5 5).2.1 (sp_Ct 5 5).2.2.1 := ⟨"SafePaths$Node", Or.inl rfl, Or.inr ⟨"SafePaths", sp_tb1 _ (List.mem_of_getElem? (i := 184) rfl)⟩⟩
theorem fl_Node_33 : sp_fl "SafePaths$Node" 33 (sp_Ct 5 6).1 (sp_Ct 5 6).2.1 (sp_Ct 5 6).2.2.1 := ⟨"SafePaths$Node", Or.inl rfl, Or.inl (sp_tb1 _ (List.mem_of_getElem? (i := 185) rfl))⟩
theorem fl_Taking_88 : sp_fl "SafePaths$Taking" 88 (sp_Ct 5 6).1 (sp_Ct 5 6).2.1 (sp_Ct 5 6).2.2.1 := ⟨"SafePaths$Node", Or.inl rfl, Or.inr ⟨"SafePaths", sp_tb1 _ (List.mem_of_getElem? (i := 186) rfl)⟩⟩
theorem fl_Node_36 : sp_fl "SafePaths$Node" 36 (sp_Ct 5 7).1 (sp_Ct 5 7).2.1 (sp_Ct 5 7).2.2.1 := ⟨"SafePaths$Node", Or.inl rfl, Or.inl (sp_tb1 _ (List.mem_of_getElem? (i := 187) rfl))⟩
theorem fl_Tree_80 : sp_fl "SafePaths$Tree" 80 (sp_Ct 5 7).1 (sp_Ct 5 7).2.1 (sp_Ct 5 7).2.2.1 := ⟨"SafePaths$Node", Or.inl rfl, Or.inr ⟨"SafePaths", sp_tb1 _ (List.mem_of_getElem? (i := 188) rfl)⟩⟩
theorem fl_SP_164 : sp_fl "SafePaths" 164 (sp_Ct 5 7).1 (sp_Ct 5 7).2.1 (sp_Ct 5 7).2.2.1 := ⟨"SafePaths$Node", Or.inl rfl, Or.inr ⟨"SafePaths", sp_tb1 _ (List.mem_of_getElem? (i := 189) rfl)⟩⟩
theorem fl_Taking_228 : sp_fl "SafePaths$Taking" 228 (sp_Ct 5 7).1 (sp_Ct 5 7).2.1 (sp_Ct 5 7).2.2.1 := ⟨"SafePaths$Node", Or.inl rfl, Or.inr ⟨"SafePaths", sp_tb1 _ (List.mem_of_getElem? (i := 190) rfl)⟩⟩
theorem gs_Tree_50 : Cond.fieldLink "SafePaths$Tree" 50 "SafePaths" "OUT" "[I" ∈ lw_tbl ∨ ∃ host, Cond.fieldLinkNest "SafePaths$Tree" 50 "SafePaths" "OUT" "[I" host ∈ lw_tbl := Or.inr ⟨"SafePaths", sp_tb1 _ (List.mem_of_getElem? (i := 208) rfl)⟩
theorem gs_Tree_56 : Cond.fieldLink "SafePaths$Tree" 56 "SafePaths" "HOME" "[I" ∈ lw_tbl ∨ ∃ host, Cond.fieldLinkNest "SafePaths$Tree" 56 "SafePaths" "HOME" "[I" host ∈ lw_tbl := Or.inr ⟨"SafePaths", sp_tb1 _ (List.mem_of_getElem? (i := 210) rfl)⟩
theorem gs_Tree_62 : Cond.fieldLink "SafePaths$Tree" 62 "SafePaths" "KEY" "[I" ∈ lw_tbl ∨ ∃ host, Cond.fieldLinkNest "SafePaths$Tree" 62 "SafePaths" "KEY" "[I" host ∈ lw_tbl := Or.inr ⟨"SafePaths", sp_tb1 _ (List.mem_of_getElem? (i := 212) rfl)⟩
theorem fl_Tree_7 : sp_fl "SafePaths$Tree" 7 (sp_Ct 10 0).1 (sp_Ct 10 0).2.1 (sp_Ct 10 0).2.2.1 := ⟨"SafePaths$Tree", Or.inl rfl, Or.inl (sp_tb2 _ (List.mem_of_getElem? (i := 31) rfl))⟩
theorem fl_Tree_16 : sp_fl "SafePaths$Tree" 16 (sp_Ct 10 1).1 (sp_Ct 10 1).2.1 (sp_Ct 10 1).2.2.1 := ⟨"SafePaths$Tree", Or.inl rfl, Or.inl (sp_tb2 _ (List.mem_of_getElem? (i := 32) rfl))⟩
theorem fl_Tree_20 : sp_fl "SafePaths$Tree" 20 (sp_Ct 10 2).1 (sp_Ct 10 2).2.1 (sp_Ct 10 2).2.2.1 := ⟨"SafePaths$Tree", Or.inl rfl, Or.inl (sp_tb2 _ (List.mem_of_getElem? (i := 33) rfl))⟩
theorem fl_Tree_46 : sp_fl "SafePaths$Tree" 46 (sp_Ct 10 3).1 (sp_Ct 10 3).2.1 (sp_Ct 10 3).2.2.1 := ⟨"SafePaths$Tree", Or.inl rfl, Or.inl (sp_tb2 _ (List.mem_of_getElem? (i := 34) rfl))⟩
theorem fl_Walk_88 : sp_fl "SafePaths$Walk" 88 (sp_Ct 10 3).1 (sp_Ct 10 3).2.1 (sp_Ct 10 3).2.2.1 := ⟨"SafePaths$Tree", Or.inl rfl, Or.inr ⟨"SafePaths", sp_tb2 _ (List.mem_of_getElem? (i := 35) rfl)⟩⟩
theorem fl_Walk_22 : sp_fl "SafePaths$Walk" 22 (sp_Ct 10 4).1 (sp_Ct 10 4).2.1 (sp_Ct 10 4).2.2.1 := ⟨"SafePaths$Tree", Or.inl rfl, Or.inr ⟨"SafePaths", sp_tb2 _ (List.mem_of_getElem? (i := 36) rfl)⟩⟩
theorem fl_Taking_48 : sp_fl "SafePaths$Taking" 48 (sp_Ct 10 4).1 (sp_Ct 10 4).2.1 (sp_Ct 10 4).2.2.1 := ⟨"SafePaths$Tree", Or.inl rfl, Or.inr ⟨"SafePaths", sp_tb2 _ (List.mem_of_getElem? (i := 37) rfl)⟩⟩
theorem fl_Tree_53 : sp_fl "SafePaths$Tree" 53 (sp_Ct 10 4).1 (sp_Ct 10 4).2.1 (sp_Ct 10 4).2.2.1 := ⟨"SafePaths$Tree", Or.inl rfl, Or.inl (sp_tb2 _ (List.mem_of_getElem? (i := 38) rfl))⟩
theorem fl_Tree_59 : sp_fl "SafePaths$Tree" 59 (sp_Ct 10 5).1 (sp_Ct 10 5).2.1 (sp_Ct 10 5).2.2.1 := ⟨"SafePaths$Tree", Or.inl rfl, Or.inl (sp_tb2 _ (List.mem_of_getElem? (i := 39) rfl))⟩
theorem fl_Tree_65 : sp_fl "SafePaths$Tree" 65 (sp_Ct 10 6).1 (sp_Ct 10 6).2.1 (sp_Ct 10 6).2.2.1 := ⟨"SafePaths$Tree", Or.inl rfl, Or.inl (sp_tb2 _ (List.mem_of_getElem? (i := 40) rfl))⟩
theorem fl_Walk_9 : sp_fl "SafePaths$Walk" 9 (sp_Ct 11 0).1 (sp_Ct 11 0).2.1 (sp_Ct 11 0).2.2.1 := ⟨"SafePaths$Walk", Or.inl rfl, Or.inl (sp_tb2 _ (List.mem_of_getElem? (i := 64) rfl))⟩
theorem fl_Walk_18 : sp_fl "SafePaths$Walk" 18 (sp_Ct 11 1).1 (sp_Ct 11 1).2.1 (sp_Ct 11 1).2.2.1 := ⟨"SafePaths$Walk", Or.inl rfl, Or.inl (sp_tb2 _ (List.mem_of_getElem? (i := 65) rfl))⟩
theorem fl_Walk_28 : sp_fl "SafePaths$Walk" 28 (sp_Ct 11 2).1 (sp_Ct 11 2).2.1 (sp_Ct 11 2).2.2.1 := ⟨"SafePaths$Walk", Or.inl rfl, Or.inl (sp_tb2 _ (List.mem_of_getElem? (i := 66) rfl))⟩
theorem fl_Walk_31 : sp_fl "SafePaths$Walk" 31 (sp_Ct 11 3).1 (sp_Ct 11 3).2.1 (sp_Ct 11 3).2.2.1 := ⟨"SafePaths$Walk", Or.inl rfl, Or.inl (sp_tb2 _ (List.mem_of_getElem? (i := 67) rfl))⟩
theorem fl_Walk_35 : sp_fl "SafePaths$Walk" 35 (sp_Ct 11 4).1 (sp_Ct 11 4).2.1 (sp_Ct 11 4).2.2.1 := ⟨"SafePaths$Walk", Or.inl rfl, Or.inl (sp_tb2 _ (List.mem_of_getElem? (i := 68) rfl))⟩
theorem fl_Taking_9 : sp_fl "SafePaths$Taking" 9 (sp_Ct 9 0).1 (sp_Ct 9 0).2.1 (sp_Ct 9 0).2.2.1 := ⟨"SafePaths$Taking", Or.inl rfl, Or.inl (sp_tb2 _ (List.mem_of_getElem? (i := 90) rfl))⟩
theorem fl_Taking_15 : sp_fl "SafePaths$Taking" 15 (sp_Ct 9 1).1 (sp_Ct 9 1).2.1 (sp_Ct 9 1).2.2.1 := ⟨"SafePaths$Taking", Or.inl rfl, Or.inl (sp_tb2 _ (List.mem_of_getElem? (i := 91) rfl))⟩
theorem fl_Taking_19 : sp_fl "SafePaths$Taking" 19 (sp_Ct 9 2).1 (sp_Ct 9 2).2.1 (sp_Ct 9 2).2.2.1 := ⟨"SafePaths$Taking", Or.inl rfl, Or.inl (sp_tb2 _ (List.mem_of_getElem? (i := 92) rfl))⟩
theorem fl_Taking_26 : sp_fl "SafePaths$Taking" 26 (sp_Ct 9 3).1 (sp_Ct 9 3).2.1 (sp_Ct 9 3).2.2.1 := ⟨"SafePaths$Taking", Or.inl rfl, Or.inl (sp_tb2 _ (List.mem_of_getElem? (i := 93) rfl))⟩
theorem fl_Taking_32 : sp_fl "SafePaths$Taking" 32 (sp_Ct 9 4).1 (sp_Ct 9 4).2.1 (sp_Ct 9 4).2.2.1 := ⟨"SafePaths$Taking", Or.inl rfl, Or.inl (sp_tb2 _ (List.mem_of_getElem? (i := 94) rfl))⟩
theorem fl_Taking_38 : sp_fl "SafePaths$Taking" 38 (sp_Ct 9 5).1 (sp_Ct 9 5).2.1 (sp_Ct 9 5).2.2.1 := ⟨"SafePaths$Taking", Or.inl rfl, Or.inl (sp_tb2 _ (List.mem_of_getElem? (i := 95) rfl))⟩
theorem fl_Taking_41 : sp_fl "SafePaths$Taking" 41 (sp_Ct 9 6).1 (sp_Ct 9 6).2.1 (sp_Ct 9 6).2.2.1 := ⟨"SafePaths$Taking", Or.inl rfl, Or.inl (sp_tb2 _ (List.mem_of_getElem? (i := 96) rfl))⟩
theorem fl_SP_235 : sp_fl "SafePaths" 235 (sp_Ct 9 6).1 (sp_Ct 9 6).2.1 (sp_Ct 9 6).2.2.1 := ⟨"SafePaths$Taking", Or.inl rfl, Or.inr ⟨"SafePaths", sp_tb2 _ (List.mem_of_getElem? (i := 97) rfl)⟩⟩
theorem fl_Taking_45 : sp_fl "SafePaths$Taking" 45 (sp_Ct 9 7).1 (sp_Ct 9 7).2.1 (sp_Ct 9 7).2.2.1 := ⟨"SafePaths$Taking", Or.inl rfl, Or.inl (sp_tb2 _ (List.mem_of_getElem? (i := 98) rfl))⟩
theorem fl_Taking_54 : sp_fl "SafePaths$Taking" 54 (sp_Ct 9 8).1 (sp_Ct 9 8).2.1 (sp_Ct 9 8).2.2.1 := ⟨"SafePaths$Taking", Or.inl rfl, Or.inl (sp_tb2 _ (List.mem_of_getElem? (i := 99) rfl))⟩
theorem fl_Taking_57 : sp_fl "SafePaths$Taking" 57 (sp_Ct 9 9).1 (sp_Ct 9 9).2.1 (sp_Ct 9 9).2.2.1 := ⟨"SafePaths$Taking", Or.inl rfl, Or.inl (sp_tb2 _ (List.mem_of_getElem? (i := 100) rfl))⟩
theorem fl_Taking_60 : sp_fl "SafePaths$Taking" 60 (sp_Ct 9 10).1 (sp_Ct 9 10).2.1 (sp_Ct 9 10).2.2.1 := ⟨"SafePaths$Taking", Or.inl rfl, Or.inl (sp_tb2 _ (List.mem_of_getElem? (i := 101) rfl))⟩
theorem fl_Taking_63 : sp_fl "SafePaths$Taking" 63 (sp_Ct 9 11).1 (sp_Ct 9 11).2.1 (sp_Ct 9 11).2.2.1 := ⟨"SafePaths$Taking", Or.inl rfl, Or.inl (sp_tb2 _ (List.mem_of_getElem? (i := 102) rfl))⟩
theorem fl_Taking_66 : sp_fl "SafePaths$Taking" 66 (sp_Ct 9 12).1 (sp_Ct 9 12).2.1 (sp_Ct 9 12).2.2.1 := ⟨"SafePaths$Taking", Or.inl rfl, Or.inl (sp_tb2 _ (List.mem_of_getElem? (i := 103) rfl))⟩
theorem fl_Taking_70 : sp_fl "SafePaths$Taking" 70 (sp_Ct 9 13).1 (sp_Ct 9 13).2.1 (sp_Ct 9 13).2.2.1 := ⟨"SafePaths$Taking", Or.inl rfl, Or.inl (sp_tb2 _ (List.mem_of_getElem? (i := 104) rfl))⟩
theorem fl_SP_12 : sp_fl "SafePaths" 12 (sp_Ct 12 0).1 (sp_Ct 12 0).2.1 (sp_Ct 12 0).2.2.1 := ⟨"SafePaths", Or.inl rfl, Or.inl (sp_tb2 _ (List.mem_of_getElem? (i := 134) rfl))⟩
theorem fl_SP_21 : sp_fl "SafePaths" 21 (sp_Ct 12 1).1 (sp_Ct 12 1).2.1 (sp_Ct 12 1).2.2.1 := ⟨"SafePaths", Or.inl rfl, Or.inl (sp_tb2 _ (List.mem_of_getElem? (i := 135) rfl))⟩
theorem fl_SP_28 : sp_fl "SafePaths" 28 (sp_Ct 12 2).1 (sp_Ct 12 2).2.1 (sp_Ct 12 2).2.2.1 := ⟨"SafePaths", Or.inl rfl, Or.inl (sp_tb2 _ (List.mem_of_getElem? (i := 136) rfl))⟩
theorem fl_SP_32 : sp_fl "SafePaths" 32 (sp_Ct 12 3).1 (sp_Ct 12 3).2.1 (sp_Ct 12 3).2.2.1 := ⟨"SafePaths", Or.inl rfl, Or.inl (sp_tb2 _ (List.mem_of_getElem? (i := 137) rfl))⟩
theorem fl_SP_35 : sp_fl "SafePaths" 35 (sp_Ct 12 4).1 (sp_Ct 12 4).2.1 (sp_Ct 12 4).2.2.1 := ⟨"SafePaths", Or.inl rfl, Or.inl (sp_tb2 _ (List.mem_of_getElem? (i := 138) rfl))⟩
theorem fl_SP_43 : sp_fl "SafePaths" 43 (sp_Ct 12 5).1 (sp_Ct 12 5).2.1 (sp_Ct 12 5).2.2.1 := ⟨"SafePaths", Or.inl rfl, Or.inl (sp_tb2 _ (List.mem_of_getElem? (i := 139) rfl))⟩
theorem fl_SP_52 : sp_fl "SafePaths" 52 (sp_Ct 12 6).1 (sp_Ct 12 6).2.1 (sp_Ct 12 6).2.2.1 := ⟨"SafePaths", Or.inl rfl, Or.inl (sp_tb2 _ (List.mem_of_getElem? (i := 140) rfl))⟩
theorem fl_SP_61 : sp_fl "SafePaths" 61 (sp_Ct 12 7).1 (sp_Ct 12 7).2.1 (sp_Ct 12 7).2.2.1 := ⟨"SafePaths", Or.inl rfl, Or.inl (sp_tb2 _ (List.mem_of_getElem? (i := 141) rfl))⟩
theorem fl_SP_65 : sp_fl "SafePaths" 65 (sp_Ct 12 8).1 (sp_Ct 12 8).2.1 (sp_Ct 12 8).2.2.1 := ⟨"SafePaths", Or.inl rfl, Or.inl (sp_tb2 _ (List.mem_of_getElem? (i := 142) rfl))⟩
theorem gs_String_38 : Cond.fieldLink "java/lang/String" 38 "java/lang/String" "COMPACT_STRINGS" "Z" ∈ lw_tbl ∨ ∃ host, Cond.fieldLinkNest "java/lang/String" 38 "java/lang/String" "COMPACT_STRINGS" "Z" host ∈ lw_tbl := Or.inl (sp_tb3 _ (List.mem_of_getElem? (i := 27) rfl))
theorem gs_String_1053 : Cond.fieldLink "java/lang/String" 1053 "jdk/internal/util/Preconditions" "SIOOBE_FORMATTER" "Ljava/util/function/BiFunction;" ∈ lw_tbl ∨ ∃ host, Cond.fieldLinkNest "java/lang/String" 1053 "jdk/internal/util/Preconditions" "SIOOBE_FORMATTER" "Ljava/util/function/BiFunction;" host ∈ lw_tbl := Or.inl (sp_tb3 _ (List.mem_of_getElem? (i := 66) rfl))
theorem gs_UTF16_44 : Cond.fieldLink "java/lang/StringUTF16" 44 "java/lang/StringUTF16" "$assertionsDisabled" "Z" ∈ lw_tbl ∨ ∃ host, Cond.fieldLinkNest "java/lang/StringUTF16" 44 "java/lang/StringUTF16" "$assertionsDisabled" "Z" host ∈ lw_tbl := Or.inl (sp_tb3 _ (List.mem_of_getElem? (i := 77) rfl))
theorem gs_UTF16_59 : Cond.fieldLink "java/lang/StringUTF16" 59 "java/lang/StringUTF16" "HI_BYTE_SHIFT" "I" ∈ lw_tbl ∨ ∃ host, Cond.fieldLinkNest "java/lang/StringUTF16" 59 "java/lang/StringUTF16" "HI_BYTE_SHIFT" "I" host ∈ lw_tbl := Or.inl (sp_tb3 _ (List.mem_of_getElem? (i := 79) rfl))
theorem gs_UTF16_63 : Cond.fieldLink "java/lang/StringUTF16" 63 "java/lang/StringUTF16" "LO_BYTE_SHIFT" "I" ∈ lw_tbl ∨ ∃ host, Cond.fieldLinkNest "java/lang/StringUTF16" 63 "java/lang/StringUTF16" "LO_BYTE_SHIFT" "I" host ∈ lw_tbl := Or.inl (sp_tb3 _ (List.mem_of_getElem? (i := 81) rfl))
theorem gs_Parted_23 : Cond.fieldLink "SafePaths$Parted" 23 "SafePaths" "NO_BYTES" "[I" ∈ lw_tbl ∨ ∃ host, Cond.fieldLinkNest "SafePaths$Parted" 23 "SafePaths" "NO_BYTES" "[I" host ∈ lw_tbl := Or.inr ⟨"SafePaths", sp_tb3 _ (List.mem_of_getElem? (i := 142) rfl)⟩
theorem fl_Parted_7 : sp_fl "SafePaths$Parted" 7 (sp_Ct 7 0).1 (sp_Ct 7 0).2.1 (sp_Ct 7 0).2.2.1 := ⟨"SafePaths$Parted", Or.inl rfl, Or.inl (sp_tb3 _ (List.mem_of_getElem? (i := 144) rfl))⟩
theorem fl_Tree_144 : sp_fl "SafePaths$Tree" 144 (sp_Ct 7 0).1 (sp_Ct 7 0).2.1 (sp_Ct 7 0).2.2.1 := ⟨"SafePaths$Parted", Or.inl rfl, Or.inr ⟨"SafePaths", sp_tb3 _ (List.mem_of_getElem? (i := 145) rfl)⟩⟩
theorem fl_Parted_13 : sp_fl "SafePaths$Parted" 13 (sp_Ct 7 1).1 (sp_Ct 7 1).2.1 (sp_Ct 7 1).2.2.1 := ⟨"SafePaths$Parted", Or.inl rfl, Or.inl (sp_tb3 _ (List.mem_of_getElem? (i := 146) rfl))⟩
theorem fl_Walk_82 : sp_fl "SafePaths$Walk" 82 (sp_Ct 7 1).1 (sp_Ct 7 1).2.1 (sp_Ct 7 1).2.2.1 := ⟨"SafePaths$Parted", Or.inl rfl, Or.inr ⟨"SafePaths", sp_tb3 _ (List.mem_of_getElem? (i := 147) rfl)⟩⟩
theorem fl_Parted_17 : sp_fl "SafePaths$Parted" 17 (sp_Ct 7 2).1 (sp_Ct 7 2).2.1 (sp_Ct 7 2).2.2.1 := ⟨"SafePaths$Parted", Or.inl rfl, Or.inl (sp_tb3 _ (List.mem_of_getElem? (i := 148) rfl))⟩
theorem fl_Parted_32 : sp_fl "SafePaths$Parted" 32 (sp_Ct 7 3).1 (sp_Ct 7 3).2.1 (sp_Ct 7 3).2.2.1 := ⟨"SafePaths$Parted", Or.inl rfl, Or.inl (sp_tb3 _ (List.mem_of_getElem? (i := 149) rfl))⟩
theorem fl_Entry_7 : sp_fl "SafePaths$Entry" 7 (sp_Ct 3 0).1 (sp_Ct 3 0).2.1 (sp_Ct 3 0).2.2.1 := ⟨"SafePaths$Entry", Or.inl rfl, Or.inl (sp_tb3 _ (List.mem_of_getElem? (i := 229) rfl))⟩
theorem fl_Taking_173 : sp_fl "SafePaths$Taking" 173 (sp_Ct 3 0).1 (sp_Ct 3 0).2.1 (sp_Ct 3 0).2.2.1 := ⟨"SafePaths$Entry", Or.inl rfl, Or.inr ⟨"SafePaths", sp_tb3 _ (List.mem_of_getElem? (i := 230) rfl)⟩⟩
theorem fl_Entry_13 : sp_fl "SafePaths$Entry" 13 (sp_Ct 3 1).1 (sp_Ct 3 1).2.1 (sp_Ct 3 1).2.2.1 := ⟨"SafePaths$Entry", Or.inl rfl, Or.inl (sp_tb3 _ (List.mem_of_getElem? (i := 231) rfl))⟩
theorem fl_Taking_97 : sp_fl "SafePaths$Taking" 97 (sp_Ct 3 1).1 (sp_Ct 3 1).2.1 (sp_Ct 3 1).2.2.1 := ⟨"SafePaths$Entry", Or.inl rfl, Or.inr ⟨"SafePaths", sp_tb3 _ (List.mem_of_getElem? (i := 232) rfl)⟩⟩
theorem fl_Entry_17 : sp_fl "SafePaths$Entry" 17 (sp_Ct 3 2).1 (sp_Ct 3 2).2.1 (sp_Ct 3 2).2.2.1 := ⟨"SafePaths$Entry", Or.inl rfl, Or.inl (sp_tb3 _ (List.mem_of_getElem? (i := 233) rfl))⟩
theorem fl_Taking_183 : sp_fl "SafePaths$Taking" 183 (sp_Ct 3 2).1 (sp_Ct 3 2).2.1 (sp_Ct 3 2).2.2.1 := ⟨"SafePaths$Entry", Or.inl rfl, Or.inr ⟨"SafePaths", sp_tb3 _ (List.mem_of_getElem? (i := 234) rfl)⟩⟩
theorem fl_Entry_20 : sp_fl "SafePaths$Entry" 20 (sp_Ct 3 3).1 (sp_Ct 3 3).2.1 (sp_Ct 3 3).2.2.1 := ⟨"SafePaths$Entry", Or.inl rfl, Or.inl (sp_tb3 _ (List.mem_of_getElem? (i := 235) rfl))⟩
theorem fl_Taking_211 : sp_fl "SafePaths$Taking" 211 (sp_Ct 3 3).1 (sp_Ct 3 3).2.1 (sp_Ct 3 3).2.2.1 := ⟨"SafePaths$Entry", Or.inl rfl, Or.inr ⟨"SafePaths", sp_tb3 _ (List.mem_of_getElem? (i := 236) rfl)⟩⟩
theorem fl_Entry_23 : sp_fl "SafePaths$Entry" 23 (sp_Ct 3 4).1 (sp_Ct 3 4).2.1 (sp_Ct 3 4).2.2.1 := ⟨"SafePaths$Entry", Or.inl rfl, Or.inl (sp_tb3 _ (List.mem_of_getElem? (i := 237) rfl))⟩
theorem fl_Taking_202 : sp_fl "SafePaths$Taking" 202 (sp_Ct 3 4).1 (sp_Ct 3 4).2.1 (sp_Ct 3 4).2.2.1 := ⟨"SafePaths$Entry", Or.inl rfl, Or.inr ⟨"SafePaths", sp_tb3 _ (List.mem_of_getElem? (i := 238) rfl)⟩⟩
theorem fl_Note_7 : sp_fl "SafePaths$Note" 7 (sp_Ct 6 0).1 (sp_Ct 6 0).2.1 (sp_Ct 6 0).2.2.1 := ⟨"SafePaths$Note", Or.inl rfl, Or.inl (sp_tb4 _ (List.mem_of_getElem? (i := 167) rfl))⟩
theorem fl_Taking_84 : sp_fl "SafePaths$Taking" 84 (sp_Ct 6 0).1 (sp_Ct 6 0).2.1 (sp_Ct 6 0).2.2.1 := ⟨"SafePaths$Note", Or.inl rfl, Or.inr ⟨"SafePaths", sp_tb4 _ (List.mem_of_getElem? (i := 168) rfl)⟩⟩
theorem fl_Note_13 : sp_fl "SafePaths$Note" 13 (sp_Ct 6 1).1 (sp_Ct 6 1).2.1 (sp_Ct 6 1).2.2.1 := ⟨"SafePaths$Note", Or.inl rfl, Or.inl (sp_tb4 _ (List.mem_of_getElem? (i := 169) rfl))⟩
theorem fl_Taking_85 : sp_fl "SafePaths$Taking" 85 (sp_Ct 6 1).1 (sp_Ct 6 1).2.1 (sp_Ct 6 1).2.2.1 := ⟨"SafePaths$Note", Or.inl rfl, Or.inr ⟨"SafePaths", sp_tb4 _ (List.mem_of_getElem? (i := 170) rfl)⟩⟩
theorem fl_Mo_95 : sp_fl "SafePathsModel" 95 (sp_Ct 13 0).1 (sp_Ct 13 0).2.1 (sp_Ct 13 0).2.2.1 := ⟨"SafePathsModel", Or.inl rfl, Or.inl (sp_tb5 _ (List.mem_of_getElem? (i := 66) rfl))⟩
theorem fl_Mo_7 : sp_fl "SafePathsModel" 7 (sp_Ct 13 1).1 (sp_Ct 13 1).2.1 (sp_Ct 13 1).2.2.1 := ⟨"SafePathsModel", Or.inl rfl, Or.inl (sp_tb5 _ (List.mem_of_getElem? (i := 67) rfl))⟩
theorem fl_Mo_122 : sp_fl "SafePathsModel" 122 (sp_Ct 13 2).1 (sp_Ct 13 2).2.1 (sp_Ct 13 2).2.2.1 := ⟨"SafePathsModel", Or.inl rfl, Or.inl (sp_tb5 _ (List.mem_of_getElem? (i := 68) rfl))⟩
theorem fl_Mo_115 : sp_fl "SafePathsModel" 115 (sp_Ct 13 3).1 (sp_Ct 13 3).2.1 (sp_Ct 13 3).2.2.1 := ⟨"SafePathsModel", Or.inl rfl, Or.inl (sp_tb5 _ (List.mem_of_getElem? (i := 69) rfl))⟩
theorem fl_Mo_13 : sp_fl "SafePathsModel" 13 (sp_Ct 13 4).1 (sp_Ct 13 4).2.1 (sp_Ct 13 4).2.2.1 := ⟨"SafePathsModel", Or.inl rfl, Or.inl (sp_tb5 _ (List.mem_of_getElem? (i := 70) rfl))⟩
theorem fl_Mo_16 : sp_fl "SafePathsModel" 16 (sp_Ct 13 5).1 (sp_Ct 13 5).2.1 (sp_Ct 13 5).2.2.1 := ⟨"SafePathsModel", Or.inl rfl, Or.inl (sp_tb5 _ (List.mem_of_getElem? (i := 71) rfl))⟩
theorem fl_Mo_20 : sp_fl "SafePathsModel" 20 (sp_Ct 13 6).1 (sp_Ct 13 6).2.1 (sp_Ct 13 6).2.2.1 := ⟨"SafePathsModel", Or.inl rfl, Or.inl (sp_tb5 _ (List.mem_of_getElem? (i := 72) rfl))⟩
theorem fl_Mo_23 : sp_fl "SafePathsModel" 23 (sp_Ct 13 7).1 (sp_Ct 13 7).2.1 (sp_Ct 13 7).2.2.1 := ⟨"SafePathsModel", Or.inl rfl, Or.inl (sp_tb5 _ (List.mem_of_getElem? (i := 73) rfl))⟩
theorem fl_Mo_26 : sp_fl "SafePathsModel" 26 (sp_Ct 13 8).1 (sp_Ct 13 8).2.1 (sp_Ct 13 8).2.2.1 := ⟨"SafePathsModel", Or.inl rfl, Or.inl (sp_tb5 _ (List.mem_of_getElem? (i := 74) rfl))⟩
theorem fl_Mo_29 : sp_fl "SafePathsModel" 29 (sp_Ct 13 9).1 (sp_Ct 13 9).2.1 (sp_Ct 13 9).2.2.1 := ⟨"SafePathsModel", Or.inl rfl, Or.inl (sp_tb5 _ (List.mem_of_getElem? (i := 75) rfl))⟩
theorem fl_Mo_32 : sp_fl "SafePathsModel" 32 (sp_Ct 13 10).1 (sp_Ct 13 10).2.1 (sp_Ct 13 10).2.2.1 := ⟨"SafePathsModel", Or.inl rfl, Or.inl (sp_tb5 _ (List.mem_of_getElem? (i := 76) rfl))⟩
theorem fl_Mo_35 : sp_fl "SafePathsModel" 35 (sp_Ct 13 11).1 (sp_Ct 13 11).2.1 (sp_Ct 13 11).2.2.1 := ⟨"SafePathsModel", Or.inl rfl, Or.inl (sp_tb5 _ (List.mem_of_getElem? (i := 77) rfl))⟩
theorem fl_Mo_38 : sp_fl "SafePathsModel" 38 (sp_Ct 13 12).1 (sp_Ct 13 12).2.1 (sp_Ct 13 12).2.2.1 := ⟨"SafePathsModel", Or.inl rfl, Or.inl (sp_tb5 _ (List.mem_of_getElem? (i := 78) rfl))⟩
theorem fl_Mo_227 : sp_fl "SafePathsModel" 227 (sp_Ct 13 13).1 (sp_Ct 13 13).2.1 (sp_Ct 13 13).2.2.1 := ⟨"SafePathsModel", Or.inl rfl, Or.inl (sp_tb5 _ (List.mem_of_getElem? (i := 79) rfl))⟩
theorem fl_Mo_112 : sp_fl "SafePathsModel" 112 (sp_Ct 13 14).1 (sp_Ct 13 14).2.1 (sp_Ct 13 14).2.2.1 := ⟨"SafePathsModel", Or.inl rfl, Or.inl (sp_tb5 _ (List.mem_of_getElem? (i := 80) rfl))⟩
theorem fl_Mo_41 : sp_fl "SafePathsModel" 41 (sp_Ct 13 15).1 (sp_Ct 13 15).2.1 (sp_Ct 13 15).2.2.1 := ⟨"SafePathsModel", Or.inl rfl, Or.inl (sp_tb5 _ (List.mem_of_getElem? (i := 81) rfl))⟩
theorem fl_Mo_45 : sp_fl "SafePathsModel" 45 (sp_Ct 13 16).1 (sp_Ct 13 16).2.1 (sp_Ct 13 16).2.2.1 := ⟨"SafePathsModel", Or.inl rfl, Or.inl (sp_tb5 _ (List.mem_of_getElem? (i := 82) rfl))⟩
theorem fl_Mo_146 : sp_fl "SafePathsModel" 146 (sp_Ct 13 17).1 (sp_Ct 13 17).2.1 (sp_Ct 13 17).2.2.1 := ⟨"SafePathsModel", Or.inl rfl, Or.inl (sp_tb5 _ (List.mem_of_getElem? (i := 83) rfl))⟩
theorem fl_Mo_48 : sp_fl "SafePathsModel" 48 (sp_Ct 13 18).1 (sp_Ct 13 18).2.1 (sp_Ct 13 18).2.2.1 := ⟨"SafePathsModel", Or.inl rfl, Or.inl (sp_tb5 _ (List.mem_of_getElem? (i := 84) rfl))⟩
theorem fl_Mo_51 : sp_fl "SafePathsModel" 51 (sp_Ct 13 19).1 (sp_Ct 13 19).2.1 (sp_Ct 13 19).2.2.1 := ⟨"SafePathsModel", Or.inl rfl, Or.inl (sp_tb5 _ (List.mem_of_getElem? (i := 85) rfl))⟩
theorem fl_Mo_54 : sp_fl "SafePathsModel" 54 (sp_Ct 13 20).1 (sp_Ct 13 20).2.1 (sp_Ct 13 20).2.2.1 := ⟨"SafePathsModel", Or.inl rfl, Or.inl (sp_tb5 _ (List.mem_of_getElem? (i := 86) rfl))⟩
theorem fl_Mo_152 : sp_fl "SafePathsModel" 152 (sp_Ct 13 21).1 (sp_Ct 13 21).2.1 (sp_Ct 13 21).2.2.1 := ⟨"SafePathsModel", Or.inl rfl, Or.inl (sp_tb5 _ (List.mem_of_getElem? (i := 87) rfl))⟩
theorem fl_Mo_57 : sp_fl "SafePathsModel" 57 (sp_Ct 13 22).1 (sp_Ct 13 22).2.1 (sp_Ct 13 22).2.2.1 := ⟨"SafePathsModel", Or.inl rfl, Or.inl (sp_tb5 _ (List.mem_of_getElem? (i := 88) rfl))⟩
theorem fl_Mo_60 : sp_fl "SafePathsModel" 60 (sp_Ct 13 23).1 (sp_Ct 13 23).2.1 (sp_Ct 13 23).2.2.1 := ⟨"SafePathsModel", Or.inl rfl, Or.inl (sp_tb5 _ (List.mem_of_getElem? (i := 89) rfl))⟩
theorem fl_Mo_183 : sp_fl "SafePathsModel" 183 (sp_Ct 13 24).1 (sp_Ct 13 24).2.1 (sp_Ct 13 24).2.2.1 := ⟨"SafePathsModel", Or.inl rfl, Or.inl (sp_tb5 _ (List.mem_of_getElem? (i := 90) rfl))⟩
theorem fl_Mo_63 : sp_fl "SafePathsModel" 63 (sp_Ct 13 25).1 (sp_Ct 13 25).2.1 (sp_Ct 13 25).2.2.1 := ⟨"SafePathsModel", Or.inl rfl, Or.inl (sp_tb5 _ (List.mem_of_getElem? (i := 91) rfl))⟩
theorem fl_Mo_66 : sp_fl "SafePathsModel" 66 (sp_Ct 13 26).1 (sp_Ct 13 26).2.1 (sp_Ct 13 26).2.2.1 := ⟨"SafePathsModel", Or.inl rfl, Or.inl (sp_tb5 _ (List.mem_of_getElem? (i := 92) rfl))⟩
theorem fl_Mo_69 : sp_fl "SafePathsModel" 69 (sp_Ct 13 27).1 (sp_Ct 13 27).2.1 (sp_Ct 13 27).2.2.1 := ⟨"SafePathsModel", Or.inl rfl, Or.inl (sp_tb5 _ (List.mem_of_getElem? (i := 93) rfl))⟩
theorem fl_Mo_72 : sp_fl "SafePathsModel" 72 (sp_Ct 13 28).1 (sp_Ct 13 28).2.1 (sp_Ct 13 28).2.2.1 := ⟨"SafePathsModel", Or.inl rfl, Or.inl (sp_tb5 _ (List.mem_of_getElem? (i := 94) rfl))⟩
theorem fl_Mo_77 : sp_fl "SafePathsModel" 77 (sp_Ct 13 29).1 (sp_Ct 13 29).2.1 (sp_Ct 13 29).2.2.1 := ⟨"SafePathsModel", Or.inl rfl, Or.inl (sp_tb5 _ (List.mem_of_getElem? (i := 95) rfl))⟩
theorem fl_Mo_83 : sp_fl "SafePathsModel" 83 (sp_Ct 13 30).1 (sp_Ct 13 30).2.1 (sp_Ct 13 30).2.2.1 := ⟨"SafePathsModel", Or.inl rfl, Or.inl (sp_tb5 _ (List.mem_of_getElem? (i := 96) rfl))⟩
theorem fl_Mo_217 : sp_fl "SafePathsModel" 217 (sp_Ct 13 31).1 (sp_Ct 13 31).2.1 (sp_Ct 13 31).2.2.1 := ⟨"SafePathsModel", Or.inl rfl, Or.inl (sp_tb5 _ (List.mem_of_getElem? (i := 97) rfl))⟩
theorem fl_Mo_220 : sp_fl "SafePathsModel" 220 (sp_Ct 13 32).1 (sp_Ct 13 32).2.1 (sp_Ct 13 32).2.2.1 := ⟨"SafePathsModel", Or.inl rfl, Or.inl (sp_tb5 _ (List.mem_of_getElem? (i := 98) rfl))⟩
theorem fl_Mo_203 : sp_fl "SafePathsModel" 203 (sp_Ct 13 33).1 (sp_Ct 13 33).2.1 (sp_Ct 13 33).2.2.1 := ⟨"SafePathsModel", Or.inl rfl, Or.inl (sp_tb5 _ (List.mem_of_getElem? (i := 99) rfl))⟩
theorem fl_Mo_86 : sp_fl "SafePathsModel" 86 (sp_Ct 13 34).1 (sp_Ct 13 34).2.1 (sp_Ct 13 34).2.2.1 := ⟨"SafePathsModel", Or.inl rfl, Or.inl (sp_tb5 _ (List.mem_of_getElem? (i := 100) rfl))⟩
theorem fl_Mo_107 : sp_fl "SafePathsModel" 107 (sp_Ct 13 35).1 (sp_Ct 13 35).2.1 (sp_Ct 13 35).2.2.1 := ⟨"SafePathsModel", Or.inl rfl, Or.inl (sp_tb5 _ (List.mem_of_getElem? (i := 101) rfl))⟩
theorem fl_Mo_89 : sp_fl "SafePathsModel" 89 (sp_Ct 13 36).1 (sp_Ct 13 36).2.1 (sp_Ct 13 36).2.2.1 := ⟨"SafePathsModel", Or.inl rfl, Or.inl (sp_tb5 _ (List.mem_of_getElem? (i := 102) rfl))⟩
theorem fl_Mo_92 : sp_fl "SafePathsModel" 92 (sp_Ct 13 37).1 (sp_Ct 13 37).2.1 (sp_Ct 13 37).2.2.1 := ⟨"SafePathsModel", Or.inl rfl, Or.inl (sp_tb5 _ (List.mem_of_getElem? (i := 103) rfl))⟩
theorem fl_Mo_159 : sp_fl "SafePathsModel" 159 (sp_Ct 13 38).1 (sp_Ct 13 38).2.1 (sp_Ct 13 38).2.2.1 := ⟨"SafePathsModel", Or.inl rfl, Or.inl (sp_tb5 _ (List.mem_of_getElem? (i := 104) rfl))⟩
theorem fl_Mo_196 : sp_fl "SafePathsModel" 196 (sp_Ct 13 39).1 (sp_Ct 13 39).2.1 (sp_Ct 13 39).2.2.1 := ⟨"SafePathsModel", Or.inl rfl, Or.inl (sp_tb5 _ (List.mem_of_getElem? (i := 105) rfl))⟩
theorem fl_Mo_186 : sp_fl "SafePathsModel" 186 (sp_Ct 13 40).1 (sp_Ct 13 40).2.1 (sp_Ct 13 40).2.2.1 := ⟨"SafePathsModel", Or.inl rfl, Or.inl (sp_tb5 _ (List.mem_of_getElem? (i := 106) rfl))⟩
theorem fl_Mo_193 : sp_fl "SafePathsModel" 193 (sp_Ct 13 41).1 (sp_Ct 13 41).2.1 (sp_Ct 13 41).2.2.1 := ⟨"SafePathsModel", Or.inl rfl, Or.inl (sp_tb5 _ (List.mem_of_getElem? (i := 107) rfl))⟩
theorem gs_String_15 : Cond.fieldLink "java/lang/String" 15 "java/lang/String" "coder" "B" ∈ lw_tbl ∨ ∃ host, Cond.fieldLinkNest "java/lang/String" 15 "java/lang/String" "coder" "B" host ∈ lw_tbl := Or.inl (sp_tb6 _ (List.mem_of_getElem? (i := 140) rfl))
theorem gs_String_9 : Cond.fieldLink "java/lang/String" 9 "java/lang/String" "value" "[B" ∈ lw_tbl ∨ ∃ host, Cond.fieldLinkNest "java/lang/String" 9 "java/lang/String" "value" "[B" host ∈ lw_tbl := Or.inl (sp_tb6 _ (List.mem_of_getElem? (i := 141) rfl))
theorem cl_Law_7 : Cond.classLink "SafePathsLaw" 7 (sp_Cn 12) ∈ lw_tbl := sp_tb1 _ (List.mem_of_getElem? (i := 27) rfl)
theorem cl_SP_7 : Cond.classLink "SafePaths" 7 (sp_Cn 8) ∈ lw_tbl := sp_tb1 _ (List.mem_of_getElem? (i := 35) rfl)
theorem cl_SP_18 : Cond.classLink "SafePaths" 18 (sp_Cn 2) ∈ lw_tbl := sp_tb1 _ (List.mem_of_getElem? (i := 65) rfl)
theorem cl_SP_25 : Cond.classLink "SafePaths" 25 (sp_Cn 0) ∈ lw_tbl := sp_tb1 _ (List.mem_of_getElem? (i := 79) rfl)
theorem cl_SP_38 : Cond.classLink "SafePaths" 38 (sp_Cn 10) ∈ lw_tbl := sp_tb1 _ (List.mem_of_getElem? (i := 105) rfl)
theorem cl_Tree_13 : Cond.classLink "SafePaths$Tree" 13 (sp_Cn 0) ∈ lw_tbl := sp_tb1 _ (List.mem_of_getElem? (i := 111) rfl)
theorem cl_Tree_23 : Cond.classLink "SafePaths$Tree" 23 (sp_Cn 1) ∈ lw_tbl := sp_tb1 _ (List.mem_of_getElem? (i := 113) rfl)
theorem cl_Tree_30 : Cond.classLink "SafePaths$Tree" 30 (sp_Cn 5) ∈ lw_tbl := sp_tb1 _ (List.mem_of_getElem? (i := 133) rfl)
theorem cl_Tree_32 : Cond.classLink "SafePaths$Tree" 32 (sp_Cn 4) ∈ lw_tbl := sp_tb1 _ (List.mem_of_getElem? (i := 135) rfl)
theorem cl_Arrays_110 : Cond.classLink "java/util/Arrays" 110 "[Ljava/lang/Object;" ∈ lw_tbl := sp_tb2 _ (List.mem_of_getElem? (i := 22) rfl)
theorem cl_Arrays_2 : Cond.classLink "java/util/Arrays" 2 "java/lang/Object" ∈ lw_tbl := sp_tb2 _ (List.mem_of_getElem? (i := 24) rfl)
theorem cl_List_7 : Cond.classLink "java/util/ArrayList" 7 "java/lang/Object" ∈ lw_tbl := sp_tb2 _ (List.mem_of_getElem? (i := 30) rfl)
theorem cl_SP_47 : Cond.classLink "SafePaths" 47 (sp_Cn 11) ∈ lw_tbl := sp_tb2 _ (List.mem_of_getElem? (i := 56) rfl)
theorem cl_Walk_15 : Cond.classLink "SafePaths$Walk" 15 (sp_Cn 0) ∈ lw_tbl := sp_tb2 _ (List.mem_of_getElem? (i := 62) rfl)
theorem cl_SP_56 : Cond.classLink "SafePaths" 56 (sp_Cn 9) ∈ lw_tbl := sp_tb2 _ (List.mem_of_getElem? (i := 80) rfl)
theorem cl_Taking_23 : Cond.classLink "SafePaths$Taking" 23 (sp_Cn 0) ∈ lw_tbl := sp_tb2 _ (List.mem_of_getElem? (i := 86) rfl)
theorem cl_Draft_25 : Cond.classLink "SafePaths$Draft" 25 (sp_Cn 0) ∈ lw_tbl := sp_tb2 _ (List.mem_of_getElem? (i := 178) rfl)
theorem cl_Draft_32 : Cond.classLink "SafePaths$Draft" 32 (sp_Cn 4) ∈ lw_tbl := sp_tb2 _ (List.mem_of_getElem? (i := 188) rfl)
theorem cl_SP_106 : Cond.classLink "SafePaths" 106 (sp_Cn 4) ∈ lw_tbl := sp_tb2 _ (List.mem_of_getElem? (i := 229) rfl)
theorem cl_SP_85 : Cond.classLink "SafePaths" 85 (sp_Cn 7) ∈ lw_tbl := sp_tb3 _ (List.mem_of_getElem? (i := 135) rfl)
theorem cl_Parted_21 : Cond.classLink "SafePaths$Parted" 21 (sp_Cn 4) ∈ lw_tbl := sp_tb3 _ (List.mem_of_getElem? (i := 141) rfl)
theorem cl_SP_130 : Cond.classLink "SafePaths" 130 (sp_Cn 3) ∈ lw_tbl := sp_tb3 _ (List.mem_of_getElem? (i := 223) rfl)
theorem cl_Walk_66 : Cond.classLink "SafePaths$Walk" 66 (sp_Cn 4) ∈ lw_tbl := sp_tb4 _ (List.mem_of_getElem? (i := 107) rfl)
theorem cl_Taking_82 : Cond.classLink "SafePaths$Taking" 82 (sp_Cn 6) ∈ lw_tbl := sp_tb4 _ (List.mem_of_getElem? (i := 161) rfl)
theorem cl_Law_18 : Cond.classLink "SafePathsLaw" 18 (sp_Cn 13) ∈ lw_tbl := sp_tb5 _ (List.mem_of_getElem? (i := 49) rfl)
theorem in_0 : Cond.instantiable (sp_Cn 0) 3 ∈ lw_tbl := sp_tb1 _ (List.mem_of_getElem? (i := 80) rfl)
theorem it_0 : Cond.initialized (sp_Cn 0) ∈ lw_tbl := sp_tb1 _ (List.mem_of_getElem? (i := 6) rfl)
theorem in_1 : Cond.instantiable (sp_Cn 1) 3 ∈ lw_tbl := sp_tb1 _ (List.mem_of_getElem? (i := 114) rfl)
theorem it_1 : Cond.initialized (sp_Cn 1) ∈ lw_tbl := sp_tb1 _ (List.mem_of_getElem? (i := 8) rfl)
theorem ca_1 : Cond.castable (sp_Cn 1) "java/lang/Object" ∈ lw_tbl := sp_tb6 _ (List.mem_of_getElem? (i := 130) rfl)
theorem in_2 : Cond.instantiable (sp_Cn 2) 2 ∈ lw_tbl := sp_tb1 _ (List.mem_of_getElem? (i := 66) rfl)
theorem it_2 : Cond.initialized (sp_Cn 2) ∈ lw_tbl := sp_tb1 _ (List.mem_of_getElem? (i := 3) rfl)
theorem ca_2 : Cond.castable (sp_Cn 2) "java/lang/Object" ∈ lw_tbl := sp_tb6 _ (List.mem_of_getElem? (i := 128) rfl)
theorem in_3 : Cond.instantiable (sp_Cn 3) 5 ∈ lw_tbl := sp_tb3 _ (List.mem_of_getElem? (i := 224) rfl)
theorem it_3 : Cond.initialized (sp_Cn 3) ∈ lw_tbl := sp_tb1 _ (List.mem_of_getElem? (i := 25) rfl)
theorem ca_3 : Cond.castable (sp_Cn 3) "java/lang/Object" ∈ lw_tbl := sp_tb6 _ (List.mem_of_getElem? (i := 137) rfl)
theorem in_4 : Cond.instantiable (sp_Cn 4) 2 ∈ lw_tbl := sp_tb1 _ (List.mem_of_getElem? (i := 136) rfl)
theorem it_4 : Cond.initialized (sp_Cn 4) ∈ lw_tbl := sp_tb1 _ (List.mem_of_getElem? (i := 10) rfl)
theorem ca_4 : Cond.castable (sp_Cn 4) "java/lang/Object" ∈ lw_tbl := sp_tb6 _ (List.mem_of_getElem? (i := 132) rfl)
theorem in_5 : Cond.instantiable (sp_Cn 5) 8 ∈ lw_tbl := sp_tb1 _ (List.mem_of_getElem? (i := 134) rfl)
theorem it_5 : Cond.initialized (sp_Cn 5) ∈ lw_tbl := sp_tb1 _ (List.mem_of_getElem? (i := 9) rfl)
theorem ca_5 : Cond.castable (sp_Cn 5) "java/lang/Object" ∈ lw_tbl := sp_tb6 _ (List.mem_of_getElem? (i := 131) rfl)
theorem in_6 : Cond.instantiable (sp_Cn 6) 2 ∈ lw_tbl := sp_tb4 _ (List.mem_of_getElem? (i := 162) rfl)
theorem it_6 : Cond.initialized (sp_Cn 6) ∈ lw_tbl := sp_tb1 _ (List.mem_of_getElem? (i := 26) rfl)
theorem ca_6 : Cond.castable (sp_Cn 6) "java/lang/Object" ∈ lw_tbl := sp_tb6 _ (List.mem_of_getElem? (i := 138) rfl)
theorem in_7 : Cond.instantiable (sp_Cn 7) 4 ∈ lw_tbl := sp_tb3 _ (List.mem_of_getElem? (i := 136) rfl)
theorem it_7 : Cond.initialized (sp_Cn 7) ∈ lw_tbl := sp_tb1 _ (List.mem_of_getElem? (i := 24) rfl)
theorem ca_7 : Cond.castable (sp_Cn 7) "java/lang/Object" ∈ lw_tbl := sp_tb6 _ (List.mem_of_getElem? (i := 136) rfl)
theorem in_8 : Cond.instantiable (sp_Cn 8) 6 ∈ lw_tbl := sp_tb1 _ (List.mem_of_getElem? (i := 36) rfl)
theorem it_8 : Cond.initialized (sp_Cn 8) ∈ lw_tbl := sp_tb1 _ (List.mem_of_getElem? (i := 2) rfl)
theorem ca_8 : Cond.castable (sp_Cn 8) "java/lang/Object" ∈ lw_tbl := sp_tb6 _ (List.mem_of_getElem? (i := 127) rfl)
theorem in_9 : Cond.instantiable (sp_Cn 9) 14 ∈ lw_tbl := sp_tb2 _ (List.mem_of_getElem? (i := 81) rfl)
theorem it_9 : Cond.initialized (sp_Cn 9) ∈ lw_tbl := sp_tb1 _ (List.mem_of_getElem? (i := 16) rfl)
theorem ca_9 : Cond.castable (sp_Cn 9) "java/lang/Object" ∈ lw_tbl := sp_tb6 _ (List.mem_of_getElem? (i := 134) rfl)
theorem in_10 : Cond.instantiable (sp_Cn 10) 7 ∈ lw_tbl := sp_tb1 _ (List.mem_of_getElem? (i := 106) rfl)
theorem it_10 : Cond.initialized (sp_Cn 10) ∈ lw_tbl := sp_tb1 _ (List.mem_of_getElem? (i := 7) rfl)
theorem ca_10 : Cond.castable (sp_Cn 10) "java/lang/Object" ∈ lw_tbl := sp_tb6 _ (List.mem_of_getElem? (i := 129) rfl)
theorem in_11 : Cond.instantiable (sp_Cn 11) 5 ∈ lw_tbl := sp_tb2 _ (List.mem_of_getElem? (i := 57) rfl)
theorem it_11 : Cond.initialized (sp_Cn 11) ∈ lw_tbl := sp_tb1 _ (List.mem_of_getElem? (i := 15) rfl)
theorem ca_11 : Cond.castable (sp_Cn 11) "java/lang/Object" ∈ lw_tbl := sp_tb6 _ (List.mem_of_getElem? (i := 133) rfl)
theorem in_12 : Cond.instantiable (sp_Cn 12) 9 ∈ lw_tbl := sp_tb1 _ (List.mem_of_getElem? (i := 28) rfl)
theorem it_12 : Cond.initialized (sp_Cn 12) ∈ lw_tbl := sp_tb1 _ (List.mem_of_getElem? (i := 1) rfl)
theorem ca_12 : Cond.castable (sp_Cn 12) "java/lang/Object" ∈ lw_tbl := sp_tb6 _ (List.mem_of_getElem? (i := 126) rfl)
theorem in_13 : Cond.instantiable (sp_Cn 13) 42 ∈ lw_tbl := sp_tb5 _ (List.mem_of_getElem? (i := 50) rfl)
theorem it_13 : Cond.initialized (sp_Cn 13) ∈ lw_tbl := sp_tb1 _ (List.mem_of_getElem? (i := 17) rfl)
theorem ca_13 : Cond.castable (sp_Cn 13) "java/lang/Object" ∈ lw_tbl := sp_tb6 _ (List.mem_of_getElem? (i := 135) rfl)
theorem kl_Tree_25 : Cond.constantLong "SafePaths$Tree" 25 (8 : Int64) ∈ lw_tbl := sp_tb1 _ (List.mem_of_getElem? (i := 115) rfl)
theorem kl_Taking_30 : Cond.constantLong "SafePaths$Taking" 30 (1000000 : Int64) ∈ lw_tbl := sp_tb2 _ (List.mem_of_getElem? (i := 88) rfl)
theorem kl_Taking_36 : Cond.constantLong "SafePaths$Taking" 36 (4611686018427387904 : Int64) ∈ lw_tbl := sp_tb2 _ (List.mem_of_getElem? (i := 89) rfl)
theorem kl_SP_128 : Cond.constantLong "SafePaths" 128 (1099511627776 : Int64) ∈ lw_tbl := sp_tb3 _ (List.mem_of_getElem? (i := 222) rfl)
theorem kl_SP_152 : Cond.constantLong "SafePaths" 152 (-7 : Int64) ∈ lw_tbl := sp_tb4 _ (List.mem_of_getElem? (i := 203) rfl)
theorem kl_Mo_75 : Cond.constantLong "SafePathsModel" 75 (1000000 : Int64) ∈ lw_tbl := sp_tb5 _ (List.mem_of_getElem? (i := 55) rfl)
theorem kl_Mo_81 : Cond.constantLong "SafePathsModel" 81 (4611686018427387904 : Int64) ∈ lw_tbl := sp_tb5 _ (List.mem_of_getElem? (i := 56) rfl)
theorem kl_Mo_110 : Cond.constantLong "SafePathsModel" 110 (8 : Int64) ∈ lw_tbl := sp_tb5 _ (List.mem_of_getElem? (i := 65) rfl)
theorem kl_Mo_181 : Cond.constantLong "SafePathsModel" 181 (1099511627776 : Int64) ∈ lw_tbl := sp_tb6 _ (List.mem_of_getElem? (i := 42) rfl)
theorem kl_Mo_236 : Cond.constantLong "SafePathsModel" 236 (-7 : Int64) ∈ lw_tbl := sp_tb6 _ (List.mem_of_getElem? (i := 91) rfl)
theorem kl_Law_45 : Cond.constantLong "SafePathsLaw" 45 (4294967295 : Int64) ∈ lw_tbl := sp_tb6 _ (List.mem_of_getElem? (i := 116) rfl)
theorem ki_ASup_200 : Cond.constant "jdk/internal/util/ArraysSupport" 200 (2147483639 : Int32) ∈ lw_tbl := sp_tb1 _ (List.mem_of_getElem? (i := 234) rfl)
theorem ki_UTF16_227 : Cond.constant "java/lang/StringUTF16" 227 (65536 : Int32) ∈ lw_tbl := sp_tb3 _ (List.mem_of_getElem? (i := 53) rfl)
theorem ki_Char_110 : Cond.constant "java/lang/Character" 110 (55232 : Int32) ∈ lw_tbl := sp_tb3 _ (List.mem_of_getElem? (i := 92) rfl)
theorem ki_Char_76 : Cond.constant "java/lang/Character" 76 (56320 : Int32) ∈ lw_tbl := sp_tb3 _ (List.mem_of_getElem? (i := 96) rfl)
