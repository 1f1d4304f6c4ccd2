theorem TBp {w : Cond} (h : w ∈ k2_sels lw_privs) (g : goodWord w = true) : w ∈ TB := List.mem_filter.mpr ⟨List.mem_append_left _ h, g⟩
theorem TA1 {w : Cond} (h : w ∈ tables_1_1) : w ∈ lw_tbl := List.mem_append_right _ (show w ∈ tables_1 from List.mem_append_left _ h)
theorem TB1 {w : Cond} (h : w ∈ tables_1_1) (g : goodWord w = true) : w ∈ TB := List.mem_filter.mpr ⟨TA1 h, g⟩
theorem TA2 {w : Cond} (h : w ∈ tables_1_2) : w ∈ lw_tbl := List.mem_append_right _ (show w ∈ tables_1 from List.mem_append_right _ (List.mem_append_left _ h))
theorem TB2 {w : Cond} (h : w ∈ tables_1_2) (g : goodWord w = true) : w ∈ TB := List.mem_filter.mpr ⟨TA2 h, g⟩
theorem TA3 {w : Cond} (h : w ∈ tables_1_3) : w ∈ lw_tbl := List.mem_append_right _ (show w ∈ tables_1 from List.mem_append_right _ (List.mem_append_right _ (List.mem_append_left _ h)))
theorem TB3 {w : Cond} (h : w ∈ tables_1_3) (g : goodWord w = true) : w ∈ TB := List.mem_filter.mpr ⟨TA3 h, g⟩
theorem TA4 {w : Cond} (h : w ∈ tables_1_4) : w ∈ lw_tbl := List.mem_append_right _ (show w ∈ tables_1 from List.mem_append_right _ (List.mem_append_right _ (List.mem_append_right _ (List.mem_append_left _ h))))
theorem TB4 {w : Cond} (h : w ∈ tables_1_4) (g : goodWord w = true) : w ∈ TB := List.mem_filter.mpr ⟨TA4 h, g⟩
theorem TA5 {w : Cond} (h : w ∈ tables_1_5) : w ∈ lw_tbl := List.mem_append_right _ (show w ∈ tables_1 from List.mem_append_right _ (List.mem_append_right _ (List.mem_append_right _ (List.mem_append_right _ (List.mem_append_left _ h)))))
theorem TB5 {w : Cond} (h : w ∈ tables_1_5) (g : goodWord w = true) : w ∈ TB := List.mem_filter.mpr ⟨TA5 h, g⟩
theorem TA6 {w : Cond} (h : w ∈ tables_1_6) : w ∈ lw_tbl := List.mem_append_right _ (show w ∈ tables_1 from List.mem_append_right _ (List.mem_append_right _ (List.mem_append_right _ (List.mem_append_right _ (List.mem_append_right _ (List.mem_append_left _ h))))))
theorem TB6 {w : Cond} (h : w ∈ tables_1_6) (g : goodWord w = true) : w ∈ TB := List.mem_filter.mpr ⟨TA6 h, g⟩
theorem TA7 {w : Cond} (h : w ∈ tables_1_7) : w ∈ lw_tbl := List.mem_append_right _ (show w ∈ tables_1 from List.mem_append_right _ (List.mem_append_right _ (List.mem_append_right _ (List.mem_append_right _ (List.mem_append_right _ (List.mem_append_right _ (List.mem_append_left _ h)))))))
theorem TB7 {w : Cond} (h : w ∈ tables_1_7) (g : goodWord w = true) : w ∈ TB := List.mem_filter.mpr ⟨TA7 h, g⟩
theorem TA8 {w : Cond} (h : w ∈ tables_1_8) : w ∈ lw_tbl := List.mem_append_right _ (show w ∈ tables_1 from List.mem_append_right _ (List.mem_append_right _ (List.mem_append_right _ (List.mem_append_right _ (List.mem_append_right _ (List.mem_append_right _ (List.mem_append_right _ (List.mem_append_left _ h))))))))
theorem TB8 {w : Cond} (h : w ∈ tables_1_8) (g : goodWord w = true) : w ∈ TB := List.mem_filter.mpr ⟨TA8 h, g⟩
theorem TA9 {w : Cond} (h : w ∈ tables_1_9) : w ∈ lw_tbl := List.mem_append_right _ (show w ∈ tables_1 from List.mem_append_right _ (List.mem_append_right _ (List.mem_append_right _ (List.mem_append_right _ (List.mem_append_right _ (List.mem_append_right _ (List.mem_append_right _ (List.mem_append_right _ (h)))))))))
theorem TB9 {w : Cond} (h : w ∈ tables_1_9) (g : goodWord w = true) : w ∈ TB := List.mem_filter.mpr ⟨TA9 h, g⟩
-- descriptors
abbrev mX0_init : Md := (yX0_init, cX0_init, 1, none)
theorem mdX0_init : MD mX0_init 0 := ⟨(TB1 (List.mem_of_getElem? (i := 203) rfl) rfl), (TB1 (List.mem_of_getElem? (i := 10) rfl) rfl), by decide +kernel, by decide +kernel⟩
abbrev mX0_add : Md := (yX0_add, cX0_add, 6, none)
theorem mdX0_add : MD mX0_add 5 := ⟨(TB4 (List.mem_of_getElem? (i := 1) rfl) rfl), (TB1 (List.mem_of_getElem? (i := 10) rfl) rfl), by decide +kernel, by decide +kernel⟩
abbrev mX0_stepsAt : Md := (yX0_stepsAt, cX0_stepsAt, 4, (some .boolean))
theorem mdX0_stepsAt : MD mX0_stepsAt 2 := ⟨(TB4 (List.mem_of_getElem? (i := 172) rfl) rfl), (TB1 (List.mem_of_getElem? (i := 10) rfl) rfl), by decide +kernel, by decide +kernel⟩
abbrev mX0_firstCell : Md := (yX0_firstCell, cX0_firstCell, 3, (some .int))
theorem mdX0_firstCell : MD mX0_firstCell 2 := ⟨(TB4 (List.mem_of_getElem? (i := 180) rfl) rfl), (TB1 (List.mem_of_getElem? (i := 10) rfl) rfl), by decide +kernel, by decide +kernel⟩
abbrev mX1_init : Md := (yX1_init, cX1_init, 1, none)
theorem mdX1_init : MD mX1_init 0 := ⟨(TB3 (List.mem_of_getElem? (i := 51) rfl) rfl), (TB1 (List.mem_of_getElem? (i := 19) rfl) rfl), by decide +kernel, by decide +kernel⟩
abbrev mX1_clear : Md := (yX1_clear, cX1_clear, 1, none)
theorem mdX1_clear : MD mX1_clear 0 := ⟨(TB4 (List.mem_of_getElem? (i := 77) rfl) rfl), (TB1 (List.mem_of_getElem? (i := 19) rfl) rfl), by decide +kernel, by decide +kernel⟩
abbrev mX1_add : Md := (yX1_add, cX1_add, 4, none)
theorem mdX1_add : MD mX1_add 3 := ⟨(TB5 (List.mem_of_getElem? (i := 1) rfl) rfl), (TB1 (List.mem_of_getElem? (i := 19) rfl) rfl), by decide +kernel, by decide +kernel⟩
abbrev mX1_forgetFirst : Md := (yX1_forgetFirst, cX1_forgetFirst, 1, none)
theorem mdX1_forgetFirst : MD mX1_forgetFirst 0 := ⟨(TB5 (List.mem_of_getElem? (i := 5) rfl) rfl), (TB1 (List.mem_of_getElem? (i := 19) rfl) rfl), by decide +kernel, by decide +kernel⟩
abbrev mX2_init : Md := (yX2_init, cX2_init, 1, none)
theorem mdX2_init : MD mX2_init 0 := ⟨(TB1 (List.mem_of_getElem? (i := 235) rfl) rfl), (TB1 (List.mem_of_getElem? (i := 11) rfl) rfl), by decide +kernel, by decide +kernel⟩
abbrev mX2_add : Md := (yX2_add, cX2_add, 3, none)
theorem mdX2_add : MD mX2_add 2 := ⟨(TB4 (List.mem_of_getElem? (i := 17) rfl) rfl), (TB1 (List.mem_of_getElem? (i := 11) rfl) rfl), by decide +kernel, by decide +kernel⟩
abbrev mX2_standsAt : Md := (yX2_standsAt, cX2_standsAt, 3, (some .boolean))
theorem mdX2_standsAt : MD mX2_standsAt 1 := ⟨(TB4 (List.mem_of_getElem? (i := 13) rfl) rfl), (TB1 (List.mem_of_getElem? (i := 11) rfl) rfl), by decide +kernel, by decide +kernel⟩
abbrev mX2_copy : Md := (yX2_copy, cX2_copy, 2, none)
theorem mdX2_copy : MD mX2_copy 1 := ⟨(TB2 (List.mem_of_getElem? (i := 163) rfl) rfl), (TB1 (List.mem_of_getElem? (i := 11) rfl) rfl), by decide +kernel, by decide +kernel⟩
abbrev mX3_init : Md := (yX3_init, cX3_init, 2, none)
theorem mdX3_init : MD mX3_init 1 := ⟨(TB1 (List.mem_of_getElem? (i := 137) rfl) rfl), (TB1 (List.mem_of_getElem? (i := 8) rfl) rfl), by decide +kernel, by decide +kernel⟩
abbrev mX3_read : Md := (yX3_read, cX3_read, 5, (some .int))
theorem mdX3_read : MD mX3_read 2 := ⟨(TB4 (List.mem_of_getElem? (i := 29) rfl) rfl), (TB1 (List.mem_of_getElem? (i := 8) rfl) rfl), by decide +kernel, by decide +kernel⟩
abbrev mX3_readOperand : Md := (yX3_readOperand, cX3_readOperand, 3, (some .int))
theorem mdX3_readOperand : MD mX3_readOperand 1 := ⟨(TB4 (List.mem_of_getElem? (i := 44) rfl) rfl), (TB1 (List.mem_of_getElem? (i := 8) rfl) rfl), by decide +kernel, by decide +kernel⟩
abbrev mX3_readOpen : Md := (yX3_readOpen, cX3_readOpen, 1, (some .int))
theorem mdX3_readOpen : MD mX3_readOpen 0 := ⟨(TB4 (List.mem_of_getElem? (i := 48) rfl) rfl), (TB1 (List.mem_of_getElem? (i := 8) rfl) rfl), by decide +kernel, by decide +kernel⟩
abbrev mX3_readSign : Md := (yX3_readSign, cX3_readSign, 4, (some .int))
theorem mdX3_readSign : MD mX3_readSign 1 := ⟨(TB4 (List.mem_of_getElem? (i := 56) rfl) rfl), (TB1 (List.mem_of_getElem? (i := 8) rfl) rfl), by decide +kernel, by decide +kernel⟩
abbrev mX3_await : Md := (yX3_await, cX3_await, 2, none)
theorem mdX3_await : MD mX3_await 1 := ⟨(TB4 (List.mem_of_getElem? (i := 52) rfl) rfl), (TB1 (List.mem_of_getElem? (i := 8) rfl) rfl), by decide +kernel, by decide +kernel⟩
abbrev mX3_putDown : Md := (yX3_putDown, cX3_putDown, 2, none)
theorem mdX3_putDown : MD mX3_putDown 1 := ⟨(TB4 (List.mem_of_getElem? (i := 33) rfl) rfl), (TB1 (List.mem_of_getElem? (i := 8) rfl) rfl), by decide +kernel, by decide +kernel⟩
abbrev mX3_bindingOf : Md := (yX3_bindingOf, cX3_bindingOf, 1, (some .int))
theorem mdX3_bindingOf : MD mX3_bindingOf 1 := ⟨(TB4 (List.mem_of_getElem? (i := 36) rfl) rfl), (TB1 (List.mem_of_getElem? (i := 8) rfl) rfl), by decide +kernel, by decide +kernel⟩
abbrev mX4_init : Md := (yX4_init, cX4_init, 1, none)
theorem mdX4_init : MD mX4_init 0 := ⟨(TB3 (List.mem_of_getElem? (i := 20) rfl) rfl), (TB1 (List.mem_of_getElem? (i := 18) rfl) rfl), by decide +kernel, by decide +kernel⟩
abbrev mX4_clear : Md := (yX4_clear, cX4_clear, 1, none)
theorem mdX4_clear : MD mX4_clear 0 := ⟨(TB4 (List.mem_of_getElem? (i := 73) rfl) rfl), (TB1 (List.mem_of_getElem? (i := 18) rfl) rfl), by decide +kernel, by decide +kernel⟩
abbrev mX4_add : Md := (yX4_add, cX4_add, 5, (some .int))
theorem mdX4_add : MD mX4_add 4 := ⟨(TB5 (List.mem_of_getElem? (i := 131) rfl) rfl), (TB1 (List.mem_of_getElem? (i := 18) rfl) rfl), by decide +kernel, by decide +kernel⟩
abbrev mX4_addStrike : Md := (yX4_addStrike, cX4_addStrike, 2, (some .int))
theorem mdX4_addStrike : MD mX4_addStrike 1 := ⟨(TB5 (List.mem_of_getElem? (i := 139) rfl) rfl), (TB1 (List.mem_of_getElem? (i := 18) rfl) rfl), by decide +kernel, by decide +kernel⟩
abbrev mX4_knownSize : Md := (yX4_knownSize, cX4_knownSize, 1, (some .int))
theorem mdX4_knownSize : MD mX4_knownSize 0 := ⟨(TB4 (List.mem_of_getElem? (i := 136) rfl) rfl), (TB1 (List.mem_of_getElem? (i := 18) rfl) rfl), by decide +kernel, by decide +kernel⟩
abbrev mX4_knownBits : Md := (yX4_knownBits, cX4_knownBits, 4, (some .int))
theorem mdX4_knownBits : MD mX4_knownBits 0 := ⟨(TB5 (List.mem_of_getElem? (i := 155) rfl) rfl), (TB1 (List.mem_of_getElem? (i := 18) rfl) rfl), by decide +kernel, by decide +kernel⟩
abbrev mX4_lastTime : Md := (yX4_lastTime, cX4_lastTime, 4, (some .int))
theorem mdX4_lastTime : MD mX4_lastTime 1 := ⟨(TB5 (List.mem_of_getElem? (i := 164) rfl) rfl), (TB1 (List.mem_of_getElem? (i := 18) rfl) rfl), by decide +kernel, by decide +kernel⟩
abbrev mX4_areSo : Md := (yX4_areSo, cX4_areSo, 6, (some .boolean))
theorem mdX4_areSo : MD mX4_areSo 3 := ⟨(TB5 (List.mem_of_getElem? (i := 169) rfl) rfl), (TB1 (List.mem_of_getElem? (i := 18) rfl) rfl), by decide +kernel, by decide +kernel⟩
abbrev mX5_init : Md := (yX5_init, cX5_init, 1, none)
theorem mdX5_init : MD mX5_init 0 := ⟨(TB2 (List.mem_of_getElem? (i := 16) rfl) rfl), (TB1 (List.mem_of_getElem? (i := 12) rfl) rfl), by decide +kernel, by decide +kernel⟩
abbrev mX5_addKnot : Md := (yX5_addKnot, cX5_addKnot, 2, none)
theorem mdX5_addKnot : MD mX5_addKnot 1 := ⟨(TB4 (List.mem_of_getElem? (i := 40) rfl) rfl), (TB1 (List.mem_of_getElem? (i := 12) rfl) rfl), by decide +kernel, by decide +kernel⟩
abbrev mX5_value : Md := (yX5_value, cX5_value, 7, (some .long))
theorem mdX5_value : MD mX5_value 1 := ⟨(TB4 (List.mem_of_getElem? (i := 116) rfl) rfl), (TB1 (List.mem_of_getElem? (i := 12) rfl) rfl), by decide +kernel, by decide +kernel⟩
abbrev mX5_join : Md := (yX5_join, cX5_join, 5, (some .long))
theorem mdX5_join : MD mX5_join 3 := ⟨(TB4 (List.mem_of_getElem? (i := 119) rfl) rfl), (TB1 (List.mem_of_getElem? (i := 12) rfl) rfl), by decide +kernel, by decide +kernel⟩
abbrev mX5_holds : Md := (yX5_holds, cX5_holds, 5, (some .boolean))
theorem mdX5_holds : MD mX5_holds 3 := ⟨(TB4 (List.mem_of_getElem? (i := 127) rfl) rfl), (TB1 (List.mem_of_getElem? (i := 12) rfl) rfl), by decide +kernel, by decide +kernel⟩
abbrev mX6_init : Md := (yX6_init, cX6_init, 2, none)
theorem mdX6_init : MD mX6_init 1 := ⟨(TB1 (List.mem_of_getElem? (i := 40) rfl) rfl), (TB1 (List.mem_of_getElem? (i := 2) rfl) rfl), by decide +kernel, by decide +kernel⟩
abbrev mX6_read : Md := (yX6_read, cX6_read, 4, (some .int))
theorem mdX6_read : MD mX6_read 2 := ⟨(TB3 (List.mem_of_getElem? (i := 144) rfl) rfl), (TB1 (List.mem_of_getElem? (i := 2) rfl) rfl), by decide +kernel, by decide +kernel⟩
abbrev mX6_readLine : Md := (yX6_readLine, cX6_readLine, 1, (some .boolean))
theorem mdX6_readLine : MD mX6_readLine 0 := ⟨(TB3 (List.mem_of_getElem? (i := 188) rfl) rfl), (TB1 (List.mem_of_getElem? (i := 2) rfl) rfl), by decide +kernel, by decide +kernel⟩
abbrev mX6_readBridge : Md := (yX6_readBridge, cX6_readBridge, 4, (some .boolean))
theorem mdX6_readBridge : MD mX6_readBridge 0 := ⟨(TB3 (List.mem_of_getElem? (i := 192) rfl) rfl), (TB1 (List.mem_of_getElem? (i := 2) rfl) rfl), by decide +kernel, by decide +kernel⟩
abbrev mX6_readSetting : Md := (yX6_readSetting, cX6_readSetting, 4, (some .boolean))
theorem mdX6_readSetting : MD mX6_readSetting 1 := ⟨(TB3 (List.mem_of_getElem? (i := 213) rfl) rfl), (TB1 (List.mem_of_getElem? (i := 2) rfl) rfl), by decide +kernel, by decide +kernel⟩
abbrev mX6_readWalker : Md := (yX6_readWalker, cX6_readWalker, 5, (some .boolean))
theorem mdX6_readWalker : MD mX6_readWalker 0 := ⟨(TB3 (List.mem_of_getElem? (i := 222) rfl) rfl), (TB1 (List.mem_of_getElem? (i := 2) rfl) rfl), by decide +kernel, by decide +kernel⟩
abbrev mX6_readFat : Md := (yX6_readFat, cX6_readFat, 4, (some .boolean))
theorem mdX6_readFat : MD mX6_readFat 0 := ⟨(TB4 (List.mem_of_getElem? (i := 9) rfl) rfl), (TB1 (List.mem_of_getElem? (i := 2) rfl) rfl), by decide +kernel, by decide +kernel⟩
abbrev mX6_readSleeper : Md := (yX6_readSleeper, cX6_readSleeper, 4, (some .boolean))
theorem mdX6_readSleeper : MD mX6_readSleeper 0 := ⟨(TB4 (List.mem_of_getElem? (i := 21) rfl) rfl), (TB1 (List.mem_of_getElem? (i := 2) rfl) rfl), by decide +kernel, by decide +kernel⟩
abbrev mX6_readMay : Md := (yX6_readMay, cX6_readMay, 3, (some .boolean))
theorem mdX6_readMay : MD mX6_readMay 0 := ⟨(TB4 (List.mem_of_getElem? (i := 25) rfl) rfl), (TB1 (List.mem_of_getElem? (i := 2) rfl) rfl), by decide +kernel, by decide +kernel⟩
abbrev mX6_readLaw : Md := (yX6_readLaw, cX6_readLaw, 3, (some .boolean))
theorem mdX6_readLaw : MD mX6_readLaw 0 := ⟨(TB4 (List.mem_of_getElem? (i := 64) rfl) rfl), (TB1 (List.mem_of_getElem? (i := 2) rfl) rfl), by decide +kernel, by decide +kernel⟩
abbrev mX6_take : Md := (yX6_take, cX6_take, 2, (some .boolean))
theorem mdX6_take : MD mX6_take 1 := ⟨(TB4 (List.mem_of_getElem? (i := 5) rfl) rfl), (TB1 (List.mem_of_getElem? (i := 2) rfl) rfl), by decide +kernel, by decide +kernel⟩
abbrev mX6_takeOnce : Md := (yX6_takeOnce, cX6_takeOnce, 2, (some .boolean))
theorem mdX6_takeOnce : MD mX6_takeOnce 0 := ⟨(TB3 (List.mem_of_getElem? (i := 196) rfl) rfl), (TB1 (List.mem_of_getElem? (i := 2) rfl) rfl), by decide +kernel, by decide +kernel⟩
abbrev mX6_takeNamed : Md := (yX6_takeNamed, cX6_takeNamed, 2, (some .boolean))
theorem mdX6_takeNamed : MD mX6_takeNamed 1 := ⟨(TB3 (List.mem_of_getElem? (i := 226) rfl) rfl), (TB1 (List.mem_of_getElem? (i := 2) rfl) rfl), by decide +kernel, by decide +kernel⟩
abbrev mX6_takeNumber : Md := (yX6_takeNumber, cX6_takeNumber, 4, (some .int))
theorem mdX6_takeNumber : MD mX6_takeNumber 2 := ⟨(TB3 (List.mem_of_getElem? (i := 209) rfl) rfl), (TB1 (List.mem_of_getElem? (i := 2) rfl) rfl), by decide +kernel, by decide +kernel⟩
abbrev mX6_fail : Md := (yX6_fail, cX6_fail, 2, (some .boolean))
theorem mdX6_fail : MD mX6_fail 1 := ⟨(TB3 (List.mem_of_getElem? (i := 200) rfl) rfl), (TB1 (List.mem_of_getElem? (i := 2) rfl) rfl), by decide +kernel, by decide +kernel⟩
abbrev mX6_failAt : Md := (yX6_failAt, cX6_failAt, 3, (some .boolean))
theorem mdX6_failAt : MD mX6_failAt 2 := ⟨(TB3 (List.mem_of_getElem? (i := 204) rfl) rfl), (TB1 (List.mem_of_getElem? (i := 2) rfl) rfl), by decide +kernel, by decide +kernel⟩
abbrev mX7_init : Md := (yX7_init, cX7_init, 1, none)
theorem mdX7_init : MD mX7_init 0 := ⟨(TB1 (List.mem_of_getElem? (i := 195) rfl) rfl), (TB1 (List.mem_of_getElem? (i := 9) rfl) rfl), by decide +kernel, by decide +kernel⟩
abbrev mX7_clear : Md := (yX7_clear, cX7_clear, 2, none)
theorem mdX7_clear : MD mX7_clear 0 := ⟨(TB2 (List.mem_of_getElem? (i := 35) rfl) rfl), (TB1 (List.mem_of_getElem? (i := 9) rfl) rfl), by decide +kernel, by decide +kernel⟩
abbrev mX7_find : Md := (yX7_find, cX7_find, 4, (some .int))
theorem mdX7_find : MD mX7_find 2 := ⟨(TB3 (List.mem_of_getElem? (i := 232) rfl) rfl), (TB1 (List.mem_of_getElem? (i := 9) rfl) rfl), by decide +kernel, by decide +kernel⟩
abbrev mX7_addName : Md := (yX7_addName, cX7_addName, 3, none)
theorem mdX7_addName : MD mX7_addName 2 := ⟨(TB3 (List.mem_of_getElem? (i := 236) rfl) rfl), (TB1 (List.mem_of_getElem? (i := 9) rfl) rfl), by decide +kernel, by decide +kernel⟩
abbrev mX7_setNumber : Md := (yX7_setNumber, cX7_setNumber, 3, none)
theorem mdX7_setNumber : MD mX7_setNumber 2 := ⟨(TB3 (List.mem_of_getElem? (i := 217) rfl) rfl), (TB1 (List.mem_of_getElem? (i := 9) rfl) rfl), by decide +kernel, by decide +kernel⟩
abbrev mX8_init : Md := (yX8_init, cX8_init, 7, none)
theorem mdX8_init : MD mX8_init 1 := ⟨(TB1 (List.mem_of_getElem? (i := 46) rfl) rfl), (TB1 (List.mem_of_getElem? (i := 3) rfl) rfl), by decide +kernel, by decide +kernel⟩
abbrev mX8_letterBits : Md := (yX8_letterBits, cX8_letterBits, 2, (some .int))
theorem mdX8_letterBits : MD mX8_letterBits 2 := ⟨(TB1 (List.mem_of_getElem? (i := 99) rfl) rfl), (TB1 (List.mem_of_getElem? (i := 3) rfl) rfl), by decide +kernel, by decide +kernel⟩
abbrev mX8_start : Md := (yX8_start, cX8_start, 2, none)
theorem mdX8_start : MD mX8_start 1 := ⟨(TB3 (List.mem_of_getElem? (i := 149) rfl) rfl), (TB1 (List.mem_of_getElem? (i := 3) rfl) rfl), by decide +kernel, by decide +kernel⟩
abbrev mX8_advance : Md := (yX8_advance, cX8_advance, 2, none)
theorem mdX8_advance : MD mX8_advance 0 := ⟨(TB3 (List.mem_of_getElem? (i := 154) rfl) rfl), (TB1 (List.mem_of_getElem? (i := 3) rfl) rfl), by decide +kernel, by decide +kernel⟩
abbrev mX8_signAt : Md := (yX8_signAt, cX8_signAt, 2, (some .int))
theorem mdX8_signAt : MD mX8_signAt 1 := ⟨(TB3 (List.mem_of_getElem? (i := 158) rfl) rfl), (TB1 (List.mem_of_getElem? (i := 3) rfl) rfl), by decide +kernel, by decide +kernel⟩
abbrev mX8_isLetter : Md := (yX8_isLetter, cX8_isLetter, 1, (some .boolean))
theorem mdX8_isLetter : MD mX8_isLetter 1 := ⟨(TB3 (List.mem_of_getElem? (i := 161) rfl) rfl), (TB1 (List.mem_of_getElem? (i := 3) rfl) rfl), by decide +kernel, by decide +kernel⟩
abbrev mX8_isDigit : Md := (yX8_isDigit, cX8_isDigit, 1, (some .boolean))
theorem mdX8_isDigit : MD mX8_isDigit 1 := ⟨(TB3 (List.mem_of_getElem? (i := 172) rfl) rfl), (TB1 (List.mem_of_getElem? (i := 3) rfl) rfl), by decide +kernel, by decide +kernel⟩
abbrev mX8_readWord : Md := (yX8_readWord, cX8_readWord, 1, none)
theorem mdX8_readWord : MD mX8_readWord 0 := ⟨(TB3 (List.mem_of_getElem? (i := 165) rfl) rfl), (TB1 (List.mem_of_getElem? (i := 3) rfl) rfl), by decide +kernel, by decide +kernel⟩
abbrev mX8_wordKind : Md := (yX8_wordKind, cX8_wordKind, 2, (some .int))
theorem mdX8_wordKind : MD mX8_wordKind 0 := ⟨(TB3 (List.mem_of_getElem? (i := 169) rfl) rfl), (TB1 (List.mem_of_getElem? (i := 3) rfl) rfl), by decide +kernel, by decide +kernel⟩
abbrev mX8_readNumber : Md := (yX8_readNumber, cX8_readNumber, 1, none)
theorem mdX8_readNumber : MD mX8_readNumber 0 := ⟨(TB3 (List.mem_of_getElem? (i := 176) rfl) rfl), (TB1 (List.mem_of_getElem? (i := 3) rfl) rfl), by decide +kernel, by decide +kernel⟩
abbrev mX8_readSign : Md := (yX8_readSign, cX8_readSign, 3, none)
theorem mdX8_readSign : MD mX8_readSign 1 := ⟨(TB3 (List.mem_of_getElem? (i := 181) rfl) rfl), (TB1 (List.mem_of_getElem? (i := 3) rfl) rfl), by decide +kernel, by decide +kernel⟩
abbrev mX8_singleSign : Md := (yX8_singleSign, cX8_singleSign, 1, (some .int))
theorem mdX8_singleSign : MD mX8_singleSign 1 := ⟨(TB3 (List.mem_of_getElem? (i := 184) rfl) rfl), (TB1 (List.mem_of_getElem? (i := 3) rfl) rfl), by decide +kernel, by decide +kernel⟩
abbrev mX9_init : Md := (yX9_init, cX9_init, 2, none)
theorem mdX9_init : MD mX9_init 1 := ⟨(TB2 (List.mem_of_getElem? (i := 131) rfl) rfl), (TB1 (List.mem_of_getElem? (i := 14) rfl) rfl), by decide +kernel, by decide +kernel⟩
abbrev mX9_begin : Md := (yX9_begin, cX9_begin, 2, none)
theorem mdX9_begin : MD mX9_begin 1 := ⟨(TB2 (List.mem_of_getElem? (i := 159) rfl) rfl), (TB1 (List.mem_of_getElem? (i := 14) rfl) rfl), by decide +kernel, by decide +kernel⟩
abbrev mX9_rest : Md := (yX9_rest, cX9_rest, 1, none)
theorem mdX9_rest : MD mX9_rest 0 := ⟨(TB2 (List.mem_of_getElem? (i := 178) rfl) rfl), (TB1 (List.mem_of_getElem? (i := 14) rfl) rfl), by decide +kernel, by decide +kernel⟩
abbrev mX9_copy : Md := (yX9_copy, cX9_copy, 2, none)
theorem mdX9_copy : MD mX9_copy 1 := ⟨(TB5 (List.mem_of_getElem? (i := 36) rfl) rfl), (TB1 (List.mem_of_getElem? (i := 14) rfl) rfl), by decide +kernel, by decide +kernel⟩
abbrev mX9_addFat : Md := (yX9_addFat, cX9_addFat, 3, none)
theorem mdX9_addFat : MD mX9_addFat 2 := ⟨(TB4 (List.mem_of_getElem? (i := 236) rfl) rfl), (TB1 (List.mem_of_getElem? (i := 14) rfl) rfl), by decide +kernel, by decide +kernel⟩
abbrev mX9_dropLastFat : Md := (yX9_dropLastFat, cX9_dropLastFat, 1, none)
theorem mdX9_dropLastFat : MD mX9_dropLastFat 0 := ⟨(TB5 (List.mem_of_getElem? (i := 28) rfl) rfl), (TB1 (List.mem_of_getElem? (i := 14) rfl) rfl), by decide +kernel, by decide +kernel⟩
abbrev mX9_dropAllFat : Md := (yX9_dropAllFat, cX9_dropAllFat, 1, none)
theorem mdX9_dropAllFat : MD mX9_dropAllFat 0 := ⟨(TB5 (List.mem_of_getElem? (i := 208) rfl) rfl), (TB1 (List.mem_of_getElem? (i := 14) rfl) rfl), by decide +kernel, by decide +kernel⟩
abbrev mX9_refreshCalm : Md := (yX9_refreshCalm, cX9_refreshCalm, 3, none)
theorem mdX9_refreshCalm : MD mX9_refreshCalm 0 := ⟨(TB2 (List.mem_of_getElem? (i := 170) rfl) rfl), (TB1 (List.mem_of_getElem? (i := 14) rfl) rfl), by decide +kernel, by decide +kernel⟩
abbrev mX9_leaveOnly : Md := (yX9_leaveOnly, cX9_leaveOnly, 3, none)
theorem mdX9_leaveOnly : MD mX9_leaveOnly 1 := ⟨(TB5 (List.mem_of_getElem? (i := 105) rfl) rfl), (TB1 (List.mem_of_getElem? (i := 14) rfl) rfl), by decide +kernel, by decide +kernel⟩
abbrev mX9_highest : Md := (yX9_highest, cX9_highest, 5, (some .int))
theorem mdX9_highest : MD mX9_highest 2 := ⟨(TB5 (List.mem_of_getElem? (i := 59) rfl) rfl), (TB1 (List.mem_of_getElem? (i := 14) rfl) rfl), by decide +kernel, by decide +kernel⟩
abbrev mX9_pass : Md := (yX9_pass, cX9_pass, 2, none)
theorem mdX9_pass : MD mX9_pass 0 := ⟨(TB4 (List.mem_of_getElem? (i := 168) rfl) rfl), (TB1 (List.mem_of_getElem? (i := 14) rfl) rfl), by decide +kernel, by decide +kernel⟩
abbrev mX9_step : Md := (yX9_step, cX9_step, 6, none)
theorem mdX9_step : MD mX9_step 1 := ⟨(TB4 (List.mem_of_getElem? (i := 176) rfl) rfl), (TB1 (List.mem_of_getElem? (i := 14) rfl) rfl), by decide +kernel, by decide +kernel⟩
abbrev mX9_force : Md := (yX9_force, cX9_force, 3, (some .int))
theorem mdX9_force : MD mX9_force 2 := ⟨(TB4 (List.mem_of_getElem? (i := 185) rfl) rfl), (TB1 (List.mem_of_getElem? (i := 14) rfl) rfl), by decide +kernel, by decide +kernel⟩
abbrev mX9_nameValues : Md := (yX9_nameValues, cX9_nameValues, 4, none)
theorem mdX9_nameValues : MD mX9_nameValues 3 := ⟨(TB4 (List.mem_of_getElem? (i := 112) rfl) rfl), (TB1 (List.mem_of_getElem? (i := 14) rfl) rfl), by decide +kernel, by decide +kernel⟩
abbrev mX9_gust : Md := (yX9_gust, cX9_gust, 2, none)
theorem mdX9_gust : MD mX9_gust 0 := ⟨(TB4 (List.mem_of_getElem? (i := 198) rfl) rfl), (TB1 (List.mem_of_getElem? (i := 14) rfl) rfl), by decide +kernel, by decide +kernel⟩
abbrev mX9_losePlanks : Md := (yX9_losePlanks, cX9_losePlanks, 2, none)
theorem mdX9_losePlanks : MD mX9_losePlanks 0 := ⟨(TB4 (List.mem_of_getElem? (i := 217) rfl) rfl), (TB1 (List.mem_of_getElem? (i := 14) rfl) rfl), by decide +kernel, by decide +kernel⟩
abbrev mX9_walkersAt : Md := (yX9_walkersAt, cX9_walkersAt, 4, (some .int))
theorem mdX9_walkersAt : MD mX9_walkersAt 1 := ⟨(TB4 (List.mem_of_getElem? (i := 99) rfl) rfl), (TB1 (List.mem_of_getElem? (i := 14) rfl) rfl), by decide +kernel, by decide +kernel⟩
abbrev mX10_init : Md := (yX10_init, cX10_init, 1, none)
theorem mdX10_init : MD mX10_init 0 := ⟨(TB2 (List.mem_of_getElem? (i := 137) rfl) rfl), (TB1 (List.mem_of_getElem? (i := 15) rfl) rfl), by decide +kernel, by decide +kernel⟩
abbrev mX10_rest : Md := (yX10_rest, cX10_rest, 1, none)
theorem mdX10_rest : MD mX10_rest 0 := ⟨(TB2 (List.mem_of_getElem? (i := 182) rfl) rfl), (TB1 (List.mem_of_getElem? (i := 15) rfl) rfl), by decide +kernel, by decide +kernel⟩
abbrev mX10_copy : Md := (yX10_copy, cX10_copy, 2, none)
theorem mdX10_copy : MD mX10_copy 1 := ⟨(TB5 (List.mem_of_getElem? (i := 40) rfl) rfl), (TB1 (List.mem_of_getElem? (i := 15) rfl) rfl), by decide +kernel, by decide +kernel⟩
abbrev mX10_move : Md := (yX10_move, cX10_move, 7, none)
theorem mdX10_move : MD mX10_move 3 := ⟨(TB4 (List.mem_of_getElem? (i := 207) rfl) rfl), (TB1 (List.mem_of_getElem? (i := 15) rfl) rfl), by decide +kernel, by decide +kernel⟩
abbrev mX10_greatest : Md := (yX10_greatest, cX10_greatest, 4, (some .int))
theorem mdX10_greatest : MD mX10_greatest 1 := ⟨(TB4 (List.mem_of_getElem? (i := 150) rfl) rfl), (TB1 (List.mem_of_getElem? (i := 15) rfl) rfl), by decide +kernel, by decide +kernel⟩
abbrev mX11_init : Md := (yX11_init, cX11_init, 1, none)
theorem mdX11_init : MD mX11_init 0 := ⟨(TB1 (List.mem_of_getElem? (i := 32) rfl) rfl), (TB1 (List.mem_of_getElem? (i := 1) rfl) rfl), by decide +kernel, by decide +kernel⟩
abbrev mX11_feed : Md := (yX11_feed, cX11_feed, 6, (some .int))
theorem mdX11_feed : MD mX11_feed 5 := ⟨(TB3 (List.mem_of_getElem? (i := 132) rfl) rfl), (TB1 (List.mem_of_getElem? (i := 1) rfl) rfl), by decide +kernel, by decide +kernel⟩
abbrev mX11_append : Md := (yX11_append, cX11_append, 3, none)
theorem mdX11_append : MD mX11_append 1 := ⟨(TB3 (List.mem_of_getElem? (i := 136) rfl) rfl), (TB1 (List.mem_of_getElem? (i := 1) rfl) rfl), by decide +kernel, by decide +kernel⟩
abbrev mX11_text : Md := (yX11_text, cX11_text, 4, (some .int))
theorem mdX11_text : MD mX11_text 1 := ⟨(TB3 (List.mem_of_getElem? (i := 140) rfl) rfl), (TB1 (List.mem_of_getElem? (i := 1) rfl) rfl), by decide +kernel, by decide +kernel⟩
abbrev mX11_begin : Md := (yX11_begin, cX11_begin, 1, none)
theorem mdX11_begin : MD mX11_begin 0 := ⟨(TB4 (List.mem_of_getElem? (i := 68) rfl) rfl), (TB1 (List.mem_of_getElem? (i := 1) rfl) rfl), by decide +kernel, by decide +kernel⟩
abbrev mX11_fault : Md := (yX11_fault, cX11_fault, 2, (some .int))
theorem mdX11_fault : MD mX11_fault 1 := ⟨(TB4 (List.mem_of_getElem? (i := 81) rfl) rfl), (TB1 (List.mem_of_getElem? (i := 1) rfl) rfl), by decide +kernel, by decide +kernel⟩
abbrev mX11_named : Md := (yX11_named, cX11_named, 3, (some .int))
theorem mdX11_named : MD mX11_named 2 := ⟨(TB4 (List.mem_of_getElem? (i := 85) rfl) rfl), (TB1 (List.mem_of_getElem? (i := 1) rfl) rfl), by decide +kernel, by decide +kernel⟩
abbrev mX11_look : Md := (yX11_look, cX11_look, 3, (some .int))
theorem mdX11_look : MD mX11_look 2 := ⟨(TB5 (List.mem_of_getElem? (i := 217) rfl) rfl), (TB1 (List.mem_of_getElem? (i := 1) rfl) rfl), by decide +kernel, by decide +kernel⟩
abbrev mX11_cell : Md := (yX11_cell, cX11_cell, 3, (some .int))
theorem mdX11_cell : MD mX11_cell 2 := ⟨(TB4 (List.mem_of_getElem? (i := 90) rfl) rfl), (TB1 (List.mem_of_getElem? (i := 1) rfl) rfl), by decide +kernel, by decide +kernel⟩
abbrev mX11_law : Md := (yX11_law, cX11_law, 5, (some .long))
theorem mdX11_law : MD mX11_law 4 := ⟨(TB4 (List.mem_of_getElem? (i := 103) rfl) rfl), (TB1 (List.mem_of_getElem? (i := 1) rfl) rfl), by decide +kernel, by decide +kernel⟩
abbrev mX11_count : Md := (yX11_count, cX11_count, 2, (some .int))
theorem mdX11_count : MD mX11_count 1 := ⟨(TB4 (List.mem_of_getElem? (i := 132) rfl) rfl), (TB1 (List.mem_of_getElem? (i := 1) rfl) rfl), by decide +kernel, by decide +kernel⟩
abbrev mX11_countSway : Md := (yX11_countSway, cX11_countSway, 2, (some .int))
theorem mdX11_countSway : MD mX11_countSway 1 := ⟨(TB4 (List.mem_of_getElem? (i := 140) rfl) rfl), (TB1 (List.mem_of_getElem? (i := 1) rfl) rfl), by decide +kernel, by decide +kernel⟩
abbrev mX11_beats : Md := (yX11_beats, cX11_beats, 4, (some .int))
theorem mdX11_beats : MD mX11_beats 1 := ⟨(TB4 (List.mem_of_getElem? (i := 158) rfl) rfl), (TB1 (List.mem_of_getElem? (i := 1) rfl) rfl), by decide +kernel, by decide +kernel⟩
abbrev mX11_was : Md := (yX11_was, cX11_was, 2, (some .int))
theorem mdX11_was : MD mX11_was 1 := ⟨(TB4 (List.mem_of_getElem? (i := 222) rfl) rfl), (TB1 (List.mem_of_getElem? (i := 1) rfl) rfl), by decide +kernel, by decide +kernel⟩
abbrev mX11_slotOf : Md := (yX11_slotOf, cX11_slotOf, 1, (some .int))
theorem mdX11_slotOf : MD mX11_slotOf 1 := ⟨(TB4 (List.mem_of_getElem? (i := 161) rfl) rfl), (TB1 (List.mem_of_getElem? (i := 1) rfl) rfl), by decide +kernel, by decide +kernel⟩
abbrev mX11_fat : Md := (yX11_fat, cX11_fat, 3, (some .int))
theorem mdX11_fat : MD mX11_fat 2 := ⟨(TB4 (List.mem_of_getElem? (i := 226) rfl) rfl), (TB1 (List.mem_of_getElem? (i := 1) rfl) rfl), by decide +kernel, by decide +kernel⟩
abbrev mX11_off : Md := (yX11_off, cX11_off, 2, (some .boolean))
theorem mdX11_off : MD mX11_off 1 := ⟨(TB5 (List.mem_of_getElem? (i := 10) rfl) rfl), (TB1 (List.mem_of_getElem? (i := 1) rfl) rfl), by decide +kernel, by decide +kernel⟩
abbrev mX11_blow : Md := (yX11_blow, cX11_blow, 2, (some .boolean))
theorem mdX11_blow : MD mX11_blow 1 := ⟨(TB5 (List.mem_of_getElem? (i := 14) rfl) rfl), (TB1 (List.mem_of_getElem? (i := 1) rfl) rfl), by decide +kernel, by decide +kernel⟩
abbrev mX11_strike : Md := (yX11_strike, cX11_strike, 5, (some .int))
theorem mdX11_strike : MD mX11_strike 2 := ⟨(TB5 (List.mem_of_getElem? (i := 18) rfl) rfl), (TB1 (List.mem_of_getElem? (i := 1) rfl) rfl), by decide +kernel, by decide +kernel⟩
abbrev mX11_undo : Md := (yX11_undo, cX11_undo, 3, (some .int))
theorem mdX11_undo : MD mX11_undo 0 := ⟨(TB5 (List.mem_of_getElem? (i := 24) rfl) rfl), (TB1 (List.mem_of_getElem? (i := 1) rfl) rfl), by decide +kernel, by decide +kernel⟩
abbrev mX11_keep : Md := (yX11_keep, cX11_keep, 1, (some .int))
theorem mdX11_keep : MD mX11_keep 0 := ⟨(TB5 (List.mem_of_getElem? (i := 32) rfl) rfl), (TB1 (List.mem_of_getElem? (i := 1) rfl) rfl), by decide +kernel, by decide +kernel⟩
abbrev mX11_back : Md := (yX11_back, cX11_back, 1, (some .int))
theorem mdX11_back : MD mX11_back 0 := ⟨(TB5 (List.mem_of_getElem? (i := 47) rfl) rfl), (TB1 (List.mem_of_getElem? (i := 1) rfl) rfl), by decide +kernel, by decide +kernel⟩
abbrev mX11_high : Md := (yX11_high, cX11_high, 2, (some .int))
theorem mdX11_high : MD mX11_high 1 := ⟨(TB5 (List.mem_of_getElem? (i := 51) rfl) rfl), (TB1 (List.mem_of_getElem? (i := 1) rfl) rfl), by decide +kernel, by decide +kernel⟩
abbrev mX11_creaks : Md := (yX11_creaks, cX11_creaks, 4, (some .int))
theorem mdX11_creaks : MD mX11_creaks 1 := ⟨(TB5 (List.mem_of_getElem? (i := 65) rfl) rfl), (TB1 (List.mem_of_getElem? (i := 1) rfl) rfl), by decide +kernel, by decide +kernel⟩
abbrev mX11_lies : Md := (yX11_lies, cX11_lies, 6, (some .int))
theorem mdX11_lies : MD mX11_lies 4 := ⟨(TB5 (List.mem_of_getElem? (i := 70) rfl) rfl), (TB1 (List.mem_of_getElem? (i := 1) rfl) rfl), by decide +kernel, by decide +kernel⟩
abbrev mX11_fewest : Md := (yX11_fewest, cX11_fewest, 5, (some .int))
theorem mdX11_fewest : MD mX11_fewest 3 := ⟨(TB5 (List.mem_of_getElem? (i := 83) rfl) rfl), (TB1 (List.mem_of_getElem? (i := 1) rfl) rfl), by decide +kernel, by decide +kernel⟩
abbrev mX11_leastHigh : Md := (yX11_leastHigh, cX11_leastHigh, 10, (some .int))
theorem mdX11_leastHigh : MD mX11_leastHigh 4 := ⟨(TB5 (List.mem_of_getElem? (i := 74) rfl) rfl), (TB1 (List.mem_of_getElem? (i := 1) rfl) rfl), by decide +kernel, by decide +kernel⟩
abbrev mX11_nextSpots : Md := (yX11_nextSpots, cX11_nextSpots, 5, (some .boolean))
theorem mdX11_nextSpots : MD mX11_nextSpots 1 := ⟨(TB5 (List.mem_of_getElem? (i := 79) rfl) rfl), (TB1 (List.mem_of_getElem? (i := 1) rfl) rfl), by decide +kernel, by decide +kernel⟩
abbrev mX11_forbidden : Md := (yX11_forbidden, cX11_forbidden, 8, (some .int))
theorem mdX11_forbidden : MD mX11_forbidden 3 := ⟨(TB5 (List.mem_of_getElem? (i := 87) rfl) rfl), (TB1 (List.mem_of_getElem? (i := 1) rfl) rfl), by decide +kernel, by decide +kernel⟩
abbrev mX11_cancel : Md := (yX11_cancel, cX11_cancel, 6, (some .int))
theorem mdX11_cancel : MD mX11_cancel 3 := ⟨(TB5 (List.mem_of_getElem? (i := 97) rfl) rfl), (TB1 (List.mem_of_getElem? (i := 1) rfl) rfl), by decide +kernel, by decide +kernel⟩
abbrev mX11_highOfSet : Md := (yX11_highOfSet, cX11_highOfSet, 3, (some .int))
theorem mdX11_highOfSet : MD mX11_highOfSet 2 := ⟨(TB5 (List.mem_of_getElem? (i := 101) rfl) rfl), (TB1 (List.mem_of_getElem? (i := 1) rfl) rfl), by decide +kernel, by decide +kernel⟩
abbrev mX11_owes : Md := (yX11_owes, cX11_owes, 4, (some .int))
theorem mdX11_owes : MD mX11_owes 2 := ⟨(TB5 (List.mem_of_getElem? (i := 109) rfl) rfl), (TB1 (List.mem_of_getElem? (i := 1) rfl) rfl), by decide +kernel, by decide +kernel⟩
abbrev mX11_pump : Md := (yX11_pump, cX11_pump, 6, (some .int))
theorem mdX11_pump : MD mX11_pump 4 := ⟨(TB5 (List.mem_of_getElem? (i := 113) rfl) rfl), (TB1 (List.mem_of_getElem? (i := 1) rfl) rfl), by decide +kernel, by decide +kernel⟩
abbrev mX11_keeper : Md := (yX11_keeper, cX11_keeper, 10, (some .int))
theorem mdX11_keeper : MD mX11_keeper 5 := ⟨(TB5 (List.mem_of_getElem? (i := 121) rfl) rfl), (TB1 (List.mem_of_getElem? (i := 1) rfl) rfl), by decide +kernel, by decide +kernel⟩
abbrev mX11_greatestPumped : Md := (yX11_greatestPumped, cX11_greatestPumped, 9, (some .int))
theorem mdX11_greatestPumped : MD mX11_greatestPumped 5 := ⟨(TB5 (List.mem_of_getElem? (i := 117) rfl) rfl), (TB1 (List.mem_of_getElem? (i := 1) rfl) rfl), by decide +kernel, by decide +kernel⟩
abbrev mX11_groan : Md := (yX11_groan, cX11_groan, 5, (some .int))
theorem mdX11_groan : MD mX11_groan 4 := ⟨(TB5 (List.mem_of_getElem? (i := 126) rfl) rfl), (TB1 (List.mem_of_getElem? (i := 1) rfl) rfl), by decide +kernel, by decide +kernel⟩
abbrev mX11_unsay : Md := (yX11_unsay, cX11_unsay, 2, (some .int))
theorem mdX11_unsay : MD mX11_unsay 1 := ⟨(TB5 (List.mem_of_getElem? (i := 135) rfl) rfl), (TB1 (List.mem_of_getElem? (i := 1) rfl) rfl), by decide +kernel, by decide +kernel⟩
abbrev mX11_known : Md := (yX11_known, cX11_known, 2, (some .boolean))
theorem mdX11_known : MD mX11_known 1 := ⟨(TB5 (List.mem_of_getElem? (i := 143) rfl) rfl), (TB1 (List.mem_of_getElem? (i := 1) rfl) rfl), by decide +kernel, by decide +kernel⟩
abbrev mX11_began : Md := (yX11_began, cX11_began, 1, (some .int))
theorem mdX11_began : MD mX11_began 0 := ⟨(TB5 (List.mem_of_getElem? (i := 147) rfl) rfl), (TB1 (List.mem_of_getElem? (i := 1) rfl) rfl), by decide +kernel, by decide +kernel⟩
abbrev mX11_set : Md := (yX11_set, cX11_set, 6, (some .int))
theorem mdX11_set : MD mX11_set 1 := ⟨(TB5 (List.mem_of_getElem? (i := 180) rfl) rfl), (TB1 (List.mem_of_getElem? (i := 1) rfl) rfl), by decide +kernel, by decide +kernel⟩
abbrev mX11_sure : Md := (yX11_sure, cX11_sure, 6, (some .int))
theorem mdX11_sure : MD mX11_sure 1 := ⟨(TB5 (List.mem_of_getElem? (i := 184) rfl) rfl), (TB1 (List.mem_of_getElem? (i := 1) rfl) rfl), by decide +kernel, by decide +kernel⟩
abbrev mX11_beginners : Md := (yX11_beginners, cX11_beginners, 5, (some .long))
theorem mdX11_beginners : MD mX11_beginners 0 := ⟨(TB5 (List.mem_of_getElem? (i := 151) rfl) rfl), (TB1 (List.mem_of_getElem? (i := 1) rfl) rfl), by decide +kernel, by decide +kernel⟩
abbrev mX11_fits : Md := (yX11_fits, cX11_fits, 5, (some .int))
theorem mdX11_fits : MD mX11_fits 0 := ⟨(TB5 (List.mem_of_getElem? (i := 188) rfl) rfl), (TB1 (List.mem_of_getElem? (i := 1) rfl) rfl), by decide +kernel, by decide +kernel⟩
abbrev mX11_groansAreSo : Md := (yX11_groansAreSo, cX11_groansAreSo, 4, (some .boolean))
theorem mdX11_groansAreSo : MD mX11_groansAreSo 1 := ⟨(TB5 (List.mem_of_getElem? (i := 160) rfl) rfl), (TB1 (List.mem_of_getElem? (i := 1) rfl) rfl), by decide +kernel, by decide +kernel⟩
abbrev mX11_gales : Md := (yX11_gales, cX11_gales, 7, (some .int))
theorem mdX11_gales : MD mX11_gales 3 := ⟨(TB5 (List.mem_of_getElem? (i := 192) rfl) rfl), (TB1 (List.mem_of_getElem? (i := 1) rfl) rfl), by decide +kernel, by decide +kernel⟩
abbrev mX11_sidesStayWithin : Md := (yX11_sidesStayWithin, cX11_sidesStayWithin, 5, (some .boolean))
theorem mdX11_sidesStayWithin : MD mX11_sidesStayWithin 2 := ⟨(TB5 (List.mem_of_getElem? (i := 196) rfl) rfl), (TB1 (List.mem_of_getElem? (i := 1) rfl) rfl), by decide +kernel, by decide +kernel⟩
abbrev mX11_tried : Md := (yX11_tried, cX11_tried, 7, (some .int))
theorem mdX11_tried : MD mX11_tried 3 := ⟨(TB5 (List.mem_of_getElem? (i := 200) rfl) rfl), (TB1 (List.mem_of_getElem? (i := 1) rfl) rfl), by decide +kernel, by decide +kernel⟩
abbrev mX11_changeTrial : Md := (yX11_changeTrial, cX11_changeTrial, 3, none)
theorem mdX11_changeTrial : MD mX11_changeTrial 2 := ⟨(TB5 (List.mem_of_getElem? (i := 204) rfl) rfl), (TB1 (List.mem_of_getElem? (i := 1) rfl) rfl), by decide +kernel, by decide +kernel⟩
abbrev mX11_tryFromNow : Md := (yX11_tryFromNow, cX11_tryFromNow, 2, none)
theorem mdX11_tryFromNow : MD mX11_tryFromNow 1 := ⟨(TB5 (List.mem_of_getElem? (i := 55) rfl) rfl), (TB1 (List.mem_of_getElem? (i := 1) rfl) rfl), by decide +kernel, by decide +kernel⟩
abbrev mX11_tryFromRest : Md := (yX11_tryFromRest, cX11_tryFromRest, 1, none)
theorem mdX11_tryFromRest : MD mX11_tryFromRest 0 := ⟨(TB5 (List.mem_of_getElem? (i := 91) rfl) rfl), (TB1 (List.mem_of_getElem? (i := 1) rfl) rfl), by decide +kernel, by decide +kernel⟩
abbrev mX11_isWalker : Md := (yX11_isWalker, cX11_isWalker, 2, (some .boolean))
theorem mdX11_isWalker : MD mX11_isWalker 1 := ⟨(TB4 (List.mem_of_getElem? (i := 107) rfl) rfl), (TB1 (List.mem_of_getElem? (i := 1) rfl) rfl), by decide +kernel, by decide +kernel⟩
abbrev mX11_isCell : Md := (yX11_isCell, cX11_isCell, 2, (some .boolean))
theorem mdX11_isCell : MD mX11_isCell 1 := ⟨(TB4 (List.mem_of_getElem? (i := 94) rfl) rfl), (TB1 (List.mem_of_getElem? (i := 1) rfl) rfl), by decide +kernel, by decide +kernel⟩
abbrev mX11_isCalm : Md := (yX11_isCalm, cX11_isCalm, 1, (some .boolean))
theorem mdX11_isCalm : MD mX11_isCalm 1 := ⟨(TB4 (List.mem_of_getElem? (i := 229) rfl) rfl), (TB1 (List.mem_of_getElem? (i := 1) rfl) rfl), by decide +kernel, by decide +kernel⟩
abbrev mX11_isIn : Md := (yX11_isIn, cX11_isIn, 3, (some .boolean))
theorem mdX11_isIn : MD mX11_isIn 3 := ⟨(TB4 (List.mem_of_getElem? (i := 232) rfl) rfl), (TB1 (List.mem_of_getElem? (i := 1) rfl) rfl), by decide +kernel, by decide +kernel⟩
abbrev mX11_within : Md := (yX11_within, cX11_within, 2, (some .int))
theorem mdX11_within : MD mX11_within 2 := ⟨(TB4 (List.mem_of_getElem? (i := 211) rfl) rfl), (TB1 (List.mem_of_getElem? (i := 1) rfl) rfl), by decide +kernel, by decide +kernel⟩
abbrev mX12_init : Md := (yX12_init, cX12_init, 1, none)
theorem mdX12_init : MD mX12_init 0 := ⟨(TB6 (List.mem_of_getElem? (i := 64) rfl) rfl), (TB1 (List.mem_of_getElem? (i := 20) rfl) rfl), by decide +kernel, by decide +kernel⟩
abbrev mX12_thrown : Md := (yX12_thrown, cX12_thrown, 1, (some .int))
theorem mdX12_thrown : MD mX12_thrown 0 := ⟨(TB7 (List.mem_of_getElem? (i := 68) rfl) rfl), (TB1 (List.mem_of_getElem? (i := 20) rfl) rfl), by decide +kernel, by decide +kernel⟩
abbrev mX12_feed : Md := (yX12_feed, cX12_feed, 8, (some .int))
theorem mdX12_feed : MD mX12_feed 5 := ⟨(TB7 (List.mem_of_getElem? (i := 72) rfl) rfl), (TB1 (List.mem_of_getElem? (i := 20) rfl) rfl), by decide +kernel, by decide +kernel⟩
abbrev mX12_here : Md := (yX12_here, cX12_here, 1, (some .int))
theorem mdX12_here : MD mX12_here 0 := ⟨(TB7 (List.mem_of_getElem? (i := 88) rfl) rfl), (TB1 (List.mem_of_getElem? (i := 20) rfl) rfl), by decide +kernel, by decide +kernel⟩
abbrev mX12_isSmall : Md := (yX12_isSmall, cX12_isSmall, 1, (some .boolean))
theorem mdX12_isSmall : MD mX12_isSmall 1 := ⟨(TB7 (List.mem_of_getElem? (i := 91) rfl) rfl), (TB1 (List.mem_of_getElem? (i := 20) rfl) rfl), by decide +kernel, by decide +kernel⟩
abbrev mX12_isDigit : Md := (yX12_isDigit, cX12_isDigit, 1, (some .boolean))
theorem mdX12_isDigit : MD mX12_isDigit 1 := ⟨(TB7 (List.mem_of_getElem? (i := 105) rfl) rfl), (TB1 (List.mem_of_getElem? (i := 20) rfl) rfl), by decide +kernel, by decide +kernel⟩
abbrev mX12_token : Md := (yX12_token, cX12_token, 2, none)
theorem mdX12_token : MD mX12_token 0 := ⟨(TB7 (List.mem_of_getElem? (i := 84) rfl) rfl), (TB1 (List.mem_of_getElem? (i := 20) rfl) rfl), by decide +kernel, by decide +kernel⟩
abbrev mX12_sign : Md := (yX12_sign, cX12_sign, 2, none)
theorem mdX12_sign : MD mX12_sign 1 := ⟨(TB7 (List.mem_of_getElem? (i := 110) rfl) rfl), (TB1 (List.mem_of_getElem? (i := 20) rfl) rfl), by decide +kernel, by decide +kernel⟩
abbrev mX12_word : Md := (yX12_word, cX12_word, 4, (some .int))
theorem mdX12_word : MD mX12_word 0 := ⟨(TB7 (List.mem_of_getElem? (i := 95) rfl) rfl), (TB1 (List.mem_of_getElem? (i := 20) rfl) rfl), by decide +kernel, by decide +kernel⟩
abbrev mX12_name : Md := (yX12_name, cX12_name, 2, none)
theorem mdX12_name : MD mX12_name 0 := ⟨(TB7 (List.mem_of_getElem? (i := 102) rfl) rfl), (TB1 (List.mem_of_getElem? (i := 20) rfl) rfl), by decide +kernel, by decide +kernel⟩
abbrev mX12_wrong : Md := (yX12_wrong, cX12_wrong, 2, none)
theorem mdX12_wrong : MD mX12_wrong 1 := ⟨(TB7 (List.mem_of_getElem? (i := 118) rfl) rfl), (TB1 (List.mem_of_getElem? (i := 20) rfl) rfl), by decide +kernel, by decide +kernel⟩
abbrev mX12_isWord : Md := (yX12_isWord, cX12_isWord, 2, (some .boolean))
theorem mdX12_isWord : MD mX12_isWord 1 := ⟨(TB7 (List.mem_of_getElem? (i := 180) rfl) rfl), (TB1 (List.mem_of_getElem? (i := 20) rfl) rfl), by decide +kernel, by decide +kernel⟩
abbrev mX12_isSign : Md := (yX12_isSign, cX12_isSign, 2, (some .boolean))
theorem mdX12_isSign : MD mX12_isSign 1 := ⟨(TB7 (List.mem_of_getElem? (i := 204) rfl) rfl), (TB1 (List.mem_of_getElem? (i := 20) rfl) rfl), by decide +kernel, by decide +kernel⟩
abbrev mX12_goOn : Md := (yX12_goOn, cX12_goOn, 1, none)
theorem mdX12_goOn : MD mX12_goOn 0 := ⟨(TB7 (List.mem_of_getElem? (i := 141) rfl) rfl), (TB1 (List.mem_of_getElem? (i := 20) rfl) rfl), by decide +kernel, by decide +kernel⟩
abbrev mX12_numeralAtHand : Md := (yX12_numeralAtHand, cX12_numeralAtHand, 3, (some .int))
theorem mdX12_numeralAtHand : MD mX12_numeralAtHand 2 := ⟨(TB7 (List.mem_of_getElem? (i := 137) rfl) rfl), (TB1 (List.mem_of_getElem? (i := 20) rfl) rfl), by decide +kernel, by decide +kernel⟩
abbrev mX12_numeral : Md := (yX12_numeral, cX12_numeral, 4, (some .int))
theorem mdX12_numeral : MD mX12_numeral 2 := ⟨(TB7 (List.mem_of_getElem? (i := 133) rfl) rfl), (TB1 (List.mem_of_getElem? (i := 20) rfl) rfl), by decide +kernel, by decide +kernel⟩
abbrev mX12_found : Md := (yX12_found, cX12_found, 5, (some .int))
theorem mdX12_found : MD mX12_found 4 := ⟨(TB7 (List.mem_of_getElem? (i := 152) rfl) rfl), (TB1 (List.mem_of_getElem? (i := 20) rfl) rfl), by decide +kernel, by decide +kernel⟩
abbrev mX12_fresh : Md := (yX12_fresh, cX12_fresh, 5, (some .int))
theorem mdX12_fresh : MD mX12_fresh 3 := ⟨(TB7 (List.mem_of_getElem? (i := 149) rfl) rfl), (TB1 (List.mem_of_getElem? (i := 20) rfl) rfl), by decide +kernel, by decide +kernel⟩
abbrev mX12_fresher : Md := (yX12_fresher, cX12_fresher, 2, (some .int))
theorem mdX12_fresher : MD mX12_fresher 1 := ⟨(TB7 (List.mem_of_getElem? (i := 126) rfl) rfl), (TB1 (List.mem_of_getElem? (i := 20) rfl) rfl), by decide +kernel, by decide +kernel⟩
abbrev mX12_reads : Md := (yX12_reads, cX12_reads, 3, none)
theorem mdX12_reads : MD mX12_reads 2 := ⟨(TB7 (List.mem_of_getElem? (i := 80) rfl) rfl), (TB1 (List.mem_of_getElem? (i := 20) rfl) rfl), by decide +kernel, by decide +kernel⟩
abbrev mX12_isFull : Md := (yX12_isFull, cX12_isFull, 2, (some .boolean))
theorem mdX12_isFull : MD mX12_isFull 1 := ⟨(TB7 (List.mem_of_getElem? (i := 122) rfl) rfl), (TB1 (List.mem_of_getElem? (i := 20) rfl) rfl), by decide +kernel, by decide +kernel⟩
abbrev mX12_isOnce : Md := (yX12_isOnce, cX12_isOnce, 1, (some .boolean))
theorem mdX12_isOnce : MD mX12_isOnce 1 := ⟨(TB7 (List.mem_of_getElem? (i := 129) rfl) rfl), (TB1 (List.mem_of_getElem? (i := 20) rfl) rfl), by decide +kernel, by decide +kernel⟩
abbrev mX12_line : Md := (yX12_line, cX12_line, 4, none)
theorem mdX12_line : MD mX12_line 0 := ⟨(TB7 (List.mem_of_getElem? (i := 114) rfl) rfl), (TB1 (List.mem_of_getElem? (i := 20) rfl) rfl), by decide +kernel, by decide +kernel⟩
abbrev mX12_walkerLine : Md := (yX12_walkerLine, cX12_walkerLine, 2, none)
theorem mdX12_walkerLine : MD mX12_walkerLine 1 := ⟨(TB7 (List.mem_of_getElem? (i := 145) rfl) rfl), (TB1 (List.mem_of_getElem? (i := 20) rfl) rfl), by decide +kernel, by decide +kernel⟩
abbrev mX12_fatLine : Md := (yX12_fatLine, cX12_fatLine, 4, none)
theorem mdX12_fatLine : MD mX12_fatLine 1 := ⟨(TB7 (List.mem_of_getElem? (i := 156) rfl) rfl), (TB1 (List.mem_of_getElem? (i := 20) rfl) rfl), by decide +kernel, by decide +kernel⟩
abbrev mX12_sleepLine : Md := (yX12_sleepLine, cX12_sleepLine, 2, none)
theorem mdX12_sleepLine : MD mX12_sleepLine 1 := ⟨(TB7 (List.mem_of_getElem? (i := 160) rfl) rfl), (TB1 (List.mem_of_getElem? (i := 20) rfl) rfl), by decide +kernel, by decide +kernel⟩
abbrev mX12_lawLine : Md := (yX12_lawLine, cX12_lawLine, 2, none)
theorem mdX12_lawLine : MD mX12_lawLine 1 := ⟨(TB7 (List.mem_of_getElem? (i := 164) rfl) rfl), (TB1 (List.mem_of_getElem? (i := 20) rfl) rfl), by decide +kernel, by decide +kernel⟩
abbrev mX12_puts : Md := (yX12_puts, cX12_puts, 3, none)
theorem mdX12_puts : MD mX12_puts 2 := ⟨(TB7 (List.mem_of_getElem? (i := 188) rfl) rfl), (TB1 (List.mem_of_getElem? (i := 20) rfl) rfl), by decide +kernel, by decide +kernel⟩
abbrev mX12_knot : Md := (yX12_knot, cX12_knot, 1, none)
theorem mdX12_knot : MD mX12_knot 0 := ⟨(TB7 (List.mem_of_getElem? (i := 184) rfl) rfl), (TB1 (List.mem_of_getElem? (i := 20) rfl) rfl), by decide +kernel, by decide +kernel⟩
abbrev mX12_expression : Md := (yX12_expression, cX12_expression, 1, none)
theorem mdX12_expression : MD mX12_expression 0 := ⟨(TB7 (List.mem_of_getElem? (i := 168) rfl) rfl), (TB1 (List.mem_of_getElem? (i := 20) rfl) rfl), by decide +kernel, by decide +kernel⟩
abbrev mX12_conjunction : Md := (yX12_conjunction, cX12_conjunction, 1, none)
theorem mdX12_conjunction : MD mX12_conjunction 0 := ⟨(TB7 (List.mem_of_getElem? (i := 172) rfl) rfl), (TB1 (List.mem_of_getElem? (i := 20) rfl) rfl), by decide +kernel, by decide +kernel⟩
abbrev mX12_negation : Md := (yX12_negation, cX12_negation, 2, none)
theorem mdX12_negation : MD mX12_negation 0 := ⟨(TB7 (List.mem_of_getElem? (i := 176) rfl) rfl), (TB1 (List.mem_of_getElem? (i := 20) rfl) rfl), by decide +kernel, by decide +kernel⟩
abbrev mX12_sum : Md := (yX12_sum, cX12_sum, 2, none)
theorem mdX12_sum : MD mX12_sum 0 := ⟨(TB7 (List.mem_of_getElem? (i := 192) rfl) rfl), (TB1 (List.mem_of_getElem? (i := 20) rfl) rfl), by decide +kernel, by decide +kernel⟩
abbrev mX12_product : Md := (yX12_product, cX12_product, 2, none)
theorem mdX12_product : MD mX12_product 0 := ⟨(TB7 (List.mem_of_getElem? (i := 196) rfl) rfl), (TB1 (List.mem_of_getElem? (i := 20) rfl) rfl), by decide +kernel, by decide +kernel⟩
abbrev mX12_primary : Md := (yX12_primary, cX12_primary, 2, none)
theorem mdX12_primary : MD mX12_primary 0 := ⟨(TB7 (List.mem_of_getElem? (i := 200) rfl) rfl), (TB1 (List.mem_of_getElem? (i := 20) rfl) rfl), by decide +kernel, by decide +kernel⟩
abbrev mX12_half : Md := (yX12_half, cX12_half, 3, none)
theorem mdX12_half : MD mX12_half 1 := ⟨(TB7 (List.mem_of_getElem? (i := 207) rfl) rfl), (TB1 (List.mem_of_getElem? (i := 20) rfl) rfl), by decide +kernel, by decide +kernel⟩
abbrev mX12_text : Md := (yX12_text, cX12_text, 3, (some .int))
theorem mdX12_text : MD mX12_text 1 := ⟨(TB7 (List.mem_of_getElem? (i := 76) rfl) rfl), (TB1 (List.mem_of_getElem? (i := 20) rfl) rfl), by decide +kernel, by decide +kernel⟩
abbrev mX12_fault : Md := (yX12_fault, cX12_fault, 2, (some .int))
theorem mdX12_fault : MD mX12_fault 1 := ⟨(TB7 (List.mem_of_getElem? (i := 211) rfl) rfl), (TB1 (List.mem_of_getElem? (i := 20) rfl) rfl), by decide +kernel, by decide +kernel⟩
abbrev mX12_named : Md := (yX12_named, cX12_named, 3, (some .int))
theorem mdX12_named : MD mX12_named 2 := ⟨(TB7 (List.mem_of_getElem? (i := 215) rfl) rfl), (TB1 (List.mem_of_getElem? (i := 20) rfl) rfl), by decide +kernel, by decide +kernel⟩
abbrev mX12_rests : Md := (yX12_rests, cX12_rests, 3, none)
theorem mdX12_rests : MD mX12_rests 1 := ⟨(TB6 (List.mem_of_getElem? (i := 69) rfl) rfl), (TB1 (List.mem_of_getElem? (i := 20) rfl) rfl), by decide +kernel, by decide +kernel⟩
abbrev mX12_copies : Md := (yX12_copies, cX12_copies, 4, none)
theorem mdX12_copies : MD mX12_copies 2 := ⟨(TB8 (List.mem_of_getElem? (i := 95) rfl) rfl), (TB1 (List.mem_of_getElem? (i := 20) rfl) rfl), by decide +kernel, by decide +kernel⟩
abbrev mX12_copiesFat : Md := (yX12_copiesFat, cX12_copiesFat, 4, none)
theorem mdX12_copiesFat : MD mX12_copiesFat 2 := ⟨(TB8 (List.mem_of_getElem? (i := 99) rfl) rfl), (TB1 (List.mem_of_getElem? (i := 20) rfl) rfl), by decide +kernel, by decide +kernel⟩
abbrev mX12_copiesLog : Md := (yX12_copiesLog, cX12_copiesLog, 4, none)
theorem mdX12_copiesLog : MD mX12_copiesLog 2 := ⟨(TB9 (List.mem_of_getElem? (i := 21) rfl) rfl), (TB1 (List.mem_of_getElem? (i := 20) rfl) rfl), by decide +kernel, by decide +kernel⟩
abbrev mX12_isWalker : Md := (yX12_isWalker, cX12_isWalker, 2, (some .boolean))
theorem mdX12_isWalker : MD mX12_isWalker 1 := ⟨(TB7 (List.mem_of_getElem? (i := 223) rfl) rfl), (TB1 (List.mem_of_getElem? (i := 20) rfl) rfl), by decide +kernel, by decide +kernel⟩
abbrev mX12_isCell : Md := (yX12_isCell, cX12_isCell, 2, (some .boolean))
theorem mdX12_isCell : MD mX12_isCell 1 := ⟨(TB7 (List.mem_of_getElem? (i := 231) rfl) rfl), (TB1 (List.mem_of_getElem? (i := 20) rfl) rfl), by decide +kernel, by decide +kernel⟩
abbrev mX12_within : Md := (yX12_within, cX12_within, 2, (some .int))
theorem mdX12_within : MD mX12_within 2 := ⟨(TB8 (List.mem_of_getElem? (i := 71) rfl) rfl), (TB1 (List.mem_of_getElem? (i := 20) rfl) rfl), by decide +kernel, by decide +kernel⟩
abbrev mX12_is : Md := (yX12_is, cX12_is, 1, (some .long))
theorem mdX12_is : MD mX12_is 1 := ⟨(TB8 (List.mem_of_getElem? (i := 29) rfl) rfl), (TB1 (List.mem_of_getElem? (i := 20) rfl) rfl), by decide +kernel, by decide +kernel⟩
abbrev mX12_works : Md := (yX12_works, cX12_works, 8, (some .boolean))
theorem mdX12_works : MD mX12_works 1 := ⟨(TB8 (List.mem_of_getElem? (i := 26) rfl) rfl), (TB1 (List.mem_of_getElem? (i := 20) rfl) rfl), by decide +kernel, by decide +kernel⟩
abbrev mX12_goes : Md := (yX12_goes, cX12_goes, 3, (some .boolean))
theorem mdX12_goes : MD mX12_goes 1 := ⟨(TB8 (List.mem_of_getElem? (i := 22) rfl) rfl), (TB1 (List.mem_of_getElem? (i := 20) rfl) rfl), by decide +kernel, by decide +kernel⟩
abbrev mX12_hasLaw : Md := (yX12_hasLaw, cX12_hasLaw, 2, (some .boolean))
theorem mdX12_hasLaw : MD mX12_hasLaw 1 := ⟨(TB8 (List.mem_of_getElem? (i := 9) rfl) rfl), (TB1 (List.mem_of_getElem? (i := 20) rfl) rfl), by decide +kernel, by decide +kernel⟩
abbrev mX12_asks : Md := (yX12_asks, cX12_asks, 3, (some .int))
theorem mdX12_asks : MD mX12_asks 2 := ⟨(TB8 (List.mem_of_getElem? (i := 48) rfl) rfl), (TB1 (List.mem_of_getElem? (i := 20) rfl) rfl), by decide +kernel, by decide +kernel⟩
abbrev mX12_calls : Md := (yX12_calls, cX12_calls, 5, none)
theorem mdX12_calls : MD mX12_calls 4 := ⟨(TB8 (List.mem_of_getElem? (i := 14) rfl) rfl), (TB1 (List.mem_of_getElem? (i := 20) rfl) rfl), by decide +kernel, by decide +kernel⟩
abbrev mX12_plain : Md := (yX12_plain, cX12_plain, 1, none)
theorem mdX12_plain : MD mX12_plain 0 := ⟨(TB7 (List.mem_of_getElem? (i := 236) rfl) rfl), (TB1 (List.mem_of_getElem? (i := 20) rfl) rfl), by decide +kernel, by decide +kernel⟩
abbrev mX12_heat : Md := (yX12_heat, cX12_heat, 1, (some .int))
theorem mdX12_heat : MD mX12_heat 0 := ⟨(TB8 (List.mem_of_getElem? (i := 18) rfl) rfl), (TB1 (List.mem_of_getElem? (i := 20) rfl) rfl), by decide +kernel, by decide +kernel⟩
abbrev mX12_walks : Md := (yX12_walks, cX12_walks, 4, none)
theorem mdX12_walks : MD mX12_walks 1 := ⟨(TB8 (List.mem_of_getElem? (i := 56) rfl) rfl), (TB1 (List.mem_of_getElem? (i := 20) rfl) rfl), by decide +kernel, by decide +kernel⟩
abbrev mX12_treads : Md := (yX12_treads, cX12_treads, 9, none)
theorem mdX12_treads : MD mX12_treads 5 := ⟨(TB8 (List.mem_of_getElem? (i := 44) rfl) rfl), (TB1 (List.mem_of_getElem? (i := 20) rfl) rfl), by decide +kernel, by decide +kernel⟩
abbrev mX12_draw : Md := (yX12_draw, cX12_draw, 3, (some .int))
theorem mdX12_draw : MD mX12_draw 2 := ⟨(TB8 (List.mem_of_getElem? (i := 60) rfl) rfl), (TB1 (List.mem_of_getElem? (i := 20) rfl) rfl), by decide +kernel, by decide +kernel⟩
abbrev mX12_calmAt : Md := (yX12_calmAt, cX12_calmAt, 5, (some .int))
theorem mdX12_calmAt : MD mX12_calmAt 2 := ⟨(TB8 (List.mem_of_getElem? (i := 0) rfl) rfl), (TB1 (List.mem_of_getElem? (i := 20) rfl) rfl), by decide +kernel, by decide +kernel⟩
abbrev mX12_sways : Md := (yX12_sways, cX12_sways, 11, none)
theorem mdX12_sways : MD mX12_sways 5 := ⟨(TB8 (List.mem_of_getElem? (i := 67) rfl) rfl), (TB1 (List.mem_of_getElem? (i := 20) rfl) rfl), by decide +kernel, by decide +kernel⟩
abbrev mX12_passes : Md := (yX12_passes, cX12_passes, 3, none)
theorem mdX12_passes : MD mX12_passes 1 := ⟨(TB8 (List.mem_of_getElem? (i := 40) rfl) rfl), (TB1 (List.mem_of_getElem? (i := 20) rfl) rfl), by decide +kernel, by decide +kernel⟩
abbrev mX12_greatest : Md := (yX12_greatest, cX12_greatest, 5, (some .int))
theorem mdX12_greatest : MD mX12_greatest 2 := ⟨(TB8 (List.mem_of_getElem? (i := 76) rfl) rfl), (TB1 (List.mem_of_getElem? (i := 20) rfl) rfl), by decide +kernel, by decide +kernel⟩
abbrev mX12_look : Md := (yX12_look, cX12_look, 3, (some .int))
theorem mdX12_look : MD mX12_look 2 := ⟨(TB7 (List.mem_of_getElem? (i := 219) rfl) rfl), (TB1 (List.mem_of_getElem? (i := 20) rfl) rfl), by decide +kernel, by decide +kernel⟩
abbrev mX12_cell : Md := (yX12_cell, cX12_cell, 5, (some .int))
theorem mdX12_cell : MD mX12_cell 2 := ⟨(TB7 (List.mem_of_getElem? (i := 227) rfl) rfl), (TB1 (List.mem_of_getElem? (i := 20) rfl) rfl), by decide +kernel, by decide +kernel⟩
abbrev mX12_law : Md := (yX12_law, cX12_law, 5, (some .long))
theorem mdX12_law : MD mX12_law 4 := ⟨(TB8 (List.mem_of_getElem? (i := 5) rfl) rfl), (TB1 (List.mem_of_getElem? (i := 20) rfl) rfl), by decide +kernel, by decide +kernel⟩
abbrev mX12_beats : Md := (yX12_beats, cX12_beats, 4, (some .int))
theorem mdX12_beats : MD mX12_beats 1 := ⟨(TB8 (List.mem_of_getElem? (i := 36) rfl) rfl), (TB1 (List.mem_of_getElem? (i := 20) rfl) rfl), by decide +kernel, by decide +kernel⟩
abbrev mX12_was : Md := (yX12_was, cX12_was, 2, (some .int))
theorem mdX12_was : MD mX12_was 1 := ⟨(TB8 (List.mem_of_getElem? (i := 80) rfl) rfl), (TB1 (List.mem_of_getElem? (i := 20) rfl) rfl), by decide +kernel, by decide +kernel⟩
abbrev mX12_keepNow : Md := (yX12_keepNow, cX12_keepNow, 2, none)
theorem mdX12_keepNow : MD mX12_keepNow 0 := ⟨(TB8 (List.mem_of_getElem? (i := 91) rfl) rfl), (TB1 (List.mem_of_getElem? (i := 20) rfl) rfl), by decide +kernel, by decide +kernel⟩
abbrev mX12_grows : Md := (yX12_grows, cX12_grows, 4, none)
theorem mdX12_grows : MD mX12_grows 3 := ⟨(TB8 (List.mem_of_getElem? (i := 103) rfl) rfl), (TB1 (List.mem_of_getElem? (i := 20) rfl) rfl), by decide +kernel, by decide +kernel⟩
abbrev mX12_isCalm : Md := (yX12_isCalm, cX12_isCalm, 1, (some .boolean))
theorem mdX12_isCalm : MD mX12_isCalm 1 := ⟨(TB8 (List.mem_of_getElem? (i := 87) rfl) rfl), (TB1 (List.mem_of_getElem? (i := 20) rfl) rfl), by decide +kernel, by decide +kernel⟩
abbrev mX12_fat : Md := (yX12_fat, cX12_fat, 3, (some .int))
theorem mdX12_fat : MD mX12_fat 2 := ⟨(TB8 (List.mem_of_getElem? (i := 84) rfl) rfl), (TB1 (List.mem_of_getElem? (i := 20) rfl) rfl), by decide +kernel, by decide +kernel⟩
abbrev mX12_leaves : Md := (yX12_leaves, cX12_leaves, 3, none)
theorem mdX12_leaves : MD mX12_leaves 2 := ⟨(TB8 (List.mem_of_getElem? (i := 111) rfl) rfl), (TB1 (List.mem_of_getElem? (i := 20) rfl) rfl), by decide +kernel, by decide +kernel⟩
abbrev mX12_off : Md := (yX12_off, cX12_off, 2, (some .boolean))
theorem mdX12_off : MD mX12_off 1 := ⟨(TB8 (List.mem_of_getElem? (i := 107) rfl) rfl), (TB1 (List.mem_of_getElem? (i := 20) rfl) rfl), by decide +kernel, by decide +kernel⟩
abbrev mX12_blow : Md := (yX12_blow, cX12_blow, 2, (some .boolean))
theorem mdX12_blow : MD mX12_blow 1 := ⟨(TB8 (List.mem_of_getElem? (i := 115) rfl) rfl), (TB1 (List.mem_of_getElem? (i := 20) rfl) rfl), by decide +kernel, by decide +kernel⟩
abbrev mX12_strike : Md := (yX12_strike, cX12_strike, 4, (some .int))
theorem mdX12_strike : MD mX12_strike 2 := ⟨(TB8 (List.mem_of_getElem? (i := 119) rfl) rfl), (TB1 (List.mem_of_getElem? (i := 20) rfl) rfl), by decide +kernel, by decide +kernel⟩
abbrev mX12_highOf : Md := (yX12_highOf, cX12_highOf, 4, (some .int))
theorem mdX12_highOf : MD mX12_highOf 1 := ⟨(TB8 (List.mem_of_getElem? (i := 134) rfl) rfl), (TB1 (List.mem_of_getElem? (i := 20) rfl) rfl), by decide +kernel, by decide +kernel⟩
abbrev mX12_highNow : Md := (yX12_highNow, cX12_highNow, 2, (some .int))
theorem mdX12_highNow : MD mX12_highNow 1 := ⟨(TB8 (List.mem_of_getElem? (i := 130) rfl) rfl), (TB1 (List.mem_of_getElem? (i := 20) rfl) rfl), by decide +kernel, by decide +kernel⟩
abbrev mX12_isLong : Md := (yX12_isLong, cX12_isLong, 2, (some .boolean))
theorem mdX12_isLong : MD mX12_isLong 2 := ⟨(TB8 (List.mem_of_getElem? (i := 126) rfl) rfl), (TB1 (List.mem_of_getElem? (i := 20) rfl) rfl), by decide +kernel, by decide +kernel⟩
abbrev mX12_high : Md := (yX12_high, cX12_high, 2, (some .int))
theorem mdX12_high : MD mX12_high 1 := ⟨(TB8 (List.mem_of_getElem? (i := 123) rfl) rfl), (TB1 (List.mem_of_getElem? (i := 20) rfl) rfl), by decide +kernel, by decide +kernel⟩
abbrev mX12_creaks : Md := (yX12_creaks, cX12_creaks, 3, (some .int))
theorem mdX12_creaks : MD mX12_creaks 1 := ⟨(TB8 (List.mem_of_getElem? (i := 138) rfl) rfl), (TB1 (List.mem_of_getElem? (i := 20) rfl) rfl), by decide +kernel, by decide +kernel⟩
abbrev mX12_layLies : Md := (yX12_layLies, cX12_layLies, 11, none)
theorem mdX12_layLies : MD mX12_layLies 3 := ⟨(TB8 (List.mem_of_getElem? (i := 146) rfl) rfl), (TB1 (List.mem_of_getElem? (i := 20) rfl) rfl), by decide +kernel, by decide +kernel⟩
abbrev mX12_lies : Md := (yX12_lies, cX12_lies, 5, (some .int))
theorem mdX12_lies : MD mX12_lies 4 := ⟨(TB8 (List.mem_of_getElem? (i := 142) rfl) rfl), (TB1 (List.mem_of_getElem? (i := 20) rfl) rfl), by decide +kernel, by decide +kernel⟩
abbrev mX12_fewest : Md := (yX12_fewest, cX12_fewest, 5, (some .int))
theorem mdX12_fewest : MD mX12_fewest 3 := ⟨(TB8 (List.mem_of_getElem? (i := 150) rfl) rfl), (TB1 (List.mem_of_getElem? (i := 20) rfl) rfl), by decide +kernel, by decide +kernel⟩
abbrev mX12_begins : Md := (yX12_begins, cX12_begins, 1, none)
theorem mdX12_begins : MD mX12_begins 0 := ⟨(TB8 (List.mem_of_getElem? (i := 158) rfl) rfl), (TB1 (List.mem_of_getElem? (i := 20) rfl) rfl), by decide +kernel, by decide +kernel⟩
abbrev mX12_forbidden : Md := (yX12_forbidden, cX12_forbidden, 8, (some .int))
theorem mdX12_forbidden : MD mX12_forbidden 3 := ⟨(TB8 (List.mem_of_getElem? (i := 154) rfl) rfl), (TB1 (List.mem_of_getElem? (i := 20) rfl) rfl), by decide +kernel, by decide +kernel⟩
abbrev mX12_beginsWith : Md := (yX12_beginsWith, cX12_beginsWith, 3, none)
theorem mdX12_beginsWith : MD mX12_beginsWith 1 := ⟨(TB8 (List.mem_of_getElem? (i := 170) rfl) rfl), (TB1 (List.mem_of_getElem? (i := 20) rfl) rfl), by decide +kernel, by decide +kernel⟩
abbrev mX12_highBy : Md := (yX12_highBy, cX12_highBy, 3, (some .int))
theorem mdX12_highBy : MD mX12_highBy 2 := ⟨(TB8 (List.mem_of_getElem? (i := 166) rfl) rfl), (TB1 (List.mem_of_getElem? (i := 20) rfl) rfl), by decide +kernel, by decide +kernel⟩
abbrev mX12_cancel : Md := (yX12_cancel, cX12_cancel, 4, (some .int))
theorem mdX12_cancel : MD mX12_cancel 3 := ⟨(TB8 (List.mem_of_getElem? (i := 162) rfl) rfl), (TB1 (List.mem_of_getElem? (i := 20) rfl) rfl), by decide +kernel, by decide +kernel⟩
abbrev mX12_owes : Md := (yX12_owes, cX12_owes, 4, (some .int))
theorem mdX12_owes : MD mX12_owes 2 := ⟨(TB8 (List.mem_of_getElem? (i := 174) rfl) rfl), (TB1 (List.mem_of_getElem? (i := 20) rfl) rfl), by decide +kernel, by decide +kernel⟩
abbrev mX12_layPump : Md := (yX12_layPump, cX12_layPump, 6, none)
theorem mdX12_layPump : MD mX12_layPump 3 := ⟨(TB8 (List.mem_of_getElem? (i := 185) rfl) rfl), (TB1 (List.mem_of_getElem? (i := 20) rfl) rfl), by decide +kernel, by decide +kernel⟩
abbrev mX12_isForce : Md := (yX12_isForce, cX12_isForce, 1, (some .boolean))
theorem mdX12_isForce : MD mX12_isForce 1 := ⟨(TB8 (List.mem_of_getElem? (i := 181) rfl) rfl), (TB1 (List.mem_of_getElem? (i := 20) rfl) rfl), by decide +kernel, by decide +kernel⟩
abbrev mX12_pump : Md := (yX12_pump, cX12_pump, 5, (some .int))
theorem mdX12_pump : MD mX12_pump 4 := ⟨(TB8 (List.mem_of_getElem? (i := 178) rfl) rfl), (TB1 (List.mem_of_getElem? (i := 20) rfl) rfl), by decide +kernel, by decide +kernel⟩
abbrev mX12_keeper : Md := (yX12_keeper, cX12_keeper, 9, (some .int))
theorem mdX12_keeper : MD mX12_keeper 5 := ⟨(TB8 (List.mem_of_getElem? (i := 189) rfl) rfl), (TB1 (List.mem_of_getElem? (i := 20) rfl) rfl), by decide +kernel, by decide +kernel⟩
abbrev mX12_groan : Md := (yX12_groan, cX12_groan, 5, (some .int))
theorem mdX12_groan : MD mX12_groan 4 := ⟨(TB8 (List.mem_of_getElem? (i := 193) rfl) rfl), (TB1 (List.mem_of_getElem? (i := 20) rfl) rfl), by decide +kernel, by decide +kernel⟩
abbrev mX12_unsay : Md := (yX12_unsay, cX12_unsay, 2, (some .int))
theorem mdX12_unsay : MD mX12_unsay 1 := ⟨(TB8 (List.mem_of_getElem? (i := 197) rfl) rfl), (TB1 (List.mem_of_getElem? (i := 20) rfl) rfl), by decide +kernel, by decide +kernel⟩
abbrev mX12_known : Md := (yX12_known, cX12_known, 2, (some .boolean))
theorem mdX12_known : MD mX12_known 1 := ⟨(TB8 (List.mem_of_getElem? (i := 201) rfl) rfl), (TB1 (List.mem_of_getElem? (i := 20) rfl) rfl), by decide +kernel, by decide +kernel⟩
abbrev mX12_knownMany : Md := (yX12_knownMany, cX12_knownMany, 1, (some .int))
theorem mdX12_knownMany : MD mX12_knownMany 0 := ⟨(TB8 (List.mem_of_getElem? (i := 217) rfl) rfl), (TB1 (List.mem_of_getElem? (i := 20) rfl) rfl), by decide +kernel, by decide +kernel⟩
abbrev mX12_layStruck : Md := (yX12_layStruck, cX12_layStruck, 2, none)
theorem mdX12_layStruck : MD mX12_layStruck 0 := ⟨(TB8 (List.mem_of_getElem? (i := 213) rfl) rfl), (TB1 (List.mem_of_getElem? (i := 20) rfl) rfl), by decide +kernel, by decide +kernel⟩
abbrev mX12_isGroan : Md := (yX12_isGroan, cX12_isGroan, 2, (some .boolean))
theorem mdX12_isGroan : MD mX12_isGroan 1 := ⟨(TB8 (List.mem_of_getElem? (i := 229) rfl) rfl), (TB1 (List.mem_of_getElem? (i := 20) rfl) rfl), by decide +kernel, by decide +kernel⟩
abbrev mX12_areSo : Md := (yX12_areSo, cX12_areSo, 4, (some .boolean))
theorem mdX12_areSo : MD mX12_areSo 0 := ⟨(TB8 (List.mem_of_getElem? (i := 225) rfl) rfl), (TB1 (List.mem_of_getElem? (i := 20) rfl) rfl), by decide +kernel, by decide +kernel⟩
abbrev mX12_isSet : Md := (yX12_isSet, cX12_isSet, 2, (some .boolean))
theorem mdX12_isSet : MD mX12_isSet 1 := ⟨(TB8 (List.mem_of_getElem? (i := 221) rfl) rfl), (TB1 (List.mem_of_getElem? (i := 20) rfl) rfl), by decide +kernel, by decide +kernel⟩
abbrev mX12_setOf : Md := (yX12_setOf, cX12_setOf, 4, (some .int))
theorem mdX12_setOf : MD mX12_setOf 1 := ⟨(TB8 (List.mem_of_getElem? (i := 209) rfl) rfl), (TB1 (List.mem_of_getElem? (i := 20) rfl) rfl), by decide +kernel, by decide +kernel⟩
abbrev mX12_began : Md := (yX12_began, cX12_began, 1, (some .int))
theorem mdX12_began : MD mX12_began 0 := ⟨(TB8 (List.mem_of_getElem? (i := 205) rfl) rfl), (TB1 (List.mem_of_getElem? (i := 20) rfl) rfl), by decide +kernel, by decide +kernel⟩
abbrev mX12_set : Md := (yX12_set, cX12_set, 2, (some .int))
theorem mdX12_set : MD mX12_set 1 := ⟨(TB8 (List.mem_of_getElem? (i := 233) rfl) rfl), (TB1 (List.mem_of_getElem? (i := 20) rfl) rfl), by decide +kernel, by decide +kernel⟩
abbrev mX12_sure : Md := (yX12_sure, cX12_sure, 4, (some .int))
theorem mdX12_sure : MD mX12_sure 1 := ⟨(TB8 (List.mem_of_getElem? (i := 237) rfl) rfl), (TB1 (List.mem_of_getElem? (i := 20) rfl) rfl), by decide +kernel, by decide +kernel⟩
abbrev mX12_fits : Md := (yX12_fits, cX12_fits, 3, (some .int))
theorem mdX12_fits : MD mX12_fits 0 := ⟨(TB9 (List.mem_of_getElem? (i := 1) rfl) rfl), (TB1 (List.mem_of_getElem? (i := 20) rfl) rfl), by decide +kernel, by decide +kernel⟩
abbrev mX12_gales : Md := (yX12_gales, cX12_gales, 9, (some .int))
theorem mdX12_gales : MD mX12_gales 3 := ⟨(TB9 (List.mem_of_getElem? (i := 5) rfl) rfl), (TB1 (List.mem_of_getElem? (i := 20) rfl) rfl), by decide +kernel, by decide +kernel⟩
abbrev mX12_tried : Md := (yX12_tried, cX12_tried, 6, (some .int))
theorem mdX12_tried : MD mX12_tried 3 := ⟨(TB9 (List.mem_of_getElem? (i := 9) rfl) rfl), (TB1 (List.mem_of_getElem? (i := 20) rfl) rfl), by decide +kernel, by decide +kernel⟩
abbrev mX12_undo : Md := (yX12_undo, cX12_undo, 1, (some .int))
theorem mdX12_undo : MD mX12_undo 0 := ⟨(TB9 (List.mem_of_getElem? (i := 13) rfl) rfl), (TB1 (List.mem_of_getElem? (i := 20) rfl) rfl), by decide +kernel, by decide +kernel⟩
abbrev mX12_keep : Md := (yX12_keep, cX12_keep, 1, (some .int))
theorem mdX12_keep : MD mX12_keep 0 := ⟨(TB9 (List.mem_of_getElem? (i := 17) rfl) rfl), (TB1 (List.mem_of_getElem? (i := 20) rfl) rfl), by decide +kernel, by decide +kernel⟩
abbrev mX12_back : Md := (yX12_back, cX12_back, 1, (some .int))
theorem mdX12_back : MD mX12_back 0 := ⟨(TB9 (List.mem_of_getElem? (i := 25) rfl) rfl), (TB1 (List.mem_of_getElem? (i := 20) rfl) rfl), by decide +kernel, by decide +kernel⟩
abbrev mX12_count : Md := (yX12_count, cX12_count, 4, (some .int))
theorem mdX12_count : MD mX12_count 1 := ⟨(TB9 (List.mem_of_getElem? (i := 29) rfl) rfl), (TB1 (List.mem_of_getElem? (i := 20) rfl) rfl), by decide +kernel, by decide +kernel⟩
abbrev mJ6_bitCount_0f7a4 : Md := (yJ6_bitCount_0f7a4, cJ6_bitCount_0f7a4, 1, (some .int))
theorem mdJ6_bitCount_0f7a4 : MD mJ6_bitCount_0f7a4 1 := ⟨(TB4 (List.mem_of_getElem? (i := 143) rfl) rfl), (TB1 (List.mem_of_getElem? (i := 27) rfl) rfl), by decide +kernel, by decide +kernel⟩
abbrev mJ13_bitCount_95d88 : Md := (yJ13_bitCount_95d88, cJ13_bitCount_95d88, 2, (some .int))
theorem mdJ13_bitCount_95d88 : MD mJ13_bitCount_95d88 1 := ⟨(TB5 (List.mem_of_getElem? (i := 173) rfl) rfl), (TB1 (List.mem_of_getElem? (i := 26) rfl) rfl), by decide +kernel, by decide +kernel⟩
abbrev mJ9_floorMod_7cf53 : Md := (yJ9_floorMod_7cf53, cJ9_floorMod_7cf53, 3, (some .int))
abbrev mJ9_abs_0f7a4 : Md := (yJ9_abs_0f7a4, cJ9_abs_0f7a4, 1, (some .int))
abbrev mJ9_abs_067f4 : Md := (yJ9_abs_067f4, cJ9_abs_067f4, 2, (some .long))
abbrev mJ9_max_7cf53 : Md := (yJ9_max_7cf53, cJ9_max_7cf53, 2, (some .int))
abbrev mJ9_max_f86c9 : Md := (yJ9_max_f86c9, cJ9_max_f86c9, 4, (some .long))
abbrev mJ9_min_7cf53 : Md := (yJ9_min_7cf53, cJ9_min_7cf53, 2, (some .int))
abbrev mJ9_min_f86c9 : Md := (yJ9_min_f86c9, cJ9_min_f86c9, 4, (some .long))
abbrev mJ0_length_8abf5 : Md := (yJ0_length_8abf5, cJ0_length_8abf5, 1, (some .int))
theorem mdJ0_length_8abf5 : MD mJ0_length_8abf5 0 := ⟨(TB1 (List.mem_of_getElem? (i := 52) rfl) rfl), (TB1 (List.mem_of_getElem? (i := 4) rfl) rfl), by decide +kernel, by decide +kernel⟩
abbrev mJ0_charAt_5068e : Md := (yJ0_charAt_5068e, cJ0_charAt_5068e, 2, (some .char))
theorem mdJ0_charAt_5068e : MD mJ0_charAt_5068e 1 := ⟨(TB1 (List.mem_of_getElem? (i := 62) rfl) rfl), (TB1 (List.mem_of_getElem? (i := 4) rfl) rfl), by decide +kernel, by decide +kernel⟩
abbrev mJ0_coder_7d493 : Md := (yJ0_coder_7d493, cJ0_coder_7d493, 1, (some .byte))
theorem mdJ0_coder_7d493 : MD mJ0_coder_7d493 0 := ⟨(TB1 (List.mem_of_getElem? (i := 56) rfl) rfl), (TB1 (List.mem_of_getElem? (i := 4) rfl) rfl), by decide +kernel, by decide +kernel⟩
abbrev mJ0_isLatin1_aae02 : Md := (yJ0_isLatin1_aae02, cJ0_isLatin1_aae02, 1, (some .boolean))
theorem mdJ0_isLatin1_aae02 : MD mJ0_isLatin1_aae02 0 := ⟨(TB1 (List.mem_of_getElem? (i := 66) rfl) rfl), (TB1 (List.mem_of_getElem? (i := 4) rfl) rfl), by decide +kernel, by decide +kernel⟩
abbrev mJ0_checkIndex_df160 : Md := (yJ0_checkIndex_df160, cJ0_checkIndex_df160, 2, none)
theorem mdJ0_checkIndex_df160 : MD mJ0_checkIndex_df160 2 := ⟨(TB1 (List.mem_of_getElem? (i := 72) rfl) rfl), (TB1 (List.mem_of_getElem? (i := 4) rfl) rfl), by decide +kernel, by decide +kernel⟩
abbrev mJ1_charAt_3b067 : Md := (yJ1_charAt_3b067, cJ1_charAt_3b067, 2, (some .char))
theorem mdJ1_charAt_3b067 : MD mJ1_charAt_3b067 2 := ⟨(TB1 (List.mem_of_getElem? (i := 69) rfl) rfl), (TB1 (List.mem_of_getElem? (i := 5) rfl) rfl), by decide +kernel, by decide +kernel⟩
abbrev mJ2_getChar_3b067 : Md := (yJ2_getChar_3b067, cJ2_getChar_3b067, 2, (some .char))
theorem mdJ2_getChar_3b067 : MD mJ2_getChar_3b067 2 := ⟨(TB1 (List.mem_of_getElem? (i := 90) rfl) rfl), (TB1 (List.mem_of_getElem? (i := 7) rfl) rfl), by decide +kernel, by decide +kernel⟩
abbrev mJ2_length_9d52b : Md := (yJ2_length_9d52b, cJ2_length_9d52b, 1, (some .int))
theorem mdJ2_length_9d52b : MD mJ2_length_9d52b 1 := ⟨(TB1 (List.mem_of_getElem? (i := 86) rfl) rfl), (TB1 (List.mem_of_getElem? (i := 7) rfl) rfl), by decide +kernel, by decide +kernel⟩
abbrev mJ2_charAt_3b067 : Md := (yJ2_charAt_3b067, cJ2_charAt_3b067, 2, (some .char))
theorem mdJ2_charAt_3b067 : MD mJ2_charAt_3b067 2 := ⟨(TB1 (List.mem_of_getElem? (i := 80) rfl) rfl), (TB1 (List.mem_of_getElem? (i := 7) rfl) rfl), by decide +kernel, by decide +kernel⟩
abbrev mJ2_checkIndex_2214a : Md := (yJ2_checkIndex_2214a, cJ2_checkIndex_2214a, 2, none)
theorem mdJ2_checkIndex_2214a : MD mJ2_checkIndex_2214a 2 := ⟨(TB1 (List.mem_of_getElem? (i := 83) rfl) rfl), (TB1 (List.mem_of_getElem? (i := 7) rfl) rfl), by decide +kernel, by decide +kernel⟩
abbrev mJ7_fill_53178 : Md := (yJ7_fill_53178, cJ7_fill_53178, 4, none)
theorem mdJ7_fill_53178 : MD mJ7_fill_53178 2 := ⟨(TB2 (List.mem_of_getElem? (i := 38) rfl) rfl), (TB1 (List.mem_of_getElem? (i := 13) rfl) rfl), by decide +kernel, by decide +kernel⟩
abbrev mJ3_checkIndex_8e157 : Md := (yJ3_checkIndex_8e157, cJ3_checkIndex_8e157, 3, (some .int))
theorem mdJ3_checkIndex_8e157 : MD mJ3_checkIndex_8e157 3 := ⟨(TB1 (List.mem_of_getElem? (i := 77) rfl) rfl), (TB1 (List.mem_of_getElem? (i := 6) rfl) rfl), by decide +kernel, by decide +kernel⟩
-- calls
theorem vL_17 : IL RL 17 mX11_init 0 := ⟨(TB1 (List.mem_of_getElem? (i := 30) rfl) rfl), (TB1 (List.mem_of_getElem? (i := 31) rfl) rfl), rfl, mdX11_init⟩
theorem vX11_17 : IL RX11 17 mX6_init 1 := ⟨(TB1 (List.mem_of_getElem? (i := 38) rfl) rfl), (TB1 (List.mem_of_getElem? (i := 39) rfl) rfl), rfl, mdX6_init⟩
theorem vX6_17 : IL RX6 17 mX8_init 1 := ⟨(TB1 (List.mem_of_getElem? (i := 44) rfl) rfl), (TB1 (List.mem_of_getElem? (i := 45) rfl) rfl), rfl, mdX8_init⟩
theorem vX8_21 : VL RX8 21 mJ0_length_8abf5 0 := ⟨(TB1 (List.mem_of_getElem? (i := 49) rfl) rfl), (TB1 (List.mem_of_getElem? (i := 50) rfl) rfl), (TB1 (List.mem_of_getElem? (i := 51) rfl) rfl), mdJ0_length_8abf5⟩
theorem vJ0_335 : VL RJ0 335 mJ0_coder_7d493 0 := ⟨(TB1 (List.mem_of_getElem? (i := 53) rfl) rfl), (TB1 (List.mem_of_getElem? (i := 54) rfl) rfl), (TB1 (List.mem_of_getElem? (i := 55) rfl) rfl), mdJ0_coder_7d493⟩
theorem vX8_27 : VL RX8 27 mJ0_charAt_5068e 1 := ⟨(TB1 (List.mem_of_getElem? (i := 59) rfl) rfl), (TB1 (List.mem_of_getElem? (i := 60) rfl) rfl), (TB1 (List.mem_of_getElem? (i := 61) rfl) rfl), mdJ0_charAt_5068e⟩
theorem vJ0_492 : VL RJ0 492 mJ0_isLatin1_aae02 0 := ⟨(TB1 (List.mem_of_getElem? (i := 63) rfl) rfl), (TB1 (List.mem_of_getElem? (i := 64) rfl) rfl), (TB1 (List.mem_of_getElem? (i := 65) rfl) rfl), mdJ0_isLatin1_aae02⟩
theorem vJ0_495 : SL RJ0 495 mJ1_charAt_3b067 2 := ⟨(TB1 (List.mem_of_getElem? (i := 67) rfl) rfl), (TB1 (List.mem_of_getElem? (i := 68) rfl) rfl), mdJ1_charAt_3b067⟩
theorem vJ1_9 : SL RJ1 9 mJ0_checkIndex_df160 2 := ⟨(TB1 (List.mem_of_getElem? (i := 70) rfl) rfl), (TB1 (List.mem_of_getElem? (i := 71) rfl) rfl), mdJ0_checkIndex_df160⟩
theorem vJ0_1059 : SL RJ0 1059 mJ3_checkIndex_8e157 3 := ⟨(TB1 (List.mem_of_getElem? (i := 75) rfl) rfl), (TB1 (List.mem_of_getElem? (i := 76) rfl) rfl), mdJ3_checkIndex_8e157⟩
theorem vJ0_498 : SL RJ0 498 mJ2_charAt_3b067 2 := ⟨(TB1 (List.mem_of_getElem? (i := 78) rfl) rfl), (TB1 (List.mem_of_getElem? (i := 79) rfl) rfl), mdJ2_charAt_3b067⟩
theorem vJ2_67 : SL RJ2 67 mJ2_checkIndex_2214a 2 := ⟨(TB1 (List.mem_of_getElem? (i := 81) rfl) rfl), (TB1 (List.mem_of_getElem? (i := 82) rfl) rfl), mdJ2_checkIndex_2214a⟩
theorem vJ2_48 : SL RJ2 48 mJ2_length_9d52b 1 := ⟨(TB1 (List.mem_of_getElem? (i := 84) rfl) rfl), (TB1 (List.mem_of_getElem? (i := 85) rfl) rfl), mdJ2_length_9d52b⟩
theorem vJ2_414 : SL RJ2 414 mJ0_checkIndex_df160 2 := ⟨(TB1 (List.mem_of_getElem? (i := 87) rfl) rfl), (TB1 (List.mem_of_getElem? (i := 71) rfl) rfl), mdJ0_checkIndex_df160⟩
theorem vJ2_71 : SL RJ2 71 mJ2_getChar_3b067 2 := ⟨(TB1 (List.mem_of_getElem? (i := 88) rfl) rfl), (TB1 (List.mem_of_getElem? (i := 89) rfl) rfl), mdJ2_getChar_3b067⟩
theorem vX8_31 : SL RX8 31 mX8_letterBits 2 := ⟨(TB1 (List.mem_of_getElem? (i := 97) rfl) rfl), (TB1 (List.mem_of_getElem? (i := 98) rfl) rfl), mdX8_letterBits⟩
theorem vX6_26 : IL RX6 26 mX3_init 1 := ⟨(TB1 (List.mem_of_getElem? (i := 135) rfl) rfl), (TB1 (List.mem_of_getElem? (i := 136) rfl) rfl), rfl, mdX3_init⟩
theorem vX11_26 : IL RX11 26 mX7_init 0 := ⟨(TB1 (List.mem_of_getElem? (i := 193) rfl) rfl), (TB1 (List.mem_of_getElem? (i := 194) rfl) rfl), rfl, mdX7_init⟩
theorem vX7_54 : VL RX7 54 mX7_clear 0 := ⟨(TB2 (List.mem_of_getElem? (i := 32) rfl) rfl), (TB2 (List.mem_of_getElem? (i := 33) rfl) rfl), (TB2 (List.mem_of_getElem? (i := 34) rfl) rfl), mdX7_clear⟩
theorem vX7_85 : SL RX7 85 mJ7_fill_53178 2 := ⟨(TB2 (List.mem_of_getElem? (i := 36) rfl) rfl), (TB2 (List.mem_of_getElem? (i := 37) rfl) rfl), mdJ7_fill_53178⟩
theorem vX11_36 : IL RX11 36 mX9_init 1 := ⟨(TB2 (List.mem_of_getElem? (i := 129) rfl) rfl), (TB2 (List.mem_of_getElem? (i := 130) rfl) rfl), rfl, mdX9_init⟩
theorem vX9_44 : VL RX9 44 mX9_begin 1 := ⟨(TB2 (List.mem_of_getElem? (i := 156) rfl) rfl), (TB2 (List.mem_of_getElem? (i := 157) rfl) rfl), (TB2 (List.mem_of_getElem? (i := 158) rfl) rfl), mdX9_begin⟩
theorem vX9_87 : VL RX9 87 mX2_copy 1 := ⟨(TB2 (List.mem_of_getElem? (i := 160) rfl) rfl), (TB2 (List.mem_of_getElem? (i := 161) rfl) rfl), (TB2 (List.mem_of_getElem? (i := 162) rfl) rfl), mdX2_copy⟩
theorem vX9_91 : VL RX9 91 mX9_refreshCalm 0 := ⟨(TB2 (List.mem_of_getElem? (i := 167) rfl) rfl), (TB2 (List.mem_of_getElem? (i := 169) rfl) rfl), (TBp (List.mem_of_getElem? (i := 0) rfl) rfl), mdX9_refreshCalm⟩
theorem vX9_101 : SL RX9 101 mJ7_fill_53178 2 := ⟨(TB2 (List.mem_of_getElem? (i := 171) rfl) rfl), (TB2 (List.mem_of_getElem? (i := 37) rfl) rfl), mdJ7_fill_53178⟩
theorem vX9_94 : VL RX9 94 mX9_rest 0 := ⟨(TB2 (List.mem_of_getElem? (i := 175) rfl) rfl), (TB2 (List.mem_of_getElem? (i := 176) rfl) rfl), (TB2 (List.mem_of_getElem? (i := 177) rfl) rfl), mdX9_rest⟩
theorem vX9_97 : VL RX9 97 mX10_rest 0 := ⟨(TB2 (List.mem_of_getElem? (i := 179) rfl) rfl), (TB2 (List.mem_of_getElem? (i := 180) rfl) rfl), (TB2 (List.mem_of_getElem? (i := 181) rfl) rfl), mdX10_rest⟩
theorem vX10_21 : SL RX10 21 mJ7_fill_53178 2 := ⟨(TB2 (List.mem_of_getElem? (i := 183) rfl) rfl), (TB2 (List.mem_of_getElem? (i := 37) rfl) rfl), mdJ7_fill_53178⟩
theorem vL_21 : VL RL 21 mX11_feed 5 := ⟨(TB3 (List.mem_of_getElem? (i := 129) rfl) rfl), (TB3 (List.mem_of_getElem? (i := 130) rfl) rfl), (TB3 (List.mem_of_getElem? (i := 131) rfl) rfl), mdX11_feed⟩
theorem vX11_94 : VL RX11 94 mX11_append 1 := ⟨(TB3 (List.mem_of_getElem? (i := 133) rfl) rfl), (TB3 (List.mem_of_getElem? (i := 135) rfl) rfl), (TBp (List.mem_of_getElem? (i := 1) rfl) rfl), mdX11_append⟩
theorem vL_26 : VL RL 26 mX11_text 1 := ⟨(TB3 (List.mem_of_getElem? (i := 137) rfl) rfl), (TB3 (List.mem_of_getElem? (i := 138) rfl) rfl), (TB3 (List.mem_of_getElem? (i := 139) rfl) rfl), mdX11_text⟩
theorem vX11_98 : VL RX11 98 mX6_read 2 := ⟨(TB3 (List.mem_of_getElem? (i := 141) rfl) rfl), (TB3 (List.mem_of_getElem? (i := 142) rfl) rfl), (TB3 (List.mem_of_getElem? (i := 143) rfl) rfl), mdX6_read⟩
theorem vX6_37 : VL RX6 37 mX7_clear 0 := ⟨(TB3 (List.mem_of_getElem? (i := 145) rfl) rfl), (TB2 (List.mem_of_getElem? (i := 33) rfl) rfl), (TB2 (List.mem_of_getElem? (i := 34) rfl) rfl), mdX7_clear⟩
theorem vX6_52 : VL RX6 52 mX8_start 1 := ⟨(TB3 (List.mem_of_getElem? (i := 146) rfl) rfl), (TB3 (List.mem_of_getElem? (i := 147) rfl) rfl), (TB3 (List.mem_of_getElem? (i := 148) rfl) rfl), mdX8_start⟩
theorem vX8_46 : VL RX8 46 mX8_advance 0 := ⟨(TB3 (List.mem_of_getElem? (i := 151) rfl) rfl), (TB3 (List.mem_of_getElem? (i := 152) rfl) rfl), (TB3 (List.mem_of_getElem? (i := 153) rfl) rfl), mdX8_advance⟩
theorem vX8_52 : VL RX8 52 mX8_signAt 1 := ⟨(TB3 (List.mem_of_getElem? (i := 155) rfl) rfl), (TB3 (List.mem_of_getElem? (i := 157) rfl) rfl), (TBp (List.mem_of_getElem? (i := 2) rfl) rfl), mdX8_signAt⟩
theorem vX8_59 : SL RX8 59 mX8_isLetter 1 := ⟨(TB3 (List.mem_of_getElem? (i := 159) rfl) rfl), (TB3 (List.mem_of_getElem? (i := 160) rfl) rfl), mdX8_isLetter⟩
theorem vX8_63 : VL RX8 63 mX8_readWord 0 := ⟨(TB3 (List.mem_of_getElem? (i := 162) rfl) rfl), (TB3 (List.mem_of_getElem? (i := 164) rfl) rfl), (TBp (List.mem_of_getElem? (i := 3) rfl) rfl), mdX8_readWord⟩
theorem vX8_79 : VL RX8 79 mX8_wordKind 0 := ⟨(TB3 (List.mem_of_getElem? (i := 166) rfl) rfl), (TB3 (List.mem_of_getElem? (i := 168) rfl) rfl), (TBp (List.mem_of_getElem? (i := 4) rfl) rfl), mdX8_wordKind⟩
theorem vX8_66 : SL RX8 66 mX8_isDigit 1 := ⟨(TB3 (List.mem_of_getElem? (i := 170) rfl) rfl), (TB3 (List.mem_of_getElem? (i := 171) rfl) rfl), mdX8_isDigit⟩
theorem vX8_69 : VL RX8 69 mX8_readNumber 0 := ⟨(TB3 (List.mem_of_getElem? (i := 173) rfl) rfl), (TB3 (List.mem_of_getElem? (i := 175) rfl) rfl), (TBp (List.mem_of_getElem? (i := 5) rfl) rfl), mdX8_readNumber⟩
theorem vX8_72 : VL RX8 72 mX8_readSign 1 := ⟨(TB3 (List.mem_of_getElem? (i := 178) rfl) rfl), (TB3 (List.mem_of_getElem? (i := 180) rfl) rfl), (TBp (List.mem_of_getElem? (i := 6) rfl) rfl), mdX8_readSign⟩
theorem vX8_86 : SL RX8 86 mX8_singleSign 1 := ⟨(TB3 (List.mem_of_getElem? (i := 182) rfl) rfl), (TB3 (List.mem_of_getElem? (i := 183) rfl) rfl), mdX8_singleSign⟩
theorem vX6_59 : VL RX6 59 mX6_readLine 0 := ⟨(TB3 (List.mem_of_getElem? (i := 185) rfl) rfl), (TB3 (List.mem_of_getElem? (i := 187) rfl) rfl), (TBp (List.mem_of_getElem? (i := 7) rfl) rfl), mdX6_readLine⟩
theorem vX6_67 : VL RX6 67 mX6_readBridge 0 := ⟨(TB3 (List.mem_of_getElem? (i := 189) rfl) rfl), (TB3 (List.mem_of_getElem? (i := 191) rfl) rfl), (TBp (List.mem_of_getElem? (i := 8) rfl) rfl), mdX6_readBridge⟩
theorem vX6_92 : VL RX6 92 mX6_takeOnce 0 := ⟨(TB3 (List.mem_of_getElem? (i := 193) rfl) rfl), (TB3 (List.mem_of_getElem? (i := 195) rfl) rfl), (TBp (List.mem_of_getElem? (i := 9) rfl) rfl), mdX6_takeOnce⟩
theorem vX6_89 : VL RX6 89 mX6_fail 1 := ⟨(TB3 (List.mem_of_getElem? (i := 197) rfl) rfl), (TB3 (List.mem_of_getElem? (i := 199) rfl) rfl), (TBp (List.mem_of_getElem? (i := 10) rfl) rfl), mdX6_fail⟩
theorem vX6_138 : VL RX6 138 mX6_failAt 2 := ⟨(TB3 (List.mem_of_getElem? (i := 201) rfl) rfl), (TB3 (List.mem_of_getElem? (i := 203) rfl) rfl), (TBp (List.mem_of_getElem? (i := 11) rfl) rfl), mdX6_failAt⟩
theorem vX6_115 : VL RX6 115 mX8_advance 0 := ⟨(TB3 (List.mem_of_getElem? (i := 205) rfl) rfl), (TB3 (List.mem_of_getElem? (i := 152) rfl) rfl), (TB3 (List.mem_of_getElem? (i := 153) rfl) rfl), mdX8_advance⟩
theorem vX6_95 : VL RX6 95 mX6_takeNumber 2 := ⟨(TB3 (List.mem_of_getElem? (i := 206) rfl) rfl), (TB3 (List.mem_of_getElem? (i := 208) rfl) rfl), (TBp (List.mem_of_getElem? (i := 12) rfl) rfl), mdX6_takeNumber⟩
theorem vX6_70 : VL RX6 70 mX6_readSetting 1 := ⟨(TB3 (List.mem_of_getElem? (i := 210) rfl) rfl), (TB3 (List.mem_of_getElem? (i := 212) rfl) rfl), (TBp (List.mem_of_getElem? (i := 13) rfl) rfl), mdX6_readSetting⟩
theorem vX6_108 : VL RX6 108 mX7_setNumber 2 := ⟨(TB3 (List.mem_of_getElem? (i := 214) rfl) rfl), (TB3 (List.mem_of_getElem? (i := 215) rfl) rfl), (TB3 (List.mem_of_getElem? (i := 216) rfl) rfl), mdX7_setNumber⟩
theorem vX6_74 : VL RX6 74 mX6_readWalker 0 := ⟨(TB3 (List.mem_of_getElem? (i := 219) rfl) rfl), (TB3 (List.mem_of_getElem? (i := 221) rfl) rfl), (TBp (List.mem_of_getElem? (i := 14) rfl) rfl), mdX6_readWalker⟩
theorem vX6_112 : VL RX6 112 mX6_takeNamed 1 := ⟨(TB3 (List.mem_of_getElem? (i := 223) rfl) rfl), (TB3 (List.mem_of_getElem? (i := 225) rfl) rfl), (TBp (List.mem_of_getElem? (i := 15) rfl) rfl), mdX6_takeNamed⟩
theorem vX6_174 : VL RX6 174 mX7_find 2 := ⟨(TB3 (List.mem_of_getElem? (i := 229) rfl) rfl), (TB3 (List.mem_of_getElem? (i := 230) rfl) rfl), (TB3 (List.mem_of_getElem? (i := 231) rfl) rfl), mdX7_find⟩
theorem vX6_177 : VL RX6 177 mX7_addName 2 := ⟨(TB3 (List.mem_of_getElem? (i := 233) rfl) rfl), (TB3 (List.mem_of_getElem? (i := 234) rfl) rfl), (TB3 (List.mem_of_getElem? (i := 235) rfl) rfl), mdX7_addName⟩
theorem vX6_122 : VL RX6 122 mX0_add 5 := ⟨(TB3 (List.mem_of_getElem? (i := 238) rfl) rfl), (TB3 (List.mem_of_getElem? (i := 239) rfl) rfl), (TB4 (List.mem_of_getElem? (i := 0) rfl) rfl), mdX0_add⟩
theorem vX6_63 : VL RX6 63 mX6_take 1 := ⟨(TB4 (List.mem_of_getElem? (i := 2) rfl) rfl), (TB4 (List.mem_of_getElem? (i := 4) rfl) rfl), (TBp (List.mem_of_getElem? (i := 16) rfl) rfl), mdX6_take⟩
theorem vX6_77 : VL RX6 77 mX6_readFat 0 := ⟨(TB4 (List.mem_of_getElem? (i := 6) rfl) rfl), (TB4 (List.mem_of_getElem? (i := 8) rfl) rfl), (TBp (List.mem_of_getElem? (i := 17) rfl) rfl), mdX6_readFat⟩
theorem vX6_133 : VL RX6 133 mX2_standsAt 1 := ⟨(TB4 (List.mem_of_getElem? (i := 10) rfl) rfl), (TB4 (List.mem_of_getElem? (i := 11) rfl) rfl), (TB4 (List.mem_of_getElem? (i := 12) rfl) rfl), mdX2_standsAt⟩
theorem vX6_142 : VL RX6 142 mX2_add 2 := ⟨(TB4 (List.mem_of_getElem? (i := 14) rfl) rfl), (TB4 (List.mem_of_getElem? (i := 15) rfl) rfl), (TB4 (List.mem_of_getElem? (i := 16) rfl) rfl), mdX2_add⟩
theorem vX6_80 : VL RX6 80 mX6_readSleeper 0 := ⟨(TB4 (List.mem_of_getElem? (i := 18) rfl) rfl), (TB4 (List.mem_of_getElem? (i := 20) rfl) rfl), (TBp (List.mem_of_getElem? (i := 18) rfl) rfl), mdX6_readSleeper⟩
theorem vX6_83 : VL RX6 83 mX6_readMay 0 := ⟨(TB4 (List.mem_of_getElem? (i := 22) rfl) rfl), (TB4 (List.mem_of_getElem? (i := 24) rfl) rfl), (TBp (List.mem_of_getElem? (i := 19) rfl) rfl), mdX6_readMay⟩
theorem vX6_157 : VL RX6 157 mX3_read 2 := ⟨(TB4 (List.mem_of_getElem? (i := 26) rfl) rfl), (TB4 (List.mem_of_getElem? (i := 27) rfl) rfl), (TB4 (List.mem_of_getElem? (i := 28) rfl) rfl), mdX3_read⟩
theorem vX3_54 : VL RX3 54 mX3_putDown 1 := ⟨(TB4 (List.mem_of_getElem? (i := 30) rfl) rfl), (TB4 (List.mem_of_getElem? (i := 32) rfl) rfl), (TBp (List.mem_of_getElem? (i := 20) rfl) rfl), mdX3_putDown⟩
theorem vX3_92 : SL RX3 92 mX3_bindingOf 1 := ⟨(TB4 (List.mem_of_getElem? (i := 34) rfl) rfl), (TB4 (List.mem_of_getElem? (i := 35) rfl) rfl), mdX3_bindingOf⟩
theorem vX3_83 : VL RX3 83 mX5_addKnot 1 := ⟨(TB4 (List.mem_of_getElem? (i := 37) rfl) rfl), (TB4 (List.mem_of_getElem? (i := 38) rfl) rfl), (TB4 (List.mem_of_getElem? (i := 39) rfl) rfl), mdX5_addKnot⟩
theorem vX3_58 : VL RX3 58 mX3_readOperand 1 := ⟨(TB4 (List.mem_of_getElem? (i := 41) rfl) rfl), (TB4 (List.mem_of_getElem? (i := 43) rfl) rfl), (TBp (List.mem_of_getElem? (i := 21) rfl) rfl), mdX3_readOperand⟩
theorem vX3_68 : VL RX3 68 mX3_readOpen 0 := ⟨(TB4 (List.mem_of_getElem? (i := 45) rfl) rfl), (TB4 (List.mem_of_getElem? (i := 47) rfl) rfl), (TBp (List.mem_of_getElem? (i := 22) rfl) rfl), mdX3_readOpen⟩
theorem vX3_80 : VL RX3 80 mX3_await 1 := ⟨(TB4 (List.mem_of_getElem? (i := 49) rfl) rfl), (TB4 (List.mem_of_getElem? (i := 51) rfl) rfl), (TBp (List.mem_of_getElem? (i := 23) rfl) rfl), mdX3_await⟩
theorem vX3_62 : VL RX3 62 mX3_readSign 1 := ⟨(TB4 (List.mem_of_getElem? (i := 53) rfl) rfl), (TB4 (List.mem_of_getElem? (i := 55) rfl) rfl), (TBp (List.mem_of_getElem? (i := 24) rfl) rfl), mdX3_readSign⟩
theorem vX3_65 : VL RX3 65 mX8_advance 0 := ⟨(TB4 (List.mem_of_getElem? (i := 60) rfl) rfl), (TB3 (List.mem_of_getElem? (i := 152) rfl) rfl), (TB3 (List.mem_of_getElem? (i := 153) rfl) rfl), mdX8_advance⟩
theorem vX6_86 : VL RX6 86 mX6_readLaw 0 := ⟨(TB4 (List.mem_of_getElem? (i := 61) rfl) rfl), (TB4 (List.mem_of_getElem? (i := 63) rfl) rfl), (TBp (List.mem_of_getElem? (i := 25) rfl) rfl), mdX6_readLaw⟩
theorem vX11_102 : VL RX11 102 mX11_begin 0 := ⟨(TB4 (List.mem_of_getElem? (i := 65) rfl) rfl), (TB4 (List.mem_of_getElem? (i := 67) rfl) rfl), (TBp (List.mem_of_getElem? (i := 26) rfl) rfl), mdX11_begin⟩
theorem vX11_105 : VL RX11 105 mX9_begin 1 := ⟨(TB4 (List.mem_of_getElem? (i := 69) rfl) rfl), (TB2 (List.mem_of_getElem? (i := 157) rfl) rfl), (TB2 (List.mem_of_getElem? (i := 158) rfl) rfl), mdX9_begin⟩
theorem vX11_107 : VL RX11 107 mX4_clear 0 := ⟨(TB4 (List.mem_of_getElem? (i := 70) rfl) rfl), (TB4 (List.mem_of_getElem? (i := 71) rfl) rfl), (TB4 (List.mem_of_getElem? (i := 72) rfl) rfl), mdX4_clear⟩
theorem vX11_110 : VL RX11 110 mX1_clear 0 := ⟨(TB4 (List.mem_of_getElem? (i := 74) rfl) rfl), (TB4 (List.mem_of_getElem? (i := 75) rfl) rfl), (TB4 (List.mem_of_getElem? (i := 76) rfl) rfl), mdX1_clear⟩
theorem vL_31 : VL RL 31 mX11_fault 1 := ⟨(TB4 (List.mem_of_getElem? (i := 78) rfl) rfl), (TB4 (List.mem_of_getElem? (i := 79) rfl) rfl), (TB4 (List.mem_of_getElem? (i := 80) rfl) rfl), mdX11_fault⟩
theorem vL_35 : VL RL 35 mX11_named 2 := ⟨(TB4 (List.mem_of_getElem? (i := 82) rfl) rfl), (TB4 (List.mem_of_getElem? (i := 83) rfl) rfl), (TB4 (List.mem_of_getElem? (i := 84) rfl) rfl), mdX11_named⟩
theorem vX11_121 : VL RX11 121 mX7_find 2 := ⟨(TB4 (List.mem_of_getElem? (i := 86) rfl) rfl), (TB3 (List.mem_of_getElem? (i := 230) rfl) rfl), (TB3 (List.mem_of_getElem? (i := 231) rfl) rfl), mdX7_find⟩
theorem vL_49 : VL RL 49 mX11_cell 2 := ⟨(TB4 (List.mem_of_getElem? (i := 87) rfl) rfl), (TB4 (List.mem_of_getElem? (i := 88) rfl) rfl), (TB4 (List.mem_of_getElem? (i := 89) rfl) rfl), mdX11_cell⟩
theorem vX11_159 : VL RX11 159 mX11_isCell 1 := ⟨(TB4 (List.mem_of_getElem? (i := 91) rfl) rfl), (TB4 (List.mem_of_getElem? (i := 93) rfl) rfl), (TBp (List.mem_of_getElem? (i := 27) rfl) rfl), mdX11_isCell⟩
theorem vX11_186 : VL RX11 186 mX9_walkersAt 1 := ⟨(TB4 (List.mem_of_getElem? (i := 96) rfl) rfl), (TB4 (List.mem_of_getElem? (i := 97) rfl) rfl), (TB4 (List.mem_of_getElem? (i := 98) rfl) rfl), mdX9_walkersAt⟩
theorem vL_53 : VL RL 53 mX11_law 4 := ⟨(TB4 (List.mem_of_getElem? (i := 100) rfl) rfl), (TB4 (List.mem_of_getElem? (i := 101) rfl) rfl), (TB4 (List.mem_of_getElem? (i := 102) rfl) rfl), mdX11_law⟩
theorem vX11_125 : VL RX11 125 mX11_isWalker 1 := ⟨(TB4 (List.mem_of_getElem? (i := 104) rfl) rfl), (TB4 (List.mem_of_getElem? (i := 106) rfl) rfl), (TBp (List.mem_of_getElem? (i := 28) rfl) rfl), mdX11_isWalker⟩
theorem vX11_192 : VL RX11 192 mX9_nameValues 3 := ⟨(TB4 (List.mem_of_getElem? (i := 109) rfl) rfl), (TB4 (List.mem_of_getElem? (i := 110) rfl) rfl), (TB4 (List.mem_of_getElem? (i := 111) rfl) rfl), mdX9_nameValues⟩
theorem vX11_202 : VL RX11 202 mX5_value 1 := ⟨(TB4 (List.mem_of_getElem? (i := 113) rfl) rfl), (TB4 (List.mem_of_getElem? (i := 114) rfl) rfl), (TB4 (List.mem_of_getElem? (i := 115) rfl) rfl), mdX5_value⟩
theorem vX5_23 : SL RX5 23 mX5_join 3 := ⟨(TB4 (List.mem_of_getElem? (i := 117) rfl) rfl), (TB4 (List.mem_of_getElem? (i := 118) rfl) rfl), mdX5_join⟩
theorem vX5_39 : SL RX5 39 mX5_holds 3 := ⟨(TB4 (List.mem_of_getElem? (i := 125) rfl) rfl), (TB4 (List.mem_of_getElem? (i := 126) rfl) rfl), mdX5_holds⟩
theorem vL_171 : VL RL 171 mX11_count 1 := ⟨(TB4 (List.mem_of_getElem? (i := 129) rfl) rfl), (TB4 (List.mem_of_getElem? (i := 130) rfl) rfl), (TB4 (List.mem_of_getElem? (i := 131) rfl) rfl), mdX11_count⟩
theorem vX11_231 : VL RX11 231 mX4_knownSize 0 := ⟨(TB4 (List.mem_of_getElem? (i := 133) rfl) rfl), (TB4 (List.mem_of_getElem? (i := 134) rfl) rfl), (TB4 (List.mem_of_getElem? (i := 135) rfl) rfl), mdX4_knownSize⟩
theorem vX11_236 : VL RX11 236 mX11_countSway 1 := ⟨(TB4 (List.mem_of_getElem? (i := 137) rfl) rfl), (TB4 (List.mem_of_getElem? (i := 139) rfl) rfl), (TBp (List.mem_of_getElem? (i := 29) rfl) rfl), mdX11_countSway⟩
theorem vX11_239 : SL RX11 239 mJ6_bitCount_0f7a4 1 := ⟨(TB4 (List.mem_of_getElem? (i := 141) rfl) rfl), (TB4 (List.mem_of_getElem? (i := 142) rfl) rfl), mdJ6_bitCount_0f7a4⟩
theorem vX11_245 : VL RX11 245 mX10_greatest 1 := ⟨(TB4 (List.mem_of_getElem? (i := 147) rfl) rfl), (TB4 (List.mem_of_getElem? (i := 148) rfl) rfl), (TB4 (List.mem_of_getElem? (i := 149) rfl) rfl), mdX10_greatest⟩
theorem vL_58 : VL RL 58 mX11_beats 1 := ⟨(TB4 (List.mem_of_getElem? (i := 155) rfl) rfl), (TB4 (List.mem_of_getElem? (i := 156) rfl) rfl), (TB4 (List.mem_of_getElem? (i := 157) rfl) rfl), mdX11_beats⟩
theorem vX11_248 : SL RX11 248 mX11_slotOf 1 := ⟨(TB4 (List.mem_of_getElem? (i := 159) rfl) rfl), (TB4 (List.mem_of_getElem? (i := 160) rfl) rfl), mdX11_slotOf⟩
theorem vX11_251 : VL RX11 251 mX9_pass 0 := ⟨(TB4 (List.mem_of_getElem? (i := 165) rfl) rfl), (TB4 (List.mem_of_getElem? (i := 166) rfl) rfl), (TB4 (List.mem_of_getElem? (i := 167) rfl) rfl), mdX9_pass⟩
theorem vX9_154 : VL RX9 154 mX0_stepsAt 2 := ⟨(TB4 (List.mem_of_getElem? (i := 169) rfl) rfl), (TB4 (List.mem_of_getElem? (i := 170) rfl) rfl), (TB4 (List.mem_of_getElem? (i := 171) rfl) rfl), mdX0_stepsAt⟩
theorem vX9_158 : VL RX9 158 mX9_step 1 := ⟨(TB4 (List.mem_of_getElem? (i := 173) rfl) rfl), (TB4 (List.mem_of_getElem? (i := 175) rfl) rfl), (TBp (List.mem_of_getElem? (i := 30) rfl) rfl), mdX9_step⟩
theorem vX9_184 : VL RX9 184 mX0_firstCell 2 := ⟨(TB4 (List.mem_of_getElem? (i := 177) rfl) rfl), (TB4 (List.mem_of_getElem? (i := 178) rfl) rfl), (TB4 (List.mem_of_getElem? (i := 179) rfl) rfl), mdX0_firstCell⟩
theorem vX9_193 : VL RX9 193 mX9_nameValues 3 := ⟨(TB4 (List.mem_of_getElem? (i := 181) rfl) rfl), (TB4 (List.mem_of_getElem? (i := 110) rfl) rfl), (TB4 (List.mem_of_getElem? (i := 111) rfl) rfl), mdX9_nameValues⟩
theorem vX9_199 : VL RX9 199 mX5_value 1 := ⟨(TB4 (List.mem_of_getElem? (i := 182) rfl) rfl), (TB4 (List.mem_of_getElem? (i := 114) rfl) rfl), (TB4 (List.mem_of_getElem? (i := 115) rfl) rfl), mdX5_value⟩
theorem vX9_205 : SL RX9 205 mX9_force 2 := ⟨(TB4 (List.mem_of_getElem? (i := 183) rfl) rfl), (TB4 (List.mem_of_getElem? (i := 184) rfl) rfl), mdX9_force⟩
theorem vX9_165 : VL RX9 165 mX9_gust 0 := ⟨(TB4 (List.mem_of_getElem? (i := 195) rfl) rfl), (TB4 (List.mem_of_getElem? (i := 197) rfl) rfl), (TBp (List.mem_of_getElem? (i := 31) rfl) rfl), mdX9_gust⟩
theorem vX9_171 : VL RX9 171 mX10_move 3 := ⟨(TB4 (List.mem_of_getElem? (i := 204) rfl) rfl), (TB4 (List.mem_of_getElem? (i := 205) rfl) rfl), (TB4 (List.mem_of_getElem? (i := 206) rfl) rfl), mdX10_move⟩
theorem vX9_181 : VL RX9 181 mX9_losePlanks 0 := ⟨(TB4 (List.mem_of_getElem? (i := 214) rfl) rfl), (TB4 (List.mem_of_getElem? (i := 216) rfl) rfl), (TBp (List.mem_of_getElem? (i := 32) rfl) rfl), mdX9_losePlanks⟩
theorem vL_62 : VL RL 62 mX11_was 1 := ⟨(TB4 (List.mem_of_getElem? (i := 219) rfl) rfl), (TB4 (List.mem_of_getElem? (i := 220) rfl) rfl), (TB4 (List.mem_of_getElem? (i := 221) rfl) rfl), mdX11_was⟩
theorem vL_66 : VL RL 66 mX11_fat 2 := ⟨(TB4 (List.mem_of_getElem? (i := 223) rfl) rfl), (TB4 (List.mem_of_getElem? (i := 224) rfl) rfl), (TB4 (List.mem_of_getElem? (i := 225) rfl) rfl), mdX11_fat⟩
theorem vX11_259 : SL RX11 259 mX11_isCalm 1 := ⟨(TB4 (List.mem_of_getElem? (i := 227) rfl) rfl), (TB4 (List.mem_of_getElem? (i := 228) rfl) rfl), mdX11_isCalm⟩
theorem vX11_295 : SL RX11 295 mX11_isIn 3 := ⟨(TB4 (List.mem_of_getElem? (i := 230) rfl) rfl), (TB4 (List.mem_of_getElem? (i := 231) rfl) rfl), mdX11_isIn⟩
theorem vX11_262 : VL RX11 262 mX9_addFat 2 := ⟨(TB4 (List.mem_of_getElem? (i := 233) rfl) rfl), (TB4 (List.mem_of_getElem? (i := 234) rfl) rfl), (TB4 (List.mem_of_getElem? (i := 235) rfl) rfl), mdX9_addFat⟩
theorem vX9_119 : VL RX9 119 mX2_add 2 := ⟨(TB4 (List.mem_of_getElem? (i := 237) rfl) rfl), (TB4 (List.mem_of_getElem? (i := 15) rfl) rfl), (TB4 (List.mem_of_getElem? (i := 16) rfl) rfl), mdX2_add⟩
theorem vX11_266 : VL RX11 266 mX1_add 3 := ⟨(TB4 (List.mem_of_getElem? (i := 238) rfl) rfl), (TB4 (List.mem_of_getElem? (i := 239) rfl) rfl), (TB5 (List.mem_of_getElem? (i := 0) rfl) rfl), mdX1_add⟩
theorem vX1_25 : VL RX1 25 mX1_forgetFirst 0 := ⟨(TB5 (List.mem_of_getElem? (i := 2) rfl) rfl), (TB5 (List.mem_of_getElem? (i := 4) rfl) rfl), (TBp (List.mem_of_getElem? (i := 33) rfl) rfl), mdX1_forgetFirst⟩
theorem vL_70 : VL RL 70 mX11_off 1 := ⟨(TB5 (List.mem_of_getElem? (i := 7) rfl) rfl), (TB5 (List.mem_of_getElem? (i := 8) rfl) rfl), (TB5 (List.mem_of_getElem? (i := 9) rfl) rfl), mdX11_off⟩
theorem vL_75 : VL RL 75 mX11_blow 1 := ⟨(TB5 (List.mem_of_getElem? (i := 11) rfl) rfl), (TB5 (List.mem_of_getElem? (i := 12) rfl) rfl), (TB5 (List.mem_of_getElem? (i := 13) rfl) rfl), mdX11_blow⟩
theorem vL_80 : VL RL 80 mX11_strike 2 := ⟨(TB5 (List.mem_of_getElem? (i := 15) rfl) rfl), (TB5 (List.mem_of_getElem? (i := 16) rfl) rfl), (TB5 (List.mem_of_getElem? (i := 17) rfl) rfl), mdX11_strike⟩
theorem vX11_270 : SL RX11 270 mX11_within 2 := ⟨(TB5 (List.mem_of_getElem? (i := 20) rfl) rfl), (TB4 (List.mem_of_getElem? (i := 210) rfl) rfl), mdX11_within⟩
theorem vL_159 : VL RL 159 mX11_undo 0 := ⟨(TB5 (List.mem_of_getElem? (i := 21) rfl) rfl), (TB5 (List.mem_of_getElem? (i := 22) rfl) rfl), (TB5 (List.mem_of_getElem? (i := 23) rfl) rfl), mdX11_undo⟩
theorem vX11_282 : VL RX11 282 mX9_dropLastFat 0 := ⟨(TB5 (List.mem_of_getElem? (i := 25) rfl) rfl), (TB5 (List.mem_of_getElem? (i := 26) rfl) rfl), (TB5 (List.mem_of_getElem? (i := 27) rfl) rfl), mdX9_dropLastFat⟩
theorem vL_163 : VL RL 163 mX11_keep 0 := ⟨(TB5 (List.mem_of_getElem? (i := 29) rfl) rfl), (TB5 (List.mem_of_getElem? (i := 30) rfl) rfl), (TB5 (List.mem_of_getElem? (i := 31) rfl) rfl), mdX11_keep⟩
theorem vX11_285 : VL RX11 285 mX9_copy 1 := ⟨(TB5 (List.mem_of_getElem? (i := 33) rfl) rfl), (TB5 (List.mem_of_getElem? (i := 34) rfl) rfl), (TB5 (List.mem_of_getElem? (i := 35) rfl) rfl), mdX9_copy⟩
theorem vX9_110 : VL RX9 110 mX10_copy 1 := ⟨(TB5 (List.mem_of_getElem? (i := 37) rfl) rfl), (TB5 (List.mem_of_getElem? (i := 38) rfl) rfl), (TB5 (List.mem_of_getElem? (i := 39) rfl) rfl), mdX10_copy⟩
theorem vL_167 : VL RL 167 mX11_back 0 := ⟨(TB5 (List.mem_of_getElem? (i := 44) rfl) rfl), (TB5 (List.mem_of_getElem? (i := 45) rfl) rfl), (TB5 (List.mem_of_getElem? (i := 46) rfl) rfl), mdX11_back⟩
theorem vL_84 : VL RL 84 mX11_high 1 := ⟨(TB5 (List.mem_of_getElem? (i := 48) rfl) rfl), (TB5 (List.mem_of_getElem? (i := 49) rfl) rfl), (TB5 (List.mem_of_getElem? (i := 50) rfl) rfl), mdX11_high⟩
theorem vX11_299 : VL RX11 299 mX11_tryFromNow 1 := ⟨(TB5 (List.mem_of_getElem? (i := 52) rfl) rfl), (TB5 (List.mem_of_getElem? (i := 54) rfl) rfl), (TBp (List.mem_of_getElem? (i := 34) rfl) rfl), mdX11_tryFromNow⟩
theorem vX11_303 : VL RX11 303 mX9_highest 2 := ⟨(TB5 (List.mem_of_getElem? (i := 56) rfl) rfl), (TB5 (List.mem_of_getElem? (i := 57) rfl) rfl), (TB5 (List.mem_of_getElem? (i := 58) rfl) rfl), mdX9_highest⟩
theorem vX9_141 : VL RX9 141 mX9_pass 0 := ⟨(TB5 (List.mem_of_getElem? (i := 60) rfl) rfl), (TB4 (List.mem_of_getElem? (i := 166) rfl) rfl), (TB4 (List.mem_of_getElem? (i := 167) rfl) rfl), mdX9_pass⟩
theorem vX9_147 : VL RX9 147 mX10_greatest 1 := ⟨(TB5 (List.mem_of_getElem? (i := 61) rfl) rfl), (TB4 (List.mem_of_getElem? (i := 148) rfl) rfl), (TB4 (List.mem_of_getElem? (i := 149) rfl) rfl), mdX10_greatest⟩
theorem vL_88 : VL RL 88 mX11_creaks 1 := ⟨(TB5 (List.mem_of_getElem? (i := 62) rfl) rfl), (TB5 (List.mem_of_getElem? (i := 63) rfl) rfl), (TB5 (List.mem_of_getElem? (i := 64) rfl) rfl), mdX11_creaks⟩
theorem vL_92 : VL RL 92 mX11_lies 4 := ⟨(TB5 (List.mem_of_getElem? (i := 67) rfl) rfl), (TB5 (List.mem_of_getElem? (i := 68) rfl) rfl), (TB5 (List.mem_of_getElem? (i := 69) rfl) rfl), mdX11_lies⟩
theorem vX11_315 : VL RX11 315 mX11_leastHigh 4 := ⟨(TB5 (List.mem_of_getElem? (i := 71) rfl) rfl), (TB5 (List.mem_of_getElem? (i := 73) rfl) rfl), (TBp (List.mem_of_getElem? (i := 35) rfl) rfl), mdX11_leastHigh⟩
theorem vX11_319 : SL RX11 319 mJ7_fill_53178 2 := ⟨(TB5 (List.mem_of_getElem? (i := 75) rfl) rfl), (TB2 (List.mem_of_getElem? (i := 37) rfl) rfl), mdJ7_fill_53178⟩
theorem vX11_325 : VL RX11 325 mX11_nextSpots 1 := ⟨(TB5 (List.mem_of_getElem? (i := 76) rfl) rfl), (TB5 (List.mem_of_getElem? (i := 78) rfl) rfl), (TBp (List.mem_of_getElem? (i := 36) rfl) rfl), mdX11_nextSpots⟩
theorem vL_97 : VL RL 97 mX11_fewest 3 := ⟨(TB5 (List.mem_of_getElem? (i := 80) rfl) rfl), (TB5 (List.mem_of_getElem? (i := 81) rfl) rfl), (TB5 (List.mem_of_getElem? (i := 82) rfl) rfl), mdX11_fewest⟩
theorem vL_102 : VL RL 102 mX11_forbidden 3 := ⟨(TB5 (List.mem_of_getElem? (i := 84) rfl) rfl), (TB5 (List.mem_of_getElem? (i := 85) rfl) rfl), (TB5 (List.mem_of_getElem? (i := 86) rfl) rfl), mdX11_forbidden⟩
theorem vX11_328 : VL RX11 328 mX11_tryFromRest 0 := ⟨(TB5 (List.mem_of_getElem? (i := 88) rfl) rfl), (TB5 (List.mem_of_getElem? (i := 90) rfl) rfl), (TBp (List.mem_of_getElem? (i := 37) rfl) rfl), mdX11_tryFromRest⟩
theorem vX11_410 : VL RX11 410 mX9_rest 0 := ⟨(TB5 (List.mem_of_getElem? (i := 92) rfl) rfl), (TB2 (List.mem_of_getElem? (i := 176) rfl) rfl), (TB2 (List.mem_of_getElem? (i := 177) rfl) rfl), mdX9_rest⟩
theorem vX11_332 : VL RX11 332 mX0_add 5 := ⟨(TB5 (List.mem_of_getElem? (i := 93) rfl) rfl), (TB3 (List.mem_of_getElem? (i := 239) rfl) rfl), (TB4 (List.mem_of_getElem? (i := 0) rfl) rfl), mdX0_add⟩
theorem vL_106 : VL RL 106 mX11_cancel 3 := ⟨(TB5 (List.mem_of_getElem? (i := 94) rfl) rfl), (TB5 (List.mem_of_getElem? (i := 95) rfl) rfl), (TB5 (List.mem_of_getElem? (i := 96) rfl) rfl), mdX11_cancel⟩
theorem vX11_336 : VL RX11 336 mX11_highOfSet 2 := ⟨(TB5 (List.mem_of_getElem? (i := 98) rfl) rfl), (TB5 (List.mem_of_getElem? (i := 100) rfl) rfl), (TBp (List.mem_of_getElem? (i := 38) rfl) rfl), mdX11_highOfSet⟩
theorem vX11_339 : VL RX11 339 mX9_leaveOnly 1 := ⟨(TB5 (List.mem_of_getElem? (i := 102) rfl) rfl), (TB5 (List.mem_of_getElem? (i := 103) rfl) rfl), (TB5 (List.mem_of_getElem? (i := 104) rfl) rfl), mdX9_leaveOnly⟩
theorem vL_110 : VL RL 110 mX11_owes 2 := ⟨(TB5 (List.mem_of_getElem? (i := 106) rfl) rfl), (TB5 (List.mem_of_getElem? (i := 107) rfl) rfl), (TB5 (List.mem_of_getElem? (i := 108) rfl) rfl), mdX11_owes⟩
theorem vL_114 : VL RL 114 mX11_pump 4 := ⟨(TB5 (List.mem_of_getElem? (i := 110) rfl) rfl), (TB5 (List.mem_of_getElem? (i := 111) rfl) rfl), (TB5 (List.mem_of_getElem? (i := 112) rfl) rfl), mdX11_pump⟩
theorem vX11_345 : VL RX11 345 mX11_greatestPumped 5 := ⟨(TB5 (List.mem_of_getElem? (i := 114) rfl) rfl), (TB5 (List.mem_of_getElem? (i := 116) rfl) rfl), (TBp (List.mem_of_getElem? (i := 39) rfl) rfl), mdX11_greatestPumped⟩
theorem vL_118 : VL RL 118 mX11_keeper 5 := ⟨(TB5 (List.mem_of_getElem? (i := 118) rfl) rfl), (TB5 (List.mem_of_getElem? (i := 119) rfl) rfl), (TB5 (List.mem_of_getElem? (i := 120) rfl) rfl), mdX11_keeper⟩
theorem vL_122 : VL RL 122 mX11_groan 4 := ⟨(TB5 (List.mem_of_getElem? (i := 123) rfl) rfl), (TB5 (List.mem_of_getElem? (i := 124) rfl) rfl), (TB5 (List.mem_of_getElem? (i := 125) rfl) rfl), mdX11_groan⟩
theorem vX11_356 : VL RX11 356 mX4_add 4 := ⟨(TB5 (List.mem_of_getElem? (i := 128) rfl) rfl), (TB5 (List.mem_of_getElem? (i := 129) rfl) rfl), (TB5 (List.mem_of_getElem? (i := 130) rfl) rfl), mdX4_add⟩
theorem vL_127 : VL RL 127 mX11_unsay 1 := ⟨(TB5 (List.mem_of_getElem? (i := 132) rfl) rfl), (TB5 (List.mem_of_getElem? (i := 133) rfl) rfl), (TB5 (List.mem_of_getElem? (i := 134) rfl) rfl), mdX11_unsay⟩
theorem vX11_359 : VL RX11 359 mX4_addStrike 1 := ⟨(TB5 (List.mem_of_getElem? (i := 136) rfl) rfl), (TB5 (List.mem_of_getElem? (i := 137) rfl) rfl), (TB5 (List.mem_of_getElem? (i := 138) rfl) rfl), mdX4_addStrike⟩
theorem vL_131 : VL RL 131 mX11_known 1 := ⟨(TB5 (List.mem_of_getElem? (i := 140) rfl) rfl), (TB5 (List.mem_of_getElem? (i := 141) rfl) rfl), (TB5 (List.mem_of_getElem? (i := 142) rfl) rfl), mdX11_known⟩
theorem vL_135 : VL RL 135 mX11_began 0 := ⟨(TB5 (List.mem_of_getElem? (i := 144) rfl) rfl), (TB5 (List.mem_of_getElem? (i := 145) rfl) rfl), (TB5 (List.mem_of_getElem? (i := 146) rfl) rfl), mdX11_began⟩
theorem vX11_365 : VL RX11 365 mX11_beginners 0 := ⟨(TB5 (List.mem_of_getElem? (i := 148) rfl) rfl), (TB5 (List.mem_of_getElem? (i := 150) rfl) rfl), (TBp (List.mem_of_getElem? (i := 40) rfl) rfl), mdX11_beginners⟩
theorem vX11_372 : VL RX11 372 mX4_knownBits 0 := ⟨(TB5 (List.mem_of_getElem? (i := 152) rfl) rfl), (TB5 (List.mem_of_getElem? (i := 153) rfl) rfl), (TB5 (List.mem_of_getElem? (i := 154) rfl) rfl), mdX4_knownBits⟩
theorem vX4_35 : VL RX4 35 mX4_knownSize 0 := ⟨(TB5 (List.mem_of_getElem? (i := 156) rfl) rfl), (TB4 (List.mem_of_getElem? (i := 134) rfl) rfl), (TB4 (List.mem_of_getElem? (i := 135) rfl) rfl), mdX4_knownSize⟩
theorem vX11_375 : VL RX11 375 mX11_groansAreSo 1 := ⟨(TB5 (List.mem_of_getElem? (i := 157) rfl) rfl), (TB5 (List.mem_of_getElem? (i := 159) rfl) rfl), (TBp (List.mem_of_getElem? (i := 41) rfl) rfl), mdX11_groansAreSo⟩
theorem vX11_383 : VL RX11 383 mX4_lastTime 1 := ⟨(TB5 (List.mem_of_getElem? (i := 161) rfl) rfl), (TB5 (List.mem_of_getElem? (i := 162) rfl) rfl), (TB5 (List.mem_of_getElem? (i := 163) rfl) rfl), mdX4_lastTime⟩
theorem vX11_386 : VL RX11 386 mX4_areSo 3 := ⟨(TB5 (List.mem_of_getElem? (i := 166) rfl) rfl), (TB5 (List.mem_of_getElem? (i := 167) rfl) rfl), (TB5 (List.mem_of_getElem? (i := 168) rfl) rfl), mdX4_areSo⟩
theorem vX11_369 : SL RX11 369 mJ13_bitCount_95d88 1 := ⟨(TB5 (List.mem_of_getElem? (i := 171) rfl) rfl), (TB5 (List.mem_of_getElem? (i := 172) rfl) rfl), mdJ13_bitCount_95d88⟩
theorem vL_139 : VL RL 139 mX11_set 1 := ⟨(TB5 (List.mem_of_getElem? (i := 177) rfl) rfl), (TB5 (List.mem_of_getElem? (i := 178) rfl) rfl), (TB5 (List.mem_of_getElem? (i := 179) rfl) rfl), mdX11_set⟩
theorem vL_143 : VL RL 143 mX11_sure 1 := ⟨(TB5 (List.mem_of_getElem? (i := 181) rfl) rfl), (TB5 (List.mem_of_getElem? (i := 182) rfl) rfl), (TB5 (List.mem_of_getElem? (i := 183) rfl) rfl), mdX11_sure⟩
theorem vL_147 : VL RL 147 mX11_fits 0 := ⟨(TB5 (List.mem_of_getElem? (i := 185) rfl) rfl), (TB5 (List.mem_of_getElem? (i := 186) rfl) rfl), (TB5 (List.mem_of_getElem? (i := 187) rfl) rfl), mdX11_fits⟩
theorem vL_151 : VL RL 151 mX11_gales 3 := ⟨(TB5 (List.mem_of_getElem? (i := 189) rfl) rfl), (TB5 (List.mem_of_getElem? (i := 190) rfl) rfl), (TB5 (List.mem_of_getElem? (i := 191) rfl) rfl), mdX11_gales⟩
theorem vX11_393 : VL RX11 393 mX11_sidesStayWithin 2 := ⟨(TB5 (List.mem_of_getElem? (i := 193) rfl) rfl), (TB5 (List.mem_of_getElem? (i := 195) rfl) rfl), (TBp (List.mem_of_getElem? (i := 42) rfl) rfl), mdX11_sidesStayWithin⟩
theorem vL_155 : VL RL 155 mX11_tried 3 := ⟨(TB5 (List.mem_of_getElem? (i := 197) rfl) rfl), (TB5 (List.mem_of_getElem? (i := 198) rfl) rfl), (TB5 (List.mem_of_getElem? (i := 199) rfl) rfl), mdX11_tried⟩
theorem vX11_397 : VL RX11 397 mX11_changeTrial 2 := ⟨(TB5 (List.mem_of_getElem? (i := 201) rfl) rfl), (TB5 (List.mem_of_getElem? (i := 203) rfl) rfl), (TBp (List.mem_of_getElem? (i := 43) rfl) rfl), mdX11_changeTrial⟩
theorem vX11_403 : VL RX11 403 mX9_dropAllFat 0 := ⟨(TB5 (List.mem_of_getElem? (i := 205) rfl) rfl), (TB5 (List.mem_of_getElem? (i := 206) rfl) rfl), (TB5 (List.mem_of_getElem? (i := 207) rfl) rfl), mdX9_dropAllFat⟩
theorem vL_7 : VL RL 7 mX11_look 2 := ⟨(TB5 (List.mem_of_getElem? (i := 214) rfl) rfl), (TB5 (List.mem_of_getElem? (i := 215) rfl) rfl), (TB5 (List.mem_of_getElem? (i := 216) rfl) rfl), mdX11_look⟩
theorem vL_20 : IL RL 20 mX12_init 0 := ⟨(TB6 (List.mem_of_getElem? (i := 62) rfl) rfl), (TB6 (List.mem_of_getElem? (i := 63) rfl) rfl), rfl, mdX12_init⟩
theorem vX12_165 : VL RX12 165 mX12_rests 1 := ⟨(TB6 (List.mem_of_getElem? (i := 66) rfl) rfl), (TB6 (List.mem_of_getElem? (i := 68) rfl) rfl), (TBp (List.mem_of_getElem? (i := 45) rfl) rfl), mdX12_rests⟩
theorem vL_45 : VL RL 45 mX12_thrown 0 := ⟨(TB7 (List.mem_of_getElem? (i := 65) rfl) rfl), (TB7 (List.mem_of_getElem? (i := 66) rfl) rfl), (TB7 (List.mem_of_getElem? (i := 67) rfl) rfl), mdX12_thrown⟩
theorem vL_25 : VL RL 25 mX12_feed 5 := ⟨(TB7 (List.mem_of_getElem? (i := 69) rfl) rfl), (TB7 (List.mem_of_getElem? (i := 70) rfl) rfl), (TB7 (List.mem_of_getElem? (i := 71) rfl) rfl), mdX12_feed⟩
theorem vL_30 : VL RL 30 mX12_text 1 := ⟨(TB7 (List.mem_of_getElem? (i := 73) rfl) rfl), (TB7 (List.mem_of_getElem? (i := 74) rfl) rfl), (TB7 (List.mem_of_getElem? (i := 75) rfl) rfl), mdX12_text⟩
theorem vX12_265 : VL RX12 265 mX12_reads 2 := ⟨(TB7 (List.mem_of_getElem? (i := 77) rfl) rfl), (TB7 (List.mem_of_getElem? (i := 79) rfl) rfl), (TBp (List.mem_of_getElem? (i := 46) rfl) rfl), mdX12_reads⟩
theorem vX12_228 : VL RX12 228 mX12_token 0 := ⟨(TB7 (List.mem_of_getElem? (i := 81) rfl) rfl), (TB7 (List.mem_of_getElem? (i := 83) rfl) rfl), (TBp (List.mem_of_getElem? (i := 47) rfl) rfl), mdX12_token⟩
theorem vX12_181 : VL RX12 181 mX12_here 0 := ⟨(TB7 (List.mem_of_getElem? (i := 85) rfl) rfl), (TB7 (List.mem_of_getElem? (i := 87) rfl) rfl), (TBp (List.mem_of_getElem? (i := 48) rfl) rfl), mdX12_here⟩
theorem vX12_191 : SL RX12 191 mX12_isSmall 1 := ⟨(TB7 (List.mem_of_getElem? (i := 89) rfl) rfl), (TB7 (List.mem_of_getElem? (i := 90) rfl) rfl), mdX12_isSmall⟩
theorem vX12_195 : VL RX12 195 mX12_word 0 := ⟨(TB7 (List.mem_of_getElem? (i := 92) rfl) rfl), (TB7 (List.mem_of_getElem? (i := 94) rfl) rfl), (TBp (List.mem_of_getElem? (i := 49) rfl) rfl), mdX12_word⟩
theorem vX12_213 : VL RX12 213 mJ0_length_8abf5 0 := ⟨(TB7 (List.mem_of_getElem? (i := 97) rfl) rfl), (TB1 (List.mem_of_getElem? (i := 50) rfl) rfl), (TB1 (List.mem_of_getElem? (i := 51) rfl) rfl), mdJ0_length_8abf5⟩
theorem vX12_218 : VL RX12 218 mJ0_charAt_5068e 1 := ⟨(TB7 (List.mem_of_getElem? (i := 98) rfl) rfl), (TB1 (List.mem_of_getElem? (i := 60) rfl) rfl), (TB1 (List.mem_of_getElem? (i := 61) rfl) rfl), mdJ0_charAt_5068e⟩
theorem vX12_201 : VL RX12 201 mX12_name 0 := ⟨(TB7 (List.mem_of_getElem? (i := 99) rfl) rfl), (TB7 (List.mem_of_getElem? (i := 101) rfl) rfl), (TBp (List.mem_of_getElem? (i := 50) rfl) rfl), mdX12_name⟩
theorem vX12_204 : SL RX12 204 mX12_isDigit 1 := ⟨(TB7 (List.mem_of_getElem? (i := 103) rfl) rfl), (TB7 (List.mem_of_getElem? (i := 104) rfl) rfl), mdX12_isDigit⟩
theorem vX12_208 : VL RX12 208 mX12_sign 1 := ⟨(TB7 (List.mem_of_getElem? (i := 107) rfl) rfl), (TB7 (List.mem_of_getElem? (i := 109) rfl) rfl), (TBp (List.mem_of_getElem? (i := 51) rfl) rfl), mdX12_sign⟩
theorem vX12_324 : VL RX12 324 mX12_line 0 := ⟨(TB7 (List.mem_of_getElem? (i := 111) rfl) rfl), (TB7 (List.mem_of_getElem? (i := 113) rfl) rfl), (TBp (List.mem_of_getElem? (i := 52) rfl) rfl), mdX12_line⟩
theorem vX12_231 : VL RX12 231 mX12_wrong 1 := ⟨(TB7 (List.mem_of_getElem? (i := 115) rfl) rfl), (TB7 (List.mem_of_getElem? (i := 117) rfl) rfl), (TBp (List.mem_of_getElem? (i := 53) rfl) rfl), mdX12_wrong⟩
theorem vX12_249 : VL RX12 249 mX12_isFull 1 := ⟨(TB7 (List.mem_of_getElem? (i := 119) rfl) rfl), (TB7 (List.mem_of_getElem? (i := 121) rfl) rfl), (TBp (List.mem_of_getElem? (i := 54) rfl) rfl), mdX12_isFull⟩
theorem vX12_245 : VL RX12 245 mX12_fresher 1 := ⟨(TB7 (List.mem_of_getElem? (i := 123) rfl) rfl), (TB7 (List.mem_of_getElem? (i := 125) rfl) rfl), (TBp (List.mem_of_getElem? (i := 55) rfl) rfl), mdX12_fresher⟩
theorem vX12_252 : SL RX12 252 mX12_isOnce 1 := ⟨(TB7 (List.mem_of_getElem? (i := 127) rfl) rfl), (TB7 (List.mem_of_getElem? (i := 128) rfl) rfl), mdX12_isOnce⟩
theorem vX12_262 : VL RX12 262 mX12_numeral 2 := ⟨(TB7 (List.mem_of_getElem? (i := 130) rfl) rfl), (TB7 (List.mem_of_getElem? (i := 132) rfl) rfl), (TBp (List.mem_of_getElem? (i := 56) rfl) rfl), mdX12_numeral⟩
theorem vX12_234 : VL RX12 234 mX12_numeralAtHand 2 := ⟨(TB7 (List.mem_of_getElem? (i := 134) rfl) rfl), (TB7 (List.mem_of_getElem? (i := 136) rfl) rfl), (TBp (List.mem_of_getElem? (i := 57) rfl) rfl), mdX12_numeralAtHand⟩
theorem vX12_238 : VL RX12 238 mX12_goOn 0 := ⟨(TB7 (List.mem_of_getElem? (i := 138) rfl) rfl), (TB7 (List.mem_of_getElem? (i := 140) rfl) rfl), (TBp (List.mem_of_getElem? (i := 58) rfl) rfl), mdX12_goOn⟩
theorem vX12_269 : VL RX12 269 mX12_walkerLine 1 := ⟨(TB7 (List.mem_of_getElem? (i := 142) rfl) rfl), (TB7 (List.mem_of_getElem? (i := 144) rfl) rfl), (TBp (List.mem_of_getElem? (i := 59) rfl) rfl), mdX12_walkerLine⟩
theorem vX12_278 : VL RX12 278 mX12_fresh 3 := ⟨(TB7 (List.mem_of_getElem? (i := 146) rfl) rfl), (TB7 (List.mem_of_getElem? (i := 148) rfl) rfl), (TBp (List.mem_of_getElem? (i := 60) rfl) rfl), mdX12_fresh⟩
theorem vX12_241 : SL RX12 241 mX12_found 4 := ⟨(TB7 (List.mem_of_getElem? (i := 150) rfl) rfl), (TB7 (List.mem_of_getElem? (i := 151) rfl) rfl), mdX12_found⟩
theorem vX12_272 : VL RX12 272 mX12_fatLine 1 := ⟨(TB7 (List.mem_of_getElem? (i := 153) rfl) rfl), (TB7 (List.mem_of_getElem? (i := 155) rfl) rfl), (TBp (List.mem_of_getElem? (i := 61) rfl) rfl), mdX12_fatLine⟩
theorem vX12_275 : VL RX12 275 mX12_sleepLine 1 := ⟨(TB7 (List.mem_of_getElem? (i := 157) rfl) rfl), (TB7 (List.mem_of_getElem? (i := 159) rfl) rfl), (TBp (List.mem_of_getElem? (i := 62) rfl) rfl), mdX12_sleepLine⟩
theorem vX12_282 : VL RX12 282 mX12_lawLine 1 := ⟨(TB7 (List.mem_of_getElem? (i := 161) rfl) rfl), (TB7 (List.mem_of_getElem? (i := 163) rfl) rfl), (TBp (List.mem_of_getElem? (i := 63) rfl) rfl), mdX12_lawLine⟩
theorem vX12_291 : VL RX12 291 mX12_expression 0 := ⟨(TB7 (List.mem_of_getElem? (i := 165) rfl) rfl), (TB7 (List.mem_of_getElem? (i := 167) rfl) rfl), (TBp (List.mem_of_getElem? (i := 64) rfl) rfl), mdX12_expression⟩
theorem vX12_297 : VL RX12 297 mX12_conjunction 0 := ⟨(TB7 (List.mem_of_getElem? (i := 169) rfl) rfl), (TB7 (List.mem_of_getElem? (i := 171) rfl) rfl), (TBp (List.mem_of_getElem? (i := 65) rfl) rfl), mdX12_conjunction⟩
theorem vX12_309 : VL RX12 309 mX12_negation 0 := ⟨(TB7 (List.mem_of_getElem? (i := 173) rfl) rfl), (TB7 (List.mem_of_getElem? (i := 175) rfl) rfl), (TBp (List.mem_of_getElem? (i := 66) rfl) rfl), mdX12_negation⟩
theorem vX12_300 : VL RX12 300 mX12_isWord 1 := ⟨(TB7 (List.mem_of_getElem? (i := 177) rfl) rfl), (TB7 (List.mem_of_getElem? (i := 179) rfl) rfl), (TBp (List.mem_of_getElem? (i := 67) rfl) rfl), mdX12_isWord⟩
theorem vX12_303 : VL RX12 303 mX12_knot 0 := ⟨(TB7 (List.mem_of_getElem? (i := 181) rfl) rfl), (TB7 (List.mem_of_getElem? (i := 183) rfl) rfl), (TBp (List.mem_of_getElem? (i := 68) rfl) rfl), mdX12_knot⟩
theorem vX12_306 : VL RX12 306 mX12_puts 2 := ⟨(TB7 (List.mem_of_getElem? (i := 185) rfl) rfl), (TB7 (List.mem_of_getElem? (i := 187) rfl) rfl), (TBp (List.mem_of_getElem? (i := 69) rfl) rfl), mdX12_puts⟩
theorem vX12_312 : VL RX12 312 mX12_sum 0 := ⟨(TB7 (List.mem_of_getElem? (i := 189) rfl) rfl), (TB7 (List.mem_of_getElem? (i := 191) rfl) rfl), (TBp (List.mem_of_getElem? (i := 70) rfl) rfl), mdX12_sum⟩
theorem vX12_315 : VL RX12 315 mX12_product 0 := ⟨(TB7 (List.mem_of_getElem? (i := 193) rfl) rfl), (TB7 (List.mem_of_getElem? (i := 195) rfl) rfl), (TBp (List.mem_of_getElem? (i := 71) rfl) rfl), mdX12_product⟩
theorem vX12_318 : VL RX12 318 mX12_primary 0 := ⟨(TB7 (List.mem_of_getElem? (i := 197) rfl) rfl), (TB7 (List.mem_of_getElem? (i := 199) rfl) rfl), (TBp (List.mem_of_getElem? (i := 72) rfl) rfl), mdX12_primary⟩
theorem vX12_285 : VL RX12 285 mX12_isSign 1 := ⟨(TB7 (List.mem_of_getElem? (i := 201) rfl) rfl), (TB7 (List.mem_of_getElem? (i := 203) rfl) rfl), (TBp (List.mem_of_getElem? (i := 73) rfl) rfl), mdX12_isSign⟩
theorem vX12_330 : SL RX12 330 mX12_half 1 := ⟨(TB7 (List.mem_of_getElem? (i := 205) rfl) rfl), (TB7 (List.mem_of_getElem? (i := 206) rfl) rfl), mdX12_half⟩
theorem vL_34 : VL RL 34 mX12_fault 1 := ⟨(TB7 (List.mem_of_getElem? (i := 208) rfl) rfl), (TB7 (List.mem_of_getElem? (i := 209) rfl) rfl), (TB7 (List.mem_of_getElem? (i := 210) rfl) rfl), mdX12_fault⟩
theorem vL_38 : VL RL 38 mX12_named 2 := ⟨(TB7 (List.mem_of_getElem? (i := 212) rfl) rfl), (TB7 (List.mem_of_getElem? (i := 213) rfl) rfl), (TB7 (List.mem_of_getElem? (i := 214) rfl) rfl), mdX12_named⟩
theorem vL_44 : VL RL 44 mX12_look 2 := ⟨(TB7 (List.mem_of_getElem? (i := 216) rfl) rfl), (TB7 (List.mem_of_getElem? (i := 217) rfl) rfl), (TB7 (List.mem_of_getElem? (i := 218) rfl) rfl), mdX12_look⟩
theorem vX12_443 : VL RX12 443 mX12_isWalker 1 := ⟨(TB7 (List.mem_of_getElem? (i := 220) rfl) rfl), (TB7 (List.mem_of_getElem? (i := 222) rfl) rfl), (TBp (List.mem_of_getElem? (i := 74) rfl) rfl), mdX12_isWalker⟩
theorem vL_52 : VL RL 52 mX12_cell 2 := ⟨(TB7 (List.mem_of_getElem? (i := 224) rfl) rfl), (TB7 (List.mem_of_getElem? (i := 225) rfl) rfl), (TB7 (List.mem_of_getElem? (i := 226) rfl) rfl), mdX12_cell⟩
theorem vX12_403 : VL RX12 403 mX12_isCell 1 := ⟨(TB7 (List.mem_of_getElem? (i := 228) rfl) rfl), (TB7 (List.mem_of_getElem? (i := 230) rfl) rfl), (TBp (List.mem_of_getElem? (i := 75) rfl) rfl), mdX12_isCell⟩
theorem vX12_447 : VL RX12 447 mX12_plain 0 := ⟨(TB7 (List.mem_of_getElem? (i := 233) rfl) rfl), (TB7 (List.mem_of_getElem? (i := 235) rfl) rfl), (TBp (List.mem_of_getElem? (i := 76) rfl) rfl), mdX12_plain⟩
theorem vX12_415 : VL RX12 415 mX12_calmAt 2 := ⟨(TB7 (List.mem_of_getElem? (i := 237) rfl) rfl), (TB7 (List.mem_of_getElem? (i := 239) rfl) rfl), (TBp (List.mem_of_getElem? (i := 77) rfl) rfl), mdX12_calmAt⟩
theorem vL_57 : VL RL 57 mX12_law 4 := ⟨(TB8 (List.mem_of_getElem? (i := 2) rfl) rfl), (TB8 (List.mem_of_getElem? (i := 3) rfl) rfl), (TB8 (List.mem_of_getElem? (i := 4) rfl) rfl), mdX12_law⟩
theorem vX12_372 : VL RX12 372 mX12_hasLaw 1 := ⟨(TB8 (List.mem_of_getElem? (i := 6) rfl) rfl), (TB8 (List.mem_of_getElem? (i := 8) rfl) rfl), (TBp (List.mem_of_getElem? (i := 78) rfl) rfl), mdX12_hasLaw⟩
theorem vX12_406 : VL RX12 406 mX12_calls 4 := ⟨(TB8 (List.mem_of_getElem? (i := 11) rfl) rfl), (TB8 (List.mem_of_getElem? (i := 13) rfl) rfl), (TBp (List.mem_of_getElem? (i := 79) rfl) rfl), mdX12_calls⟩
theorem vX12_387 : VL RX12 387 mX12_heat 0 := ⟨(TB8 (List.mem_of_getElem? (i := 15) rfl) rfl), (TB8 (List.mem_of_getElem? (i := 17) rfl) rfl), (TBp (List.mem_of_getElem? (i := 80) rfl) rfl), mdX12_heat⟩
theorem vX12_375 : VL RX12 375 mX12_goes 1 := ⟨(TB8 (List.mem_of_getElem? (i := 19) rfl) rfl), (TB8 (List.mem_of_getElem? (i := 21) rfl) rfl), (TBp (List.mem_of_getElem? (i := 81) rfl) rfl), mdX12_goes⟩
theorem vX12_369 : VL RX12 369 mX12_works 1 := ⟨(TB8 (List.mem_of_getElem? (i := 23) rfl) rfl), (TB8 (List.mem_of_getElem? (i := 25) rfl) rfl), (TBp (List.mem_of_getElem? (i := 82) rfl) rfl), mdX12_works⟩
theorem vX12_357 : SL RX12 357 mX12_is 1 := ⟨(TB8 (List.mem_of_getElem? (i := 27) rfl) rfl), (TB8 (List.mem_of_getElem? (i := 28) rfl) rfl), mdX12_is⟩
theorem vL_61 : VL RL 61 mX12_beats 1 := ⟨(TB8 (List.mem_of_getElem? (i := 33) rfl) rfl), (TB8 (List.mem_of_getElem? (i := 34) rfl) rfl), (TB8 (List.mem_of_getElem? (i := 35) rfl) rfl), mdX12_beats⟩
theorem vX12_454 : VL RX12 454 mX12_passes 1 := ⟨(TB8 (List.mem_of_getElem? (i := 37) rfl) rfl), (TB8 (List.mem_of_getElem? (i := 39) rfl) rfl), (TBp (List.mem_of_getElem? (i := 83) rfl) rfl), mdX12_passes⟩
theorem vX12_399 : VL RX12 399 mX12_treads 5 := ⟨(TB8 (List.mem_of_getElem? (i := 41) rfl) rfl), (TB8 (List.mem_of_getElem? (i := 43) rfl) rfl), (TBp (List.mem_of_getElem? (i := 84) rfl) rfl), mdX12_treads⟩
theorem vX12_410 : VL RX12 410 mX12_asks 2 := ⟨(TB8 (List.mem_of_getElem? (i := 45) rfl) rfl), (TB8 (List.mem_of_getElem? (i := 47) rfl) rfl), (TBp (List.mem_of_getElem? (i := 85) rfl) rfl), mdX12_asks⟩
theorem vX12_422 : VL RX12 422 mX12_walks 1 := ⟨(TB8 (List.mem_of_getElem? (i := 53) rfl) rfl), (TB8 (List.mem_of_getElem? (i := 55) rfl) rfl), (TBp (List.mem_of_getElem? (i := 86) rfl) rfl), mdX12_walks⟩
theorem vX12_434 : VL RX12 434 mX12_draw 2 := ⟨(TB8 (List.mem_of_getElem? (i := 57) rfl) rfl), (TB8 (List.mem_of_getElem? (i := 59) rfl) rfl), (TBp (List.mem_of_getElem? (i := 87) rfl) rfl), mdX12_draw⟩
theorem vX12_437 : VL RX12 437 mX12_sways 5 := ⟨(TB8 (List.mem_of_getElem? (i := 64) rfl) rfl), (TB8 (List.mem_of_getElem? (i := 66) rfl) rfl), (TBp (List.mem_of_getElem? (i := 88) rfl) rfl), mdX12_sways⟩
theorem vX12_419 : SL RX12 419 mX12_within 2 := ⟨(TB8 (List.mem_of_getElem? (i := 69) rfl) rfl), (TB8 (List.mem_of_getElem? (i := 70) rfl) rfl), mdX12_within⟩
theorem vX12_457 : VL RX12 457 mX12_greatest 2 := ⟨(TB8 (List.mem_of_getElem? (i := 73) rfl) rfl), (TB8 (List.mem_of_getElem? (i := 75) rfl) rfl), (TBp (List.mem_of_getElem? (i := 89) rfl) rfl), mdX12_greatest⟩
theorem vL_65 : VL RL 65 mX12_was 1 := ⟨(TB8 (List.mem_of_getElem? (i := 77) rfl) rfl), (TB8 (List.mem_of_getElem? (i := 78) rfl) rfl), (TB8 (List.mem_of_getElem? (i := 79) rfl) rfl), mdX12_was⟩
theorem vL_69 : VL RL 69 mX12_fat 2 := ⟨(TB8 (List.mem_of_getElem? (i := 81) rfl) rfl), (TB8 (List.mem_of_getElem? (i := 82) rfl) rfl), (TB8 (List.mem_of_getElem? (i := 83) rfl) rfl), mdX12_fat⟩
theorem vX12_464 : SL RX12 464 mX12_isCalm 1 := ⟨(TB8 (List.mem_of_getElem? (i := 85) rfl) rfl), (TB8 (List.mem_of_getElem? (i := 86) rfl) rfl), mdX12_isCalm⟩
theorem vX12_467 : VL RX12 467 mX12_keepNow 0 := ⟨(TB8 (List.mem_of_getElem? (i := 88) rfl) rfl), (TB8 (List.mem_of_getElem? (i := 90) rfl) rfl), (TBp (List.mem_of_getElem? (i := 90) rfl) rfl), mdX12_keepNow⟩
theorem vX12_461 : VL RX12 461 mX12_copies 2 := ⟨(TB8 (List.mem_of_getElem? (i := 92) rfl) rfl), (TB8 (List.mem_of_getElem? (i := 94) rfl) rfl), (TBp (List.mem_of_getElem? (i := 91) rfl) rfl), mdX12_copies⟩
theorem vX12_343 : VL RX12 343 mX12_copiesFat 2 := ⟨(TB8 (List.mem_of_getElem? (i := 96) rfl) rfl), (TB8 (List.mem_of_getElem? (i := 98) rfl) rfl), (TBp (List.mem_of_getElem? (i := 92) rfl) rfl), mdX12_copiesFat⟩
theorem vX12_470 : VL RX12 470 mX12_grows 3 := ⟨(TB8 (List.mem_of_getElem? (i := 100) rfl) rfl), (TB8 (List.mem_of_getElem? (i := 102) rfl) rfl), (TBp (List.mem_of_getElem? (i := 93) rfl) rfl), mdX12_grows⟩
theorem vL_74 : VL RL 74 mX12_off 1 := ⟨(TB8 (List.mem_of_getElem? (i := 104) rfl) rfl), (TB8 (List.mem_of_getElem? (i := 105) rfl) rfl), (TB8 (List.mem_of_getElem? (i := 106) rfl) rfl), mdX12_off⟩
theorem vX12_474 : VL RX12 474 mX12_leaves 2 := ⟨(TB8 (List.mem_of_getElem? (i := 108) rfl) rfl), (TB8 (List.mem_of_getElem? (i := 110) rfl) rfl), (TBp (List.mem_of_getElem? (i := 94) rfl) rfl), mdX12_leaves⟩
theorem vL_79 : VL RL 79 mX12_blow 1 := ⟨(TB8 (List.mem_of_getElem? (i := 112) rfl) rfl), (TB8 (List.mem_of_getElem? (i := 113) rfl) rfl), (TB8 (List.mem_of_getElem? (i := 114) rfl) rfl), mdX12_blow⟩
theorem vL_83 : VL RL 83 mX12_strike 2 := ⟨(TB8 (List.mem_of_getElem? (i := 116) rfl) rfl), (TB8 (List.mem_of_getElem? (i := 117) rfl) rfl), (TB8 (List.mem_of_getElem? (i := 118) rfl) rfl), mdX12_strike⟩
theorem vL_87 : VL RL 87 mX12_high 1 := ⟨(TB8 (List.mem_of_getElem? (i := 120) rfl) rfl), (TB8 (List.mem_of_getElem? (i := 121) rfl) rfl), (TB8 (List.mem_of_getElem? (i := 122) rfl) rfl), mdX12_high⟩
theorem vX12_480 : SL RX12 480 mX12_isLong 2 := ⟨(TB8 (List.mem_of_getElem? (i := 124) rfl) rfl), (TB8 (List.mem_of_getElem? (i := 125) rfl) rfl), mdX12_isLong⟩
theorem vX12_484 : VL RX12 484 mX12_highNow 1 := ⟨(TB8 (List.mem_of_getElem? (i := 127) rfl) rfl), (TB8 (List.mem_of_getElem? (i := 129) rfl) rfl), (TBp (List.mem_of_getElem? (i := 95) rfl) rfl), mdX12_highNow⟩
theorem vX12_477 : VL RX12 477 mX12_highOf 1 := ⟨(TB8 (List.mem_of_getElem? (i := 131) rfl) rfl), (TB8 (List.mem_of_getElem? (i := 133) rfl) rfl), (TBp (List.mem_of_getElem? (i := 96) rfl) rfl), mdX12_highOf⟩
theorem vL_91 : VL RL 91 mX12_creaks 1 := ⟨(TB8 (List.mem_of_getElem? (i := 135) rfl) rfl), (TB8 (List.mem_of_getElem? (i := 136) rfl) rfl), (TB8 (List.mem_of_getElem? (i := 137) rfl) rfl), mdX12_creaks⟩
theorem vL_96 : VL RL 96 mX12_lies 4 := ⟨(TB8 (List.mem_of_getElem? (i := 139) rfl) rfl), (TB8 (List.mem_of_getElem? (i := 140) rfl) rfl), (TB8 (List.mem_of_getElem? (i := 141) rfl) rfl), mdX12_lies⟩
theorem vX12_490 : VL RX12 490 mX12_layLies 3 := ⟨(TB8 (List.mem_of_getElem? (i := 143) rfl) rfl), (TB8 (List.mem_of_getElem? (i := 145) rfl) rfl), (TBp (List.mem_of_getElem? (i := 97) rfl) rfl), mdX12_layLies⟩
theorem vL_101 : VL RL 101 mX12_fewest 3 := ⟨(TB8 (List.mem_of_getElem? (i := 147) rfl) rfl), (TB8 (List.mem_of_getElem? (i := 148) rfl) rfl), (TB8 (List.mem_of_getElem? (i := 149) rfl) rfl), mdX12_fewest⟩
theorem vL_105 : VL RL 105 mX12_forbidden 3 := ⟨(TB8 (List.mem_of_getElem? (i := 151) rfl) rfl), (TB8 (List.mem_of_getElem? (i := 152) rfl) rfl), (TB8 (List.mem_of_getElem? (i := 153) rfl) rfl), mdX12_forbidden⟩
theorem vX12_493 : VL RX12 493 mX12_begins 0 := ⟨(TB8 (List.mem_of_getElem? (i := 155) rfl) rfl), (TB8 (List.mem_of_getElem? (i := 157) rfl) rfl), (TBp (List.mem_of_getElem? (i := 98) rfl) rfl), mdX12_begins⟩
theorem vL_109 : VL RL 109 mX12_cancel 3 := ⟨(TB8 (List.mem_of_getElem? (i := 159) rfl) rfl), (TB8 (List.mem_of_getElem? (i := 160) rfl) rfl), (TB8 (List.mem_of_getElem? (i := 161) rfl) rfl), mdX12_cancel⟩
theorem vX12_499 : VL RX12 499 mX12_highBy 2 := ⟨(TB8 (List.mem_of_getElem? (i := 163) rfl) rfl), (TB8 (List.mem_of_getElem? (i := 165) rfl) rfl), (TBp (List.mem_of_getElem? (i := 99) rfl) rfl), mdX12_highBy⟩
theorem vX12_496 : VL RX12 496 mX12_beginsWith 1 := ⟨(TB8 (List.mem_of_getElem? (i := 167) rfl) rfl), (TB8 (List.mem_of_getElem? (i := 169) rfl) rfl), (TBp (List.mem_of_getElem? (i := 100) rfl) rfl), mdX12_beginsWith⟩
theorem vL_113 : VL RL 113 mX12_owes 2 := ⟨(TB8 (List.mem_of_getElem? (i := 171) rfl) rfl), (TB8 (List.mem_of_getElem? (i := 172) rfl) rfl), (TB8 (List.mem_of_getElem? (i := 173) rfl) rfl), mdX12_owes⟩
theorem vL_117 : VL RL 117 mX12_pump 4 := ⟨(TB8 (List.mem_of_getElem? (i := 175) rfl) rfl), (TB8 (List.mem_of_getElem? (i := 176) rfl) rfl), (TB8 (List.mem_of_getElem? (i := 177) rfl) rfl), mdX12_pump⟩
theorem vX12_508 : SL RX12 508 mX12_isForce 1 := ⟨(TB8 (List.mem_of_getElem? (i := 179) rfl) rfl), (TB8 (List.mem_of_getElem? (i := 180) rfl) rfl), mdX12_isForce⟩
theorem vX12_511 : VL RX12 511 mX12_layPump 3 := ⟨(TB8 (List.mem_of_getElem? (i := 182) rfl) rfl), (TB8 (List.mem_of_getElem? (i := 184) rfl) rfl), (TBp (List.mem_of_getElem? (i := 101) rfl) rfl), mdX12_layPump⟩
theorem vL_121 : VL RL 121 mX12_keeper 5 := ⟨(TB8 (List.mem_of_getElem? (i := 186) rfl) rfl), (TB8 (List.mem_of_getElem? (i := 187) rfl) rfl), (TB8 (List.mem_of_getElem? (i := 188) rfl) rfl), mdX12_keeper⟩
theorem vL_126 : VL RL 126 mX12_groan 4 := ⟨(TB8 (List.mem_of_getElem? (i := 190) rfl) rfl), (TB8 (List.mem_of_getElem? (i := 191) rfl) rfl), (TB8 (List.mem_of_getElem? (i := 192) rfl) rfl), mdX12_groan⟩
theorem vL_130 : VL RL 130 mX12_unsay 1 := ⟨(TB8 (List.mem_of_getElem? (i := 194) rfl) rfl), (TB8 (List.mem_of_getElem? (i := 195) rfl) rfl), (TB8 (List.mem_of_getElem? (i := 196) rfl) rfl), mdX12_unsay⟩
theorem vL_134 : VL RL 134 mX12_known 1 := ⟨(TB8 (List.mem_of_getElem? (i := 198) rfl) rfl), (TB8 (List.mem_of_getElem? (i := 199) rfl) rfl), (TB8 (List.mem_of_getElem? (i := 200) rfl) rfl), mdX12_known⟩
theorem vL_138 : VL RL 138 mX12_began 0 := ⟨(TB8 (List.mem_of_getElem? (i := 202) rfl) rfl), (TB8 (List.mem_of_getElem? (i := 203) rfl) rfl), (TB8 (List.mem_of_getElem? (i := 204) rfl) rfl), mdX12_began⟩
theorem vX12_530 : VL RX12 530 mX12_setOf 1 := ⟨(TB8 (List.mem_of_getElem? (i := 206) rfl) rfl), (TB8 (List.mem_of_getElem? (i := 208) rfl) rfl), (TBp (List.mem_of_getElem? (i := 102) rfl) rfl), mdX12_setOf⟩
theorem vX12_524 : VL RX12 524 mX12_layStruck 0 := ⟨(TB8 (List.mem_of_getElem? (i := 210) rfl) rfl), (TB8 (List.mem_of_getElem? (i := 212) rfl) rfl), (TBp (List.mem_of_getElem? (i := 103) rfl) rfl), mdX12_layStruck⟩
theorem vX12_514 : VL RX12 514 mX12_knownMany 0 := ⟨(TB8 (List.mem_of_getElem? (i := 214) rfl) rfl), (TB8 (List.mem_of_getElem? (i := 216) rfl) rfl), (TBp (List.mem_of_getElem? (i := 104) rfl) rfl), mdX12_knownMany⟩
theorem vX12_527 : VL RX12 527 mX12_isSet 1 := ⟨(TB8 (List.mem_of_getElem? (i := 218) rfl) rfl), (TB8 (List.mem_of_getElem? (i := 220) rfl) rfl), (TBp (List.mem_of_getElem? (i := 105) rfl) rfl), mdX12_isSet⟩
theorem vX12_520 : VL RX12 520 mX12_areSo 0 := ⟨(TB8 (List.mem_of_getElem? (i := 222) rfl) rfl), (TB8 (List.mem_of_getElem? (i := 224) rfl) rfl), (TBp (List.mem_of_getElem? (i := 106) rfl) rfl), mdX12_areSo⟩
theorem vX12_517 : VL RX12 517 mX12_isGroan 1 := ⟨(TB8 (List.mem_of_getElem? (i := 226) rfl) rfl), (TB8 (List.mem_of_getElem? (i := 228) rfl) rfl), (TBp (List.mem_of_getElem? (i := 107) rfl) rfl), mdX12_isGroan⟩
theorem vL_142 : VL RL 142 mX12_set 1 := ⟨(TB8 (List.mem_of_getElem? (i := 230) rfl) rfl), (TB8 (List.mem_of_getElem? (i := 231) rfl) rfl), (TB8 (List.mem_of_getElem? (i := 232) rfl) rfl), mdX12_set⟩
theorem vL_146 : VL RL 146 mX12_sure 1 := ⟨(TB8 (List.mem_of_getElem? (i := 234) rfl) rfl), (TB8 (List.mem_of_getElem? (i := 235) rfl) rfl), (TB8 (List.mem_of_getElem? (i := 236) rfl) rfl), mdX12_sure⟩
theorem vL_150 : VL RL 150 mX12_fits 0 := ⟨(TB8 (List.mem_of_getElem? (i := 238) rfl) rfl), (TB8 (List.mem_of_getElem? (i := 239) rfl) rfl), (TB9 (List.mem_of_getElem? (i := 0) rfl) rfl), mdX12_fits⟩
theorem vL_154 : VL RL 154 mX12_gales 3 := ⟨(TB9 (List.mem_of_getElem? (i := 2) rfl) rfl), (TB9 (List.mem_of_getElem? (i := 3) rfl) rfl), (TB9 (List.mem_of_getElem? (i := 4) rfl) rfl), mdX12_gales⟩
theorem vL_158 : VL RL 158 mX12_tried 3 := ⟨(TB9 (List.mem_of_getElem? (i := 6) rfl) rfl), (TB9 (List.mem_of_getElem? (i := 7) rfl) rfl), (TB9 (List.mem_of_getElem? (i := 8) rfl) rfl), mdX12_tried⟩
theorem vL_162 : VL RL 162 mX12_undo 0 := ⟨(TB9 (List.mem_of_getElem? (i := 10) rfl) rfl), (TB9 (List.mem_of_getElem? (i := 11) rfl) rfl), (TB9 (List.mem_of_getElem? (i := 12) rfl) rfl), mdX12_undo⟩
theorem vL_166 : VL RL 166 mX12_keep 0 := ⟨(TB9 (List.mem_of_getElem? (i := 14) rfl) rfl), (TB9 (List.mem_of_getElem? (i := 15) rfl) rfl), (TB9 (List.mem_of_getElem? (i := 16) rfl) rfl), mdX12_keep⟩
theorem vX12_533 : VL RX12 533 mX12_copiesLog 2 := ⟨(TB9 (List.mem_of_getElem? (i := 18) rfl) rfl), (TB9 (List.mem_of_getElem? (i := 20) rfl) rfl), (TBp (List.mem_of_getElem? (i := 108) rfl) rfl), mdX12_copiesLog⟩
theorem vL_170 : VL RL 170 mX12_back 0 := ⟨(TB9 (List.mem_of_getElem? (i := 22) rfl) rfl), (TB9 (List.mem_of_getElem? (i := 23) rfl) rfl), (TB9 (List.mem_of_getElem? (i := 24) rfl) rfl), mdX12_back⟩
theorem vL_174 : VL RL 174 mX12_count 1 := ⟨(TB9 (List.mem_of_getElem? (i := 26) rfl) rfl), (TB9 (List.mem_of_getElem? (i := 27) rfl) rfl), (TB9 (List.mem_of_getElem? (i := 28) rfl) rfl), mdX12_count⟩
-- calls of nest mates
theorem vX7_22 : NL RX7 22 mX0_init 0 "WalkingBridge" (Cond.instanceMethod yX0_init) := ⟨(TA1 (List.mem_of_getElem? (i := 201) rfl)), (TB1 (List.mem_of_getElem? (i := 202) rfl) rfl), mdX0_init⟩
theorem vX7_29 : NL RX7 29 mX2_init 0 "WalkingBridge" (Cond.instanceMethod yX2_init) := ⟨(TA1 (List.mem_of_getElem? (i := 233) rfl)), (TB1 (List.mem_of_getElem? (i := 234) rfl) rfl), mdX2_init⟩
theorem vX7_42 : NL RX7 42 mX5_init 0 "WalkingBridge" (Cond.instanceMethod yX5_init) := ⟨(TA2 (List.mem_of_getElem? (i := 14) rfl)), (TB2 (List.mem_of_getElem? (i := 15) rfl) rfl), mdX5_init⟩
theorem vX9_11 : NL RX9 11 mX10_init 0 "WalkingBridge" (Cond.instanceMethod yX10_init) := ⟨(TA2 (List.mem_of_getElem? (i := 135) rfl)), (TB2 (List.mem_of_getElem? (i := 136) rfl) rfl), mdX10_init⟩
theorem vX9_33 : NL RX9 33 mX2_init 0 "WalkingBridge" (Cond.instanceMethod yX2_init) := ⟨(TA2 (List.mem_of_getElem? (i := 155) rfl)), (TB1 (List.mem_of_getElem? (i := 234) rfl) rfl), mdX2_init⟩
theorem vX11_58 : NL RX11 58 mX4_init 0 "WalkingBridge" (Cond.instanceMethod yX4_init) := ⟨(TA3 (List.mem_of_getElem? (i := 18) rfl)), (TB3 (List.mem_of_getElem? (i := 19) rfl) rfl), mdX4_init⟩
theorem vX11_65 : NL RX11 65 mX1_init 0 "WalkingBridge" (Cond.instanceMethod yX1_init) := ⟨(TA3 (List.mem_of_getElem? (i := 49) rfl)), (TB3 (List.mem_of_getElem? (i := 50) rfl) rfl), mdX1_init⟩
theorem vX11_72 : NL RX11 72 mX0_init 0 "WalkingBridge" (Cond.instanceMethod yX0_init) := ⟨(TA3 (List.mem_of_getElem? (i := 71) rfl)), (TB1 (List.mem_of_getElem? (i := 202) rfl) rfl), mdX0_init⟩
theorem vX11_79 : NL RX11 79 mX5_init 0 "WalkingBridge" (Cond.instanceMethod yX5_init) := ⟨(TA3 (List.mem_of_getElem? (i := 73) rfl)), (TB2 (List.mem_of_getElem? (i := 15) rfl) rfl), mdX5_init⟩
theorem vX10_34 : NL RX10 34 mX11_within 2 "WalkingBridge" (Cond.static yX11_within) := ⟨(TA4 (List.mem_of_getElem? (i := 209) rfl)), (TB4 (List.mem_of_getElem? (i := 210) rfl) rfl), mdX11_within⟩
-- members of the JDK that the kit has rows for
theorem jX11_3 : Cond.methodLink RX11 3 Lib.objectInit ∈ TB := (TB1 (List.mem_of_getElem? (i := 33) rfl) rfl)
theorem jX6_3 : Cond.methodLink RX6 3 Lib.objectInit ∈ TB := (TB1 (List.mem_of_getElem? (i := 41) rfl) rfl)
theorem jX8_3 : Cond.methodLink RX8 3 Lib.objectInit ∈ TB := (TB1 (List.mem_of_getElem? (i := 47) rfl) rfl)
theorem jX3_3 : Cond.methodLink RX3 3 Lib.objectInit ∈ TB := (TB1 (List.mem_of_getElem? (i := 138) rfl) rfl)
theorem jX7_3 : Cond.methodLink RX7 3 Lib.objectInit ∈ TB := (TB1 (List.mem_of_getElem? (i := 196) rfl) rfl)
theorem jX0_3 : Cond.methodLink RX0 3 Lib.objectInit ∈ TB := (TB1 (List.mem_of_getElem? (i := 204) rfl) rfl)
theorem jX2_3 : Cond.methodLink RX2 3 Lib.objectInit ∈ TB := (TB1 (List.mem_of_getElem? (i := 236) rfl) rfl)
theorem jX5_3 : Cond.methodLink RX5 3 Lib.objectInit ∈ TB := (TB2 (List.mem_of_getElem? (i := 17) rfl) rfl)
theorem jX9_3 : Cond.methodLink RX9 3 Lib.objectInit ∈ TB := (TB2 (List.mem_of_getElem? (i := 132) rfl) rfl)
theorem jX10_3 : Cond.methodLink RX10 3 Lib.objectInit ∈ TB := (TB2 (List.mem_of_getElem? (i := 138) rfl) rfl)
theorem jX2_22 : Cond.methodLink RX2 22 arraycopyName ∈ TB := (TB2 (List.mem_of_getElem? (i := 164) rfl) rfl)
theorem jX9_138 : Cond.methodLink RX9 138 Lib.Math.min.name ∈ TB := (TB2 (List.mem_of_getElem? (i := 172) rfl) rfl)
theorem jX4_3 : Cond.methodLink RX4 3 Lib.objectInit ∈ TB := (TB3 (List.mem_of_getElem? (i := 21) rfl) rfl)
theorem jX1_3 : Cond.methodLink RX1 3 Lib.objectInit ∈ TB := (TB3 (List.mem_of_getElem? (i := 52) rfl) rfl)
theorem jX8_35 : Cond.methodLink RX8 35 Lib.Math.min.name ∈ TB := (TB3 (List.mem_of_getElem? (i := 150) rfl) rfl)
theorem jX3_86 : Cond.methodLink RX3 86 Lib.Math.max.name ∈ TB := (TB4 (List.mem_of_getElem? (i := 57) rfl) rfl)
theorem jX5_33 : Cond.methodLink RX5 33 Lib.MathLoose.abs_long.x ∈ TB := (TB4 (List.mem_of_getElem? (i := 120) rfl) rfl)
theorem jX10_38 : Cond.methodLink RX10 38 Lib.Math.abs.name ∈ TB := (TB4 (List.mem_of_getElem? (i := 151) rfl) rfl)
theorem jX10_44 : Cond.methodLink RX10 44 Lib.Math.max.name ∈ TB := (TB4 (List.mem_of_getElem? (i := 154) rfl) rfl)
theorem jX9_215 : Cond.methodLink RX9 215 Lib.MathLoose.min_long.x ∈ TB := (TB4 (List.mem_of_getElem? (i := 189) rfl) rfl)
theorem jX9_218 : Cond.methodLink RX9 218 Lib.MathLoose.max_long.x ∈ TB := (TB4 (List.mem_of_getElem? (i := 192) rfl) rfl)
theorem jX9_126 : Cond.methodLink RX9 126 Lib.Math.max.name ∈ TB := (TB4 (List.mem_of_getElem? (i := 203) rfl) rfl)
theorem jX11_413 : Cond.methodLink RX11 413 Lib.Math.min.name ∈ TB := (TB4 (List.mem_of_getElem? (i := 212) rfl) rfl)
theorem jX11_342 : Cond.methodLink RX11 342 Lib.Math.max.name ∈ TB := (TB4 (List.mem_of_getElem? (i := 213) rfl) rfl)
theorem jX9_230 : Cond.methodLink RX9 230 Lib.Math.abs.name ∈ TB := (TB4 (List.mem_of_getElem? (i := 218) rfl) rfl)
theorem jX1_28 : Cond.methodLink RX1 28 arraycopyName ∈ TB := (TB5 (List.mem_of_getElem? (i := 6) rfl) rfl)
theorem jX10_27 : Cond.methodLink RX10 27 arraycopyName ∈ TB := (TB5 (List.mem_of_getElem? (i := 41) rfl) rfl)
theorem jX9_113 : Cond.methodLink RX9 113 arraycopyName ∈ TB := (TB5 (List.mem_of_getElem? (i := 42) rfl) rfl)
theorem jX11_289 : Cond.methodLink RX11 289 arraycopyName ∈ TB := (TB5 (List.mem_of_getElem? (i := 43) rfl) rfl)
theorem jX11_309 : Cond.methodLink RX11 309 Lib.Math.abs.name ∈ TB := (TB5 (List.mem_of_getElem? (i := 66) rfl) rfl)
theorem jX4_39 : Cond.methodLink RX4 39 Lib.Math.max.name ∈ TB := (TB5 (List.mem_of_getElem? (i := 165) rfl) rfl)
theorem jX4_45 : Cond.methodLink RX4 45 Lib.Math.abs.name ∈ TB := (TB5 (List.mem_of_getElem? (i := 170) rfl) rfl)
theorem jX12_3 : Cond.methodLink RX12 3 Lib.objectInit ∈ TB := (TB6 (List.mem_of_getElem? (i := 65) rfl) rfl)
theorem jX12_346 : Cond.methodLink RX12 346 Lib.Math.min.name ∈ TB := (TB8 (List.mem_of_getElem? (i := 1) rfl) rfl)
theorem jX12_361 : Cond.methodLink RX12 361 Lib.MathLoose.abs_long.x ∈ TB := (TB8 (List.mem_of_getElem? (i := 30) rfl) rfl)
theorem jX12_382 : Cond.methodLink RX12 382 Lib.MathLoose.min_long.x ∈ TB := (TB8 (List.mem_of_getElem? (i := 51) rfl) rfl)
theorem jX12_385 : Cond.methodLink RX12 385 Lib.MathLoose.max_long.x ∈ TB := (TB8 (List.mem_of_getElem? (i := 52) rfl) rfl)
theorem jX12_351 : Cond.methodLink RX12 351 Lib.Math.max.name ∈ TB := (TB8 (List.mem_of_getElem? (i := 63) rfl) rfl)
theorem jX12_441 : Cond.methodLink RX12 441 Lib.Math.abs.name ∈ TB := (TB8 (List.mem_of_getElem? (i := 72) rfl) rfl)
theorem jw_mmax : Cond.static Lib.Math.max.name ∈ TB ∧ Cond.initialized "java/lang/Math" ∈ TB ∧ Cond.code Lib.Math.max.name Lib.Math.max.code 2 (some .int) ∈ TB := ⟨(TB4 (List.mem_of_getElem? (i := 58) rfl) rfl), (TB1 (List.mem_of_getElem? (i := 17) rfl) rfl), (TB4 (List.mem_of_getElem? (i := 59) rfl) rfl)⟩
theorem jw_mmin : Cond.static Lib.Math.min.name ∈ TB ∧ Cond.initialized "java/lang/Math" ∈ TB ∧ Cond.code Lib.Math.min.name Lib.Math.min.code 2 (some .int) ∈ TB := ⟨(TB2 (List.mem_of_getElem? (i := 173) rfl) rfl), (TB1 (List.mem_of_getElem? (i := 17) rfl) rfl), (TB2 (List.mem_of_getElem? (i := 174) rfl) rfl)⟩
theorem jw_mabs : Cond.static Lib.Math.abs.name ∈ TB ∧ Cond.initialized "java/lang/Math" ∈ TB ∧ Cond.code Lib.Math.abs.name Lib.Math.abs.code 1 (some .int) ∈ TB := ⟨(TB4 (List.mem_of_getElem? (i := 152) rfl) rfl), (TB1 (List.mem_of_getElem? (i := 17) rfl) rfl), (TB4 (List.mem_of_getElem? (i := 153) rfl) rfl)⟩
theorem jw_mmaxL : Cond.static Lib.MathLoose.max_long.x ∈ TB ∧ Cond.initialized "java/lang/Math" ∈ TB ∧ Cond.code Lib.MathLoose.max_long.x Lib.MathLoose.max_long.code 4 (some .long) ∈ TB := ⟨(TB4 (List.mem_of_getElem? (i := 193) rfl) rfl), (TB1 (List.mem_of_getElem? (i := 17) rfl) rfl), (TB4 (List.mem_of_getElem? (i := 194) rfl) rfl)⟩
theorem jw_mminL : Cond.static Lib.MathLoose.min_long.x ∈ TB ∧ Cond.initialized "java/lang/Math" ∈ TB ∧ Cond.code Lib.MathLoose.min_long.x Lib.MathLoose.min_long.code 4 (some .long) ∈ TB := ⟨(TB4 (List.mem_of_getElem? (i := 190) rfl) rfl), (TB1 (List.mem_of_getElem? (i := 17) rfl) rfl), (TB4 (List.mem_of_getElem? (i := 191) rfl) rfl)⟩
theorem jw_mabsL : Cond.static Lib.MathLoose.abs_long.x ∈ TB ∧ Cond.initialized "java/lang/Math" ∈ TB ∧ Cond.code Lib.MathLoose.abs_long.x Lib.MathLoose.abs_long.code 2 (some .long) ∈ TB := ⟨(TB4 (List.mem_of_getElem? (i := 121) rfl) rfl), (TB1 (List.mem_of_getElem? (i := 17) rfl) rfl), (TB4 (List.mem_of_getElem? (i := 122) rfl) rfl)⟩
theorem jw_copy : Cond.native arraycopyName ∈ TB ∧ Cond.static arraycopyName ∈ TB ∧ Cond.initialized "java/lang/System" ∈ TB := ⟨(TB2 (List.mem_of_getElem? (i := 166) rfl) rfl), (TB2 (List.mem_of_getElem? (i := 165) rfl) rfl), (TB1 (List.mem_of_getElem? (i := 16) rfl) rfl)⟩
theorem jw_objInit : Cond.instanceMethod Lib.objectInit ∈ TB ∧ Cond.code Lib.objectInit ⟨#[0xb1]⟩ 1 none ∈ TB := ⟨(TB1 (List.mem_of_getElem? (i := 34) rfl) rfl), (TB1 (List.mem_of_getElem? (i := 35) rfl) rfl)⟩
-- fields
theorem fX6_56 : FL RX6 56 8 0 := ⟨by decide, by decide +kernel, (TB1 (List.mem_of_getElem? (i := 100) rfl) rfl), rfl⟩
theorem fX3_49 : FL RX3 49 8 0 := ⟨by decide, by decide +kernel, (TB1 (List.mem_of_getElem? (i := 101) rfl) rfl), rfl⟩
theorem fX8_56 : FL RX8 56 8 0 := ⟨by decide, by decide +kernel, (TB1 (List.mem_of_getElem? (i := 102) rfl) rfl), rfl⟩
theorem fX8_49 : FL RX8 49 8 1 := ⟨by decide, by decide +kernel, (TB1 (List.mem_of_getElem? (i := 103) rfl) rfl), rfl⟩
theorem fX6_128 : FL RX6 128 8 1 := ⟨by decide, by decide +kernel, (TB1 (List.mem_of_getElem? (i := 104) rfl) rfl), rfl⟩
theorem fX3_77 : FL RX3 77 8 2 := ⟨by decide, by decide +kernel, (TB1 (List.mem_of_getElem? (i := 105) rfl) rfl), rfl⟩
theorem fX8_82 : FL RX8 82 8 2 := ⟨by decide, by decide +kernel, (TB1 (List.mem_of_getElem? (i := 106) rfl) rfl), rfl⟩
theorem fX6_180 : FL RX6 180 8 2 := ⟨by decide, by decide +kernel, (TB1 (List.mem_of_getElem? (i := 107) rfl) rfl), rfl⟩
theorem fX8_76 : FL RX8 76 8 3 := ⟨by decide, by decide +kernel, (TB1 (List.mem_of_getElem? (i := 108) rfl) rfl), rfl⟩
theorem fX6_171 : FL RX6 171 8 3 := ⟨by decide, by decide +kernel, (TB1 (List.mem_of_getElem? (i := 109) rfl) rfl), rfl⟩
theorem fX8_15 : FL RX8 15 8 4 := ⟨by decide, by decide +kernel, (TB1 (List.mem_of_getElem? (i := 110) rfl) rfl), rfl⟩
theorem fX8_40 : FL RX8 40 8 5 := ⟨by decide, by decide +kernel, (TB1 (List.mem_of_getElem? (i := 111) rfl) rfl), rfl⟩
theorem fX8_43 : FL RX8 43 8 6 := ⟨by decide, by decide +kernel, (TB1 (List.mem_of_getElem? (i := 112) rfl) rfl), rfl⟩
theorem fX8_9 : FL RX8 9 8 7 := ⟨by decide, by decide +kernel, (TB1 (List.mem_of_getElem? (i := 113) rfl) rfl), rfl⟩
theorem fX3_15 : FL RX3 15 3 0 := ⟨by decide, by decide +kernel, (TB1 (List.mem_of_getElem? (i := 139) rfl) rfl), rfl⟩
theorem fX3_19 : FL RX3 19 3 1 := ⟨by decide, by decide +kernel, (TB1 (List.mem_of_getElem? (i := 140) rfl) rfl), rfl⟩
theorem fX3_23 : FL RX3 23 3 2 := ⟨by decide, by decide +kernel, (TB1 (List.mem_of_getElem? (i := 141) rfl) rfl), rfl⟩
theorem fX3_9 : FL RX3 9 3 3 := ⟨by decide, by decide +kernel, (TB1 (List.mem_of_getElem? (i := 142) rfl) rfl), rfl⟩
theorem fX3_33 : FL RX3 33 3 4 := ⟨by decide, by decide +kernel, (TB1 (List.mem_of_getElem? (i := 143) rfl) rfl), rfl⟩
theorem fX3_36 : FL RX3 36 3 5 := ⟨by decide, by decide +kernel, (TB1 (List.mem_of_getElem? (i := 144) rfl) rfl), rfl⟩
theorem fX3_39 : FL RX3 39 3 6 := ⟨by decide, by decide +kernel, (TB1 (List.mem_of_getElem? (i := 145) rfl) rfl), rfl⟩
theorem fX3_42 : FL RX3 42 3 7 := ⟨by decide, by decide +kernel, (TB1 (List.mem_of_getElem? (i := 146) rfl) rfl), rfl⟩
theorem fX3_46 : FL RX3 46 3 8 := ⟨by decide, by decide +kernel, (TB1 (List.mem_of_getElem? (i := 147) rfl) rfl), rfl⟩
theorem fX6_42 : FL RX6 42 6 0 := ⟨by decide, by decide +kernel, (TB1 (List.mem_of_getElem? (i := 167) rfl) rfl), rfl⟩
theorem fX11_115 : FL RX11 115 6 0 := ⟨by decide, by decide +kernel, (TB1 (List.mem_of_getElem? (i := 168) rfl) rfl), rfl⟩
theorem fX6_9 : FL RX6 9 6 1 := ⟨by decide, by decide +kernel, (TB1 (List.mem_of_getElem? (i := 169) rfl) rfl), rfl⟩
theorem fX11_118 : FL RX11 118 6 1 := ⟨by decide, by decide +kernel, (TB1 (List.mem_of_getElem? (i := 170) rfl) rfl), rfl⟩
theorem fX6_20 : FL RX6 20 6 2 := ⟨by decide, by decide +kernel, (TB1 (List.mem_of_getElem? (i := 171) rfl) rfl), rfl⟩
theorem fX6_29 : FL RX6 29 6 3 := ⟨by decide, by decide +kernel, (TB1 (List.mem_of_getElem? (i := 172) rfl) rfl), rfl⟩
theorem fX6_33 : FL RX6 33 6 4 := ⟨by decide, by decide +kernel, (TB1 (List.mem_of_getElem? (i := 173) rfl) rfl), rfl⟩
theorem fX6_45 : FL RX6 45 6 5 := ⟨by decide, by decide +kernel, (TB1 (List.mem_of_getElem? (i := 174) rfl) rfl), rfl⟩
theorem fX6_48 : FL RX6 48 6 6 := ⟨by decide, by decide +kernel, (TB1 (List.mem_of_getElem? (i := 175) rfl) rfl), rfl⟩
theorem fX0_27 : FL RX0 27 0 0 := ⟨by decide, by decide +kernel, (TB1 (List.mem_of_getElem? (i := 205) rfl) rfl), rfl⟩
theorem fX7_91 : FL RX7 91 0 0 := ⟨by decide, by decide +kernel, (TB1 (List.mem_of_getElem? (i := 206) rfl) rfl), rfl⟩
theorem fX9_151 : FL RX9 151 0 0 := ⟨by decide, by decide +kernel, (TB1 (List.mem_of_getElem? (i := 207) rfl) rfl), rfl⟩
theorem fX11_331 : FL RX11 331 0 0 := ⟨by decide, by decide +kernel, (TB1 (List.mem_of_getElem? (i := 208) rfl) rfl), rfl⟩
theorem fX0_9 : FL RX0 9 0 1 := ⟨by decide, by decide +kernel, (TB1 (List.mem_of_getElem? (i := 209) rfl) rfl), rfl⟩
theorem fX11_145 : FL RX11 145 0 1 := ⟨by decide, by decide +kernel, (TB1 (List.mem_of_getElem? (i := 210) rfl) rfl), rfl⟩
theorem fX9_190 : FL RX9 190 0 1 := ⟨by decide, by decide +kernel, (TB1 (List.mem_of_getElem? (i := 211) rfl) rfl), rfl⟩
theorem fX0_15 : FL RX0 15 0 2 := ⟨by decide, by decide +kernel, (TB1 (List.mem_of_getElem? (i := 212) rfl) rfl), rfl⟩
theorem fX11_148 : FL RX11 148 0 2 := ⟨by decide, by decide +kernel, (TB1 (List.mem_of_getElem? (i := 213) rfl) rfl), rfl⟩
theorem fX0_18 : FL RX0 18 0 3 := ⟨by decide, by decide +kernel, (TB1 (List.mem_of_getElem? (i := 214) rfl) rfl), rfl⟩
theorem fX0_21 : FL RX0 21 0 4 := ⟨by decide, by decide +kernel, (TB1 (List.mem_of_getElem? (i := 215) rfl) rfl), rfl⟩
theorem fX9_187 : FL RX9 187 0 4 := ⟨by decide, by decide +kernel, (TB1 (List.mem_of_getElem? (i := 216) rfl) rfl), rfl⟩
theorem fX0_24 : FL RX0 24 0 5 := ⟨by decide, by decide +kernel, (TB1 (List.mem_of_getElem? (i := 217) rfl) rfl), rfl⟩
theorem fX2_18 : FL RX2 18 2 0 := ⟨by decide, by decide +kernel, (TB1 (List.mem_of_getElem? (i := 237) rfl) rfl), rfl⟩
theorem fX7_94 : FL RX7 94 2 0 := ⟨by decide, by decide +kernel, (TB1 (List.mem_of_getElem? (i := 238) rfl) rfl), rfl⟩
theorem fX9_123 : FL RX9 123 2 0 := ⟨by decide, by decide +kernel, (TB1 (List.mem_of_getElem? (i := 239) rfl) rfl), rfl⟩
theorem fX11_219 : FL RX11 219 2 0 := ⟨by decide, by decide +kernel, (TB2 (List.mem_of_getElem? (i := 0) rfl) rfl), rfl⟩
theorem fX2_9 : FL RX2 9 2 1 := ⟨by decide, by decide +kernel, (TB2 (List.mem_of_getElem? (i := 1) rfl) rfl), rfl⟩
theorem fX9_134 : FL RX9 134 2 1 := ⟨by decide, by decide +kernel, (TB2 (List.mem_of_getElem? (i := 2) rfl) rfl), rfl⟩
theorem fX2_15 : FL RX2 15 2 2 := ⟨by decide, by decide +kernel, (TB2 (List.mem_of_getElem? (i := 3) rfl) rfl), rfl⟩
theorem fX9_137 : FL RX9 137 2 2 := ⟨by decide, by decide +kernel, (TB2 (List.mem_of_getElem? (i := 4) rfl) rfl), rfl⟩
theorem fX5_19 : FL RX5 19 5 0 := ⟨by decide, by decide +kernel, (TB2 (List.mem_of_getElem? (i := 18) rfl) rfl), rfl⟩
theorem fX3_27 : FL RX3 27 5 0 := ⟨by decide, by decide +kernel, (TB2 (List.mem_of_getElem? (i := 19) rfl) rfl), rfl⟩
theorem fX7_95 : FL RX7 95 5 0 := ⟨by decide, by decide +kernel, (TB2 (List.mem_of_getElem? (i := 20) rfl) rfl), rfl⟩
theorem fX5_9 : FL RX5 9 5 1 := ⟨by decide, by decide +kernel, (TB2 (List.mem_of_getElem? (i := 21) rfl) rfl), rfl⟩
theorem fX5_15 : FL RX5 15 5 2 := ⟨by decide, by decide +kernel, (TB2 (List.mem_of_getElem? (i := 22) rfl) rfl), rfl⟩
theorem fX7_57 : FL RX7 57 7 0 := ⟨by decide, by decide +kernel, (TB2 (List.mem_of_getElem? (i := 39) rfl) rfl), rfl⟩
theorem fX6_99 : FL RX6 99 7 0 := ⟨by decide, by decide +kernel, (TB2 (List.mem_of_getElem? (i := 40) rfl) rfl), rfl⟩
theorem fX9_144 : FL RX9 144 7 0 := ⟨by decide, by decide +kernel, (TB2 (List.mem_of_getElem? (i := 41) rfl) rfl), rfl⟩
theorem fX11_209 : FL RX11 209 7 0 := ⟨by decide, by decide +kernel, (TB2 (List.mem_of_getElem? (i := 42) rfl) rfl), rfl⟩
theorem fX7_61 : FL RX7 61 7 1 := ⟨by decide, by decide +kernel, (TB2 (List.mem_of_getElem? (i := 43) rfl) rfl), rfl⟩
theorem fX6_102 : FL RX6 102 7 1 := ⟨by decide, by decide +kernel, (TB2 (List.mem_of_getElem? (i := 44) rfl) rfl), rfl⟩
theorem fX9_168 : FL RX9 168 7 1 := ⟨by decide, by decide +kernel, (TB2 (List.mem_of_getElem? (i := 45) rfl) rfl), rfl⟩
theorem fX7_64 : FL RX7 64 7 2 := ⟨by decide, by decide +kernel, (TB2 (List.mem_of_getElem? (i := 46) rfl) rfl), rfl⟩
theorem fX6_105 : FL RX6 105 7 2 := ⟨by decide, by decide +kernel, (TB2 (List.mem_of_getElem? (i := 47) rfl) rfl), rfl⟩
theorem fX9_175 : FL RX9 175 7 2 := ⟨by decide, by decide +kernel, (TB2 (List.mem_of_getElem? (i := 48) rfl) rfl), rfl⟩
theorem fX7_67 : FL RX7 67 7 3 := ⟨by decide, by decide +kernel, (TB2 (List.mem_of_getElem? (i := 49) rfl) rfl), rfl⟩
theorem fX9_132 : FL RX9 132 7 3 := ⟨by decide, by decide +kernel, (TB2 (List.mem_of_getElem? (i := 50) rfl) rfl), rfl⟩
theorem fX7_70 : FL RX7 70 7 4 := ⟨by decide, by decide +kernel, (TB2 (List.mem_of_getElem? (i := 51) rfl) rfl), rfl⟩
theorem fX9_68 : FL RX9 68 7 4 := ⟨by decide, by decide +kernel, (TB2 (List.mem_of_getElem? (i := 52) rfl) rfl), rfl⟩
theorem fX7_73 : FL RX7 73 7 5 := ⟨by decide, by decide +kernel, (TB2 (List.mem_of_getElem? (i := 53) rfl) rfl), rfl⟩
theorem fX9_178 : FL RX9 178 7 5 := ⟨by decide, by decide +kernel, (TB2 (List.mem_of_getElem? (i := 54) rfl) rfl), rfl⟩
theorem fX7_76 : FL RX7 76 7 6 := ⟨by decide, by decide +kernel, (TB2 (List.mem_of_getElem? (i := 55) rfl) rfl), rfl⟩
theorem fX9_162 : FL RX9 162 7 6 := ⟨by decide, by decide +kernel, (TB2 (List.mem_of_getElem? (i := 56) rfl) rfl), rfl⟩
theorem fX7_79 : FL RX7 79 7 7 := ⟨by decide, by decide +kernel, (TB2 (List.mem_of_getElem? (i := 57) rfl) rfl), rfl⟩
theorem fX9_73 : FL RX9 73 7 7 := ⟨by decide, by decide +kernel, (TB2 (List.mem_of_getElem? (i := 58) rfl) rfl), rfl⟩
theorem fX7_82 : FL RX7 82 7 8 := ⟨by decide, by decide +kernel, (TB2 (List.mem_of_getElem? (i := 59) rfl) rfl), rfl⟩
theorem fX3_72 : FL RX3 72 7 8 := ⟨by decide, by decide +kernel, (TB2 (List.mem_of_getElem? (i := 60) rfl) rfl), rfl⟩
theorem fX11_224 : FL RX11 224 7 8 := ⟨by decide, by decide +kernel, (TB2 (List.mem_of_getElem? (i := 61) rfl) rfl), rfl⟩
theorem fX7_9 : FL RX7 9 7 9 := ⟨by decide, by decide +kernel, (TB2 (List.mem_of_getElem? (i := 62) rfl) rfl), rfl⟩
theorem fX6_144 : FL RX6 144 7 9 := ⟨by decide, by decide +kernel, (TB2 (List.mem_of_getElem? (i := 63) rfl) rfl), rfl⟩
theorem fX11_212 : FL RX11 212 7 9 := ⟨by decide, by decide +kernel, (TB2 (List.mem_of_getElem? (i := 64) rfl) rfl), rfl⟩
theorem fX7_17 : FL RX7 17 7 10 := ⟨by decide, by decide +kernel, (TB2 (List.mem_of_getElem? (i := 65) rfl) rfl), rfl⟩
theorem fX7_23 : FL RX7 23 7 11 := ⟨by decide, by decide +kernel, (TB2 (List.mem_of_getElem? (i := 66) rfl) rfl), rfl⟩
theorem fX9_52 : FL RX9 52 7 11 := ⟨by decide, by decide +kernel, (TB2 (List.mem_of_getElem? (i := 67) rfl) rfl), rfl⟩
theorem fX6_118 : FL RX6 118 7 11 := ⟨by decide, by decide +kernel, (TB2 (List.mem_of_getElem? (i := 68) rfl) rfl), rfl⟩
theorem fX11_142 : FL RX11 142 7 11 := ⟨by decide, by decide +kernel, (TB2 (List.mem_of_getElem? (i := 69) rfl) rfl), rfl⟩
theorem fX7_30 : FL RX7 30 7 12 := ⟨by decide, by decide +kernel, (TB2 (List.mem_of_getElem? (i := 70) rfl) rfl), rfl⟩
theorem fX9_86 : FL RX9 86 7 12 := ⟨by decide, by decide +kernel, (TB2 (List.mem_of_getElem? (i := 71) rfl) rfl), rfl⟩
theorem fX6_129 : FL RX6 129 7 12 := ⟨by decide, by decide +kernel, (TB2 (List.mem_of_getElem? (i := 72) rfl) rfl), rfl⟩
theorem fX7_34 : FL RX7 34 7 13 := ⟨by decide, by decide +kernel, (TB2 (List.mem_of_getElem? (i := 73) rfl) rfl), rfl⟩
theorem fX6_147 : FL RX6 147 7 13 := ⟨by decide, by decide +kernel, (TB2 (List.mem_of_getElem? (i := 74) rfl) rfl), rfl⟩
theorem fX11_306 : FL RX11 306 7 13 := ⟨by decide, by decide +kernel, (TB2 (List.mem_of_getElem? (i := 75) rfl) rfl), rfl⟩
theorem fX7_37 : FL RX7 37 7 14 := ⟨by decide, by decide +kernel, (TB2 (List.mem_of_getElem? (i := 76) rfl) rfl), rfl⟩
theorem fX6_150 : FL RX6 150 7 14 := ⟨by decide, by decide +kernel, (TB2 (List.mem_of_getElem? (i := 77) rfl) rfl), rfl⟩
theorem fX11_312 : FL RX11 312 7 14 := ⟨by decide, by decide +kernel, (TB2 (List.mem_of_getElem? (i := 78) rfl) rfl), rfl⟩
theorem fX7_43 : FL RX7 43 7 15 := ⟨by decide, by decide +kernel, (TB2 (List.mem_of_getElem? (i := 79) rfl) rfl), rfl⟩
theorem fX9_59 : FL RX9 59 7 15 := ⟨by decide, by decide +kernel, (TB2 (List.mem_of_getElem? (i := 80) rfl) rfl), rfl⟩
theorem fX6_161 : FL RX6 161 7 15 := ⟨by decide, by decide +kernel, (TB2 (List.mem_of_getElem? (i := 81) rfl) rfl), rfl⟩
theorem fX11_196 : FL RX11 196 7 15 := ⟨by decide, by decide +kernel, (TB2 (List.mem_of_getElem? (i := 82) rfl) rfl), rfl⟩
theorem fX7_47 : FL RX7 47 7 16 := ⟨by decide, by decide +kernel, (TB2 (List.mem_of_getElem? (i := 83) rfl) rfl), rfl⟩
theorem fX9_64 : FL RX9 64 7 16 := ⟨by decide, by decide +kernel, (TB2 (List.mem_of_getElem? (i := 84) rfl) rfl), rfl⟩
theorem fX6_165 : FL RX6 165 7 16 := ⟨by decide, by decide +kernel, (TB2 (List.mem_of_getElem? (i := 85) rfl) rfl), rfl⟩
theorem fX11_206 : FL RX11 206 7 16 := ⟨by decide, by decide +kernel, (TB2 (List.mem_of_getElem? (i := 86) rfl) rfl), rfl⟩
theorem fX7_50 : FL RX7 50 7 17 := ⟨by decide, by decide +kernel, (TB2 (List.mem_of_getElem? (i := 87) rfl) rfl), rfl⟩
theorem fX6_153 : FL RX6 153 7 17 := ⟨by decide, by decide +kernel, (TB2 (List.mem_of_getElem? (i := 88) rfl) rfl), rfl⟩
theorem fX11_378 : FL RX11 378 7 17 := ⟨by decide, by decide +kernel, (TB2 (List.mem_of_getElem? (i := 89) rfl) rfl), rfl⟩
theorem fX10_9 : FL RX10 9 10 0 := ⟨by decide, by decide +kernel, (TB2 (List.mem_of_getElem? (i := 139) rfl) rfl), rfl⟩
theorem fX11_169 : FL RX11 169 10 0 := ⟨by decide, by decide +kernel, (TB2 (List.mem_of_getElem? (i := 140) rfl) rfl), rfl⟩
theorem fX9_220 : FL RX9 220 10 0 := ⟨by decide, by decide +kernel, (TB2 (List.mem_of_getElem? (i := 141) rfl) rfl), rfl⟩
theorem fX10_15 : FL RX10 15 10 1 := ⟨by decide, by decide +kernel, (TB2 (List.mem_of_getElem? (i := 142) rfl) rfl), rfl⟩
theorem fX11_174 : FL RX11 174 10 1 := ⟨by decide, by decide +kernel, (TB2 (List.mem_of_getElem? (i := 143) rfl) rfl), rfl⟩
theorem fX10_18 : FL RX10 18 10 2 := ⟨by decide, by decide +kernel, (TB2 (List.mem_of_getElem? (i := 144) rfl) rfl), rfl⟩
theorem fX9_197 : FL RX9 197 10 2 := ⟨by decide, by decide +kernel, (TB2 (List.mem_of_getElem? (i := 145) rfl) rfl), rfl⟩
theorem fX11_353 : FL RX11 353 10 2 := ⟨by decide, by decide +kernel, (TB2 (List.mem_of_getElem? (i := 146) rfl) rfl), rfl⟩
theorem fX9_48 : FL RX9 48 9 0 := ⟨by decide, by decide +kernel, (TB2 (List.mem_of_getElem? (i := 184) rfl) rfl), rfl⟩
theorem fX9_58 : FL RX9 58 9 1 := ⟨by decide, by decide +kernel, (TB2 (List.mem_of_getElem? (i := 185) rfl) rfl), rfl⟩
theorem fX11_335 : FL RX11 335 9 1 := ⟨by decide, by decide +kernel, (TB2 (List.mem_of_getElem? (i := 186) rfl) rfl), rfl⟩
theorem fX9_63 : FL RX9 63 9 2 := ⟨by decide, by decide +kernel, (TB2 (List.mem_of_getElem? (i := 187) rfl) rfl), rfl⟩
theorem fX11_382 : FL RX11 382 9 2 := ⟨by decide, by decide +kernel, (TB2 (List.mem_of_getElem? (i := 188) rfl) rfl), rfl⟩
theorem fX9_67 : FL RX9 67 9 3 := ⟨by decide, by decide +kernel, (TB2 (List.mem_of_getElem? (i := 189) rfl) rfl), rfl⟩
theorem fX11_406 : FL RX11 406 9 3 := ⟨by decide, by decide +kernel, (TB2 (List.mem_of_getElem? (i := 190) rfl) rfl), rfl⟩
theorem fX9_72 : FL RX9 72 9 4 := ⟨by decide, by decide +kernel, (TB2 (List.mem_of_getElem? (i := 191) rfl) rfl), rfl⟩
theorem fX11_400 : FL RX11 400 9 4 := ⟨by decide, by decide +kernel, (TB2 (List.mem_of_getElem? (i := 192) rfl) rfl), rfl⟩
theorem fX9_12 : FL RX9 12 9 5 := ⟨by decide, by decide +kernel, (TB2 (List.mem_of_getElem? (i := 193) rfl) rfl), rfl⟩
theorem fX11_165 : FL RX11 165 9 5 := ⟨by decide, by decide +kernel, (TB2 (List.mem_of_getElem? (i := 194) rfl) rfl), rfl⟩
theorem fX9_18 : FL RX9 18 9 6 := ⟨by decide, by decide +kernel, (TB2 (List.mem_of_getElem? (i := 195) rfl) rfl), rfl⟩
theorem fX11_177 : FL RX11 177 9 6 := ⟨by decide, by decide +kernel, (TB2 (List.mem_of_getElem? (i := 196) rfl) rfl), rfl⟩
theorem fX9_98 : FL RX9 98 9 7 := ⟨by decide, by decide +kernel, (TB2 (List.mem_of_getElem? (i := 197) rfl) rfl), rfl⟩
theorem fX11_183 : FL RX11 183 9 7 := ⟨by decide, by decide +kernel, (TB2 (List.mem_of_getElem? (i := 198) rfl) rfl), rfl⟩
theorem fX9_21 : FL RX9 21 9 8 := ⟨by decide, by decide +kernel, (TB2 (List.mem_of_getElem? (i := 199) rfl) rfl), rfl⟩
theorem fX11_139 : FL RX11 139 9 8 := ⟨by decide, by decide +kernel, (TB2 (List.mem_of_getElem? (i := 200) rfl) rfl), rfl⟩
theorem fX9_25 : FL RX9 25 9 9 := ⟨by decide, by decide +kernel, (TB2 (List.mem_of_getElem? (i := 201) rfl) rfl), rfl⟩
theorem fX11_151 : FL RX11 151 9 9 := ⟨by decide, by decide +kernel, (TB2 (List.mem_of_getElem? (i := 202) rfl) rfl), rfl⟩
theorem fX9_28 : FL RX9 28 9 10 := ⟨by decide, by decide +kernel, (TB2 (List.mem_of_getElem? (i := 203) rfl) rfl), rfl⟩
theorem fX11_136 : FL RX11 136 9 10 := ⟨by decide, by decide +kernel, (TB2 (List.mem_of_getElem? (i := 204) rfl) rfl), rfl⟩
theorem fX9_34 : FL RX9 34 9 11 := ⟨by decide, by decide +kernel, (TB2 (List.mem_of_getElem? (i := 205) rfl) rfl), rfl⟩
theorem fX11_215 : FL RX11 215 9 11 := ⟨by decide, by decide +kernel, (TB2 (List.mem_of_getElem? (i := 206) rfl) rfl), rfl⟩
theorem fX9_38 : FL RX9 38 9 12 := ⟨by decide, by decide +kernel, (TB2 (List.mem_of_getElem? (i := 207) rfl) rfl), rfl⟩
theorem fX11_180 : FL RX11 180 9 12 := ⟨by decide, by decide +kernel, (TB2 (List.mem_of_getElem? (i := 208) rfl) rfl), rfl⟩
theorem fX9_41 : FL RX9 41 9 13 := ⟨by decide, by decide +kernel, (TB2 (List.mem_of_getElem? (i := 209) rfl) rfl), rfl⟩
theorem fX11_199 : FL RX11 199 9 13 := ⟨by decide, by decide +kernel, (TB2 (List.mem_of_getElem? (i := 210) rfl) rfl), rfl⟩
theorem fX9_107 : FL RX9 107 9 14 := ⟨by decide, by decide +kernel, (TB2 (List.mem_of_getElem? (i := 211) rfl) rfl), rfl⟩
theorem fX11_227 : FL RX11 227 9 14 := ⟨by decide, by decide +kernel, (TB2 (List.mem_of_getElem? (i := 212) rfl) rfl), rfl⟩
theorem fX9_76 : FL RX9 76 9 15 := ⟨by decide, by decide +kernel, (TB2 (List.mem_of_getElem? (i := 213) rfl) rfl), rfl⟩
theorem fX11_390 : FL RX11 390 9 15 := ⟨by decide, by decide +kernel, (TB2 (List.mem_of_getElem? (i := 214) rfl) rfl), rfl⟩
theorem fX9_79 : FL RX9 79 9 16 := ⟨by decide, by decide +kernel, (TB2 (List.mem_of_getElem? (i := 215) rfl) rfl), rfl⟩
theorem fX11_242 : FL RX11 242 9 16 := ⟨by decide, by decide +kernel, (TB2 (List.mem_of_getElem? (i := 216) rfl) rfl), rfl⟩
theorem fX9_83 : FL RX9 83 9 17 := ⟨by decide, by decide +kernel, (TB2 (List.mem_of_getElem? (i := 217) rfl) rfl), rfl⟩
theorem fX11_407 : FL RX11 407 9 17 := ⟨by decide, by decide +kernel, (TB2 (List.mem_of_getElem? (i := 218) rfl) rfl), rfl⟩
theorem fX4_32 : FL RX4 32 4 0 := ⟨by decide, by decide +kernel, (TB3 (List.mem_of_getElem? (i := 22) rfl) rfl), rfl⟩
theorem fX11_230 : FL RX11 230 4 0 := ⟨by decide, by decide +kernel, (TB3 (List.mem_of_getElem? (i := 23) rfl) rfl), rfl⟩
theorem fX4_9 : FL RX4 9 4 1 := ⟨by decide, by decide +kernel, (TB3 (List.mem_of_getElem? (i := 24) rfl) rfl), rfl⟩
theorem fX11_362 : FL RX11 362 4 1 := ⟨by decide, by decide +kernel, (TB3 (List.mem_of_getElem? (i := 25) rfl) rfl), rfl⟩
theorem fX4_15 : FL RX4 15 4 2 := ⟨by decide, by decide +kernel, (TB3 (List.mem_of_getElem? (i := 26) rfl) rfl), rfl⟩
theorem fX4_19 : FL RX4 19 4 3 := ⟨by decide, by decide +kernel, (TB3 (List.mem_of_getElem? (i := 27) rfl) rfl), rfl⟩
theorem fX4_22 : FL RX4 22 4 4 := ⟨by decide, by decide +kernel, (TB3 (List.mem_of_getElem? (i := 28) rfl) rfl), rfl⟩
theorem fX4_25 : FL RX4 25 4 5 := ⟨by decide, by decide +kernel, (TB3 (List.mem_of_getElem? (i := 29) rfl) rfl), rfl⟩
theorem fX4_29 : FL RX4 29 4 6 := ⟨by decide, by decide +kernel, (TB3 (List.mem_of_getElem? (i := 30) rfl) rfl), rfl⟩
theorem fX1_21 : FL RX1 21 1 0 := ⟨by decide, by decide +kernel, (TB3 (List.mem_of_getElem? (i := 53) rfl) rfl), rfl⟩
theorem fX11_235 : FL RX11 235 1 0 := ⟨by decide, by decide +kernel, (TB3 (List.mem_of_getElem? (i := 54) rfl) rfl), rfl⟩
theorem fX1_9 : FL RX1 9 1 1 := ⟨by decide, by decide +kernel, (TB3 (List.mem_of_getElem? (i := 55) rfl) rfl), rfl⟩
theorem fX11_279 : FL RX11 279 1 1 := ⟨by decide, by decide +kernel, (TB3 (List.mem_of_getElem? (i := 56) rfl) rfl), rfl⟩
theorem fX1_15 : FL RX1 15 1 2 := ⟨by decide, by decide +kernel, (TB3 (List.mem_of_getElem? (i := 57) rfl) rfl), rfl⟩
theorem fX11_273 : FL RX11 273 1 2 := ⟨by decide, by decide +kernel, (TB3 (List.mem_of_getElem? (i := 58) rfl) rfl), rfl⟩
theorem fX1_18 : FL RX1 18 1 3 := ⟨by decide, by decide +kernel, (TB3 (List.mem_of_getElem? (i := 59) rfl) rfl), rfl⟩
theorem fX11_276 : FL RX11 276 1 3 := ⟨by decide, by decide +kernel, (TB3 (List.mem_of_getElem? (i := 60) rfl) rfl), rfl⟩
theorem fX11_11 : FL RX11 11 11 0 := ⟨by decide, by decide +kernel, (TB3 (List.mem_of_getElem? (i := 74) rfl) rfl), rfl⟩
theorem fX11_90 : FL RX11 90 11 1 := ⟨by decide, by decide +kernel, (TB3 (List.mem_of_getElem? (i := 75) rfl) rfl), rfl⟩
theorem fX11_20 : FL RX11 20 11 2 := ⟨by decide, by decide +kernel, (TB3 (List.mem_of_getElem? (i := 76) rfl) rfl), rfl⟩
theorem fX11_27 : FL RX11 27 11 3 := ⟨by decide, by decide +kernel, (TB3 (List.mem_of_getElem? (i := 77) rfl) rfl), rfl⟩
theorem fX11_31 : FL RX11 31 11 4 := ⟨by decide, by decide +kernel, (TB3 (List.mem_of_getElem? (i := 78) rfl) rfl), rfl⟩
theorem fX11_39 : FL RX11 39 11 5 := ⟨by decide, by decide +kernel, (TB3 (List.mem_of_getElem? (i := 79) rfl) rfl), rfl⟩
theorem fX11_43 : FL RX11 43 11 6 := ⟨by decide, by decide +kernel, (TB3 (List.mem_of_getElem? (i := 80) rfl) rfl), rfl⟩
theorem fX11_46 : FL RX11 46 11 7 := ⟨by decide, by decide +kernel, (TB3 (List.mem_of_getElem? (i := 81) rfl) rfl), rfl⟩
theorem fX11_111 : FL RX11 111 11 8 := ⟨by decide, by decide +kernel, (TB3 (List.mem_of_getElem? (i := 82) rfl) rfl), rfl⟩
theorem fX11_49 : FL RX11 49 11 9 := ⟨by decide, by decide +kernel, (TB3 (List.mem_of_getElem? (i := 83) rfl) rfl), rfl⟩
theorem fX11_53 : FL RX11 53 11 10 := ⟨by decide, by decide +kernel, (TB3 (List.mem_of_getElem? (i := 84) rfl) rfl), rfl⟩
theorem fX11_59 : FL RX11 59 11 11 := ⟨by decide, by decide +kernel, (TB3 (List.mem_of_getElem? (i := 85) rfl) rfl), rfl⟩
theorem fX11_66 : FL RX11 66 11 12 := ⟨by decide, by decide +kernel, (TB3 (List.mem_of_getElem? (i := 86) rfl) rfl), rfl⟩
theorem fX11_73 : FL RX11 73 11 13 := ⟨by decide, by decide +kernel, (TB3 (List.mem_of_getElem? (i := 87) rfl) rfl), rfl⟩
theorem fX11_80 : FL RX11 80 11 14 := ⟨by decide, by decide +kernel, (TB3 (List.mem_of_getElem? (i := 88) rfl) rfl), rfl⟩
theorem fX11_84 : FL RX11 84 11 15 := ⟨by decide, by decide +kernel, (TB3 (List.mem_of_getElem? (i := 89) rfl) rfl), rfl⟩
theorem fX11_87 : FL RX11 87 11 16 := ⟨by decide, by decide +kernel, (TB3 (List.mem_of_getElem? (i := 90) rfl) rfl), rfl⟩
theorem fX11_349 : FL RX11 349 11 17 := ⟨by decide, by decide +kernel, (TB3 (List.mem_of_getElem? (i := 91) rfl) rfl), rfl⟩
theorem fX12_169 : FL RX12 169 12 0 := ⟨by decide, by decide +kernel, (TB6 (List.mem_of_getElem? (i := 70) rfl) rfl), rfl⟩
theorem fX12_9 : FL RX12 9 12 1 := ⟨by decide, by decide +kernel, (TB6 (List.mem_of_getElem? (i := 71) rfl) rfl), rfl⟩
theorem fX12_172 : FL RX12 172 12 2 := ⟨by decide, by decide +kernel, (TB6 (List.mem_of_getElem? (i := 72) rfl) rfl), rfl⟩
theorem fX12_15 : FL RX12 15 12 3 := ⟨by decide, by decide +kernel, (TB6 (List.mem_of_getElem? (i := 73) rfl) rfl), rfl⟩
theorem fX12_18 : FL RX12 18 12 4 := ⟨by decide, by decide +kernel, (TB6 (List.mem_of_getElem? (i := 74) rfl) rfl), rfl⟩
theorem fX12_21 : FL RX12 21 12 5 := ⟨by decide, by decide +kernel, (TB6 (List.mem_of_getElem? (i := 75) rfl) rfl), rfl⟩
theorem fX12_24 : FL RX12 24 12 6 := ⟨by decide, by decide +kernel, (TB6 (List.mem_of_getElem? (i := 76) rfl) rfl), rfl⟩
theorem fX12_27 : FL RX12 27 12 7 := ⟨by decide, by decide +kernel, (TB6 (List.mem_of_getElem? (i := 77) rfl) rfl), rfl⟩
theorem fX12_30 : FL RX12 30 12 8 := ⟨by decide, by decide +kernel, (TB6 (List.mem_of_getElem? (i := 78) rfl) rfl), rfl⟩
theorem fX12_33 : FL RX12 33 12 9 := ⟨by decide, by decide +kernel, (TB6 (List.mem_of_getElem? (i := 79) rfl) rfl), rfl⟩
theorem fX12_36 : FL RX12 36 12 10 := ⟨by decide, by decide +kernel, (TB6 (List.mem_of_getElem? (i := 80) rfl) rfl), rfl⟩
theorem fX12_39 : FL RX12 39 12 11 := ⟨by decide, by decide +kernel, (TB6 (List.mem_of_getElem? (i := 81) rfl) rfl), rfl⟩
theorem fX12_42 : FL RX12 42 12 12 := ⟨by decide, by decide +kernel, (TB6 (List.mem_of_getElem? (i := 82) rfl) rfl), rfl⟩
theorem fX12_45 : FL RX12 45 12 13 := ⟨by decide, by decide +kernel, (TB6 (List.mem_of_getElem? (i := 83) rfl) rfl), rfl⟩
theorem fX12_48 : FL RX12 48 12 14 := ⟨by decide, by decide +kernel, (TB6 (List.mem_of_getElem? (i := 84) rfl) rfl), rfl⟩
theorem fX12_51 : FL RX12 51 12 15 := ⟨by decide, by decide +kernel, (TB6 (List.mem_of_getElem? (i := 85) rfl) rfl), rfl⟩
theorem fX12_54 : FL RX12 54 12 16 := ⟨by decide, by decide +kernel, (TB6 (List.mem_of_getElem? (i := 86) rfl) rfl), rfl⟩
theorem fX12_57 : FL RX12 57 12 17 := ⟨by decide, by decide +kernel, (TB6 (List.mem_of_getElem? (i := 87) rfl) rfl), rfl⟩
theorem fX12_60 : FL RX12 60 12 18 := ⟨by decide, by decide +kernel, (TB6 (List.mem_of_getElem? (i := 88) rfl) rfl), rfl⟩
theorem fX12_63 : FL RX12 63 12 19 := ⟨by decide, by decide +kernel, (TB6 (List.mem_of_getElem? (i := 89) rfl) rfl), rfl⟩
theorem fX12_66 : FL RX12 66 12 20 := ⟨by decide, by decide +kernel, (TB6 (List.mem_of_getElem? (i := 90) rfl) rfl), rfl⟩
theorem fX12_255 : FL RX12 255 12 21 := ⟨by decide, by decide +kernel, (TB6 (List.mem_of_getElem? (i := 91) rfl) rfl), rfl⟩
theorem fX12_258 : FL RX12 258 12 22 := ⟨by decide, by decide +kernel, (TB6 (List.mem_of_getElem? (i := 92) rfl) rfl), rfl⟩
theorem fX12_288 : FL RX12 288 12 23 := ⟨by decide, by decide +kernel, (TB6 (List.mem_of_getElem? (i := 93) rfl) rfl), rfl⟩
theorem fX12_178 : FL RX12 178 12 24 := ⟨by decide, by decide +kernel, (TB6 (List.mem_of_getElem? (i := 94) rfl) rfl), rfl⟩
theorem fX12_175 : FL RX12 175 12 25 := ⟨by decide, by decide +kernel, (TB6 (List.mem_of_getElem? (i := 95) rfl) rfl), rfl⟩
theorem fX12_185 : FL RX12 185 12 26 := ⟨by decide, by decide +kernel, (TB6 (List.mem_of_getElem? (i := 96) rfl) rfl), rfl⟩
theorem fX12_188 : FL RX12 188 12 27 := ⟨by decide, by decide +kernel, (TB6 (List.mem_of_getElem? (i := 97) rfl) rfl), rfl⟩
theorem fX12_198 : FL RX12 198 12 28 := ⟨by decide, by decide +kernel, (TB6 (List.mem_of_getElem? (i := 98) rfl) rfl), rfl⟩
theorem fX12_222 : FL RX12 222 12 29 := ⟨by decide, by decide +kernel, (TB6 (List.mem_of_getElem? (i := 99) rfl) rfl), rfl⟩
theorem fX12_225 : FL RX12 225 12 30 := ⟨by decide, by decide +kernel, (TB6 (List.mem_of_getElem? (i := 100) rfl) rfl), rfl⟩
theorem fX12_327 : FL RX12 327 12 31 := ⟨by decide, by decide +kernel, (TB6 (List.mem_of_getElem? (i := 101) rfl) rfl), rfl⟩
theorem fX12_69 : FL RX12 69 12 32 := ⟨by decide, by decide +kernel, (TB6 (List.mem_of_getElem? (i := 102) rfl) rfl), rfl⟩
theorem fX12_321 : FL RX12 321 12 33 := ⟨by decide, by decide +kernel, (TB6 (List.mem_of_getElem? (i := 103) rfl) rfl), rfl⟩
theorem fX12_294 : FL RX12 294 12 34 := ⟨by decide, by decide +kernel, (TB6 (List.mem_of_getElem? (i := 104) rfl) rfl), rfl⟩
theorem fX12_73 : FL RX12 73 12 35 := ⟨by decide, by decide +kernel, (TB6 (List.mem_of_getElem? (i := 105) rfl) rfl), rfl⟩
theorem fX12_76 : FL RX12 76 12 36 := ⟨by decide, by decide +kernel, (TB6 (List.mem_of_getElem? (i := 106) rfl) rfl), rfl⟩
theorem fX12_79 : FL RX12 79 12 37 := ⟨by decide, by decide +kernel, (TB6 (List.mem_of_getElem? (i := 107) rfl) rfl), rfl⟩
theorem fX12_83 : FL RX12 83 12 38 := ⟨by decide, by decide +kernel, (TB6 (List.mem_of_getElem? (i := 108) rfl) rfl), rfl⟩
theorem fX12_86 : FL RX12 86 12 39 := ⟨by decide, by decide +kernel, (TB6 (List.mem_of_getElem? (i := 109) rfl) rfl), rfl⟩
theorem fX12_89 : FL RX12 89 12 40 := ⟨by decide, by decide +kernel, (TB6 (List.mem_of_getElem? (i := 110) rfl) rfl), rfl⟩
theorem fX12_92 : FL RX12 92 12 41 := ⟨by decide, by decide +kernel, (TB6 (List.mem_of_getElem? (i := 111) rfl) rfl), rfl⟩
theorem fX12_95 : FL RX12 95 12 42 := ⟨by decide, by decide +kernel, (TB6 (List.mem_of_getElem? (i := 112) rfl) rfl), rfl⟩
theorem fX12_98 : FL RX12 98 12 43 := ⟨by decide, by decide +kernel, (TB6 (List.mem_of_getElem? (i := 113) rfl) rfl), rfl⟩
theorem fX12_101 : FL RX12 101 12 44 := ⟨by decide, by decide +kernel, (TB6 (List.mem_of_getElem? (i := 114) rfl) rfl), rfl⟩
theorem fX12_104 : FL RX12 104 12 45 := ⟨by decide, by decide +kernel, (TB6 (List.mem_of_getElem? (i := 115) rfl) rfl), rfl⟩
theorem fX12_107 : FL RX12 107 12 46 := ⟨by decide, by decide +kernel, (TB6 (List.mem_of_getElem? (i := 116) rfl) rfl), rfl⟩
theorem fX12_110 : FL RX12 110 12 47 := ⟨by decide, by decide +kernel, (TB6 (List.mem_of_getElem? (i := 117) rfl) rfl), rfl⟩
theorem fX12_113 : FL RX12 113 12 48 := ⟨by decide, by decide +kernel, (TB6 (List.mem_of_getElem? (i := 118) rfl) rfl), rfl⟩
theorem fX12_116 : FL RX12 116 12 49 := ⟨by decide, by decide +kernel, (TB6 (List.mem_of_getElem? (i := 119) rfl) rfl), rfl⟩
theorem fX12_337 : FL RX12 337 12 50 := ⟨by decide, by decide +kernel, (TB6 (List.mem_of_getElem? (i := 120) rfl) rfl), rfl⟩
theorem fX12_340 : FL RX12 340 12 51 := ⟨by decide, by decide +kernel, (TB6 (List.mem_of_getElem? (i := 121) rfl) rfl), rfl⟩
theorem fX12_119 : FL RX12 119 12 52 := ⟨by decide, by decide +kernel, (TB6 (List.mem_of_getElem? (i := 122) rfl) rfl), rfl⟩
theorem fX12_123 : FL RX12 123 12 53 := ⟨by decide, by decide +kernel, (TB6 (List.mem_of_getElem? (i := 123) rfl) rfl), rfl⟩
theorem fX12_354 : FL RX12 354 12 54 := ⟨by decide, by decide +kernel, (TB6 (List.mem_of_getElem? (i := 124) rfl) rfl), rfl⟩
theorem fX12_126 : FL RX12 126 12 55 := ⟨by decide, by decide +kernel, (TB6 (List.mem_of_getElem? (i := 125) rfl) rfl), rfl⟩
theorem fX12_390 : FL RX12 390 12 56 := ⟨by decide, by decide +kernel, (TB6 (List.mem_of_getElem? (i := 126) rfl) rfl), rfl⟩
theorem fX12_129 : FL RX12 129 12 57 := ⟨by decide, by decide +kernel, (TB6 (List.mem_of_getElem? (i := 127) rfl) rfl), rfl⟩
theorem fX12_431 : FL RX12 431 12 58 := ⟨by decide, by decide +kernel, (TB6 (List.mem_of_getElem? (i := 128) rfl) rfl), rfl⟩
theorem fX12_425 : FL RX12 425 12 59 := ⟨by decide, by decide +kernel, (TB6 (List.mem_of_getElem? (i := 129) rfl) rfl), rfl⟩
theorem fX12_428 : FL RX12 428 12 60 := ⟨by decide, by decide +kernel, (TB6 (List.mem_of_getElem? (i := 130) rfl) rfl), rfl⟩
theorem fX12_393 : FL RX12 393 12 61 := ⟨by decide, by decide +kernel, (TB6 (List.mem_of_getElem? (i := 131) rfl) rfl), rfl⟩
theorem fX12_396 : FL RX12 396 12 62 := ⟨by decide, by decide +kernel, (TB6 (List.mem_of_getElem? (i := 132) rfl) rfl), rfl⟩
theorem fX12_132 : FL RX12 132 12 63 := ⟨by decide, by decide +kernel, (TB6 (List.mem_of_getElem? (i := 133) rfl) rfl), rfl⟩
theorem fX12_135 : FL RX12 135 12 64 := ⟨by decide, by decide +kernel, (TB6 (List.mem_of_getElem? (i := 134) rfl) rfl), rfl⟩
theorem fX12_138 : FL RX12 138 12 65 := ⟨by decide, by decide +kernel, (TB6 (List.mem_of_getElem? (i := 135) rfl) rfl), rfl⟩
theorem fX12_487 : FL RX12 487 12 66 := ⟨by decide, by decide +kernel, (TB6 (List.mem_of_getElem? (i := 136) rfl) rfl), rfl⟩
theorem fX12_141 : FL RX12 141 12 67 := ⟨by decide, by decide +kernel, (TB6 (List.mem_of_getElem? (i := 137) rfl) rfl), rfl⟩
theorem fX12_502 : FL RX12 502 12 68 := ⟨by decide, by decide +kernel, (TB6 (List.mem_of_getElem? (i := 138) rfl) rfl), rfl⟩
theorem fX12_505 : FL RX12 505 12 69 := ⟨by decide, by decide +kernel, (TB6 (List.mem_of_getElem? (i := 139) rfl) rfl), rfl⟩
theorem fX12_334 : FL RX12 334 12 70 := ⟨by decide, by decide +kernel, (TB6 (List.mem_of_getElem? (i := 140) rfl) rfl), rfl⟩
theorem fX12_144 : FL RX12 144 12 71 := ⟨by decide, by decide +kernel, (TB6 (List.mem_of_getElem? (i := 141) rfl) rfl), rfl⟩
theorem fX12_147 : FL RX12 147 12 72 := ⟨by decide, by decide +kernel, (TB6 (List.mem_of_getElem? (i := 142) rfl) rfl), rfl⟩
theorem fX12_150 : FL RX12 150 12 73 := ⟨by decide, by decide +kernel, (TB6 (List.mem_of_getElem? (i := 143) rfl) rfl), rfl⟩
theorem fX12_153 : FL RX12 153 12 74 := ⟨by decide, by decide +kernel, (TB6 (List.mem_of_getElem? (i := 144) rfl) rfl), rfl⟩
theorem fX12_156 : FL RX12 156 12 75 := ⟨by decide, by decide +kernel, (TB6 (List.mem_of_getElem? (i := 145) rfl) rfl), rfl⟩
theorem fX12_159 : FL RX12 159 12 76 := ⟨by decide, by decide +kernel, (TB6 (List.mem_of_getElem? (i := 146) rfl) rfl), rfl⟩
theorem fX12_162 : FL RX12 162 12 77 := ⟨by decide, by decide +kernel, (TB6 (List.mem_of_getElem? (i := 147) rfl) rfl), rfl⟩
-- constants
theorem kX8_85 : Cond.constant RX8 85 (1000000) ∈ TB := (TB3 (List.mem_of_getElem? (i := 177) rfl) rfl)
theorem kX6_73 : Cond.constant RX6 73 (99999) ∈ TB := (TB3 (List.mem_of_getElem? (i := 218) rfl) rfl)
theorem kX11_164 : Cond.constant RX11 164 (-2147483648) ∈ TB := (TB4 (List.mem_of_getElem? (i := 95) rfl) rfl)
theorem kJ6_265 : Cond.constant RJ6 265 (1431655765) ∈ TB := (TB4 (List.mem_of_getElem? (i := 144) rfl) rfl)
theorem kJ6_266 : Cond.constant RJ6 266 (858993459) ∈ TB := (TB4 (List.mem_of_getElem? (i := 145) rfl) rfl)
theorem kJ6_267 : Cond.constant RJ6 267 (252645135) ∈ TB := (TB4 (List.mem_of_getElem? (i := 146) rfl) rfl)
theorem kX9_229 : Cond.constant RX9 229 (65536) ∈ TB := (TB4 (List.mem_of_getElem? (i := 202) rfl) rfl)
theorem kX10_33 : Cond.constant RX10 33 (100000) ∈ TB := (TB4 (List.mem_of_getElem? (i := 208) rfl) rfl)
theorem kX11_269 : Cond.constant RX11 269 (100000) ∈ TB := (TB5 (List.mem_of_getElem? (i := 19) rfl) rfl)
theorem kX11_352 : Cond.constant RX11 352 (2147483647) ∈ TB := (TB5 (List.mem_of_getElem? (i := 122) rfl) rfl)
theorem kX11_355 : Cond.constant RX11 355 (99999) ∈ TB := (TB5 (List.mem_of_getElem? (i := 127) rfl) rfl)
theorem kX12_207 : Cond.constant RX12 207 (99999) ∈ TB := (TB7 (List.mem_of_getElem? (i := 106) rfl) rfl)
theorem kX12_446 : Cond.constant RX12 446 (-2147483648) ∈ TB := (TB7 (List.mem_of_getElem? (i := 232) rfl) rfl)
theorem kX12_413 : Cond.constant RX12 413 (1103515245) ∈ TB := (TB8 (List.mem_of_getElem? (i := 61) rfl) rfl)
theorem kX12_414 : Cond.constant RX12 414 (2147483647) ∈ TB := (TB8 (List.mem_of_getElem? (i := 62) rfl) rfl)
theorem kX12_418 : Cond.constant RX12 418 (100000) ∈ TB := (TB8 (List.mem_of_getElem? (i := 68) rfl) rfl)
theorem kX11_190 : Cond.constantLong RX11 190 (-9223372036854775808) ∈ TB := (TB4 (List.mem_of_getElem? (i := 108) rfl) rfl)
theorem kX5_27 : Cond.constantLong RX5 27 (1000000000000) ∈ TB := (TB4 (List.mem_of_getElem? (i := 123) rfl) rfl)
theorem kX5_31 : Cond.constantLong RX5 31 (-9223372036854775808) ∈ TB := (TB4 (List.mem_of_getElem? (i := 124) rfl) rfl)
theorem kX5_29 : Cond.constantLong RX5 29 (-1000000000000) ∈ TB := (TB4 (List.mem_of_getElem? (i := 128) rfl) rfl)
theorem kX9_209 : Cond.constantLong RX9 209 (-9223372036854775808) ∈ TB := (TB4 (List.mem_of_getElem? (i := 186) rfl) rfl)
theorem kX9_211 : Cond.constantLong RX9 211 (-99) ∈ TB := (TB4 (List.mem_of_getElem? (i := 187) rfl) rfl)
theorem kX9_213 : Cond.constantLong RX9 213 (99) ∈ TB := (TB4 (List.mem_of_getElem? (i := 188) rfl) rfl)
theorem kX9_223 : Cond.constantLong RX9 223 (1103515245) ∈ TB := (TB4 (List.mem_of_getElem? (i := 199) rfl) rfl)
theorem kX9_225 : Cond.constantLong RX9 225 (12345) ∈ TB := (TB4 (List.mem_of_getElem? (i := 200) rfl) rfl)
theorem kX9_227 : Cond.constantLong RX9 227 (2147483647) ∈ TB := (TB4 (List.mem_of_getElem? (i := 201) rfl) rfl)
theorem kJ13_314 : Cond.constantLong RJ13 314 (6148914691236517205) ∈ TB := (TB5 (List.mem_of_getElem? (i := 174) rfl) rfl)
theorem kJ13_316 : Cond.constantLong RJ13 316 (3689348814741910323) ∈ TB := (TB5 (List.mem_of_getElem? (i := 175) rfl) rfl)
theorem kJ13_318 : Cond.constantLong RJ13 318 (1085102592571150095) ∈ TB := (TB5 (List.mem_of_getElem? (i := 176) rfl) rfl)
theorem kX12_452 : Cond.constantLong RX12 452 (-9223372036854775808) ∈ TB := (TB8 (List.mem_of_getElem? (i := 10) rfl) rfl)
theorem kX12_365 : Cond.constantLong RX12 365 (1000000000000) ∈ TB := (TB8 (List.mem_of_getElem? (i := 31) rfl) rfl)
theorem kX12_367 : Cond.constantLong RX12 367 (-1000000000000) ∈ TB := (TB8 (List.mem_of_getElem? (i := 32) rfl) rfl)
theorem kX12_378 : Cond.constantLong RX12 378 (-99) ∈ TB := (TB8 (List.mem_of_getElem? (i := 49) rfl) rfl)
theorem kX12_380 : Cond.constantLong RX12 380 (99) ∈ TB := (TB8 (List.mem_of_getElem? (i := 50) rfl) rfl)
theorem nL_8 : NW RL 8 11 := ⟨by decide, (TB1 (List.mem_of_getElem? (i := 28) rfl) rfl), (TB1 (List.mem_of_getElem? (i := 29) rfl) rfl), (TB1 (List.mem_of_getElem? (i := 1) rfl) rfl)⟩
theorem nX11_15 : NW RX11 15 6 := ⟨by decide, (TB1 (List.mem_of_getElem? (i := 36) rfl) rfl), (TB1 (List.mem_of_getElem? (i := 37) rfl) rfl), (TB1 (List.mem_of_getElem? (i := 2) rfl) rfl)⟩
theorem nX6_15 : NW RX6 15 8 := ⟨by decide, (TB1 (List.mem_of_getElem? (i := 42) rfl) rfl), (TB1 (List.mem_of_getElem? (i := 43) rfl) rfl), (TB1 (List.mem_of_getElem? (i := 3) rfl) rfl)⟩
theorem nX6_24 : NW RX6 24 3 := ⟨by decide, (TB1 (List.mem_of_getElem? (i := 133) rfl) rfl), (TB1 (List.mem_of_getElem? (i := 134) rfl) rfl), (TB1 (List.mem_of_getElem? (i := 8) rfl) rfl)⟩
theorem nX11_24 : NW RX11 24 7 := ⟨by decide, (TB1 (List.mem_of_getElem? (i := 191) rfl) rfl), (TB1 (List.mem_of_getElem? (i := 192) rfl) rfl), (TB1 (List.mem_of_getElem? (i := 9) rfl) rfl)⟩
theorem nX7_20 : NW RX7 20 0 := ⟨by decide, (TB1 (List.mem_of_getElem? (i := 199) rfl) rfl), (TB1 (List.mem_of_getElem? (i := 200) rfl) rfl), (TB1 (List.mem_of_getElem? (i := 10) rfl) rfl)⟩
theorem nX7_27 : NW RX7 27 2 := ⟨by decide, (TB1 (List.mem_of_getElem? (i := 231) rfl) rfl), (TB1 (List.mem_of_getElem? (i := 232) rfl) rfl), (TB1 (List.mem_of_getElem? (i := 11) rfl) rfl)⟩
theorem nX7_40 : NW RX7 40 5 := ⟨by decide, (TB2 (List.mem_of_getElem? (i := 12) rfl) rfl), (TB2 (List.mem_of_getElem? (i := 13) rfl) rfl), (TB1 (List.mem_of_getElem? (i := 12) rfl) rfl)⟩
theorem nX11_34 : NW RX11 34 9 := ⟨by decide, (TB2 (List.mem_of_getElem? (i := 127) rfl) rfl), (TB2 (List.mem_of_getElem? (i := 128) rfl) rfl), (TB1 (List.mem_of_getElem? (i := 14) rfl) rfl)⟩
theorem nX9_9 : NW RX9 9 10 := ⟨by decide, (TB2 (List.mem_of_getElem? (i := 133) rfl) rfl), (TB2 (List.mem_of_getElem? (i := 134) rfl) rfl), (TB1 (List.mem_of_getElem? (i := 15) rfl) rfl)⟩
theorem nX9_31 : NW RX9 31 2 := ⟨by decide, (TB2 (List.mem_of_getElem? (i := 154) rfl) rfl), (TB1 (List.mem_of_getElem? (i := 232) rfl) rfl), (TB1 (List.mem_of_getElem? (i := 11) rfl) rfl)⟩
theorem nX11_56 : NW RX11 56 4 := ⟨by decide, (TB3 (List.mem_of_getElem? (i := 16) rfl) rfl), (TB3 (List.mem_of_getElem? (i := 17) rfl) rfl), (TB1 (List.mem_of_getElem? (i := 18) rfl) rfl)⟩
theorem nX11_63 : NW RX11 63 1 := ⟨by decide, (TB3 (List.mem_of_getElem? (i := 47) rfl) rfl), (TB3 (List.mem_of_getElem? (i := 48) rfl) rfl), (TB1 (List.mem_of_getElem? (i := 19) rfl) rfl)⟩
theorem nX11_70 : NW RX11 70 0 := ⟨by decide, (TB3 (List.mem_of_getElem? (i := 70) rfl) rfl), (TB1 (List.mem_of_getElem? (i := 200) rfl) rfl), (TB1 (List.mem_of_getElem? (i := 10) rfl) rfl)⟩
theorem nX11_77 : NW RX11 77 5 := ⟨by decide, (TB3 (List.mem_of_getElem? (i := 72) rfl) rfl), (TB2 (List.mem_of_getElem? (i := 13) rfl) rfl), (TB1 (List.mem_of_getElem? (i := 12) rfl) rfl)⟩
theorem nL_18 : NW RL 18 12 := ⟨by decide, (TB6 (List.mem_of_getElem? (i := 60) rfl) rfl), (TB6 (List.mem_of_getElem? (i := 61) rfl) rfl), (TB1 (List.mem_of_getElem? (i := 20) rfl) rfl)⟩
theorem ac_int : Cond.arrayClass .int ∈ TB := (TB1 (List.mem_of_getElem? (i := 132) rfl) rfl)
theorem ac_byte : Cond.arrayClass .byte ∈ TB := (TB1 (List.mem_of_getElem? (i := 131) rfl) rfl)
theorem ac_long : Cond.arrayClass .long ∈ TB := (TB2 (List.mem_of_getElem? (i := 30) rfl) rfl)
theorem ac_boolean : Cond.arrayClass .boolean ∈ TB := (TB3 (List.mem_of_getElem? (i := 46) rfl) rfl)
