set_option maxRecDepth 1000000 in
theorem ck_X12_leave_0 : am_okJ 13 false cX12_leave (some (.boolean)) tb_X12_leave 0 = true := by decide +kernel
set_option maxRecDepth 1000000 in
theorem ck_X12_leave_1 : am_okJ 13 false cX12_leave (some (.boolean)) tb_X12_leave 1 = true := by decide +kernel
set_option maxRecDepth 1000000 in
theorem ck_X12_leave_2 : am_okJ 13 false cX12_leave (some (.boolean)) tb_X12_leave 2 = true := by decide +kernel
set_option maxRecDepth 1000000 in
theorem ck_X12_leave_3 : am_okJ 13 false cX12_leave (some (.boolean)) tb_X12_leave 3 = true := by decide +kernel
set_option maxRecDepth 1000000 in
theorem ck_X12_leave_4 : am_okJ 13 false cX12_leave (some (.boolean)) tb_X12_leave 4 = true := by decide +kernel
set_option maxRecDepth 1000000 in
theorem ck_X12_leave : am_okT 13 false cX12_leave (some (.boolean)) tb_X12_leave = true := am_okJ_s rfl (am_j1 (am_j1 (am_j1 (am_j1 (am_j1 (am_j0) ck_X12_leave_0) ck_X12_leave_1) ck_X12_leave_2) ck_X12_leave_3) ck_X12_leave_4)
set_option maxRecDepth 1000000 in
theorem ck_X12_undo_0 : am_okJ 13 false cX12_undo (some (.boolean)) tb_X12_undo 0 = true := by decide +kernel
set_option maxRecDepth 1000000 in
theorem ck_X12_undo_1 : am_okJ 13 false cX12_undo (some (.boolean)) tb_X12_undo 1 = true := by decide +kernel
set_option maxRecDepth 1000000 in
theorem ck_X12_undo : am_okT 13 false cX12_undo (some (.boolean)) tb_X12_undo = true := am_okJ_s rfl (am_j1 (am_j1 (am_j0) ck_X12_undo_0) ck_X12_undo_1)
set_option maxRecDepth 1000000 in
theorem ck_X12_isKnown_0 : am_okJ 13 false cX12_isKnown (some (.boolean)) tb_X12_isKnown 0 = true := by decide +kernel
set_option maxRecDepth 1000000 in
theorem ck_X12_isKnown_1 : am_okJ 13 false cX12_isKnown (some (.boolean)) tb_X12_isKnown 1 = true := by decide +kernel
set_option maxRecDepth 1000000 in
theorem ck_X12_isKnown : am_okT 13 false cX12_isKnown (some (.boolean)) tb_X12_isKnown = true := am_okJ_s rfl (am_j1 (am_j1 (am_j0) ck_X12_isKnown_0) ck_X12_isKnown_1)
set_option maxRecDepth 1000000 in
theorem ck_X12_endOf_0 : am_okJ 13 false cX12_endOf (some (.int)) tb_X12_endOf 0 = true := by decide +kernel
set_option maxRecDepth 1000000 in
theorem ck_X12_endOf_1 : am_okJ 13 false cX12_endOf (some (.int)) tb_X12_endOf 1 = true := by decide +kernel
set_option maxRecDepth 1000000 in
theorem ck_X12_endOf : am_okT 13 false cX12_endOf (some (.int)) tb_X12_endOf = true := am_okJ_s rfl (am_j1 (am_j1 (am_j0) ck_X12_endOf_0) ck_X12_endOf_1)
set_option maxRecDepth 1000000 in
theorem ck_X12_inOf_0 : am_okJ 13 false cX12_inOf (some (.int)) tb_X12_inOf 0 = true := by decide +kernel
set_option maxRecDepth 1000000 in
theorem ck_X12_inOf_1 : am_okJ 13 false cX12_inOf (some (.int)) tb_X12_inOf 1 = true := by decide +kernel
set_option maxRecDepth 1000000 in
theorem ck_X12_inOf_2 : am_okJ 13 false cX12_inOf (some (.int)) tb_X12_inOf 2 = true := by decide +kernel
set_option maxRecDepth 1000000 in
theorem ck_X12_inOf_3 : am_okJ 13 false cX12_inOf (some (.int)) tb_X12_inOf 3 = true := by decide +kernel
set_option maxRecDepth 1000000 in
theorem ck_X12_inOf_4 : am_okJ 13 false cX12_inOf (some (.int)) tb_X12_inOf 4 = true := by decide +kernel
set_option maxRecDepth 1000000 in
theorem ck_X12_inOf : am_okT 13 false cX12_inOf (some (.int)) tb_X12_inOf = true := am_okJ_s rfl (am_j1 (am_j1 (am_j1 (am_j1 (am_j1 (am_j0) ck_X12_inOf_0) ck_X12_inOf_1) ck_X12_inOf_2) ck_X12_inOf_3) ck_X12_inOf_4)
set_option maxRecDepth 1000000 in
theorem ck_X12_in_0 : am_okJ 13 false cX12_in (some (.int)) tb_X12_in 0 = true := by decide +kernel
set_option maxRecDepth 1000000 in
theorem ck_X12_in_1 : am_okJ 13 false cX12_in (some (.int)) tb_X12_in 1 = true := by decide +kernel
set_option maxRecDepth 1000000 in
theorem ck_X12_in : am_okT 13 false cX12_in (some (.int)) tb_X12_in = true := am_okJ_s rfl (am_j1 (am_j1 (am_j0) ck_X12_in_0) ck_X12_in_1)
set_option maxRecDepth 1000000 in
theorem ck_X12_holderOf_0 : am_okJ 13 false cX12_holderOf (some (.int)) tb_X12_holderOf 0 = true := by decide +kernel
set_option maxRecDepth 1000000 in
theorem ck_X12_holderOf_1 : am_okJ 13 false cX12_holderOf (some (.int)) tb_X12_holderOf 1 = true := by decide +kernel
set_option maxRecDepth 1000000 in
theorem ck_X12_holderOf_2 : am_okJ 13 false cX12_holderOf (some (.int)) tb_X12_holderOf 2 = true := by decide +kernel
set_option maxRecDepth 1000000 in
theorem ck_X12_holderOf : am_okT 13 false cX12_holderOf (some (.int)) tb_X12_holderOf = true := am_okJ_s rfl (am_j1 (am_j1 (am_j1 (am_j0) ck_X12_holderOf_0) ck_X12_holderOf_1) ck_X12_holderOf_2)
set_option maxRecDepth 1000000 in
theorem ck_X12_holder_0 : am_okJ 13 false cX12_holder (some (.int)) tb_X12_holder 0 = true := by decide +kernel
set_option maxRecDepth 1000000 in
theorem ck_X12_holder_1 : am_okJ 13 false cX12_holder (some (.int)) tb_X12_holder 1 = true := by decide +kernel
set_option maxRecDepth 1000000 in
theorem ck_X12_holder : am_okT 13 false cX12_holder (some (.int)) tb_X12_holder = true := am_okJ_s rfl (am_j1 (am_j1 (am_j0) ck_X12_holder_0) ck_X12_holder_1)
set_option maxRecDepth 1000000 in
theorem ck_X12_twice_0 : am_okJ 13 false cX12_twice (some (.int)) tb_X12_twice 0 = true := by decide +kernel
set_option maxRecDepth 1000000 in
theorem ck_X12_twice_1 : am_okJ 13 false cX12_twice (some (.int)) tb_X12_twice 1 = true := by decide +kernel
set_option maxRecDepth 1000000 in
theorem ck_X12_twice_2 : am_okJ 13 false cX12_twice (some (.int)) tb_X12_twice 2 = true := by decide +kernel
set_option maxRecDepth 1000000 in
theorem ck_X12_twice_3 : am_okJ 13 false cX12_twice (some (.int)) tb_X12_twice 3 = true := by decide +kernel
set_option maxRecDepth 1000000 in
theorem ck_X12_twice_4 : am_okJ 13 false cX12_twice (some (.int)) tb_X12_twice 4 = true := by decide +kernel
set_option maxRecDepth 1000000 in
theorem ck_X12_twice_5 : am_okJ 13 false cX12_twice (some (.int)) tb_X12_twice 5 = true := by decide +kernel
set_option maxRecDepth 1000000 in
theorem ck_X12_twice_6 : am_okJ 13 false cX12_twice (some (.int)) tb_X12_twice 6 = true := by decide +kernel
set_option maxRecDepth 1000000 in
theorem ck_X12_twice : am_okT 13 false cX12_twice (some (.int)) tb_X12_twice = true := am_okJ_s rfl (am_j1 (am_j1 (am_j1 (am_j1 (am_j1 (am_j1 (am_j1 (am_j0) ck_X12_twice_0) ck_X12_twice_1) ck_X12_twice_2) ck_X12_twice_3) ck_X12_twice_4) ck_X12_twice_5) ck_X12_twice_6)
set_option maxRecDepth 1000000 in
theorem ck_X12_feeOf_0 : am_okJ 13 false cX12_feeOf (some (.int)) tb_X12_feeOf 0 = true := by decide +kernel
set_option maxRecDepth 1000000 in
theorem ck_X12_feeOf_1 : am_okJ 13 false cX12_feeOf (some (.int)) tb_X12_feeOf 1 = true := by decide +kernel
set_option maxRecDepth 1000000 in
theorem ck_X12_feeOf_2 : am_okJ 13 false cX12_feeOf (some (.int)) tb_X12_feeOf 2 = true := by decide +kernel
set_option maxRecDepth 1000000 in
theorem ck_X12_feeOf_3 : am_okJ 13 false cX12_feeOf (some (.int)) tb_X12_feeOf 3 = true := by decide +kernel
set_option maxRecDepth 1000000 in
theorem ck_X12_feeOf : am_okT 13 false cX12_feeOf (some (.int)) tb_X12_feeOf = true := am_okJ_s rfl (am_j1 (am_j1 (am_j1 (am_j1 (am_j0) ck_X12_feeOf_0) ck_X12_feeOf_1) ck_X12_feeOf_2) ck_X12_feeOf_3)
set_option maxRecDepth 1000000 in
theorem ck_X12_backOf_0 : am_okJ 13 false cX12_backOf (some (.int)) tb_X12_backOf 0 = true := by decide +kernel
set_option maxRecDepth 1000000 in
theorem ck_X12_backOf_1 : am_okJ 13 false cX12_backOf (some (.int)) tb_X12_backOf 1 = true := by decide +kernel
set_option maxRecDepth 1000000 in
theorem ck_X12_backOf_2 : am_okJ 13 false cX12_backOf (some (.int)) tb_X12_backOf 2 = true := by decide +kernel
set_option maxRecDepth 1000000 in
theorem ck_X12_backOf_3 : am_okJ 13 false cX12_backOf (some (.int)) tb_X12_backOf 3 = true := by decide +kernel
set_option maxRecDepth 1000000 in
theorem ck_X12_backOf : am_okT 13 false cX12_backOf (some (.int)) tb_X12_backOf = true := am_okJ_s rfl (am_j1 (am_j1 (am_j1 (am_j1 (am_j0) ck_X12_backOf_0) ck_X12_backOf_1) ck_X12_backOf_2) ck_X12_backOf_3)
set_option maxRecDepth 1000000 in
theorem ck_X12_owedOf_0 : am_okJ 13 false cX12_owedOf (some (.int)) tb_X12_owedOf 0 = true := by decide +kernel
set_option maxRecDepth 1000000 in
theorem ck_X12_owedOf_1 : am_okJ 13 false cX12_owedOf (some (.int)) tb_X12_owedOf 1 = true := by decide +kernel
set_option maxRecDepth 1000000 in
theorem ck_X12_owedOf_2 : am_okJ 13 false cX12_owedOf (some (.int)) tb_X12_owedOf 2 = true := by decide +kernel
set_option maxRecDepth 1000000 in
theorem ck_X12_owedOf_3 : am_okJ 13 false cX12_owedOf (some (.int)) tb_X12_owedOf 3 = true := by decide +kernel
set_option maxRecDepth 1000000 in
theorem ck_X12_owedOf_4 : am_okJ 13 false cX12_owedOf (some (.int)) tb_X12_owedOf 4 = true := by decide +kernel
set_option maxRecDepth 1000000 in
theorem ck_X12_owedOf : am_okT 13 false cX12_owedOf (some (.int)) tb_X12_owedOf = true := am_okJ_s rfl (am_j1 (am_j1 (am_j1 (am_j1 (am_j1 (am_j0) ck_X12_owedOf_0) ck_X12_owedOf_1) ck_X12_owedOf_2) ck_X12_owedOf_3) ck_X12_owedOf_4)
set_option maxRecDepth 1000000 in
theorem ck_X12_placed_0 : am_okJ 13 false cX12_placed (some (.int)) tb_X12_placed 0 = true := by decide +kernel
set_option maxRecDepth 1000000 in
theorem ck_X12_placed_1 : am_okJ 13 false cX12_placed (some (.int)) tb_X12_placed 1 = true := by decide +kernel
set_option maxRecDepth 1000000 in
theorem ck_X12_placed_2 : am_okJ 13 false cX12_placed (some (.int)) tb_X12_placed 2 = true := by decide +kernel
set_option maxRecDepth 1000000 in
theorem ck_X12_placed_3 : am_okJ 13 false cX12_placed (some (.int)) tb_X12_placed 3 = true := by decide +kernel
set_option maxRecDepth 1000000 in
theorem ck_X12_placed_4 : am_okJ 13 false cX12_placed (some (.int)) tb_X12_placed 4 = true := by decide +kernel
set_option maxRecDepth 1000000 in
theorem ck_X12_placed_5 : am_okJ 13 false cX12_placed (some (.int)) tb_X12_placed 5 = true := by decide +kernel
set_option maxRecDepth 1000000 in
theorem ck_X12_placed_6 : am_okJ 13 false cX12_placed (some (.int)) tb_X12_placed 6 = true := by decide +kernel
set_option maxRecDepth 1000000 in
theorem ck_X12_placed_7 : am_okJ 13 false cX12_placed (some (.int)) tb_X12_placed 7 = true := by decide +kernel
set_option maxRecDepth 1000000 in
theorem ck_X12_placed : am_okT 13 false cX12_placed (some (.int)) tb_X12_placed = true := am_okJ_s rfl (am_j1 (am_j1 (am_j1 (am_j1 (am_j1 (am_j1 (am_j1 (am_j1 (am_j0) ck_X12_placed_0) ck_X12_placed_1) ck_X12_placed_2) ck_X12_placed_3) ck_X12_placed_4) ck_X12_placed_5) ck_X12_placed_6) ck_X12_placed_7)
set_option maxRecDepth 1000000 in
theorem ck_X12_wages_0 : am_okJ 13 false cX12_wages (some (.int)) tb_X12_wages 0 = true := by decide +kernel
set_option maxRecDepth 1000000 in
theorem ck_X12_wages_1 : am_okJ 13 false cX12_wages (some (.int)) tb_X12_wages 1 = true := by decide +kernel
set_option maxRecDepth 1000000 in
theorem ck_X12_wages_2 : am_okJ 13 false cX12_wages (some (.int)) tb_X12_wages 2 = true := by decide +kernel
set_option maxRecDepth 1000000 in
theorem ck_X12_wages_3 : am_okJ 13 false cX12_wages (some (.int)) tb_X12_wages 3 = true := by decide +kernel
set_option maxRecDepth 1000000 in
theorem ck_X12_wages_4 : am_okJ 13 false cX12_wages (some (.int)) tb_X12_wages 4 = true := by decide +kernel
set_option maxRecDepth 1000000 in
theorem ck_X12_wages : am_okT 13 false cX12_wages (some (.int)) tb_X12_wages = true := am_okJ_s rfl (am_j1 (am_j1 (am_j1 (am_j1 (am_j1 (am_j0) ck_X12_wages_0) ck_X12_wages_1) ck_X12_wages_2) ck_X12_wages_3) ck_X12_wages_4)
set_option maxRecDepth 1000000 in
theorem ck_X12_feed_0 : am_okJ 13 false cX12_feed (some (.int)) tb_X12_feed 0 = true := by decide +kernel
set_option maxRecDepth 1000000 in
theorem ck_X12_feed_1 : am_okJ 13 false cX12_feed (some (.int)) tb_X12_feed 1 = true := by decide +kernel
set_option maxRecDepth 1000000 in
theorem ck_X12_feed_2 : am_okJ 13 false cX12_feed (some (.int)) tb_X12_feed 2 = true := by decide +kernel
set_option maxRecDepth 1000000 in
theorem ck_X12_feed : am_okT 13 false cX12_feed (some (.int)) tb_X12_feed = true := am_okJ_s rfl (am_j1 (am_j1 (am_j1 (am_j0) ck_X12_feed_0) ck_X12_feed_1) ck_X12_feed_2)
set_option maxRecDepth 1000000 in
theorem ck_X12_four_0 : am_okJ 13 false cX12_four (none) tb_X12_four 0 = true := by decide +kernel
set_option maxRecDepth 1000000 in
theorem ck_X12_four_1 : am_okJ 13 false cX12_four (none) tb_X12_four 1 = true := by decide +kernel
set_option maxRecDepth 1000000 in
theorem ck_X12_four : am_okT 13 false cX12_four (none) tb_X12_four = true := am_okJ_s rfl (am_j1 (am_j1 (am_j0) ck_X12_four_0) ck_X12_four_1)
set_option maxRecDepth 1000000 in
theorem ck_X12_blanks_0 : am_okJ 13 false cX12_blanks (none) tb_X12_blanks 0 = true := by decide +kernel
set_option maxRecDepth 1000000 in
theorem ck_X12_blanks_1 : am_okJ 13 false cX12_blanks (none) tb_X12_blanks 1 = true := by decide +kernel
set_option maxRecDepth 1000000 in
theorem ck_X12_blanks_2 : am_okJ 13 false cX12_blanks (none) tb_X12_blanks 2 = true := by decide +kernel
set_option maxRecDepth 1000000 in
theorem ck_X12_blanks : am_okT 13 false cX12_blanks (none) tb_X12_blanks = true := am_okJ_s rfl (am_j1 (am_j1 (am_j1 (am_j0) ck_X12_blanks_0) ck_X12_blanks_1) ck_X12_blanks_2)
set_option maxRecDepth 1000000 in
theorem ck_X12_word_0 : am_okJ 13 false cX12_word (some (.long)) tb_X12_word 0 = true := by decide +kernel
set_option maxRecDepth 1000000 in
theorem ck_X12_word_1 : am_okJ 13 false cX12_word (some (.long)) tb_X12_word 1 = true := by decide +kernel
set_option maxRecDepth 1000000 in
theorem ck_X12_word_2 : am_okJ 13 false cX12_word (some (.long)) tb_X12_word 2 = true := by decide +kernel
set_option maxRecDepth 1000000 in
theorem ck_X12_word_3 : am_okJ 13 false cX12_word (some (.long)) tb_X12_word 3 = true := by decide +kernel
set_option maxRecDepth 1000000 in
theorem ck_X12_word_4 : am_okJ 13 false cX12_word (some (.long)) tb_X12_word 4 = true := by decide +kernel
set_option maxRecDepth 1000000 in
theorem ck_X12_word_5 : am_okJ 13 false cX12_word (some (.long)) tb_X12_word 5 = true := by decide +kernel
set_option maxRecDepth 1000000 in
theorem ck_X12_word : am_okT 13 false cX12_word (some (.long)) tb_X12_word = true := am_okJ_s rfl (am_j1 (am_j1 (am_j1 (am_j1 (am_j1 (am_j1 (am_j0) ck_X12_word_0) ck_X12_word_1) ck_X12_word_2) ck_X12_word_3) ck_X12_word_4) ck_X12_word_5)
set_option maxRecDepth 1000000 in
theorem ck_X12_takes_0 : am_okJ 13 false cX12_takes (some (.boolean)) tb_X12_takes 0 = true := by decide +kernel
set_option maxRecDepth 1000000 in
theorem ck_X12_takes_1 : am_okJ 13 false cX12_takes (some (.boolean)) tb_X12_takes 1 = true := by decide +kernel
set_option maxRecDepth 1000000 in
theorem ck_X12_takes : am_okT 13 false cX12_takes (some (.boolean)) tb_X12_takes = true := am_okJ_s rfl (am_j1 (am_j1 (am_j0) ck_X12_takes_0) ck_X12_takes_1)
set_option maxRecDepth 1000000 in
theorem ck_X12_takesSign_0 : am_okJ 13 false cX12_takesSign (some (.boolean)) tb_X12_takesSign 0 = true := by decide +kernel
set_option maxRecDepth 1000000 in
theorem ck_X12_takesSign_1 : am_okJ 13 false cX12_takesSign (some (.boolean)) tb_X12_takesSign 1 = true := by decide +kernel
set_option maxRecDepth 1000000 in
theorem ck_X12_takesSign : am_okT 13 false cX12_takesSign (some (.boolean)) tb_X12_takesSign = true := am_okJ_s rfl (am_j1 (am_j1 (am_j0) ck_X12_takesSign_0) ck_X12_takesSign_1)
set_option maxRecDepth 1000000 in
theorem ck_X12_takesNumber_0 : am_okJ 13 false cX12_takesNumber (some (.boolean)) tb_X12_takesNumber 0 = true := by decide +kernel
set_option maxRecDepth 1000000 in
theorem ck_X12_takesNumber_1 : am_okJ 13 false cX12_takesNumber (some (.boolean)) tb_X12_takesNumber 1 = true := by decide +kernel
set_option maxRecDepth 1000000 in
theorem ck_X12_takesNumber_2 : am_okJ 13 false cX12_takesNumber (some (.boolean)) tb_X12_takesNumber 2 = true := by decide +kernel
set_option maxRecDepth 1000000 in
theorem ck_X12_takesNumber_3 : am_okJ 13 false cX12_takesNumber (some (.boolean)) tb_X12_takesNumber 3 = true := by decide +kernel
set_option maxRecDepth 1000000 in
theorem ck_X12_takesNumber_4 : am_okJ 13 false cX12_takesNumber (some (.boolean)) tb_X12_takesNumber 4 = true := by decide +kernel
set_option maxRecDepth 1000000 in
theorem ck_X12_takesNumber_5 : am_okJ 13 false cX12_takesNumber (some (.boolean)) tb_X12_takesNumber 5 = true := by decide +kernel
set_option maxRecDepth 1000000 in
theorem ck_X12_takesNumber : am_okT 13 false cX12_takesNumber (some (.boolean)) tb_X12_takesNumber = true := am_okJ_s rfl (am_j1 (am_j1 (am_j1 (am_j1 (am_j1 (am_j1 (am_j0) ck_X12_takesNumber_0) ck_X12_takesNumber_1) ck_X12_takesNumber_2) ck_X12_takesNumber_3) ck_X12_takesNumber_4) ck_X12_takesNumber_5)
set_option maxRecDepth 1000000 in
theorem ck_X12_takesPlain_0 : am_okJ 13 false cX12_takesPlain (some (.boolean)) tb_X12_takesPlain 0 = true := by decide +kernel
set_option maxRecDepth 1000000 in
theorem ck_X12_takesPlain : am_okT 13 false cX12_takesPlain (some (.boolean)) tb_X12_takesPlain = true := am_okJ_s rfl (am_j1 (am_j0) ck_X12_takesPlain_0)
set_option maxRecDepth 1000000 in
theorem ck_X12_node_0 : am_okJ 13 false cX12_node (some (.int)) tb_X12_node 0 = true := by decide +kernel
set_option maxRecDepth 1000000 in
theorem ck_X12_node_1 : am_okJ 13 false cX12_node (some (.int)) tb_X12_node 1 = true := by decide +kernel
set_option maxRecDepth 1000000 in
theorem ck_X12_node_2 : am_okJ 13 false cX12_node (some (.int)) tb_X12_node 2 = true := by decide +kernel
set_option maxRecDepth 1000000 in
theorem ck_X12_node : am_okT 13 false cX12_node (some (.int)) tb_X12_node = true := am_okJ_s rfl (am_j1 (am_j1 (am_j1 (am_j0) ck_X12_node_0) ck_X12_node_1) ck_X12_node_2)
set_option maxRecDepth 1000000 in
theorem ck_X12_any_0 : am_okJ 13 false cX12_any (some (.int)) tb_X12_any 0 = true := by decide +kernel
set_option maxRecDepth 1000000 in
theorem ck_X12_any_1 : am_okJ 13 false cX12_any (some (.int)) tb_X12_any 1 = true := by decide +kernel
set_option maxRecDepth 1000000 in
theorem ck_X12_any_2 : am_okJ 13 false cX12_any (some (.int)) tb_X12_any 2 = true := by decide +kernel
set_option maxRecDepth 1000000 in
theorem ck_X12_any : am_okT 13 false cX12_any (some (.int)) tb_X12_any = true := am_okJ_s rfl (am_j1 (am_j1 (am_j1 (am_j0) ck_X12_any_0) ck_X12_any_1) ck_X12_any_2)
set_option maxRecDepth 1000000 in
theorem ck_X12_all_0 : am_okJ 13 false cX12_all (some (.int)) tb_X12_all 0 = true := by decide +kernel
set_option maxRecDepth 1000000 in
theorem ck_X12_all_1 : am_okJ 13 false cX12_all (some (.int)) tb_X12_all 1 = true := by decide +kernel
set_option maxRecDepth 1000000 in
theorem ck_X12_all_2 : am_okJ 13 false cX12_all (some (.int)) tb_X12_all 2 = true := by decide +kernel
set_option maxRecDepth 1000000 in
theorem ck_X12_all : am_okT 13 false cX12_all (some (.int)) tb_X12_all = true := am_okJ_s rfl (am_j1 (am_j1 (am_j1 (am_j0) ck_X12_all_0) ck_X12_all_1) ck_X12_all_2)
set_option maxRecDepth 1000000 in
theorem ck_X12_told_0 : am_okJ 13 false cX12_told (some (.int)) tb_X12_told 0 = true := by decide +kernel
set_option maxRecDepth 1000000 in
theorem ck_X12_told_1 : am_okJ 13 false cX12_told (some (.int)) tb_X12_told 1 = true := by decide +kernel
set_option maxRecDepth 1000000 in
theorem ck_X12_told_2 : am_okJ 13 false cX12_told (some (.int)) tb_X12_told 2 = true := by decide +kernel
set_option maxRecDepth 1000000 in
theorem ck_X12_told_3 : am_okJ 13 false cX12_told (some (.int)) tb_X12_told 3 = true := by decide +kernel
set_option maxRecDepth 1000000 in
theorem ck_X12_told : am_okT 13 false cX12_told (some (.int)) tb_X12_told = true := am_okJ_s rfl (am_j1 (am_j1 (am_j1 (am_j1 (am_j0) ck_X12_told_0) ck_X12_told_1) ck_X12_told_2) ck_X12_told_3)
set_option maxRecDepth 1000000 in
theorem ck_X12_single_0 : am_okJ 13 false cX12_single (some (.int)) tb_X12_single 0 = true := by decide +kernel
set_option maxRecDepth 1000000 in
theorem ck_X12_single_1 : am_okJ 13 false cX12_single (some (.int)) tb_X12_single 1 = true := by decide +kernel
set_option maxRecDepth 1000000 in
theorem ck_X12_single_2 : am_okJ 13 false cX12_single (some (.int)) tb_X12_single 2 = true := by decide +kernel
set_option maxRecDepth 1000000 in
theorem ck_X12_single_3 : am_okJ 13 false cX12_single (some (.int)) tb_X12_single 3 = true := by decide +kernel
set_option maxRecDepth 1000000 in
theorem ck_X12_single_4 : am_okJ 13 false cX12_single (some (.int)) tb_X12_single 4 = true := by decide +kernel
set_option maxRecDepth 1000000 in
theorem ck_X12_single_5 : am_okJ 13 false cX12_single (some (.int)) tb_X12_single 5 = true := by decide +kernel
set_option maxRecDepth 1000000 in
theorem ck_X12_single_6 : am_okJ 13 false cX12_single (some (.int)) tb_X12_single 6 = true := by decide +kernel
set_option maxRecDepth 1000000 in
theorem ck_X12_single_7 : am_okJ 13 false cX12_single (some (.int)) tb_X12_single 7 = true := by decide +kernel
set_option maxRecDepth 1000000 in
theorem ck_X12_single_8 : am_okJ 13 false cX12_single (some (.int)) tb_X12_single 8 = true := by decide +kernel
set_option maxRecDepth 1000000 in
theorem ck_X12_single_9 : am_okJ 13 false cX12_single (some (.int)) tb_X12_single 9 = true := by decide +kernel
set_option maxRecDepth 1000000 in
theorem ck_X12_single_10 : am_okJ 13 false cX12_single (some (.int)) tb_X12_single 10 = true := by decide +kernel
set_option maxRecDepth 1000000 in
theorem ck_X12_single_11 : am_okJ 13 false cX12_single (some (.int)) tb_X12_single 11 = true := by decide +kernel
set_option maxRecDepth 1000000 in
theorem ck_X12_single_12 : am_okJ 13 false cX12_single (some (.int)) tb_X12_single 12 = true := by decide +kernel
set_option maxRecDepth 1000000 in
theorem ck_X12_single_13 : am_okJ 13 false cX12_single (some (.int)) tb_X12_single 13 = true := by decide +kernel
set_option maxRecDepth 1000000 in
theorem ck_X12_single : am_okT 13 false cX12_single (some (.int)) tb_X12_single = true := am_okJ_s rfl (am_j1 (am_j1 (am_j1 (am_j1 (am_j1 (am_j1 (am_j1 (am_j1 (am_j1 (am_j1 (am_j1 (am_j1 (am_j1 (am_j1 (am_j0) ck_X12_single_0) ck_X12_single_1) ck_X12_single_2) ck_X12_single_3) ck_X12_single_4) ck_X12_single_5) ck_X12_single_6) ck_X12_single_7) ck_X12_single_8) ck_X12_single_9) ck_X12_single_10) ck_X12_single_11) ck_X12_single_12) ck_X12_single_13)
