set_option maxRecDepth 1000000 in
theorem ck_X12_clear_0 : am_okJ 13 false cX12_clear (some (.int)) tb_X12_clear 0 = true := by decide +kernel
set_option maxRecDepth 1000000 in
theorem ck_X12_clear_1 : am_okJ 13 false cX12_clear (some (.int)) tb_X12_clear 1 = true := by decide +kernel
set_option maxRecDepth 1000000 in
theorem ck_X12_clear : am_okT 13 false cX12_clear (some (.int)) tb_X12_clear = true := am_okJ_s rfl (am_j1 (am_j1 (am_j0) ck_X12_clear_0) ck_X12_clear_1)
set_option maxRecDepth 1000000 in
theorem ck_X12_empty_0 : am_okJ 13 false cX12_empty (some (.int)) tb_X12_empty 0 = true := by decide +kernel
set_option maxRecDepth 1000000 in
theorem ck_X12_empty_1 : am_okJ 13 false cX12_empty (some (.int)) tb_X12_empty 1 = true := by decide +kernel
set_option maxRecDepth 1000000 in
theorem ck_X12_empty_2 : am_okJ 13 false cX12_empty (some (.int)) tb_X12_empty 2 = true := by decide +kernel
set_option maxRecDepth 1000000 in
theorem ck_X12_empty_3 : am_okJ 13 false cX12_empty (some (.int)) tb_X12_empty 3 = true := by decide +kernel
set_option maxRecDepth 1000000 in
theorem ck_X12_empty_4 : am_okJ 13 false cX12_empty (some (.int)) tb_X12_empty 4 = true := by decide +kernel
set_option maxRecDepth 1000000 in
theorem ck_X12_empty : am_okT 13 false cX12_empty (some (.int)) tb_X12_empty = true := am_okJ_s rfl (am_j1 (am_j1 (am_j1 (am_j1 (am_j1 (am_j0) ck_X12_empty_0) ck_X12_empty_1) ck_X12_empty_2) ck_X12_empty_3) ck_X12_empty_4)
set_option maxRecDepth 1000000 in
theorem ck_X12_free_0 : am_okJ 13 false cX12_free (some (.int)) tb_X12_free 0 = true := by decide +kernel
set_option maxRecDepth 1000000 in
theorem ck_X12_free_1 : am_okJ 13 false cX12_free (some (.int)) tb_X12_free 1 = true := by decide +kernel
set_option maxRecDepth 1000000 in
theorem ck_X12_free_2 : am_okJ 13 false cX12_free (some (.int)) tb_X12_free 2 = true := by decide +kernel
set_option maxRecDepth 1000000 in
theorem ck_X12_free_3 : am_okJ 13 false cX12_free (some (.int)) tb_X12_free 3 = true := by decide +kernel
set_option maxRecDepth 1000000 in
theorem ck_X12_free_4 : am_okJ 13 false cX12_free (some (.int)) tb_X12_free 4 = true := by decide +kernel
set_option maxRecDepth 1000000 in
theorem ck_X12_free : am_okT 13 false cX12_free (some (.int)) tb_X12_free = true := am_okJ_s rfl (am_j1 (am_j1 (am_j1 (am_j1 (am_j1 (am_j0) ck_X12_free_0) ck_X12_free_1) ck_X12_free_2) ck_X12_free_3) ck_X12_free_4)
set_option maxRecDepth 1000000 in
theorem ck_X12_rows_0 : am_okJ 13 false cX12_rows (none) tb_X12_rows 0 = true := by decide +kernel
set_option maxRecDepth 1000000 in
theorem ck_X12_rows_1 : am_okJ 13 false cX12_rows (none) tb_X12_rows 1 = true := by decide +kernel
set_option maxRecDepth 1000000 in
theorem ck_X12_rows_2 : am_okJ 13 false cX12_rows (none) tb_X12_rows 2 = true := by decide +kernel
set_option maxRecDepth 1000000 in
theorem ck_X12_rows_3 : am_okJ 13 false cX12_rows (none) tb_X12_rows 3 = true := by decide +kernel
set_option maxRecDepth 1000000 in
theorem ck_X12_rows_4 : am_okJ 13 false cX12_rows (none) tb_X12_rows 4 = true := by decide +kernel
set_option maxRecDepth 1000000 in
theorem ck_X12_rows_5 : am_okJ 13 false cX12_rows (none) tb_X12_rows 5 = true := by decide +kernel
set_option maxRecDepth 1000000 in
theorem ck_X12_rows_6 : am_okJ 13 false cX12_rows (none) tb_X12_rows 6 = true := by decide +kernel
set_option maxRecDepth 1000000 in
theorem ck_X12_rows_7 : am_okJ 13 false cX12_rows (none) tb_X12_rows 7 = true := by decide +kernel
set_option maxRecDepth 1000000 in
theorem ck_X12_rows_8 : am_okJ 13 false cX12_rows (none) tb_X12_rows 8 = true := by decide +kernel
set_option maxRecDepth 1000000 in
theorem ck_X12_rows_9 : am_okJ 13 false cX12_rows (none) tb_X12_rows 9 = true := by decide +kernel
set_option maxRecDepth 1000000 in
theorem ck_X12_rows_10 : am_okJ 13 false cX12_rows (none) tb_X12_rows 10 = true := by decide +kernel
set_option maxRecDepth 1000000 in
theorem ck_X12_rows : am_okT 13 false cX12_rows (none) tb_X12_rows = true := am_okJ_s rfl (am_j1 (am_j1 (am_j1 (am_j1 (am_j1 (am_j1 (am_j1 (am_j1 (am_j1 (am_j1 (am_j1 (am_j0) ck_X12_rows_0) ck_X12_rows_1) ck_X12_rows_2) ck_X12_rows_3) ck_X12_rows_4) ck_X12_rows_5) ck_X12_rows_6) ck_X12_rows_7) ck_X12_rows_8) ck_X12_rows_9) ck_X12_rows_10)
set_option maxRecDepth 1000000 in
theorem ck_X12_isLess_0 : am_okJ 13 false cX12_isLess (some (.boolean)) tb_X12_isLess 0 = true := by decide +kernel
set_option maxRecDepth 1000000 in
theorem ck_X12_isLess_1 : am_okJ 13 false cX12_isLess (some (.boolean)) tb_X12_isLess 1 = true := by decide +kernel
set_option maxRecDepth 1000000 in
theorem ck_X12_isLess_2 : am_okJ 13 false cX12_isLess (some (.boolean)) tb_X12_isLess 2 = true := by decide +kernel
set_option maxRecDepth 1000000 in
theorem ck_X12_isLess : am_okT 13 false cX12_isLess (some (.boolean)) tb_X12_isLess = true := am_okJ_s rfl (am_j1 (am_j1 (am_j1 (am_j0) ck_X12_isLess_0) ck_X12_isLess_1) ck_X12_isLess_2)
set_option maxRecDepth 1000000 in
theorem ck_X12_chain_0 : am_okJ 13 false cX12_chain (some (.int)) tb_X12_chain 0 = true := by decide +kernel
set_option maxRecDepth 1000000 in
theorem ck_X12_chain_1 : am_okJ 13 false cX12_chain (some (.int)) tb_X12_chain 1 = true := by decide +kernel
set_option maxRecDepth 1000000 in
theorem ck_X12_chain_2 : am_okJ 13 false cX12_chain (some (.int)) tb_X12_chain 2 = true := by decide +kernel
set_option maxRecDepth 1000000 in
theorem ck_X12_chain_3 : am_okJ 13 false cX12_chain (some (.int)) tb_X12_chain 3 = true := by decide +kernel
set_option maxRecDepth 1000000 in
theorem ck_X12_chain_4 : am_okJ 13 false cX12_chain (some (.int)) tb_X12_chain 4 = true := by decide +kernel
set_option maxRecDepth 1000000 in
theorem ck_X12_chain : am_okT 13 false cX12_chain (some (.int)) tb_X12_chain = true := am_okJ_s rfl (am_j1 (am_j1 (am_j1 (am_j1 (am_j1 (am_j0) ck_X12_chain_0) ck_X12_chain_1) ck_X12_chain_2) ck_X12_chain_3) ck_X12_chain_4)
set_option maxRecDepth 1000000 in
theorem ck_X12_ask_0 : am_okJ 13 false cX12_ask (some (.int)) tb_X12_ask 0 = true := by decide +kernel
set_option maxRecDepth 1000000 in
theorem ck_X12_ask_1 : am_okJ 13 false cX12_ask (some (.int)) tb_X12_ask 1 = true := by decide +kernel
set_option maxRecDepth 1000000 in
theorem ck_X12_ask_2 : am_okJ 13 false cX12_ask (some (.int)) tb_X12_ask 2 = true := by decide +kernel
set_option maxRecDepth 1000000 in
theorem ck_X12_ask_3 : am_okJ 13 false cX12_ask (some (.int)) tb_X12_ask 3 = true := by decide +kernel
set_option maxRecDepth 1000000 in
theorem ck_X12_ask_4 : am_okJ 13 false cX12_ask (some (.int)) tb_X12_ask 4 = true := by decide +kernel
set_option maxRecDepth 1000000 in
theorem ck_X12_ask : am_okT 13 false cX12_ask (some (.int)) tb_X12_ask = true := am_okJ_s rfl (am_j1 (am_j1 (am_j1 (am_j1 (am_j1 (am_j0) ck_X12_ask_0) ck_X12_ask_1) ck_X12_ask_2) ck_X12_ask_3) ck_X12_ask_4)
set_option maxRecDepth 1000000 in
theorem ck_X12_areLike_0 : am_okJ 13 false cX12_areLike (some (.boolean)) tb_X12_areLike 0 = true := by decide +kernel
set_option maxRecDepth 1000000 in
theorem ck_X12_areLike_1 : am_okJ 13 false cX12_areLike (some (.boolean)) tb_X12_areLike 1 = true := by decide +kernel
set_option maxRecDepth 1000000 in
theorem ck_X12_areLike_2 : am_okJ 13 false cX12_areLike (some (.boolean)) tb_X12_areLike 2 = true := by decide +kernel
set_option maxRecDepth 1000000 in
theorem ck_X12_areLike_3 : am_okJ 13 false cX12_areLike (some (.boolean)) tb_X12_areLike 3 = true := by decide +kernel
set_option maxRecDepth 1000000 in
theorem ck_X12_areLike_4 : am_okJ 13 false cX12_areLike (some (.boolean)) tb_X12_areLike 4 = true := by decide +kernel
set_option maxRecDepth 1000000 in
theorem ck_X12_areLike_5 : am_okJ 13 false cX12_areLike (some (.boolean)) tb_X12_areLike 5 = true := by decide +kernel
set_option maxRecDepth 1000000 in
theorem ck_X12_areLike_6 : am_okJ 13 false cX12_areLike (some (.boolean)) tb_X12_areLike 6 = true := by decide +kernel
set_option maxRecDepth 1000000 in
theorem ck_X12_areLike_7 : am_okJ 13 false cX12_areLike (some (.boolean)) tb_X12_areLike 7 = true := by decide +kernel
set_option maxRecDepth 1000000 in
theorem ck_X12_areLike : am_okT 13 false cX12_areLike (some (.boolean)) tb_X12_areLike = true := am_okJ_s rfl (am_j1 (am_j1 (am_j1 (am_j1 (am_j1 (am_j1 (am_j1 (am_j1 (am_j0) ck_X12_areLike_0) ck_X12_areLike_1) ck_X12_areLike_2) ck_X12_areLike_3) ck_X12_areLike_4) ck_X12_areLike_5) ck_X12_areLike_6) ck_X12_areLike_7)
set_option maxRecDepth 1000000 in
theorem ck_X12_like_0 : am_okJ 13 false cX12_like (some (.int)) tb_X12_like 0 = true := by decide +kernel
set_option maxRecDepth 1000000 in
theorem ck_X12_like_1 : am_okJ 13 false cX12_like (some (.int)) tb_X12_like 1 = true := by decide +kernel
set_option maxRecDepth 1000000 in
theorem ck_X12_like_2 : am_okJ 13 false cX12_like (some (.int)) tb_X12_like 2 = true := by decide +kernel
set_option maxRecDepth 1000000 in
theorem ck_X12_like_3 : am_okJ 13 false cX12_like (some (.int)) tb_X12_like 3 = true := by decide +kernel
set_option maxRecDepth 1000000 in
theorem ck_X12_like_4 : am_okJ 13 false cX12_like (some (.int)) tb_X12_like 4 = true := by decide +kernel
set_option maxRecDepth 1000000 in
theorem ck_X12_like : am_okT 13 false cX12_like (some (.int)) tb_X12_like = true := am_okJ_s rfl (am_j1 (am_j1 (am_j1 (am_j1 (am_j1 (am_j0) ck_X12_like_0) ck_X12_like_1) ck_X12_like_2) ck_X12_like_3) ck_X12_like_4)
set_option maxRecDepth 1000000 in
theorem ck_X12_box_0 : am_okJ 13 false cX12_box (some (.int)) tb_X12_box 0 = true := by decide +kernel
set_option maxRecDepth 1000000 in
theorem ck_X12_box_1 : am_okJ 13 false cX12_box (some (.int)) tb_X12_box 1 = true := by decide +kernel
set_option maxRecDepth 1000000 in
theorem ck_X12_box_2 : am_okJ 13 false cX12_box (some (.int)) tb_X12_box 2 = true := by decide +kernel
set_option maxRecDepth 1000000 in
theorem ck_X12_box_3 : am_okJ 13 false cX12_box (some (.int)) tb_X12_box 3 = true := by decide +kernel
set_option maxRecDepth 1000000 in
theorem ck_X12_box_4 : am_okJ 13 false cX12_box (some (.int)) tb_X12_box 4 = true := by decide +kernel
set_option maxRecDepth 1000000 in
theorem ck_X12_box_5 : am_okJ 13 false cX12_box (some (.int)) tb_X12_box 5 = true := by decide +kernel
set_option maxRecDepth 1000000 in
theorem ck_X12_box : am_okT 13 false cX12_box (some (.int)) tb_X12_box = true := am_okJ_s rfl (am_j1 (am_j1 (am_j1 (am_j1 (am_j1 (am_j1 (am_j0) ck_X12_box_0) ck_X12_box_1) ck_X12_box_2) ck_X12_box_3) ck_X12_box_4) ck_X12_box_5)
set_option maxRecDepth 1000000 in
theorem ck_X12_wasLeftSoon_0 : am_okJ 13 false cX12_wasLeftSoon (some (.boolean)) tb_X12_wasLeftSoon 0 = true := by decide +kernel
set_option maxRecDepth 1000000 in
theorem ck_X12_wasLeftSoon_1 : am_okJ 13 false cX12_wasLeftSoon (some (.boolean)) tb_X12_wasLeftSoon 1 = true := by decide +kernel
set_option maxRecDepth 1000000 in
theorem ck_X12_wasLeftSoon_2 : am_okJ 13 false cX12_wasLeftSoon (some (.boolean)) tb_X12_wasLeftSoon 2 = true := by decide +kernel
set_option maxRecDepth 1000000 in
theorem ck_X12_wasLeftSoon : am_okT 13 false cX12_wasLeftSoon (some (.boolean)) tb_X12_wasLeftSoon = true := am_okJ_s rfl (am_j1 (am_j1 (am_j1 (am_j0) ck_X12_wasLeftSoon_0) ck_X12_wasLeftSoon_1) ck_X12_wasLeftSoon_2)
set_option maxRecDepth 1000000 in
theorem ck_X12_leftMore_0 : am_okJ 13 false cX12_leftMore (some (.int)) tb_X12_leftMore 0 = true := by decide +kernel
set_option maxRecDepth 1000000 in
theorem ck_X12_leftMore_1 : am_okJ 13 false cX12_leftMore (some (.int)) tb_X12_leftMore 1 = true := by decide +kernel
set_option maxRecDepth 1000000 in
theorem ck_X12_leftMore_2 : am_okJ 13 false cX12_leftMore (some (.int)) tb_X12_leftMore 2 = true := by decide +kernel
set_option maxRecDepth 1000000 in
theorem ck_X12_leftMore_3 : am_okJ 13 false cX12_leftMore (some (.int)) tb_X12_leftMore 3 = true := by decide +kernel
set_option maxRecDepth 1000000 in
theorem ck_X12_leftMore_4 : am_okJ 13 false cX12_leftMore (some (.int)) tb_X12_leftMore 4 = true := by decide +kernel
set_option maxRecDepth 1000000 in
theorem ck_X12_leftMore_5 : am_okJ 13 false cX12_leftMore (some (.int)) tb_X12_leftMore 5 = true := by decide +kernel
set_option maxRecDepth 1000000 in
theorem ck_X12_leftMore_6 : am_okJ 13 false cX12_leftMore (some (.int)) tb_X12_leftMore 6 = true := by decide +kernel
set_option maxRecDepth 1000000 in
theorem ck_X12_leftMore_7 : am_okJ 13 false cX12_leftMore (some (.int)) tb_X12_leftMore 7 = true := by decide +kernel
set_option maxRecDepth 1000000 in
theorem ck_X12_leftMore : am_okT 13 false cX12_leftMore (some (.int)) tb_X12_leftMore = true := am_okJ_s rfl (am_j1 (am_j1 (am_j1 (am_j1 (am_j1 (am_j1 (am_j1 (am_j1 (am_j0) ck_X12_leftMore_0) ck_X12_leftMore_1) ck_X12_leftMore_2) ck_X12_leftMore_3) ck_X12_leftMore_4) ck_X12_leftMore_5) ck_X12_leftMore_6) ck_X12_leftMore_7)
set_option maxRecDepth 1000000 in
theorem ck_X12_count_0 : am_okJ 13 false cX12_count (some (.int)) tb_X12_count 0 = true := by decide +kernel
set_option maxRecDepth 1000000 in
theorem ck_X12_count_1 : am_okJ 13 false cX12_count (some (.int)) tb_X12_count 1 = true := by decide +kernel
set_option maxRecDepth 1000000 in
theorem ck_X12_count_2 : am_okJ 13 false cX12_count (some (.int)) tb_X12_count 2 = true := by decide +kernel
set_option maxRecDepth 1000000 in
theorem ck_X12_count_3 : am_okJ 13 false cX12_count (some (.int)) tb_X12_count 3 = true := by decide +kernel
set_option maxRecDepth 1000000 in
theorem ck_X12_count_4 : am_okJ 13 false cX12_count (some (.int)) tb_X12_count 4 = true := by decide +kernel
set_option maxRecDepth 1000000 in
theorem ck_X12_count_5 : am_okJ 13 false cX12_count (some (.int)) tb_X12_count 5 = true := by decide +kernel
set_option maxRecDepth 1000000 in
theorem ck_X12_count_6 : am_okJ 13 false cX12_count (some (.int)) tb_X12_count 6 = true := by decide +kernel
set_option maxRecDepth 1000000 in
theorem ck_X12_count_7 : am_okJ 13 false cX12_count (some (.int)) tb_X12_count 7 = true := by decide +kernel
set_option maxRecDepth 1000000 in
theorem ck_X12_count : am_okT 13 false cX12_count (some (.int)) tb_X12_count = true := am_okJ_s rfl (am_j1 (am_j1 (am_j1 (am_j1 (am_j1 (am_j1 (am_j1 (am_j1 (am_j0) ck_X12_count_0) ck_X12_count_1) ck_X12_count_2) ck_X12_count_3) ck_X12_count_4) ck_X12_count_5) ck_X12_count_6) ck_X12_count_7)
set_option maxRecDepth 1000000 in
theorem ck_J6_bitCount_0f7a4_0 : am_okJ 14 false cJ6_bitCount_0f7a4 (some (.int)) tb_J6_bitCount_0f7a4 0 = true := by decide +kernel
set_option maxRecDepth 1000000 in
theorem ck_J6_bitCount_0f7a4_1 : am_okJ 14 false cJ6_bitCount_0f7a4 (some (.int)) tb_J6_bitCount_0f7a4 1 = true := by decide +kernel
set_option maxRecDepth 1000000 in
theorem ck_J6_bitCount_0f7a4_2 : am_okJ 14 false cJ6_bitCount_0f7a4 (some (.int)) tb_J6_bitCount_0f7a4 2 = true := by decide +kernel
set_option maxRecDepth 1000000 in
theorem ck_J6_bitCount_0f7a4_3 : am_okJ 14 false cJ6_bitCount_0f7a4 (some (.int)) tb_J6_bitCount_0f7a4 3 = true := by decide +kernel
set_option maxRecDepth 1000000 in
theorem ck_J6_bitCount_0f7a4 : am_okT 14 false cJ6_bitCount_0f7a4 (some (.int)) tb_J6_bitCount_0f7a4 = true := am_okJ_s rfl (am_j1 (am_j1 (am_j1 (am_j1 (am_j0) ck_J6_bitCount_0f7a4_0) ck_J6_bitCount_0f7a4_1) ck_J6_bitCount_0f7a4_2) ck_J6_bitCount_0f7a4_3)
set_option maxRecDepth 1000000 in
theorem ck_J0_length_8abf5_0 : am_okJ 15 false cJ0_length_8abf5 (some (.int)) tb_J0_length_8abf5 0 = true := by decide +kernel
set_option maxRecDepth 1000000 in
theorem ck_J0_length_8abf5 : am_okT 15 false cJ0_length_8abf5 (some (.int)) tb_J0_length_8abf5 = true := am_okJ_s rfl (am_j1 (am_j0) ck_J0_length_8abf5_0)
set_option maxRecDepth 1000000 in
theorem ck_J0_charAt_5068e_0 : am_okJ 15 false cJ0_charAt_5068e (some (.char)) tb_J0_charAt_5068e 0 = true := by decide +kernel
set_option maxRecDepth 1000000 in
theorem ck_J0_charAt_5068e : am_okT 15 false cJ0_charAt_5068e (some (.char)) tb_J0_charAt_5068e = true := am_okJ_s rfl (am_j1 (am_j0) ck_J0_charAt_5068e_0)
set_option maxRecDepth 1000000 in
theorem ck_J0_indexOf_0f7a4_0 : am_okJ 15 false cJ0_indexOf_0f7a4 (some (.int)) tb_J0_indexOf_0f7a4 0 = true := by decide +kernel
set_option maxRecDepth 1000000 in
theorem ck_J0_indexOf_0f7a4 : am_okT 15 false cJ0_indexOf_0f7a4 (some (.int)) tb_J0_indexOf_0f7a4 = true := am_okJ_s rfl (am_j1 (am_j0) ck_J0_indexOf_0f7a4_0)
set_option maxRecDepth 1000000 in
theorem ck_J0_indexOf_7cf53_0 : am_okJ 15 false cJ0_indexOf_7cf53 (some (.int)) tb_J0_indexOf_7cf53 0 = true := by decide +kernel
set_option maxRecDepth 1000000 in
theorem ck_J0_indexOf_7cf53_1 : am_okJ 15 false cJ0_indexOf_7cf53 (some (.int)) tb_J0_indexOf_7cf53 1 = true := by decide +kernel
set_option maxRecDepth 1000000 in
theorem ck_J0_indexOf_7cf53 : am_okT 15 false cJ0_indexOf_7cf53 (some (.int)) tb_J0_indexOf_7cf53 = true := am_okJ_s rfl (am_j1 (am_j1 (am_j0) ck_J0_indexOf_7cf53_0) ck_J0_indexOf_7cf53_1)
set_option maxRecDepth 1000000 in
theorem ck_J0_coder_7d493_0 : am_okJ 15 false cJ0_coder_7d493 (some (.byte)) tb_J0_coder_7d493 0 = true := by decide +kernel
set_option maxRecDepth 1000000 in
theorem ck_J0_coder_7d493 : am_okT 15 false cJ0_coder_7d493 (some (.byte)) tb_J0_coder_7d493 = true := am_okJ_s rfl (am_j1 (am_j0) ck_J0_coder_7d493_0)
set_option maxRecDepth 1000000 in
theorem ck_J0_isLatin1_aae02_0 : am_okJ 15 false cJ0_isLatin1_aae02 (some (.boolean)) tb_J0_isLatin1_aae02 0 = true := by decide +kernel
set_option maxRecDepth 1000000 in
theorem ck_J0_isLatin1_aae02 : am_okT 15 false cJ0_isLatin1_aae02 (some (.boolean)) tb_J0_isLatin1_aae02 = true := am_okJ_s rfl (am_j1 (am_j0) ck_J0_isLatin1_aae02_0)
set_option maxRecDepth 1000000 in
theorem ck_J0_checkIndex_df160_0 : am_okJ 15 false cJ0_checkIndex_df160 (none) tb_J0_checkIndex_df160 0 = true := by decide +kernel
set_option maxRecDepth 1000000 in
theorem ck_J0_checkIndex_df160 : am_okT 15 false cJ0_checkIndex_df160 (none) tb_J0_checkIndex_df160 = true := am_okJ_s rfl (am_j1 (am_j0) ck_J0_checkIndex_df160_0)
set_option maxRecDepth 1000000 in
theorem ck_J1_charAt_3b067_0 : am_okJ 16 false cJ1_charAt_3b067 (some (.char)) tb_J1_charAt_3b067 0 = true := by decide +kernel
set_option maxRecDepth 1000000 in
theorem ck_J1_charAt_3b067 : am_okT 16 false cJ1_charAt_3b067 (some (.char)) tb_J1_charAt_3b067 = true := am_okJ_s rfl (am_j1 (am_j0) ck_J1_charAt_3b067_0)
set_option maxRecDepth 1000000 in
theorem ck_J1_canEncode_9a6ad_0 : am_okJ 16 false cJ1_canEncode_9a6ad (some (.boolean)) tb_J1_canEncode_9a6ad 0 = true := by decide +kernel
set_option maxRecDepth 1000000 in
theorem ck_J1_canEncode_9a6ad : am_okT 16 false cJ1_canEncode_9a6ad (some (.boolean)) tb_J1_canEncode_9a6ad = true := am_okJ_s rfl (am_j1 (am_j0) ck_J1_canEncode_9a6ad_0)
set_option maxRecDepth 1000000 in
theorem ck_J1_indexOf_4cfef_0 : am_okJ 16 false cJ1_indexOf_4cfef (some (.int)) tb_J1_indexOf_4cfef 0 = true := by decide +kernel
set_option maxRecDepth 1000000 in
theorem ck_J1_indexOf_4cfef_1 : am_okJ 16 false cJ1_indexOf_4cfef (some (.int)) tb_J1_indexOf_4cfef 1 = true := by decide +kernel
set_option maxRecDepth 1000000 in
theorem ck_J1_indexOf_4cfef_2 : am_okJ 16 false cJ1_indexOf_4cfef (some (.int)) tb_J1_indexOf_4cfef 2 = true := by decide +kernel
set_option maxRecDepth 1000000 in
theorem ck_J1_indexOf_4cfef : am_okT 16 false cJ1_indexOf_4cfef (some (.int)) tb_J1_indexOf_4cfef = true := am_okJ_s rfl (am_j1 (am_j1 (am_j1 (am_j0) ck_J1_indexOf_4cfef_0) ck_J1_indexOf_4cfef_1) ck_J1_indexOf_4cfef_2)
set_option maxRecDepth 1000000 in
theorem ck_J1_indexOfChar_4cfef_0 : am_okJ 16 false cJ1_indexOfChar_4cfef (some (.int)) tb_J1_indexOfChar_4cfef 0 = true := by decide +kernel
set_option maxRecDepth 1000000 in
theorem ck_J1_indexOfChar_4cfef_1 : am_okJ 16 false cJ1_indexOfChar_4cfef (some (.int)) tb_J1_indexOfChar_4cfef 1 = true := by decide +kernel
set_option maxRecDepth 1000000 in
theorem ck_J1_indexOfChar_4cfef : am_okT 16 false cJ1_indexOfChar_4cfef (some (.int)) tb_J1_indexOfChar_4cfef = true := am_okJ_s rfl (am_j1 (am_j1 (am_j0) ck_J1_indexOfChar_4cfef_0) ck_J1_indexOfChar_4cfef_1)
set_option maxRecDepth 1000000 in
theorem ck_Jxa1e45_init_da8c8_0 : am_okJ 17 true cJxa1e45_init_da8c8 (none) tb_Jxa1e45_init_da8c8 0 = true := by decide +kernel
set_option maxRecDepth 1000000 in
theorem ck_Jxa1e45_init_da8c8 : am_okT 17 true cJxa1e45_init_da8c8 (none) tb_Jxa1e45_init_da8c8 = true := am_okJ_s rfl (am_j1 (am_j0) ck_Jxa1e45_init_da8c8_0)
set_option maxRecDepth 1000000 in
theorem ck_Jxc12de_init_da8c8_0 : am_okJ 18 true cJxc12de_init_da8c8 (none) tb_Jxc12de_init_da8c8 0 = true := by decide +kernel
set_option maxRecDepth 1000000 in
theorem ck_Jxc12de_init_da8c8 : am_okT 18 true cJxc12de_init_da8c8 (none) tb_Jxc12de_init_da8c8 = true := am_okJ_s rfl (am_j1 (am_j0) ck_Jxc12de_init_da8c8_0)
set_option maxRecDepth 1000000 in
theorem ck_Jx4a65c_init_da8c8_0 : am_okJ 19 true cJx4a65c_init_da8c8 (none) tb_Jx4a65c_init_da8c8 0 = true := by decide +kernel
set_option maxRecDepth 1000000 in
theorem ck_Jx4a65c_init_da8c8 : am_okT 19 true cJx4a65c_init_da8c8 (none) tb_Jx4a65c_init_da8c8 = true := am_okJ_s rfl (am_j1 (am_j0) ck_Jx4a65c_init_da8c8_0)
set_option maxRecDepth 1000000 in
theorem ck_Jx4a65c_grow_92f84_0 : am_okJ 19 false cJx4a65c_grow_92f84 (some (.array (.object "java/lang/Object"))) tb_Jx4a65c_grow_92f84 0 = true := by decide +kernel
set_option maxRecDepth 1000000 in
theorem ck_Jx4a65c_grow_92f84_1 : am_okJ 19 false cJx4a65c_grow_92f84 (some (.array (.object "java/lang/Object"))) tb_Jx4a65c_grow_92f84 1 = true := by decide +kernel
set_option maxRecDepth 1000000 in
theorem ck_Jx4a65c_grow_92f84_2 : am_okJ 19 false cJx4a65c_grow_92f84 (some (.array (.object "java/lang/Object"))) tb_Jx4a65c_grow_92f84 2 = true := by decide +kernel
set_option maxRecDepth 1000000 in
theorem ck_Jx4a65c_grow_92f84 : am_okT 19 false cJx4a65c_grow_92f84 (some (.array (.object "java/lang/Object"))) tb_Jx4a65c_grow_92f84 = true := am_okJ_s rfl (am_j1 (am_j1 (am_j1 (am_j0) ck_Jx4a65c_grow_92f84_0) ck_Jx4a65c_grow_92f84_1) ck_Jx4a65c_grow_92f84_2)
