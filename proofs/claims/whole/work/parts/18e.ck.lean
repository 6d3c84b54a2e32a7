set_option maxRecDepth 1000000 in
theorem ck_X11_twice_0 : am_okJ 12 false cX11_twice (some (.int)) tb_X11_twice 0 = true := by decide +kernel
set_option maxRecDepth 1000000 in
theorem ck_X11_twice_1 : am_okJ 12 false cX11_twice (some (.int)) tb_X11_twice 1 = true := by decide +kernel
set_option maxRecDepth 1000000 in
theorem ck_X11_twice_2 : am_okJ 12 false cX11_twice (some (.int)) tb_X11_twice 2 = true := by decide +kernel
set_option maxRecDepth 1000000 in
theorem ck_X11_twice_3 : am_okJ 12 false cX11_twice (some (.int)) tb_X11_twice 3 = true := by decide +kernel
set_option maxRecDepth 1000000 in
theorem ck_X11_twice_4 : am_okJ 12 false cX11_twice (some (.int)) tb_X11_twice 4 = true := by decide +kernel
set_option maxRecDepth 1000000 in
theorem ck_X11_twice : am_okT 12 false cX11_twice (some (.int)) tb_X11_twice = true := am_okJ_s rfl (am_j1 (am_j1 (am_j1 (am_j1 (am_j1 (am_j0) ck_X11_twice_0) ck_X11_twice_1) ck_X11_twice_2) ck_X11_twice_3) ck_X11_twice_4)
set_option maxRecDepth 1000000 in
theorem ck_X11_placed_0 : am_okJ 12 false cX11_placed (some (.int)) tb_X11_placed 0 = true := by decide +kernel
set_option maxRecDepth 1000000 in
theorem ck_X11_placed_1 : am_okJ 12 false cX11_placed (some (.int)) tb_X11_placed 1 = true := by decide +kernel
set_option maxRecDepth 1000000 in
theorem ck_X11_placed_2 : am_okJ 12 false cX11_placed (some (.int)) tb_X11_placed 2 = true := by decide +kernel
set_option maxRecDepth 1000000 in
theorem ck_X11_placed_3 : am_okJ 12 false cX11_placed (some (.int)) tb_X11_placed 3 = true := by decide +kernel
set_option maxRecDepth 1000000 in
theorem ck_X11_placed_4 : am_okJ 12 false cX11_placed (some (.int)) tb_X11_placed 4 = true := by decide +kernel
set_option maxRecDepth 1000000 in
theorem ck_X11_placed_5 : am_okJ 12 false cX11_placed (some (.int)) tb_X11_placed 5 = true := by decide +kernel
set_option maxRecDepth 1000000 in
theorem ck_X11_placed : am_okT 12 false cX11_placed (some (.int)) tb_X11_placed = true := am_okJ_s rfl (am_j1 (am_j1 (am_j1 (am_j1 (am_j1 (am_j1 (am_j0) ck_X11_placed_0) ck_X11_placed_1) ck_X11_placed_2) ck_X11_placed_3) ck_X11_placed_4) ck_X11_placed_5)
set_option maxRecDepth 1000000 in
theorem ck_X11_wages_0 : am_okJ 12 false cX11_wages (some (.int)) tb_X11_wages 0 = true := by decide +kernel
set_option maxRecDepth 1000000 in
theorem ck_X11_wages_1 : am_okJ 12 false cX11_wages (some (.int)) tb_X11_wages 1 = true := by decide +kernel
set_option maxRecDepth 1000000 in
theorem ck_X11_wages_2 : am_okJ 12 false cX11_wages (some (.int)) tb_X11_wages 2 = true := by decide +kernel
set_option maxRecDepth 1000000 in
theorem ck_X11_wages_3 : am_okJ 12 false cX11_wages (some (.int)) tb_X11_wages 3 = true := by decide +kernel
set_option maxRecDepth 1000000 in
theorem ck_X11_wages_4 : am_okJ 12 false cX11_wages (some (.int)) tb_X11_wages 4 = true := by decide +kernel
set_option maxRecDepth 1000000 in
theorem ck_X11_wages : am_okT 12 false cX11_wages (some (.int)) tb_X11_wages = true := am_okJ_s rfl (am_j1 (am_j1 (am_j1 (am_j1 (am_j1 (am_j0) ck_X11_wages_0) ck_X11_wages_1) ck_X11_wages_2) ck_X11_wages_3) ck_X11_wages_4)
set_option maxRecDepth 1000000 in
theorem ck_X11_feed_0 : am_okJ 12 false cX11_feed (some (.int)) tb_X11_feed 0 = true := by decide +kernel
set_option maxRecDepth 1000000 in
theorem ck_X11_feed_1 : am_okJ 12 false cX11_feed (some (.int)) tb_X11_feed 1 = true := by decide +kernel
set_option maxRecDepth 1000000 in
theorem ck_X11_feed_2 : am_okJ 12 false cX11_feed (some (.int)) tb_X11_feed 2 = true := by decide +kernel
set_option maxRecDepth 1000000 in
theorem ck_X11_feed : am_okT 12 false cX11_feed (some (.int)) tb_X11_feed = true := am_okJ_s rfl (am_j1 (am_j1 (am_j1 (am_j0) ck_X11_feed_0) ck_X11_feed_1) ck_X11_feed_2)
set_option maxRecDepth 1000000 in
theorem ck_X11_rules_0 : am_okJ 12 false cX11_rules (some (.int)) tb_X11_rules 0 = true := by decide +kernel
set_option maxRecDepth 1000000 in
theorem ck_X11_rules_1 : am_okJ 12 false cX11_rules (some (.int)) tb_X11_rules 1 = true := by decide +kernel
set_option maxRecDepth 1000000 in
theorem ck_X11_rules_2 : am_okJ 12 false cX11_rules (some (.int)) tb_X11_rules 2 = true := by decide +kernel
set_option maxRecDepth 1000000 in
theorem ck_X11_rules_3 : am_okJ 12 false cX11_rules (some (.int)) tb_X11_rules 3 = true := by decide +kernel
set_option maxRecDepth 1000000 in
theorem ck_X11_rules : am_okT 12 false cX11_rules (some (.int)) tb_X11_rules = true := am_okJ_s rfl (am_j1 (am_j1 (am_j1 (am_j1 (am_j0) ck_X11_rules_0) ck_X11_rules_1) ck_X11_rules_2) ck_X11_rules_3)
set_option maxRecDepth 1000000 in
theorem ck_X11_fault_0 : am_okJ 12 false cX11_fault (some (.int)) tb_X11_fault 0 = true := by decide +kernel
set_option maxRecDepth 1000000 in
theorem ck_X11_fault : am_okT 12 false cX11_fault (some (.int)) tb_X11_fault = true := am_okJ_s rfl (am_j1 (am_j0) ck_X11_fault_0)
set_option maxRecDepth 1000000 in
theorem ck_X11_law_0 : am_okJ 12 false cX11_law (some (.int)) tb_X11_law 0 = true := by decide +kernel
set_option maxRecDepth 1000000 in
theorem ck_X11_law_1 : am_okJ 12 false cX11_law (some (.int)) tb_X11_law 1 = true := by decide +kernel
set_option maxRecDepth 1000000 in
theorem ck_X11_law_2 : am_okJ 12 false cX11_law (some (.int)) tb_X11_law 2 = true := by decide +kernel
set_option maxRecDepth 1000000 in
theorem ck_X11_law_3 : am_okJ 12 false cX11_law (some (.int)) tb_X11_law 3 = true := by decide +kernel
set_option maxRecDepth 1000000 in
theorem ck_X11_law_4 : am_okJ 12 false cX11_law (some (.int)) tb_X11_law 4 = true := by decide +kernel
set_option maxRecDepth 1000000 in
theorem ck_X11_law : am_okT 12 false cX11_law (some (.int)) tb_X11_law = true := am_okJ_s rfl (am_j1 (am_j1 (am_j1 (am_j1 (am_j1 (am_j0) ck_X11_law_0) ck_X11_law_1) ck_X11_law_2) ck_X11_law_3) ck_X11_law_4)
set_option maxRecDepth 1000000 in
theorem ck_X11_fit_0 : am_okJ 12 false cX11_fit (some (.int)) tb_X11_fit 0 = true := by decide +kernel
set_option maxRecDepth 1000000 in
theorem ck_X11_fit_1 : am_okJ 12 false cX11_fit (some (.int)) tb_X11_fit 1 = true := by decide +kernel
set_option maxRecDepth 1000000 in
theorem ck_X11_fit_2 : am_okJ 12 false cX11_fit (some (.int)) tb_X11_fit 2 = true := by decide +kernel
set_option maxRecDepth 1000000 in
theorem ck_X11_fit : am_okT 12 false cX11_fit (some (.int)) tb_X11_fit = true := am_okJ_s rfl (am_j1 (am_j1 (am_j1 (am_j0) ck_X11_fit_0) ck_X11_fit_1) ck_X11_fit_2)
set_option maxRecDepth 1000000 in
theorem ck_X11_write_0 : am_okJ 12 false cX11_write (some (.int)) tb_X11_write 0 = true := by decide +kernel
set_option maxRecDepth 1000000 in
theorem ck_X11_write_1 : am_okJ 12 false cX11_write (some (.int)) tb_X11_write 1 = true := by decide +kernel
set_option maxRecDepth 1000000 in
theorem ck_X11_write_2 : am_okJ 12 false cX11_write (some (.int)) tb_X11_write 2 = true := by decide +kernel
set_option maxRecDepth 1000000 in
theorem ck_X11_write_3 : am_okJ 12 false cX11_write (some (.int)) tb_X11_write 3 = true := by decide +kernel
set_option maxRecDepth 1000000 in
theorem ck_X11_write_4 : am_okJ 12 false cX11_write (some (.int)) tb_X11_write 4 = true := by decide +kernel
set_option maxRecDepth 1000000 in
theorem ck_X11_write_5 : am_okJ 12 false cX11_write (some (.int)) tb_X11_write 5 = true := by decide +kernel
set_option maxRecDepth 1000000 in
theorem ck_X11_write : am_okT 12 false cX11_write (some (.int)) tb_X11_write = true := am_okJ_s rfl (am_j1 (am_j1 (am_j1 (am_j1 (am_j1 (am_j1 (am_j0) ck_X11_write_0) ck_X11_write_1) ck_X11_write_2) ck_X11_write_3) ck_X11_write_4) ck_X11_write_5)
set_option maxRecDepth 1000000 in
theorem ck_X11_written_0 : am_okJ 12 false cX11_written (some (.int)) tb_X11_written 0 = true := by decide +kernel
set_option maxRecDepth 1000000 in
theorem ck_X11_written_1 : am_okJ 12 false cX11_written (some (.int)) tb_X11_written 1 = true := by decide +kernel
set_option maxRecDepth 1000000 in
theorem ck_X11_written_2 : am_okJ 12 false cX11_written (some (.int)) tb_X11_written 2 = true := by decide +kernel
set_option maxRecDepth 1000000 in
theorem ck_X11_written : am_okT 12 false cX11_written (some (.int)) tb_X11_written = true := am_okJ_s rfl (am_j1 (am_j1 (am_j1 (am_j0) ck_X11_written_0) ck_X11_written_1) ck_X11_written_2)
set_option maxRecDepth 1000000 in
theorem ck_X11_isFalse_0 : am_okJ 12 false cX11_isFalse (some (.int)) tb_X11_isFalse 0 = true := by decide +kernel
set_option maxRecDepth 1000000 in
theorem ck_X11_isFalse_1 : am_okJ 12 false cX11_isFalse (some (.int)) tb_X11_isFalse 1 = true := by decide +kernel
set_option maxRecDepth 1000000 in
theorem ck_X11_isFalse : am_okT 12 false cX11_isFalse (some (.int)) tb_X11_isFalse = true := am_okJ_s rfl (am_j1 (am_j1 (am_j0) ck_X11_isFalse_0) ck_X11_isFalse_1)
set_option maxRecDepth 1000000 in
theorem ck_X11_habit_0 : am_okJ 12 false cX11_habit (some (.int)) tb_X11_habit 0 = true := by decide +kernel
set_option maxRecDepth 1000000 in
theorem ck_X11_habit_1 : am_okJ 12 false cX11_habit (some (.int)) tb_X11_habit 1 = true := by decide +kernel
set_option maxRecDepth 1000000 in
theorem ck_X11_habit_2 : am_okJ 12 false cX11_habit (some (.int)) tb_X11_habit 2 = true := by decide +kernel
set_option maxRecDepth 1000000 in
theorem ck_X11_habit_3 : am_okJ 12 false cX11_habit (some (.int)) tb_X11_habit 3 = true := by decide +kernel
set_option maxRecDepth 1000000 in
theorem ck_X11_habit_4 : am_okJ 12 false cX11_habit (some (.int)) tb_X11_habit 4 = true := by decide +kernel
set_option maxRecDepth 1000000 in
theorem ck_X11_habit_5 : am_okJ 12 false cX11_habit (some (.int)) tb_X11_habit 5 = true := by decide +kernel
set_option maxRecDepth 1000000 in
theorem ck_X11_habit_6 : am_okJ 12 false cX11_habit (some (.int)) tb_X11_habit 6 = true := by decide +kernel
set_option maxRecDepth 1000000 in
theorem ck_X11_habit_7 : am_okJ 12 false cX11_habit (some (.int)) tb_X11_habit 7 = true := by decide +kernel
set_option maxRecDepth 1000000 in
theorem ck_X11_habit : am_okT 12 false cX11_habit (some (.int)) tb_X11_habit = true := am_okJ_s rfl (am_j1 (am_j1 (am_j1 (am_j1 (am_j1 (am_j1 (am_j1 (am_j1 (am_j0) ck_X11_habit_0) ck_X11_habit_1) ck_X11_habit_2) ck_X11_habit_3) ck_X11_habit_4) ck_X11_habit_5) ck_X11_habit_6) ck_X11_habit_7)
set_option maxRecDepth 1000000 in
theorem ck_X11_wish_0 : am_okJ 12 false cX11_wish (some (.int)) tb_X11_wish 0 = true := by decide +kernel
set_option maxRecDepth 1000000 in
theorem ck_X11_wish_1 : am_okJ 12 false cX11_wish (some (.int)) tb_X11_wish 1 = true := by decide +kernel
set_option maxRecDepth 1000000 in
theorem ck_X11_wish_2 : am_okJ 12 false cX11_wish (some (.int)) tb_X11_wish 2 = true := by decide +kernel
set_option maxRecDepth 1000000 in
theorem ck_X11_wish_3 : am_okJ 12 false cX11_wish (some (.int)) tb_X11_wish 3 = true := by decide +kernel
set_option maxRecDepth 1000000 in
theorem ck_X11_wish_4 : am_okJ 12 false cX11_wish (some (.int)) tb_X11_wish 4 = true := by decide +kernel
set_option maxRecDepth 1000000 in
theorem ck_X11_wish_5 : am_okJ 12 false cX11_wish (some (.int)) tb_X11_wish 5 = true := by decide +kernel
set_option maxRecDepth 1000000 in
theorem ck_X11_wish : am_okT 12 false cX11_wish (some (.int)) tb_X11_wish = true := am_okJ_s rfl (am_j1 (am_j1 (am_j1 (am_j1 (am_j1 (am_j1 (am_j0) ck_X11_wish_0) ck_X11_wish_1) ck_X11_wish_2) ck_X11_wish_3) ck_X11_wish_4) ck_X11_wish_5)
set_option maxRecDepth 1000000 in
theorem ck_X11_dealt_0 : am_okJ 12 false cX11_dealt (some (.int)) tb_X11_dealt 0 = true := by decide +kernel
set_option maxRecDepth 1000000 in
theorem ck_X11_dealt_1 : am_okJ 12 false cX11_dealt (some (.int)) tb_X11_dealt 1 = true := by decide +kernel
set_option maxRecDepth 1000000 in
theorem ck_X11_dealt : am_okT 12 false cX11_dealt (some (.int)) tb_X11_dealt = true := am_okJ_s rfl (am_j1 (am_j1 (am_j0) ck_X11_dealt_0) ck_X11_dealt_1)
set_option maxRecDepth 1000000 in
theorem ck_X11_tell_0 : am_okJ 12 false cX11_tell (some (.boolean)) tb_X11_tell 0 = true := by decide +kernel
set_option maxRecDepth 1000000 in
theorem ck_X11_tell_1 : am_okJ 12 false cX11_tell (some (.boolean)) tb_X11_tell 1 = true := by decide +kernel
set_option maxRecDepth 1000000 in
theorem ck_X11_tell : am_okT 12 false cX11_tell (some (.boolean)) tb_X11_tell = true := am_okJ_s rfl (am_j1 (am_j1 (am_j0) ck_X11_tell_0) ck_X11_tell_1)
set_option maxRecDepth 1000000 in
theorem ck_X11_judge_0 : am_okJ 12 false cX11_judge (some (.int)) tb_X11_judge 0 = true := by decide +kernel
set_option maxRecDepth 1000000 in
theorem ck_X11_judge_1 : am_okJ 12 false cX11_judge (some (.int)) tb_X11_judge 1 = true := by decide +kernel
set_option maxRecDepth 1000000 in
theorem ck_X11_judge : am_okT 12 false cX11_judge (some (.int)) tb_X11_judge = true := am_okJ_s rfl (am_j1 (am_j1 (am_j0) ck_X11_judge_0) ck_X11_judge_1)
set_option maxRecDepth 1000000 in
theorem ck_X11_steps_0 : am_okJ 12 false cX11_steps (some (.int)) tb_X11_steps 0 = true := by decide +kernel
set_option maxRecDepth 1000000 in
theorem ck_X11_steps_1 : am_okJ 12 false cX11_steps (some (.int)) tb_X11_steps 1 = true := by decide +kernel
set_option maxRecDepth 1000000 in
theorem ck_X11_steps_2 : am_okJ 12 false cX11_steps (some (.int)) tb_X11_steps 2 = true := by decide +kernel
set_option maxRecDepth 1000000 in
theorem ck_X11_steps_3 : am_okJ 12 false cX11_steps (some (.int)) tb_X11_steps 3 = true := by decide +kernel
set_option maxRecDepth 1000000 in
theorem ck_X11_steps : am_okT 12 false cX11_steps (some (.int)) tb_X11_steps = true := am_okJ_s rfl (am_j1 (am_j1 (am_j1 (am_j1 (am_j0) ck_X11_steps_0) ck_X11_steps_1) ck_X11_steps_2) ck_X11_steps_3)
set_option maxRecDepth 1000000 in
theorem ck_X11_clear_0 : am_okJ 12 false cX11_clear (some (.int)) tb_X11_clear 0 = true := by decide +kernel
set_option maxRecDepth 1000000 in
theorem ck_X11_clear_1 : am_okJ 12 false cX11_clear (some (.int)) tb_X11_clear 1 = true := by decide +kernel
set_option maxRecDepth 1000000 in
theorem ck_X11_clear : am_okT 12 false cX11_clear (some (.int)) tb_X11_clear = true := am_okJ_s rfl (am_j1 (am_j1 (am_j0) ck_X11_clear_0) ck_X11_clear_1)
set_option maxRecDepth 1000000 in
theorem ck_X11_empty_0 : am_okJ 12 false cX11_empty (some (.int)) tb_X11_empty 0 = true := by decide +kernel
set_option maxRecDepth 1000000 in
theorem ck_X11_empty_1 : am_okJ 12 false cX11_empty (some (.int)) tb_X11_empty 1 = true := by decide +kernel
set_option maxRecDepth 1000000 in
theorem ck_X11_empty : am_okT 12 false cX11_empty (some (.int)) tb_X11_empty = true := am_okJ_s rfl (am_j1 (am_j1 (am_j0) ck_X11_empty_0) ck_X11_empty_1)
set_option maxRecDepth 1000000 in
theorem ck_X11_free_0 : am_okJ 12 false cX11_free (some (.int)) tb_X11_free 0 = true := by decide +kernel
set_option maxRecDepth 1000000 in
theorem ck_X11_free_1 : am_okJ 12 false cX11_free (some (.int)) tb_X11_free 1 = true := by decide +kernel
set_option maxRecDepth 1000000 in
theorem ck_X11_free : am_okT 12 false cX11_free (some (.int)) tb_X11_free = true := am_okJ_s rfl (am_j1 (am_j1 (am_j0) ck_X11_free_0) ck_X11_free_1)
set_option maxRecDepth 1000000 in
theorem ck_X11_chain_0 : am_okJ 12 false cX11_chain (some (.int)) tb_X11_chain 0 = true := by decide +kernel
set_option maxRecDepth 1000000 in
theorem ck_X11_chain_1 : am_okJ 12 false cX11_chain (some (.int)) tb_X11_chain 1 = true := by decide +kernel
set_option maxRecDepth 1000000 in
theorem ck_X11_chain_2 : am_okJ 12 false cX11_chain (some (.int)) tb_X11_chain 2 = true := by decide +kernel
set_option maxRecDepth 1000000 in
theorem ck_X11_chain_3 : am_okJ 12 false cX11_chain (some (.int)) tb_X11_chain 3 = true := by decide +kernel
set_option maxRecDepth 1000000 in
theorem ck_X11_chain : am_okT 12 false cX11_chain (some (.int)) tb_X11_chain = true := am_okJ_s rfl (am_j1 (am_j1 (am_j1 (am_j1 (am_j0) ck_X11_chain_0) ck_X11_chain_1) ck_X11_chain_2) ck_X11_chain_3)
set_option maxRecDepth 1000000 in
theorem ck_X11_ask_0 : am_okJ 12 false cX11_ask (some (.int)) tb_X11_ask 0 = true := by decide +kernel
set_option maxRecDepth 1000000 in
theorem ck_X11_ask_1 : am_okJ 12 false cX11_ask (some (.int)) tb_X11_ask 1 = true := by decide +kernel
set_option maxRecDepth 1000000 in
theorem ck_X11_ask_2 : am_okJ 12 false cX11_ask (some (.int)) tb_X11_ask 2 = true := by decide +kernel
set_option maxRecDepth 1000000 in
theorem ck_X11_ask_3 : am_okJ 12 false cX11_ask (some (.int)) tb_X11_ask 3 = true := by decide +kernel
set_option maxRecDepth 1000000 in
theorem ck_X11_ask : am_okT 12 false cX11_ask (some (.int)) tb_X11_ask = true := am_okJ_s rfl (am_j1 (am_j1 (am_j1 (am_j1 (am_j0) ck_X11_ask_0) ck_X11_ask_1) ck_X11_ask_2) ck_X11_ask_3)
set_option maxRecDepth 1000000 in
theorem ck_X11_like_0 : am_okJ 12 false cX11_like (some (.int)) tb_X11_like 0 = true := by decide +kernel
set_option maxRecDepth 1000000 in
theorem ck_X11_like_1 : am_okJ 12 false cX11_like (some (.int)) tb_X11_like 1 = true := by decide +kernel
set_option maxRecDepth 1000000 in
theorem ck_X11_like_2 : am_okJ 12 false cX11_like (some (.int)) tb_X11_like 2 = true := by decide +kernel
set_option maxRecDepth 1000000 in
theorem ck_X11_like_3 : am_okJ 12 false cX11_like (some (.int)) tb_X11_like 3 = true := by decide +kernel
set_option maxRecDepth 1000000 in
theorem ck_X11_like_4 : am_okJ 12 false cX11_like (some (.int)) tb_X11_like 4 = true := by decide +kernel
set_option maxRecDepth 1000000 in
theorem ck_X11_like_5 : am_okJ 12 false cX11_like (some (.int)) tb_X11_like 5 = true := by decide +kernel
set_option maxRecDepth 1000000 in
theorem ck_X11_like : am_okT 12 false cX11_like (some (.int)) tb_X11_like = true := am_okJ_s rfl (am_j1 (am_j1 (am_j1 (am_j1 (am_j1 (am_j1 (am_j0) ck_X11_like_0) ck_X11_like_1) ck_X11_like_2) ck_X11_like_3) ck_X11_like_4) ck_X11_like_5)
set_option maxRecDepth 1000000 in
theorem ck_X11_box_0 : am_okJ 12 false cX11_box (some (.int)) tb_X11_box 0 = true := by decide +kernel
set_option maxRecDepth 1000000 in
theorem ck_X11_box_1 : am_okJ 12 false cX11_box (some (.int)) tb_X11_box 1 = true := by decide +kernel
set_option maxRecDepth 1000000 in
theorem ck_X11_box_2 : am_okJ 12 false cX11_box (some (.int)) tb_X11_box 2 = true := by decide +kernel
set_option maxRecDepth 1000000 in
theorem ck_X11_box_3 : am_okJ 12 false cX11_box (some (.int)) tb_X11_box 3 = true := by decide +kernel
set_option maxRecDepth 1000000 in
theorem ck_X11_box_4 : am_okJ 12 false cX11_box (some (.int)) tb_X11_box 4 = true := by decide +kernel
set_option maxRecDepth 1000000 in
theorem ck_X11_box : am_okT 12 false cX11_box (some (.int)) tb_X11_box = true := am_okJ_s rfl (am_j1 (am_j1 (am_j1 (am_j1 (am_j1 (am_j0) ck_X11_box_0) ck_X11_box_1) ck_X11_box_2) ck_X11_box_3) ck_X11_box_4)
set_option maxRecDepth 1000000 in
theorem ck_X11_leftMore_0 : am_okJ 12 false cX11_leftMore (some (.int)) tb_X11_leftMore 0 = true := by decide +kernel
set_option maxRecDepth 1000000 in
theorem ck_X11_leftMore_1 : am_okJ 12 false cX11_leftMore (some (.int)) tb_X11_leftMore 1 = true := by decide +kernel
set_option maxRecDepth 1000000 in
theorem ck_X11_leftMore_2 : am_okJ 12 false cX11_leftMore (some (.int)) tb_X11_leftMore 2 = true := by decide +kernel
set_option maxRecDepth 1000000 in
theorem ck_X11_leftMore : am_okT 12 false cX11_leftMore (some (.int)) tb_X11_leftMore = true := am_okJ_s rfl (am_j1 (am_j1 (am_j1 (am_j0) ck_X11_leftMore_0) ck_X11_leftMore_1) ck_X11_leftMore_2)
