set_option maxRecDepth 1000000 in
theorem ck_X12_written_0 : am_okJ 13 false cX12_written (some (.int)) tb_X12_written 0 = true := by decide +kernel
set_option maxRecDepth 1000000 in
theorem ck_X12_written_1 : am_okJ 13 false cX12_written (some (.int)) tb_X12_written 1 = true := by decide +kernel
set_option maxRecDepth 1000000 in
theorem ck_X12_written_2 : am_okJ 13 false cX12_written (some (.int)) tb_X12_written 2 = true := by decide +kernel
set_option maxRecDepth 1000000 in
theorem ck_X12_written_3 : am_okJ 13 false cX12_written (some (.int)) tb_X12_written 3 = true := by decide +kernel
set_option maxRecDepth 1000000 in
theorem ck_X12_written : am_okT 13 false cX12_written (some (.int)) tb_X12_written = true := am_okJ_s rfl (am_j1 (am_j1 (am_j1 (am_j1 (am_j0) ck_X12_written_0) ck_X12_written_1) ck_X12_written_2) ck_X12_written_3)
set_option maxRecDepth 1000000 in
theorem ck_X12_falseBy_0 : am_okJ 13 false cX12_falseBy (some (.int)) tb_X12_falseBy 0 = true := by decide +kernel
set_option maxRecDepth 1000000 in
theorem ck_X12_falseBy_1 : am_okJ 13 false cX12_falseBy (some (.int)) tb_X12_falseBy 1 = true := by decide +kernel
set_option maxRecDepth 1000000 in
theorem ck_X12_falseBy_2 : am_okJ 13 false cX12_falseBy (some (.int)) tb_X12_falseBy 2 = true := by decide +kernel
set_option maxRecDepth 1000000 in
theorem ck_X12_falseBy_3 : am_okJ 13 false cX12_falseBy (some (.int)) tb_X12_falseBy 3 = true := by decide +kernel
set_option maxRecDepth 1000000 in
theorem ck_X12_falseBy_4 : am_okJ 13 false cX12_falseBy (some (.int)) tb_X12_falseBy 4 = true := by decide +kernel
set_option maxRecDepth 1000000 in
theorem ck_X12_falseBy_5 : am_okJ 13 false cX12_falseBy (some (.int)) tb_X12_falseBy 5 = true := by decide +kernel
set_option maxRecDepth 1000000 in
theorem ck_X12_falseBy : am_okT 13 false cX12_falseBy (some (.int)) tb_X12_falseBy = true := am_okJ_s rfl (am_j1 (am_j1 (am_j1 (am_j1 (am_j1 (am_j1 (am_j0) ck_X12_falseBy_0) ck_X12_falseBy_1) ck_X12_falseBy_2) ck_X12_falseBy_3) ck_X12_falseBy_4) ck_X12_falseBy_5)
set_option maxRecDepth 1000000 in
theorem ck_X12_isFalse_0 : am_okJ 13 false cX12_isFalse (some (.int)) tb_X12_isFalse 0 = true := by decide +kernel
set_option maxRecDepth 1000000 in
theorem ck_X12_isFalse_1 : am_okJ 13 false cX12_isFalse (some (.int)) tb_X12_isFalse 1 = true := by decide +kernel
set_option maxRecDepth 1000000 in
theorem ck_X12_isFalse : am_okT 13 false cX12_isFalse (some (.int)) tb_X12_isFalse = true := am_okJ_s rfl (am_j1 (am_j1 (am_j0) ck_X12_isFalse_0) ck_X12_isFalse_1)
set_option maxRecDepth 1000000 in
theorem ck_X12_behind_0 : am_okJ 13 false cX12_behind (some (.int)) tb_X12_behind 0 = true := by decide +kernel
set_option maxRecDepth 1000000 in
theorem ck_X12_behind_1 : am_okJ 13 false cX12_behind (some (.int)) tb_X12_behind 1 = true := by decide +kernel
set_option maxRecDepth 1000000 in
theorem ck_X12_behind_2 : am_okJ 13 false cX12_behind (some (.int)) tb_X12_behind 2 = true := by decide +kernel
set_option maxRecDepth 1000000 in
theorem ck_X12_behind_3 : am_okJ 13 false cX12_behind (some (.int)) tb_X12_behind 3 = true := by decide +kernel
set_option maxRecDepth 1000000 in
theorem ck_X12_behind_4 : am_okJ 13 false cX12_behind (some (.int)) tb_X12_behind 4 = true := by decide +kernel
set_option maxRecDepth 1000000 in
theorem ck_X12_behind_5 : am_okJ 13 false cX12_behind (some (.int)) tb_X12_behind 5 = true := by decide +kernel
set_option maxRecDepth 1000000 in
theorem ck_X12_behind_6 : am_okJ 13 false cX12_behind (some (.int)) tb_X12_behind 6 = true := by decide +kernel
set_option maxRecDepth 1000000 in
theorem ck_X12_behind : am_okT 13 false cX12_behind (some (.int)) tb_X12_behind = true := am_okJ_s rfl (am_j1 (am_j1 (am_j1 (am_j1 (am_j1 (am_j1 (am_j1 (am_j0) ck_X12_behind_0) ck_X12_behind_1) ck_X12_behind_2) ck_X12_behind_3) ck_X12_behind_4) ck_X12_behind_5) ck_X12_behind_6)
set_option maxRecDepth 1000000 in
theorem ck_X12_habit_0 : am_okJ 13 false cX12_habit (some (.int)) tb_X12_habit 0 = true := by decide +kernel
set_option maxRecDepth 1000000 in
theorem ck_X12_habit_1 : am_okJ 13 false cX12_habit (some (.int)) tb_X12_habit 1 = true := by decide +kernel
set_option maxRecDepth 1000000 in
theorem ck_X12_habit_2 : am_okJ 13 false cX12_habit (some (.int)) tb_X12_habit 2 = true := by decide +kernel
set_option maxRecDepth 1000000 in
theorem ck_X12_habit_3 : am_okJ 13 false cX12_habit (some (.int)) tb_X12_habit 3 = true := by decide +kernel
set_option maxRecDepth 1000000 in
theorem ck_X12_habit_4 : am_okJ 13 false cX12_habit (some (.int)) tb_X12_habit 4 = true := by decide +kernel
set_option maxRecDepth 1000000 in
theorem ck_X12_habit_5 : am_okJ 13 false cX12_habit (some (.int)) tb_X12_habit 5 = true := by decide +kernel
set_option maxRecDepth 1000000 in
theorem ck_X12_habit_6 : am_okJ 13 false cX12_habit (some (.int)) tb_X12_habit 6 = true := by decide +kernel
set_option maxRecDepth 1000000 in
theorem ck_X12_habit_7 : am_okJ 13 false cX12_habit (some (.int)) tb_X12_habit 7 = true := by decide +kernel
set_option maxRecDepth 1000000 in
theorem ck_X12_habit_8 : am_okJ 13 false cX12_habit (some (.int)) tb_X12_habit 8 = true := by decide +kernel
set_option maxRecDepth 1000000 in
theorem ck_X12_habit : am_okT 13 false cX12_habit (some (.int)) tb_X12_habit = true := am_okJ_s rfl (am_j1 (am_j1 (am_j1 (am_j1 (am_j1 (am_j1 (am_j1 (am_j1 (am_j1 (am_j0) ck_X12_habit_0) ck_X12_habit_1) ck_X12_habit_2) ck_X12_habit_3) ck_X12_habit_4) ck_X12_habit_5) ck_X12_habit_6) ck_X12_habit_7) ck_X12_habit_8)
set_option maxRecDepth 1000000 in
theorem ck_X12_wish_0 : am_okJ 13 false cX12_wish (some (.int)) tb_X12_wish 0 = true := by decide +kernel
set_option maxRecDepth 1000000 in
theorem ck_X12_wish_1 : am_okJ 13 false cX12_wish (some (.int)) tb_X12_wish 1 = true := by decide +kernel
set_option maxRecDepth 1000000 in
theorem ck_X12_wish_2 : am_okJ 13 false cX12_wish (some (.int)) tb_X12_wish 2 = true := by decide +kernel
set_option maxRecDepth 1000000 in
theorem ck_X12_wish_3 : am_okJ 13 false cX12_wish (some (.int)) tb_X12_wish 3 = true := by decide +kernel
set_option maxRecDepth 1000000 in
theorem ck_X12_wish_4 : am_okJ 13 false cX12_wish (some (.int)) tb_X12_wish 4 = true := by decide +kernel
set_option maxRecDepth 1000000 in
theorem ck_X12_wish_5 : am_okJ 13 false cX12_wish (some (.int)) tb_X12_wish 5 = true := by decide +kernel
set_option maxRecDepth 1000000 in
theorem ck_X12_wish_6 : am_okJ 13 false cX12_wish (some (.int)) tb_X12_wish 6 = true := by decide +kernel
set_option maxRecDepth 1000000 in
theorem ck_X12_wish_7 : am_okJ 13 false cX12_wish (some (.int)) tb_X12_wish 7 = true := by decide +kernel
set_option maxRecDepth 1000000 in
theorem ck_X12_wish_8 : am_okJ 13 false cX12_wish (some (.int)) tb_X12_wish 8 = true := by decide +kernel
set_option maxRecDepth 1000000 in
theorem ck_X12_wish_9 : am_okJ 13 false cX12_wish (some (.int)) tb_X12_wish 9 = true := by decide +kernel
set_option maxRecDepth 1000000 in
theorem ck_X12_wish_10 : am_okJ 13 false cX12_wish (some (.int)) tb_X12_wish 10 = true := by decide +kernel
set_option maxRecDepth 1000000 in
theorem ck_X12_wish : am_okT 13 false cX12_wish (some (.int)) tb_X12_wish = true := am_okJ_s rfl (am_j1 (am_j1 (am_j1 (am_j1 (am_j1 (am_j1 (am_j1 (am_j1 (am_j1 (am_j1 (am_j1 (am_j0) ck_X12_wish_0) ck_X12_wish_1) ck_X12_wish_2) ck_X12_wish_3) ck_X12_wish_4) ck_X12_wish_5) ck_X12_wish_6) ck_X12_wish_7) ck_X12_wish_8) ck_X12_wish_9) ck_X12_wish_10)
set_option maxRecDepth 1000000 in
theorem ck_X12_put_0 : am_okJ 13 false cX12_put (none) tb_X12_put 0 = true := by decide +kernel
set_option maxRecDepth 1000000 in
theorem ck_X12_put_1 : am_okJ 13 false cX12_put (none) tb_X12_put 1 = true := by decide +kernel
set_option maxRecDepth 1000000 in
theorem ck_X12_put : am_okT 13 false cX12_put (none) tb_X12_put = true := am_okJ_s rfl (am_j1 (am_j1 (am_j0) ck_X12_put_0) ck_X12_put_1)
set_option maxRecDepth 1000000 in
theorem ck_X12_whoTakesPart_0 : am_okJ 13 false cX12_whoTakesPart (none) tb_X12_whoTakesPart 0 = true := by decide +kernel
set_option maxRecDepth 1000000 in
theorem ck_X12_whoTakesPart_1 : am_okJ 13 false cX12_whoTakesPart (none) tb_X12_whoTakesPart 1 = true := by decide +kernel
set_option maxRecDepth 1000000 in
theorem ck_X12_whoTakesPart_2 : am_okJ 13 false cX12_whoTakesPart (none) tb_X12_whoTakesPart 2 = true := by decide +kernel
set_option maxRecDepth 1000000 in
theorem ck_X12_whoTakesPart_3 : am_okJ 13 false cX12_whoTakesPart (none) tb_X12_whoTakesPart 3 = true := by decide +kernel
set_option maxRecDepth 1000000 in
theorem ck_X12_whoTakesPart_4 : am_okJ 13 false cX12_whoTakesPart (none) tb_X12_whoTakesPart 4 = true := by decide +kernel
set_option maxRecDepth 1000000 in
theorem ck_X12_whoTakesPart : am_okT 13 false cX12_whoTakesPart (none) tb_X12_whoTakesPart = true := am_okJ_s rfl (am_j1 (am_j1 (am_j1 (am_j1 (am_j1 (am_j0) ck_X12_whoTakesPart_0) ck_X12_whoTakesPart_1) ck_X12_whoTakesPart_2) ck_X12_whoTakesPart_3) ck_X12_whoTakesPart_4)
set_option maxRecDepth 1000000 in
theorem ck_X12_mayBe_0 : am_okJ 13 false cX12_mayBe (some (.boolean)) tb_X12_mayBe 0 = true := by decide +kernel
set_option maxRecDepth 1000000 in
theorem ck_X12_mayBe_1 : am_okJ 13 false cX12_mayBe (some (.boolean)) tb_X12_mayBe 1 = true := by decide +kernel
set_option maxRecDepth 1000000 in
theorem ck_X12_mayBe_2 : am_okJ 13 false cX12_mayBe (some (.boolean)) tb_X12_mayBe 2 = true := by decide +kernel
set_option maxRecDepth 1000000 in
theorem ck_X12_mayBe_3 : am_okJ 13 false cX12_mayBe (some (.boolean)) tb_X12_mayBe 3 = true := by decide +kernel
set_option maxRecDepth 1000000 in
theorem ck_X12_mayBe : am_okT 13 false cX12_mayBe (some (.boolean)) tb_X12_mayBe = true := am_okJ_s rfl (am_j1 (am_j1 (am_j1 (am_j1 (am_j0) ck_X12_mayBe_0) ck_X12_mayBe_1) ck_X12_mayBe_2) ck_X12_mayBe_3)
set_option maxRecDepth 1000000 in
theorem ck_X12_nth_0 : am_okJ 13 false cX12_nth (some (.int)) tb_X12_nth 0 = true := by decide +kernel
set_option maxRecDepth 1000000 in
theorem ck_X12_nth_1 : am_okJ 13 false cX12_nth (some (.int)) tb_X12_nth 1 = true := by decide +kernel
set_option maxRecDepth 1000000 in
theorem ck_X12_nth : am_okT 13 false cX12_nth (some (.int)) tb_X12_nth = true := am_okJ_s rfl (am_j1 (am_j1 (am_j0) ck_X12_nth_0) ck_X12_nth_1)
set_option maxRecDepth 1000000 in
theorem ck_X12_deals_0 : am_okJ 13 false cX12_deals (none) tb_X12_deals 0 = true := by decide +kernel
set_option maxRecDepth 1000000 in
theorem ck_X12_deals_1 : am_okJ 13 false cX12_deals (none) tb_X12_deals 1 = true := by decide +kernel
set_option maxRecDepth 1000000 in
theorem ck_X12_deals_2 : am_okJ 13 false cX12_deals (none) tb_X12_deals 2 = true := by decide +kernel
set_option maxRecDepth 1000000 in
theorem ck_X12_deals_3 : am_okJ 13 false cX12_deals (none) tb_X12_deals 3 = true := by decide +kernel
set_option maxRecDepth 1000000 in
theorem ck_X12_deals_4 : am_okJ 13 false cX12_deals (none) tb_X12_deals 4 = true := by decide +kernel
set_option maxRecDepth 1000000 in
theorem ck_X12_deals_5 : am_okJ 13 false cX12_deals (none) tb_X12_deals 5 = true := by decide +kernel
set_option maxRecDepth 1000000 in
theorem ck_X12_deals_6 : am_okJ 13 false cX12_deals (none) tb_X12_deals 6 = true := by decide +kernel
set_option maxRecDepth 1000000 in
theorem ck_X12_deals_7 : am_okJ 13 false cX12_deals (none) tb_X12_deals 7 = true := by decide +kernel
set_option maxRecDepth 1000000 in
theorem ck_X12_deals : am_okT 13 false cX12_deals (none) tb_X12_deals = true := am_okJ_s rfl (am_j1 (am_j1 (am_j1 (am_j1 (am_j1 (am_j1 (am_j1 (am_j1 (am_j0) ck_X12_deals_0) ck_X12_deals_1) ck_X12_deals_2) ck_X12_deals_3) ck_X12_deals_4) ck_X12_deals_5) ck_X12_deals_6) ck_X12_deals_7)
set_option maxRecDepth 1000000 in
theorem ck_X12_asks_0 : am_okJ 13 false cX12_asks (none) tb_X12_asks 0 = true := by decide +kernel
set_option maxRecDepth 1000000 in
theorem ck_X12_asks_1 : am_okJ 13 false cX12_asks (none) tb_X12_asks 1 = true := by decide +kernel
set_option maxRecDepth 1000000 in
theorem ck_X12_asks_2 : am_okJ 13 false cX12_asks (none) tb_X12_asks 2 = true := by decide +kernel
set_option maxRecDepth 1000000 in
theorem ck_X12_asks_3 : am_okJ 13 false cX12_asks (none) tb_X12_asks 3 = true := by decide +kernel
set_option maxRecDepth 1000000 in
theorem ck_X12_asks_4 : am_okJ 13 false cX12_asks (none) tb_X12_asks 4 = true := by decide +kernel
set_option maxRecDepth 1000000 in
theorem ck_X12_asks : am_okT 13 false cX12_asks (none) tb_X12_asks = true := am_okJ_s rfl (am_j1 (am_j1 (am_j1 (am_j1 (am_j1 (am_j0) ck_X12_asks_0) ck_X12_asks_1) ck_X12_asks_2) ck_X12_asks_3) ck_X12_asks_4)
set_option maxRecDepth 1000000 in
theorem ck_X12_dealt_0 : am_okJ 13 false cX12_dealt (some (.int)) tb_X12_dealt 0 = true := by decide +kernel
set_option maxRecDepth 1000000 in
theorem ck_X12_dealt_1 : am_okJ 13 false cX12_dealt (some (.int)) tb_X12_dealt 1 = true := by decide +kernel
set_option maxRecDepth 1000000 in
theorem ck_X12_dealt : am_okT 13 false cX12_dealt (some (.int)) tb_X12_dealt = true := am_okJ_s rfl (am_j1 (am_j1 (am_j0) ck_X12_dealt_0) ck_X12_dealt_1)
set_option maxRecDepth 1000000 in
theorem ck_X12_tell_0 : am_okJ 13 false cX12_tell (some (.boolean)) tb_X12_tell 0 = true := by decide +kernel
set_option maxRecDepth 1000000 in
theorem ck_X12_tell_1 : am_okJ 13 false cX12_tell (some (.boolean)) tb_X12_tell 1 = true := by decide +kernel
set_option maxRecDepth 1000000 in
theorem ck_X12_tell : am_okT 13 false cX12_tell (some (.boolean)) tb_X12_tell = true := am_okJ_s rfl (am_j1 (am_j1 (am_j0) ck_X12_tell_0) ck_X12_tell_1)
set_option maxRecDepth 1000000 in
theorem ck_X12_toldHolder_0 : am_okJ 13 false cX12_toldHolder (some (.int)) tb_X12_toldHolder 0 = true := by decide +kernel
set_option maxRecDepth 1000000 in
theorem ck_X12_toldHolder_1 : am_okJ 13 false cX12_toldHolder (some (.int)) tb_X12_toldHolder 1 = true := by decide +kernel
set_option maxRecDepth 1000000 in
theorem ck_X12_toldHolder : am_okT 13 false cX12_toldHolder (some (.int)) tb_X12_toldHolder = true := am_okJ_s rfl (am_j1 (am_j1 (am_j0) ck_X12_toldHolder_0) ck_X12_toldHolder_1)
set_option maxRecDepth 1000000 in
theorem ck_X12_judge_0 : am_okJ 13 false cX12_judge (some (.int)) tb_X12_judge 0 = true := by decide +kernel
set_option maxRecDepth 1000000 in
theorem ck_X12_judge_1 : am_okJ 13 false cX12_judge (some (.int)) tb_X12_judge 1 = true := by decide +kernel
set_option maxRecDepth 1000000 in
theorem ck_X12_judge_2 : am_okJ 13 false cX12_judge (some (.int)) tb_X12_judge 2 = true := by decide +kernel
set_option maxRecDepth 1000000 in
theorem ck_X12_judge_3 : am_okJ 13 false cX12_judge (some (.int)) tb_X12_judge 3 = true := by decide +kernel
set_option maxRecDepth 1000000 in
theorem ck_X12_judge_4 : am_okJ 13 false cX12_judge (some (.int)) tb_X12_judge 4 = true := by decide +kernel
set_option maxRecDepth 1000000 in
theorem ck_X12_judge_5 : am_okJ 13 false cX12_judge (some (.int)) tb_X12_judge 5 = true := by decide +kernel
set_option maxRecDepth 1000000 in
theorem ck_X12_judge : am_okT 13 false cX12_judge (some (.int)) tb_X12_judge = true := am_okJ_s rfl (am_j1 (am_j1 (am_j1 (am_j1 (am_j1 (am_j1 (am_j0) ck_X12_judge_0) ck_X12_judge_1) ck_X12_judge_2) ck_X12_judge_3) ck_X12_judge_4) ck_X12_judge_5)
set_option maxRecDepth 1000000 in
theorem ck_X12_leaves_0 : am_okJ 13 false cX12_leaves (some (.boolean)) tb_X12_leaves 0 = true := by decide +kernel
set_option maxRecDepth 1000000 in
theorem ck_X12_leaves_1 : am_okJ 13 false cX12_leaves (some (.boolean)) tb_X12_leaves 1 = true := by decide +kernel
set_option maxRecDepth 1000000 in
theorem ck_X12_leaves_2 : am_okJ 13 false cX12_leaves (some (.boolean)) tb_X12_leaves 2 = true := by decide +kernel
set_option maxRecDepth 1000000 in
theorem ck_X12_leaves_3 : am_okJ 13 false cX12_leaves (some (.boolean)) tb_X12_leaves 3 = true := by decide +kernel
set_option maxRecDepth 1000000 in
theorem ck_X12_leaves_4 : am_okJ 13 false cX12_leaves (some (.boolean)) tb_X12_leaves 4 = true := by decide +kernel
set_option maxRecDepth 1000000 in
theorem ck_X12_leaves_5 : am_okJ 13 false cX12_leaves (some (.boolean)) tb_X12_leaves 5 = true := by decide +kernel
set_option maxRecDepth 1000000 in
theorem ck_X12_leaves_6 : am_okJ 13 false cX12_leaves (some (.boolean)) tb_X12_leaves 6 = true := by decide +kernel
set_option maxRecDepth 1000000 in
theorem ck_X12_leaves : am_okT 13 false cX12_leaves (some (.boolean)) tb_X12_leaves = true := am_okJ_s rfl (am_j1 (am_j1 (am_j1 (am_j1 (am_j1 (am_j1 (am_j1 (am_j0) ck_X12_leaves_0) ck_X12_leaves_1) ck_X12_leaves_2) ck_X12_leaves_3) ck_X12_leaves_4) ck_X12_leaves_5) ck_X12_leaves_6)
set_option maxRecDepth 1000000 in
theorem ck_X12_steps_0 : am_okJ 13 false cX12_steps (some (.int)) tb_X12_steps 0 = true := by decide +kernel
set_option maxRecDepth 1000000 in
theorem ck_X12_steps_1 : am_okJ 13 false cX12_steps (some (.int)) tb_X12_steps 1 = true := by decide +kernel
set_option maxRecDepth 1000000 in
theorem ck_X12_steps_2 : am_okJ 13 false cX12_steps (some (.int)) tb_X12_steps 2 = true := by decide +kernel
set_option maxRecDepth 1000000 in
theorem ck_X12_steps_3 : am_okJ 13 false cX12_steps (some (.int)) tb_X12_steps 3 = true := by decide +kernel
set_option maxRecDepth 1000000 in
theorem ck_X12_steps_4 : am_okJ 13 false cX12_steps (some (.int)) tb_X12_steps 4 = true := by decide +kernel
set_option maxRecDepth 1000000 in
theorem ck_X12_steps_5 : am_okJ 13 false cX12_steps (some (.int)) tb_X12_steps 5 = true := by decide +kernel
set_option maxRecDepth 1000000 in
theorem ck_X12_steps_6 : am_okJ 13 false cX12_steps (some (.int)) tb_X12_steps 6 = true := by decide +kernel
set_option maxRecDepth 1000000 in
theorem ck_X12_steps_7 : am_okJ 13 false cX12_steps (some (.int)) tb_X12_steps 7 = true := by decide +kernel
set_option maxRecDepth 1000000 in
theorem ck_X12_steps_8 : am_okJ 13 false cX12_steps (some (.int)) tb_X12_steps 8 = true := by decide +kernel
set_option maxRecDepth 1000000 in
theorem ck_X12_steps_9 : am_okJ 13 false cX12_steps (some (.int)) tb_X12_steps 9 = true := by decide +kernel
set_option maxRecDepth 1000000 in
theorem ck_X12_steps_10 : am_okJ 13 false cX12_steps (some (.int)) tb_X12_steps 10 = true := by decide +kernel
set_option maxRecDepth 1000000 in
theorem ck_X12_steps_11 : am_okJ 13 false cX12_steps (some (.int)) tb_X12_steps 11 = true := by decide +kernel
set_option maxRecDepth 1000000 in
theorem ck_X12_steps_12 : am_okJ 13 false cX12_steps (some (.int)) tb_X12_steps 12 = true := by decide +kernel
set_option maxRecDepth 1000000 in
theorem ck_X12_steps_13 : am_okJ 13 false cX12_steps (some (.int)) tb_X12_steps 13 = true := by decide +kernel
set_option maxRecDepth 1000000 in
theorem ck_X12_steps_14 : am_okJ 13 false cX12_steps (some (.int)) tb_X12_steps 14 = true := by decide +kernel
set_option maxRecDepth 1000000 in
theorem ck_X12_steps_15 : am_okJ 13 false cX12_steps (some (.int)) tb_X12_steps 15 = true := by decide +kernel
set_option maxRecDepth 1000000 in
theorem ck_X12_steps_16 : am_okJ 13 false cX12_steps (some (.int)) tb_X12_steps 16 = true := by decide +kernel
set_option maxRecDepth 1000000 in
theorem ck_X12_steps_17 : am_okJ 13 false cX12_steps (some (.int)) tb_X12_steps 17 = true := by decide +kernel
set_option maxRecDepth 1000000 in
theorem ck_X12_steps_18 : am_okJ 13 false cX12_steps (some (.int)) tb_X12_steps 18 = true := by decide +kernel
set_option maxRecDepth 1000000 in
theorem ck_X12_steps_19 : am_okJ 13 false cX12_steps (some (.int)) tb_X12_steps 19 = true := by decide +kernel
set_option maxRecDepth 1000000 in
theorem ck_X12_steps_20 : am_okJ 13 false cX12_steps (some (.int)) tb_X12_steps 20 = true := by decide +kernel
set_option maxRecDepth 1000000 in
theorem ck_X12_steps : am_okT 13 false cX12_steps (some (.int)) tb_X12_steps = true := am_okJ_s rfl (am_j1 (am_j1 (am_j1 (am_j1 (am_j1 (am_j1 (am_j1 (am_j1 (am_j1 (am_j1 (am_j1 (am_j1 (am_j1 (am_j1 (am_j1 (am_j1 (am_j1 (am_j1 (am_j1 (am_j1 (am_j1 (am_j0) ck_X12_steps_0) ck_X12_steps_1) ck_X12_steps_2) ck_X12_steps_3) ck_X12_steps_4) ck_X12_steps_5) ck_X12_steps_6) ck_X12_steps_7) ck_X12_steps_8) ck_X12_steps_9) ck_X12_steps_10) ck_X12_steps_11) ck_X12_steps_12) ck_X12_steps_13) ck_X12_steps_14) ck_X12_steps_15) ck_X12_steps_16) ck_X12_steps_17) ck_X12_steps_18) ck_X12_steps_19) ck_X12_steps_20)
