set_option maxRecDepth 1000000 in
theorem ck_X6_tokenAt_0 : am_okJ 7 false cX6_tokenAt (some (.int)) tb_X6_tokenAt 0 = true := by decide +kernel
set_option maxRecDepth 1000000 in
theorem ck_X6_tokenAt_1 : am_okJ 7 false cX6_tokenAt (some (.int)) tb_X6_tokenAt 1 = true := by decide +kernel
set_option maxRecDepth 1000000 in
theorem ck_X6_tokenAt_2 : am_okJ 7 false cX6_tokenAt (some (.int)) tb_X6_tokenAt 2 = true := by decide +kernel
set_option maxRecDepth 1000000 in
theorem ck_X6_tokenAt_3 : am_okJ 7 false cX6_tokenAt (some (.int)) tb_X6_tokenAt 3 = true := by decide +kernel
set_option maxRecDepth 1000000 in
theorem ck_X6_tokenAt_4 : am_okJ 7 false cX6_tokenAt (some (.int)) tb_X6_tokenAt 4 = true := by decide +kernel
set_option maxRecDepth 1000000 in
theorem ck_X6_tokenAt : am_okT 7 false cX6_tokenAt (some (.int)) tb_X6_tokenAt = true := am_okJ_s rfl (am_j1 (am_j1 (am_j1 (am_j1 (am_j1 (am_j0) ck_X6_tokenAt_0) ck_X6_tokenAt_1) ck_X6_tokenAt_2) ck_X6_tokenAt_3) ck_X6_tokenAt_4)
set_option maxRecDepth 1000000 in
theorem ck_X7_init_0 : am_okJ 8 true cX7_init (none) tb_X7_init 0 = true := by decide +kernel
set_option maxRecDepth 1000000 in
theorem ck_X7_init_1 : am_okJ 8 true cX7_init (none) tb_X7_init 1 = true := by decide +kernel
set_option maxRecDepth 1000000 in
theorem ck_X7_init_2 : am_okJ 8 true cX7_init (none) tb_X7_init 2 = true := by decide +kernel
set_option maxRecDepth 1000000 in
theorem ck_X7_init : am_okT 8 true cX7_init (none) tb_X7_init = true := am_okJ_s rfl (am_j1 (am_j1 (am_j1 (am_j0) ck_X7_init_0) ck_X7_init_1) ck_X7_init_2)
set_option maxRecDepth 1000000 in
theorem ck_X7_add_0 : am_okJ 8 false cX7_add (none) tb_X7_add 0 = true := by decide +kernel
set_option maxRecDepth 1000000 in
theorem ck_X7_add_1 : am_okJ 8 false cX7_add (none) tb_X7_add 1 = true := by decide +kernel
set_option maxRecDepth 1000000 in
theorem ck_X7_add_2 : am_okJ 8 false cX7_add (none) tb_X7_add 2 = true := by decide +kernel
set_option maxRecDepth 1000000 in
theorem ck_X7_add_3 : am_okJ 8 false cX7_add (none) tb_X7_add 3 = true := by decide +kernel
set_option maxRecDepth 1000000 in
theorem ck_X7_add : am_okT 8 false cX7_add (none) tb_X7_add = true := am_okJ_s rfl (am_j1 (am_j1 (am_j1 (am_j1 (am_j0) ck_X7_add_0) ck_X7_add_1) ck_X7_add_2) ck_X7_add_3)
set_option maxRecDepth 1000000 in
theorem ck_X7_fee_0 : am_okJ 8 false cX7_fee (some (.int)) tb_X7_fee 0 = true := by decide +kernel
set_option maxRecDepth 1000000 in
theorem ck_X7_fee_1 : am_okJ 8 false cX7_fee (some (.int)) tb_X7_fee 1 = true := by decide +kernel
set_option maxRecDepth 1000000 in
theorem ck_X7_fee : am_okT 8 false cX7_fee (some (.int)) tb_X7_fee = true := am_okJ_s rfl (am_j1 (am_j1 (am_j0) ck_X7_fee_0) ck_X7_fee_1)
set_option maxRecDepth 1000000 in
theorem ck_X7_unfitness_0 : am_okJ 8 false cX7_unfitness (some (.int)) tb_X7_unfitness 0 = true := by decide +kernel
set_option maxRecDepth 1000000 in
theorem ck_X7_unfitness_1 : am_okJ 8 false cX7_unfitness (some (.int)) tb_X7_unfitness 1 = true := by decide +kernel
set_option maxRecDepth 1000000 in
theorem ck_X7_unfitness_2 : am_okJ 8 false cX7_unfitness (some (.int)) tb_X7_unfitness 2 = true := by decide +kernel
set_option maxRecDepth 1000000 in
theorem ck_X7_unfitness_3 : am_okJ 8 false cX7_unfitness (some (.int)) tb_X7_unfitness 3 = true := by decide +kernel
set_option maxRecDepth 1000000 in
theorem ck_X7_unfitness_4 : am_okJ 8 false cX7_unfitness (some (.int)) tb_X7_unfitness 4 = true := by decide +kernel
set_option maxRecDepth 1000000 in
theorem ck_X7_unfitness : am_okT 8 false cX7_unfitness (some (.int)) tb_X7_unfitness = true := am_okJ_s rfl (am_j1 (am_j1 (am_j1 (am_j1 (am_j1 (am_j0) ck_X7_unfitness_0) ck_X7_unfitness_1) ck_X7_unfitness_2) ck_X7_unfitness_3) ck_X7_unfitness_4)
set_option maxRecDepth 1000000 in
theorem ck_X7_wayTo_0 : am_okJ 8 false cX7_wayTo (some (.int)) tb_X7_wayTo 0 = true := by decide +kernel
set_option maxRecDepth 1000000 in
theorem ck_X7_wayTo_1 : am_okJ 8 false cX7_wayTo (some (.int)) tb_X7_wayTo 1 = true := by decide +kernel
set_option maxRecDepth 1000000 in
theorem ck_X7_wayTo_2 : am_okJ 8 false cX7_wayTo (some (.int)) tb_X7_wayTo 2 = true := by decide +kernel
set_option maxRecDepth 1000000 in
theorem ck_X7_wayTo_3 : am_okJ 8 false cX7_wayTo (some (.int)) tb_X7_wayTo 3 = true := by decide +kernel
set_option maxRecDepth 1000000 in
theorem ck_X7_wayTo_4 : am_okJ 8 false cX7_wayTo (some (.int)) tb_X7_wayTo 4 = true := by decide +kernel
set_option maxRecDepth 1000000 in
theorem ck_X7_wayTo_5 : am_okJ 8 false cX7_wayTo (some (.int)) tb_X7_wayTo 5 = true := by decide +kernel
set_option maxRecDepth 1000000 in
theorem ck_X7_wayTo : am_okT 8 false cX7_wayTo (some (.int)) tb_X7_wayTo = true := am_okJ_s rfl (am_j1 (am_j1 (am_j1 (am_j1 (am_j1 (am_j1 (am_j0) ck_X7_wayTo_0) ck_X7_wayTo_1) ck_X7_wayTo_2) ck_X7_wayTo_3) ck_X7_wayTo_4) ck_X7_wayTo_5)
set_option maxRecDepth 1000000 in
theorem ck_X7_wayBy_0 : am_okJ 8 false cX7_wayBy (some (.int)) tb_X7_wayBy 0 = true := by decide +kernel
set_option maxRecDepth 1000000 in
theorem ck_X7_wayBy_1 : am_okJ 8 false cX7_wayBy (some (.int)) tb_X7_wayBy 1 = true := by decide +kernel
set_option maxRecDepth 1000000 in
theorem ck_X7_wayBy_2 : am_okJ 8 false cX7_wayBy (some (.int)) tb_X7_wayBy 2 = true := by decide +kernel
set_option maxRecDepth 1000000 in
theorem ck_X7_wayBy : am_okT 8 false cX7_wayBy (some (.int)) tb_X7_wayBy = true := am_okJ_s rfl (am_j1 (am_j1 (am_j1 (am_j0) ck_X7_wayBy_0) ck_X7_wayBy_1) ck_X7_wayBy_2)
set_option maxRecDepth 1000000 in
theorem ck_X7_firstHolding_0 : am_okJ 8 false cX7_firstHolding (some (.object "ServantRegistry$Statement")) tb_X7_firstHolding 0 = true := by decide +kernel
set_option maxRecDepth 1000000 in
theorem ck_X7_firstHolding_1 : am_okJ 8 false cX7_firstHolding (some (.object "ServantRegistry$Statement")) tb_X7_firstHolding 1 = true := by decide +kernel
set_option maxRecDepth 1000000 in
theorem ck_X7_firstHolding_2 : am_okJ 8 false cX7_firstHolding (some (.object "ServantRegistry$Statement")) tb_X7_firstHolding 2 = true := by decide +kernel
set_option maxRecDepth 1000000 in
theorem ck_X7_firstHolding_3 : am_okJ 8 false cX7_firstHolding (some (.object "ServantRegistry$Statement")) tb_X7_firstHolding 3 = true := by decide +kernel
set_option maxRecDepth 1000000 in
theorem ck_X7_firstHolding_4 : am_okJ 8 false cX7_firstHolding (some (.object "ServantRegistry$Statement")) tb_X7_firstHolding 4 = true := by decide +kernel
set_option maxRecDepth 1000000 in
theorem ck_X7_firstHolding_5 : am_okJ 8 false cX7_firstHolding (some (.object "ServantRegistry$Statement")) tb_X7_firstHolding 5 = true := by decide +kernel
set_option maxRecDepth 1000000 in
theorem ck_X7_firstHolding : am_okT 8 false cX7_firstHolding (some (.object "ServantRegistry$Statement")) tb_X7_firstHolding = true := am_okJ_s rfl (am_j1 (am_j1 (am_j1 (am_j1 (am_j1 (am_j1 (am_j0) ck_X7_firstHolding_0) ck_X7_firstHolding_1) ck_X7_firstHolding_2) ck_X7_firstHolding_3) ck_X7_firstHolding_4) ck_X7_firstHolding_5)
set_option maxRecDepth 1000000 in
theorem ck_X7_holds_0 : am_okJ 8 false cX7_holds (some (.boolean)) tb_X7_holds 0 = true := by decide +kernel
set_option maxRecDepth 1000000 in
theorem ck_X7_holds_1 : am_okJ 8 false cX7_holds (some (.boolean)) tb_X7_holds 1 = true := by decide +kernel
set_option maxRecDepth 1000000 in
theorem ck_X7_holds_2 : am_okJ 8 false cX7_holds (some (.boolean)) tb_X7_holds 2 = true := by decide +kernel
set_option maxRecDepth 1000000 in
theorem ck_X7_holds_3 : am_okJ 8 false cX7_holds (some (.boolean)) tb_X7_holds 3 = true := by decide +kernel
set_option maxRecDepth 1000000 in
theorem ck_X7_holds_4 : am_okJ 8 false cX7_holds (some (.boolean)) tb_X7_holds 4 = true := by decide +kernel
set_option maxRecDepth 1000000 in
theorem ck_X7_holds_5 : am_okJ 8 false cX7_holds (some (.boolean)) tb_X7_holds 5 = true := by decide +kernel
set_option maxRecDepth 1000000 in
theorem ck_X7_holds : am_okT 8 false cX7_holds (some (.boolean)) tb_X7_holds = true := am_okJ_s rfl (am_j1 (am_j1 (am_j1 (am_j1 (am_j1 (am_j1 (am_j0) ck_X7_holds_0) ck_X7_holds_1) ck_X7_holds_2) ck_X7_holds_3) ck_X7_holds_4) ck_X7_holds_5)
set_option maxRecDepth 1000000 in
theorem ck_X7_compares_0 : am_okJ 8 false cX7_compares (some (.boolean)) tb_X7_compares 0 = true := by decide +kernel
set_option maxRecDepth 1000000 in
theorem ck_X7_compares_1 : am_okJ 8 false cX7_compares (some (.boolean)) tb_X7_compares 1 = true := by decide +kernel
set_option maxRecDepth 1000000 in
theorem ck_X7_compares_2 : am_okJ 8 false cX7_compares (some (.boolean)) tb_X7_compares 2 = true := by decide +kernel
set_option maxRecDepth 1000000 in
theorem ck_X7_compares_3 : am_okJ 8 false cX7_compares (some (.boolean)) tb_X7_compares 3 = true := by decide +kernel
set_option maxRecDepth 1000000 in
theorem ck_X7_compares : am_okT 8 false cX7_compares (some (.boolean)) tb_X7_compares = true := am_okJ_s rfl (am_j1 (am_j1 (am_j1 (am_j1 (am_j0) ck_X7_compares_0) ck_X7_compares_1) ck_X7_compares_2) ck_X7_compares_3)
set_option maxRecDepth 1000000 in
theorem ck_X8_init_0 : am_okJ 9 true cX8_init (none) tb_X8_init 0 = true := by decide +kernel
set_option maxRecDepth 1000000 in
theorem ck_X8_init_1 : am_okJ 9 true cX8_init (none) tb_X8_init 1 = true := by decide +kernel
set_option maxRecDepth 1000000 in
theorem ck_X8_init : am_okT 9 true cX8_init (none) tb_X8_init = true := am_okJ_s rfl (am_j1 (am_j1 (am_j0) ck_X8_init_0) ck_X8_init_1)
set_option maxRecDepth 1000000 in
theorem ck_X8_ageOn_0 : am_okJ 9 false cX8_ageOn (some (.int)) tb_X8_ageOn 0 = true := by decide +kernel
set_option maxRecDepth 1000000 in
theorem ck_X8_ageOn : am_okT 9 false cX8_ageOn (some (.int)) tb_X8_ageOn = true := am_okJ_s rfl (am_j1 (am_j0) ck_X8_ageOn_0)
set_option maxRecDepth 1000000 in
theorem ck_X9_init_0 : am_okJ 10 true cX9_init (none) tb_X9_init 0 = true := by decide +kernel
set_option maxRecDepth 1000000 in
theorem ck_X9_init : am_okT 10 true cX9_init (none) tb_X9_init = true := am_okJ_s rfl (am_j1 (am_j0) ck_X9_init_0)
set_option maxRecDepth 1000000 in
theorem ck_X10_init_0 : am_okJ 11 true cX10_init (none) tb_X10_init 0 = true := by decide +kernel
set_option maxRecDepth 1000000 in
theorem ck_X10_init_1 : am_okJ 11 true cX10_init (none) tb_X10_init 1 = true := by decide +kernel
set_option maxRecDepth 1000000 in
theorem ck_X10_init : am_okT 11 true cX10_init (none) tb_X10_init = true := am_okJ_s rfl (am_j1 (am_j1 (am_j0) ck_X10_init_0) ck_X10_init_1)
set_option maxRecDepth 1000000 in
theorem ck_X11_init_0 : am_okJ 12 true cX11_init (none) tb_X11_init 0 = true := by decide +kernel
set_option maxRecDepth 1000000 in
theorem ck_X11_init_1 : am_okJ 12 true cX11_init (none) tb_X11_init 1 = true := by decide +kernel
set_option maxRecDepth 1000000 in
theorem ck_X11_init_2 : am_okJ 12 true cX11_init (none) tb_X11_init 2 = true := by decide +kernel
set_option maxRecDepth 1000000 in
theorem ck_X11_init_3 : am_okJ 12 true cX11_init (none) tb_X11_init 3 = true := by decide +kernel
set_option maxRecDepth 1000000 in
theorem ck_X11_init_4 : am_okJ 12 true cX11_init (none) tb_X11_init 4 = true := by decide +kernel
set_option maxRecDepth 1000000 in
theorem ck_X11_init_5 : am_okJ 12 true cX11_init (none) tb_X11_init 5 = true := by decide +kernel
set_option maxRecDepth 1000000 in
theorem ck_X11_init_6 : am_okJ 12 true cX11_init (none) tb_X11_init 6 = true := by decide +kernel
set_option maxRecDepth 1000000 in
theorem ck_X11_init : am_okT 12 true cX11_init (none) tb_X11_init = true := am_okJ_s rfl (am_j1 (am_j1 (am_j1 (am_j1 (am_j1 (am_j1 (am_j1 (am_j0) ck_X11_init_0) ck_X11_init_1) ck_X11_init_2) ck_X11_init_3) ck_X11_init_4) ck_X11_init_5) ck_X11_init_6)
set_option maxRecDepth 1000000 in
theorem ck_X11_day_0 : am_okJ 12 false cX11_day (some (.boolean)) tb_X11_day 0 = true := by decide +kernel
set_option maxRecDepth 1000000 in
theorem ck_X11_day_1 : am_okJ 12 false cX11_day (some (.boolean)) tb_X11_day 1 = true := by decide +kernel
set_option maxRecDepth 1000000 in
theorem ck_X11_day : am_okT 12 false cX11_day (some (.boolean)) tb_X11_day = true := am_okJ_s rfl (am_j1 (am_j1 (am_j0) ck_X11_day_0) ck_X11_day_1)
set_option maxRecDepth 1000000 in
theorem ck_X11_servant_0 : am_okJ 12 false cX11_servant (some (.int)) tb_X11_servant 0 = true := by decide +kernel
set_option maxRecDepth 1000000 in
theorem ck_X11_servant_1 : am_okJ 12 false cX11_servant (some (.int)) tb_X11_servant 1 = true := by decide +kernel
set_option maxRecDepth 1000000 in
theorem ck_X11_servant_2 : am_okJ 12 false cX11_servant (some (.int)) tb_X11_servant 2 = true := by decide +kernel
set_option maxRecDepth 1000000 in
theorem ck_X11_servant_3 : am_okJ 12 false cX11_servant (some (.int)) tb_X11_servant 3 = true := by decide +kernel
set_option maxRecDepth 1000000 in
theorem ck_X11_servant_4 : am_okJ 12 false cX11_servant (some (.int)) tb_X11_servant 4 = true := by decide +kernel
set_option maxRecDepth 1000000 in
theorem ck_X11_servant : am_okT 12 false cX11_servant (some (.int)) tb_X11_servant = true := am_okJ_s rfl (am_j1 (am_j1 (am_j1 (am_j1 (am_j1 (am_j0) ck_X11_servant_0) ck_X11_servant_1) ck_X11_servant_2) ck_X11_servant_3) ck_X11_servant_4)
set_option maxRecDepth 1000000 in
theorem ck_X11_house_0 : am_okJ 12 false cX11_house (some (.int)) tb_X11_house 0 = true := by decide +kernel
set_option maxRecDepth 1000000 in
theorem ck_X11_house_1 : am_okJ 12 false cX11_house (some (.int)) tb_X11_house 1 = true := by decide +kernel
set_option maxRecDepth 1000000 in
theorem ck_X11_house_2 : am_okJ 12 false cX11_house (some (.int)) tb_X11_house 2 = true := by decide +kernel
set_option maxRecDepth 1000000 in
theorem ck_X11_house : am_okT 12 false cX11_house (some (.int)) tb_X11_house = true := am_okJ_s rfl (am_j1 (am_j1 (am_j1 (am_j0) ck_X11_house_0) ck_X11_house_1) ck_X11_house_2)
set_option maxRecDepth 1000000 in
theorem ck_X11_lag_0 : am_okJ 12 false cX11_lag (some (.boolean)) tb_X11_lag 0 = true := by decide +kernel
set_option maxRecDepth 1000000 in
theorem ck_X11_lag_1 : am_okJ 12 false cX11_lag (some (.boolean)) tb_X11_lag 1 = true := by decide +kernel
set_option maxRecDepth 1000000 in
theorem ck_X11_lag : am_okT 12 false cX11_lag (some (.boolean)) tb_X11_lag = true := am_okJ_s rfl (am_j1 (am_j1 (am_j0) ck_X11_lag_0) ck_X11_lag_1)
set_option maxRecDepth 1000000 in
theorem ck_X11_place_0 : am_okJ 12 false cX11_place (some (.int)) tb_X11_place 0 = true := by decide +kernel
set_option maxRecDepth 1000000 in
theorem ck_X11_place_1 : am_okJ 12 false cX11_place (some (.int)) tb_X11_place 1 = true := by decide +kernel
set_option maxRecDepth 1000000 in
theorem ck_X11_place_2 : am_okJ 12 false cX11_place (some (.int)) tb_X11_place 2 = true := by decide +kernel
set_option maxRecDepth 1000000 in
theorem ck_X11_place_3 : am_okJ 12 false cX11_place (some (.int)) tb_X11_place 3 = true := by decide +kernel
set_option maxRecDepth 1000000 in
theorem ck_X11_place_4 : am_okJ 12 false cX11_place (some (.int)) tb_X11_place 4 = true := by decide +kernel
set_option maxRecDepth 1000000 in
theorem ck_X11_place_5 : am_okJ 12 false cX11_place (some (.int)) tb_X11_place 5 = true := by decide +kernel
set_option maxRecDepth 1000000 in
theorem ck_X11_place_6 : am_okJ 12 false cX11_place (some (.int)) tb_X11_place 6 = true := by decide +kernel
set_option maxRecDepth 1000000 in
theorem ck_X11_place : am_okT 12 false cX11_place (some (.int)) tb_X11_place = true := am_okJ_s rfl (am_j1 (am_j1 (am_j1 (am_j1 (am_j1 (am_j1 (am_j1 (am_j0) ck_X11_place_0) ck_X11_place_1) ck_X11_place_2) ck_X11_place_3) ck_X11_place_4) ck_X11_place_5) ck_X11_place_6)
set_option maxRecDepth 1000000 in
theorem ck_X11_placing_0 : am_okJ 12 false cX11_placing (some (.int)) tb_X11_placing 0 = true := by decide +kernel
set_option maxRecDepth 1000000 in
theorem ck_X11_placing_1 : am_okJ 12 false cX11_placing (some (.int)) tb_X11_placing 1 = true := by decide +kernel
set_option maxRecDepth 1000000 in
theorem ck_X11_placing_2 : am_okJ 12 false cX11_placing (some (.int)) tb_X11_placing 2 = true := by decide +kernel
set_option maxRecDepth 1000000 in
theorem ck_X11_placing_3 : am_okJ 12 false cX11_placing (some (.int)) tb_X11_placing 3 = true := by decide +kernel
set_option maxRecDepth 1000000 in
theorem ck_X11_placing_4 : am_okJ 12 false cX11_placing (some (.int)) tb_X11_placing 4 = true := by decide +kernel
set_option maxRecDepth 1000000 in
theorem ck_X11_placing_5 : am_okJ 12 false cX11_placing (some (.int)) tb_X11_placing 5 = true := by decide +kernel
set_option maxRecDepth 1000000 in
theorem ck_X11_placing : am_okT 12 false cX11_placing (some (.int)) tb_X11_placing = true := am_okJ_s rfl (am_j1 (am_j1 (am_j1 (am_j1 (am_j1 (am_j1 (am_j0) ck_X11_placing_0) ck_X11_placing_1) ck_X11_placing_2) ck_X11_placing_3) ck_X11_placing_4) ck_X11_placing_5)
set_option maxRecDepth 1000000 in
theorem ck_X11_leave_0 : am_okJ 12 false cX11_leave (some (.boolean)) tb_X11_leave 0 = true := by decide +kernel
set_option maxRecDepth 1000000 in
theorem ck_X11_leave_1 : am_okJ 12 false cX11_leave (some (.boolean)) tb_X11_leave 1 = true := by decide +kernel
set_option maxRecDepth 1000000 in
theorem ck_X11_leave_2 : am_okJ 12 false cX11_leave (some (.boolean)) tb_X11_leave 2 = true := by decide +kernel
set_option maxRecDepth 1000000 in
theorem ck_X11_leave_3 : am_okJ 12 false cX11_leave (some (.boolean)) tb_X11_leave 3 = true := by decide +kernel
set_option maxRecDepth 1000000 in
theorem ck_X11_leave_4 : am_okJ 12 false cX11_leave (some (.boolean)) tb_X11_leave 4 = true := by decide +kernel
set_option maxRecDepth 1000000 in
theorem ck_X11_leave : am_okT 12 false cX11_leave (some (.boolean)) tb_X11_leave = true := am_okJ_s rfl (am_j1 (am_j1 (am_j1 (am_j1 (am_j1 (am_j0) ck_X11_leave_0) ck_X11_leave_1) ck_X11_leave_2) ck_X11_leave_3) ck_X11_leave_4)
set_option maxRecDepth 1000000 in
theorem ck_X11_undo_0 : am_okJ 12 false cX11_undo (some (.boolean)) tb_X11_undo 0 = true := by decide +kernel
set_option maxRecDepth 1000000 in
theorem ck_X11_undo_1 : am_okJ 12 false cX11_undo (some (.boolean)) tb_X11_undo 1 = true := by decide +kernel
set_option maxRecDepth 1000000 in
theorem ck_X11_undo_2 : am_okJ 12 false cX11_undo (some (.boolean)) tb_X11_undo 2 = true := by decide +kernel
set_option maxRecDepth 1000000 in
theorem ck_X11_undo : am_okT 12 false cX11_undo (some (.boolean)) tb_X11_undo = true := am_okJ_s rfl (am_j1 (am_j1 (am_j1 (am_j0) ck_X11_undo_0) ck_X11_undo_1) ck_X11_undo_2)
set_option maxRecDepth 1000000 in
theorem ck_X11_in_0 : am_okJ 12 false cX11_in (some (.int)) tb_X11_in 0 = true := by decide +kernel
set_option maxRecDepth 1000000 in
theorem ck_X11_in_1 : am_okJ 12 false cX11_in (some (.int)) tb_X11_in 1 = true := by decide +kernel
set_option maxRecDepth 1000000 in
theorem ck_X11_in_2 : am_okJ 12 false cX11_in (some (.int)) tb_X11_in 2 = true := by decide +kernel
set_option maxRecDepth 1000000 in
theorem ck_X11_in : am_okT 12 false cX11_in (some (.int)) tb_X11_in = true := am_okJ_s rfl (am_j1 (am_j1 (am_j1 (am_j0) ck_X11_in_0) ck_X11_in_1) ck_X11_in_2)
set_option maxRecDepth 1000000 in
theorem ck_X11_holder_0 : am_okJ 12 false cX11_holder (some (.int)) tb_X11_holder 0 = true := by decide +kernel
set_option maxRecDepth 1000000 in
theorem ck_X11_holder_1 : am_okJ 12 false cX11_holder (some (.int)) tb_X11_holder 1 = true := by decide +kernel
set_option maxRecDepth 1000000 in
theorem ck_X11_holder_2 : am_okJ 12 false cX11_holder (some (.int)) tb_X11_holder 2 = true := by decide +kernel
set_option maxRecDepth 1000000 in
theorem ck_X11_holder_3 : am_okJ 12 false cX11_holder (some (.int)) tb_X11_holder 3 = true := by decide +kernel
set_option maxRecDepth 1000000 in
theorem ck_X11_holder : am_okT 12 false cX11_holder (some (.int)) tb_X11_holder = true := am_okJ_s rfl (am_j1 (am_j1 (am_j1 (am_j1 (am_j0) ck_X11_holder_0) ck_X11_holder_1) ck_X11_holder_2) ck_X11_holder_3)
