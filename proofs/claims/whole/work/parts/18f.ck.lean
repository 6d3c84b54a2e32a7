set_option maxRecDepth 1000000 in
theorem ck_X11_count_0 : am_okJ 12 false cX11_count (some (.int)) tb_X11_count 0 = true := by decide +kernel
set_option maxRecDepth 1000000 in
theorem ck_X11_count_1 : am_okJ 12 false cX11_count (some (.int)) tb_X11_count 1 = true := by decide +kernel
set_option maxRecDepth 1000000 in
theorem ck_X11_count_2 : am_okJ 12 false cX11_count (some (.int)) tb_X11_count 2 = true := by decide +kernel
set_option maxRecDepth 1000000 in
theorem ck_X11_count_3 : am_okJ 12 false cX11_count (some (.int)) tb_X11_count 3 = true := by decide +kernel
set_option maxRecDepth 1000000 in
theorem ck_X11_count_4 : am_okJ 12 false cX11_count (some (.int)) tb_X11_count 4 = true := by decide +kernel
set_option maxRecDepth 1000000 in
theorem ck_X11_count : am_okT 12 false cX11_count (some (.int)) tb_X11_count = true := am_okJ_s rfl (am_j1 (am_j1 (am_j1 (am_j1 (am_j1 (am_j0) ck_X11_count_0) ck_X11_count_1) ck_X11_count_2) ck_X11_count_3) ck_X11_count_4)
set_option maxRecDepth 1000000 in
theorem ck_X11_between_0 : am_okJ 12 false cX11_between (some (.boolean)) tb_X11_between 0 = true := by decide +kernel
set_option maxRecDepth 1000000 in
theorem ck_X11_between : am_okT 12 false cX11_between (some (.boolean)) tb_X11_between = true := am_okJ_s rfl (am_j1 (am_j0) ck_X11_between_0)
set_option maxRecDepth 1000000 in
theorem ck_X11_isDay_0 : am_okJ 12 false cX11_isDay (some (.boolean)) tb_X11_isDay 0 = true := by decide +kernel
set_option maxRecDepth 1000000 in
theorem ck_X11_isDay : am_okT 12 false cX11_isDay (some (.boolean)) tb_X11_isDay = true := am_okJ_s rfl (am_j1 (am_j0) ck_X11_isDay_0)
set_option maxRecDepth 1000000 in
theorem ck_X11_isServant_0 : am_okJ 12 false cX11_isServant (some (.boolean)) tb_X11_isServant 0 = true := by decide +kernel
set_option maxRecDepth 1000000 in
theorem ck_X11_isServant : am_okT 12 false cX11_isServant (some (.boolean)) tb_X11_isServant = true := am_okJ_s rfl (am_j1 (am_j0) ck_X11_isServant_0)
set_option maxRecDepth 1000000 in
theorem ck_X11_isHouse_0 : am_okJ 12 false cX11_isHouse (some (.boolean)) tb_X11_isHouse 0 = true := by decide +kernel
set_option maxRecDepth 1000000 in
theorem ck_X11_isHouse : am_okT 12 false cX11_isHouse (some (.boolean)) tb_X11_isHouse = true := am_okJ_s rfl (am_j1 (am_j0) ck_X11_isHouse_0)
set_option maxRecDepth 1000000 in
theorem ck_X11_isPlace_0 : am_okJ 12 false cX11_isPlace (some (.boolean)) tb_X11_isPlace 0 = true := by decide +kernel
set_option maxRecDepth 1000000 in
theorem ck_X11_isPlace : am_okT 12 false cX11_isPlace (some (.boolean)) tb_X11_isPlace = true := am_okJ_s rfl (am_j1 (am_j0) ck_X11_isPlace_0)
set_option maxRecDepth 1000000 in
theorem ck_X11_isPlacing_0 : am_okJ 12 false cX11_isPlacing (some (.boolean)) tb_X11_isPlacing 0 = true := by decide +kernel
set_option maxRecDepth 1000000 in
theorem ck_X11_isPlacing : am_okT 12 false cX11_isPlacing (some (.boolean)) tb_X11_isPlacing = true := am_okJ_s rfl (am_j1 (am_j0) ck_X11_isPlacing_0)
set_option maxRecDepth 1000000 in
theorem ck_X11_bookOf_0 : am_okJ 12 false cX11_bookOf (some (.object "ServantRegistry$Rulebook")) tb_X11_bookOf 0 = true := by decide +kernel
set_option maxRecDepth 1000000 in
theorem ck_X11_bookOf_1 : am_okJ 12 false cX11_bookOf (some (.object "ServantRegistry$Rulebook")) tb_X11_bookOf 1 = true := by decide +kernel
set_option maxRecDepth 1000000 in
theorem ck_X11_bookOf_2 : am_okJ 12 false cX11_bookOf (some (.object "ServantRegistry$Rulebook")) tb_X11_bookOf 2 = true := by decide +kernel
set_option maxRecDepth 1000000 in
theorem ck_X11_bookOf : am_okT 12 false cX11_bookOf (some (.object "ServantRegistry$Rulebook")) tb_X11_bookOf = true := am_okJ_s rfl (am_j1 (am_j1 (am_j1 (am_j0) ck_X11_bookOf_0) ck_X11_bookOf_1) ck_X11_bookOf_2)
set_option maxRecDepth 1000000 in
theorem ck_X11_feeOf_0 : am_okJ 12 false cX11_feeOf (some (.int)) tb_X11_feeOf 0 = true := by decide +kernel
set_option maxRecDepth 1000000 in
theorem ck_X11_feeOf_1 : am_okJ 12 false cX11_feeOf (some (.int)) tb_X11_feeOf 1 = true := by decide +kernel
set_option maxRecDepth 1000000 in
theorem ck_X11_feeOf : am_okT 12 false cX11_feeOf (some (.int)) tb_X11_feeOf = true := am_okJ_s rfl (am_j1 (am_j1 (am_j0) ck_X11_feeOf_0) ck_X11_feeOf_1)
set_option maxRecDepth 1000000 in
theorem ck_X11_givenBack_0 : am_okJ 12 false cX11_givenBack (some (.int)) tb_X11_givenBack 0 = true := by decide +kernel
set_option maxRecDepth 1000000 in
theorem ck_X11_givenBack_1 : am_okJ 12 false cX11_givenBack (some (.int)) tb_X11_givenBack 1 = true := by decide +kernel
set_option maxRecDepth 1000000 in
theorem ck_X11_givenBack_2 : am_okJ 12 false cX11_givenBack (some (.int)) tb_X11_givenBack 2 = true := by decide +kernel
set_option maxRecDepth 1000000 in
theorem ck_X11_givenBack : am_okT 12 false cX11_givenBack (some (.int)) tb_X11_givenBack = true := am_okJ_s rfl (am_j1 (am_j1 (am_j1 (am_j0) ck_X11_givenBack_0) ck_X11_givenBack_1) ck_X11_givenBack_2)
set_option maxRecDepth 1000000 in
theorem ck_X11_owed_0 : am_okJ 12 false cX11_owed (some (.int)) tb_X11_owed 0 = true := by decide +kernel
set_option maxRecDepth 1000000 in
theorem ck_X11_owed_1 : am_okJ 12 false cX11_owed (some (.int)) tb_X11_owed 1 = true := by decide +kernel
set_option maxRecDepth 1000000 in
theorem ck_X11_owed_2 : am_okJ 12 false cX11_owed (some (.int)) tb_X11_owed 2 = true := by decide +kernel
set_option maxRecDepth 1000000 in
theorem ck_X11_owed : am_okT 12 false cX11_owed (some (.int)) tb_X11_owed = true := am_okJ_s rfl (am_j1 (am_j1 (am_j1 (am_j0) ck_X11_owed_0) ck_X11_owed_1) ck_X11_owed_2)
set_option maxRecDepth 1000000 in
theorem ck_X11_readWishes_0 : am_okJ 12 false cX11_readWishes (some (.int)) tb_X11_readWishes 0 = true := by decide +kernel
set_option maxRecDepth 1000000 in
theorem ck_X11_readWishes_1 : am_okJ 12 false cX11_readWishes (some (.int)) tb_X11_readWishes 1 = true := by decide +kernel
set_option maxRecDepth 1000000 in
theorem ck_X11_readWishes_2 : am_okJ 12 false cX11_readWishes (some (.int)) tb_X11_readWishes 2 = true := by decide +kernel
set_option maxRecDepth 1000000 in
theorem ck_X11_readWishes_3 : am_okJ 12 false cX11_readWishes (some (.int)) tb_X11_readWishes 3 = true := by decide +kernel
set_option maxRecDepth 1000000 in
theorem ck_X11_readWishes_4 : am_okJ 12 false cX11_readWishes (some (.int)) tb_X11_readWishes 4 = true := by decide +kernel
set_option maxRecDepth 1000000 in
theorem ck_X11_readWishes_5 : am_okJ 12 false cX11_readWishes (some (.int)) tb_X11_readWishes 5 = true := by decide +kernel
set_option maxRecDepth 1000000 in
theorem ck_X11_readWishes : am_okT 12 false cX11_readWishes (some (.int)) tb_X11_readWishes = true := am_okJ_s rfl (am_j1 (am_j1 (am_j1 (am_j1 (am_j1 (am_j1 (am_j0) ck_X11_readWishes_0) ck_X11_readWishes_1) ck_X11_readWishes_2) ck_X11_readWishes_3) ck_X11_readWishes_4) ck_X11_readWishes_5)
set_option maxRecDepth 1000000 in
theorem ck_X11_preparePairs_0 : am_okJ 12 false cX11_preparePairs (none) tb_X11_preparePairs 0 = true := by decide +kernel
set_option maxRecDepth 1000000 in
theorem ck_X11_preparePairs_1 : am_okJ 12 false cX11_preparePairs (none) tb_X11_preparePairs 1 = true := by decide +kernel
set_option maxRecDepth 1000000 in
theorem ck_X11_preparePairs_2 : am_okJ 12 false cX11_preparePairs (none) tb_X11_preparePairs 2 = true := by decide +kernel
set_option maxRecDepth 1000000 in
theorem ck_X11_preparePairs_3 : am_okJ 12 false cX11_preparePairs (none) tb_X11_preparePairs 3 = true := by decide +kernel
set_option maxRecDepth 1000000 in
theorem ck_X11_preparePairs_4 : am_okJ 12 false cX11_preparePairs (none) tb_X11_preparePairs 4 = true := by decide +kernel
set_option maxRecDepth 1000000 in
theorem ck_X11_preparePairs_5 : am_okJ 12 false cX11_preparePairs (none) tb_X11_preparePairs 5 = true := by decide +kernel
set_option maxRecDepth 1000000 in
theorem ck_X11_preparePairs_6 : am_okJ 12 false cX11_preparePairs (none) tb_X11_preparePairs 6 = true := by decide +kernel
set_option maxRecDepth 1000000 in
theorem ck_X11_preparePairs : am_okT 12 false cX11_preparePairs (none) tb_X11_preparePairs = true := am_okJ_s rfl (am_j1 (am_j1 (am_j1 (am_j1 (am_j1 (am_j1 (am_j1 (am_j0) ck_X11_preparePairs_0) ck_X11_preparePairs_1) ck_X11_preparePairs_2) ck_X11_preparePairs_3) ck_X11_preparePairs_4) ck_X11_preparePairs_5) ck_X11_preparePairs_6)
set_option maxRecDepth 1000000 in
theorem ck_X11_rank_0 : am_okJ 12 false cX11_rank (some (.int)) tb_X11_rank 0 = true := by decide +kernel
set_option maxRecDepth 1000000 in
theorem ck_X11_rank_1 : am_okJ 12 false cX11_rank (some (.int)) tb_X11_rank 1 = true := by decide +kernel
set_option maxRecDepth 1000000 in
theorem ck_X11_rank : am_okT 12 false cX11_rank (some (.int)) tb_X11_rank = true := am_okJ_s rfl (am_j1 (am_j1 (am_j0) ck_X11_rank_0) ck_X11_rank_1)
set_option maxRecDepth 1000000 in
theorem ck_X12_init_0 : am_okJ 13 true cX12_init (none) tb_X12_init 0 = true := by decide +kernel
set_option maxRecDepth 1000000 in
theorem ck_X12_init_1 : am_okJ 13 true cX12_init (none) tb_X12_init 1 = true := by decide +kernel
set_option maxRecDepth 1000000 in
theorem ck_X12_init_2 : am_okJ 13 true cX12_init (none) tb_X12_init 2 = true := by decide +kernel
set_option maxRecDepth 1000000 in
theorem ck_X12_init_3 : am_okJ 13 true cX12_init (none) tb_X12_init 3 = true := by decide +kernel
set_option maxRecDepth 1000000 in
theorem ck_X12_init_4 : am_okJ 13 true cX12_init (none) tb_X12_init 4 = true := by decide +kernel
set_option maxRecDepth 1000000 in
theorem ck_X12_init_5 : am_okJ 13 true cX12_init (none) tb_X12_init 5 = true := by decide +kernel
set_option maxRecDepth 1000000 in
theorem ck_X12_init_6 : am_okJ 13 true cX12_init (none) tb_X12_init 6 = true := by decide +kernel
set_option maxRecDepth 1000000 in
theorem ck_X12_init_7 : am_okJ 13 true cX12_init (none) tb_X12_init 7 = true := by decide +kernel
set_option maxRecDepth 1000000 in
theorem ck_X12_init_8 : am_okJ 13 true cX12_init (none) tb_X12_init 8 = true := by decide +kernel
set_option maxRecDepth 1000000 in
theorem ck_X12_init_9 : am_okJ 13 true cX12_init (none) tb_X12_init 9 = true := by decide +kernel
set_option maxRecDepth 1000000 in
theorem ck_X12_init_10 : am_okJ 13 true cX12_init (none) tb_X12_init 10 = true := by decide +kernel
set_option maxRecDepth 1000000 in
theorem ck_X12_init_11 : am_okJ 13 true cX12_init (none) tb_X12_init 11 = true := by decide +kernel
set_option maxRecDepth 1000000 in
theorem ck_X12_init_12 : am_okJ 13 true cX12_init (none) tb_X12_init 12 = true := by decide +kernel
set_option maxRecDepth 1000000 in
theorem ck_X12_init_13 : am_okJ 13 true cX12_init (none) tb_X12_init 13 = true := by decide +kernel
set_option maxRecDepth 1000000 in
theorem ck_X12_init_14 : am_okJ 13 true cX12_init (none) tb_X12_init 14 = true := by decide +kernel
set_option maxRecDepth 1000000 in
theorem ck_X12_init_15 : am_okJ 13 true cX12_init (none) tb_X12_init 15 = true := by decide +kernel
set_option maxRecDepth 1000000 in
theorem ck_X12_init_16 : am_okJ 13 true cX12_init (none) tb_X12_init 16 = true := by decide +kernel
set_option maxRecDepth 1000000 in
theorem ck_X12_init_17 : am_okJ 13 true cX12_init (none) tb_X12_init 17 = true := by decide +kernel
set_option maxRecDepth 1000000 in
theorem ck_X12_init_18 : am_okJ 13 true cX12_init (none) tb_X12_init 18 = true := by decide +kernel
set_option maxRecDepth 1000000 in
theorem ck_X12_init_19 : am_okJ 13 true cX12_init (none) tb_X12_init 19 = true := by decide +kernel
set_option maxRecDepth 1000000 in
theorem ck_X12_init_20 : am_okJ 13 true cX12_init (none) tb_X12_init 20 = true := by decide +kernel
set_option maxRecDepth 1000000 in
theorem ck_X12_init_21 : am_okJ 13 true cX12_init (none) tb_X12_init 21 = true := by decide +kernel
set_option maxRecDepth 1000000 in
theorem ck_X12_init : am_okT 13 true cX12_init (none) tb_X12_init = true := am_okJ_s rfl (am_j1 (am_j1 (am_j1 (am_j1 (am_j1 (am_j1 (am_j1 (am_j1 (am_j1 (am_j1 (am_j1 (am_j1 (am_j1 (am_j1 (am_j1 (am_j1 (am_j1 (am_j1 (am_j1 (am_j1 (am_j1 (am_j1 (am_j0) ck_X12_init_0) ck_X12_init_1) ck_X12_init_2) ck_X12_init_3) ck_X12_init_4) ck_X12_init_5) ck_X12_init_6) ck_X12_init_7) ck_X12_init_8) ck_X12_init_9) ck_X12_init_10) ck_X12_init_11) ck_X12_init_12) ck_X12_init_13) ck_X12_init_14) ck_X12_init_15) ck_X12_init_16) ck_X12_init_17) ck_X12_init_18) ck_X12_init_19) ck_X12_init_20) ck_X12_init_21)
set_option maxRecDepth 1000000 in
theorem ck_X12_isIn_0 : am_okJ 13 false cX12_isIn (some (.boolean)) tb_X12_isIn 0 = true := by decide +kernel
set_option maxRecDepth 1000000 in
theorem ck_X12_isIn : am_okT 13 false cX12_isIn (some (.boolean)) tb_X12_isIn = true := am_okJ_s rfl (am_j1 (am_j0) ck_X12_isIn_0)
set_option maxRecDepth 1000000 in
theorem ck_X12_one_0 : am_okJ 13 false cX12_one (some (.int)) tb_X12_one 0 = true := by decide +kernel
set_option maxRecDepth 1000000 in
theorem ck_X12_one : am_okT 13 false cX12_one (some (.int)) tb_X12_one = true := am_okJ_s rfl (am_j1 (am_j0) ck_X12_one_0)
set_option maxRecDepth 1000000 in
theorem ck_X12_isDay_0 : am_okJ 13 false cX12_isDay (some (.boolean)) tb_X12_isDay 0 = true := by decide +kernel
set_option maxRecDepth 1000000 in
theorem ck_X12_isDay : am_okT 13 false cX12_isDay (some (.boolean)) tb_X12_isDay = true := am_okJ_s rfl (am_j1 (am_j0) ck_X12_isDay_0)
set_option maxRecDepth 1000000 in
theorem ck_X12_isServant_0 : am_okJ 13 false cX12_isServant (some (.boolean)) tb_X12_isServant 0 = true := by decide +kernel
set_option maxRecDepth 1000000 in
theorem ck_X12_isServant : am_okT 13 false cX12_isServant (some (.boolean)) tb_X12_isServant = true := am_okJ_s rfl (am_j1 (am_j0) ck_X12_isServant_0)
set_option maxRecDepth 1000000 in
theorem ck_X12_isHouse_0 : am_okJ 13 false cX12_isHouse (some (.boolean)) tb_X12_isHouse 0 = true := by decide +kernel
set_option maxRecDepth 1000000 in
theorem ck_X12_isHouse : am_okT 13 false cX12_isHouse (some (.boolean)) tb_X12_isHouse = true := am_okJ_s rfl (am_j1 (am_j0) ck_X12_isHouse_0)
set_option maxRecDepth 1000000 in
theorem ck_X12_isPlace_0 : am_okJ 13 false cX12_isPlace (some (.boolean)) tb_X12_isPlace 0 = true := by decide +kernel
set_option maxRecDepth 1000000 in
theorem ck_X12_isPlace : am_okT 13 false cX12_isPlace (some (.boolean)) tb_X12_isPlace = true := am_okJ_s rfl (am_j1 (am_j0) ck_X12_isPlace_0)
set_option maxRecDepth 1000000 in
theorem ck_X12_isPlacing_0 : am_okJ 13 false cX12_isPlacing (some (.boolean)) tb_X12_isPlacing 0 = true := by decide +kernel
set_option maxRecDepth 1000000 in
theorem ck_X12_isPlacing : am_okT 13 false cX12_isPlacing (some (.boolean)) tb_X12_isPlacing = true := am_okJ_s rfl (am_j1 (am_j0) ck_X12_isPlacing_0)
set_option maxRecDepth 1000000 in
theorem ck_X12_bits_0 : am_okJ 13 false cX12_bits (some (.int)) tb_X12_bits 0 = true := by decide +kernel
set_option maxRecDepth 1000000 in
theorem ck_X12_bits_1 : am_okJ 13 false cX12_bits (some (.int)) tb_X12_bits 1 = true := by decide +kernel
set_option maxRecDepth 1000000 in
theorem ck_X12_bits : am_okT 13 false cX12_bits (some (.int)) tb_X12_bits = true := am_okJ_s rfl (am_j1 (am_j1 (am_j0) ck_X12_bits_0) ck_X12_bits_1)
set_option maxRecDepth 1000000 in
theorem ck_X12_ageOn_0 : am_okJ 13 false cX12_ageOn (some (.int)) tb_X12_ageOn 0 = true := by decide +kernel
set_option maxRecDepth 1000000 in
theorem ck_X12_ageOn : am_okT 13 false cX12_ageOn (some (.int)) tb_X12_ageOn = true := am_okJ_s rfl (am_j1 (am_j0) ck_X12_ageOn_0)
set_option maxRecDepth 1000000 in
theorem ck_X12_day_0 : am_okJ 13 false cX12_day (some (.boolean)) tb_X12_day 0 = true := by decide +kernel
set_option maxRecDepth 1000000 in
theorem ck_X12_day_1 : am_okJ 13 false cX12_day (some (.boolean)) tb_X12_day 1 = true := by decide +kernel
set_option maxRecDepth 1000000 in
theorem ck_X12_day : am_okT 13 false cX12_day (some (.boolean)) tb_X12_day = true := am_okJ_s rfl (am_j1 (am_j1 (am_j0) ck_X12_day_0) ck_X12_day_1)
set_option maxRecDepth 1000000 in
theorem ck_X12_servant_0 : am_okJ 13 false cX12_servant (some (.int)) tb_X12_servant 0 = true := by decide +kernel
set_option maxRecDepth 1000000 in
theorem ck_X12_servant_1 : am_okJ 13 false cX12_servant (some (.int)) tb_X12_servant 1 = true := by decide +kernel
set_option maxRecDepth 1000000 in
theorem ck_X12_servant_2 : am_okJ 13 false cX12_servant (some (.int)) tb_X12_servant 2 = true := by decide +kernel
set_option maxRecDepth 1000000 in
theorem ck_X12_servant_3 : am_okJ 13 false cX12_servant (some (.int)) tb_X12_servant 3 = true := by decide +kernel
set_option maxRecDepth 1000000 in
theorem ck_X12_servant_4 : am_okJ 13 false cX12_servant (some (.int)) tb_X12_servant 4 = true := by decide +kernel
set_option maxRecDepth 1000000 in
theorem ck_X12_servant_5 : am_okJ 13 false cX12_servant (some (.int)) tb_X12_servant 5 = true := by decide +kernel
set_option maxRecDepth 1000000 in
theorem ck_X12_servant : am_okT 13 false cX12_servant (some (.int)) tb_X12_servant = true := am_okJ_s rfl (am_j1 (am_j1 (am_j1 (am_j1 (am_j1 (am_j1 (am_j0) ck_X12_servant_0) ck_X12_servant_1) ck_X12_servant_2) ck_X12_servant_3) ck_X12_servant_4) ck_X12_servant_5)
set_option maxRecDepth 1000000 in
theorem ck_X12_house_0 : am_okJ 13 false cX12_house (some (.int)) tb_X12_house 0 = true := by decide +kernel
set_option maxRecDepth 1000000 in
theorem ck_X12_house_1 : am_okJ 13 false cX12_house (some (.int)) tb_X12_house 1 = true := by decide +kernel
set_option maxRecDepth 1000000 in
theorem ck_X12_house_2 : am_okJ 13 false cX12_house (some (.int)) tb_X12_house 2 = true := by decide +kernel
set_option maxRecDepth 1000000 in
theorem ck_X12_house : am_okT 13 false cX12_house (some (.int)) tb_X12_house = true := am_okJ_s rfl (am_j1 (am_j1 (am_j1 (am_j0) ck_X12_house_0) ck_X12_house_1) ck_X12_house_2)
set_option maxRecDepth 1000000 in
theorem ck_X12_lag_0 : am_okJ 13 false cX12_lag (some (.boolean)) tb_X12_lag 0 = true := by decide +kernel
set_option maxRecDepth 1000000 in
theorem ck_X12_lag_1 : am_okJ 13 false cX12_lag (some (.boolean)) tb_X12_lag 1 = true := by decide +kernel
set_option maxRecDepth 1000000 in
theorem ck_X12_lag : am_okT 13 false cX12_lag (some (.boolean)) tb_X12_lag = true := am_okJ_s rfl (am_j1 (am_j1 (am_j0) ck_X12_lag_0) ck_X12_lag_1)
set_option maxRecDepth 1000000 in
theorem ck_X12_place_0 : am_okJ 13 false cX12_place (some (.int)) tb_X12_place 0 = true := by decide +kernel
set_option maxRecDepth 1000000 in
theorem ck_X12_place_1 : am_okJ 13 false cX12_place (some (.int)) tb_X12_place 1 = true := by decide +kernel
set_option maxRecDepth 1000000 in
theorem ck_X12_place_2 : am_okJ 13 false cX12_place (some (.int)) tb_X12_place 2 = true := by decide +kernel
set_option maxRecDepth 1000000 in
theorem ck_X12_place_3 : am_okJ 13 false cX12_place (some (.int)) tb_X12_place 3 = true := by decide +kernel
set_option maxRecDepth 1000000 in
theorem ck_X12_place_4 : am_okJ 13 false cX12_place (some (.int)) tb_X12_place 4 = true := by decide +kernel
set_option maxRecDepth 1000000 in
theorem ck_X12_place_5 : am_okJ 13 false cX12_place (some (.int)) tb_X12_place 5 = true := by decide +kernel
set_option maxRecDepth 1000000 in
theorem ck_X12_place_6 : am_okJ 13 false cX12_place (some (.int)) tb_X12_place 6 = true := by decide +kernel
set_option maxRecDepth 1000000 in
theorem ck_X12_place : am_okT 13 false cX12_place (some (.int)) tb_X12_place = true := am_okJ_s rfl (am_j1 (am_j1 (am_j1 (am_j1 (am_j1 (am_j1 (am_j1 (am_j0) ck_X12_place_0) ck_X12_place_1) ck_X12_place_2) ck_X12_place_3) ck_X12_place_4) ck_X12_place_5) ck_X12_place_6)
set_option maxRecDepth 1000000 in
theorem ck_X12_letters_0 : am_okJ 13 false cX12_letters (some (.int)) tb_X12_letters 0 = true := by decide +kernel
set_option maxRecDepth 1000000 in
theorem ck_X12_letters_1 : am_okJ 13 false cX12_letters (some (.int)) tb_X12_letters 1 = true := by decide +kernel
set_option maxRecDepth 1000000 in
theorem ck_X12_letters : am_okT 13 false cX12_letters (some (.int)) tb_X12_letters = true := am_okJ_s rfl (am_j1 (am_j1 (am_j0) ck_X12_letters_0) ck_X12_letters_1)
set_option maxRecDepth 1000000 in
theorem ck_X12_placing_0 : am_okJ 13 false cX12_placing (some (.int)) tb_X12_placing 0 = true := by decide +kernel
set_option maxRecDepth 1000000 in
theorem ck_X12_placing_1 : am_okJ 13 false cX12_placing (some (.int)) tb_X12_placing 1 = true := by decide +kernel
set_option maxRecDepth 1000000 in
theorem ck_X12_placing_2 : am_okJ 13 false cX12_placing (some (.int)) tb_X12_placing 2 = true := by decide +kernel
set_option maxRecDepth 1000000 in
theorem ck_X12_placing_3 : am_okJ 13 false cX12_placing (some (.int)) tb_X12_placing 3 = true := by decide +kernel
set_option maxRecDepth 1000000 in
theorem ck_X12_placing_4 : am_okJ 13 false cX12_placing (some (.int)) tb_X12_placing 4 = true := by decide +kernel
set_option maxRecDepth 1000000 in
theorem ck_X12_placing_5 : am_okJ 13 false cX12_placing (some (.int)) tb_X12_placing 5 = true := by decide +kernel
set_option maxRecDepth 1000000 in
theorem ck_X12_placing_6 : am_okJ 13 false cX12_placing (some (.int)) tb_X12_placing 6 = true := by decide +kernel
set_option maxRecDepth 1000000 in
theorem ck_X12_placing : am_okT 13 false cX12_placing (some (.int)) tb_X12_placing = true := am_okJ_s rfl (am_j1 (am_j1 (am_j1 (am_j1 (am_j1 (am_j1 (am_j1 (am_j0) ck_X12_placing_0) ck_X12_placing_1) ck_X12_placing_2) ck_X12_placing_3) ck_X12_placing_4) ck_X12_placing_5) ck_X12_placing_6)
