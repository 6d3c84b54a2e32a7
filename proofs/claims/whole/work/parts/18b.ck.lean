set_option maxRecDepth 1000000 in
theorem ck_X0_init_0 : am_okJ 1 true cX0_init (none) tb_X0_init 0 = true := by decide +kernel
set_option maxRecDepth 1000000 in
theorem ck_X0_init_1 : am_okJ 1 true cX0_init (none) tb_X0_init 1 = true := by decide +kernel
set_option maxRecDepth 1000000 in
theorem ck_X0_init : am_okT 1 true cX0_init (none) tb_X0_init = true := am_okJ_s rfl (am_j1 (am_j1 (am_j0) ck_X0_init_0) ck_X0_init_1)
set_option maxRecDepth 1000000 in
theorem ck_X0_isAnsweredUnlike_0 : am_okJ 1 false cX0_isAnsweredUnlike (some (.boolean)) tb_X0_isAnsweredUnlike 0 = true := by decide +kernel
set_option maxRecDepth 1000000 in
theorem ck_X0_isAnsweredUnlike_1 : am_okJ 1 false cX0_isAnsweredUnlike (some (.boolean)) tb_X0_isAnsweredUnlike 1 = true := by decide +kernel
set_option maxRecDepth 1000000 in
theorem ck_X0_isAnsweredUnlike_2 : am_okJ 1 false cX0_isAnsweredUnlike (some (.boolean)) tb_X0_isAnsweredUnlike 2 = true := by decide +kernel
set_option maxRecDepth 1000000 in
theorem ck_X0_isAnsweredUnlike_3 : am_okJ 1 false cX0_isAnsweredUnlike (some (.boolean)) tb_X0_isAnsweredUnlike 3 = true := by decide +kernel
set_option maxRecDepth 1000000 in
theorem ck_X0_isAnsweredUnlike : am_okT 1 false cX0_isAnsweredUnlike (some (.boolean)) tb_X0_isAnsweredUnlike = true := am_okJ_s rfl (am_j1 (am_j1 (am_j1 (am_j1 (am_j0) ck_X0_isAnsweredUnlike_0) ck_X0_isAnsweredUnlike_1) ck_X0_isAnsweredUnlike_2) ck_X0_isAnsweredUnlike_3)
set_option maxRecDepth 1000000 in
theorem ck_X1_init_0 : am_okJ 2 true cX1_init (none) tb_X1_init 0 = true := by decide +kernel
set_option maxRecDepth 1000000 in
theorem ck_X1_init_1 : am_okJ 2 true cX1_init (none) tb_X1_init 1 = true := by decide +kernel
set_option maxRecDepth 1000000 in
theorem ck_X1_init_2 : am_okJ 2 true cX1_init (none) tb_X1_init 2 = true := by decide +kernel
set_option maxRecDepth 1000000 in
theorem ck_X1_init : am_okT 2 true cX1_init (none) tb_X1_init = true := am_okJ_s rfl (am_j1 (am_j1 (am_j1 (am_j0) ck_X1_init_0) ck_X1_init_1) ck_X1_init_2)
set_option maxRecDepth 1000000 in
theorem ck_X1_addPlace_0 : am_okJ 2 false cX1_addPlace (some (.int)) tb_X1_addPlace 0 = true := by decide +kernel
set_option maxRecDepth 1000000 in
theorem ck_X1_addPlace_1 : am_okJ 2 false cX1_addPlace (some (.int)) tb_X1_addPlace 1 = true := by decide +kernel
set_option maxRecDepth 1000000 in
theorem ck_X1_addPlace_2 : am_okJ 2 false cX1_addPlace (some (.int)) tb_X1_addPlace 2 = true := by decide +kernel
set_option maxRecDepth 1000000 in
theorem ck_X1_addPlace_3 : am_okJ 2 false cX1_addPlace (some (.int)) tb_X1_addPlace 3 = true := by decide +kernel
set_option maxRecDepth 1000000 in
theorem ck_X1_addPlace : am_okT 2 false cX1_addPlace (some (.int)) tb_X1_addPlace = true := am_okJ_s rfl (am_j1 (am_j1 (am_j1 (am_j1 (am_j0) ck_X1_addPlace_0) ck_X1_addPlace_1) ck_X1_addPlace_2) ck_X1_addPlace_3)
set_option maxRecDepth 1000000 in
theorem ck_X1_addServant_0 : am_okJ 2 false cX1_addServant (some (.int)) tb_X1_addServant 0 = true := by decide +kernel
set_option maxRecDepth 1000000 in
theorem ck_X1_addServant_1 : am_okJ 2 false cX1_addServant (some (.int)) tb_X1_addServant 1 = true := by decide +kernel
set_option maxRecDepth 1000000 in
theorem ck_X1_addServant_2 : am_okJ 2 false cX1_addServant (some (.int)) tb_X1_addServant 2 = true := by decide +kernel
set_option maxRecDepth 1000000 in
theorem ck_X1_addServant_3 : am_okJ 2 false cX1_addServant (some (.int)) tb_X1_addServant 3 = true := by decide +kernel
set_option maxRecDepth 1000000 in
theorem ck_X1_addServant_4 : am_okJ 2 false cX1_addServant (some (.int)) tb_X1_addServant 4 = true := by decide +kernel
set_option maxRecDepth 1000000 in
theorem ck_X1_addServant_5 : am_okJ 2 false cX1_addServant (some (.int)) tb_X1_addServant 5 = true := by decide +kernel
set_option maxRecDepth 1000000 in
theorem ck_X1_addServant_6 : am_okJ 2 false cX1_addServant (some (.int)) tb_X1_addServant 6 = true := by decide +kernel
set_option maxRecDepth 1000000 in
theorem ck_X1_addServant_7 : am_okJ 2 false cX1_addServant (some (.int)) tb_X1_addServant 7 = true := by decide +kernel
set_option maxRecDepth 1000000 in
theorem ck_X1_addServant : am_okT 2 false cX1_addServant (some (.int)) tb_X1_addServant = true := am_okJ_s rfl (am_j1 (am_j1 (am_j1 (am_j1 (am_j1 (am_j1 (am_j1 (am_j1 (am_j0) ck_X1_addServant_0) ck_X1_addServant_1) ck_X1_addServant_2) ck_X1_addServant_3) ck_X1_addServant_4) ck_X1_addServant_5) ck_X1_addServant_6) ck_X1_addServant_7)
set_option maxRecDepth 1000000 in
theorem ck_X1_fill_0 : am_okJ 2 false cX1_fill (none) tb_X1_fill 0 = true := by decide +kernel
set_option maxRecDepth 1000000 in
theorem ck_X1_fill_1 : am_okJ 2 false cX1_fill (none) tb_X1_fill 1 = true := by decide +kernel
set_option maxRecDepth 1000000 in
theorem ck_X1_fill_2 : am_okJ 2 false cX1_fill (none) tb_X1_fill 2 = true := by decide +kernel
set_option maxRecDepth 1000000 in
theorem ck_X1_fill_3 : am_okJ 2 false cX1_fill (none) tb_X1_fill 3 = true := by decide +kernel
set_option maxRecDepth 1000000 in
theorem ck_X1_fill_4 : am_okJ 2 false cX1_fill (none) tb_X1_fill 4 = true := by decide +kernel
set_option maxRecDepth 1000000 in
theorem ck_X1_fill_5 : am_okJ 2 false cX1_fill (none) tb_X1_fill 5 = true := by decide +kernel
set_option maxRecDepth 1000000 in
theorem ck_X1_fill_6 : am_okJ 2 false cX1_fill (none) tb_X1_fill 6 = true := by decide +kernel
set_option maxRecDepth 1000000 in
theorem ck_X1_fill_7 : am_okJ 2 false cX1_fill (none) tb_X1_fill 7 = true := by decide +kernel
set_option maxRecDepth 1000000 in
theorem ck_X1_fill : am_okT 2 false cX1_fill (none) tb_X1_fill = true := am_okJ_s rfl (am_j1 (am_j1 (am_j1 (am_j1 (am_j1 (am_j1 (am_j1 (am_j1 (am_j0) ck_X1_fill_0) ck_X1_fill_1) ck_X1_fill_2) ck_X1_fill_3) ck_X1_fill_4) ck_X1_fill_5) ck_X1_fill_6) ck_X1_fill_7)
set_option maxRecDepth 1000000 in
theorem ck_X1_bestFrom_0 : am_okJ 2 false cX1_bestFrom (some (.int)) tb_X1_bestFrom 0 = true := by decide +kernel
set_option maxRecDepth 1000000 in
theorem ck_X1_bestFrom_1 : am_okJ 2 false cX1_bestFrom (some (.int)) tb_X1_bestFrom 1 = true := by decide +kernel
set_option maxRecDepth 1000000 in
theorem ck_X1_bestFrom_2 : am_okJ 2 false cX1_bestFrom (some (.int)) tb_X1_bestFrom 2 = true := by decide +kernel
set_option maxRecDepth 1000000 in
theorem ck_X1_bestFrom : am_okT 2 false cX1_bestFrom (some (.int)) tb_X1_bestFrom = true := am_okJ_s rfl (am_j1 (am_j1 (am_j1 (am_j0) ck_X1_bestFrom_0) ck_X1_bestFrom_1) ck_X1_bestFrom_2)
set_option maxRecDepth 1000000 in
theorem ck_X1_worthOf_0 : am_okJ 2 false cX1_worthOf (some (.int)) tb_X1_worthOf 0 = true := by decide +kernel
set_option maxRecDepth 1000000 in
theorem ck_X1_worthOf_1 : am_okJ 2 false cX1_worthOf (some (.int)) tb_X1_worthOf 1 = true := by decide +kernel
set_option maxRecDepth 1000000 in
theorem ck_X1_worthOf_2 : am_okJ 2 false cX1_worthOf (some (.int)) tb_X1_worthOf 2 = true := by decide +kernel
set_option maxRecDepth 1000000 in
theorem ck_X1_worthOf_3 : am_okJ 2 false cX1_worthOf (some (.int)) tb_X1_worthOf 3 = true := by decide +kernel
set_option maxRecDepth 1000000 in
theorem ck_X1_worthOf : am_okT 2 false cX1_worthOf (some (.int)) tb_X1_worthOf = true := am_okJ_s rfl (am_j1 (am_j1 (am_j1 (am_j1 (am_j0) ck_X1_worthOf_0) ck_X1_worthOf_1) ck_X1_worthOf_2) ck_X1_worthOf_3)
set_option maxRecDepth 1000000 in
theorem ck_X1_takeLeastRow_0 : am_okJ 2 false cX1_takeLeastRow (none) tb_X1_takeLeastRow 0 = true := by decide +kernel
set_option maxRecDepth 1000000 in
theorem ck_X1_takeLeastRow_1 : am_okJ 2 false cX1_takeLeastRow (none) tb_X1_takeLeastRow 1 = true := by decide +kernel
set_option maxRecDepth 1000000 in
theorem ck_X1_takeLeastRow_2 : am_okJ 2 false cX1_takeLeastRow (none) tb_X1_takeLeastRow 2 = true := by decide +kernel
set_option maxRecDepth 1000000 in
theorem ck_X1_takeLeastRow_3 : am_okJ 2 false cX1_takeLeastRow (none) tb_X1_takeLeastRow 3 = true := by decide +kernel
set_option maxRecDepth 1000000 in
theorem ck_X1_takeLeastRow_4 : am_okJ 2 false cX1_takeLeastRow (none) tb_X1_takeLeastRow 4 = true := by decide +kernel
set_option maxRecDepth 1000000 in
theorem ck_X1_takeLeastRow_5 : am_okJ 2 false cX1_takeLeastRow (none) tb_X1_takeLeastRow 5 = true := by decide +kernel
set_option maxRecDepth 1000000 in
theorem ck_X1_takeLeastRow_6 : am_okJ 2 false cX1_takeLeastRow (none) tb_X1_takeLeastRow 6 = true := by decide +kernel
set_option maxRecDepth 1000000 in
theorem ck_X1_takeLeastRow : am_okT 2 false cX1_takeLeastRow (none) tb_X1_takeLeastRow = true := am_okJ_s rfl (am_j1 (am_j1 (am_j1 (am_j1 (am_j1 (am_j1 (am_j1 (am_j0) ck_X1_takeLeastRow_0) ck_X1_takeLeastRow_1) ck_X1_takeLeastRow_2) ck_X1_takeLeastRow_3) ck_X1_takeLeastRow_4) ck_X1_takeLeastRow_5) ck_X1_takeLeastRow_6)
set_option maxRecDepth 1000000 in
theorem ck_X2_init_0 : am_okJ 3 true cX2_init (none) tb_X2_init 0 = true := by decide +kernel
set_option maxRecDepth 1000000 in
theorem ck_X2_init_1 : am_okJ 3 true cX2_init (none) tb_X2_init 1 = true := by decide +kernel
set_option maxRecDepth 1000000 in
theorem ck_X2_init_2 : am_okJ 3 true cX2_init (none) tb_X2_init 2 = true := by decide +kernel
set_option maxRecDepth 1000000 in
theorem ck_X2_init : am_okT 3 true cX2_init (none) tb_X2_init = true := am_okJ_s rfl (am_j1 (am_j1 (am_j1 (am_j0) ck_X2_init_0) ck_X2_init_1) ck_X2_init_2)
set_option maxRecDepth 1000000 in
theorem ck_X2_forgetPairs_0 : am_okJ 3 false cX2_forgetPairs (none) tb_X2_forgetPairs 0 = true := by decide +kernel
set_option maxRecDepth 1000000 in
theorem ck_X2_forgetPairs_1 : am_okJ 3 false cX2_forgetPairs (none) tb_X2_forgetPairs 1 = true := by decide +kernel
set_option maxRecDepth 1000000 in
theorem ck_X2_forgetPairs : am_okT 3 false cX2_forgetPairs (none) tb_X2_forgetPairs = true := am_okJ_s rfl (am_j1 (am_j1 (am_j0) ck_X2_forgetPairs_0) ck_X2_forgetPairs_1)
set_option maxRecDepth 1000000 in
theorem ck_X2_fillPlace_0 : am_okJ 3 false cX2_fillPlace (none) tb_X2_fillPlace 0 = true := by decide +kernel
set_option maxRecDepth 1000000 in
theorem ck_X2_fillPlace : am_okT 3 false cX2_fillPlace (none) tb_X2_fillPlace = true := am_okJ_s rfl (am_j1 (am_j0) ck_X2_fillPlace_0)
set_option maxRecDepth 1000000 in
theorem ck_X2_allow_0 : am_okJ 3 false cX2_allow (none) tb_X2_allow 0 = true := by decide +kernel
set_option maxRecDepth 1000000 in
theorem ck_X2_allow_1 : am_okJ 3 false cX2_allow (none) tb_X2_allow 1 = true := by decide +kernel
set_option maxRecDepth 1000000 in
theorem ck_X2_allow_2 : am_okJ 3 false cX2_allow (none) tb_X2_allow 2 = true := by decide +kernel
set_option maxRecDepth 1000000 in
theorem ck_X2_allow_3 : am_okJ 3 false cX2_allow (none) tb_X2_allow 3 = true := by decide +kernel
set_option maxRecDepth 1000000 in
theorem ck_X2_allow_4 : am_okJ 3 false cX2_allow (none) tb_X2_allow 4 = true := by decide +kernel
set_option maxRecDepth 1000000 in
theorem ck_X2_allow_5 : am_okJ 3 false cX2_allow (none) tb_X2_allow 5 = true := by decide +kernel
set_option maxRecDepth 1000000 in
theorem ck_X2_allow : am_okT 3 false cX2_allow (none) tb_X2_allow = true := am_okJ_s rfl (am_j1 (am_j1 (am_j1 (am_j1 (am_j1 (am_j1 (am_j0) ck_X2_allow_0) ck_X2_allow_1) ck_X2_allow_2) ck_X2_allow_3) ck_X2_allow_4) ck_X2_allow_5)
set_option maxRecDepth 1000000 in
theorem ck_X2_pairOf_0 : am_okJ 3 false cX2_pairOf (some (.int)) tb_X2_pairOf 0 = true := by decide +kernel
set_option maxRecDepth 1000000 in
theorem ck_X2_pairOf : am_okT 3 false cX2_pairOf (some (.int)) tb_X2_pairOf = true := am_okJ_s rfl (am_j1 (am_j0) ck_X2_pairOf_0)
set_option maxRecDepth 1000000 in
theorem ck_X2_forgetPairing_0 : am_okJ 3 false cX2_forgetPairing (none) tb_X2_forgetPairing 0 = true := by decide +kernel
set_option maxRecDepth 1000000 in
theorem ck_X2_forgetPairing : am_okT 3 false cX2_forgetPairing (none) tb_X2_forgetPairing = true := am_okJ_s rfl (am_j1 (am_j0) ck_X2_forgetPairing_0)
set_option maxRecDepth 1000000 in
theorem ck_X2_pair_0 : am_okJ 3 false cX2_pair (none) tb_X2_pair 0 = true := by decide +kernel
set_option maxRecDepth 1000000 in
theorem ck_X2_pair_1 : am_okJ 3 false cX2_pair (none) tb_X2_pair 1 = true := by decide +kernel
set_option maxRecDepth 1000000 in
theorem ck_X2_pair_2 : am_okJ 3 false cX2_pair (none) tb_X2_pair 2 = true := by decide +kernel
set_option maxRecDepth 1000000 in
theorem ck_X2_pair_3 : am_okJ 3 false cX2_pair (none) tb_X2_pair 3 = true := by decide +kernel
set_option maxRecDepth 1000000 in
theorem ck_X2_pair_4 : am_okJ 3 false cX2_pair (none) tb_X2_pair 4 = true := by decide +kernel
set_option maxRecDepth 1000000 in
theorem ck_X2_pair_5 : am_okJ 3 false cX2_pair (none) tb_X2_pair 5 = true := by decide +kernel
set_option maxRecDepth 1000000 in
theorem ck_X2_pair : am_okT 3 false cX2_pair (none) tb_X2_pair = true := am_okJ_s rfl (am_j1 (am_j1 (am_j1 (am_j1 (am_j1 (am_j1 (am_j0) ck_X2_pair_0) ck_X2_pair_1) ck_X2_pair_2) ck_X2_pair_3) ck_X2_pair_4) ck_X2_pair_5)
set_option maxRecDepth 1000000 in
theorem ck_X2_offer_0 : am_okJ 3 false cX2_offer (none) tb_X2_offer 0 = true := by decide +kernel
set_option maxRecDepth 1000000 in
theorem ck_X2_offer_1 : am_okJ 3 false cX2_offer (none) tb_X2_offer 1 = true := by decide +kernel
set_option maxRecDepth 1000000 in
theorem ck_X2_offer_2 : am_okJ 3 false cX2_offer (none) tb_X2_offer 2 = true := by decide +kernel
set_option maxRecDepth 1000000 in
theorem ck_X2_offer : am_okT 3 false cX2_offer (none) tb_X2_offer = true := am_okJ_s rfl (am_j1 (am_j1 (am_j1 (am_j0) ck_X2_offer_0) ck_X2_offer_1) ck_X2_offer_2)
set_option maxRecDepth 1000000 in
theorem ck_X2_placeLikesBetter_0 : am_okJ 3 false cX2_placeLikesBetter (some (.boolean)) tb_X2_placeLikesBetter 0 = true := by decide +kernel
set_option maxRecDepth 1000000 in
theorem ck_X2_placeLikesBetter_1 : am_okJ 3 false cX2_placeLikesBetter (some (.boolean)) tb_X2_placeLikesBetter 1 = true := by decide +kernel
set_option maxRecDepth 1000000 in
theorem ck_X2_placeLikesBetter_2 : am_okJ 3 false cX2_placeLikesBetter (some (.boolean)) tb_X2_placeLikesBetter 2 = true := by decide +kernel
set_option maxRecDepth 1000000 in
theorem ck_X2_placeLikesBetter : am_okT 3 false cX2_placeLikesBetter (some (.boolean)) tb_X2_placeLikesBetter = true := am_okJ_s rfl (am_j1 (am_j1 (am_j1 (am_j0) ck_X2_placeLikesBetter_0) ck_X2_placeLikesBetter_1) ck_X2_placeLikesBetter_2)
set_option maxRecDepth 1000000 in
theorem ck_X2_servantLikesBetter_0 : am_okJ 3 false cX2_servantLikesBetter (some (.boolean)) tb_X2_servantLikesBetter 0 = true := by decide +kernel
set_option maxRecDepth 1000000 in
theorem ck_X2_servantLikesBetter_1 : am_okJ 3 false cX2_servantLikesBetter (some (.boolean)) tb_X2_servantLikesBetter 1 = true := by decide +kernel
set_option maxRecDepth 1000000 in
theorem ck_X2_servantLikesBetter_2 : am_okJ 3 false cX2_servantLikesBetter (some (.boolean)) tb_X2_servantLikesBetter 2 = true := by decide +kernel
set_option maxRecDepth 1000000 in
theorem ck_X2_servantLikesBetter : am_okT 3 false cX2_servantLikesBetter (some (.boolean)) tb_X2_servantLikesBetter = true := am_okJ_s rfl (am_j1 (am_j1 (am_j1 (am_j0) ck_X2_servantLikesBetter_0) ck_X2_servantLikesBetter_1) ck_X2_servantLikesBetter_2)
set_option maxRecDepth 1000000 in
theorem ck_X2_firstWronglyTold_0 : am_okJ 3 false cX2_firstWronglyTold (some (.int)) tb_X2_firstWronglyTold 0 = true := by decide +kernel
set_option maxRecDepth 1000000 in
theorem ck_X2_firstWronglyTold_1 : am_okJ 3 false cX2_firstWronglyTold (some (.int)) tb_X2_firstWronglyTold 1 = true := by decide +kernel
set_option maxRecDepth 1000000 in
theorem ck_X2_firstWronglyTold_2 : am_okJ 3 false cX2_firstWronglyTold (some (.int)) tb_X2_firstWronglyTold 2 = true := by decide +kernel
set_option maxRecDepth 1000000 in
theorem ck_X2_firstWronglyTold_3 : am_okJ 3 false cX2_firstWronglyTold (some (.int)) tb_X2_firstWronglyTold 3 = true := by decide +kernel
set_option maxRecDepth 1000000 in
theorem ck_X2_firstWronglyTold : am_okT 3 false cX2_firstWronglyTold (some (.int)) tb_X2_firstWronglyTold = true := am_okJ_s rfl (am_j1 (am_j1 (am_j1 (am_j1 (am_j0) ck_X2_firstWronglyTold_0) ck_X2_firstWronglyTold_1) ck_X2_firstWronglyTold_2) ck_X2_firstWronglyTold_3)
set_option maxRecDepth 1000000 in
theorem ck_X2_firstLeaving_0 : am_okJ 3 false cX2_firstLeaving (some (.int)) tb_X2_firstLeaving 0 = true := by decide +kernel
set_option maxRecDepth 1000000 in
theorem ck_X2_firstLeaving_1 : am_okJ 3 false cX2_firstLeaving (some (.int)) tb_X2_firstLeaving 1 = true := by decide +kernel
set_option maxRecDepth 1000000 in
theorem ck_X2_firstLeaving_2 : am_okJ 3 false cX2_firstLeaving (some (.int)) tb_X2_firstLeaving 2 = true := by decide +kernel
set_option maxRecDepth 1000000 in
theorem ck_X2_firstLeaving_3 : am_okJ 3 false cX2_firstLeaving (some (.int)) tb_X2_firstLeaving 3 = true := by decide +kernel
set_option maxRecDepth 1000000 in
theorem ck_X2_firstLeaving : am_okT 3 false cX2_firstLeaving (some (.int)) tb_X2_firstLeaving = true := am_okJ_s rfl (am_j1 (am_j1 (am_j1 (am_j1 (am_j0) ck_X2_firstLeaving_0) ck_X2_firstLeaving_1) ck_X2_firstLeaving_2) ck_X2_firstLeaving_3)
set_option maxRecDepth 1000000 in
theorem ck_X3_init_0 : am_okJ 4 true cX3_init (none) tb_X3_init 0 = true := by decide +kernel
set_option maxRecDepth 1000000 in
theorem ck_X3_init : am_okT 4 true cX3_init (none) tb_X3_init = true := am_okJ_s rfl (am_j1 (am_j0) ck_X3_init_0)
set_option maxRecDepth 1000000 in
theorem ck_X3_whereIn_0 : am_okJ 4 false cX3_whereIn (some (.object "ServantRegistry$Placing")) tb_X3_whereIn 0 = true := by decide +kernel
set_option maxRecDepth 1000000 in
theorem ck_X3_whereIn_1 : am_okJ 4 false cX3_whereIn (some (.object "ServantRegistry$Placing")) tb_X3_whereIn 1 = true := by decide +kernel
set_option maxRecDepth 1000000 in
theorem ck_X3_whereIn_2 : am_okJ 4 false cX3_whereIn (some (.object "ServantRegistry$Placing")) tb_X3_whereIn 2 = true := by decide +kernel
set_option maxRecDepth 1000000 in
theorem ck_X3_whereIn_3 : am_okJ 4 false cX3_whereIn (some (.object "ServantRegistry$Placing")) tb_X3_whereIn 3 = true := by decide +kernel
set_option maxRecDepth 1000000 in
theorem ck_X3_whereIn : am_okT 4 false cX3_whereIn (some (.object "ServantRegistry$Placing")) tb_X3_whereIn = true := am_okJ_s rfl (am_j1 (am_j1 (am_j1 (am_j1 (am_j0) ck_X3_whereIn_0) ck_X3_whereIn_1) ck_X3_whereIn_2) ck_X3_whereIn_3)
set_option maxRecDepth 1000000 in
theorem ck_X3_nextChange_0 : am_okJ 4 false cX3_nextChange (some (.int)) tb_X3_nextChange 0 = true := by decide +kernel
set_option maxRecDepth 1000000 in
theorem ck_X3_nextChange_1 : am_okJ 4 false cX3_nextChange (some (.int)) tb_X3_nextChange 1 = true := by decide +kernel
set_option maxRecDepth 1000000 in
theorem ck_X3_nextChange_2 : am_okJ 4 false cX3_nextChange (some (.int)) tb_X3_nextChange 2 = true := by decide +kernel
set_option maxRecDepth 1000000 in
theorem ck_X3_nextChange_3 : am_okJ 4 false cX3_nextChange (some (.int)) tb_X3_nextChange 3 = true := by decide +kernel
set_option maxRecDepth 1000000 in
theorem ck_X3_nextChange_4 : am_okJ 4 false cX3_nextChange (some (.int)) tb_X3_nextChange 4 = true := by decide +kernel
set_option maxRecDepth 1000000 in
theorem ck_X3_nextChange : am_okT 4 false cX3_nextChange (some (.int)) tb_X3_nextChange = true := am_okJ_s rfl (am_j1 (am_j1 (am_j1 (am_j1 (am_j1 (am_j0) ck_X3_nextChange_0) ck_X3_nextChange_1) ck_X3_nextChange_2) ck_X3_nextChange_3) ck_X3_nextChange_4)
set_option maxRecDepth 1000000 in
theorem ck_X3_firstBeside_0 : am_okJ 4 false cX3_firstBeside (some (.int)) tb_X3_firstBeside 0 = true := by decide +kernel
set_option maxRecDepth 1000000 in
theorem ck_X3_firstBeside_1 : am_okJ 4 false cX3_firstBeside (some (.int)) tb_X3_firstBeside 1 = true := by decide +kernel
set_option maxRecDepth 1000000 in
theorem ck_X3_firstBeside_2 : am_okJ 4 false cX3_firstBeside (some (.int)) tb_X3_firstBeside 2 = true := by decide +kernel
set_option maxRecDepth 1000000 in
theorem ck_X3_firstBeside_3 : am_okJ 4 false cX3_firstBeside (some (.int)) tb_X3_firstBeside 3 = true := by decide +kernel
set_option maxRecDepth 1000000 in
theorem ck_X3_firstBeside : am_okT 4 false cX3_firstBeside (some (.int)) tb_X3_firstBeside = true := am_okJ_s rfl (am_j1 (am_j1 (am_j1 (am_j1 (am_j0) ck_X3_firstBeside_0) ck_X3_firstBeside_1) ck_X3_firstBeside_2) ck_X3_firstBeside_3)
set_option maxRecDepth 1000000 in
theorem ck_X3_tallyServed_0 : am_okJ 4 false cX3_tallyServed (none) tb_X3_tallyServed 0 = true := by decide +kernel
set_option maxRecDepth 1000000 in
theorem ck_X3_tallyServed_1 : am_okJ 4 false cX3_tallyServed (none) tb_X3_tallyServed 1 = true := by decide +kernel
set_option maxRecDepth 1000000 in
theorem ck_X3_tallyServed_2 : am_okJ 4 false cX3_tallyServed (none) tb_X3_tallyServed 2 = true := by decide +kernel
set_option maxRecDepth 1000000 in
theorem ck_X3_tallyServed_3 : am_okJ 4 false cX3_tallyServed (none) tb_X3_tallyServed 3 = true := by decide +kernel
set_option maxRecDepth 1000000 in
theorem ck_X3_tallyServed : am_okT 4 false cX3_tallyServed (none) tb_X3_tallyServed = true := am_okJ_s rfl (am_j1 (am_j1 (am_j1 (am_j1 (am_j0) ck_X3_tallyServed_0) ck_X3_tallyServed_1) ck_X3_tallyServed_2) ck_X3_tallyServed_3)
