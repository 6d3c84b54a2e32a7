/-! each method's code among the words -/
theorem am_fc {α : Type} {P : α → Prop} {a : α} {l : List α} (h : P a) (k : ∀ q ∈ l, P q) : ∀ q ∈ a :: l, P q := fun q hq => (List.mem_cons.mp hq).elim (fun e => e ▸ h) (k q)
theorem am_fn {α : Type} {P : α → Prop} : ∀ q ∈ ([] : List α), P q := fun q hq => absurd hq List.not_mem_nil
set_option maxRecDepth 1000000 in
theorem cw_X0_init : Cond.code yX0_init cX0_init 5 (none) ∈ am_T := am_T_of (i := 1234) rfl rfl
set_option maxRecDepth 1000000 in
theorem cw_X0_isAnsweredUnlike : Cond.code yX0_isAnsweredUnlike cX0_isAnsweredUnlike 2 (some (.boolean)) ∈ am_T := am_T_of (i := 1258) rfl rfl
set_option maxRecDepth 1000000 in
theorem cw_X1_init : Cond.code yX1_init cX1_init 1 (none) ∈ am_T := am_T_of (i := 296) rfl rfl
set_option maxRecDepth 1000000 in
theorem cw_X1_addPlace : Cond.code yX1_addPlace cX1_addPlace 4 (some (.int)) ∈ am_T := am_T_of (i := 1194) rfl rfl
set_option maxRecDepth 1000000 in
theorem cw_X1_addServant : Cond.code yX1_addServant cX1_addServant 5 (some (.int)) ∈ am_T := am_T_of (i := 1202) rfl rfl
set_option maxRecDepth 1000000 in
theorem cw_X1_fill : Cond.code yX1_fill cX1_fill 6 (none) ∈ am_T := am_T_of (i := 1210) rfl rfl
set_option maxRecDepth 1000000 in
theorem cw_X1_bestFrom : Cond.code yX1_bestFrom cX1_bestFrom 5 (some (.int)) ∈ am_T := am_T_of (i := 1217) rfl rfl
set_option maxRecDepth 1000000 in
theorem cw_X1_worthOf : Cond.code yX1_worthOf cX1_worthOf 5 (some (.int)) ∈ am_T := am_T_of (i := 1221) rfl rfl
set_option maxRecDepth 1000000 in
theorem cw_X1_takeLeastRow : Cond.code yX1_takeLeastRow cX1_takeLeastRow 4 (none) ∈ am_T := am_T_of (i := 1225) rfl rfl
set_option maxRecDepth 1000000 in
theorem cw_X2_init : Cond.code yX2_init cX2_init 1 (none) ∈ am_T := am_T_of (i := 264) rfl rfl
set_option maxRecDepth 1000000 in
theorem cw_X2_forgetPairs : Cond.code yX2_forgetPairs cX2_forgetPairs 1 (none) ∈ am_T := am_T_of (i := 1108) rfl rfl
set_option maxRecDepth 1000000 in
theorem cw_X2_fillPlace : Cond.code yX2_fillPlace cX2_fillPlace 2 (none) ∈ am_T := am_T_of (i := 1113) rfl rfl
set_option maxRecDepth 1000000 in
theorem cw_X2_allow : Cond.code yX2_allow cX2_allow 7 (none) ∈ am_T := am_T_of (i := 1117) rfl rfl
set_option maxRecDepth 1000000 in
theorem cw_X2_pairOf : Cond.code yX2_pairOf cX2_pairOf 2 (some (.int)) ∈ am_T := am_T_of (i := 1124) rfl rfl
set_option maxRecDepth 1000000 in
theorem cw_X2_forgetPairing : Cond.code yX2_forgetPairing cX2_forgetPairing 1 (none) ∈ am_T := am_T_of (i := 1132) rfl rfl
set_option maxRecDepth 1000000 in
theorem cw_X2_pair : Cond.code yX2_pair cX2_pair 4 (none) ∈ am_T := am_T_of (i := 1128) rfl rfl
set_option maxRecDepth 1000000 in
theorem cw_X2_offer : Cond.code yX2_offer cX2_offer 3 (none) ∈ am_T := am_T_of (i := 1136) rfl rfl
set_option maxRecDepth 1000000 in
theorem cw_X2_placeLikesBetter : Cond.code yX2_placeLikesBetter cX2_placeLikesBetter 4 (some (.boolean)) ∈ am_T := am_T_of (i := 1140) rfl rfl
set_option maxRecDepth 1000000 in
theorem cw_X2_servantLikesBetter : Cond.code yX2_servantLikesBetter cX2_servantLikesBetter 4 (some (.boolean)) ∈ am_T := am_T_of (i := 1160) rfl rfl
set_option maxRecDepth 1000000 in
theorem cw_X2_firstWronglyTold : Cond.code yX2_firstWronglyTold cX2_firstWronglyTold 4 (some (.int)) ∈ am_T := am_T_of (i := 1152) rfl rfl
set_option maxRecDepth 1000000 in
theorem cw_X2_firstLeaving : Cond.code yX2_firstLeaving cX2_firstLeaving 3 (some (.int)) ∈ am_T := am_T_of (i := 1156) rfl rfl
set_option maxRecDepth 1000000 in
theorem cw_X3_init : Cond.code yX3_init cX3_init 1 (none) ∈ am_T := am_T_of (i := 247) rfl rfl
set_option maxRecDepth 1000000 in
theorem cw_X3_whereIn : Cond.code yX3_whereIn cX3_whereIn 7 (some (.object "ServantRegistry$Placing")) ∈ am_T := am_T_of (i := 677) rfl rfl
set_option maxRecDepth 1000000 in
theorem cw_X3_nextChange : Cond.code yX3_nextChange cX3_nextChange 8 (some (.int)) ∈ am_T := am_T_of (i := 1073) rfl rfl
set_option maxRecDepth 1000000 in
theorem cw_X3_firstBeside : Cond.code yX3_firstBeside cX3_firstBeside 5 (some (.int)) ∈ am_T := am_T_of (i := 704) rfl rfl
set_option maxRecDepth 1000000 in
theorem cw_X3_tallyServed : Cond.code yX3_tallyServed cX3_tallyServed 6 (none) ∈ am_T := am_T_of (i := 1168) rfl rfl
set_option maxRecDepth 1000000 in
theorem cw_X3_falsehood : Cond.code yX3_falsehood cX3_falsehood 7 (some (.int)) ∈ am_T := am_T_of (i := 1069) rfl rfl
set_option maxRecDepth 1000000 in
theorem cw_X3_provenBy : Cond.code yX3_provenBy cX3_provenBy 8 (some (.object "ServantRegistry$Placing")) ∈ am_T := am_T_of (i := 1084) rfl rfl
set_option maxRecDepth 1000000 in
theorem cw_X3_knownOf : Cond.code yX3_knownOf cX3_knownOf 6 (some (.int)) ∈ am_T := am_T_of (i := 1274) rfl rfl
set_option maxRecDepth 1000000 in
theorem cw_X3_hundredthsLeft : Cond.code yX3_hundredthsLeft cX3_hundredthsLeft 7 (some (.int)) ∈ am_T := am_T_of (i := 1278) rfl rfl
set_option maxRecDepth 1000000 in
theorem cw_X3_leftCount : Cond.code yX3_leftCount cX3_leftCount 3 (some (.int)) ∈ am_T := am_T_of (i := 1291) rfl rfl
set_option maxRecDepth 1000000 in
theorem cw_X3_undoneCount : Cond.code yX3_undoneCount cX3_undoneCount 3 (some (.int)) ∈ am_T := am_T_of (i := 1295) rfl rfl
set_option maxRecDepth 1000000 in
theorem cw_X4_init : Cond.code yX4_init cX4_init 6 (none) ∈ am_T := am_T_of (i := 526) rfl rfl
set_option maxRecDepth 1000000 in
theorem cw_X5_init : Cond.code yX5_init cX5_init 5 (none) ∈ am_T := am_T_of (i := 604) rfl rfl
set_option maxRecDepth 1000000 in
theorem cw_X5_isKnownBy : Cond.code yX5_isKnownBy cX5_isKnownBy 2 (some (.boolean)) ∈ am_T := am_T_of (i := 684) rfl rfl
set_option maxRecDepth 1000000 in
theorem cw_X5_isKnownLeftBy : Cond.code yX5_isKnownLeftBy cX5_isKnownLeftBy 2 (some (.boolean)) ∈ am_T := am_T_of (i := 692) rfl rfl
set_option maxRecDepth 1000000 in
theorem cw_X5_endAsKnown : Cond.code yX5_endAsKnown cX5_endAsKnown 2 (some (.int)) ∈ am_T := am_T_of (i := 688) rfl rfl
set_option maxRecDepth 1000000 in
theorem cw_X5_sharesDayWith : Cond.code yX5_sharesDayWith cX5_sharesDayWith 4 (some (.boolean)) ∈ am_T := am_T_of (i := 708) rfl rfl
set_option maxRecDepth 1000000 in
theorem cw_X5_isLeftSoonForFault : Cond.code yX5_isLeftSoonForFault cX5_isLeftSoonForFault 2 (some (.boolean)) ∈ am_T := am_T_of (i := 1283) rfl rfl
set_option maxRecDepth 1000000 in
theorem cw_X6_init : Cond.code yX6_init cX6_init 1 (none) ∈ am_T := am_T_of (i := 210) rfl rfl
set_option maxRecDepth 1000000 in
theorem cw_X6_append : Cond.code yX6_append cX6_append 3 (none) ∈ am_T := am_T_of (i := 776) rfl rfl
set_option maxRecDepth 1000000 in
theorem cw_X6_readInto : Cond.code yX6_readInto cX6_readInto 4 (some (.boolean)) ∈ am_T := am_T_of (i := 784) rfl rfl
set_option maxRecDepth 1000000 in
theorem cw_X6_readStatement : Cond.code yX6_readStatement cX6_readStatement 4 (none) ∈ am_T := am_T_of (i := 798) rfl rfl
set_option maxRecDepth 1000000 in
theorem cw_X6_readAny : Cond.code yX6_readAny cX6_readAny 5 (none) ∈ am_T := am_T_of (i := 907) rfl rfl
set_option maxRecDepth 1000000 in
theorem cw_X6_readOne : Cond.code yX6_readOne cX6_readOne 7 (none) ∈ am_T := am_T_of (i := 911) rfl rfl
set_option maxRecDepth 1000000 in
theorem cw_X6_emit : Cond.code yX6_emit cX6_emit 2 (none) ∈ am_T := am_T_of (i := 920) rfl rfl
set_option maxRecDepth 1000000 in
theorem cw_X6_refuse : Cond.code yX6_refuse cX6_refuse 1 (none) ∈ am_T := am_T_of (i := 859) rfl rfl
set_option maxRecDepth 1000000 in
theorem cw_X6_takeWord : Cond.code yX6_takeWord cX6_takeWord 3 (some (.int)) ∈ am_T := am_T_of (i := 805) rfl rfl
set_option maxRecDepth 1000000 in
theorem cw_X6_takeNumber : Cond.code yX6_takeNumber cX6_takeNumber 4 (some (.int)) ∈ am_T := am_T_of (i := 894) rfl rfl
set_option maxRecDepth 1000000 in
theorem cw_X6_takeComparison : Cond.code yX6_takeComparison cX6_takeComparison 2 (some (.int)) ∈ am_T := am_T_of (i := 929) rfl rfl
set_option maxRecDepth 1000000 in
theorem cw_X6_takeSign : Cond.code yX6_takeSign cX6_takeSign 2 (none) ∈ am_T := am_T_of (i := 924) rfl rfl
set_option maxRecDepth 1000000 in
theorem cw_X6_isSign : Cond.code yX6_isSign cX6_isSign 2 (some (.boolean)) ∈ am_T := am_T_of (i := 916) rfl rfl
set_option maxRecDepth 1000000 in
theorem cw_X6_isWord : Cond.code yX6_isWord cX6_isWord 2 (some (.boolean)) ∈ am_T := am_T_of (i := 903) rfl rfl
set_option maxRecDepth 1000000 in
theorem cw_X6_indexIn : Cond.code yX6_indexIn cX6_indexIn 7 (some (.int)) ∈ am_T := am_T_of (i := 809) rfl rfl
set_option maxRecDepth 1000000 in
theorem cw_X6_advance : Cond.code yX6_advance cX6_advance 2 (none) ∈ am_T := am_T_of (i := 790) rfl rfl
set_option maxRecDepth 1000000 in
theorem cw_X6_tokenAt : Cond.code yX6_tokenAt cX6_tokenAt 4 (some (.int)) ∈ am_T := am_T_of (i := 794) rfl rfl
set_option maxRecDepth 1000000 in
theorem cw_X7_init : Cond.code yX7_init cX7_init 3 (none) ∈ am_T := am_T_of (i := 155) rfl rfl
set_option maxRecDepth 1000000 in
theorem cw_X7_add : Cond.code yX7_add cX7_add 2 (none) ∈ am_T := am_T_of (i := 1001) rfl rfl
set_option maxRecDepth 1000000 in
theorem cw_X7_fee : Cond.code yX7_fee cX7_fee 6 (some (.int)) ∈ am_T := am_T_of (i := 727) rfl rfl
set_option maxRecDepth 1000000 in
theorem cw_X7_unfitness : Cond.code yX7_unfitness cX7_unfitness 5 (some (.int)) ∈ am_T := am_T_of (i := 1018) rfl rfl
set_option maxRecDepth 1000000 in
theorem cw_X7_wayTo : Cond.code yX7_wayTo cX7_wayTo 6 (some (.int)) ∈ am_T := am_T_of (i := 1173) rfl rfl
set_option maxRecDepth 1000000 in
theorem cw_X7_wayBy : Cond.code yX7_wayBy cX7_wayBy 4 (some (.int)) ∈ am_T := am_T_of (i := 1178) rfl rfl
set_option maxRecDepth 1000000 in
theorem cw_X7_firstHolding : Cond.code yX7_firstHolding cX7_firstHolding 8 (some (.object "ServantRegistry$Statement")) ∈ am_T := am_T_of (i := 731) rfl rfl
set_option maxRecDepth 1000000 in
theorem cw_X7_holds : Cond.code yX7_holds cX7_holds 6 (some (.boolean)) ∈ am_T := am_T_of (i := 749) rfl rfl
set_option maxRecDepth 1000000 in
theorem cw_X7_compares : Cond.code yX7_compares cX7_compares 5 (some (.boolean)) ∈ am_T := am_T_of (i := 754) rfl rfl
set_option maxRecDepth 1000000 in
theorem cw_X8_init : Cond.code yX8_init cX8_init 5 (none) ∈ am_T := am_T_of (i := 418) rfl rfl
set_option maxRecDepth 1000000 in
theorem cw_X8_ageOn : Cond.code yX8_ageOn cX8_ageOn 2 (some (.int)) ∈ am_T := am_T_of (i := 735) rfl rfl
set_option maxRecDepth 1000000 in
theorem cw_X9_init : Cond.code yX9_init cX9_init 2 (none) ∈ am_T := am_T_of (i := 862) rfl rfl
set_option maxRecDepth 1000000 in
theorem cw_X10_init : Cond.code yX10_init cX10_init 5 (none) ∈ am_T := am_T_of (i := 1028) rfl rfl
set_option maxRecDepth 1000000 in
theorem cw_X11_init : Cond.code yX11_init cX11_init 1 (none) ∈ am_T := am_T_of (i := 120) rfl rfl
set_option maxRecDepth 1000000 in
theorem cw_X11_day : Cond.code yX11_day cX11_day 2 (some (.boolean)) ∈ am_T := am_T_of (i := 402) rfl rfl
set_option maxRecDepth 1000000 in
theorem cw_X11_servant : Cond.code yX11_servant cX11_servant 6 (some (.int)) ∈ am_T := am_T_of (i := 406) rfl rfl
set_option maxRecDepth 1000000 in
theorem cw_X11_house : Cond.code yX11_house cX11_house 2 (some (.int)) ∈ am_T := am_T_of (i := 509) rfl rfl
set_option maxRecDepth 1000000 in
theorem cw_X11_lag : Cond.code yX11_lag cX11_lag 3 (some (.boolean)) ∈ am_T := am_T_of (i := 513) rfl rfl
set_option maxRecDepth 1000000 in
theorem cw_X11_place : Cond.code yX11_place cX11_place 9 (some (.int)) ∈ am_T := am_T_of (i := 517) rfl rfl
set_option maxRecDepth 1000000 in
theorem cw_X11_placing : Cond.code yX11_placing cX11_placing 6 (some (.int)) ∈ am_T := am_T_of (i := 577) rfl rfl
set_option maxRecDepth 1000000 in
theorem cw_X11_leave : Cond.code yX11_leave cX11_leave 6 (some (.boolean)) ∈ am_T := am_T_of (i := 658) rfl rfl
set_option maxRecDepth 1000000 in
theorem cw_X11_undo : Cond.code yX11_undo cX11_undo 2 (some (.boolean)) ∈ am_T := am_T_of (i := 666) rfl rfl
set_option maxRecDepth 1000000 in
theorem cw_X11_in : Cond.code yX11_in cX11_in 5 (some (.int)) ∈ am_T := am_T_of (i := 670) rfl rfl
set_option maxRecDepth 1000000 in
theorem cw_X11_holder : Cond.code yX11_holder cX11_holder 6 (some (.int)) ∈ am_T := am_T_of (i := 696) rfl rfl
set_option maxRecDepth 1000000 in
theorem cw_X11_twice : Cond.code yX11_twice cX11_twice 7 (some (.int)) ∈ am_T := am_T_of (i := 700) rfl rfl
set_option maxRecDepth 1000000 in
theorem cw_X11_placed : Cond.code yX11_placed cX11_placed 4 (some (.int)) ∈ am_T := am_T_of (i := 714) rfl rfl
set_option maxRecDepth 1000000 in
theorem cw_X11_wages : Cond.code yX11_wages cX11_wages 7 (some (.int)) ∈ am_T := am_T_of (i := 767) rfl rfl
set_option maxRecDepth 1000000 in
theorem cw_X11_feed : Cond.code yX11_feed cX11_feed 6 (some (.int)) ∈ am_T := am_T_of (i := 772) rfl rfl
set_option maxRecDepth 1000000 in
theorem cw_X11_rules : Cond.code yX11_rules cX11_rules 3 (some (.int)) ∈ am_T := am_T_of (i := 780) rfl rfl
set_option maxRecDepth 1000000 in
theorem cw_X11_fault : Cond.code yX11_fault cX11_fault 1 (some (.int)) ∈ am_T := am_T_of (i := 1006) rfl rfl
set_option maxRecDepth 1000000 in
theorem cw_X11_law : Cond.code yX11_law cX11_law 4 (some (.int)) ∈ am_T := am_T_of (i := 1010) rfl rfl
set_option maxRecDepth 1000000 in
theorem cw_X11_fit : Cond.code yX11_fit cX11_fit 4 (some (.int)) ∈ am_T := am_T_of (i := 1014) rfl rfl
set_option maxRecDepth 1000000 in
theorem cw_X11_write : Cond.code yX11_write cX11_write 8 (some (.int)) ∈ am_T := am_T_of (i := 1023) rfl rfl
set_option maxRecDepth 1000000 in
theorem cw_X11_written : Cond.code yX11_written cX11_written 4 (some (.int)) ∈ am_T := am_T_of (i := 1061) rfl rfl
set_option maxRecDepth 1000000 in
theorem cw_X11_isFalse : Cond.code yX11_isFalse cX11_isFalse 3 (some (.int)) ∈ am_T := am_T_of (i := 1065) rfl rfl
set_option maxRecDepth 1000000 in
theorem cw_X11_habit : Cond.code yX11_habit cX11_habit 9 (some (.int)) ∈ am_T := am_T_of (i := 1080) rfl rfl
set_option maxRecDepth 1000000 in
theorem cw_X11_wish : Cond.code yX11_wish cX11_wish 9 (some (.int)) ∈ am_T := am_T_of (i := 1091) rfl rfl
set_option maxRecDepth 1000000 in
theorem cw_X11_dealt : Cond.code yX11_dealt cX11_dealt 2 (some (.int)) ∈ am_T := am_T_of (i := 1100) rfl rfl
set_option maxRecDepth 1000000 in
theorem cw_X11_tell : Cond.code yX11_tell cX11_tell 3 (some (.boolean)) ∈ am_T := am_T_of (i := 1144) rfl rfl
set_option maxRecDepth 1000000 in
theorem cw_X11_judge : Cond.code yX11_judge cX11_judge 2 (some (.int)) ∈ am_T := am_T_of (i := 1148) rfl rfl
set_option maxRecDepth 1000000 in
theorem cw_X11_steps : Cond.code yX11_steps cX11_steps 5 (some (.int)) ∈ am_T := am_T_of (i := 1164) rfl rfl
set_option maxRecDepth 1000000 in
theorem cw_X11_clear : Cond.code yX11_clear cX11_clear 2 (some (.int)) ∈ am_T := am_T_of (i := 1186) rfl rfl
set_option maxRecDepth 1000000 in
theorem cw_X11_empty : Cond.code yX11_empty cX11_empty 3 (some (.int)) ∈ am_T := am_T_of (i := 1190) rfl rfl
set_option maxRecDepth 1000000 in
theorem cw_X11_free : Cond.code yX11_free cX11_free 3 (some (.int)) ∈ am_T := am_T_of (i := 1198) rfl rfl
set_option maxRecDepth 1000000 in
theorem cw_X11_chain : Cond.code yX11_chain cX11_chain 3 (some (.int)) ∈ am_T := am_T_of (i := 1206) rfl rfl
set_option maxRecDepth 1000000 in
theorem cw_X11_ask : Cond.code yX11_ask cX11_ask 4 (some (.int)) ∈ am_T := am_T_of (i := 1229) rfl rfl
set_option maxRecDepth 1000000 in
theorem cw_X11_like : Cond.code yX11_like cX11_like 8 (some (.int)) ∈ am_T := am_T_of (i := 1254) rfl rfl
set_option maxRecDepth 1000000 in
theorem cw_X11_box : Cond.code yX11_box cX11_box 4 (some (.int)) ∈ am_T := am_T_of (i := 1266) rfl rfl
set_option maxRecDepth 1000000 in
theorem cw_X11_leftMore : Cond.code yX11_leftMore cX11_leftMore 2 (some (.int)) ∈ am_T := am_T_of (i := 1270) rfl rfl
set_option maxRecDepth 1000000 in
theorem cw_X11_count : Cond.code yX11_count cX11_count 2 (some (.int)) ∈ am_T := am_T_of (i := 1287) rfl rfl
set_option maxRecDepth 1000000 in
theorem cw_X11_between : Cond.code yX11_between cX11_between 3 (some (.boolean)) ∈ am_T := am_T_of (i := 409) rfl rfl
set_option maxRecDepth 1000000 in
theorem cw_X11_isDay : Cond.code yX11_isDay cX11_isDay 1 (some (.boolean)) ∈ am_T := am_T_of (i := 673) rfl rfl
set_option maxRecDepth 1000000 in
theorem cw_X11_isServant : Cond.code yX11_isServant cX11_isServant 2 (some (.boolean)) ∈ am_T := am_T_of (i := 581) rfl rfl
set_option maxRecDepth 1000000 in
theorem cw_X11_isHouse : Cond.code yX11_isHouse cX11_isHouse 2 (some (.boolean)) ∈ am_T := am_T_of (i := 521) rfl rfl
set_option maxRecDepth 1000000 in
theorem cw_X11_isPlace : Cond.code yX11_isPlace cX11_isPlace 2 (some (.boolean)) ∈ am_T := am_T_of (i := 585) rfl rfl
set_option maxRecDepth 1000000 in
theorem cw_X11_isPlacing : Cond.code yX11_isPlacing cX11_isPlacing 2 (some (.boolean)) ∈ am_T := am_T_of (i := 662) rfl rfl
set_option maxRecDepth 1000000 in
theorem cw_X11_bookOf : Cond.code yX11_bookOf cX11_bookOf 3 (some (.object "ServantRegistry$Rulebook")) ∈ am_T := am_T_of (i := 723) rfl rfl
set_option maxRecDepth 1000000 in
theorem cw_X11_feeOf : Cond.code yX11_feeOf cX11_feeOf 3 (some (.int)) ∈ am_T := am_T_of (i := 719) rfl rfl
set_option maxRecDepth 1000000 in
theorem cw_X11_givenBack : Cond.code yX11_givenBack cX11_givenBack 3 (some (.int)) ∈ am_T := am_T_of (i := 758) rfl rfl
set_option maxRecDepth 1000000 in
theorem cw_X11_owed : Cond.code yX11_owed cX11_owed 3 (some (.int)) ∈ am_T := am_T_of (i := 762) rfl rfl
set_option maxRecDepth 1000000 in
theorem cw_X11_readWishes : Cond.code yX11_readWishes cX11_readWishes 9 (some (.int)) ∈ am_T := am_T_of (i := 1095) rfl rfl
set_option maxRecDepth 1000000 in
theorem cw_X11_preparePairs : Cond.code yX11_preparePairs cX11_preparePairs 5 (none) ∈ am_T := am_T_of (i := 1104) rfl rfl
set_option maxRecDepth 1000000 in
theorem cw_X11_rank : Cond.code yX11_rank cX11_rank 3 (some (.int)) ∈ am_T := am_T_of (i := 1120) rfl rfl
set_option maxRecDepth 1000000 in
theorem cw_X12_init : Cond.code yX12_init cX12_init 1 (none) ∈ am_T := am_T_of (i := 1300) rfl rfl
set_option maxRecDepth 1000000 in
theorem cw_X12_isIn : Cond.code yX12_isIn cX12_isIn 3 (some (.boolean)) ∈ am_T := am_T_of (i := 1572) rfl rfl
set_option maxRecDepth 1000000 in
theorem cw_X12_one : Cond.code yX12_one cX12_one 1 (some (.int)) ∈ am_T := am_T_of (i := 1815) rfl rfl
set_option maxRecDepth 1000000 in
theorem cw_X12_isDay : Cond.code yX12_isDay cX12_isDay 1 (some (.boolean)) ∈ am_T := am_T_of (i := 1623) rfl rfl
set_option maxRecDepth 1000000 in
theorem cw_X12_isServant : Cond.code yX12_isServant cX12_isServant 2 (some (.boolean)) ∈ am_T := am_T_of (i := 1596) rfl rfl
set_option maxRecDepth 1000000 in
theorem cw_X12_isHouse : Cond.code yX12_isHouse cX12_isHouse 2 (some (.boolean)) ∈ am_T := am_T_of (i := 1588) rfl rfl
set_option maxRecDepth 1000000 in
theorem cw_X12_isPlace : Cond.code yX12_isPlace cX12_isPlace 2 (some (.boolean)) ∈ am_T := am_T_of (i := 1600) rfl rfl
set_option maxRecDepth 1000000 in
theorem cw_X12_isPlacing : Cond.code yX12_isPlacing cX12_isPlacing 2 (some (.boolean)) ∈ am_T := am_T_of (i := 1612) rfl rfl
set_option maxRecDepth 1000000 in
theorem cw_X12_bits : Cond.code yX12_bits cX12_bits 3 (some (.int)) ∈ am_T := am_T_of (i := 1673) rfl rfl
set_option maxRecDepth 1000000 in
theorem cw_X12_ageOn : Cond.code yX12_ageOn cX12_ageOn 3 (some (.int)) ∈ am_T := am_T_of (i := 1670) rfl rfl
set_option maxRecDepth 1000000 in
theorem cw_X12_day : Cond.code yX12_day cX12_day 2 (some (.boolean)) ∈ am_T := am_T_of (i := 1565) rfl rfl
set_option maxRecDepth 1000000 in
theorem cw_X12_servant : Cond.code yX12_servant cX12_servant 5 (some (.int)) ∈ am_T := am_T_of (i := 1569) rfl rfl
set_option maxRecDepth 1000000 in
theorem cw_X12_house : Cond.code yX12_house cX12_house 2 (some (.int)) ∈ am_T := am_T_of (i := 1576) rfl rfl
set_option maxRecDepth 1000000 in
theorem cw_X12_lag : Cond.code yX12_lag cX12_lag 3 (some (.boolean)) ∈ am_T := am_T_of (i := 1580) rfl rfl
set_option maxRecDepth 1000000 in
theorem cw_X12_place : Cond.code yX12_place cX12_place 7 (some (.int)) ∈ am_T := am_T_of (i := 1584) rfl rfl
set_option maxRecDepth 1000000 in
theorem cw_X12_letters : Cond.code yX12_letters cX12_letters 2 (some (.int)) ∈ am_T := am_T_of (i := 1604) rfl rfl
set_option maxRecDepth 1000000 in
theorem cw_X12_placing : Cond.code yX12_placing cX12_placing 4 (some (.int)) ∈ am_T := am_T_of (i := 1592) rfl rfl
set_option maxRecDepth 1000000 in
theorem cw_X12_leave : Cond.code yX12_leave cX12_leave 5 (some (.boolean)) ∈ am_T := am_T_of (i := 1608) rfl rfl
set_option maxRecDepth 1000000 in
theorem cw_X12_undo : Cond.code yX12_undo cX12_undo 2 (some (.boolean)) ∈ am_T := am_T_of (i := 1616) rfl rfl
set_option maxRecDepth 1000000 in
theorem cw_X12_isKnown : Cond.code yX12_isKnown cX12_isKnown 3 (some (.boolean)) ∈ am_T := am_T_of (i := 1631) rfl rfl
set_option maxRecDepth 1000000 in
theorem cw_X12_endOf : Cond.code yX12_endOf cX12_endOf 3 (some (.int)) ∈ am_T := am_T_of (i := 1635) rfl rfl
set_option maxRecDepth 1000000 in
theorem cw_X12_inOf : Cond.code yX12_inOf cX12_inOf 6 (some (.int)) ∈ am_T := am_T_of (i := 1627) rfl rfl
set_option maxRecDepth 1000000 in
theorem cw_X12_in : Cond.code yX12_in cX12_in 4 (some (.int)) ∈ am_T := am_T_of (i := 1620) rfl rfl
set_option maxRecDepth 1000000 in
theorem cw_X12_holderOf : Cond.code yX12_holderOf cX12_holderOf 6 (some (.int)) ∈ am_T := am_T_of (i := 1643) rfl rfl
set_option maxRecDepth 1000000 in
theorem cw_X12_holder : Cond.code yX12_holder cX12_holder 4 (some (.int)) ∈ am_T := am_T_of (i := 1639) rfl rfl
set_option maxRecDepth 1000000 in
theorem cw_X12_twice : Cond.code yX12_twice cX12_twice 6 (some (.int)) ∈ am_T := am_T_of (i := 1647) rfl rfl
set_option maxRecDepth 1000000 in
theorem cw_X12_feeOf : Cond.code yX12_feeOf cX12_feeOf 4 (some (.int)) ∈ am_T := am_T_of (i := 1658) rfl rfl
set_option maxRecDepth 1000000 in
theorem cw_X12_backOf : Cond.code yX12_backOf cX12_backOf 3 (some (.int)) ∈ am_T := am_T_of (i := 1681) rfl rfl
set_option maxRecDepth 1000000 in
theorem cw_X12_owedOf : Cond.code yX12_owedOf cX12_owedOf 3 (some (.int)) ∈ am_T := am_T_of (i := 1689) rfl rfl
set_option maxRecDepth 1000000 in
theorem cw_X12_placed : Cond.code yX12_placed cX12_placed 3 (some (.int)) ∈ am_T := am_T_of (i := 1653) rfl rfl
set_option maxRecDepth 1000000 in
theorem cw_X12_wages : Cond.code yX12_wages cX12_wages 6 (some (.int)) ∈ am_T := am_T_of (i := 1697) rfl rfl
set_option maxRecDepth 1000000 in
theorem cw_X12_feed : Cond.code yX12_feed cX12_feed 6 (some (.int)) ∈ am_T := am_T_of (i := 1701) rfl rfl
set_option maxRecDepth 1000000 in
theorem cw_X12_four : Cond.code yX12_four cX12_four 3 (none) ∈ am_T := am_T_of (i := 1705) rfl rfl
set_option maxRecDepth 1000000 in
theorem cw_X12_blanks : Cond.code yX12_blanks cX12_blanks 1 (none) ∈ am_T := am_T_of (i := 1713) rfl rfl
set_option maxRecDepth 1000000 in
theorem cw_X12_word : Cond.code yX12_word cX12_word 3 (some (.long)) ∈ am_T := am_T_of (i := 1726) rfl rfl
set_option maxRecDepth 1000000 in
theorem cw_X12_takes : Cond.code yX12_takes cX12_takes 3 (some (.boolean)) ∈ am_T := am_T_of (i := 1722) rfl rfl
set_option maxRecDepth 1000000 in
theorem cw_X12_takesSign : Cond.code yX12_takesSign cX12_takesSign 2 (some (.boolean)) ∈ am_T := am_T_of (i := 1766) rfl rfl
set_option maxRecDepth 1000000 in
theorem cw_X12_takesNumber : Cond.code yX12_takesNumber cX12_takesNumber 3 (some (.boolean)) ∈ am_T := am_T_of (i := 1740) rfl rfl
set_option maxRecDepth 1000000 in
theorem cw_X12_takesPlain : Cond.code yX12_takesPlain cX12_takesPlain 1 (some (.boolean)) ∈ am_T := am_T_of (i := 1736) rfl rfl
set_option maxRecDepth 1000000 in
theorem cw_X12_node : Cond.code yX12_node cX12_node 2 (some (.int)) ∈ am_T := am_T_of (i := 1753) rfl rfl
set_option maxRecDepth 1000000 in
theorem cw_X12_any : Cond.code yX12_any cX12_any 4 (some (.int)) ∈ am_T := am_T_of (i := 1749) rfl rfl
set_option maxRecDepth 1000000 in
theorem cw_X12_all : Cond.code yX12_all cX12_all 4 (some (.int)) ∈ am_T := am_T_of (i := 1757) rfl rfl
set_option maxRecDepth 1000000 in
theorem cw_X12_told : Cond.code yX12_told cX12_told 2 (some (.int)) ∈ am_T := am_T_of (i := 1769) rfl rfl
set_option maxRecDepth 1000000 in
theorem cw_X12_single : Cond.code yX12_single cX12_single 3 (some (.int)) ∈ am_T := am_T_of (i := 1761) rfl rfl
set_option maxRecDepth 1000000 in
theorem cw_X12_postHere : Cond.code yX12_postHere cX12_postHere 1 (some (.int)) ∈ am_T := am_T_of (i := 1792) rfl rfl
set_option maxRecDepth 1000000 in
theorem cw_X12_condition : Cond.code yX12_condition cX12_condition 2 (some (.boolean)) ∈ am_T := am_T_of (i := 1744) rfl rfl
set_option maxRecDepth 1000000 in
theorem cw_X12_fee : Cond.code yX12_fee cX12_fee 2 (some (.boolean)) ∈ am_T := am_T_of (i := 1730) rfl rfl
set_option maxRecDepth 1000000 in
theorem cw_X12_plain : Cond.code yX12_plain cX12_plain 2 (some (.boolean)) ∈ am_T := am_T_of (i := 1782) rfl rfl
set_option maxRecDepth 1000000 in
theorem cw_X12_ofPost : Cond.code yX12_ofPost cX12_ofPost 2 (some (.boolean)) ∈ am_T := am_T_of (i := 1788) rfl rfl
set_option maxRecDepth 1000000 in
theorem cw_X12_statement : Cond.code yX12_statement cX12_statement 3 (some (.boolean)) ∈ am_T := am_T_of (i := 1717) rfl rfl
set_option maxRecDepth 1000000 in
theorem cw_X12_rules : Cond.code yX12_rules cX12_rules 4 (some (.int)) ∈ am_T := am_T_of (i := 1709) rfl rfl
set_option maxRecDepth 1000000 in
theorem cw_X12_fault : Cond.code yX12_fault cX12_fault 1 (some (.int)) ∈ am_T := am_T_of (i := 1808) rfl rfl
set_option maxRecDepth 1000000 in
theorem cw_X12_inForce : Cond.code yX12_inForce cX12_inForce 4 (some (.int)) ∈ am_T := am_T_of (i := 1666) rfl rfl
set_option maxRecDepth 1000000 in
theorem cw_X12_last : Cond.code yX12_last cX12_last 6 (some (.int)) ∈ am_T := am_T_of (i := 1685) rfl rfl
set_option maxRecDepth 1000000 in
theorem cw_X12_tells : Cond.code yX12_tells cX12_tells 6 (some (.int)) ∈ am_T := am_T_of (i := 1693) rfl rfl
set_option maxRecDepth 1000000 in
theorem cw_X12_firstOf : Cond.code yX12_firstOf cX12_firstOf 8 (some (.int)) ∈ am_T := am_T_of (i := 1662) rfl rfl
set_option maxRecDepth 1000000 in
theorem cw_X12_holds : Cond.code yX12_holds cX12_holds 3 (some (.boolean)) ∈ am_T := am_T_of (i := 1677) rfl rfl
set_option maxRecDepth 1000000 in
theorem cw_X12_law : Cond.code yX12_law cX12_law 4 (some (.int)) ∈ am_T := am_T_of (i := 1812) rfl rfl
set_option maxRecDepth 1000000 in
theorem cw_X12_fitOf : Cond.code yX12_fitOf cX12_fitOf 5 (some (.int)) ∈ am_T := am_T_of (i := 1823) rfl rfl
set_option maxRecDepth 1000000 in
theorem cw_X12_fit : Cond.code yX12_fit cX12_fit 4 (some (.int)) ∈ am_T := am_T_of (i := 1819) rfl rfl
set_option maxRecDepth 1000000 in
theorem cw_X12_write : Cond.code yX12_write cX12_write 6 (some (.int)) ∈ am_T := am_T_of (i := 1827) rfl rfl
set_option maxRecDepth 1000000 in
theorem cw_X12_written : Cond.code yX12_written cX12_written 3 (some (.int)) ∈ am_T := am_T_of (i := 1831) rfl rfl
set_option maxRecDepth 1000000 in
theorem cw_X12_falseBy : Cond.code yX12_falseBy cX12_falseBy 6 (some (.int)) ∈ am_T := am_T_of (i := 1839) rfl rfl
set_option maxRecDepth 1000000 in
theorem cw_X12_isFalse : Cond.code yX12_isFalse cX12_isFalse 3 (some (.int)) ∈ am_T := am_T_of (i := 1835) rfl rfl
set_option maxRecDepth 1000000 in
theorem cw_X12_behind : Cond.code yX12_behind cX12_behind 4 (some (.int)) ∈ am_T := am_T_of (i := 1847) rfl rfl
set_option maxRecDepth 1000000 in
theorem cw_X12_habit : Cond.code yX12_habit cX12_habit 8 (some (.int)) ∈ am_T := am_T_of (i := 1843) rfl rfl
set_option maxRecDepth 1000000 in
theorem cw_X12_wish : Cond.code yX12_wish cX12_wish 9 (some (.int)) ∈ am_T := am_T_of (i := 1851) rfl rfl
set_option maxRecDepth 1000000 in
theorem cw_X12_put : Cond.code yX12_put cX12_put 4 (none) ∈ am_T := am_T_of (i := 1856) rfl rfl
set_option maxRecDepth 1000000 in
theorem cw_X12_whoTakesPart : Cond.code yX12_whoTakesPart cX12_whoTakesPart 2 (none) ∈ am_T := am_T_of (i := 1868) rfl rfl
set_option maxRecDepth 1000000 in
theorem cw_X12_mayBe : Cond.code yX12_mayBe cX12_mayBe 3 (some (.boolean)) ∈ am_T := am_T_of (i := 1880) rfl rfl
set_option maxRecDepth 1000000 in
theorem cw_X12_nth : Cond.code yX12_nth cX12_nth 4 (some (.int)) ∈ am_T := am_T_of (i := 1872) rfl rfl
set_option maxRecDepth 1000000 in
theorem cw_X12_deals : Cond.code yX12_deals cX12_deals 3 (none) ∈ am_T := am_T_of (i := 1864) rfl rfl
set_option maxRecDepth 1000000 in
theorem cw_X12_asks : Cond.code yX12_asks cX12_asks 4 (none) ∈ am_T := am_T_of (i := 1876) rfl rfl
set_option maxRecDepth 1000000 in
theorem cw_X12_dealt : Cond.code yX12_dealt cX12_dealt 2 (some (.int)) ∈ am_T := am_T_of (i := 1860) rfl rfl
set_option maxRecDepth 1000000 in
theorem cw_X12_tell : Cond.code yX12_tell cX12_tell 3 (some (.boolean)) ∈ am_T := am_T_of (i := 1884) rfl rfl
set_option maxRecDepth 1000000 in
theorem cw_X12_toldHolder : Cond.code yX12_toldHolder cX12_toldHolder 3 (some (.int)) ∈ am_T := am_T_of (i := 1892) rfl rfl
set_option maxRecDepth 1000000 in
theorem cw_X12_judge : Cond.code yX12_judge cX12_judge 3 (some (.int)) ∈ am_T := am_T_of (i := 1888) rfl rfl
set_option maxRecDepth 1000000 in
theorem cw_X12_leaves : Cond.code yX12_leaves cX12_leaves 6 (some (.boolean)) ∈ am_T := am_T_of (i := 1896) rfl rfl
set_option maxRecDepth 1000000 in
theorem cw_X12_steps : Cond.code yX12_steps cX12_steps 8 (some (.int)) ∈ am_T := am_T_of (i := 1900) rfl rfl
set_option maxRecDepth 1000000 in
theorem cw_X12_clear : Cond.code yX12_clear cX12_clear 2 (some (.int)) ∈ am_T := am_T_of (i := 1906) rfl rfl
set_option maxRecDepth 1000000 in
theorem cw_X12_empty : Cond.code yX12_empty cX12_empty 5 (some (.int)) ∈ am_T := am_T_of (i := 1910) rfl rfl
set_option maxRecDepth 1000000 in
theorem cw_X12_free : Cond.code yX12_free cX12_free 5 (some (.int)) ∈ am_T := am_T_of (i := 1914) rfl rfl
set_option maxRecDepth 1000000 in
theorem cw_X12_rows : Cond.code yX12_rows cX12_rows 6 (none) ∈ am_T := am_T_of (i := 1922) rfl rfl
set_option maxRecDepth 1000000 in
theorem cw_X12_isLess : Cond.code yX12_isLess cX12_isLess 2 (some (.boolean)) ∈ am_T := am_T_of (i := 1926) rfl rfl
set_option maxRecDepth 1000000 in
theorem cw_X12_chain : Cond.code yX12_chain cX12_chain 2 (some (.int)) ∈ am_T := am_T_of (i := 1918) rfl rfl
set_option maxRecDepth 1000000 in
theorem cw_X12_ask : Cond.code yX12_ask cX12_ask 4 (some (.int)) ∈ am_T := am_T_of (i := 1930) rfl rfl
set_option maxRecDepth 1000000 in
theorem cw_X12_areLike : Cond.code yX12_areLike cX12_areLike 5 (some (.boolean)) ∈ am_T := am_T_of (i := 1938) rfl rfl
set_option maxRecDepth 1000000 in
theorem cw_X12_like : Cond.code yX12_like cX12_like 5 (some (.int)) ∈ am_T := am_T_of (i := 1934) rfl rfl
set_option maxRecDepth 1000000 in
theorem cw_X12_box : Cond.code yX12_box cX12_box 5 (some (.int)) ∈ am_T := am_T_of (i := 1943) rfl rfl
set_option maxRecDepth 1000000 in
theorem cw_X12_wasLeftSoon : Cond.code yX12_wasLeftSoon cX12_wasLeftSoon 2 (some (.boolean)) ∈ am_T := am_T_of (i := 1951) rfl rfl
set_option maxRecDepth 1000000 in
theorem cw_X12_leftMore : Cond.code yX12_leftMore cX12_leftMore 8 (some (.int)) ∈ am_T := am_T_of (i := 1947) rfl rfl
set_option maxRecDepth 1000000 in
theorem cw_X12_count : Cond.code yX12_count cX12_count 4 (some (.int)) ∈ am_T := am_T_of (i := 1955) rfl rfl
set_option maxRecDepth 1000000 in
theorem cw_J6_bitCount_0f7a4 : Cond.code yJ6_bitCount_0f7a4 cJ6_bitCount_0f7a4 1 (some (.int)) ∈ am_T := am_T_of (i := 739) rfl rfl
set_option maxRecDepth 1000000 in
theorem cw_J0_length_8abf5 : Cond.code yJ0_length_8abf5 cJ0_length_8abf5 1 (some (.int)) ∈ am_T := am_T_of (i := 813) rfl rfl
set_option maxRecDepth 1000000 in
theorem cw_J0_charAt_5068e : Cond.code yJ0_charAt_5068e cJ0_charAt_5068e 2 (some (.char)) ∈ am_T := am_T_of (i := 823) rfl rfl
set_option maxRecDepth 1000000 in
theorem cw_J0_indexOf_0f7a4 : Cond.code yJ0_indexOf_0f7a4 cJ0_indexOf_0f7a4 2 (some (.int)) ∈ am_T := am_T_of (i := 934) rfl rfl
set_option maxRecDepth 1000000 in
theorem cw_J0_indexOf_7cf53 : Cond.code yJ0_indexOf_7cf53 cJ0_indexOf_7cf53 3 (some (.int)) ∈ am_T := am_T_of (i := 938) rfl rfl
set_option maxRecDepth 1000000 in
theorem cw_J0_coder_7d493 : Cond.code yJ0_coder_7d493 cJ0_coder_7d493 1 (some (.byte)) ∈ am_T := am_T_of (i := 817) rfl rfl
set_option maxRecDepth 1000000 in
theorem cw_J0_isLatin1_aae02 : Cond.code yJ0_isLatin1_aae02 cJ0_isLatin1_aae02 1 (some (.boolean)) ∈ am_T := am_T_of (i := 827) rfl rfl
set_option maxRecDepth 1000000 in
theorem cw_J0_checkIndex_df160 : Cond.code yJ0_checkIndex_df160 cJ0_checkIndex_df160 2 (none) ∈ am_T := am_T_of (i := 833) rfl rfl
set_option maxRecDepth 1000000 in
theorem cw_J1_charAt_3b067 : Cond.code yJ1_charAt_3b067 cJ1_charAt_3b067 2 (some (.char)) ∈ am_T := am_T_of (i := 830) rfl rfl
set_option maxRecDepth 1000000 in
theorem cw_J1_canEncode_9a6ad : Cond.code yJ1_canEncode_9a6ad cJ1_canEncode_9a6ad 1 (some (.boolean)) ∈ am_T := am_T_of (i := 945) rfl rfl
set_option maxRecDepth 1000000 in
theorem cw_J1_indexOf_4cfef : Cond.code yJ1_indexOf_4cfef cJ1_indexOf_4cfef 4 (some (.int)) ∈ am_T := am_T_of (i := 942) rfl rfl
set_option maxRecDepth 1000000 in
theorem cw_J1_indexOfChar_4cfef : Cond.code yJ1_indexOfChar_4cfef cJ1_indexOfChar_4cfef 6 (some (.int)) ∈ am_T := am_T_of (i := 950) rfl rfl
set_option maxRecDepth 1000000 in
theorem cw_Jxa1e45_init_da8c8 : Cond.code yJxa1e45_init_da8c8 cJxa1e45_init_da8c8 1 (none) ∈ am_T := am_T_of (i := 134) rfl rfl
set_option maxRecDepth 1000000 in
theorem cw_Jxc12de_init_da8c8 : Cond.code yJxc12de_init_da8c8 cJxc12de_init_da8c8 1 (none) ∈ am_T := am_T_of (i := 131) rfl rfl
set_option maxRecDepth 1000000 in
theorem cw_Jx4a65c_init_da8c8 : Cond.code yJx4a65c_init_da8c8 cJx4a65c_init_da8c8 1 (none) ∈ am_T := am_T_of (i := 128) rfl rfl
set_option maxRecDepth 1000000 in
theorem cw_Jx4a65c_grow_92f84 : Cond.code yJx4a65c_grow_92f84 cJx4a65c_grow_92f84 4 (some (.array (.object "java/lang/Object"))) ∈ am_T := am_T_of (i := 460) rfl rfl
set_option maxRecDepth 1000000 in
theorem cw_Jx4a65c_grow_d5877 : Cond.code yJx4a65c_grow_d5877 cJx4a65c_grow_d5877 1 (some (.array (.object "java/lang/Object"))) ∈ am_T := am_T_of (i := 456) rfl rfl
set_option maxRecDepth 1000000 in
theorem cw_Jx4a65c_size_8abf5 : Cond.code yJx4a65c_size_8abf5 cJx4a65c_size_8abf5 1 (some (.int)) ∈ am_T := am_T_of (i := 413) rfl rfl
set_option maxRecDepth 1000000 in
theorem cw_Jx4a65c_elementData_915e3 : Cond.code yJx4a65c_elementData_915e3 cJx4a65c_elementData_915e3 2 (some (.object "java/lang/Object")) ∈ am_T := am_T_of (i := 599) rfl rfl
set_option maxRecDepth 1000000 in
theorem cw_Jx4a65c_get_915e3 : Cond.code yJx4a65c_get_915e3 cJx4a65c_get_915e3 2 (some (.object "java/lang/Object")) ∈ am_T := am_T_of (i := 589) rfl rfl
set_option maxRecDepth 1000000 in
theorem cw_Jx4a65c_add_72be8 : Cond.code yJx4a65c_add_72be8 cJx4a65c_add_72be8 4 (none) ∈ am_T := am_T_of (i := 452) rfl rfl
set_option maxRecDepth 1000000 in
theorem cw_Jx4a65c_add_9ea2d : Cond.code yJx4a65c_add_9ea2d cJx4a65c_add_9ea2d 2 (some (.boolean)) ∈ am_T := am_T_of (i := 448) rfl rfl
set_option maxRecDepth 1000000 in
theorem cw_J7_fill_53178 : Cond.code yJ7_fill_53178 cJ7_fill_53178 4 (none) ∈ am_T := am_T_of (i := 343) rfl rfl
set_option maxRecDepth 1000000 in
theorem cw_J7_copyOf_1904c : Cond.code yJ7_copyOf_1904c cJ7_copyOf_1904c 2 (some (.array (.object "java/lang/Object"))) ∈ am_T := am_T_of (i := 473) rfl rfl
set_option maxRecDepth 1000000 in
theorem cw_J7_copyOf_6403c : Cond.code yJ7_copyOf_6403c cJ7_copyOf_6403c 4 (some (.array (.object "java/lang/Object"))) ∈ am_T := am_T_of (i := 494) rfl rfl
set_option maxRecDepth 1000000 in
theorem cw_J7_copyOf_59c91 : Cond.code yJ7_copyOf_59c91 cJ7_copyOf_59c91 3 (some (.array .int)) ∈ am_T := am_T_of (i := 990) rfl rfl
set_option maxRecDepth 1000000 in
theorem cw_J15_checkIndex_7cf53 : Cond.code yJ15_checkIndex_7cf53 cJ15_checkIndex_7cf53 2 (some (.int)) ∈ am_T := am_T_of (i := 592) rfl rfl
set_option maxRecDepth 1000000 in
theorem cw_J8_newLength_cabcc : Cond.code yJ8_newLength_cabcc cJ8_newLength_cabcc 4 (some (.int)) ∈ am_T := am_T_of (i := 463) rfl rfl
set_option maxRecDepth 1000000 in
theorem cw_J3_checkIndex_8e157 : Cond.code yJ3_checkIndex_8e157 cJ3_checkIndex_8e157 3 (some (.int)) ∈ am_T := am_T_of (i := 595) rfl rfl
def am_ms_0 : List (MethodName × ByteArray × Nat × Option FieldType) := [(yX0_init, cX0_init, 5, none), (yX0_isAnsweredUnlike, cX0_isAnsweredUnlike, 2, some (.boolean)), (yX1_init, cX1_init, 1, none), (yX1_addPlace, cX1_addPlace, 4, some (.int)), (yX1_addServant, cX1_addServant, 5, some (.int)), (yX1_fill, cX1_fill, 6, none), (yX1_bestFrom, cX1_bestFrom, 5, some (.int)), (yX1_worthOf, cX1_worthOf, 5, some (.int)), (yX1_takeLeastRow, cX1_takeLeastRow, 4, none), (yX2_init, cX2_init, 1, none), (yX2_forgetPairs, cX2_forgetPairs, 1, none), (yX2_fillPlace, cX2_fillPlace, 2, none), (yX2_allow, cX2_allow, 7, none), (yX2_pairOf, cX2_pairOf, 2, some (.int)), (yX2_forgetPairing, cX2_forgetPairing, 1, none), (yX2_pair, cX2_pair, 4, none), (yX2_offer, cX2_offer, 3, none), (yX2_placeLikesBetter, cX2_placeLikesBetter, 4, some (.boolean)), (yX2_servantLikesBetter, cX2_servantLikesBetter, 4, some (.boolean)), (yX2_firstWronglyTold, cX2_firstWronglyTold, 4, some (.int)), (yX2_firstLeaving, cX2_firstLeaving, 3, some (.int)), (yX3_init, cX3_init, 1, none), (yX3_whereIn, cX3_whereIn, 7, some (.object "ServantRegistry$Placing")), (yX3_nextChange, cX3_nextChange, 8, some (.int)), (yX3_firstBeside, cX3_firstBeside, 5, some (.int)), (yX3_tallyServed, cX3_tallyServed, 6, none), (yX3_falsehood, cX3_falsehood, 7, some (.int)), (yX3_provenBy, cX3_provenBy, 8, some (.object "ServantRegistry$Placing")), (yX3_knownOf, cX3_knownOf, 6, some (.int)), (yX3_hundredthsLeft, cX3_hundredthsLeft, 7, some (.int)), (yX3_leftCount, cX3_leftCount, 3, some (.int)), (yX3_undoneCount, cX3_undoneCount, 3, some (.int)), (yX4_init, cX4_init, 6, none), (yX5_init, cX5_init, 5, none), (yX5_isKnownBy, cX5_isKnownBy, 2, some (.boolean)), (yX5_isKnownLeftBy, cX5_isKnownLeftBy, 2, some (.boolean)), (yX5_endAsKnown, cX5_endAsKnown, 2, some (.int)), (yX5_sharesDayWith, cX5_sharesDayWith, 4, some (.boolean)), (yX5_isLeftSoonForFault, cX5_isLeftSoonForFault, 2, some (.boolean)), (yX6_init, cX6_init, 1, none)]
theorem am_cd_0 : ∀ q ∈ am_ms_0, Cond.code q.1 q.2.1 q.2.2.1 q.2.2.2 ∈ am_T := am_fc cw_X0_init (am_fc cw_X0_isAnsweredUnlike (am_fc cw_X1_init (am_fc cw_X1_addPlace (am_fc cw_X1_addServant (am_fc cw_X1_fill (am_fc cw_X1_bestFrom (am_fc cw_X1_worthOf (am_fc cw_X1_takeLeastRow (am_fc cw_X2_init (am_fc cw_X2_forgetPairs (am_fc cw_X2_fillPlace (am_fc cw_X2_allow (am_fc cw_X2_pairOf (am_fc cw_X2_forgetPairing (am_fc cw_X2_pair (am_fc cw_X2_offer (am_fc cw_X2_placeLikesBetter (am_fc cw_X2_servantLikesBetter (am_fc cw_X2_firstWronglyTold (am_fc cw_X2_firstLeaving (am_fc cw_X3_init (am_fc cw_X3_whereIn (am_fc cw_X3_nextChange (am_fc cw_X3_firstBeside (am_fc cw_X3_tallyServed (am_fc cw_X3_falsehood (am_fc cw_X3_provenBy (am_fc cw_X3_knownOf (am_fc cw_X3_hundredthsLeft (am_fc cw_X3_leftCount (am_fc cw_X3_undoneCount (am_fc cw_X4_init (am_fc cw_X5_init (am_fc cw_X5_isKnownBy (am_fc cw_X5_isKnownLeftBy (am_fc cw_X5_endAsKnown (am_fc cw_X5_sharesDayWith (am_fc cw_X5_isLeftSoonForFault (am_fc cw_X6_init (am_fn))))))))))))))))))))))))))))))))))))))))
def am_ms_1 : List (MethodName × ByteArray × Nat × Option FieldType) := [(yX6_append, cX6_append, 3, none), (yX6_readInto, cX6_readInto, 4, some (.boolean)), (yX6_readStatement, cX6_readStatement, 4, none), (yX6_readAny, cX6_readAny, 5, none), (yX6_readOne, cX6_readOne, 7, none), (yX6_emit, cX6_emit, 2, none), (yX6_refuse, cX6_refuse, 1, none), (yX6_takeWord, cX6_takeWord, 3, some (.int)), (yX6_takeNumber, cX6_takeNumber, 4, some (.int)), (yX6_takeComparison, cX6_takeComparison, 2, some (.int)), (yX6_takeSign, cX6_takeSign, 2, none), (yX6_isSign, cX6_isSign, 2, some (.boolean)), (yX6_isWord, cX6_isWord, 2, some (.boolean)), (yX6_indexIn, cX6_indexIn, 7, some (.int)), (yX6_advance, cX6_advance, 2, none), (yX6_tokenAt, cX6_tokenAt, 4, some (.int)), (yX7_init, cX7_init, 3, none), (yX7_add, cX7_add, 2, none), (yX7_fee, cX7_fee, 6, some (.int)), (yX7_unfitness, cX7_unfitness, 5, some (.int)), (yX7_wayTo, cX7_wayTo, 6, some (.int)), (yX7_wayBy, cX7_wayBy, 4, some (.int)), (yX7_firstHolding, cX7_firstHolding, 8, some (.object "ServantRegistry$Statement")), (yX7_holds, cX7_holds, 6, some (.boolean)), (yX7_compares, cX7_compares, 5, some (.boolean)), (yX8_init, cX8_init, 5, none), (yX8_ageOn, cX8_ageOn, 2, some (.int)), (yX9_init, cX9_init, 2, none), (yX10_init, cX10_init, 5, none), (yX11_init, cX11_init, 1, none), (yX11_day, cX11_day, 2, some (.boolean)), (yX11_servant, cX11_servant, 6, some (.int)), (yX11_house, cX11_house, 2, some (.int)), (yX11_lag, cX11_lag, 3, some (.boolean)), (yX11_place, cX11_place, 9, some (.int)), (yX11_placing, cX11_placing, 6, some (.int)), (yX11_leave, cX11_leave, 6, some (.boolean)), (yX11_undo, cX11_undo, 2, some (.boolean)), (yX11_in, cX11_in, 5, some (.int)), (yX11_holder, cX11_holder, 6, some (.int))]
theorem am_cd_1 : ∀ q ∈ am_ms_1, Cond.code q.1 q.2.1 q.2.2.1 q.2.2.2 ∈ am_T := am_fc cw_X6_append (am_fc cw_X6_readInto (am_fc cw_X6_readStatement (am_fc cw_X6_readAny (am_fc cw_X6_readOne (am_fc cw_X6_emit (am_fc cw_X6_refuse (am_fc cw_X6_takeWord (am_fc cw_X6_takeNumber (am_fc cw_X6_takeComparison (am_fc cw_X6_takeSign (am_fc cw_X6_isSign (am_fc cw_X6_isWord (am_fc cw_X6_indexIn (am_fc cw_X6_advance (am_fc cw_X6_tokenAt (am_fc cw_X7_init (am_fc cw_X7_add (am_fc cw_X7_fee (am_fc cw_X7_unfitness (am_fc cw_X7_wayTo (am_fc cw_X7_wayBy (am_fc cw_X7_firstHolding (am_fc cw_X7_holds (am_fc cw_X7_compares (am_fc cw_X8_init (am_fc cw_X8_ageOn (am_fc cw_X9_init (am_fc cw_X10_init (am_fc cw_X11_init (am_fc cw_X11_day (am_fc cw_X11_servant (am_fc cw_X11_house (am_fc cw_X11_lag (am_fc cw_X11_place (am_fc cw_X11_placing (am_fc cw_X11_leave (am_fc cw_X11_undo (am_fc cw_X11_in (am_fc cw_X11_holder (am_fn))))))))))))))))))))))))))))))))))))))))
def am_ms_2 : List (MethodName × ByteArray × Nat × Option FieldType) := [(yX11_twice, cX11_twice, 7, some (.int)), (yX11_placed, cX11_placed, 4, some (.int)), (yX11_wages, cX11_wages, 7, some (.int)), (yX11_feed, cX11_feed, 6, some (.int)), (yX11_rules, cX11_rules, 3, some (.int)), (yX11_fault, cX11_fault, 1, some (.int)), (yX11_law, cX11_law, 4, some (.int)), (yX11_fit, cX11_fit, 4, some (.int)), (yX11_write, cX11_write, 8, some (.int)), (yX11_written, cX11_written, 4, some (.int)), (yX11_isFalse, cX11_isFalse, 3, some (.int)), (yX11_habit, cX11_habit, 9, some (.int)), (yX11_wish, cX11_wish, 9, some (.int)), (yX11_dealt, cX11_dealt, 2, some (.int)), (yX11_tell, cX11_tell, 3, some (.boolean)), (yX11_judge, cX11_judge, 2, some (.int)), (yX11_steps, cX11_steps, 5, some (.int)), (yX11_clear, cX11_clear, 2, some (.int)), (yX11_empty, cX11_empty, 3, some (.int)), (yX11_free, cX11_free, 3, some (.int)), (yX11_chain, cX11_chain, 3, some (.int)), (yX11_ask, cX11_ask, 4, some (.int)), (yX11_like, cX11_like, 8, some (.int)), (yX11_box, cX11_box, 4, some (.int)), (yX11_leftMore, cX11_leftMore, 2, some (.int)), (yX11_count, cX11_count, 2, some (.int)), (yX11_between, cX11_between, 3, some (.boolean)), (yX11_isDay, cX11_isDay, 1, some (.boolean)), (yX11_isServant, cX11_isServant, 2, some (.boolean)), (yX11_isHouse, cX11_isHouse, 2, some (.boolean)), (yX11_isPlace, cX11_isPlace, 2, some (.boolean)), (yX11_isPlacing, cX11_isPlacing, 2, some (.boolean)), (yX11_bookOf, cX11_bookOf, 3, some (.object "ServantRegistry$Rulebook")), (yX11_feeOf, cX11_feeOf, 3, some (.int)), (yX11_givenBack, cX11_givenBack, 3, some (.int)), (yX11_owed, cX11_owed, 3, some (.int)), (yX11_readWishes, cX11_readWishes, 9, some (.int)), (yX11_preparePairs, cX11_preparePairs, 5, none), (yX11_rank, cX11_rank, 3, some (.int)), (yX12_init, cX12_init, 1, none)]
theorem am_cd_2 : ∀ q ∈ am_ms_2, Cond.code q.1 q.2.1 q.2.2.1 q.2.2.2 ∈ am_T := am_fc cw_X11_twice (am_fc cw_X11_placed (am_fc cw_X11_wages (am_fc cw_X11_feed (am_fc cw_X11_rules (am_fc cw_X11_fault (am_fc cw_X11_law (am_fc cw_X11_fit (am_fc cw_X11_write (am_fc cw_X11_written (am_fc cw_X11_isFalse (am_fc cw_X11_habit (am_fc cw_X11_wish (am_fc cw_X11_dealt (am_fc cw_X11_tell (am_fc cw_X11_judge (am_fc cw_X11_steps (am_fc cw_X11_clear (am_fc cw_X11_empty (am_fc cw_X11_free (am_fc cw_X11_chain (am_fc cw_X11_ask (am_fc cw_X11_like (am_fc cw_X11_box (am_fc cw_X11_leftMore (am_fc cw_X11_count (am_fc cw_X11_between (am_fc cw_X11_isDay (am_fc cw_X11_isServant (am_fc cw_X11_isHouse (am_fc cw_X11_isPlace (am_fc cw_X11_isPlacing (am_fc cw_X11_bookOf (am_fc cw_X11_feeOf (am_fc cw_X11_givenBack (am_fc cw_X11_owed (am_fc cw_X11_readWishes (am_fc cw_X11_preparePairs (am_fc cw_X11_rank (am_fc cw_X12_init (am_fn))))))))))))))))))))))))))))))))))))))))
def am_ms_3 : List (MethodName × ByteArray × Nat × Option FieldType) := [(yX12_isIn, cX12_isIn, 3, some (.boolean)), (yX12_one, cX12_one, 1, some (.int)), (yX12_isDay, cX12_isDay, 1, some (.boolean)), (yX12_isServant, cX12_isServant, 2, some (.boolean)), (yX12_isHouse, cX12_isHouse, 2, some (.boolean)), (yX12_isPlace, cX12_isPlace, 2, some (.boolean)), (yX12_isPlacing, cX12_isPlacing, 2, some (.boolean)), (yX12_bits, cX12_bits, 3, some (.int)), (yX12_ageOn, cX12_ageOn, 3, some (.int)), (yX12_day, cX12_day, 2, some (.boolean)), (yX12_servant, cX12_servant, 5, some (.int)), (yX12_house, cX12_house, 2, some (.int)), (yX12_lag, cX12_lag, 3, some (.boolean)), (yX12_place, cX12_place, 7, some (.int)), (yX12_letters, cX12_letters, 2, some (.int)), (yX12_placing, cX12_placing, 4, some (.int)), (yX12_leave, cX12_leave, 5, some (.boolean)), (yX12_undo, cX12_undo, 2, some (.boolean)), (yX12_isKnown, cX12_isKnown, 3, some (.boolean)), (yX12_endOf, cX12_endOf, 3, some (.int)), (yX12_inOf, cX12_inOf, 6, some (.int)), (yX12_in, cX12_in, 4, some (.int)), (yX12_holderOf, cX12_holderOf, 6, some (.int)), (yX12_holder, cX12_holder, 4, some (.int)), (yX12_twice, cX12_twice, 6, some (.int)), (yX12_feeOf, cX12_feeOf, 4, some (.int)), (yX12_backOf, cX12_backOf, 3, some (.int)), (yX12_owedOf, cX12_owedOf, 3, some (.int)), (yX12_placed, cX12_placed, 3, some (.int)), (yX12_wages, cX12_wages, 6, some (.int)), (yX12_feed, cX12_feed, 6, some (.int)), (yX12_four, cX12_four, 3, none), (yX12_blanks, cX12_blanks, 1, none), (yX12_word, cX12_word, 3, some (.long)), (yX12_takes, cX12_takes, 3, some (.boolean)), (yX12_takesSign, cX12_takesSign, 2, some (.boolean)), (yX12_takesNumber, cX12_takesNumber, 3, some (.boolean)), (yX12_takesPlain, cX12_takesPlain, 1, some (.boolean)), (yX12_node, cX12_node, 2, some (.int)), (yX12_any, cX12_any, 4, some (.int))]
theorem am_cd_3 : ∀ q ∈ am_ms_3, Cond.code q.1 q.2.1 q.2.2.1 q.2.2.2 ∈ am_T := am_fc cw_X12_isIn (am_fc cw_X12_one (am_fc cw_X12_isDay (am_fc cw_X12_isServant (am_fc cw_X12_isHouse (am_fc cw_X12_isPlace (am_fc cw_X12_isPlacing (am_fc cw_X12_bits (am_fc cw_X12_ageOn (am_fc cw_X12_day (am_fc cw_X12_servant (am_fc cw_X12_house (am_fc cw_X12_lag (am_fc cw_X12_place (am_fc cw_X12_letters (am_fc cw_X12_placing (am_fc cw_X12_leave (am_fc cw_X12_undo (am_fc cw_X12_isKnown (am_fc cw_X12_endOf (am_fc cw_X12_inOf (am_fc cw_X12_in (am_fc cw_X12_holderOf (am_fc cw_X12_holder (am_fc cw_X12_twice (am_fc cw_X12_feeOf (am_fc cw_X12_backOf (am_fc cw_X12_owedOf (am_fc cw_X12_placed (am_fc cw_X12_wages (am_fc cw_X12_feed (am_fc cw_X12_four (am_fc cw_X12_blanks (am_fc cw_X12_word (am_fc cw_X12_takes (am_fc cw_X12_takesSign (am_fc cw_X12_takesNumber (am_fc cw_X12_takesPlain (am_fc cw_X12_node (am_fc cw_X12_any (am_fn))))))))))))))))))))))))))))))))))))))))
def am_ms_4 : List (MethodName × ByteArray × Nat × Option FieldType) := [(yX12_all, cX12_all, 4, some (.int)), (yX12_told, cX12_told, 2, some (.int)), (yX12_single, cX12_single, 3, some (.int)), (yX12_postHere, cX12_postHere, 1, some (.int)), (yX12_condition, cX12_condition, 2, some (.boolean)), (yX12_fee, cX12_fee, 2, some (.boolean)), (yX12_plain, cX12_plain, 2, some (.boolean)), (yX12_ofPost, cX12_ofPost, 2, some (.boolean)), (yX12_statement, cX12_statement, 3, some (.boolean)), (yX12_rules, cX12_rules, 4, some (.int)), (yX12_fault, cX12_fault, 1, some (.int)), (yX12_inForce, cX12_inForce, 4, some (.int)), (yX12_last, cX12_last, 6, some (.int)), (yX12_tells, cX12_tells, 6, some (.int)), (yX12_firstOf, cX12_firstOf, 8, some (.int)), (yX12_holds, cX12_holds, 3, some (.boolean)), (yX12_law, cX12_law, 4, some (.int)), (yX12_fitOf, cX12_fitOf, 5, some (.int)), (yX12_fit, cX12_fit, 4, some (.int)), (yX12_write, cX12_write, 6, some (.int)), (yX12_written, cX12_written, 3, some (.int)), (yX12_falseBy, cX12_falseBy, 6, some (.int)), (yX12_isFalse, cX12_isFalse, 3, some (.int)), (yX12_behind, cX12_behind, 4, some (.int)), (yX12_habit, cX12_habit, 8, some (.int)), (yX12_wish, cX12_wish, 9, some (.int)), (yX12_put, cX12_put, 4, none), (yX12_whoTakesPart, cX12_whoTakesPart, 2, none), (yX12_mayBe, cX12_mayBe, 3, some (.boolean)), (yX12_nth, cX12_nth, 4, some (.int)), (yX12_deals, cX12_deals, 3, none), (yX12_asks, cX12_asks, 4, none), (yX12_dealt, cX12_dealt, 2, some (.int)), (yX12_tell, cX12_tell, 3, some (.boolean)), (yX12_toldHolder, cX12_toldHolder, 3, some (.int)), (yX12_judge, cX12_judge, 3, some (.int)), (yX12_leaves, cX12_leaves, 6, some (.boolean)), (yX12_steps, cX12_steps, 8, some (.int)), (yX12_clear, cX12_clear, 2, some (.int)), (yX12_empty, cX12_empty, 5, some (.int))]
theorem am_cd_4 : ∀ q ∈ am_ms_4, Cond.code q.1 q.2.1 q.2.2.1 q.2.2.2 ∈ am_T := am_fc cw_X12_all (am_fc cw_X12_told (am_fc cw_X12_single (am_fc cw_X12_postHere (am_fc cw_X12_condition (am_fc cw_X12_fee (am_fc cw_X12_plain (am_fc cw_X12_ofPost (am_fc cw_X12_statement (am_fc cw_X12_rules (am_fc cw_X12_fault (am_fc cw_X12_inForce (am_fc cw_X12_last (am_fc cw_X12_tells (am_fc cw_X12_firstOf (am_fc cw_X12_holds (am_fc cw_X12_law (am_fc cw_X12_fitOf (am_fc cw_X12_fit (am_fc cw_X12_write (am_fc cw_X12_written (am_fc cw_X12_falseBy (am_fc cw_X12_isFalse (am_fc cw_X12_behind (am_fc cw_X12_habit (am_fc cw_X12_wish (am_fc cw_X12_put (am_fc cw_X12_whoTakesPart (am_fc cw_X12_mayBe (am_fc cw_X12_nth (am_fc cw_X12_deals (am_fc cw_X12_asks (am_fc cw_X12_dealt (am_fc cw_X12_tell (am_fc cw_X12_toldHolder (am_fc cw_X12_judge (am_fc cw_X12_leaves (am_fc cw_X12_steps (am_fc cw_X12_clear (am_fc cw_X12_empty (am_fn))))))))))))))))))))))))))))))))))))))))
def am_ms_5 : List (MethodName × ByteArray × Nat × Option FieldType) := [(yX12_free, cX12_free, 5, some (.int)), (yX12_rows, cX12_rows, 6, none), (yX12_isLess, cX12_isLess, 2, some (.boolean)), (yX12_chain, cX12_chain, 2, some (.int)), (yX12_ask, cX12_ask, 4, some (.int)), (yX12_areLike, cX12_areLike, 5, some (.boolean)), (yX12_like, cX12_like, 5, some (.int)), (yX12_box, cX12_box, 5, some (.int)), (yX12_wasLeftSoon, cX12_wasLeftSoon, 2, some (.boolean)), (yX12_leftMore, cX12_leftMore, 8, some (.int)), (yX12_count, cX12_count, 4, some (.int)), (yJ6_bitCount_0f7a4, cJ6_bitCount_0f7a4, 1, some (.int)), (yJ0_length_8abf5, cJ0_length_8abf5, 1, some (.int)), (yJ0_charAt_5068e, cJ0_charAt_5068e, 2, some (.char)), (yJ0_indexOf_0f7a4, cJ0_indexOf_0f7a4, 2, some (.int)), (yJ0_indexOf_7cf53, cJ0_indexOf_7cf53, 3, some (.int)), (yJ0_coder_7d493, cJ0_coder_7d493, 1, some (.byte)), (yJ0_isLatin1_aae02, cJ0_isLatin1_aae02, 1, some (.boolean)), (yJ0_checkIndex_df160, cJ0_checkIndex_df160, 2, none), (yJ1_charAt_3b067, cJ1_charAt_3b067, 2, some (.char)), (yJ1_canEncode_9a6ad, cJ1_canEncode_9a6ad, 1, some (.boolean)), (yJ1_indexOf_4cfef, cJ1_indexOf_4cfef, 4, some (.int)), (yJ1_indexOfChar_4cfef, cJ1_indexOfChar_4cfef, 6, some (.int)), (yJxa1e45_init_da8c8, cJxa1e45_init_da8c8, 1, none), (yJxc12de_init_da8c8, cJxc12de_init_da8c8, 1, none), (yJx4a65c_init_da8c8, cJx4a65c_init_da8c8, 1, none), (yJx4a65c_grow_92f84, cJx4a65c_grow_92f84, 4, some (.array (.object "java/lang/Object"))), (yJx4a65c_grow_d5877, cJx4a65c_grow_d5877, 1, some (.array (.object "java/lang/Object"))), (yJx4a65c_size_8abf5, cJx4a65c_size_8abf5, 1, some (.int)), (yJx4a65c_elementData_915e3, cJx4a65c_elementData_915e3, 2, some (.object "java/lang/Object")), (yJx4a65c_get_915e3, cJx4a65c_get_915e3, 2, some (.object "java/lang/Object")), (yJx4a65c_add_72be8, cJx4a65c_add_72be8, 4, none), (yJx4a65c_add_9ea2d, cJx4a65c_add_9ea2d, 2, some (.boolean)), (yJ7_fill_53178, cJ7_fill_53178, 4, none), (yJ7_copyOf_1904c, cJ7_copyOf_1904c, 2, some (.array (.object "java/lang/Object"))), (yJ7_copyOf_6403c, cJ7_copyOf_6403c, 4, some (.array (.object "java/lang/Object"))), (yJ7_copyOf_59c91, cJ7_copyOf_59c91, 3, some (.array .int)), (yJ15_checkIndex_7cf53, cJ15_checkIndex_7cf53, 2, some (.int)), (yJ8_newLength_cabcc, cJ8_newLength_cabcc, 4, some (.int)), (yJ3_checkIndex_8e157, cJ3_checkIndex_8e157, 3, some (.int))]
theorem am_cd_5 : ∀ q ∈ am_ms_5, Cond.code q.1 q.2.1 q.2.2.1 q.2.2.2 ∈ am_T := am_fc cw_X12_free (am_fc cw_X12_rows (am_fc cw_X12_isLess (am_fc cw_X12_chain (am_fc cw_X12_ask (am_fc cw_X12_areLike (am_fc cw_X12_like (am_fc cw_X12_box (am_fc cw_X12_wasLeftSoon (am_fc cw_X12_leftMore (am_fc cw_X12_count (am_fc cw_J6_bitCount_0f7a4 (am_fc cw_J0_length_8abf5 (am_fc cw_J0_charAt_5068e (am_fc cw_J0_indexOf_0f7a4 (am_fc cw_J0_indexOf_7cf53 (am_fc cw_J0_coder_7d493 (am_fc cw_J0_isLatin1_aae02 (am_fc cw_J0_checkIndex_df160 (am_fc cw_J1_charAt_3b067 (am_fc cw_J1_canEncode_9a6ad (am_fc cw_J1_indexOf_4cfef (am_fc cw_J1_indexOfChar_4cfef (am_fc cw_Jxa1e45_init_da8c8 (am_fc cw_Jxc12de_init_da8c8 (am_fc cw_Jx4a65c_init_da8c8 (am_fc cw_Jx4a65c_grow_92f84 (am_fc cw_Jx4a65c_grow_d5877 (am_fc cw_Jx4a65c_size_8abf5 (am_fc cw_Jx4a65c_elementData_915e3 (am_fc cw_Jx4a65c_get_915e3 (am_fc cw_Jx4a65c_add_72be8 (am_fc cw_Jx4a65c_add_9ea2d (am_fc cw_J7_fill_53178 (am_fc cw_J7_copyOf_1904c (am_fc cw_J7_copyOf_6403c (am_fc cw_J7_copyOf_59c91 (am_fc cw_J15_checkIndex_7cf53 (am_fc cw_J8_newLength_cabcc (am_fc cw_J3_checkIndex_8e157 (am_fn))))))))))))))))))))))))))))))))))))))))
set_option maxRecDepth 1000000 in
theorem am_ms_eq : am_ms.drop 1 = am_ms_0 ++ (am_ms_1 ++ (am_ms_2 ++ (am_ms_3 ++ (am_ms_4 ++ (am_ms_5))))) := rfl
theorem am_cd_ok : ∀ q ∈ am_ms.drop 1, Cond.code q.1 q.2.1 q.2.2.1 q.2.2.2 ∈ am_T := fun q h => by rw [am_ms_eq] at h; exact (List.mem_append.mp h).elim (am_cd_0 q) (fun h => (List.mem_append.mp h).elim (am_cd_1 q) (fun h => (List.mem_append.mp h).elim (am_cd_2 q) (fun h => (List.mem_append.mp h).elim (am_cd_3 q) (fun h => (List.mem_append.mp h).elim (am_cd_4 q) (fun h => am_cd_5 q h)))))
