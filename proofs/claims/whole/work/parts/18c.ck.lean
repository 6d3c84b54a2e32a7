set_option maxRecDepth 1000000 in
theorem ck_X3_falsehood_0 : am_okJ 4 false cX3_falsehood (some (.int)) tb_X3_falsehood 0 = true := by decide +kernel
set_option maxRecDepth 1000000 in
theorem ck_X3_falsehood_1 : am_okJ 4 false cX3_falsehood (some (.int)) tb_X3_falsehood 1 = true := by decide +kernel
set_option maxRecDepth 1000000 in
theorem ck_X3_falsehood_2 : am_okJ 4 false cX3_falsehood (some (.int)) tb_X3_falsehood 2 = true := by decide +kernel
set_option maxRecDepth 1000000 in
theorem ck_X3_falsehood_3 : am_okJ 4 false cX3_falsehood (some (.int)) tb_X3_falsehood 3 = true := by decide +kernel
set_option maxRecDepth 1000000 in
theorem ck_X3_falsehood_4 : am_okJ 4 false cX3_falsehood (some (.int)) tb_X3_falsehood 4 = true := by decide +kernel
set_option maxRecDepth 1000000 in
theorem ck_X3_falsehood_5 : am_okJ 4 false cX3_falsehood (some (.int)) tb_X3_falsehood 5 = true := by decide +kernel
set_option maxRecDepth 1000000 in
theorem ck_X3_falsehood : am_okT 4 false cX3_falsehood (some (.int)) tb_X3_falsehood = true := am_okJ_s rfl (am_j1 (am_j1 (am_j1 (am_j1 (am_j1 (am_j1 (am_j0) ck_X3_falsehood_0) ck_X3_falsehood_1) ck_X3_falsehood_2) ck_X3_falsehood_3) ck_X3_falsehood_4) ck_X3_falsehood_5)
set_option maxRecDepth 1000000 in
theorem ck_X3_provenBy_0 : am_okJ 4 false cX3_provenBy (some (.object "ServantRegistry$Placing")) tb_X3_provenBy 0 = true := by decide +kernel
set_option maxRecDepth 1000000 in
theorem ck_X3_provenBy_1 : am_okJ 4 false cX3_provenBy (some (.object "ServantRegistry$Placing")) tb_X3_provenBy 1 = true := by decide +kernel
set_option maxRecDepth 1000000 in
theorem ck_X3_provenBy_2 : am_okJ 4 false cX3_provenBy (some (.object "ServantRegistry$Placing")) tb_X3_provenBy 2 = true := by decide +kernel
set_option maxRecDepth 1000000 in
theorem ck_X3_provenBy_3 : am_okJ 4 false cX3_provenBy (some (.object "ServantRegistry$Placing")) tb_X3_provenBy 3 = true := by decide +kernel
set_option maxRecDepth 1000000 in
theorem ck_X3_provenBy_4 : am_okJ 4 false cX3_provenBy (some (.object "ServantRegistry$Placing")) tb_X3_provenBy 4 = true := by decide +kernel
set_option maxRecDepth 1000000 in
theorem ck_X3_provenBy_5 : am_okJ 4 false cX3_provenBy (some (.object "ServantRegistry$Placing")) tb_X3_provenBy 5 = true := by decide +kernel
set_option maxRecDepth 1000000 in
theorem ck_X3_provenBy_6 : am_okJ 4 false cX3_provenBy (some (.object "ServantRegistry$Placing")) tb_X3_provenBy 6 = true := by decide +kernel
set_option maxRecDepth 1000000 in
theorem ck_X3_provenBy : am_okT 4 false cX3_provenBy (some (.object "ServantRegistry$Placing")) tb_X3_provenBy = true := am_okJ_s rfl (am_j1 (am_j1 (am_j1 (am_j1 (am_j1 (am_j1 (am_j1 (am_j0) ck_X3_provenBy_0) ck_X3_provenBy_1) ck_X3_provenBy_2) ck_X3_provenBy_3) ck_X3_provenBy_4) ck_X3_provenBy_5) ck_X3_provenBy_6)
set_option maxRecDepth 1000000 in
theorem ck_X3_knownOf_0 : am_okJ 4 false cX3_knownOf (some (.int)) tb_X3_knownOf 0 = true := by decide +kernel
set_option maxRecDepth 1000000 in
theorem ck_X3_knownOf_1 : am_okJ 4 false cX3_knownOf (some (.int)) tb_X3_knownOf 1 = true := by decide +kernel
set_option maxRecDepth 1000000 in
theorem ck_X3_knownOf_2 : am_okJ 4 false cX3_knownOf (some (.int)) tb_X3_knownOf 2 = true := by decide +kernel
set_option maxRecDepth 1000000 in
theorem ck_X3_knownOf : am_okT 4 false cX3_knownOf (some (.int)) tb_X3_knownOf = true := am_okJ_s rfl (am_j1 (am_j1 (am_j1 (am_j0) ck_X3_knownOf_0) ck_X3_knownOf_1) ck_X3_knownOf_2)
set_option maxRecDepth 1000000 in
theorem ck_X3_hundredthsLeft_0 : am_okJ 4 false cX3_hundredthsLeft (some (.int)) tb_X3_hundredthsLeft 0 = true := by decide +kernel
set_option maxRecDepth 1000000 in
theorem ck_X3_hundredthsLeft_1 : am_okJ 4 false cX3_hundredthsLeft (some (.int)) tb_X3_hundredthsLeft 1 = true := by decide +kernel
set_option maxRecDepth 1000000 in
theorem ck_X3_hundredthsLeft_2 : am_okJ 4 false cX3_hundredthsLeft (some (.int)) tb_X3_hundredthsLeft 2 = true := by decide +kernel
set_option maxRecDepth 1000000 in
theorem ck_X3_hundredthsLeft_3 : am_okJ 4 false cX3_hundredthsLeft (some (.int)) tb_X3_hundredthsLeft 3 = true := by decide +kernel
set_option maxRecDepth 1000000 in
theorem ck_X3_hundredthsLeft_4 : am_okJ 4 false cX3_hundredthsLeft (some (.int)) tb_X3_hundredthsLeft 4 = true := by decide +kernel
set_option maxRecDepth 1000000 in
theorem ck_X3_hundredthsLeft : am_okT 4 false cX3_hundredthsLeft (some (.int)) tb_X3_hundredthsLeft = true := am_okJ_s rfl (am_j1 (am_j1 (am_j1 (am_j1 (am_j1 (am_j0) ck_X3_hundredthsLeft_0) ck_X3_hundredthsLeft_1) ck_X3_hundredthsLeft_2) ck_X3_hundredthsLeft_3) ck_X3_hundredthsLeft_4)
set_option maxRecDepth 1000000 in
theorem ck_X3_leftCount_0 : am_okJ 4 false cX3_leftCount (some (.int)) tb_X3_leftCount 0 = true := by decide +kernel
set_option maxRecDepth 1000000 in
theorem ck_X3_leftCount_1 : am_okJ 4 false cX3_leftCount (some (.int)) tb_X3_leftCount 1 = true := by decide +kernel
set_option maxRecDepth 1000000 in
theorem ck_X3_leftCount_2 : am_okJ 4 false cX3_leftCount (some (.int)) tb_X3_leftCount 2 = true := by decide +kernel
set_option maxRecDepth 1000000 in
theorem ck_X3_leftCount : am_okT 4 false cX3_leftCount (some (.int)) tb_X3_leftCount = true := am_okJ_s rfl (am_j1 (am_j1 (am_j1 (am_j0) ck_X3_leftCount_0) ck_X3_leftCount_1) ck_X3_leftCount_2)
set_option maxRecDepth 1000000 in
theorem ck_X3_undoneCount_0 : am_okJ 4 false cX3_undoneCount (some (.int)) tb_X3_undoneCount 0 = true := by decide +kernel
set_option maxRecDepth 1000000 in
theorem ck_X3_undoneCount_1 : am_okJ 4 false cX3_undoneCount (some (.int)) tb_X3_undoneCount 1 = true := by decide +kernel
set_option maxRecDepth 1000000 in
theorem ck_X3_undoneCount_2 : am_okJ 4 false cX3_undoneCount (some (.int)) tb_X3_undoneCount 2 = true := by decide +kernel
set_option maxRecDepth 1000000 in
theorem ck_X3_undoneCount : am_okT 4 false cX3_undoneCount (some (.int)) tb_X3_undoneCount = true := am_okJ_s rfl (am_j1 (am_j1 (am_j1 (am_j0) ck_X3_undoneCount_0) ck_X3_undoneCount_1) ck_X3_undoneCount_2)
set_option maxRecDepth 1000000 in
theorem ck_X4_init_0 : am_okJ 5 true cX4_init (none) tb_X4_init 0 = true := by decide +kernel
set_option maxRecDepth 1000000 in
theorem ck_X4_init_1 : am_okJ 5 true cX4_init (none) tb_X4_init 1 = true := by decide +kernel
set_option maxRecDepth 1000000 in
theorem ck_X4_init_2 : am_okJ 5 true cX4_init (none) tb_X4_init 2 = true := by decide +kernel
set_option maxRecDepth 1000000 in
theorem ck_X4_init : am_okT 5 true cX4_init (none) tb_X4_init = true := am_okJ_s rfl (am_j1 (am_j1 (am_j1 (am_j0) ck_X4_init_0) ck_X4_init_1) ck_X4_init_2)
set_option maxRecDepth 1000000 in
theorem ck_X5_init_0 : am_okJ 6 true cX5_init (none) tb_X5_init 0 = true := by decide +kernel
set_option maxRecDepth 1000000 in
theorem ck_X5_init_1 : am_okJ 6 true cX5_init (none) tb_X5_init 1 = true := by decide +kernel
set_option maxRecDepth 1000000 in
theorem ck_X5_init_2 : am_okJ 6 true cX5_init (none) tb_X5_init 2 = true := by decide +kernel
set_option maxRecDepth 1000000 in
theorem ck_X5_init : am_okT 6 true cX5_init (none) tb_X5_init = true := am_okJ_s rfl (am_j1 (am_j1 (am_j1 (am_j0) ck_X5_init_0) ck_X5_init_1) ck_X5_init_2)
set_option maxRecDepth 1000000 in
theorem ck_X5_isKnownBy_0 : am_okJ 6 false cX5_isKnownBy (some (.boolean)) tb_X5_isKnownBy 0 = true := by decide +kernel
set_option maxRecDepth 1000000 in
theorem ck_X5_isKnownBy_1 : am_okJ 6 false cX5_isKnownBy (some (.boolean)) tb_X5_isKnownBy 1 = true := by decide +kernel
set_option maxRecDepth 1000000 in
theorem ck_X5_isKnownBy : am_okT 6 false cX5_isKnownBy (some (.boolean)) tb_X5_isKnownBy = true := am_okJ_s rfl (am_j1 (am_j1 (am_j0) ck_X5_isKnownBy_0) ck_X5_isKnownBy_1)
set_option maxRecDepth 1000000 in
theorem ck_X5_isKnownLeftBy_0 : am_okJ 6 false cX5_isKnownLeftBy (some (.boolean)) tb_X5_isKnownLeftBy 0 = true := by decide +kernel
set_option maxRecDepth 1000000 in
theorem ck_X5_isKnownLeftBy : am_okT 6 false cX5_isKnownLeftBy (some (.boolean)) tb_X5_isKnownLeftBy = true := am_okJ_s rfl (am_j1 (am_j0) ck_X5_isKnownLeftBy_0)
set_option maxRecDepth 1000000 in
theorem ck_X5_endAsKnown_0 : am_okJ 6 false cX5_endAsKnown (some (.int)) tb_X5_endAsKnown 0 = true := by decide +kernel
set_option maxRecDepth 1000000 in
theorem ck_X5_endAsKnown : am_okT 6 false cX5_endAsKnown (some (.int)) tb_X5_endAsKnown = true := am_okJ_s rfl (am_j1 (am_j0) ck_X5_endAsKnown_0)
set_option maxRecDepth 1000000 in
theorem ck_X5_sharesDayWith_0 : am_okJ 6 false cX5_sharesDayWith (some (.boolean)) tb_X5_sharesDayWith 0 = true := by decide +kernel
set_option maxRecDepth 1000000 in
theorem ck_X5_sharesDayWith_1 : am_okJ 6 false cX5_sharesDayWith (some (.boolean)) tb_X5_sharesDayWith 1 = true := by decide +kernel
set_option maxRecDepth 1000000 in
theorem ck_X5_sharesDayWith : am_okT 6 false cX5_sharesDayWith (some (.boolean)) tb_X5_sharesDayWith = true := am_okJ_s rfl (am_j1 (am_j1 (am_j0) ck_X5_sharesDayWith_0) ck_X5_sharesDayWith_1)
set_option maxRecDepth 1000000 in
theorem ck_X5_isLeftSoonForFault_0 : am_okJ 6 false cX5_isLeftSoonForFault (some (.boolean)) tb_X5_isLeftSoonForFault 0 = true := by decide +kernel
set_option maxRecDepth 1000000 in
theorem ck_X5_isLeftSoonForFault_1 : am_okJ 6 false cX5_isLeftSoonForFault (some (.boolean)) tb_X5_isLeftSoonForFault 1 = true := by decide +kernel
set_option maxRecDepth 1000000 in
theorem ck_X5_isLeftSoonForFault : am_okT 6 false cX5_isLeftSoonForFault (some (.boolean)) tb_X5_isLeftSoonForFault = true := am_okJ_s rfl (am_j1 (am_j1 (am_j0) ck_X5_isLeftSoonForFault_0) ck_X5_isLeftSoonForFault_1)
set_option maxRecDepth 1000000 in
theorem ck_X6_init_0 : am_okJ 7 true cX6_init (none) tb_X6_init 0 = true := by decide +kernel
set_option maxRecDepth 1000000 in
theorem ck_X6_init_1 : am_okJ 7 true cX6_init (none) tb_X6_init 1 = true := by decide +kernel
set_option maxRecDepth 1000000 in
theorem ck_X6_init : am_okT 7 true cX6_init (none) tb_X6_init = true := am_okJ_s rfl (am_j1 (am_j1 (am_j0) ck_X6_init_0) ck_X6_init_1)
set_option maxRecDepth 1000000 in
theorem ck_X6_append_0 : am_okJ 7 false cX6_append (none) tb_X6_append 0 = true := by decide +kernel
set_option maxRecDepth 1000000 in
theorem ck_X6_append_1 : am_okJ 7 false cX6_append (none) tb_X6_append 1 = true := by decide +kernel
set_option maxRecDepth 1000000 in
theorem ck_X6_append_2 : am_okJ 7 false cX6_append (none) tb_X6_append 2 = true := by decide +kernel
set_option maxRecDepth 1000000 in
theorem ck_X6_append : am_okT 7 false cX6_append (none) tb_X6_append = true := am_okJ_s rfl (am_j1 (am_j1 (am_j1 (am_j0) ck_X6_append_0) ck_X6_append_1) ck_X6_append_2)
set_option maxRecDepth 1000000 in
theorem ck_X6_readInto_0 : am_okJ 7 false cX6_readInto (some (.boolean)) tb_X6_readInto 0 = true := by decide +kernel
set_option maxRecDepth 1000000 in
theorem ck_X6_readInto_1 : am_okJ 7 false cX6_readInto (some (.boolean)) tb_X6_readInto 1 = true := by decide +kernel
set_option maxRecDepth 1000000 in
theorem ck_X6_readInto_2 : am_okJ 7 false cX6_readInto (some (.boolean)) tb_X6_readInto 2 = true := by decide +kernel
set_option maxRecDepth 1000000 in
theorem ck_X6_readInto_3 : am_okJ 7 false cX6_readInto (some (.boolean)) tb_X6_readInto 3 = true := by decide +kernel
set_option maxRecDepth 1000000 in
theorem ck_X6_readInto_4 : am_okJ 7 false cX6_readInto (some (.boolean)) tb_X6_readInto 4 = true := by decide +kernel
set_option maxRecDepth 1000000 in
theorem ck_X6_readInto : am_okT 7 false cX6_readInto (some (.boolean)) tb_X6_readInto = true := am_okJ_s rfl (am_j1 (am_j1 (am_j1 (am_j1 (am_j1 (am_j0) ck_X6_readInto_0) ck_X6_readInto_1) ck_X6_readInto_2) ck_X6_readInto_3) ck_X6_readInto_4)
set_option maxRecDepth 1000000 in
theorem ck_X6_readStatement_0 : am_okJ 7 false cX6_readStatement (none) tb_X6_readStatement 0 = true := by decide +kernel
set_option maxRecDepth 1000000 in
theorem ck_X6_readStatement_1 : am_okJ 7 false cX6_readStatement (none) tb_X6_readStatement 1 = true := by decide +kernel
set_option maxRecDepth 1000000 in
theorem ck_X6_readStatement_2 : am_okJ 7 false cX6_readStatement (none) tb_X6_readStatement 2 = true := by decide +kernel
set_option maxRecDepth 1000000 in
theorem ck_X6_readStatement_3 : am_okJ 7 false cX6_readStatement (none) tb_X6_readStatement 3 = true := by decide +kernel
set_option maxRecDepth 1000000 in
theorem ck_X6_readStatement_4 : am_okJ 7 false cX6_readStatement (none) tb_X6_readStatement 4 = true := by decide +kernel
set_option maxRecDepth 1000000 in
theorem ck_X6_readStatement_5 : am_okJ 7 false cX6_readStatement (none) tb_X6_readStatement 5 = true := by decide +kernel
set_option maxRecDepth 1000000 in
theorem ck_X6_readStatement_6 : am_okJ 7 false cX6_readStatement (none) tb_X6_readStatement 6 = true := by decide +kernel
set_option maxRecDepth 1000000 in
theorem ck_X6_readStatement_7 : am_okJ 7 false cX6_readStatement (none) tb_X6_readStatement 7 = true := by decide +kernel
set_option maxRecDepth 1000000 in
theorem ck_X6_readStatement_8 : am_okJ 7 false cX6_readStatement (none) tb_X6_readStatement 8 = true := by decide +kernel
set_option maxRecDepth 1000000 in
theorem ck_X6_readStatement_9 : am_okJ 7 false cX6_readStatement (none) tb_X6_readStatement 9 = true := by decide +kernel
set_option maxRecDepth 1000000 in
theorem ck_X6_readStatement_10 : am_okJ 7 false cX6_readStatement (none) tb_X6_readStatement 10 = true := by decide +kernel
set_option maxRecDepth 1000000 in
theorem ck_X6_readStatement : am_okT 7 false cX6_readStatement (none) tb_X6_readStatement = true := am_okJ_s rfl (am_j1 (am_j1 (am_j1 (am_j1 (am_j1 (am_j1 (am_j1 (am_j1 (am_j1 (am_j1 (am_j1 (am_j0) ck_X6_readStatement_0) ck_X6_readStatement_1) ck_X6_readStatement_2) ck_X6_readStatement_3) ck_X6_readStatement_4) ck_X6_readStatement_5) ck_X6_readStatement_6) ck_X6_readStatement_7) ck_X6_readStatement_8) ck_X6_readStatement_9) ck_X6_readStatement_10)
set_option maxRecDepth 1000000 in
theorem ck_X6_readAny_0 : am_okJ 7 false cX6_readAny (none) tb_X6_readAny 0 = true := by decide +kernel
set_option maxRecDepth 1000000 in
theorem ck_X6_readAny_1 : am_okJ 7 false cX6_readAny (none) tb_X6_readAny 1 = true := by decide +kernel
set_option maxRecDepth 1000000 in
theorem ck_X6_readAny_2 : am_okJ 7 false cX6_readAny (none) tb_X6_readAny 2 = true := by decide +kernel
set_option maxRecDepth 1000000 in
theorem ck_X6_readAny_3 : am_okJ 7 false cX6_readAny (none) tb_X6_readAny 3 = true := by decide +kernel
set_option maxRecDepth 1000000 in
theorem ck_X6_readAny_4 : am_okJ 7 false cX6_readAny (none) tb_X6_readAny 4 = true := by decide +kernel
set_option maxRecDepth 1000000 in
theorem ck_X6_readAny : am_okT 7 false cX6_readAny (none) tb_X6_readAny = true := am_okJ_s rfl (am_j1 (am_j1 (am_j1 (am_j1 (am_j1 (am_j0) ck_X6_readAny_0) ck_X6_readAny_1) ck_X6_readAny_2) ck_X6_readAny_3) ck_X6_readAny_4)
set_option maxRecDepth 1000000 in
theorem ck_X6_readOne_0 : am_okJ 7 false cX6_readOne (none) tb_X6_readOne 0 = true := by decide +kernel
set_option maxRecDepth 1000000 in
theorem ck_X6_readOne_1 : am_okJ 7 false cX6_readOne (none) tb_X6_readOne 1 = true := by decide +kernel
set_option maxRecDepth 1000000 in
theorem ck_X6_readOne_2 : am_okJ 7 false cX6_readOne (none) tb_X6_readOne 2 = true := by decide +kernel
set_option maxRecDepth 1000000 in
theorem ck_X6_readOne_3 : am_okJ 7 false cX6_readOne (none) tb_X6_readOne 3 = true := by decide +kernel
set_option maxRecDepth 1000000 in
theorem ck_X6_readOne_4 : am_okJ 7 false cX6_readOne (none) tb_X6_readOne 4 = true := by decide +kernel
set_option maxRecDepth 1000000 in
theorem ck_X6_readOne_5 : am_okJ 7 false cX6_readOne (none) tb_X6_readOne 5 = true := by decide +kernel
set_option maxRecDepth 1000000 in
theorem ck_X6_readOne : am_okT 7 false cX6_readOne (none) tb_X6_readOne = true := am_okJ_s rfl (am_j1 (am_j1 (am_j1 (am_j1 (am_j1 (am_j1 (am_j0) ck_X6_readOne_0) ck_X6_readOne_1) ck_X6_readOne_2) ck_X6_readOne_3) ck_X6_readOne_4) ck_X6_readOne_5)
set_option maxRecDepth 1000000 in
theorem ck_X6_emit_0 : am_okJ 7 false cX6_emit (none) tb_X6_emit 0 = true := by decide +kernel
set_option maxRecDepth 1000000 in
theorem ck_X6_emit_1 : am_okJ 7 false cX6_emit (none) tb_X6_emit 1 = true := by decide +kernel
set_option maxRecDepth 1000000 in
theorem ck_X6_emit : am_okT 7 false cX6_emit (none) tb_X6_emit = true := am_okJ_s rfl (am_j1 (am_j1 (am_j0) ck_X6_emit_0) ck_X6_emit_1)
set_option maxRecDepth 1000000 in
theorem ck_X6_refuse_0 : am_okJ 7 false cX6_refuse (none) tb_X6_refuse 0 = true := by decide +kernel
set_option maxRecDepth 1000000 in
theorem ck_X6_refuse : am_okT 7 false cX6_refuse (none) tb_X6_refuse = true := am_okJ_s rfl (am_j1 (am_j0) ck_X6_refuse_0)
set_option maxRecDepth 1000000 in
theorem ck_X6_takeWord_0 : am_okJ 7 false cX6_takeWord (some (.int)) tb_X6_takeWord 0 = true := by decide +kernel
set_option maxRecDepth 1000000 in
theorem ck_X6_takeWord_1 : am_okJ 7 false cX6_takeWord (some (.int)) tb_X6_takeWord 1 = true := by decide +kernel
set_option maxRecDepth 1000000 in
theorem ck_X6_takeWord : am_okT 7 false cX6_takeWord (some (.int)) tb_X6_takeWord = true := am_okJ_s rfl (am_j1 (am_j1 (am_j0) ck_X6_takeWord_0) ck_X6_takeWord_1)
set_option maxRecDepth 1000000 in
theorem ck_X6_takeNumber_0 : am_okJ 7 false cX6_takeNumber (some (.int)) tb_X6_takeNumber 0 = true := by decide +kernel
set_option maxRecDepth 1000000 in
theorem ck_X6_takeNumber_1 : am_okJ 7 false cX6_takeNumber (some (.int)) tb_X6_takeNumber 1 = true := by decide +kernel
set_option maxRecDepth 1000000 in
theorem ck_X6_takeNumber_2 : am_okJ 7 false cX6_takeNumber (some (.int)) tb_X6_takeNumber 2 = true := by decide +kernel
set_option maxRecDepth 1000000 in
theorem ck_X6_takeNumber_3 : am_okJ 7 false cX6_takeNumber (some (.int)) tb_X6_takeNumber 3 = true := by decide +kernel
set_option maxRecDepth 1000000 in
theorem ck_X6_takeNumber : am_okT 7 false cX6_takeNumber (some (.int)) tb_X6_takeNumber = true := am_okJ_s rfl (am_j1 (am_j1 (am_j1 (am_j1 (am_j0) ck_X6_takeNumber_0) ck_X6_takeNumber_1) ck_X6_takeNumber_2) ck_X6_takeNumber_3)
set_option maxRecDepth 1000000 in
theorem ck_X6_takeComparison_0 : am_okJ 7 false cX6_takeComparison (some (.int)) tb_X6_takeComparison 0 = true := by decide +kernel
set_option maxRecDepth 1000000 in
theorem ck_X6_takeComparison_1 : am_okJ 7 false cX6_takeComparison (some (.int)) tb_X6_takeComparison 1 = true := by decide +kernel
set_option maxRecDepth 1000000 in
theorem ck_X6_takeComparison_2 : am_okJ 7 false cX6_takeComparison (some (.int)) tb_X6_takeComparison 2 = true := by decide +kernel
set_option maxRecDepth 1000000 in
theorem ck_X6_takeComparison : am_okT 7 false cX6_takeComparison (some (.int)) tb_X6_takeComparison = true := am_okJ_s rfl (am_j1 (am_j1 (am_j1 (am_j0) ck_X6_takeComparison_0) ck_X6_takeComparison_1) ck_X6_takeComparison_2)
set_option maxRecDepth 1000000 in
theorem ck_X6_takeSign_0 : am_okJ 7 false cX6_takeSign (none) tb_X6_takeSign 0 = true := by decide +kernel
set_option maxRecDepth 1000000 in
theorem ck_X6_takeSign_1 : am_okJ 7 false cX6_takeSign (none) tb_X6_takeSign 1 = true := by decide +kernel
set_option maxRecDepth 1000000 in
theorem ck_X6_takeSign : am_okT 7 false cX6_takeSign (none) tb_X6_takeSign = true := am_okJ_s rfl (am_j1 (am_j1 (am_j0) ck_X6_takeSign_0) ck_X6_takeSign_1)
set_option maxRecDepth 1000000 in
theorem ck_X6_isSign_0 : am_okJ 7 false cX6_isSign (some (.boolean)) tb_X6_isSign 0 = true := by decide +kernel
set_option maxRecDepth 1000000 in
theorem ck_X6_isSign_1 : am_okJ 7 false cX6_isSign (some (.boolean)) tb_X6_isSign 1 = true := by decide +kernel
set_option maxRecDepth 1000000 in
theorem ck_X6_isSign : am_okT 7 false cX6_isSign (some (.boolean)) tb_X6_isSign = true := am_okJ_s rfl (am_j1 (am_j1 (am_j0) ck_X6_isSign_0) ck_X6_isSign_1)
set_option maxRecDepth 1000000 in
theorem ck_X6_isWord_0 : am_okJ 7 false cX6_isWord (some (.boolean)) tb_X6_isWord 0 = true := by decide +kernel
set_option maxRecDepth 1000000 in
theorem ck_X6_isWord : am_okT 7 false cX6_isWord (some (.boolean)) tb_X6_isWord = true := am_okJ_s rfl (am_j1 (am_j0) ck_X6_isWord_0)
set_option maxRecDepth 1000000 in
theorem ck_X6_indexIn_0 : am_okJ 7 false cX6_indexIn (some (.int)) tb_X6_indexIn 0 = true := by decide +kernel
set_option maxRecDepth 1000000 in
theorem ck_X6_indexIn_1 : am_okJ 7 false cX6_indexIn (some (.int)) tb_X6_indexIn 1 = true := by decide +kernel
set_option maxRecDepth 1000000 in
theorem ck_X6_indexIn_2 : am_okJ 7 false cX6_indexIn (some (.int)) tb_X6_indexIn 2 = true := by decide +kernel
set_option maxRecDepth 1000000 in
theorem ck_X6_indexIn_3 : am_okJ 7 false cX6_indexIn (some (.int)) tb_X6_indexIn 3 = true := by decide +kernel
set_option maxRecDepth 1000000 in
theorem ck_X6_indexIn_4 : am_okJ 7 false cX6_indexIn (some (.int)) tb_X6_indexIn 4 = true := by decide +kernel
set_option maxRecDepth 1000000 in
theorem ck_X6_indexIn_5 : am_okJ 7 false cX6_indexIn (some (.int)) tb_X6_indexIn 5 = true := by decide +kernel
set_option maxRecDepth 1000000 in
theorem ck_X6_indexIn : am_okT 7 false cX6_indexIn (some (.int)) tb_X6_indexIn = true := am_okJ_s rfl (am_j1 (am_j1 (am_j1 (am_j1 (am_j1 (am_j1 (am_j0) ck_X6_indexIn_0) ck_X6_indexIn_1) ck_X6_indexIn_2) ck_X6_indexIn_3) ck_X6_indexIn_4) ck_X6_indexIn_5)
set_option maxRecDepth 1000000 in
theorem ck_X6_advance_0 : am_okJ 7 false cX6_advance (none) tb_X6_advance 0 = true := by decide +kernel
set_option maxRecDepth 1000000 in
theorem ck_X6_advance_1 : am_okJ 7 false cX6_advance (none) tb_X6_advance 1 = true := by decide +kernel
set_option maxRecDepth 1000000 in
theorem ck_X6_advance_2 : am_okJ 7 false cX6_advance (none) tb_X6_advance 2 = true := by decide +kernel
set_option maxRecDepth 1000000 in
theorem ck_X6_advance_3 : am_okJ 7 false cX6_advance (none) tb_X6_advance 3 = true := by decide +kernel
set_option maxRecDepth 1000000 in
theorem ck_X6_advance_4 : am_okJ 7 false cX6_advance (none) tb_X6_advance 4 = true := by decide +kernel
set_option maxRecDepth 1000000 in
theorem ck_X6_advance : am_okT 7 false cX6_advance (none) tb_X6_advance = true := am_okJ_s rfl (am_j1 (am_j1 (am_j1 (am_j1 (am_j1 (am_j0) ck_X6_advance_0) ck_X6_advance_1) ck_X6_advance_2) ck_X6_advance_3) ck_X6_advance_4)
