set_option maxRecDepth 1000000 in
theorem ck_X12_postHere_0 : am_okJ 13 false cX12_postHere (some (.int)) tb_X12_postHere 0 = true := by decide +kernel
set_option maxRecDepth 1000000 in
theorem ck_X12_postHere_1 : am_okJ 13 false cX12_postHere (some (.int)) tb_X12_postHere 1 = true := by decide +kernel
set_option maxRecDepth 1000000 in
theorem ck_X12_postHere_2 : am_okJ 13 false cX12_postHere (some (.int)) tb_X12_postHere 2 = true := by decide +kernel
set_option maxRecDepth 1000000 in
theorem ck_X12_postHere_3 : am_okJ 13 false cX12_postHere (some (.int)) tb_X12_postHere 3 = true := by decide +kernel
set_option maxRecDepth 1000000 in
theorem ck_X12_postHere : am_okT 13 false cX12_postHere (some (.int)) tb_X12_postHere = true := am_okJ_s rfl (am_j1 (am_j1 (am_j1 (am_j1 (am_j0) ck_X12_postHere_0) ck_X12_postHere_1) ck_X12_postHere_2) ck_X12_postHere_3)
set_option maxRecDepth 1000000 in
theorem ck_X12_condition_0 : am_okJ 13 false cX12_condition (some (.boolean)) tb_X12_condition 0 = true := by decide +kernel
set_option maxRecDepth 1000000 in
theorem ck_X12_condition_1 : am_okJ 13 false cX12_condition (some (.boolean)) tb_X12_condition 1 = true := by decide +kernel
set_option maxRecDepth 1000000 in
theorem ck_X12_condition_2 : am_okJ 13 false cX12_condition (some (.boolean)) tb_X12_condition 2 = true := by decide +kernel
set_option maxRecDepth 1000000 in
theorem ck_X12_condition : am_okT 13 false cX12_condition (some (.boolean)) tb_X12_condition = true := am_okJ_s rfl (am_j1 (am_j1 (am_j1 (am_j0) ck_X12_condition_0) ck_X12_condition_1) ck_X12_condition_2)
set_option maxRecDepth 1000000 in
theorem ck_X12_fee_0 : am_okJ 13 false cX12_fee (some (.boolean)) tb_X12_fee 0 = true := by decide +kernel
set_option maxRecDepth 1000000 in
theorem ck_X12_fee_1 : am_okJ 13 false cX12_fee (some (.boolean)) tb_X12_fee 1 = true := by decide +kernel
set_option maxRecDepth 1000000 in
theorem ck_X12_fee_2 : am_okJ 13 false cX12_fee (some (.boolean)) tb_X12_fee 2 = true := by decide +kernel
set_option maxRecDepth 1000000 in
theorem ck_X12_fee_3 : am_okJ 13 false cX12_fee (some (.boolean)) tb_X12_fee 3 = true := by decide +kernel
set_option maxRecDepth 1000000 in
theorem ck_X12_fee_4 : am_okJ 13 false cX12_fee (some (.boolean)) tb_X12_fee 4 = true := by decide +kernel
set_option maxRecDepth 1000000 in
theorem ck_X12_fee : am_okT 13 false cX12_fee (some (.boolean)) tb_X12_fee = true := am_okJ_s rfl (am_j1 (am_j1 (am_j1 (am_j1 (am_j1 (am_j0) ck_X12_fee_0) ck_X12_fee_1) ck_X12_fee_2) ck_X12_fee_3) ck_X12_fee_4)
set_option maxRecDepth 1000000 in
theorem ck_X12_plain_0 : am_okJ 13 false cX12_plain (some (.boolean)) tb_X12_plain 0 = true := by decide +kernel
set_option maxRecDepth 1000000 in
theorem ck_X12_plain_1 : am_okJ 13 false cX12_plain (some (.boolean)) tb_X12_plain 1 = true := by decide +kernel
set_option maxRecDepth 1000000 in
theorem ck_X12_plain : am_okT 13 false cX12_plain (some (.boolean)) tb_X12_plain = true := am_okJ_s rfl (am_j1 (am_j1 (am_j0) ck_X12_plain_0) ck_X12_plain_1)
set_option maxRecDepth 1000000 in
theorem ck_X12_ofPost_0 : am_okJ 13 false cX12_ofPost (some (.boolean)) tb_X12_ofPost 0 = true := by decide +kernel
set_option maxRecDepth 1000000 in
theorem ck_X12_ofPost_1 : am_okJ 13 false cX12_ofPost (some (.boolean)) tb_X12_ofPost 1 = true := by decide +kernel
set_option maxRecDepth 1000000 in
theorem ck_X12_ofPost : am_okT 13 false cX12_ofPost (some (.boolean)) tb_X12_ofPost = true := am_okJ_s rfl (am_j1 (am_j1 (am_j0) ck_X12_ofPost_0) ck_X12_ofPost_1)
set_option maxRecDepth 1000000 in
theorem ck_X12_statement_0 : am_okJ 13 false cX12_statement (some (.boolean)) tb_X12_statement 0 = true := by decide +kernel
set_option maxRecDepth 1000000 in
theorem ck_X12_statement_1 : am_okJ 13 false cX12_statement (some (.boolean)) tb_X12_statement 1 = true := by decide +kernel
set_option maxRecDepth 1000000 in
theorem ck_X12_statement_2 : am_okJ 13 false cX12_statement (some (.boolean)) tb_X12_statement 2 = true := by decide +kernel
set_option maxRecDepth 1000000 in
theorem ck_X12_statement_3 : am_okJ 13 false cX12_statement (some (.boolean)) tb_X12_statement 3 = true := by decide +kernel
set_option maxRecDepth 1000000 in
theorem ck_X12_statement_4 : am_okJ 13 false cX12_statement (some (.boolean)) tb_X12_statement 4 = true := by decide +kernel
set_option maxRecDepth 1000000 in
theorem ck_X12_statement_5 : am_okJ 13 false cX12_statement (some (.boolean)) tb_X12_statement 5 = true := by decide +kernel
set_option maxRecDepth 1000000 in
theorem ck_X12_statement_6 : am_okJ 13 false cX12_statement (some (.boolean)) tb_X12_statement 6 = true := by decide +kernel
set_option maxRecDepth 1000000 in
theorem ck_X12_statement_7 : am_okJ 13 false cX12_statement (some (.boolean)) tb_X12_statement 7 = true := by decide +kernel
set_option maxRecDepth 1000000 in
theorem ck_X12_statement_8 : am_okJ 13 false cX12_statement (some (.boolean)) tb_X12_statement 8 = true := by decide +kernel
set_option maxRecDepth 1000000 in
theorem ck_X12_statement_9 : am_okJ 13 false cX12_statement (some (.boolean)) tb_X12_statement 9 = true := by decide +kernel
set_option maxRecDepth 1000000 in
theorem ck_X12_statement_10 : am_okJ 13 false cX12_statement (some (.boolean)) tb_X12_statement 10 = true := by decide +kernel
set_option maxRecDepth 1000000 in
theorem ck_X12_statement_11 : am_okJ 13 false cX12_statement (some (.boolean)) tb_X12_statement 11 = true := by decide +kernel
set_option maxRecDepth 1000000 in
theorem ck_X12_statement_12 : am_okJ 13 false cX12_statement (some (.boolean)) tb_X12_statement 12 = true := by decide +kernel
set_option maxRecDepth 1000000 in
theorem ck_X12_statement_13 : am_okJ 13 false cX12_statement (some (.boolean)) tb_X12_statement 13 = true := by decide +kernel
set_option maxRecDepth 1000000 in
theorem ck_X12_statement_14 : am_okJ 13 false cX12_statement (some (.boolean)) tb_X12_statement 14 = true := by decide +kernel
set_option maxRecDepth 1000000 in
theorem ck_X12_statement_15 : am_okJ 13 false cX12_statement (some (.boolean)) tb_X12_statement 15 = true := by decide +kernel
set_option maxRecDepth 1000000 in
theorem ck_X12_statement_16 : am_okJ 13 false cX12_statement (some (.boolean)) tb_X12_statement 16 = true := by decide +kernel
set_option maxRecDepth 1000000 in
theorem ck_X12_statement_17 : am_okJ 13 false cX12_statement (some (.boolean)) tb_X12_statement 17 = true := by decide +kernel
set_option maxRecDepth 1000000 in
theorem ck_X12_statement : am_okT 13 false cX12_statement (some (.boolean)) tb_X12_statement = true := am_okJ_s rfl (am_j1 (am_j1 (am_j1 (am_j1 (am_j1 (am_j1 (am_j1 (am_j1 (am_j1 (am_j1 (am_j1 (am_j1 (am_j1 (am_j1 (am_j1 (am_j1 (am_j1 (am_j1 (am_j0) ck_X12_statement_0) ck_X12_statement_1) ck_X12_statement_2) ck_X12_statement_3) ck_X12_statement_4) ck_X12_statement_5) ck_X12_statement_6) ck_X12_statement_7) ck_X12_statement_8) ck_X12_statement_9) ck_X12_statement_10) ck_X12_statement_11) ck_X12_statement_12) ck_X12_statement_13) ck_X12_statement_14) ck_X12_statement_15) ck_X12_statement_16) ck_X12_statement_17)
set_option maxRecDepth 1000000 in
theorem ck_X12_rules_0 : am_okJ 13 false cX12_rules (some (.int)) tb_X12_rules 0 = true := by decide +kernel
set_option maxRecDepth 1000000 in
theorem ck_X12_rules_1 : am_okJ 13 false cX12_rules (some (.int)) tb_X12_rules 1 = true := by decide +kernel
set_option maxRecDepth 1000000 in
theorem ck_X12_rules_2 : am_okJ 13 false cX12_rules (some (.int)) tb_X12_rules 2 = true := by decide +kernel
set_option maxRecDepth 1000000 in
theorem ck_X12_rules_3 : am_okJ 13 false cX12_rules (some (.int)) tb_X12_rules 3 = true := by decide +kernel
set_option maxRecDepth 1000000 in
theorem ck_X12_rules_4 : am_okJ 13 false cX12_rules (some (.int)) tb_X12_rules 4 = true := by decide +kernel
set_option maxRecDepth 1000000 in
theorem ck_X12_rules_5 : am_okJ 13 false cX12_rules (some (.int)) tb_X12_rules 5 = true := by decide +kernel
set_option maxRecDepth 1000000 in
theorem ck_X12_rules_6 : am_okJ 13 false cX12_rules (some (.int)) tb_X12_rules 6 = true := by decide +kernel
set_option maxRecDepth 1000000 in
theorem ck_X12_rules_7 : am_okJ 13 false cX12_rules (some (.int)) tb_X12_rules 7 = true := by decide +kernel
set_option maxRecDepth 1000000 in
theorem ck_X12_rules_8 : am_okJ 13 false cX12_rules (some (.int)) tb_X12_rules 8 = true := by decide +kernel
set_option maxRecDepth 1000000 in
theorem ck_X12_rules_9 : am_okJ 13 false cX12_rules (some (.int)) tb_X12_rules 9 = true := by decide +kernel
set_option maxRecDepth 1000000 in
theorem ck_X12_rules_10 : am_okJ 13 false cX12_rules (some (.int)) tb_X12_rules 10 = true := by decide +kernel
set_option maxRecDepth 1000000 in
theorem ck_X12_rules : am_okT 13 false cX12_rules (some (.int)) tb_X12_rules = true := am_okJ_s rfl (am_j1 (am_j1 (am_j1 (am_j1 (am_j1 (am_j1 (am_j1 (am_j1 (am_j1 (am_j1 (am_j1 (am_j0) ck_X12_rules_0) ck_X12_rules_1) ck_X12_rules_2) ck_X12_rules_3) ck_X12_rules_4) ck_X12_rules_5) ck_X12_rules_6) ck_X12_rules_7) ck_X12_rules_8) ck_X12_rules_9) ck_X12_rules_10)
set_option maxRecDepth 1000000 in
theorem ck_X12_fault_0 : am_okJ 13 false cX12_fault (some (.int)) tb_X12_fault 0 = true := by decide +kernel
set_option maxRecDepth 1000000 in
theorem ck_X12_fault : am_okT 13 false cX12_fault (some (.int)) tb_X12_fault = true := am_okJ_s rfl (am_j1 (am_j0) ck_X12_fault_0)
set_option maxRecDepth 1000000 in
theorem ck_X12_inForce_0 : am_okJ 13 false cX12_inForce (some (.int)) tb_X12_inForce 0 = true := by decide +kernel
set_option maxRecDepth 1000000 in
theorem ck_X12_inForce_1 : am_okJ 13 false cX12_inForce (some (.int)) tb_X12_inForce 1 = true := by decide +kernel
set_option maxRecDepth 1000000 in
theorem ck_X12_inForce : am_okT 13 false cX12_inForce (some (.int)) tb_X12_inForce = true := am_okJ_s rfl (am_j1 (am_j1 (am_j0) ck_X12_inForce_0) ck_X12_inForce_1)
set_option maxRecDepth 1000000 in
theorem ck_X12_last_0 : am_okJ 13 false cX12_last (some (.int)) tb_X12_last 0 = true := by decide +kernel
set_option maxRecDepth 1000000 in
theorem ck_X12_last_1 : am_okJ 13 false cX12_last (some (.int)) tb_X12_last 1 = true := by decide +kernel
set_option maxRecDepth 1000000 in
theorem ck_X12_last_2 : am_okJ 13 false cX12_last (some (.int)) tb_X12_last 2 = true := by decide +kernel
set_option maxRecDepth 1000000 in
theorem ck_X12_last_3 : am_okJ 13 false cX12_last (some (.int)) tb_X12_last 3 = true := by decide +kernel
set_option maxRecDepth 1000000 in
theorem ck_X12_last : am_okT 13 false cX12_last (some (.int)) tb_X12_last = true := am_okJ_s rfl (am_j1 (am_j1 (am_j1 (am_j1 (am_j0) ck_X12_last_0) ck_X12_last_1) ck_X12_last_2) ck_X12_last_3)
set_option maxRecDepth 1000000 in
theorem ck_X12_tells_0 : am_okJ 13 false cX12_tells (some (.int)) tb_X12_tells 0 = true := by decide +kernel
set_option maxRecDepth 1000000 in
theorem ck_X12_tells_1 : am_okJ 13 false cX12_tells (some (.int)) tb_X12_tells 1 = true := by decide +kernel
set_option maxRecDepth 1000000 in
theorem ck_X12_tells : am_okT 13 false cX12_tells (some (.int)) tb_X12_tells = true := am_okJ_s rfl (am_j1 (am_j1 (am_j0) ck_X12_tells_0) ck_X12_tells_1)
set_option maxRecDepth 1000000 in
theorem ck_X12_firstOf_0 : am_okJ 13 false cX12_firstOf (some (.int)) tb_X12_firstOf 0 = true := by decide +kernel
set_option maxRecDepth 1000000 in
theorem ck_X12_firstOf_1 : am_okJ 13 false cX12_firstOf (some (.int)) tb_X12_firstOf 1 = true := by decide +kernel
set_option maxRecDepth 1000000 in
theorem ck_X12_firstOf_2 : am_okJ 13 false cX12_firstOf (some (.int)) tb_X12_firstOf 2 = true := by decide +kernel
set_option maxRecDepth 1000000 in
theorem ck_X12_firstOf_3 : am_okJ 13 false cX12_firstOf (some (.int)) tb_X12_firstOf 3 = true := by decide +kernel
set_option maxRecDepth 1000000 in
theorem ck_X12_firstOf_4 : am_okJ 13 false cX12_firstOf (some (.int)) tb_X12_firstOf 4 = true := by decide +kernel
set_option maxRecDepth 1000000 in
theorem ck_X12_firstOf_5 : am_okJ 13 false cX12_firstOf (some (.int)) tb_X12_firstOf 5 = true := by decide +kernel
set_option maxRecDepth 1000000 in
theorem ck_X12_firstOf_6 : am_okJ 13 false cX12_firstOf (some (.int)) tb_X12_firstOf 6 = true := by decide +kernel
set_option maxRecDepth 1000000 in
theorem ck_X12_firstOf_7 : am_okJ 13 false cX12_firstOf (some (.int)) tb_X12_firstOf 7 = true := by decide +kernel
set_option maxRecDepth 1000000 in
theorem ck_X12_firstOf_8 : am_okJ 13 false cX12_firstOf (some (.int)) tb_X12_firstOf 8 = true := by decide +kernel
set_option maxRecDepth 1000000 in
theorem ck_X12_firstOf : am_okT 13 false cX12_firstOf (some (.int)) tb_X12_firstOf = true := am_okJ_s rfl (am_j1 (am_j1 (am_j1 (am_j1 (am_j1 (am_j1 (am_j1 (am_j1 (am_j1 (am_j0) ck_X12_firstOf_0) ck_X12_firstOf_1) ck_X12_firstOf_2) ck_X12_firstOf_3) ck_X12_firstOf_4) ck_X12_firstOf_5) ck_X12_firstOf_6) ck_X12_firstOf_7) ck_X12_firstOf_8)
set_option maxRecDepth 1000000 in
theorem ck_X12_holds_0 : am_okJ 13 false cX12_holds (some (.boolean)) tb_X12_holds 0 = true := by decide +kernel
set_option maxRecDepth 1000000 in
theorem ck_X12_holds_1 : am_okJ 13 false cX12_holds (some (.boolean)) tb_X12_holds 1 = true := by decide +kernel
set_option maxRecDepth 1000000 in
theorem ck_X12_holds_2 : am_okJ 13 false cX12_holds (some (.boolean)) tb_X12_holds 2 = true := by decide +kernel
set_option maxRecDepth 1000000 in
theorem ck_X12_holds_3 : am_okJ 13 false cX12_holds (some (.boolean)) tb_X12_holds 3 = true := by decide +kernel
set_option maxRecDepth 1000000 in
theorem ck_X12_holds_4 : am_okJ 13 false cX12_holds (some (.boolean)) tb_X12_holds 4 = true := by decide +kernel
set_option maxRecDepth 1000000 in
theorem ck_X12_holds_5 : am_okJ 13 false cX12_holds (some (.boolean)) tb_X12_holds 5 = true := by decide +kernel
set_option maxRecDepth 1000000 in
theorem ck_X12_holds_6 : am_okJ 13 false cX12_holds (some (.boolean)) tb_X12_holds 6 = true := by decide +kernel
set_option maxRecDepth 1000000 in
theorem ck_X12_holds_7 : am_okJ 13 false cX12_holds (some (.boolean)) tb_X12_holds 7 = true := by decide +kernel
set_option maxRecDepth 1000000 in
theorem ck_X12_holds_8 : am_okJ 13 false cX12_holds (some (.boolean)) tb_X12_holds 8 = true := by decide +kernel
set_option maxRecDepth 1000000 in
theorem ck_X12_holds_9 : am_okJ 13 false cX12_holds (some (.boolean)) tb_X12_holds 9 = true := by decide +kernel
set_option maxRecDepth 1000000 in
theorem ck_X12_holds : am_okT 13 false cX12_holds (some (.boolean)) tb_X12_holds = true := am_okJ_s rfl (am_j1 (am_j1 (am_j1 (am_j1 (am_j1 (am_j1 (am_j1 (am_j1 (am_j1 (am_j1 (am_j0) ck_X12_holds_0) ck_X12_holds_1) ck_X12_holds_2) ck_X12_holds_3) ck_X12_holds_4) ck_X12_holds_5) ck_X12_holds_6) ck_X12_holds_7) ck_X12_holds_8) ck_X12_holds_9)
set_option maxRecDepth 1000000 in
theorem ck_X12_law_0 : am_okJ 13 false cX12_law (some (.int)) tb_X12_law 0 = true := by decide +kernel
set_option maxRecDepth 1000000 in
theorem ck_X12_law_1 : am_okJ 13 false cX12_law (some (.int)) tb_X12_law 1 = true := by decide +kernel
set_option maxRecDepth 1000000 in
theorem ck_X12_law_2 : am_okJ 13 false cX12_law (some (.int)) tb_X12_law 2 = true := by decide +kernel
set_option maxRecDepth 1000000 in
theorem ck_X12_law_3 : am_okJ 13 false cX12_law (some (.int)) tb_X12_law 3 = true := by decide +kernel
set_option maxRecDepth 1000000 in
theorem ck_X12_law_4 : am_okJ 13 false cX12_law (some (.int)) tb_X12_law 4 = true := by decide +kernel
set_option maxRecDepth 1000000 in
theorem ck_X12_law_5 : am_okJ 13 false cX12_law (some (.int)) tb_X12_law 5 = true := by decide +kernel
set_option maxRecDepth 1000000 in
theorem ck_X12_law_6 : am_okJ 13 false cX12_law (some (.int)) tb_X12_law 6 = true := by decide +kernel
set_option maxRecDepth 1000000 in
theorem ck_X12_law_7 : am_okJ 13 false cX12_law (some (.int)) tb_X12_law 7 = true := by decide +kernel
set_option maxRecDepth 1000000 in
theorem ck_X12_law_8 : am_okJ 13 false cX12_law (some (.int)) tb_X12_law 8 = true := by decide +kernel
set_option maxRecDepth 1000000 in
theorem ck_X12_law : am_okT 13 false cX12_law (some (.int)) tb_X12_law = true := am_okJ_s rfl (am_j1 (am_j1 (am_j1 (am_j1 (am_j1 (am_j1 (am_j1 (am_j1 (am_j1 (am_j0) ck_X12_law_0) ck_X12_law_1) ck_X12_law_2) ck_X12_law_3) ck_X12_law_4) ck_X12_law_5) ck_X12_law_6) ck_X12_law_7) ck_X12_law_8)
set_option maxRecDepth 1000000 in
theorem ck_X12_fitOf_0 : am_okJ 13 false cX12_fitOf (some (.int)) tb_X12_fitOf 0 = true := by decide +kernel
set_option maxRecDepth 1000000 in
theorem ck_X12_fitOf_1 : am_okJ 13 false cX12_fitOf (some (.int)) tb_X12_fitOf 1 = true := by decide +kernel
set_option maxRecDepth 1000000 in
theorem ck_X12_fitOf_2 : am_okJ 13 false cX12_fitOf (some (.int)) tb_X12_fitOf 2 = true := by decide +kernel
set_option maxRecDepth 1000000 in
theorem ck_X12_fitOf_3 : am_okJ 13 false cX12_fitOf (some (.int)) tb_X12_fitOf 3 = true := by decide +kernel
set_option maxRecDepth 1000000 in
theorem ck_X12_fitOf_4 : am_okJ 13 false cX12_fitOf (some (.int)) tb_X12_fitOf 4 = true := by decide +kernel
set_option maxRecDepth 1000000 in
theorem ck_X12_fitOf_5 : am_okJ 13 false cX12_fitOf (some (.int)) tb_X12_fitOf 5 = true := by decide +kernel
set_option maxRecDepth 1000000 in
theorem ck_X12_fitOf_6 : am_okJ 13 false cX12_fitOf (some (.int)) tb_X12_fitOf 6 = true := by decide +kernel
set_option maxRecDepth 1000000 in
theorem ck_X12_fitOf_7 : am_okJ 13 false cX12_fitOf (some (.int)) tb_X12_fitOf 7 = true := by decide +kernel
set_option maxRecDepth 1000000 in
theorem ck_X12_fitOf : am_okT 13 false cX12_fitOf (some (.int)) tb_X12_fitOf = true := am_okJ_s rfl (am_j1 (am_j1 (am_j1 (am_j1 (am_j1 (am_j1 (am_j1 (am_j1 (am_j0) ck_X12_fitOf_0) ck_X12_fitOf_1) ck_X12_fitOf_2) ck_X12_fitOf_3) ck_X12_fitOf_4) ck_X12_fitOf_5) ck_X12_fitOf_6) ck_X12_fitOf_7)
set_option maxRecDepth 1000000 in
theorem ck_X12_fit_0 : am_okJ 13 false cX12_fit (some (.int)) tb_X12_fit 0 = true := by decide +kernel
set_option maxRecDepth 1000000 in
theorem ck_X12_fit_1 : am_okJ 13 false cX12_fit (some (.int)) tb_X12_fit 1 = true := by decide +kernel
set_option maxRecDepth 1000000 in
theorem ck_X12_fit : am_okT 13 false cX12_fit (some (.int)) tb_X12_fit = true := am_okJ_s rfl (am_j1 (am_j1 (am_j0) ck_X12_fit_0) ck_X12_fit_1)
set_option maxRecDepth 1000000 in
theorem ck_X12_write_0 : am_okJ 13 false cX12_write (some (.int)) tb_X12_write 0 = true := by decide +kernel
set_option maxRecDepth 1000000 in
theorem ck_X12_write_1 : am_okJ 13 false cX12_write (some (.int)) tb_X12_write 1 = true := by decide +kernel
set_option maxRecDepth 1000000 in
theorem ck_X12_write_2 : am_okJ 13 false cX12_write (some (.int)) tb_X12_write 2 = true := by decide +kernel
set_option maxRecDepth 1000000 in
theorem ck_X12_write_3 : am_okJ 13 false cX12_write (some (.int)) tb_X12_write 3 = true := by decide +kernel
set_option maxRecDepth 1000000 in
theorem ck_X12_write_4 : am_okJ 13 false cX12_write (some (.int)) tb_X12_write 4 = true := by decide +kernel
set_option maxRecDepth 1000000 in
theorem ck_X12_write_5 : am_okJ 13 false cX12_write (some (.int)) tb_X12_write 5 = true := by decide +kernel
set_option maxRecDepth 1000000 in
theorem ck_X12_write_6 : am_okJ 13 false cX12_write (some (.int)) tb_X12_write 6 = true := by decide +kernel
set_option maxRecDepth 1000000 in
theorem ck_X12_write : am_okT 13 false cX12_write (some (.int)) tb_X12_write = true := am_okJ_s rfl (am_j1 (am_j1 (am_j1 (am_j1 (am_j1 (am_j1 (am_j1 (am_j0) ck_X12_write_0) ck_X12_write_1) ck_X12_write_2) ck_X12_write_3) ck_X12_write_4) ck_X12_write_5) ck_X12_write_6)
