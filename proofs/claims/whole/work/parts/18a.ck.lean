set_option maxRecDepth 1000000 in
theorem ck_L_law_0 : am_okJ 0 false code (some (.boolean)) tb_L_law 0 = true := by decide +kernel
set_option maxRecDepth 1000000 in
theorem ck_L_law_1 : am_okJ 0 false code (some (.boolean)) tb_L_law 1 = true := by decide +kernel
set_option maxRecDepth 1000000 in
theorem ck_L_law_2 : am_okJ 0 false code (some (.boolean)) tb_L_law 2 = true := by decide +kernel
set_option maxRecDepth 1000000 in
theorem ck_L_law_3 : am_okJ 0 false code (some (.boolean)) tb_L_law 3 = true := by decide +kernel
set_option maxRecDepth 1000000 in
theorem ck_L_law_4 : am_okJ 0 false code (some (.boolean)) tb_L_law 4 = true := by decide +kernel
set_option maxRecDepth 1000000 in
theorem ck_L_law_5 : am_okJ 0 false code (some (.boolean)) tb_L_law 5 = true := by decide +kernel
set_option maxRecDepth 1000000 in
theorem ck_L_law_6 : am_okJ 0 false code (some (.boolean)) tb_L_law 6 = true := by decide +kernel
set_option maxRecDepth 1000000 in
theorem ck_L_law_7 : am_okJ 0 false code (some (.boolean)) tb_L_law 7 = true := by decide +kernel
set_option maxRecDepth 1000000 in
theorem ck_L_law_8 : am_okJ 0 false code (some (.boolean)) tb_L_law 8 = true := by decide +kernel
set_option maxRecDepth 1000000 in
theorem ck_L_law_9 : am_okJ 0 false code (some (.boolean)) tb_L_law 9 = true := by decide +kernel
set_option maxRecDepth 1000000 in
theorem ck_L_law_10 : am_okJ 0 false code (some (.boolean)) tb_L_law 10 = true := by decide +kernel
set_option maxRecDepth 1000000 in
theorem ck_L_law_11 : am_okJ 0 false code (some (.boolean)) tb_L_law 11 = true := by decide +kernel
set_option maxRecDepth 1000000 in
theorem ck_L_law_12 : am_okJ 0 false code (some (.boolean)) tb_L_law 12 = true := by decide +kernel
set_option maxRecDepth 1000000 in
theorem ck_L_law_13 : am_okJ 0 false code (some (.boolean)) tb_L_law 13 = true := by decide +kernel
set_option maxRecDepth 1000000 in
theorem ck_L_law_14 : am_okJ 0 false code (some (.boolean)) tb_L_law 14 = true := by decide +kernel
set_option maxRecDepth 1000000 in
theorem ck_L_law_15 : am_okJ 0 false code (some (.boolean)) tb_L_law 15 = true := by decide +kernel
set_option maxRecDepth 1000000 in
theorem ck_L_law_16 : am_okJ 0 false code (some (.boolean)) tb_L_law 16 = true := by decide +kernel
set_option maxRecDepth 1000000 in
theorem ck_L_law_17 : am_okJ 0 false code (some (.boolean)) tb_L_law 17 = true := by decide +kernel
set_option maxRecDepth 1000000 in
theorem ck_L_law_18 : am_okJ 0 false code (some (.boolean)) tb_L_law 18 = true := by decide +kernel
set_option maxRecDepth 1000000 in
theorem ck_L_law_19 : am_okJ 0 false code (some (.boolean)) tb_L_law 19 = true := by decide +kernel
set_option maxRecDepth 1000000 in
theorem ck_L_law_20 : am_okJ 0 false code (some (.boolean)) tb_L_law 20 = true := by decide +kernel
set_option maxRecDepth 1000000 in
theorem ck_L_law_21 : am_okJ 0 false code (some (.boolean)) tb_L_law 21 = true := by decide +kernel
set_option maxRecDepth 1000000 in
theorem ck_L_law_22 : am_okJ 0 false code (some (.boolean)) tb_L_law 22 = true := by decide +kernel
set_option maxRecDepth 1000000 in
theorem ck_L_law_23 : am_okJ 0 false code (some (.boolean)) tb_L_law 23 = true := by decide +kernel
set_option maxRecDepth 1000000 in
theorem ck_L_law_24 : am_okJ 0 false code (some (.boolean)) tb_L_law 24 = true := by decide +kernel
set_option maxRecDepth 1000000 in
theorem ck_L_law_25 : am_okJ 0 false code (some (.boolean)) tb_L_law 25 = true := by decide +kernel
set_option maxRecDepth 1000000 in
theorem ck_L_law_26 : am_okJ 0 false code (some (.boolean)) tb_L_law 26 = true := by decide +kernel
set_option maxRecDepth 1000000 in
theorem ck_L_law_27 : am_okJ 0 false code (some (.boolean)) tb_L_law 27 = true := by decide +kernel
set_option maxRecDepth 1000000 in
theorem ck_L_law_28 : am_okJ 0 false code (some (.boolean)) tb_L_law 28 = true := by decide +kernel
set_option maxRecDepth 1000000 in
theorem ck_L_law_29 : am_okJ 0 false code (some (.boolean)) tb_L_law 29 = true := by decide +kernel
set_option maxRecDepth 1000000 in
theorem ck_L_law_30 : am_okJ 0 false code (some (.boolean)) tb_L_law 30 = true := by decide +kernel
set_option maxRecDepth 1000000 in
theorem ck_L_law_31 : am_okJ 0 false code (some (.boolean)) tb_L_law 31 = true := by decide +kernel
set_option maxRecDepth 1000000 in
theorem ck_L_law_32 : am_okJ 0 false code (some (.boolean)) tb_L_law 32 = true := by decide +kernel
set_option maxRecDepth 1000000 in
theorem ck_L_law_33 : am_okJ 0 false code (some (.boolean)) tb_L_law 33 = true := by decide +kernel
set_option maxRecDepth 1000000 in
theorem ck_L_law_34 : am_okJ 0 false code (some (.boolean)) tb_L_law 34 = true := by decide +kernel
set_option maxRecDepth 1000000 in
theorem ck_L_law_35 : am_okJ 0 false code (some (.boolean)) tb_L_law 35 = true := by decide +kernel
set_option maxRecDepth 1000000 in
theorem ck_L_law_36 : am_okJ 0 false code (some (.boolean)) tb_L_law 36 = true := by decide +kernel
set_option maxRecDepth 1000000 in
theorem ck_L_law_37 : am_okJ 0 false code (some (.boolean)) tb_L_law 37 = true := by decide +kernel
set_option maxRecDepth 1000000 in
theorem ck_L_law_38 : am_okJ 0 false code (some (.boolean)) tb_L_law 38 = true := by decide +kernel
set_option maxRecDepth 1000000 in
theorem ck_L_law_39 : am_okJ 0 false code (some (.boolean)) tb_L_law 39 = true := by decide +kernel
set_option maxRecDepth 1000000 in
theorem ck_L_law_40 : am_okJ 0 false code (some (.boolean)) tb_L_law 40 = true := by decide +kernel
set_option maxRecDepth 1000000 in
theorem ck_L_law_41 : am_okJ 0 false code (some (.boolean)) tb_L_law 41 = true := by decide +kernel
set_option maxRecDepth 1000000 in
theorem ck_L_law_42 : am_okJ 0 false code (some (.boolean)) tb_L_law 42 = true := by decide +kernel
set_option maxRecDepth 1000000 in
theorem ck_L_law_43 : am_okJ 0 false code (some (.boolean)) tb_L_law 43 = true := by decide +kernel
set_option maxRecDepth 1000000 in
theorem ck_L_law_44 : am_okJ 0 false code (some (.boolean)) tb_L_law 44 = true := by decide +kernel
set_option maxRecDepth 1000000 in
theorem ck_L_law_45 : am_okJ 0 false code (some (.boolean)) tb_L_law 45 = true := by decide +kernel
set_option maxRecDepth 1000000 in
theorem ck_L_law_46 : am_okJ 0 false code (some (.boolean)) tb_L_law 46 = true := by decide +kernel
set_option maxRecDepth 1000000 in
theorem ck_L_law_47 : am_okJ 0 false code (some (.boolean)) tb_L_law 47 = true := by decide +kernel
set_option maxRecDepth 1000000 in
theorem ck_L_law_48 : am_okJ 0 false code (some (.boolean)) tb_L_law 48 = true := by decide +kernel
set_option maxRecDepth 1000000 in
theorem ck_L_law_49 : am_okJ 0 false code (some (.boolean)) tb_L_law 49 = true := by decide +kernel
set_option maxRecDepth 1000000 in
theorem ck_L_law_50 : am_okJ 0 false code (some (.boolean)) tb_L_law 50 = true := by decide +kernel
set_option maxRecDepth 1000000 in
theorem ck_L_law_51 : am_okJ 0 false code (some (.boolean)) tb_L_law 51 = true := by decide +kernel
set_option maxRecDepth 1000000 in
theorem ck_L_law_52 : am_okJ 0 false code (some (.boolean)) tb_L_law 52 = true := by decide +kernel
set_option maxRecDepth 1000000 in
theorem ck_L_law_53 : am_okJ 0 false code (some (.boolean)) tb_L_law 53 = true := by decide +kernel
set_option maxRecDepth 1000000 in
theorem ck_L_law_54 : am_okJ 0 false code (some (.boolean)) tb_L_law 54 = true := by decide +kernel
set_option maxRecDepth 1000000 in
theorem ck_L_law_55 : am_okJ 0 false code (some (.boolean)) tb_L_law 55 = true := by decide +kernel
set_option maxRecDepth 1000000 in
theorem ck_L_law_56 : am_okJ 0 false code (some (.boolean)) tb_L_law 56 = true := by decide +kernel
set_option maxRecDepth 1000000 in
theorem ck_L_law_57 : am_okJ 0 false code (some (.boolean)) tb_L_law 57 = true := by decide +kernel
set_option maxRecDepth 1000000 in
theorem ck_L_law_58 : am_okJ 0 false code (some (.boolean)) tb_L_law 58 = true := by decide +kernel
set_option maxRecDepth 1000000 in
theorem ck_L_law_59 : am_okJ 0 false code (some (.boolean)) tb_L_law 59 = true := by decide +kernel
set_option maxRecDepth 1000000 in
theorem ck_L_law_60 : am_okJ 0 false code (some (.boolean)) tb_L_law 60 = true := by decide +kernel
set_option maxRecDepth 1000000 in
theorem ck_L_law_61 : am_okJ 0 false code (some (.boolean)) tb_L_law 61 = true := by decide +kernel
set_option maxRecDepth 1000000 in
theorem ck_L_law_62 : am_okJ 0 false code (some (.boolean)) tb_L_law 62 = true := by decide +kernel
set_option maxRecDepth 1000000 in
theorem ck_L_law_63 : am_okJ 0 false code (some (.boolean)) tb_L_law 63 = true := by decide +kernel
set_option maxRecDepth 1000000 in
theorem ck_L_law_64 : am_okJ 0 false code (some (.boolean)) tb_L_law 64 = true := by decide +kernel
set_option maxRecDepth 1000000 in
theorem ck_L_law_65 : am_okJ 0 false code (some (.boolean)) tb_L_law 65 = true := by decide +kernel
set_option maxRecDepth 1000000 in
theorem ck_L_law_66 : am_okJ 0 false code (some (.boolean)) tb_L_law 66 = true := by decide +kernel
set_option maxRecDepth 1000000 in
theorem ck_L_law_67 : am_okJ 0 false code (some (.boolean)) tb_L_law 67 = true := by decide +kernel
set_option maxRecDepth 1000000 in
theorem ck_L_law_68 : am_okJ 0 false code (some (.boolean)) tb_L_law 68 = true := by decide +kernel
set_option maxRecDepth 1000000 in
theorem ck_L_law_69 : am_okJ 0 false code (some (.boolean)) tb_L_law 69 = true := by decide +kernel
set_option maxRecDepth 1000000 in
theorem ck_L_law_70 : am_okJ 0 false code (some (.boolean)) tb_L_law 70 = true := by decide +kernel
set_option maxRecDepth 1000000 in
theorem ck_L_law_71 : am_okJ 0 false code (some (.boolean)) tb_L_law 71 = true := by decide +kernel
set_option maxRecDepth 1000000 in
theorem ck_L_law_72 : am_okJ 0 false code (some (.boolean)) tb_L_law 72 = true := by decide +kernel
set_option maxRecDepth 1000000 in
theorem ck_L_law_73 : am_okJ 0 false code (some (.boolean)) tb_L_law 73 = true := by decide +kernel
set_option maxRecDepth 1000000 in
theorem ck_L_law_74 : am_okJ 0 false code (some (.boolean)) tb_L_law 74 = true := by decide +kernel
set_option maxRecDepth 1000000 in
theorem ck_L_law_75 : am_okJ 0 false code (some (.boolean)) tb_L_law 75 = true := by decide +kernel
set_option maxRecDepth 1000000 in
theorem ck_L_law_76 : am_okJ 0 false code (some (.boolean)) tb_L_law 76 = true := by decide +kernel
set_option maxRecDepth 1000000 in
theorem ck_L_law_77 : am_okJ 0 false code (some (.boolean)) tb_L_law 77 = true := by decide +kernel
set_option maxRecDepth 1000000 in
theorem ck_L_law_78 : am_okJ 0 false code (some (.boolean)) tb_L_law 78 = true := by decide +kernel
set_option maxRecDepth 1000000 in
theorem ck_L_law_79 : am_okJ 0 false code (some (.boolean)) tb_L_law 79 = true := by decide +kernel
set_option maxRecDepth 1000000 in
theorem ck_L_law_80 : am_okJ 0 false code (some (.boolean)) tb_L_law 80 = true := by decide +kernel
set_option maxRecDepth 1000000 in
theorem ck_L_law_81 : am_okJ 0 false code (some (.boolean)) tb_L_law 81 = true := by decide +kernel
set_option maxRecDepth 1000000 in
theorem ck_L_law_82 : am_okJ 0 false code (some (.boolean)) tb_L_law 82 = true := by decide +kernel
set_option maxRecDepth 1000000 in
theorem ck_L_law_83 : am_okJ 0 false code (some (.boolean)) tb_L_law 83 = true := by decide +kernel
set_option maxRecDepth 1000000 in
theorem ck_L_law_84 : am_okJ 0 false code (some (.boolean)) tb_L_law 84 = true := by decide +kernel
set_option maxRecDepth 1000000 in
theorem ck_L_law_85 : am_okJ 0 false code (some (.boolean)) tb_L_law 85 = true := by decide +kernel
set_option maxRecDepth 1000000 in
theorem ck_L_law_86 : am_okJ 0 false code (some (.boolean)) tb_L_law 86 = true := by decide +kernel
set_option maxRecDepth 1000000 in
theorem ck_L_law_87 : am_okJ 0 false code (some (.boolean)) tb_L_law 87 = true := by decide +kernel
set_option maxRecDepth 1000000 in
theorem ck_L_law_88 : am_okJ 0 false code (some (.boolean)) tb_L_law 88 = true := by decide +kernel
set_option maxRecDepth 1000000 in
theorem ck_L_law_89 : am_okJ 0 false code (some (.boolean)) tb_L_law 89 = true := by decide +kernel
set_option maxRecDepth 1000000 in
theorem ck_L_law_90 : am_okJ 0 false code (some (.boolean)) tb_L_law 90 = true := by decide +kernel
set_option maxRecDepth 1000000 in
theorem ck_L_law_91 : am_okJ 0 false code (some (.boolean)) tb_L_law 91 = true := by decide +kernel
set_option maxRecDepth 1000000 in
theorem ck_L_law_92 : am_okJ 0 false code (some (.boolean)) tb_L_law 92 = true := by decide +kernel
set_option maxRecDepth 1000000 in
theorem ck_L_law_93 : am_okJ 0 false code (some (.boolean)) tb_L_law 93 = true := by decide +kernel
set_option maxRecDepth 1000000 in
theorem ck_L_law : am_okT 0 false code (some (.boolean)) tb_L_law = true := am_okJ_s rfl (am_j1 (am_j1 (am_j1 (am_j1 (am_j1 (am_j1 (am_j1 (am_j1 (am_j1 (am_j1 (am_j1 (am_j1 (am_j1 (am_j1 (am_j1 (am_j1 (am_j1 (am_j1 (am_j1 (am_j1 (am_j1 (am_j1 (am_j1 (am_j1 (am_j1 (am_j1 (am_j1 (am_j1 (am_j1 (am_j1 (am_j1 (am_j1 (am_j1 (am_j1 (am_j1 (am_j1 (am_j1 (am_j1 (am_j1 (am_j1 (am_j1 (am_j1 (am_j1 (am_j1 (am_j1 (am_j1 (am_j1 (am_j1 (am_j1 (am_j1 (am_j1 (am_j1 (am_j1 (am_j1 (am_j1 (am_j1 (am_j1 (am_j1 (am_j1 (am_j1 (am_j1 (am_j1 (am_j1 (am_j1 (am_j1 (am_j1 (am_j1 (am_j1 (am_j1 (am_j1 (am_j1 (am_j1 (am_j1 (am_j1 (am_j1 (am_j1 (am_j1 (am_j1 (am_j1 (am_j1 (am_j1 (am_j1 (am_j1 (am_j1 (am_j1 (am_j1 (am_j1 (am_j1 (am_j1 (am_j1 (am_j1 (am_j1 (am_j1 (am_j1 (am_j0) ck_L_law_0) ck_L_law_1) ck_L_law_2) ck_L_law_3) ck_L_law_4) ck_L_law_5) ck_L_law_6) ck_L_law_7) ck_L_law_8) ck_L_law_9) ck_L_law_10) ck_L_law_11) ck_L_law_12) ck_L_law_13) ck_L_law_14) ck_L_law_15) ck_L_law_16) ck_L_law_17) ck_L_law_18) ck_L_law_19) ck_L_law_20) ck_L_law_21) ck_L_law_22) ck_L_law_23) ck_L_law_24) ck_L_law_25) ck_L_law_26) ck_L_law_27) ck_L_law_28) ck_L_law_29) ck_L_law_30) ck_L_law_31) ck_L_law_32) ck_L_law_33) ck_L_law_34) ck_L_law_35) ck_L_law_36) ck_L_law_37) ck_L_law_38) ck_L_law_39) ck_L_law_40) ck_L_law_41) ck_L_law_42) ck_L_law_43) ck_L_law_44) ck_L_law_45) ck_L_law_46) ck_L_law_47) ck_L_law_48) ck_L_law_49) ck_L_law_50) ck_L_law_51) ck_L_law_52) ck_L_law_53) ck_L_law_54) ck_L_law_55) ck_L_law_56) ck_L_law_57) ck_L_law_58) ck_L_law_59) ck_L_law_60) ck_L_law_61) ck_L_law_62) ck_L_law_63) ck_L_law_64) ck_L_law_65) ck_L_law_66) ck_L_law_67) ck_L_law_68) ck_L_law_69) ck_L_law_70) ck_L_law_71) ck_L_law_72) ck_L_law_73) ck_L_law_74) ck_L_law_75) ck_L_law_76) ck_L_law_77) ck_L_law_78) ck_L_law_79) ck_L_law_80) ck_L_law_81) ck_L_law_82) ck_L_law_83) ck_L_law_84) ck_L_law_85) ck_L_law_86) ck_L_law_87) ck_L_law_88) ck_L_law_89) ck_L_law_90) ck_L_law_91) ck_L_law_92) ck_L_law_93)
