/-! THE TABLES ARE THE CODE: every block of every method, decoded. -/
theorem cc_0 : cb 0 = prog_2_method_2_code := rfl
set_option maxRecDepth 100000 in
set_option maxHeartbeats 4000000 in
theorem ck_0 : chkM 0 prog_2_method_2_code = true := by decide +kernel
theorem cc_1 : cb 1 = prog_2_method_3_code := rfl
set_option maxRecDepth 100000 in
set_option maxHeartbeats 4000000 in
theorem ck_1 : chkM 1 prog_2_method_3_code = true := by decide +kernel
theorem cc_2 : cb 2 = prog_2_method_4_code := rfl
set_option maxRecDepth 100000 in
set_option maxHeartbeats 4000000 in
theorem ck_2 : chkM 2 prog_2_method_4_code = true := by decide +kernel
theorem cc_3 : cb 3 = prog_2_method_5_code := rfl
set_option maxRecDepth 100000 in
set_option maxHeartbeats 4000000 in
theorem ck_3 : chkM 3 prog_2_method_5_code = true := by decide +kernel
theorem cc_4 : cb 4 = prog_2_method_6_code := rfl
set_option maxRecDepth 100000 in
set_option maxHeartbeats 4000000 in
theorem ck_4 : chkM 4 prog_2_method_6_code = true := by decide +kernel
theorem cc_5 : cb 5 = prog_3_method_2_code := rfl
set_option maxRecDepth 100000 in
set_option maxHeartbeats 4000000 in
theorem ck_5 : chkM 5 prog_3_method_2_code = true := by decide +kernel
theorem cc_6 : cb 6 = prog_3_method_3_code := rfl
set_option maxRecDepth 100000 in
set_option maxHeartbeats 4000000 in
theorem ck_6 : chkM 6 prog_3_method_3_code = true := by decide +kernel
theorem cc_7 : cb 7 = prog_3_method_4_code := rfl
set_option maxRecDepth 100000 in
set_option maxHeartbeats 4000000 in
theorem ck_7 : chkM 7 prog_3_method_4_code = true := by decide +kernel
theorem cc_8 : cb 8 = prog_3_method_5_code := rfl
set_option maxRecDepth 100000 in
set_option maxHeartbeats 4000000 in
theorem ck_8 : chkM 8 prog_3_method_5_code = true := by decide +kernel
theorem cc_9 : cb 9 = prog_3_method_6_code := rfl
set_option maxRecDepth 100000 in
set_option maxHeartbeats 4000000 in
theorem ck_9 : chkM 9 prog_3_method_6_code = true := by decide +kernel
theorem cc_10 : cb 10 = prog_3_method_7_code := rfl
set_option maxRecDepth 100000 in
set_option maxHeartbeats 4000000 in
theorem ck_10 : chkM 10 prog_3_method_7_code = true := by decide +kernel
theorem cc_11 : cb 11 = prog_3_method_8_code := rfl
set_option maxRecDepth 100000 in
set_option maxHeartbeats 4000000 in
theorem ck_11 : chkM 11 prog_3_method_8_code = true := by decide +kernel
theorem cc_12 : cb 12 = prog_3_method_9_code := rfl
set_option maxRecDepth 100000 in
set_option maxHeartbeats 4000000 in
theorem ck_12 : chkM 12 prog_3_method_9_code = true := by decide +kernel
theorem cc_13 : cb 13 = prog_3_method_10_code := rfl
set_option maxRecDepth 100000 in
set_option maxHeartbeats 4000000 in
theorem ck_13 : chkM 13 prog_3_method_10_code = true := by decide +kernel
theorem cc_14 : cb 14 = prog_3_method_11_code := rfl
set_option maxRecDepth 100000 in
set_option maxHeartbeats 4000000 in
theorem ck_14 : chkM 14 prog_3_method_11_code = true := by decide +kernel
theorem cc_15 : cb 15 = prog_3_method_12_code := rfl
set_option maxRecDepth 100000 in
set_option maxHeartbeats 4000000 in
theorem ck_15 : chkM 15 prog_3_method_12_code = true := by decide +kernel
theorem cc_16 : cb 16 = prog_4_method_2_code := rfl
set_option maxRecDepth 100000 in
set_option maxHeartbeats 4000000 in
theorem ck_16 : chkM 16 prog_4_method_2_code = true := by decide +kernel
theorem cc_17 : cb 17 = prog_4_method_3_code := rfl
set_option maxRecDepth 100000 in
set_option maxHeartbeats 4000000 in
theorem ck_17 : chkM 17 prog_4_method_3_code = true := by decide +kernel
theorem cc_18 : cb 18 = prog_4_method_4_code := rfl
set_option maxRecDepth 100000 in
set_option maxHeartbeats 4000000 in
theorem ck_18 : chkM 18 prog_4_method_4_code = true := by decide +kernel
theorem cc_19 : cb 19 = prog_4_method_5_code := rfl
set_option maxRecDepth 100000 in
set_option maxHeartbeats 4000000 in
theorem ck_19 : chkM 19 prog_4_method_5_code = true := by decide +kernel
theorem cc_20 : cb 20 = prog_4_method_6_code := rfl
set_option maxRecDepth 100000 in
set_option maxHeartbeats 4000000 in
theorem ck_20 : chkM 20 prog_4_method_6_code = true := by decide +kernel
theorem cc_21 : cb 21 = prog_4_method_7_code := rfl
set_option maxRecDepth 100000 in
set_option maxHeartbeats 4000000 in
theorem ck_21 : chkM 21 prog_4_method_7_code = true := by decide +kernel
theorem cc_22 : cb 22 = prog_5_method_2_code := rfl
set_option maxRecDepth 100000 in
set_option maxHeartbeats 4000000 in
theorem ck_22 : chkM 22 prog_5_method_2_code = true := by decide +kernel
theorem cc_23 : cb 23 = prog_5_method_3_code := rfl
set_option maxRecDepth 100000 in
set_option maxHeartbeats 4000000 in
theorem ck_23 : chkM 23 prog_5_method_3_code = true := by decide +kernel
theorem cc_24 : cb 24 = prog_5_method_4_code := rfl
set_option maxRecDepth 100000 in
set_option maxHeartbeats 4000000 in
theorem ck_24 : chkM 24 prog_5_method_4_code = true := by decide +kernel
theorem cc_25 : cb 25 = prog_5_method_5_code := rfl
set_option maxRecDepth 100000 in
set_option maxHeartbeats 4000000 in
theorem ck_25 : chkM 25 prog_5_method_5_code = true := by decide +kernel
theorem cc_26 : cb 26 = prog_6_method_2_code := rfl
set_option maxRecDepth 100000 in
set_option maxHeartbeats 4000000 in
theorem ck_26 : chkM 26 prog_6_method_2_code = true := by decide +kernel
theorem cc_27 : cb 27 = prog_6_method_3_code := rfl
set_option maxRecDepth 100000 in
set_option maxHeartbeats 4000000 in
theorem ck_27 : chkM 27 prog_6_method_3_code = true := by decide +kernel
theorem cc_28 : cb 28 = prog_6_method_4_code := rfl
set_option maxRecDepth 100000 in
set_option maxHeartbeats 4000000 in
theorem ck_28 : chkM 28 prog_6_method_4_code = true := by decide +kernel
theorem cc_29 : cb 29 = prog_6_method_5_code := rfl
set_option maxRecDepth 100000 in
set_option maxHeartbeats 4000000 in
theorem ck_29 : chkM 29 prog_6_method_5_code = true := by decide +kernel
theorem cc_30 : cb 30 = prog_6_method_6_code := rfl
set_option maxRecDepth 100000 in
set_option maxHeartbeats 4000000 in
theorem ck_30 : chkM 30 prog_6_method_6_code = true := by decide +kernel
theorem cc_31 : cb 31 = prog_6_method_7_code := rfl
set_option maxRecDepth 100000 in
set_option maxHeartbeats 4000000 in
theorem ck_31 : chkM 31 prog_6_method_7_code = true := by decide +kernel
theorem cc_32 : cb 32 = prog_7_method_2_code := rfl
set_option maxRecDepth 100000 in
set_option maxHeartbeats 4000000 in
theorem ck_32 : chkM 32 prog_7_method_2_code = true := by decide +kernel
theorem cc_33 : cb 33 = prog_7_method_3_code := rfl
set_option maxRecDepth 100000 in
set_option maxHeartbeats 4000000 in
theorem ck_33 : chkM 33 prog_7_method_3_code = true := by decide +kernel
theorem cc_34 : cb 34 = prog_7_method_4_code := rfl
set_option maxRecDepth 100000 in
set_option maxHeartbeats 4000000 in
theorem ck_34 : chkM 34 prog_7_method_4_code = true := by decide +kernel
theorem cc_35 : cb 35 = prog_7_method_5_code := rfl
set_option maxRecDepth 100000 in
set_option maxHeartbeats 4000000 in
theorem ck_35 : chkM 35 prog_7_method_5_code = true := by decide +kernel
theorem cc_36 : cb 36 = prog_7_method_6_code := rfl
set_option maxRecDepth 100000 in
set_option maxHeartbeats 4000000 in
theorem ck_36 : chkM 36 prog_7_method_6_code = true := by decide +kernel
theorem cc_37 : cb 37 = prog_7_method_7_code := rfl
set_option maxRecDepth 100000 in
set_option maxHeartbeats 4000000 in
theorem ck_37 : chkM 37 prog_7_method_7_code = true := by decide +kernel
theorem cc_38 : cb 38 = prog_7_method_8_code := rfl
set_option maxRecDepth 100000 in
set_option maxHeartbeats 4000000 in
theorem ck_38 : chkM 38 prog_7_method_8_code = true := by decide +kernel
theorem cc_39 : cb 39 = prog_8_method_2_code := rfl
set_option maxRecDepth 100000 in
set_option maxHeartbeats 4000000 in
theorem ck_39 : chkM 39 prog_8_method_2_code = true := by decide +kernel
theorem cc_40 : cb 40 = prog_8_method_3_code := rfl
set_option maxRecDepth 100000 in
set_option maxHeartbeats 4000000 in
theorem ck_40 : chkM 40 prog_8_method_3_code = true := by decide +kernel
theorem cc_41 : cb 41 = prog_8_method_4_code := rfl
set_option maxRecDepth 100000 in
set_option maxHeartbeats 4000000 in
theorem ck_41 : chkM 41 prog_8_method_4_code = true := by decide +kernel
theorem cc_42 : cb 42 = prog_8_method_5_code := rfl
set_option maxRecDepth 100000 in
set_option maxHeartbeats 4000000 in
theorem ck_42 : chkM 42 prog_8_method_5_code = true := by decide +kernel
theorem cc_43 : cb 43 = prog_8_method_6_code := rfl
set_option maxRecDepth 100000 in
set_option maxHeartbeats 4000000 in
theorem ck_43 : chkM 43 prog_8_method_6_code = true := by decide +kernel
theorem cc_44 : cb 44 = prog_8_method_7_code := rfl
set_option maxRecDepth 100000 in
set_option maxHeartbeats 4000000 in
theorem ck_44 : chkM 44 prog_8_method_7_code = true := by decide +kernel
theorem cc_45 : cb 45 = prog_8_method_8_code := rfl
set_option maxRecDepth 100000 in
set_option maxHeartbeats 4000000 in
theorem ck_45 : chkM 45 prog_8_method_8_code = true := by decide +kernel
theorem cc_46 : cb 46 = prog_8_method_9_code := rfl
set_option maxRecDepth 100000 in
set_option maxHeartbeats 4000000 in
theorem ck_46 : chkM 46 prog_8_method_9_code = true := by decide +kernel
theorem cc_47 : cb 47 = prog_8_method_10_code := rfl
set_option maxRecDepth 100000 in
set_option maxHeartbeats 4000000 in
theorem ck_47 : chkM 47 prog_8_method_10_code = true := by decide +kernel
theorem cc_48 : cb 48 = prog_8_method_11_code := rfl
set_option maxRecDepth 100000 in
set_option maxHeartbeats 4000000 in
theorem ck_48 : chkM 48 prog_8_method_11_code = true := by decide +kernel
theorem cc_49 : cb 49 = prog_8_method_12_code := rfl
set_option maxRecDepth 100000 in
set_option maxHeartbeats 4000000 in
theorem ck_49 : chkM 49 prog_8_method_12_code = true := by decide +kernel
theorem cc_50 : cb 50 = prog_8_method_13_code := rfl
set_option maxRecDepth 100000 in
set_option maxHeartbeats 4000000 in
theorem ck_50 : chkM 50 prog_8_method_13_code = true := by decide +kernel
theorem cc_51 : cb 51 = prog_8_method_14_code := rfl
set_option maxRecDepth 100000 in
set_option maxHeartbeats 4000000 in
theorem ck_51 : chkM 51 prog_8_method_14_code = true := by decide +kernel
theorem cc_52 : cb 52 = prog_8_method_15_code := rfl
set_option maxRecDepth 100000 in
set_option maxHeartbeats 4000000 in
theorem ck_52 : chkM 52 prog_8_method_15_code = true := by decide +kernel
theorem cc_53 : cb 53 = prog_8_method_16_code := rfl
set_option maxRecDepth 100000 in
set_option maxHeartbeats 4000000 in
theorem ck_53 : chkM 53 prog_8_method_16_code = true := by decide +kernel
theorem cc_54 : cb 54 = prog_1_method_2_code := rfl
set_option maxRecDepth 100000 in
set_option maxHeartbeats 4000000 in
theorem ck_54 : chkM 54 prog_1_method_2_code = true := by decide +kernel
theorem cc_55 : cb 55 = prog_1_method_3_code := rfl
set_option maxRecDepth 100000 in
set_option maxHeartbeats 4000000 in
theorem ck_55 : chkM 55 prog_1_method_3_code = true := by decide +kernel
theorem cc_56 : cb 56 = prog_1_method_4_code := rfl
set_option maxRecDepth 100000 in
set_option maxHeartbeats 4000000 in
theorem ck_56 : chkM 56 prog_1_method_4_code = true := by decide +kernel
theorem cc_57 : cb 57 = prog_1_method_5_code := rfl
set_option maxRecDepth 100000 in
set_option maxHeartbeats 4000000 in
theorem ck_57 : chkM 57 prog_1_method_5_code = true := by decide +kernel
theorem cc_58 : cb 58 = prog_1_method_6_code := rfl
set_option maxRecDepth 100000 in
set_option maxHeartbeats 4000000 in
theorem ck_58 : chkM 58 prog_1_method_6_code = true := by decide +kernel
theorem cc_59 : cb 59 = prog_1_method_7_code := rfl
set_option maxRecDepth 100000 in
set_option maxHeartbeats 4000000 in
theorem ck_59 : chkM 59 prog_1_method_7_code = true := by decide +kernel
theorem cc_60 : cb 60 = prog_1_method_8_code := rfl
set_option maxRecDepth 100000 in
set_option maxHeartbeats 4000000 in
theorem ck_60 : chkM 60 prog_1_method_8_code = true := by decide +kernel
theorem cc_61 : cb 61 = prog_1_method_9_code := rfl
set_option maxRecDepth 100000 in
set_option maxHeartbeats 4000000 in
theorem ck_61 : chkM 61 prog_1_method_9_code = true := by decide +kernel
theorem cc_62 : cb 62 = prog_1_method_10_code := rfl
set_option maxRecDepth 100000 in
set_option maxHeartbeats 4000000 in
theorem ck_62 : chkM 62 prog_1_method_10_code = true := by decide +kernel
theorem cc_63 : cb 63 = prog_1_method_11_code := rfl
set_option maxRecDepth 100000 in
set_option maxHeartbeats 4000000 in
theorem ck_63 : chkM 63 prog_1_method_11_code = true := by decide +kernel
theorem cc_64 : cb 64 = prog_1_method_12_code := rfl
set_option maxRecDepth 100000 in
set_option maxHeartbeats 4000000 in
theorem ck_64 : chkM 64 prog_1_method_12_code = true := by decide +kernel
theorem cc_65 : cb 65 = prog_1_method_13_code := rfl
set_option maxRecDepth 100000 in
set_option maxHeartbeats 4000000 in
theorem ck_65 : chkM 65 prog_1_method_13_code = true := by decide +kernel
theorem cc_66 : cb 66 = prog_1_method_14_code := rfl
set_option maxRecDepth 100000 in
set_option maxHeartbeats 4000000 in
theorem ck_66 : chkM 66 prog_1_method_14_code = true := by decide +kernel
theorem cc_67 : cb 67 = prog_1_method_15_code := rfl
set_option maxRecDepth 100000 in
set_option maxHeartbeats 4000000 in
theorem ck_67 : chkM 67 prog_1_method_15_code = true := by decide +kernel
theorem cc_68 : cb 68 = prog_1_method_16_code := rfl
set_option maxRecDepth 100000 in
set_option maxHeartbeats 4000000 in
theorem ck_68 : chkM 68 prog_1_method_16_code = true := by decide +kernel
theorem cc_69 : cb 69 = prog_1_method_17_code := rfl
set_option maxRecDepth 100000 in
set_option maxHeartbeats 4000000 in
theorem ck_69 : chkM 69 prog_1_method_17_code = true := by decide +kernel
theorem cc_70 : cb 70 = prog_1_method_18_code := rfl
set_option maxRecDepth 100000 in
set_option maxHeartbeats 4000000 in
theorem ck_70 : chkM 70 prog_1_method_18_code = true := by decide +kernel
theorem cc_71 : cb 71 = prog_1_method_19_code := rfl
set_option maxRecDepth 100000 in
set_option maxHeartbeats 4000000 in
theorem ck_71 : chkM 71 prog_1_method_19_code = true := by decide +kernel
theorem cc_72 : cb 72 = prog_1_method_20_code := rfl
set_option maxRecDepth 100000 in
set_option maxHeartbeats 4000000 in
theorem ck_72 : chkM 72 prog_1_method_20_code = true := by decide +kernel
theorem cc_73 : cb 73 = prog_1_method_21_code := rfl
set_option maxRecDepth 100000 in
set_option maxHeartbeats 4000000 in
theorem ck_73 : chkM 73 prog_1_method_21_code = true := by decide +kernel
theorem cc_74 : cb 74 = prog_1_method_22_code := rfl
set_option maxRecDepth 100000 in
set_option maxHeartbeats 4000000 in
theorem ck_74 : chkM 74 prog_1_method_22_code = true := by decide +kernel
theorem cc_75 : cb 75 = prog_1_method_23_code := rfl
set_option maxRecDepth 100000 in
set_option maxHeartbeats 4000000 in
theorem ck_75 : chkM 75 prog_1_method_23_code = true := by decide +kernel
theorem cc_76 : cb 76 = prog_1_method_24_code := rfl
set_option maxRecDepth 100000 in
set_option maxHeartbeats 4000000 in
theorem ck_76 : chkM 76 prog_1_method_24_code = true := by decide +kernel
theorem cc_77 : cb 77 = prog_1_method_25_code := rfl
set_option maxRecDepth 100000 in
set_option maxHeartbeats 4000000 in
theorem ck_77 : chkM 77 prog_1_method_25_code = true := by decide +kernel
theorem cc_78 : cb 78 = prog_1_method_26_code := rfl
set_option maxRecDepth 100000 in
set_option maxHeartbeats 4000000 in
theorem ck_78 : chkM 78 prog_1_method_26_code = true := by decide +kernel
theorem cc_79 : cb 79 = prog_1_method_27_code := rfl
set_option maxRecDepth 100000 in
set_option maxHeartbeats 4000000 in
theorem ck_79 : chkM 79 prog_1_method_27_code = true := by decide +kernel
theorem cc_80 : cb 80 = prog_1_method_28_code := rfl
set_option maxRecDepth 100000 in
set_option maxHeartbeats 4000000 in
theorem ck_80 : chkM 80 prog_1_method_28_code = true := by decide +kernel
theorem cc_81 : cb 81 = prog_1_method_29_code := rfl
set_option maxRecDepth 100000 in
set_option maxHeartbeats 4000000 in
theorem ck_81 : chkM 81 prog_1_method_29_code = true := by decide +kernel
theorem cc_82 : cb 82 = prog_1_method_30_code := rfl
set_option maxRecDepth 100000 in
set_option maxHeartbeats 4000000 in
theorem ck_82 : chkM 82 prog_1_method_30_code = true := by decide +kernel
theorem cc_83 : cb 83 = prog_1_method_31_code := rfl
set_option maxRecDepth 100000 in
set_option maxHeartbeats 4000000 in
theorem ck_83 : chkM 83 prog_1_method_31_code = true := by decide +kernel
theorem cc_84 : cb 84 = prog_1_method_32_code := rfl
set_option maxRecDepth 100000 in
set_option maxHeartbeats 4000000 in
theorem ck_84 : chkM 84 prog_1_method_32_code = true := by decide +kernel
theorem cc_85 : cb 85 = prog_1_method_33_code := rfl
set_option maxRecDepth 100000 in
set_option maxHeartbeats 4000000 in
theorem ck_85 : chkM 85 prog_1_method_33_code = true := by decide +kernel
theorem cc_86 : cb 86 = prog_1_method_34_code := rfl
set_option maxRecDepth 100000 in
set_option maxHeartbeats 4000000 in
theorem ck_86 : chkM 86 prog_1_method_34_code = true := by decide +kernel
theorem cc_87 : cb 87 = prog_1_method_35_code := rfl
set_option maxRecDepth 100000 in
set_option maxHeartbeats 4000000 in
theorem ck_87 : chkM 87 prog_1_method_35_code = true := by decide +kernel
theorem cc_88 : cb 88 = prog_1_method_36_code := rfl
set_option maxRecDepth 100000 in
set_option maxHeartbeats 4000000 in
theorem ck_88 : chkM 88 prog_1_method_36_code = true := by decide +kernel
theorem cc_89 : cb 89 = prog_1_method_37_code := rfl
set_option maxRecDepth 100000 in
set_option maxHeartbeats 4000000 in
theorem ck_89 : chkM 89 prog_1_method_37_code = true := by decide +kernel
theorem cc_90 : cb 90 = prog_1_method_38_code := rfl
set_option maxRecDepth 100000 in
set_option maxHeartbeats 4000000 in
theorem ck_90 : chkM 90 prog_1_method_38_code = true := by decide +kernel
theorem cc_91 : cb 91 = prog_1_method_39_code := rfl
set_option maxRecDepth 100000 in
set_option maxHeartbeats 4000000 in
theorem ck_91 : chkM 91 prog_1_method_39_code = true := by decide +kernel
theorem cc_92 : cb 92 = prog_1_method_40_code := rfl
set_option maxRecDepth 100000 in
set_option maxHeartbeats 4000000 in
theorem ck_92 : chkM 92 prog_1_method_40_code = true := by decide +kernel
theorem cc_93 : cb 93 = prog_1_method_41_code := rfl
set_option maxRecDepth 100000 in
set_option maxHeartbeats 4000000 in
theorem ck_93 : chkM 93 prog_1_method_41_code = true := by decide +kernel
theorem cc_94 : cb 94 = prog_1_method_42_code := rfl
set_option maxRecDepth 100000 in
set_option maxHeartbeats 4000000 in
theorem ck_94 : chkM 94 prog_1_method_42_code = true := by decide +kernel
theorem cc_95 : cb 95 = prog_1_method_43_code := rfl
set_option maxRecDepth 100000 in
set_option maxHeartbeats 4000000 in
theorem ck_95 : chkM 95 prog_1_method_43_code = true := by decide +kernel
theorem cc_96 : cb 96 = prog_1_method_44_code := rfl
set_option maxRecDepth 100000 in
set_option maxHeartbeats 4000000 in
theorem ck_96 : chkM 96 prog_1_method_44_code = true := by decide +kernel
theorem cc_97 : cb 97 = prog_1_method_45_code := rfl
set_option maxRecDepth 100000 in
set_option maxHeartbeats 4000000 in
theorem ck_97 : chkM 97 prog_1_method_45_code = true := by decide +kernel
theorem cc_98 : cb 98 = prog_1_method_46_code := rfl
set_option maxRecDepth 100000 in
set_option maxHeartbeats 4000000 in
theorem ck_98 : chkM 98 prog_1_method_46_code = true := by decide +kernel
theorem cc_99 : cb 99 = prog_1_method_47_code := rfl
set_option maxRecDepth 100000 in
set_option maxHeartbeats 4000000 in
theorem ck_99 : chkM 99 prog_1_method_47_code = true := by decide +kernel
theorem cc_100 : cb 100 = prog_1_method_48_code := rfl
set_option maxRecDepth 100000 in
set_option maxHeartbeats 4000000 in
theorem ck_100 : chkM 100 prog_1_method_48_code = true := by decide +kernel
theorem cc_101 : cb 101 = prog_1_method_49_code := rfl
set_option maxRecDepth 100000 in
set_option maxHeartbeats 4000000 in
theorem ck_101 : chkM 101 prog_1_method_49_code = true := by decide +kernel
theorem cc_102 : cb 102 = prog_1_method_50_code := rfl
set_option maxRecDepth 100000 in
set_option maxHeartbeats 4000000 in
theorem ck_102 : chkM 102 prog_1_method_50_code = true := by decide +kernel
theorem cc_103 : cb 103 = prog_1_method_51_code := rfl
set_option maxRecDepth 100000 in
set_option maxHeartbeats 4000000 in
theorem ck_103 : chkM 103 prog_1_method_51_code = true := by decide +kernel
theorem cc_104 : cb 104 = prog_1_method_52_code := rfl
set_option maxRecDepth 100000 in
set_option maxHeartbeats 4000000 in
theorem ck_104 : chkM 104 prog_1_method_52_code = true := by decide +kernel
theorem cc_105 : cb 105 = prog_10_method_2_code := rfl
set_option maxRecDepth 100000 in
set_option maxHeartbeats 4000000 in
theorem ck_105 : chkM 105 prog_10_method_2_code = true := by decide +kernel
theorem cc_106 : cb 106 = prog_10_method_3_code := rfl
set_option maxRecDepth 100000 in
set_option maxHeartbeats 4000000 in
theorem ck_106 : chkM 106 prog_10_method_3_code = true := by decide +kernel
theorem cc_107 : cb 107 = prog_10_method_4_code := rfl
set_option maxRecDepth 100000 in
set_option maxHeartbeats 4000000 in
theorem ck_107 : chkM 107 prog_10_method_4_code = true := by decide +kernel
theorem cc_108 : cb 108 = prog_10_method_5_code := rfl
set_option maxRecDepth 100000 in
set_option maxHeartbeats 4000000 in
theorem ck_108 : chkM 108 prog_10_method_5_code = true := by decide +kernel
theorem cc_109 : cb 109 = prog_10_method_6_code := rfl
set_option maxRecDepth 100000 in
set_option maxHeartbeats 4000000 in
theorem ck_109 : chkM 109 prog_10_method_6_code = true := by decide +kernel
theorem cc_110 : cb 110 = prog_10_method_7_code := rfl
set_option maxRecDepth 100000 in
set_option maxHeartbeats 4000000 in
theorem ck_110 : chkM 110 prog_10_method_7_code = true := by decide +kernel
theorem cc_111 : cb 111 = prog_10_method_8_code := rfl
set_option maxRecDepth 100000 in
set_option maxHeartbeats 4000000 in
theorem ck_111 : chkM 111 prog_10_method_8_code = true := by decide +kernel
theorem cc_112 : cb 112 = prog_10_method_9_code := rfl
set_option maxRecDepth 100000 in
set_option maxHeartbeats 4000000 in
theorem ck_112 : chkM 112 prog_10_method_9_code = true := by decide +kernel
theorem cc_113 : cb 113 = prog_10_method_10_code := rfl
set_option maxRecDepth 100000 in
set_option maxHeartbeats 4000000 in
theorem ck_113 : chkM 113 prog_10_method_10_code = true := by decide +kernel
theorem cc_114 : cb 114 = prog_10_method_11_code := rfl
set_option maxRecDepth 100000 in
set_option maxHeartbeats 4000000 in
theorem ck_114 : chkM 114 prog_10_method_11_code = true := by decide +kernel
theorem cc_115 : cb 115 = prog_10_method_12_code := rfl
set_option maxRecDepth 100000 in
set_option maxHeartbeats 4000000 in
theorem ck_115 : chkM 115 prog_10_method_12_code = true := by decide +kernel
theorem cc_116 : cb 116 = prog_10_method_13_code := rfl
set_option maxRecDepth 100000 in
set_option maxHeartbeats 4000000 in
theorem ck_116 : chkM 116 prog_10_method_13_code = true := by decide +kernel
theorem cc_117 : cb 117 = prog_10_method_14_code := rfl
set_option maxRecDepth 100000 in
set_option maxHeartbeats 4000000 in
theorem ck_117 : chkM 117 prog_10_method_14_code = true := by decide +kernel
theorem cc_118 : cb 118 = prog_10_method_15_code := rfl
set_option maxRecDepth 100000 in
set_option maxHeartbeats 4000000 in
theorem ck_118 : chkM 118 prog_10_method_15_code = true := by decide +kernel
theorem cc_119 : cb 119 = prog_10_method_16_code := rfl
set_option maxRecDepth 100000 in
set_option maxHeartbeats 4000000 in
theorem ck_119 : chkM 119 prog_10_method_16_code = true := by decide +kernel
theorem cc_120 : cb 120 = prog_10_method_17_code := rfl
set_option maxRecDepth 100000 in
set_option maxHeartbeats 4000000 in
theorem ck_120 : chkM 120 prog_10_method_17_code = true := by decide +kernel
theorem cc_121 : cb 121 = prog_10_method_18_code := rfl
set_option maxRecDepth 100000 in
set_option maxHeartbeats 4000000 in
theorem ck_121 : chkM 121 prog_10_method_18_code = true := by decide +kernel
theorem cc_122 : cb 122 = prog_10_method_19_code := rfl
set_option maxRecDepth 100000 in
set_option maxHeartbeats 4000000 in
theorem ck_122 : chkM 122 prog_10_method_19_code = true := by decide +kernel
theorem cc_123 : cb 123 = prog_10_method_20_code := rfl
set_option maxRecDepth 100000 in
set_option maxHeartbeats 4000000 in
theorem ck_123 : chkM 123 prog_10_method_20_code = true := by decide +kernel
theorem cc_124 : cb 124 = prog_10_method_21_code := rfl
set_option maxRecDepth 100000 in
set_option maxHeartbeats 4000000 in
theorem ck_124 : chkM 124 prog_10_method_21_code = true := by decide +kernel
theorem cc_125 : cb 125 = prog_10_method_22_code := rfl
set_option maxRecDepth 100000 in
set_option maxHeartbeats 4000000 in
theorem ck_125 : chkM 125 prog_10_method_22_code = true := by decide +kernel
theorem cc_126 : cb 126 = prog_10_method_23_code := rfl
set_option maxRecDepth 100000 in
set_option maxHeartbeats 4000000 in
theorem ck_126 : chkM 126 prog_10_method_23_code = true := by decide +kernel
theorem cc_127 : cb 127 = prog_10_method_24_code := rfl
set_option maxRecDepth 100000 in
set_option maxHeartbeats 4000000 in
theorem ck_127 : chkM 127 prog_10_method_24_code = true := by decide +kernel
theorem cc_128 : cb 128 = prog_10_method_25_code := rfl
set_option maxRecDepth 100000 in
set_option maxHeartbeats 4000000 in
theorem ck_128 : chkM 128 prog_10_method_25_code = true := by decide +kernel
theorem cc_129 : cb 129 = prog_10_method_26_code := rfl
set_option maxRecDepth 100000 in
set_option maxHeartbeats 4000000 in
theorem ck_129 : chkM 129 prog_10_method_26_code = true := by decide +kernel
theorem cc_130 : cb 130 = prog_10_method_27_code := rfl
set_option maxRecDepth 100000 in
set_option maxHeartbeats 4000000 in
theorem ck_130 : chkM 130 prog_10_method_27_code = true := by decide +kernel
theorem cc_131 : cb 131 = prog_10_method_28_code := rfl
set_option maxRecDepth 100000 in
set_option maxHeartbeats 4000000 in
theorem ck_131 : chkM 131 prog_10_method_28_code = true := by decide +kernel
theorem cc_132 : cb 132 = prog_10_method_29_code := rfl
set_option maxRecDepth 100000 in
set_option maxHeartbeats 4000000 in
theorem ck_132 : chkM 132 prog_10_method_29_code = true := by decide +kernel
theorem cc_133 : cb 133 = prog_10_method_30_code := rfl
set_option maxRecDepth 100000 in
set_option maxHeartbeats 4000000 in
theorem ck_133 : chkM 133 prog_10_method_30_code = true := by decide +kernel
theorem cc_134 : cb 134 = prog_10_method_31_code := rfl
set_option maxRecDepth 100000 in
set_option maxHeartbeats 4000000 in
theorem ck_134 : chkM 134 prog_10_method_31_code = true := by decide +kernel
theorem cc_135 : cb 135 = prog_10_method_32_code := rfl
set_option maxRecDepth 100000 in
set_option maxHeartbeats 4000000 in
theorem ck_135 : chkM 135 prog_10_method_32_code = true := by decide +kernel
theorem cc_136 : cb 136 = prog_10_method_33_code := rfl
set_option maxRecDepth 100000 in
set_option maxHeartbeats 4000000 in
theorem ck_136 : chkM 136 prog_10_method_33_code = true := by decide +kernel
theorem cc_137 : cb 137 = prog_10_method_34_code := rfl
set_option maxRecDepth 100000 in
set_option maxHeartbeats 4000000 in
theorem ck_137 : chkM 137 prog_10_method_34_code = true := by decide +kernel
theorem cc_138 : cb 138 = prog_10_method_35_code := rfl
set_option maxRecDepth 100000 in
set_option maxHeartbeats 4000000 in
theorem ck_138 : chkM 138 prog_10_method_35_code = true := by decide +kernel
theorem cc_139 : cb 139 = prog_10_method_36_code := rfl
set_option maxRecDepth 100000 in
set_option maxHeartbeats 4000000 in
theorem ck_139 : chkM 139 prog_10_method_36_code = true := by decide +kernel
theorem cc_140 : cb 140 = prog_10_method_37_code := rfl
set_option maxRecDepth 100000 in
set_option maxHeartbeats 4000000 in
theorem ck_140 : chkM 140 prog_10_method_37_code = true := by decide +kernel
theorem cc_141 : cb 141 = prog_10_method_38_code := rfl
set_option maxRecDepth 100000 in
set_option maxHeartbeats 4000000 in
theorem ck_141 : chkM 141 prog_10_method_38_code = true := by decide +kernel
theorem cc_142 : cb 142 = prog_10_method_39_code := rfl
set_option maxRecDepth 100000 in
set_option maxHeartbeats 4000000 in
theorem ck_142 : chkM 142 prog_10_method_39_code = true := by decide +kernel
theorem cc_143 : cb 143 = prog_10_method_40_code := rfl
set_option maxRecDepth 100000 in
set_option maxHeartbeats 4000000 in
theorem ck_143 : chkM 143 prog_10_method_40_code = true := by decide +kernel
theorem cc_144 : cb 144 = prog_10_method_41_code := rfl
set_option maxRecDepth 100000 in
set_option maxHeartbeats 4000000 in
theorem ck_144 : chkM 144 prog_10_method_41_code = true := by decide +kernel
theorem cc_145 : cb 145 = prog_10_method_42_code := rfl
set_option maxRecDepth 100000 in
set_option maxHeartbeats 4000000 in
theorem ck_145 : chkM 145 prog_10_method_42_code = true := by decide +kernel
theorem cc_146 : cb 146 = prog_10_method_43_code := rfl
set_option maxRecDepth 100000 in
set_option maxHeartbeats 4000000 in
theorem ck_146 : chkM 146 prog_10_method_43_code = true := by decide +kernel
theorem cc_147 : cb 147 = prog_10_method_44_code := rfl
set_option maxRecDepth 100000 in
set_option maxHeartbeats 4000000 in
theorem ck_147 : chkM 147 prog_10_method_44_code = true := by decide +kernel
theorem cc_148 : cb 148 = prog_10_method_45_code := rfl
set_option maxRecDepth 100000 in
set_option maxHeartbeats 4000000 in
theorem ck_148 : chkM 148 prog_10_method_45_code = true := by decide +kernel
theorem cc_149 : cb 149 = prog_10_method_46_code := rfl
set_option maxRecDepth 100000 in
set_option maxHeartbeats 4000000 in
theorem ck_149 : chkM 149 prog_10_method_46_code = true := by decide +kernel
theorem cc_150 : cb 150 = prog_10_method_47_code := rfl
set_option maxRecDepth 100000 in
set_option maxHeartbeats 4000000 in
theorem ck_150 : chkM 150 prog_10_method_47_code = true := by decide +kernel
theorem cc_151 : cb 151 = prog_10_method_48_code := rfl
set_option maxRecDepth 100000 in
set_option maxHeartbeats 4000000 in
theorem ck_151 : chkM 151 prog_10_method_48_code = true := by decide +kernel
theorem cc_152 : cb 152 = prog_10_method_49_code := rfl
set_option maxRecDepth 100000 in
set_option maxHeartbeats 4000000 in
theorem ck_152 : chkM 152 prog_10_method_49_code = true := by decide +kernel
theorem cc_153 : cb 153 = prog_10_method_50_code := rfl
set_option maxRecDepth 100000 in
set_option maxHeartbeats 4000000 in
theorem ck_153 : chkM 153 prog_10_method_50_code = true := by decide +kernel
theorem cc_154 : cb 154 = prog_10_method_51_code := rfl
set_option maxRecDepth 100000 in
set_option maxHeartbeats 4000000 in
theorem ck_154 : chkM 154 prog_10_method_51_code = true := by decide +kernel
theorem cc_155 : cb 155 = prog_10_method_52_code := rfl
set_option maxRecDepth 100000 in
set_option maxHeartbeats 4000000 in
theorem ck_155 : chkM 155 prog_10_method_52_code = true := by decide +kernel
theorem cc_156 : cb 156 = prog_10_method_53_code := rfl
set_option maxRecDepth 100000 in
set_option maxHeartbeats 4000000 in
theorem ck_156 : chkM 156 prog_10_method_53_code = true := by decide +kernel
theorem cc_157 : cb 157 = prog_10_method_54_code := rfl
set_option maxRecDepth 100000 in
set_option maxHeartbeats 4000000 in
theorem ck_157 : chkM 157 prog_10_method_54_code = true := by decide +kernel
theorem cc_158 : cb 158 = prog_10_method_55_code := rfl
set_option maxRecDepth 100000 in
set_option maxHeartbeats 4000000 in
theorem ck_158 : chkM 158 prog_10_method_55_code = true := by decide +kernel
theorem cc_159 : cb 159 = prog_10_method_56_code := rfl
set_option maxRecDepth 100000 in
set_option maxHeartbeats 4000000 in
theorem ck_159 : chkM 159 prog_10_method_56_code = true := by decide +kernel
theorem cc_160 : cb 160 = prog_10_method_57_code := rfl
set_option maxRecDepth 100000 in
set_option maxHeartbeats 4000000 in
theorem ck_160 : chkM 160 prog_10_method_57_code = true := by decide +kernel
theorem cc_161 : cb 161 = prog_10_method_58_code := rfl
set_option maxRecDepth 100000 in
set_option maxHeartbeats 4000000 in
theorem ck_161 : chkM 161 prog_10_method_58_code = true := by decide +kernel
theorem cc_162 : cb 162 = prog_10_method_59_code := rfl
set_option maxRecDepth 100000 in
set_option maxHeartbeats 4000000 in
theorem ck_162 : chkM 162 prog_10_method_59_code = true := by decide +kernel
theorem cc_163 : cb 163 = prog_10_method_60_code := rfl
set_option maxRecDepth 100000 in
set_option maxHeartbeats 4000000 in
theorem ck_163 : chkM 163 prog_10_method_60_code = true := by decide +kernel
theorem cc_164 : cb 164 = prog_10_method_61_code := rfl
set_option maxRecDepth 100000 in
set_option maxHeartbeats 4000000 in
theorem ck_164 : chkM 164 prog_10_method_61_code = true := by decide +kernel
theorem cc_165 : cb 165 = prog_10_method_62_code := rfl
set_option maxRecDepth 100000 in
set_option maxHeartbeats 4000000 in
theorem ck_165 : chkM 165 prog_10_method_62_code = true := by decide +kernel
theorem cc_166 : cb 166 = prog_10_method_63_code := rfl
set_option maxRecDepth 100000 in
set_option maxHeartbeats 4000000 in
theorem ck_166 : chkM 166 prog_10_method_63_code = true := by decide +kernel
theorem cc_167 : cb 167 = prog_10_method_64_code := rfl
set_option maxRecDepth 100000 in
set_option maxHeartbeats 4000000 in
theorem ck_167 : chkM 167 prog_10_method_64_code = true := by decide +kernel
theorem cc_168 : cb 168 = prog_10_method_65_code := rfl
set_option maxRecDepth 100000 in
set_option maxHeartbeats 4000000 in
theorem ck_168 : chkM 168 prog_10_method_65_code = true := by decide +kernel
theorem cc_169 : cb 169 = prog_10_method_66_code := rfl
set_option maxRecDepth 100000 in
set_option maxHeartbeats 4000000 in
theorem ck_169 : chkM 169 prog_10_method_66_code = true := by decide +kernel
theorem cc_170 : cb 170 = prog_10_method_67_code := rfl
set_option maxRecDepth 100000 in
set_option maxHeartbeats 4000000 in
theorem ck_170 : chkM 170 prog_10_method_67_code = true := by decide +kernel
theorem cc_171 : cb 171 = prog_10_method_68_code := rfl
set_option maxRecDepth 100000 in
set_option maxHeartbeats 4000000 in
theorem ck_171 : chkM 171 prog_10_method_68_code = true := by decide +kernel
theorem cc_172 : cb 172 = prog_10_method_69_code := rfl
set_option maxRecDepth 100000 in
set_option maxHeartbeats 4000000 in
theorem ck_172 : chkM 172 prog_10_method_69_code = true := by decide +kernel
theorem cc_173 : cb 173 = prog_10_method_70_code := rfl
set_option maxRecDepth 100000 in
set_option maxHeartbeats 4000000 in
theorem ck_173 : chkM 173 prog_10_method_70_code = true := by decide +kernel
theorem cc_174 : cb 174 = prog_10_method_71_code := rfl
set_option maxRecDepth 100000 in
set_option maxHeartbeats 4000000 in
theorem ck_174 : chkM 174 prog_10_method_71_code = true := by decide +kernel
theorem cc_175 : cb 175 = prog_10_method_72_code := rfl
set_option maxRecDepth 100000 in
set_option maxHeartbeats 4000000 in
theorem ck_175 : chkM 175 prog_10_method_72_code = true := by decide +kernel
theorem cc_176 : cb 176 = prog_10_method_73_code := rfl
set_option maxRecDepth 100000 in
set_option maxHeartbeats 4000000 in
theorem ck_176 : chkM 176 prog_10_method_73_code = true := by decide +kernel
theorem cc_177 : cb 177 = prog_10_method_74_code := rfl
set_option maxRecDepth 100000 in
set_option maxHeartbeats 4000000 in
theorem ck_177 : chkM 177 prog_10_method_74_code = true := by decide +kernel
theorem cc_178 : cb 178 = prog_10_method_75_code := rfl
set_option maxRecDepth 100000 in
set_option maxHeartbeats 4000000 in
theorem ck_178 : chkM 178 prog_10_method_75_code = true := by decide +kernel
theorem cc_179 : cb 179 = prog_10_method_76_code := rfl
set_option maxRecDepth 100000 in
set_option maxHeartbeats 4000000 in
theorem ck_179 : chkM 179 prog_10_method_76_code = true := by decide +kernel
theorem cc_180 : cb 180 = prog_10_method_77_code := rfl
set_option maxRecDepth 100000 in
set_option maxHeartbeats 4000000 in
theorem ck_180 : chkM 180 prog_10_method_77_code = true := by decide +kernel
theorem cc_181 : cb 181 = prog_10_method_78_code := rfl
set_option maxRecDepth 100000 in
set_option maxHeartbeats 4000000 in
theorem ck_181 : chkM 181 prog_10_method_78_code = true := by decide +kernel
theorem cc_182 : cb 182 = prog_10_method_79_code := rfl
set_option maxRecDepth 100000 in
set_option maxHeartbeats 4000000 in
theorem ck_182 : chkM 182 prog_10_method_79_code = true := by decide +kernel
theorem cc_183 : cb 183 = prog_10_method_80_code := rfl
set_option maxRecDepth 100000 in
set_option maxHeartbeats 4000000 in
theorem ck_183 : chkM 183 prog_10_method_80_code = true := by decide +kernel
theorem cc_184 : cb 184 = prog_10_method_81_code := rfl
set_option maxRecDepth 100000 in
set_option maxHeartbeats 4000000 in
theorem ck_184 : chkM 184 prog_10_method_81_code = true := by decide +kernel
theorem cc_185 : cb 185 = prog_10_method_82_code := rfl
set_option maxRecDepth 100000 in
set_option maxHeartbeats 4000000 in
theorem ck_185 : chkM 185 prog_10_method_82_code = true := by decide +kernel
theorem cc_186 : cb 186 = prog_10_method_83_code := rfl
set_option maxRecDepth 100000 in
set_option maxHeartbeats 4000000 in
theorem ck_186 : chkM 186 prog_10_method_83_code = true := by decide +kernel
theorem cc_187 : cb 187 = prog_10_method_84_code := rfl
set_option maxRecDepth 100000 in
set_option maxHeartbeats 4000000 in
theorem ck_187 : chkM 187 prog_10_method_84_code = true := by decide +kernel
theorem cc_188 : cb 188 = prog_10_method_85_code := rfl
set_option maxRecDepth 100000 in
set_option maxHeartbeats 4000000 in
theorem ck_188 : chkM 188 prog_10_method_85_code = true := by decide +kernel
theorem cc_189 : cb 189 = prog_10_method_86_code := rfl
set_option maxRecDepth 100000 in
set_option maxHeartbeats 4000000 in
theorem ck_189 : chkM 189 prog_10_method_86_code = true := by decide +kernel
theorem cc_190 : cb 190 = prog_10_method_87_code := rfl
set_option maxRecDepth 100000 in
set_option maxHeartbeats 4000000 in
theorem ck_190 : chkM 190 prog_10_method_87_code = true := by decide +kernel
theorem cc_191 : cb 191 = prog_10_method_88_code := rfl
set_option maxRecDepth 100000 in
set_option maxHeartbeats 4000000 in
theorem ck_191 : chkM 191 prog_10_method_88_code = true := by decide +kernel
theorem cc_192 : cb 192 = prog_10_method_89_code := rfl
set_option maxRecDepth 100000 in
set_option maxHeartbeats 4000000 in
theorem ck_192 : chkM 192 prog_10_method_89_code = true := by decide +kernel
theorem cc_193 : cb 193 = prog_10_method_90_code := rfl
set_option maxRecDepth 100000 in
set_option maxHeartbeats 4000000 in
theorem ck_193 : chkM 193 prog_10_method_90_code = true := by decide +kernel
theorem cc_194 : cb 194 = prog_10_method_91_code := rfl
set_option maxRecDepth 100000 in
set_option maxHeartbeats 4000000 in
theorem ck_194 : chkM 194 prog_10_method_91_code = true := by decide +kernel
theorem cc_195 : cb 195 = prog_10_method_92_code := rfl
set_option maxRecDepth 100000 in
set_option maxHeartbeats 4000000 in
theorem ck_195 : chkM 195 prog_10_method_92_code = true := by decide +kernel
theorem cc_196 : cb 196 = code := rfl
