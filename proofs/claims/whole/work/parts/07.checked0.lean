set_option maxRecDepth 100000 in
theorem ck_0 : chkM 0 = true := (show chkL 0 prog_2_method_1_code ko_0 wl_0 0 kc_0 = true by decide +kernel)
set_option maxRecDepth 100000 in
theorem ck_1 : chkM 1 = true := (show chkL 1 prog_2_method_2_code ko_1 wl_0 0 kc_1 = true by decide +kernel)
set_option maxRecDepth 100000 in
theorem ck_2 : chkM 2 = true := (show chkL 2 prog_2_method_3_code ko_2 wl_0 0 kc_2 = true by decide +kernel)
set_option maxRecDepth 100000 in
theorem ck_3 : chkM 3 = true := (show chkL 3 prog_2_method_4_code ko_3 wl_0 0 kc_3 = true by decide +kernel)
set_option maxRecDepth 100000 in
theorem ck_4 : chkM 4 = true := (show chkL 4 prog_2_method_5_code ko_4 wl_0 0 kc_4 = true by decide +kernel)
set_option maxRecDepth 100000 in
theorem ck_5 : chkM 5 = true := (show chkL 5 prog_2_method_6_code ko_5 wl_0 0 kc_5 = true by decide +kernel)
set_option maxRecDepth 100000 in
theorem ck_6 : chkM 6 = true := (show chkL 6 prog_3_method_1_code ko_6 wl_1 0 kc_6 = true by decide +kernel)
set_option maxRecDepth 100000 in
theorem ck_7 : chkM 7 = true := (show chkL 7 prog_3_method_2_code ko_7 wl_1 0 kc_7 = true by decide +kernel)
set_option maxRecDepth 100000 in
theorem ck_8 : chkM 8 = true := (show chkL 8 prog_3_method_3_code ko_8 wl_1 0 kc_8 = true by decide +kernel)
set_option maxRecDepth 100000 in
theorem ck_9 : chkM 9 = true := (show chkL 9 prog_3_method_4_code ko_9 wl_1 0 kc_9 = true by decide +kernel)
set_option maxRecDepth 100000 in
theorem ck_10 : chkM 10 = true := (show chkL 10 prog_3_method_5_code ko_10 wl_1 0 kc_10 = true by decide +kernel)
set_option maxRecDepth 100000 in
theorem ck_11 : chkM 11 = true := (show chkL 11 prog_3_method_6_code ko_11 wl_1 0 kc_11 = true by decide +kernel)
set_option maxRecDepth 100000 in
theorem ck_12 : chkM 12 = true := (show chkL 12 prog_3_method_7_code ko_12 wl_1 0 kc_12 = true by decide +kernel)
set_option maxRecDepth 100000 in
theorem ck_13 : chkM 13 = true := (show chkL 13 prog_3_method_8_code ko_13 wl_1 0 kc_13 = true by decide +kernel)
set_option maxRecDepth 100000 in
theorem ck_14 : chkM 14 = true := (show chkL 14 prog_3_method_9_code ko_14 wl_1 0 kc_14 = true by decide +kernel)
set_option maxRecDepth 100000 in
theorem ck_15 : chkM 15 = true := (show chkL 15 prog_3_method_10_code ko_15 wl_1 0 kc_15 = true by decide +kernel)
set_option maxRecDepth 100000 in
theorem ck_16 : chkM 16 = true := (show chkL 16 prog_3_method_11_code ko_16 wl_1 0 kc_16 = true by decide +kernel)
set_option maxRecDepth 100000 in
theorem ck_17 : chkM 17 = true := (show chkL 17 prog_3_method_12_code ko_17 wl_1 0 kc_17 = true by decide +kernel)
set_option maxRecDepth 100000 in
theorem ck_18 : chkM 18 = true := (show chkL 18 prog_3_method_13_code ko_18 wl_1 0 kc_18 = true by decide +kernel)
set_option maxRecDepth 100000 in
theorem ck_19 : chkM 19 = true := (show chkL 19 prog_3_method_14_code ko_19 wl_1 0 kc_19 = true by decide +kernel)
set_option maxRecDepth 100000 in
theorem ck_20 : chkM 20 = true := (show chkL 20 prog_3_method_15_code ko_20 wl_1 0 kc_20 = true by decide +kernel)
set_option maxRecDepth 100000 in
theorem ck_21 : chkM 21 = true := (show chkL 21 prog_3_method_16_code ko_21 wl_1 0 kc_21 = true by decide +kernel)
set_option maxRecDepth 100000 in
theorem ck_22 : chkM 22 = true := (show chkL 22 prog_3_method_17_code ko_22 wl_1 0 kc_22 = true by decide +kernel)
set_option maxRecDepth 100000 in
theorem ck_23 : chkM 23 = true := (show chkL 23 prog_4_method_1_code ko_23 wl_2 0 kc_23 = true by decide +kernel)
set_option maxRecDepth 100000 in
theorem ck_24 : chkM 24 = true := (show chkL 24 prog_4_method_2_code ko_24 wl_2 0 kc_24 = true by decide +kernel)
set_option maxRecDepth 100000 in
theorem ck_25 : chkM 25 = true := (show chkL 25 prog_4_method_3_code ko_25 wl_2 0 kc_25 = true by decide +kernel)
set_option maxRecDepth 100000 in
theorem ck_26 : chkM 26 = true := (show chkL 26 prog_4_method_4_code ko_26 wl_2 0 kc_26 = true by decide +kernel)
set_option maxRecDepth 100000 in
theorem ck_27 : chkM 27 = true := (show chkL 27 prog_4_method_5_code ko_27 wl_2 0 kc_27 = true by decide +kernel)
set_option maxRecDepth 100000 in
theorem ck_28 : chkM 28 = true := (show chkL 28 prog_4_method_6_code ko_28 wl_2 0 kc_28 = true by decide +kernel)
set_option maxRecDepth 100000 in
theorem ck_29 : chkM 29 = true := (show chkL 29 prog_4_method_7_code ko_29 wl_2 0 kc_29 = true by decide +kernel)
set_option maxRecDepth 100000 in
theorem ck_30 : chkM 30 = true := (show chkL 30 prog_4_method_8_code ko_30 wl_2 0 kc_30 = true by decide +kernel)
set_option maxRecDepth 100000 in
theorem ck_31 : chkM 31 = true := (show chkL 31 prog_4_method_9_code ko_31 wl_2 0 kc_31 = true by decide +kernel)
set_option maxRecDepth 100000 in
theorem ck_32 : chkM 32 = true := (show chkL 32 prog_4_method_10_code ko_32 wl_2 0 kc_32 = true by decide +kernel)
set_option maxRecDepth 100000 in
theorem ck_33 : chkM 33 = true := (show chkL 33 prog_4_method_11_code ko_33 wl_2 0 kc_33 = true by decide +kernel)
set_option maxRecDepth 100000 in
theorem ck_34 : chkM 34 = true := (show chkL 34 prog_5_method_1_code ko_34 wl_3 0 kc_34 = true by decide +kernel)
set_option maxRecDepth 100000 in
theorem ck_35 : chkM 35 = true := (show chkL 35 prog_5_method_2_code ko_35 wl_3 0 kc_35 = true by decide +kernel)
set_option maxRecDepth 100000 in
theorem ck_36 : chkM 36 = true := (show chkL 36 prog_5_method_3_code ko_36 wl_3 0 kc_36 = true by decide +kernel)
set_option maxRecDepth 100000 in
theorem ck_37 : chkM 37 = true := (show chkL 37 prog_5_method_4_code ko_37 wl_3 0 kc_37 = true by decide +kernel)
set_option maxRecDepth 100000 in
theorem ck_38 : chkM 38 = true := (show chkL 38 prog_5_method_5_code ko_38 wl_3 0 kc_38 = true by decide +kernel)
set_option maxRecDepth 100000 in
theorem ck_39 : chkM 39 = true := (show chkL 39 prog_5_method_6_code ko_39 wl_3 0 kc_39 = true by decide +kernel)
set_option maxRecDepth 100000 in
theorem ck_40 : chkM 40 = true := (show chkL 40 prog_5_method_7_code ko_40 wl_3 0 kc_40 = true by decide +kernel)
set_option maxRecDepth 100000 in
theorem ck_41 : chkM 41 = true := (show chkL 41 prog_5_method_8_code ko_41 wl_3 0 kc_41 = true by decide +kernel)
set_option maxRecDepth 100000 in
theorem ck_42 : chkM 42 = true := (show chkL 42 prog_5_method_9_code ko_42 wl_3 0 kc_42 = true by decide +kernel)
set_option maxRecDepth 100000 in
theorem ck_43 : chkM 43 = true := (show chkL 43 prog_5_method_10_code ko_43 wl_3 0 kc_43 = true by decide +kernel)
set_option maxRecDepth 100000 in
theorem ck_44 : chkM 44 = true := (show chkL 44 prog_6_method_1_code ko_44 wl_4 0 kc_44 = true by decide +kernel)
set_option maxRecDepth 100000 in
theorem ck_45 : chkM 45 = true := (show chkL 45 prog_6_method_2_code ko_45 wl_4 0 kc_45 = true by decide +kernel)
set_option maxRecDepth 100000 in
theorem ck_46 : chkM 46 = true := (show chkL 46 prog_6_method_3_code ko_46 wl_4 0 kc_46 = true by decide +kernel)
set_option maxRecDepth 100000 in
theorem ck_47 : chkM 47 = true := (show chkL 47 prog_6_method_4_code ko_47 wl_4 0 kc_47 = true by decide +kernel)
set_option maxRecDepth 100000 in
theorem ck_48 : chkM 48 = true := (show chkL 48 prog_6_method_5_code ko_48 wl_4 0 kc_48 = true by decide +kernel)
set_option maxRecDepth 100000 in
theorem ck_49 : chkM 49 = true := (show chkL 49 prog_6_method_6_code ko_49 wl_4 0 kc_49 = true by decide +kernel)
set_option maxRecDepth 100000 in
theorem ck_50 : chkM 50 = true := (show chkL 50 prog_6_method_7_code ko_50 wl_4 0 kc_50 = true by decide +kernel)
set_option maxRecDepth 100000 in
theorem ck_51 : chkM 51 = true := (show chkL 51 prog_6_method_8_code ko_51 wl_4 0 kc_51 = true by decide +kernel)
set_option maxRecDepth 100000 in
theorem ck_52 : chkM 52 = true := (show chkL 52 prog_6_method_9_code ko_52 wl_4 0 kc_52 = true by decide +kernel)
set_option maxRecDepth 100000 in
theorem ck_53 : chkM 53 = true := (show chkL 53 prog_6_method_10_code ko_53 wl_4 0 kc_53 = true by decide +kernel)
set_option maxRecDepth 100000 in
theorem ck_54 : chkM 54 = true := (show chkL 54 prog_6_method_11_code ko_54 wl_4 0 kc_54 = true by decide +kernel)
set_option maxRecDepth 100000 in
theorem ck_55 : chkM 55 = true := (show chkL 55 prog_6_method_12_code ko_55 wl_4 0 kc_55 = true by decide +kernel)
set_option maxRecDepth 100000 in
theorem ck_56 : chkM 56 = true := (show chkL 56 prog_6_method_13_code ko_56 wl_4 0 kc_56 = true by decide +kernel)
set_option maxRecDepth 100000 in
theorem ck_57 : chkM 57 = true := (show chkL 57 prog_6_method_14_code ko_57 wl_4 0 kc_57 = true by decide +kernel)
set_option maxRecDepth 100000 in
theorem ck_58 : chkM 58 = true := (show chkL 58 prog_6_method_15_code ko_58 wl_4 0 kc_58 = true by decide +kernel)
set_option maxRecDepth 100000 in
theorem ck_59 : chkM 59 = true := (show chkL 59 prog_6_method_16_code ko_59 wl_4 0 kc_59 = true by decide +kernel)
set_option maxRecDepth 100000 in
theorem ck_60 : chkM 60 = true := (show chkL 60 prog_6_method_17_code ko_60 wl_4 0 kc_60 = true by decide +kernel)
set_option maxRecDepth 100000 in
theorem ck_61 : chkM 61 = true := (show chkL 61 prog_6_method_18_code ko_61 wl_4 0 kc_61 = true by decide +kernel)
set_option maxRecDepth 100000 in
theorem ck_62 : chkM 62 = true := (show chkL 62 prog_7_method_1_code ko_62 wl_5 0 kc_62 = true by decide +kernel)
set_option maxRecDepth 100000 in
theorem ck_63 : chkM 63 = true := (show chkL 63 prog_7_method_2_code ko_63 wl_5 0 kc_63 = true by decide +kernel)
set_option maxRecDepth 100000 in
theorem ck_64 : chkM 64 = true := (show chkL 64 prog_7_method_3_code ko_64 wl_5 0 kc_64 = true by decide +kernel)
set_option maxRecDepth 100000 in
theorem ck_65 : chkM 65 = true := (show chkL 65 prog_7_method_4_code ko_65 wl_5 0 kc_65 = true by decide +kernel)
set_option maxRecDepth 100000 in
theorem ck_66 : chkM 66 = true := (show chkL 66 prog_8_method_1_code ko_66 wl_6 0 kc_66 = true by decide +kernel)
set_option maxRecDepth 100000 in
theorem ck_67 : chkM 67 = true := (show chkL 67 prog_8_method_2_code ko_67 wl_6 0 kc_67 = true by decide +kernel)
set_option maxRecDepth 100000 in
theorem ck_68 : chkM 68 = true := (show chkL 68 prog_8_method_3_code ko_68 wl_6 0 kc_68 = true by decide +kernel)
set_option maxRecDepth 100000 in
theorem ck_69 : chkM 69 = true := (show chkL 69 prog_8_method_4_code ko_69 wl_6 0 kc_69 = true by decide +kernel)
set_option maxRecDepth 100000 in
theorem ck_70 : chkM 70 = true := (show chkL 70 prog_8_method_5_code ko_70 wl_6 0 kc_70 = true by decide +kernel)
set_option maxRecDepth 100000 in
theorem ck_71 : chkM 71 = true := (show chkL 71 prog_8_method_6_code ko_71 wl_6 0 kc_71 = true by decide +kernel)
set_option maxRecDepth 100000 in
theorem ck_72 : chkM 72 = true := (show chkL 72 prog_8_method_7_code ko_72 wl_6 0 kc_72 = true by decide +kernel)
