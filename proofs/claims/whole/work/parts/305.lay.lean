theorem wt_0_1 : wtg 0 1 = 1 := by decide +kernel
theorem wt_0_2 : wtg 0 2 = 17 := by decide +kernel
theorem wt_0_3 : wtg 0 3 = 19 := by decide +kernel
theorem wt_0_4 : wtg 0 4 = 21 := by decide +kernel
theorem wt_0_5 : wtg 0 5 = 30 := by decide +kernel
theorem wt_1_0 : wtg 1 0 = 2 := by decide +kernel
theorem wt_1_1 : wtg 1 1 = 4 := by decide +kernel
theorem wt_1_2 : wtg 1 2 = 6 := by decide +kernel
theorem wt_1_3 : wtg 1 3 = 8 := by decide +kernel
theorem wt_1_4 : wtg 1 4 = 10 := by decide +kernel
theorem wt_2_0 : wtg 2 0 = 3 := by decide +kernel
theorem wl_3 : wln 3 = 576 := by decide +kernel
theorem wt_4_0 : wtg 4 0 = 5 := by decide +kernel
theorem wl_5 : wln 5 = 3 := by decide +kernel
theorem wt_6_0 : wtg 6 0 = 7 := by decide +kernel
theorem wl_7 : wln 7 = 4 := by decide +kernel
theorem wt_8_0 : wtg 8 0 = 9 := by decide +kernel
theorem wl_9 : wln 9 = 1024 := by decide +kernel
theorem wt_10_0 : wtg 10 0 = 11 := by decide +kernel
theorem wt_10_1 : wtg 10 1 = 13 := by decide +kernel
theorem wt_10_2 : wtg 10 2 = 15 := by decide +kernel
theorem wt_11_0 : wtg 11 0 = 12 := by decide +kernel
theorem wl_12 : wln 12 = 6 := by decide +kernel
theorem wt_13_0 : wtg 13 0 = 14 := by decide +kernel
theorem wl_14 : wln 14 = 6 := by decide +kernel
theorem wt_15_0 : wtg 15 0 = 16 := by decide +kernel
theorem wl_16 : wln 16 = 180 := by decide +kernel
theorem wt_17_0 : wtg 17 0 = 18 := by decide +kernel
theorem wl_18 : wln 18 = 6000 := by decide +kernel
theorem wt_19_0 : wtg 19 0 = 20 := by decide +kernel
theorem wl_20 : wln 20 = 6000 := by decide +kernel
theorem wt_21_0 : wtg 21 0 = 1 := by decide +kernel
theorem wt_21_1 : wtg 21 1 = 17 := by decide +kernel
theorem wt_21_2 : wtg 21 2 = 22 := by decide +kernel
theorem wt_21_3 : wtg 21 3 = 29 := by decide +kernel
theorem wt_22_0 : wtg 22 0 = 23 := by decide +kernel
theorem wt_22_1 : wtg 22 1 = 25 := by decide +kernel
theorem wt_22_2 : wtg 22 2 = 27 := by decide +kernel
theorem wt_23_0 : wtg 23 0 = 24 := by decide +kernel
theorem wl_24 : wln 24 = 576 := by decide +kernel
theorem wt_25_0 : wtg 25 0 = 26 := by decide +kernel
theorem wl_26 : wln 26 = 4 := by decide +kernel
theorem wt_27_0 : wtg 27 0 = 28 := by decide +kernel
theorem wl_28 : wln 28 = 4 := by decide +kernel
theorem wt_29_0 : wtg 29 0 = 17 := by decide +kernel
theorem wt_30_0 : wtg 30 0 = 19 := by decide +kernel
theorem wt_30_1 : wtg 30 1 = 31 := by decide +kernel
theorem wt_30_2 : wtg 30 2 = 47 := by decide +kernel
theorem wt_30_3 : wtg 30 3 = 48 := by decide +kernel
theorem wt_30_4 : wtg 30 4 = 49 := by decide +kernel
theorem wt_30_5 : wtg 30 5 = 54 := by decide +kernel
theorem wt_31_0 : wtg 31 0 = 32 := by decide +kernel
theorem wt_31_1 : wtg 31 1 = 34 := by decide +kernel
theorem wt_31_2 : wtg 31 2 = 36 := by decide +kernel
theorem wt_31_3 : wtg 31 3 = 38 := by decide +kernel
theorem wt_31_4 : wtg 31 4 = 40 := by decide +kernel
theorem wt_32_0 : wtg 32 0 = 33 := by decide +kernel
theorem wl_33 : wln 33 = 576 := by decide +kernel
theorem wt_34_0 : wtg 34 0 = 35 := by decide +kernel
theorem wl_35 : wln 35 = 3 := by decide +kernel
theorem wt_36_0 : wtg 36 0 = 37 := by decide +kernel
theorem wl_37 : wln 37 = 4 := by decide +kernel
theorem wt_38_0 : wtg 38 0 = 39 := by decide +kernel
theorem wl_39 : wln 39 = 1024 := by decide +kernel
theorem wt_40_0 : wtg 40 0 = 41 := by decide +kernel
theorem wt_40_1 : wtg 40 1 = 43 := by decide +kernel
theorem wt_40_2 : wtg 40 2 = 45 := by decide +kernel
theorem wt_41_0 : wtg 41 0 = 42 := by decide +kernel
theorem wl_42 : wln 42 = 6 := by decide +kernel
theorem wt_43_0 : wtg 43 0 = 44 := by decide +kernel
theorem wl_44 : wln 44 = 6 := by decide +kernel
theorem wt_45_0 : wtg 45 0 = 46 := by decide +kernel
theorem wl_46 : wln 46 = 180 := by decide +kernel
theorem wt_48_0 : wtg 48 0 = 19 := by decide +kernel
theorem wt_48_1 : wtg 48 1 = 47 := by decide +kernel
theorem wt_49_0 : wtg 49 0 = 32 := by decide +kernel
theorem wt_49_1 : wtg 49 1 = 50 := by decide +kernel
theorem wt_49_2 : wtg 49 2 = 52 := by decide +kernel
theorem wt_50_0 : wtg 50 0 = 51 := by decide +kernel
theorem wl_51 : wln 51 = 4 := by decide +kernel
theorem wt_52_0 : wtg 52 0 = 53 := by decide +kernel
theorem wl_53 : wln 53 = 4 := by decide +kernel
theorem wt_54_0 : wtg 54 0 = 55 := by decide +kernel
theorem wl_55 : wln 55 = 4 := by decide +kernel
theorem wt_56_6 : wtg 56 6 = 57 := by decide +kernel
theorem wt_56_7 : wtg 56 7 = 58 := by decide +kernel
theorem wt_56_8 : wtg 56 8 = 59 := by decide +kernel
theorem wt_56_13 : wtg 56 13 = 60 := by decide +kernel
theorem wt_56_14 : wtg 56 14 = 61 := by decide +kernel
theorem wt_56_15 : wtg 56 15 = 62 := by decide +kernel
theorem wt_56_16 : wtg 56 16 = 63 := by decide +kernel
theorem wt_56_18 : wtg 56 18 = 64 := by decide +kernel
theorem wt_56_21 : wtg 56 21 = 65 := by decide +kernel
theorem wt_56_22 : wtg 56 22 = 66 := by decide +kernel
theorem wt_56_23 : wtg 56 23 = 67 := by decide +kernel
theorem wt_56_24 : wtg 56 24 = 68 := by decide +kernel
theorem wt_56_25 : wtg 56 25 = 69 := by decide +kernel
theorem wt_56_26 : wtg 56 26 = 70 := by decide +kernel
theorem wt_56_27 : wtg 56 27 = 71 := by decide +kernel
theorem wt_56_44 : wtg 56 44 = 72 := by decide +kernel
theorem wt_56_45 : wtg 56 45 = 73 := by decide +kernel
theorem wt_56_46 : wtg 56 46 = 74 := by decide +kernel
theorem wt_56_47 : wtg 56 47 = 75 := by decide +kernel
theorem wt_56_48 : wtg 56 48 = 76 := by decide +kernel
theorem wt_56_49 : wtg 56 49 = 77 := by decide +kernel
theorem wt_56_50 : wtg 56 50 = 78 := by decide +kernel
theorem wt_56_51 : wtg 56 51 = 79 := by decide +kernel
theorem wt_56_52 : wtg 56 52 = 80 := by decide +kernel
theorem wt_56_53 : wtg 56 53 = 81 := by decide +kernel
theorem wl_57 : wln 57 = 576 := by decide +kernel
theorem wl_58 : wln 58 = 4 := by decide +kernel
theorem wl_59 : wln 59 = 1024 := by decide +kernel
theorem wl_60 : wln 60 = 6 := by decide +kernel
theorem wl_61 : wln 61 = 6 := by decide +kernel
theorem wl_62 : wln 62 = 180 := by decide +kernel
theorem wl_63 : wln 63 = 9000 := by decide +kernel
theorem wl_64 : wln 64 = 6000 := by decide +kernel
theorem wl_65 : wln 65 = 10 := by decide +kernel
theorem wl_66 : wln 66 = 576 := by decide +kernel
theorem wl_67 : wln 67 = 4 := by decide +kernel
theorem wl_68 : wln 68 = 1024 := by decide +kernel
theorem wl_69 : wln 69 = 6 := by decide +kernel
theorem wl_70 : wln 70 = 6 := by decide +kernel
theorem wl_71 : wln 71 = 180 := by decide +kernel
theorem wl_72 : wln 72 = 576 := by decide +kernel
theorem wl_73 : wln 73 = 4 := by decide +kernel
theorem wl_74 : wln 74 = 1024 := by decide +kernel
theorem wl_75 : wln 75 = 6 := by decide +kernel
theorem wl_76 : wln 76 = 6 := by decide +kernel
theorem wl_77 : wln 77 = 180 := by decide +kernel
theorem wl_78 : wln 78 = 4 := by decide +kernel
theorem wl_79 : wln 79 = 576 := by decide +kernel
theorem wl_80 : wln 80 = 4 := by decide +kernel
theorem wl_81 : wln 81 = 4 := by decide +kernel
theorem wl_82 : wln 82 = 1 := by decide +kernel
