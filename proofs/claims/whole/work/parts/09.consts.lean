theorem rfX_0_0 : x_rf TX 0 0 = 1 := by decide +kernel
theorem rfX_0_1 : x_rf TX 0 1 = 14 := by decide +kernel
theorem rfX_0_2 : x_rf TX 0 2 = 34 := by decide +kernel
theorem rfX_0_3 : x_rf TX 0 3 = 35 := by decide +kernel
theorem rfX_0_4 : x_rf TX 0 4 = 37 := by decide +kernel
theorem rfX_0_5 : x_rf TX 0 5 = 39 := by decide +kernel
theorem rfX_0_6 : x_rf TX 0 6 = 141 := by decide +kernel
theorem rfX_0_7 : x_rf TX 0 7 = 142 := by decide +kernel
theorem rfX_0_8 : x_rf TX 0 8 = 143 := by decide +kernel
theorem rfX_0_9 : x_rf TX 0 9 = 167 := by decide +kernel
theorem rfX_0_10 : x_rf TX 0 10 = 168 := by decide +kernel
theorem rfX_0_11 : x_rf TX 0 11 = 169 := by decide +kernel
theorem rfX_0_12 : x_rf TX 0 12 = 170 := by decide +kernel
theorem rfX_1_8 : x_rf TX 1 8 = 2 := by decide +kernel
theorem rfX_1_9 : x_rf TX 1 9 = 3 := by decide +kernel
theorem rfX_1_10 : x_rf TX 1 10 = 4 := by decide +kernel
theorem rfX_1_11 : x_rf TX 1 11 = 5 := by decide +kernel
theorem rfX_1_12 : x_rf TX 1 12 = 6 := by decide +kernel
theorem rfX_1_13 : x_rf TX 1 13 = 7 := by decide +kernel
theorem rfX_1_14 : x_rf TX 1 14 = 8 := by decide +kernel
theorem lnX_2 : x_ln TX 2 = 6 := by decide +kernel
theorem lnX_3 : x_ln TX 3 = 6 := by decide +kernel
theorem lnX_4 : x_ln TX 4 = 6 := by decide +kernel
theorem lnX_5 : x_ln TX 5 = 6 := by decide +kernel
theorem lnX_6 : x_ln TX 6 = 6 := by decide +kernel
theorem lnX_7 : x_ln TX 7 = 6 := by decide +kernel
theorem rfX_8_0 : x_rf TX 8 0 = 9 := by decide +kernel
theorem rfX_8_2 : x_rf TX 8 2 = 10 := by decide +kernel
theorem rfX_8_4 : x_rf TX 8 4 = 11 := by decide +kernel
theorem rfX_8_5 : x_rf TX 8 5 = 12 := by decide +kernel
theorem rfX_8_6 : x_rf TX 8 6 = 13 := by decide +kernel
theorem lnX_9 : x_ln TX 9 = 420 := by decide +kernel
theorem lnX_10 : x_ln TX 10 = 420 := by decide +kernel
theorem lnX_11 : x_ln TX 11 = 7 := by decide +kernel
theorem lnX_12 : x_ln TX 12 = 7 := by decide +kernel
theorem lnX_13 : x_ln TX 13 = 40 := by decide +kernel
theorem rfX_14_0 : x_rf TX 14 0 = 15 := by decide +kernel
theorem rfX_14_2 : x_rf TX 14 2 = 16 := by decide +kernel
theorem rfX_14_3 : x_rf TX 14 3 = 17 := by decide +kernel
theorem rfX_14_4 : x_rf TX 14 4 = 18 := by decide +kernel
theorem rfX_14_7 : x_rf TX 14 7 = 19 := by decide +kernel
theorem rfX_14_8 : x_rf TX 14 8 = 20 := by decide +kernel
theorem rfX_14_12 : x_rf TX 14 12 = 21 := by decide +kernel
theorem lnX_15 : x_ln TX 15 = 2000 := by decide +kernel
theorem lnX_16 : x_ln TX 16 = 402 := by decide +kernel
theorem lnX_17 : x_ln TX 17 = 402 := by decide +kernel
theorem lnX_18 : x_ln TX 18 = 402 := by decide +kernel
theorem lnX_19 : x_ln TX 19 = 4 := by decide +kernel
theorem lnX_20 : x_ln TX 20 = 40 := by decide +kernel
theorem rfX_21_8 : x_rf TX 21 8 = 22 := by decide +kernel
theorem rfX_21_9 : x_rf TX 21 9 = 23 := by decide +kernel
theorem rfX_21_10 : x_rf TX 21 10 = 24 := by decide +kernel
theorem rfX_21_11 : x_rf TX 21 11 = 25 := by decide +kernel
theorem rfX_21_12 : x_rf TX 21 12 = 26 := by decide +kernel
theorem rfX_21_13 : x_rf TX 21 13 = 27 := by decide +kernel
theorem rfX_21_14 : x_rf TX 21 14 = 28 := by decide +kernel
theorem lnX_22 : x_ln TX 22 = 6 := by decide +kernel
theorem lnX_23 : x_ln TX 23 = 6 := by decide +kernel
theorem lnX_24 : x_ln TX 24 = 6 := by decide +kernel
theorem lnX_25 : x_ln TX 25 = 6 := by decide +kernel
theorem lnX_26 : x_ln TX 26 = 6 := by decide +kernel
theorem lnX_27 : x_ln TX 27 = 6 := by decide +kernel
theorem rfX_28_0 : x_rf TX 28 0 = 29 := by decide +kernel
theorem rfX_28_2 : x_rf TX 28 2 = 30 := by decide +kernel
theorem rfX_28_4 : x_rf TX 28 4 = 31 := by decide +kernel
theorem rfX_28_5 : x_rf TX 28 5 = 32 := by decide +kernel
theorem rfX_28_6 : x_rf TX 28 6 = 33 := by decide +kernel
theorem lnX_29 : x_ln TX 29 = 420 := by decide +kernel
theorem lnX_30 : x_ln TX 30 = 420 := by decide +kernel
theorem lnX_31 : x_ln TX 31 = 7 := by decide +kernel
theorem lnX_32 : x_ln TX 32 = 7 := by decide +kernel
theorem lnX_33 : x_ln TX 33 = 40 := by decide +kernel
theorem rfX_34_0 : x_rf TX 34 0 = 1 := by decide +kernel
theorem rfX_39_0 : x_rf TX 39 0 = 40 := by decide +kernel
theorem lnX_40 : x_ln TX 40 = 50 := by decide +kernel
theorem lnX_141 : x_ln TX 141 = 3 := by decide +kernel
theorem lnX_142 : x_ln TX 142 = 3 := by decide +kernel
theorem rfX_143_0 : x_rf TX 143 0 = 34 := by decide +kernel
theorem rfX_143_1 : x_rf TX 143 1 = 144 := by decide +kernel
theorem rfX_143_2 : x_rf TX 143 2 = 145 := by decide +kernel
theorem rfX_143_3 : x_rf TX 143 3 = 146 := by decide +kernel
theorem rfX_143_4 : x_rf TX 143 4 = 148 := by decide +kernel
theorem rfX_143_5 : x_rf TX 143 5 = 149 := by decide +kernel
theorem rfX_143_6 : x_rf TX 143 6 = 150 := by decide +kernel
theorem rfX_143_7 : x_rf TX 143 7 = 151 := by decide +kernel
theorem rfX_143_8 : x_rf TX 143 8 = 152 := by decide +kernel
theorem lnX_144 : x_ln TX 144 = 7 := by decide +kernel
theorem lnX_145 : x_ln TX 145 = 7 := by decide +kernel
theorem lnX_148 : x_ln TX 148 = 6 := by decide +kernel
theorem lnX_149 : x_ln TX 149 = 6 := by decide +kernel
theorem lnX_150 : x_ln TX 150 = 6 := by decide +kernel
theorem lnX_168 : x_ln TX 168 = 384 := by decide +kernel
theorem lnX_169 : x_ln TX 169 = 20 := by decide +kernel
theorem lnX_170 : x_ln TX 170 = 20 := by decide +kernel
theorem rfM_0_1 : x_rf TM 0 1 = 1 := by decide +kernel
theorem rfM_0_3 : x_rf TM 0 3 = 2 := by decide +kernel
theorem rfM_0_5 : x_rf TM 0 5 = 3 := by decide +kernel
theorem rfM_0_6 : x_rf TM 0 6 = 4 := by decide +kernel
theorem rfM_0_7 : x_rf TM 0 7 = 5 := by decide +kernel
theorem rfM_0_8 : x_rf TM 0 8 = 6 := by decide +kernel
theorem rfM_0_9 : x_rf TM 0 9 = 7 := by decide +kernel
theorem rfM_0_21 : x_rf TM 0 21 = 8 := by decide +kernel
theorem rfM_0_22 : x_rf TM 0 22 = 9 := by decide +kernel
theorem rfM_0_23 : x_rf TM 0 23 = 10 := by decide +kernel
theorem rfM_0_24 : x_rf TM 0 24 = 11 := by decide +kernel
theorem rfM_0_25 : x_rf TM 0 25 = 12 := by decide +kernel
theorem rfM_0_26 : x_rf TM 0 26 = 13 := by decide +kernel
theorem rfM_0_27 : x_rf TM 0 27 = 14 := by decide +kernel
theorem rfM_0_28 : x_rf TM 0 28 = 15 := by decide +kernel
theorem rfM_0_29 : x_rf TM 0 29 = 16 := by decide +kernel
theorem rfM_0_30 : x_rf TM 0 30 = 17 := by decide +kernel
theorem rfM_0_31 : x_rf TM 0 31 = 18 := by decide +kernel
theorem rfM_0_32 : x_rf TM 0 32 = 19 := by decide +kernel
theorem rfM_0_33 : x_rf TM 0 33 = 20 := by decide +kernel
theorem rfM_0_35 : x_rf TM 0 35 = 21 := by decide +kernel
theorem rfM_0_36 : x_rf TM 0 36 = 22 := by decide +kernel
theorem rfM_0_37 : x_rf TM 0 37 = 23 := by decide +kernel
theorem rfM_0_38 : x_rf TM 0 38 = 24 := by decide +kernel
theorem rfM_0_39 : x_rf TM 0 39 = 25 := by decide +kernel
theorem rfM_0_41 : x_rf TM 0 41 = 26 := by decide +kernel
theorem rfM_0_42 : x_rf TM 0 42 = 27 := by decide +kernel
theorem rfM_0_43 : x_rf TM 0 43 = 28 := by decide +kernel
theorem rfM_0_45 : x_rf TM 0 45 = 29 := by decide +kernel
theorem rfM_0_46 : x_rf TM 0 46 = 30 := by decide +kernel
theorem rfM_0_48 : x_rf TM 0 48 = 31 := by decide +kernel
theorem rfM_0_49 : x_rf TM 0 49 = 32 := by decide +kernel
theorem rfM_0_53 : x_rf TM 0 53 = 33 := by decide +kernel
theorem rfM_0_55 : x_rf TM 0 55 = 34 := by decide +kernel
theorem rfM_0_58 : x_rf TM 0 58 = 35 := by decide +kernel
theorem rfM_0_59 : x_rf TM 0 59 = 36 := by decide +kernel
theorem rfM_0_60 : x_rf TM 0 60 = 37 := by decide +kernel
theorem rfM_0_62 : x_rf TM 0 62 = 38 := by decide +kernel
theorem rfM_0_64 : x_rf TM 0 64 = 39 := by decide +kernel
theorem rfM_0_67 : x_rf TM 0 67 = 40 := by decide +kernel
theorem rfM_0_69 : x_rf TM 0 69 = 41 := by decide +kernel
theorem rfM_0_70 : x_rf TM 0 70 = 42 := by decide +kernel
theorem rfM_0_71 : x_rf TM 0 71 = 43 := by decide +kernel
theorem rfM_0_72 : x_rf TM 0 72 = 44 := by decide +kernel
theorem lnM_1 : x_ln TM 1 = 2000 := by decide +kernel
theorem lnM_2 : x_ln TM 2 = 2000 := by decide +kernel
theorem lnM_3 : x_ln TM 3 = 403 := by decide +kernel
theorem lnM_4 : x_ln TM 4 = 403 := by decide +kernel
theorem lnM_5 : x_ln TM 5 = 403 := by decide +kernel
theorem lnM_6 : x_ln TM 6 = 403 := by decide +kernel
theorem lnM_7 : x_ln TM 7 = 25 := by decide +kernel
theorem lnM_8 : x_ln TM 8 = 6 := by decide +kernel
theorem lnM_9 : x_ln TM 9 = 8 := by decide +kernel
theorem lnM_10 : x_ln TM 10 = 2 := by decide +kernel
theorem lnM_11 : x_ln TM 11 = 12 := by decide +kernel
theorem lnM_12 : x_ln TM 12 = 12 := by decide +kernel
theorem lnM_13 : x_ln TM 13 = 12 := by decide +kernel
theorem lnM_14 : x_ln TM 14 = 12 := by decide +kernel
theorem lnM_15 : x_ln TM 15 = 12 := by decide +kernel
theorem lnM_16 : x_ln TM 16 = 2 := by decide +kernel
theorem lnM_17 : x_ln TM 17 = 2 := by decide +kernel
theorem lnM_18 : x_ln TM 18 = 2 := by decide +kernel
theorem lnM_19 : x_ln TM 19 = 14 := by decide +kernel
theorem lnM_20 : x_ln TM 20 = 14 := by decide +kernel
theorem lnM_21 : x_ln TM 21 = 260 := by decide +kernel
theorem lnM_22 : x_ln TM 22 = 260 := by decide +kernel
theorem lnM_23 : x_ln TM 23 = 260 := by decide +kernel
theorem lnM_24 : x_ln TM 24 = 260 := by decide +kernel
theorem lnM_25 : x_ln TM 25 = 260 := by decide +kernel
theorem lnM_26 : x_ln TM 26 = 840 := by decide +kernel
theorem lnM_27 : x_ln TM 27 = 840 := by decide +kernel
theorem lnM_28 : x_ln TM 28 = 64 := by decide +kernel
theorem lnM_29 : x_ln TM 29 = 9 := by decide +kernel
theorem lnM_30 : x_ln TM 30 = 400 := by decide +kernel
theorem lnM_31 : x_ln TM 31 = 60 := by decide +kernel
theorem lnM_32 : x_ln TM 32 = 60 := by decide +kernel
theorem lnM_33 : x_ln TM 33 = 4 := by decide +kernel
theorem lnM_34 : x_ln TM 34 = 3000 := by decide +kernel
theorem lnM_35 : x_ln TM 35 = 6 := by decide +kernel
theorem lnM_36 : x_ln TM 36 = 6 := by decide +kernel
theorem lnM_37 : x_ln TM 37 = 6 := by decide +kernel
theorem lnM_38 : x_ln TM 38 = 6 := by decide +kernel
theorem lnM_39 : x_ln TM 39 = 6 := by decide +kernel
theorem lnM_40 : x_ln TM 40 = 384 := by decide +kernel
theorem lnM_41 : x_ln TM 41 = 20 := by decide +kernel
theorem lnM_42 : x_ln TM 42 = 20 := by decide +kernel
theorem lnM_43 : x_ln TM 43 = 3 := by decide +kernel
theorem lnM_44 : x_ln TM 44 = 180 := by decide +kernel
