theorem rfX_0_0 : x_rf TX 0 0 = 1 := by decide +kernel
theorem rfX_0_1 : x_rf TX 0 1 = 14 := by decide +kernel
theorem rfX_0_2 : x_rf TX 0 2 = 34 := by decide +kernel
theorem rfX_0_3 : x_rf TX 0 3 = 35 := by decide +kernel
theorem rfX_0_4 : x_rf TX 0 4 = 37 := by decide +kernel
theorem rfX_0_5 : x_rf TX 0 5 = 39 := by decide +kernel
theorem rfX_0_6 : x_rf TX 0 6 = 141 := by decide +kernel
theorem rfX_0_7 : x_rf TX 0 7 = 142 := by decide +kernel
theorem rfX_0_8 : x_rf TX 0 8 = 143 := by decide +kernel
theorem rfX_0_9 : x_rf TX 0 9 = 167 := by decide +kernel
theorem rfX_0_10 : x_rf TX 0 10 = 168 := by decide +kernel
theorem rfX_0_11 : x_rf TX 0 11 = 169 := by decide +kernel
theorem rfX_0_12 : x_rf TX 0 12 = 170 := by decide +kernel
theorem kX_0 : x_kd TX 0 = 8 := by decide +kernel
theorem rfX_1_8 : x_rf TX 1 8 = 2 := by decide +kernel
theorem rfX_1_9 : x_rf TX 1 9 = 3 := by decide +kernel
theorem rfX_1_10 : x_rf TX 1 10 = 4 := by decide +kernel
theorem rfX_1_11 : x_rf TX 1 11 = 5 := by decide +kernel
theorem rfX_1_12 : x_rf TX 1 12 = 6 := by decide +kernel
theorem rfX_1_13 : x_rf TX 1 13 = 7 := by decide +kernel
theorem rfX_1_14 : x_rf TX 1 14 = 8 := by decide +kernel
theorem kX_1 : x_kd TX 1 = 6 := by decide +kernel
theorem kX_2 : x_kd TX 2 = 13 := by decide +kernel
theorem lnX_2 : x_ln TX 2 = 6 := by decide +kernel
theorem kX_3 : x_kd TX 3 = 12 := by decide +kernel
theorem lnX_3 : x_ln TX 3 = 6 := by decide +kernel
theorem kX_4 : x_kd TX 4 = 12 := by decide +kernel
theorem lnX_4 : x_ln TX 4 = 6 := by decide +kernel
theorem kX_5 : x_kd TX 5 = 12 := by decide +kernel
theorem lnX_5 : x_ln TX 5 = 6 := by decide +kernel
theorem kX_6 : x_kd TX 6 = 12 := by decide +kernel
theorem lnX_6 : x_ln TX 6 = 6 := by decide +kernel
theorem kX_7 : x_kd TX 7 = 12 := by decide +kernel
theorem lnX_7 : x_ln TX 7 = 6 := by decide +kernel
theorem rfX_8_0 : x_rf TX 8 0 = 9 := by decide +kernel
theorem rfX_8_2 : x_rf TX 8 2 = 10 := by decide +kernel
theorem rfX_8_4 : x_rf TX 8 4 = 11 := by decide +kernel
theorem rfX_8_5 : x_rf TX 8 5 = 12 := by decide +kernel
theorem rfX_8_6 : x_rf TX 8 6 = 13 := by decide +kernel
theorem kX_8 : x_kd TX 8 = 1 := by decide +kernel
theorem kX_9 : x_kd TX 9 = 12 := by decide +kernel
theorem lnX_9 : x_ln TX 9 = 420 := by decide +kernel
theorem kX_10 : x_kd TX 10 = 12 := by decide +kernel
theorem lnX_10 : x_ln TX 10 = 420 := by decide +kernel
theorem kX_11 : x_kd TX 11 = 12 := by decide +kernel
theorem lnX_11 : x_ln TX 11 = 7 := by decide +kernel
theorem kX_12 : x_kd TX 12 = 12 := by decide +kernel
theorem lnX_12 : x_ln TX 12 = 7 := by decide +kernel
theorem kX_13 : x_kd TX 13 = 12 := by decide +kernel
theorem lnX_13 : x_ln TX 13 = 40 := by decide +kernel
theorem rfX_14_0 : x_rf TX 14 0 = 15 := by decide +kernel
theorem rfX_14_2 : x_rf TX 14 2 = 16 := by decide +kernel
theorem rfX_14_3 : x_rf TX 14 3 = 17 := by decide +kernel
theorem rfX_14_4 : x_rf TX 14 4 = 18 := by decide +kernel
theorem rfX_14_7 : x_rf TX 14 7 = 19 := by decide +kernel
theorem rfX_14_8 : x_rf TX 14 8 = 20 := by decide +kernel
theorem rfX_14_12 : x_rf TX 14 12 = 21 := by decide +kernel
theorem kX_14 : x_kd TX 14 = 4 := by decide +kernel
theorem kX_15 : x_kd TX 15 = 11 := by decide +kernel
theorem lnX_15 : x_ln TX 15 = 2000 := by decide +kernel
theorem kX_16 : x_kd TX 16 = 12 := by decide +kernel
theorem lnX_16 : x_ln TX 16 = 402 := by decide +kernel
theorem kX_17 : x_kd TX 17 = 13 := by decide +kernel
theorem lnX_17 : x_ln TX 17 = 402 := by decide +kernel
theorem kX_18 : x_kd TX 18 = 12 := by decide +kernel
theorem lnX_18 : x_ln TX 18 = 402 := by decide +kernel
theorem kX_19 : x_kd TX 19 = 12 := by decide +kernel
theorem lnX_19 : x_ln TX 19 = 4 := by decide +kernel
theorem kX_20 : x_kd TX 20 = 12 := by decide +kernel
theorem lnX_20 : x_ln TX 20 = 40 := by decide +kernel
theorem rfX_21_8 : x_rf TX 21 8 = 22 := by decide +kernel
theorem rfX_21_9 : x_rf TX 21 9 = 23 := by decide +kernel
theorem rfX_21_10 : x_rf TX 21 10 = 24 := by decide +kernel
theorem rfX_21_11 : x_rf TX 21 11 = 25 := by decide +kernel
theorem rfX_21_12 : x_rf TX 21 12 = 26 := by decide +kernel
theorem rfX_21_13 : x_rf TX 21 13 = 27 := by decide +kernel
theorem rfX_21_14 : x_rf TX 21 14 = 28 := by decide +kernel
theorem kX_21 : x_kd TX 21 = 6 := by decide +kernel
theorem kX_22 : x_kd TX 22 = 13 := by decide +kernel
theorem lnX_22 : x_ln TX 22 = 6 := by decide +kernel
theorem kX_23 : x_kd TX 23 = 12 := by decide +kernel
theorem lnX_23 : x_ln TX 23 = 6 := by decide +kernel
theorem kX_24 : x_kd TX 24 = 12 := by decide +kernel
theorem lnX_24 : x_ln TX 24 = 6 := by decide +kernel
theorem kX_25 : x_kd TX 25 = 12 := by decide +kernel
theorem lnX_25 : x_ln TX 25 = 6 := by decide +kernel
theorem kX_26 : x_kd TX 26 = 12 := by decide +kernel
theorem lnX_26 : x_ln TX 26 = 6 := by decide +kernel
theorem kX_27 : x_kd TX 27 = 12 := by decide +kernel
theorem lnX_27 : x_ln TX 27 = 6 := by decide +kernel
theorem rfX_28_0 : x_rf TX 28 0 = 29 := by decide +kernel
theorem rfX_28_2 : x_rf TX 28 2 = 30 := by decide +kernel
theorem rfX_28_4 : x_rf TX 28 4 = 31 := by decide +kernel
theorem rfX_28_5 : x_rf TX 28 5 = 32 := by decide +kernel
theorem rfX_28_6 : x_rf TX 28 6 = 33 := by decide +kernel
theorem kX_28 : x_kd TX 28 = 1 := by decide +kernel
theorem kX_29 : x_kd TX 29 = 12 := by decide +kernel
theorem lnX_29 : x_ln TX 29 = 420 := by decide +kernel
theorem kX_30 : x_kd TX 30 = 12 := by decide +kernel
theorem lnX_30 : x_ln TX 30 = 420 := by decide +kernel
theorem kX_31 : x_kd TX 31 = 12 := by decide +kernel
theorem lnX_31 : x_ln TX 31 = 7 := by decide +kernel
theorem kX_32 : x_kd TX 32 = 12 := by decide +kernel
theorem lnX_32 : x_ln TX 32 = 7 := by decide +kernel
theorem kX_33 : x_kd TX 33 = 12 := by decide +kernel
theorem lnX_33 : x_ln TX 33 = 40 := by decide +kernel
theorem rfX_34_0 : x_rf TX 34 0 = 1 := by decide +kernel
theorem kX_34 : x_kd TX 34 = 0 := by decide +kernel
theorem kX_35 : x_kd TX 35 = 5 := by decide +kernel
theorem kX_36 : x_kd TX 36 = 12 := by decide +kernel
theorem kX_37 : x_kd TX 37 = 5 := by decide +kernel
theorem kX_38 : x_kd TX 38 = 12 := by decide +kernel
theorem rfX_39_0 : x_rf TX 39 0 = 40 := by decide +kernel
theorem kX_39 : x_kd TX 39 = 7 := by decide +kernel
theorem kX_40 : x_kd TX 40 = 15 := by decide +kernel
theorem lnX_40 : x_ln TX 40 = 50 := by decide +kernel
theorem kX_41 : x_kd TX 41 = 5 := by decide +kernel
theorem kX_42 : x_kd TX 42 = 12 := by decide +kernel
theorem kX_43 : x_kd TX 43 = 5 := by decide +kernel
theorem kX_44 : x_kd TX 44 = 12 := by decide +kernel
theorem kX_45 : x_kd TX 45 = 5 := by decide +kernel
theorem kX_46 : x_kd TX 46 = 12 := by decide +kernel
theorem kX_47 : x_kd TX 47 = 5 := by decide +kernel
theorem kX_48 : x_kd TX 48 = 12 := by decide +kernel
theorem kX_49 : x_kd TX 49 = 5 := by decide +kernel
theorem kX_50 : x_kd TX 50 = 12 := by decide +kernel
theorem kX_51 : x_kd TX 51 = 5 := by decide +kernel
theorem kX_52 : x_kd TX 52 = 12 := by decide +kernel
theorem kX_53 : x_kd TX 53 = 5 := by decide +kernel
theorem kX_54 : x_kd TX 54 = 12 := by decide +kernel
theorem kX_55 : x_kd TX 55 = 5 := by decide +kernel
theorem kX_56 : x_kd TX 56 = 12 := by decide +kernel
theorem kX_57 : x_kd TX 57 = 5 := by decide +kernel
theorem kX_58 : x_kd TX 58 = 12 := by decide +kernel
theorem kX_59 : x_kd TX 59 = 5 := by decide +kernel
theorem kX_60 : x_kd TX 60 = 12 := by decide +kernel
theorem kX_61 : x_kd TX 61 = 5 := by decide +kernel
theorem kX_62 : x_kd TX 62 = 12 := by decide +kernel
theorem kX_63 : x_kd TX 63 = 5 := by decide +kernel
theorem kX_64 : x_kd TX 64 = 12 := by decide +kernel
theorem kX_65 : x_kd TX 65 = 5 := by decide +kernel
theorem kX_66 : x_kd TX 66 = 12 := by decide +kernel
theorem kX_67 : x_kd TX 67 = 5 := by decide +kernel
theorem kX_68 : x_kd TX 68 = 12 := by decide +kernel
theorem kX_69 : x_kd TX 69 = 5 := by decide +kernel
theorem kX_70 : x_kd TX 70 = 12 := by decide +kernel
theorem kX_71 : x_kd TX 71 = 5 := by decide +kernel
theorem kX_72 : x_kd TX 72 = 12 := by decide +kernel
theorem kX_73 : x_kd TX 73 = 5 := by decide +kernel
theorem kX_74 : x_kd TX 74 = 12 := by decide +kernel
theorem kX_75 : x_kd TX 75 = 5 := by decide +kernel
theorem kX_76 : x_kd TX 76 = 12 := by decide +kernel
theorem kX_77 : x_kd TX 77 = 5 := by decide +kernel
theorem kX_78 : x_kd TX 78 = 12 := by decide +kernel
theorem kX_79 : x_kd TX 79 = 5 := by decide +kernel
theorem kX_80 : x_kd TX 80 = 12 := by decide +kernel
theorem kX_81 : x_kd TX 81 = 5 := by decide +kernel
theorem kX_82 : x_kd TX 82 = 12 := by decide +kernel
theorem kX_83 : x_kd TX 83 = 5 := by decide +kernel
theorem kX_84 : x_kd TX 84 = 12 := by decide +kernel
theorem kX_85 : x_kd TX 85 = 5 := by decide +kernel
theorem kX_86 : x_kd TX 86 = 12 := by decide +kernel
theorem kX_87 : x_kd TX 87 = 5 := by decide +kernel
theorem kX_88 : x_kd TX 88 = 12 := by decide +kernel
theorem kX_89 : x_kd TX 89 = 5 := by decide +kernel
theorem kX_90 : x_kd TX 90 = 12 := by decide +kernel
theorem kX_91 : x_kd TX 91 = 5 := by decide +kernel
theorem kX_92 : x_kd TX 92 = 12 := by decide +kernel
theorem kX_93 : x_kd TX 93 = 5 := by decide +kernel
theorem kX_94 : x_kd TX 94 = 12 := by decide +kernel
theorem kX_95 : x_kd TX 95 = 5 := by decide +kernel
theorem kX_96 : x_kd TX 96 = 12 := by decide +kernel
theorem kX_97 : x_kd TX 97 = 5 := by decide +kernel
theorem kX_98 : x_kd TX 98 = 12 := by decide +kernel
theorem kX_99 : x_kd TX 99 = 5 := by decide +kernel
theorem kX_100 : x_kd TX 100 = 12 := by decide +kernel
theorem kX_101 : x_kd TX 101 = 5 := by decide +kernel
theorem kX_102 : x_kd TX 102 = 12 := by decide +kernel
theorem kX_103 : x_kd TX 103 = 5 := by decide +kernel
theorem kX_104 : x_kd TX 104 = 12 := by decide +kernel
theorem kX_105 : x_kd TX 105 = 5 := by decide +kernel
theorem kX_106 : x_kd TX 106 = 12 := by decide +kernel
theorem kX_107 : x_kd TX 107 = 5 := by decide +kernel
theorem kX_108 : x_kd TX 108 = 12 := by decide +kernel
theorem kX_109 : x_kd TX 109 = 5 := by decide +kernel
theorem kX_110 : x_kd TX 110 = 12 := by decide +kernel
theorem kX_111 : x_kd TX 111 = 5 := by decide +kernel
theorem kX_112 : x_kd TX 112 = 12 := by decide +kernel
theorem kX_113 : x_kd TX 113 = 5 := by decide +kernel
theorem kX_114 : x_kd TX 114 = 12 := by decide +kernel
theorem kX_115 : x_kd TX 115 = 5 := by decide +kernel
theorem kX_116 : x_kd TX 116 = 12 := by decide +kernel
theorem kX_117 : x_kd TX 117 = 5 := by decide +kernel
theorem kX_118 : x_kd TX 118 = 12 := by decide +kernel
theorem kX_119 : x_kd TX 119 = 5 := by decide +kernel
theorem kX_120 : x_kd TX 120 = 12 := by decide +kernel
theorem kX_121 : x_kd TX 121 = 5 := by decide +kernel
theorem kX_122 : x_kd TX 122 = 12 := by decide +kernel
theorem kX_123 : x_kd TX 123 = 5 := by decide +kernel
theorem kX_124 : x_kd TX 124 = 12 := by decide +kernel
theorem kX_125 : x_kd TX 125 = 5 := by decide +kernel
theorem kX_126 : x_kd TX 126 = 12 := by decide +kernel
theorem kX_127 : x_kd TX 127 = 5 := by decide +kernel
theorem kX_128 : x_kd TX 128 = 12 := by decide +kernel
theorem kX_129 : x_kd TX 129 = 5 := by decide +kernel
theorem kX_130 : x_kd TX 130 = 12 := by decide +kernel
theorem kX_131 : x_kd TX 131 = 5 := by decide +kernel
theorem kX_132 : x_kd TX 132 = 12 := by decide +kernel
theorem kX_133 : x_kd TX 133 = 5 := by decide +kernel
theorem kX_134 : x_kd TX 134 = 12 := by decide +kernel
theorem kX_135 : x_kd TX 135 = 5 := by decide +kernel
theorem kX_136 : x_kd TX 136 = 12 := by decide +kernel
theorem kX_137 : x_kd TX 137 = 5 := by decide +kernel
theorem kX_138 : x_kd TX 138 = 12 := by decide +kernel
theorem kX_139 : x_kd TX 139 = 5 := by decide +kernel
theorem kX_140 : x_kd TX 140 = 12 := by decide +kernel
theorem kX_141 : x_kd TX 141 = 15 := by decide +kernel
theorem lnX_141 : x_ln TX 141 = 3 := by decide +kernel
theorem kX_142 : x_kd TX 142 = 12 := by decide +kernel
theorem lnX_142 : x_ln TX 142 = 3 := by decide +kernel
theorem rfX_143_0 : x_rf TX 143 0 = 34 := by decide +kernel
theorem rfX_143_1 : x_rf TX 143 1 = 144 := by decide +kernel
theorem rfX_143_2 : x_rf TX 143 2 = 145 := by decide +kernel
theorem rfX_143_3 : x_rf TX 143 3 = 146 := by decide +kernel
theorem rfX_143_4 : x_rf TX 143 4 = 148 := by decide +kernel
theorem rfX_143_5 : x_rf TX 143 5 = 149 := by decide +kernel
theorem rfX_143_6 : x_rf TX 143 6 = 150 := by decide +kernel
theorem rfX_143_7 : x_rf TX 143 7 = 151 := by decide +kernel
theorem rfX_143_8 : x_rf TX 143 8 = 152 := by decide +kernel
theorem kX_143 : x_kd TX 143 = 3 := by decide +kernel
theorem kX_144 : x_kd TX 144 = 15 := by decide +kernel
theorem lnX_144 : x_ln TX 144 = 7 := by decide +kernel
theorem kX_145 : x_kd TX 145 = 12 := by decide +kernel
theorem lnX_145 : x_ln TX 145 = 7 := by decide +kernel
theorem kX_146 : x_kd TX 146 = 5 := by decide +kernel
theorem kX_147 : x_kd TX 147 = 12 := by decide +kernel
theorem kX_148 : x_kd TX 148 = 12 := by decide +kernel
theorem lnX_148 : x_ln TX 148 = 6 := by decide +kernel
theorem kX_149 : x_kd TX 149 = 12 := by decide +kernel
theorem lnX_149 : x_ln TX 149 = 6 := by decide +kernel
theorem kX_150 : x_kd TX 150 = 12 := by decide +kernel
theorem lnX_150 : x_ln TX 150 = 6 := by decide +kernel
theorem kX_151 : x_kd TX 151 = 2 := by decide +kernel
theorem kX_152 : x_kd TX 152 = 2 := by decide +kernel
theorem kX_153 : x_kd TX 153 = 5 := by decide +kernel
theorem kX_154 : x_kd TX 154 = 12 := by decide +kernel
theorem kX_155 : x_kd TX 155 = 5 := by decide +kernel
theorem kX_156 : x_kd TX 156 = 12 := by decide +kernel
theorem kX_157 : x_kd TX 157 = 5 := by decide +kernel
theorem kX_158 : x_kd TX 158 = 12 := by decide +kernel
theorem kX_159 : x_kd TX 159 = 5 := by decide +kernel
theorem kX_160 : x_kd TX 160 = 12 := by decide +kernel
theorem kX_161 : x_kd TX 161 = 5 := by decide +kernel
theorem kX_162 : x_kd TX 162 = 12 := by decide +kernel
theorem kX_163 : x_kd TX 163 = 5 := by decide +kernel
theorem kX_164 : x_kd TX 164 = 12 := by decide +kernel
theorem kX_165 : x_kd TX 165 = 5 := by decide +kernel
theorem kX_166 : x_kd TX 166 = 12 := by decide +kernel
theorem kX_167 : x_kd TX 167 = 2 := by decide +kernel
theorem kX_168 : x_kd TX 168 = 12 := by decide +kernel
theorem lnX_168 : x_ln TX 168 = 384 := by decide +kernel
theorem kX_169 : x_kd TX 169 = 12 := by decide +kernel
theorem lnX_169 : x_ln TX 169 = 20 := by decide +kernel
theorem kX_170 : x_kd TX 170 = 12 := by decide +kernel
theorem lnX_170 : x_ln TX 170 = 20 := by decide +kernel
theorem kX_171 : x_kd TX 171 = 5 := by decide +kernel
theorem kX_172 : x_kd TX 172 = 12 := by decide +kernel
theorem kX_173 : x_kd TX 173 = 5 := by decide +kernel
theorem kX_174 : x_kd TX 174 = 12 := by decide +kernel
theorem kX_175 : x_kd TX 175 = 5 := by decide +kernel
theorem kX_176 : x_kd TX 176 = 12 := by decide +kernel
theorem rfM_0_1 : x_rf TM 0 1 = 1 := by decide +kernel
theorem rfM_0_3 : x_rf TM 0 3 = 2 := by decide +kernel
theorem rfM_0_5 : x_rf TM 0 5 = 3 := by decide +kernel
theorem rfM_0_6 : x_rf TM 0 6 = 4 := by decide +kernel
theorem rfM_0_7 : x_rf TM 0 7 = 5 := by decide +kernel
theorem rfM_0_8 : x_rf TM 0 8 = 6 := by decide +kernel
theorem rfM_0_9 : x_rf TM 0 9 = 7 := by decide +kernel
theorem rfM_0_21 : x_rf TM 0 21 = 8 := by decide +kernel
theorem rfM_0_22 : x_rf TM 0 22 = 9 := by decide +kernel
theorem rfM_0_23 : x_rf TM 0 23 = 10 := by decide +kernel
theorem rfM_0_24 : x_rf TM 0 24 = 11 := by decide +kernel
theorem rfM_0_25 : x_rf TM 0 25 = 12 := by decide +kernel
theorem rfM_0_26 : x_rf TM 0 26 = 13 := by decide +kernel
theorem rfM_0_27 : x_rf TM 0 27 = 14 := by decide +kernel
theorem rfM_0_28 : x_rf TM 0 28 = 15 := by decide +kernel
theorem rfM_0_29 : x_rf TM 0 29 = 16 := by decide +kernel
theorem rfM_0_30 : x_rf TM 0 30 = 17 := by decide +kernel
theorem rfM_0_31 : x_rf TM 0 31 = 18 := by decide +kernel
theorem rfM_0_32 : x_rf TM 0 32 = 19 := by decide +kernel
theorem rfM_0_33 : x_rf TM 0 33 = 20 := by decide +kernel
theorem rfM_0_35 : x_rf TM 0 35 = 21 := by decide +kernel
theorem rfM_0_36 : x_rf TM 0 36 = 22 := by decide +kernel
theorem rfM_0_37 : x_rf TM 0 37 = 23 := by decide +kernel
theorem rfM_0_38 : x_rf TM 0 38 = 24 := by decide +kernel
theorem rfM_0_39 : x_rf TM 0 39 = 25 := by decide +kernel
theorem rfM_0_41 : x_rf TM 0 41 = 26 := by decide +kernel
theorem rfM_0_42 : x_rf TM 0 42 = 27 := by decide +kernel
theorem rfM_0_43 : x_rf TM 0 43 = 28 := by decide +kernel
theorem rfM_0_45 : x_rf TM 0 45 = 29 := by decide +kernel
theorem rfM_0_46 : x_rf TM 0 46 = 30 := by decide +kernel
theorem rfM_0_48 : x_rf TM 0 48 = 31 := by decide +kernel
theorem rfM_0_49 : x_rf TM 0 49 = 32 := by decide +kernel
theorem rfM_0_53 : x_rf TM 0 53 = 33 := by decide +kernel
theorem rfM_0_55 : x_rf TM 0 55 = 34 := by decide +kernel
theorem rfM_0_58 : x_rf TM 0 58 = 35 := by decide +kernel
theorem rfM_0_59 : x_rf TM 0 59 = 36 := by decide +kernel
theorem rfM_0_60 : x_rf TM 0 60 = 37 := by decide +kernel
theorem rfM_0_62 : x_rf TM 0 62 = 38 := by decide +kernel
theorem rfM_0_64 : x_rf TM 0 64 = 39 := by decide +kernel
theorem rfM_0_67 : x_rf TM 0 67 = 40 := by decide +kernel
theorem rfM_0_69 : x_rf TM 0 69 = 41 := by decide +kernel
theorem rfM_0_70 : x_rf TM 0 70 = 42 := by decide +kernel
theorem rfM_0_71 : x_rf TM 0 71 = 43 := by decide +kernel
theorem rfM_0_72 : x_rf TM 0 72 = 44 := by decide +kernel
theorem kM_0 : x_kd TM 0 = 9 := by decide +kernel
theorem kM_1 : x_kd TM 1 = 10 := by decide +kernel
theorem lnM_1 : x_ln TM 1 = 2000 := by decide +kernel
theorem kM_2 : x_kd TM 2 = 10 := by decide +kernel
theorem lnM_2 : x_ln TM 2 = 2000 := by decide +kernel
theorem kM_3 : x_kd TM 3 = 12 := by decide +kernel
theorem lnM_3 : x_ln TM 3 = 403 := by decide +kernel
theorem kM_4 : x_kd TM 4 = 12 := by decide +kernel
theorem lnM_4 : x_ln TM 4 = 403 := by decide +kernel
theorem kM_5 : x_kd TM 5 = 12 := by decide +kernel
theorem lnM_5 : x_ln TM 5 = 403 := by decide +kernel
theorem kM_6 : x_kd TM 6 = 13 := by decide +kernel
theorem lnM_6 : x_ln TM 6 = 403 := by decide +kernel
theorem kM_7 : x_kd TM 7 = 13 := by decide +kernel
theorem lnM_7 : x_ln TM 7 = 25 := by decide +kernel
theorem kM_8 : x_kd TM 8 = 13 := by decide +kernel
theorem lnM_8 : x_ln TM 8 = 6 := by decide +kernel
theorem kM_9 : x_kd TM 9 = 12 := by decide +kernel
theorem lnM_9 : x_ln TM 9 = 8 := by decide +kernel
theorem kM_10 : x_kd TM 10 = 12 := by decide +kernel
theorem lnM_10 : x_ln TM 10 = 2 := by decide +kernel
theorem kM_11 : x_kd TM 11 = 12 := by decide +kernel
theorem lnM_11 : x_ln TM 11 = 12 := by decide +kernel
theorem kM_12 : x_kd TM 12 = 12 := by decide +kernel
theorem lnM_12 : x_ln TM 12 = 12 := by decide +kernel
theorem kM_13 : x_kd TM 13 = 12 := by decide +kernel
theorem lnM_13 : x_ln TM 13 = 12 := by decide +kernel
theorem kM_14 : x_kd TM 14 = 12 := by decide +kernel
theorem lnM_14 : x_ln TM 14 = 12 := by decide +kernel
theorem kM_15 : x_kd TM 15 = 14 := by decide +kernel
theorem lnM_15 : x_ln TM 15 = 12 := by decide +kernel
theorem kM_16 : x_kd TM 16 = 12 := by decide +kernel
theorem lnM_16 : x_ln TM 16 = 2 := by decide +kernel
theorem kM_17 : x_kd TM 17 = 12 := by decide +kernel
theorem lnM_17 : x_ln TM 17 = 2 := by decide +kernel
theorem kM_18 : x_kd TM 18 = 12 := by decide +kernel
theorem lnM_18 : x_ln TM 18 = 2 := by decide +kernel
theorem kM_19 : x_kd TM 19 = 12 := by decide +kernel
theorem lnM_19 : x_ln TM 19 = 14 := by decide +kernel
theorem kM_20 : x_kd TM 20 = 12 := by decide +kernel
theorem lnM_20 : x_ln TM 20 = 14 := by decide +kernel
theorem kM_21 : x_kd TM 21 = 14 := by decide +kernel
theorem lnM_21 : x_ln TM 21 = 260 := by decide +kernel
theorem kM_22 : x_kd TM 22 = 12 := by decide +kernel
theorem lnM_22 : x_ln TM 22 = 260 := by decide +kernel
theorem kM_23 : x_kd TM 23 = 12 := by decide +kernel
theorem lnM_23 : x_ln TM 23 = 260 := by decide +kernel
theorem kM_24 : x_kd TM 24 = 12 := by decide +kernel
theorem lnM_24 : x_ln TM 24 = 260 := by decide +kernel
theorem kM_25 : x_kd TM 25 = 12 := by decide +kernel
theorem lnM_25 : x_ln TM 25 = 260 := by decide +kernel
theorem kM_26 : x_kd TM 26 = 12 := by decide +kernel
theorem lnM_26 : x_ln TM 26 = 840 := by decide +kernel
theorem kM_27 : x_kd TM 27 = 12 := by decide +kernel
theorem lnM_27 : x_ln TM 27 = 840 := by decide +kernel
theorem kM_28 : x_kd TM 28 = 12 := by decide +kernel
theorem lnM_28 : x_ln TM 28 = 64 := by decide +kernel
theorem kM_29 : x_kd TM 29 = 12 := by decide +kernel
theorem lnM_29 : x_ln TM 29 = 9 := by decide +kernel
theorem kM_30 : x_kd TM 30 = 12 := by decide +kernel
theorem lnM_30 : x_ln TM 30 = 400 := by decide +kernel
theorem kM_31 : x_kd TM 31 = 12 := by decide +kernel
theorem lnM_31 : x_ln TM 31 = 60 := by decide +kernel
theorem kM_32 : x_kd TM 32 = 12 := by decide +kernel
theorem lnM_32 : x_ln TM 32 = 60 := by decide +kernel
theorem kM_33 : x_kd TM 33 = 12 := by decide +kernel
theorem lnM_33 : x_ln TM 33 = 4 := by decide +kernel
theorem kM_34 : x_kd TM 34 = 12 := by decide +kernel
theorem lnM_34 : x_ln TM 34 = 3000 := by decide +kernel
theorem kM_35 : x_kd TM 35 = 12 := by decide +kernel
theorem lnM_35 : x_ln TM 35 = 6 := by decide +kernel
theorem kM_36 : x_kd TM 36 = 12 := by decide +kernel
theorem lnM_36 : x_ln TM 36 = 6 := by decide +kernel
theorem kM_37 : x_kd TM 37 = 12 := by decide +kernel
theorem lnM_37 : x_ln TM 37 = 6 := by decide +kernel
theorem kM_38 : x_kd TM 38 = 12 := by decide +kernel
theorem lnM_38 : x_ln TM 38 = 6 := by decide +kernel
theorem kM_39 : x_kd TM 39 = 12 := by decide +kernel
theorem lnM_39 : x_ln TM 39 = 6 := by decide +kernel
theorem kM_40 : x_kd TM 40 = 12 := by decide +kernel
theorem lnM_40 : x_ln TM 40 = 384 := by decide +kernel
theorem kM_41 : x_kd TM 41 = 12 := by decide +kernel
theorem lnM_41 : x_ln TM 41 = 20 := by decide +kernel
theorem kM_42 : x_kd TM 42 = 12 := by decide +kernel
theorem lnM_42 : x_ln TM 42 = 20 := by decide +kernel
theorem kM_43 : x_kd TM 43 = 14 := by decide +kernel
theorem lnM_43 : x_ln TM 43 = 3 := by decide +kernel
theorem kM_44 : x_kd TM 44 = 12 := by decide +kernel
theorem lnM_44 : x_ln TM 44 = 180 := by decide +kernel
