theorem dX0_init_0 : decode cX0_init 0 = .ok (.aload_n 0, 1) := by decide +kernel
theorem dX0_init_1 : decode cX0_init 1 = .ok (.invokespecial 3, 3) := by decide +kernel
theorem dX0_init_4 : decode cX0_init 4 = .ok (.aload_n 0, 1) := by decide +kernel
theorem dX0_init_5 : decode cX0_init 5 = .ok (.aload_n 1, 1) := by decide +kernel
theorem dX0_init_6 : decode cX0_init 6 = .ok (.putfield 9, 3) := by decide +kernel
theorem dX0_init_9 : decode cX0_init 9 = .ok (.return_, 1) := by decide +kernel
theorem dX0_begin_0 : decode cX0_begin 0 = .ok (.aload_n 1, 1) := by decide +kernel
theorem dX0_begin_1 : decode cX0_begin 1 = .ok (.aload_n 0, 1) := by decide +kernel
theorem dX0_begin_2 : decode cX0_begin 2 = .ok (.getfield 9, 3) := by decide +kernel
theorem dX0_begin_5 : decode cX0_begin 5 = .ok (.getfield 15, 3) := by decide +kernel
theorem dX0_begin_8 : decode cX0_begin 8 = .ok (.putfield 21, 3) := by decide +kernel
theorem dX0_begin_11 : decode cX0_begin 11 = .ok (.aload_n 1, 1) := by decide +kernel
theorem dX0_begin_12 : decode cX0_begin 12 = .ok (.aload_n 0, 1) := by decide +kernel
theorem dX0_begin_13 : decode cX0_begin 13 = .ok (.getfield 9, 3) := by decide +kernel
theorem dX0_begin_16 : decode cX0_begin 16 = .ok (.getfield 24, 3) := by decide +kernel
theorem dX0_begin_19 : decode cX0_begin 19 = .ok (.putfield 27, 3) := by decide +kernel
theorem dX0_begin_22 : decode cX0_begin 22 = .ok (.aload_n 1, 1) := by decide +kernel
theorem dX0_begin_23 : decode cX0_begin 23 = .ok (.aload_n 0, 1) := by decide +kernel
theorem dX0_begin_24 : decode cX0_begin 24 = .ok (.getfield 9, 3) := by decide +kernel
theorem dX0_begin_27 : decode cX0_begin 27 = .ok (.getfield 28, 3) := by decide +kernel
theorem dX0_begin_30 : decode cX0_begin 30 = .ok (.putfield 31, 3) := by decide +kernel
theorem dX0_begin_33 : decode cX0_begin 33 = .ok (.aload_n 1, 1) := by decide +kernel
theorem dX0_begin_34 : decode cX0_begin 34 = .ok (.aload_n 0, 1) := by decide +kernel
theorem dX0_begin_35 : decode cX0_begin 35 = .ok (.getfield 9, 3) := by decide +kernel
theorem dX0_begin_38 : decode cX0_begin 38 = .ok (.getfield 32, 3) := by decide +kernel
theorem dX0_begin_41 : decode cX0_begin 41 = .ok (.putfield 35, 3) := by decide +kernel
theorem dX0_begin_44 : decode cX0_begin 44 = .ok (.aload_n 1, 1) := by decide +kernel
theorem dX0_begin_45 : decode cX0_begin 45 = .ok (.aload_n 0, 1) := by decide +kernel
theorem dX0_begin_46 : decode cX0_begin 46 = .ok (.getfield 9, 3) := by decide +kernel
theorem dX0_begin_49 : decode cX0_begin 49 = .ok (.getfield 36, 3) := by decide +kernel
theorem dX0_begin_52 : decode cX0_begin 52 = .ok (.putfield 39, 3) := by decide +kernel
theorem dX0_begin_55 : decode cX0_begin 55 = .ok (.aload_n 1, 1) := by decide +kernel
theorem dX0_begin_56 : decode cX0_begin 56 = .ok (.iconst 0, 1) := by decide +kernel
theorem dX0_begin_57 : decode cX0_begin 57 = .ok (.putfield 40, 3) := by decide +kernel
theorem dX0_begin_60 : decode cX0_begin 60 = .ok (.aload_n 1, 1) := by decide +kernel
theorem dX0_begin_61 : decode cX0_begin 61 = .ok (.bipush (-2), 2) := by decide +kernel
theorem dX0_begin_63 : decode cX0_begin 63 = .ok (.putfield 43, 3) := by decide +kernel
theorem dX0_begin_66 : decode cX0_begin 66 = .ok (.aload_n 1, 1) := by decide +kernel
theorem dX0_begin_67 : decode cX0_begin 67 = .ok (.bipush (-2), 2) := by decide +kernel
theorem dX0_begin_69 : decode cX0_begin 69 = .ok (.putfield 46, 3) := by decide +kernel
theorem dX0_begin_72 : decode cX0_begin 72 = .ok (.aload_n 1, 1) := by decide +kernel
theorem dX0_begin_73 : decode cX0_begin 73 = .ok (.iconst 0, 1) := by decide +kernel
theorem dX0_begin_74 : decode cX0_begin 74 = .ok (.putfield 49, 3) := by decide +kernel
theorem dX0_begin_77 : decode cX0_begin 77 = .ok (.aload_n 1, 1) := by decide +kernel
theorem dX0_begin_78 : decode cX0_begin 78 = .ok (.iconst 0, 1) := by decide +kernel
theorem dX0_begin_79 : decode cX0_begin 79 = .ok (.putfield 52, 3) := by decide +kernel
theorem dX0_begin_82 : decode cX0_begin 82 = .ok (.aload_n 1, 1) := by decide +kernel
theorem dX0_begin_83 : decode cX0_begin 83 = .ok (.iconst 0, 1) := by decide +kernel
theorem dX0_begin_84 : decode cX0_begin 84 = .ok (.putfield 55, 3) := by decide +kernel
theorem dX0_begin_87 : decode cX0_begin 87 = .ok (.aload_n 1, 1) := by decide +kernel
theorem dX0_begin_88 : decode cX0_begin 88 = .ok (.iconst 0, 1) := by decide +kernel
theorem dX0_begin_89 : decode cX0_begin 89 = .ok (.putfield 58, 3) := by decide +kernel
theorem dX0_begin_92 : decode cX0_begin 92 = .ok (.aload_n 1, 1) := by decide +kernel
theorem dX0_begin_93 : decode cX0_begin 93 = .ok (.iconst 0, 1) := by decide +kernel
theorem dX0_begin_94 : decode cX0_begin 94 = .ok (.putfield 61, 3) := by decide +kernel
theorem dX0_begin_97 : decode cX0_begin 97 = .ok (.aload_n 1, 1) := by decide +kernel
theorem dX0_begin_98 : decode cX0_begin 98 = .ok (.iconst 0, 1) := by decide +kernel
theorem dX0_begin_99 : decode cX0_begin 99 = .ok (.putfield 64, 3) := by decide +kernel
theorem dX0_begin_102 : decode cX0_begin 102 = .ok (.aload_n 1, 1) := by decide +kernel
theorem dX0_begin_103 : decode cX0_begin 103 = .ok (.iconst 0, 1) := by decide +kernel
theorem dX0_begin_104 : decode cX0_begin 104 = .ok (.putfield 67, 3) := by decide +kernel
theorem dX0_begin_107 : decode cX0_begin 107 = .ok (.iconst 0, 1) := by decide +kernel
theorem dX0_begin_108 : decode cX0_begin 108 = .ok (.istore_n 2, 1) := by decide +kernel
theorem dX0_begin_109 : decode cX0_begin 109 = .ok (.iload_n 2, 1) := by decide +kernel
theorem dX0_begin_110 : decode cX0_begin 110 = .ok (.aload_n 1, 1) := by decide +kernel
theorem dX0_begin_111 : decode cX0_begin 111 = .ok (.getfield 70, 3) := by decide +kernel
theorem dX0_begin_114 : decode cX0_begin 114 = .ok (.arraylength, 1) := by decide +kernel
theorem dX0_begin_115 : decode cX0_begin 115 = .ok (.if_icmp .ge 16, 3) := by decide +kernel
theorem dX0_begin_118 : decode cX0_begin 118 = .ok (.aload_n 1, 1) := by decide +kernel
theorem dX0_begin_119 : decode cX0_begin 119 = .ok (.getfield 70, 3) := by decide +kernel
theorem dX0_begin_122 : decode cX0_begin 122 = .ok (.iload_n 2, 1) := by decide +kernel
theorem dX0_begin_123 : decode cX0_begin 123 = .ok (.iconst 0, 1) := by decide +kernel
theorem dX0_begin_124 : decode cX0_begin 124 = .ok (.iastore, 1) := by decide +kernel
theorem dX0_begin_125 : decode cX0_begin 125 = .ok (.iinc 2 1, 3) := by decide +kernel
theorem dX0_begin_128 : decode cX0_begin 128 = .ok (.goto (-19), 3) := by decide +kernel
theorem dX0_begin_131 : decode cX0_begin 131 = .ok (.aload_n 0, 1) := by decide +kernel
theorem dX0_begin_132 : decode cX0_begin 132 = .ok (.aload_n 1, 1) := by decide +kernel
theorem dX0_begin_133 : decode cX0_begin 133 = .ok (.aload_n 0, 1) := by decide +kernel
theorem dX0_begin_134 : decode cX0_begin 134 = .ok (.getfield 9, 3) := by decide +kernel
theorem dX0_begin_137 : decode cX0_begin 137 = .ok (.getfield 74, 3) := by decide +kernel
theorem dX0_begin_140 : decode cX0_begin 140 = .ok (.ifCond .le 7, 3) := by decide +kernel
theorem dX0_begin_143 : decode cX0_begin 143 = .ok (.iconst 0, 1) := by decide +kernel
theorem dX0_begin_144 : decode cX0_begin 144 = .ok (.goto 5, 3) := by decide +kernel
theorem dX0_begin_147 : decode cX0_begin 147 = .ok (.bipush (-2), 2) := by decide +kernel
theorem dX0_begin_149 : decode cX0_begin 149 = .ok (.invokevirtual 77, 3) := by decide +kernel
theorem dX0_begin_152 : decode cX0_begin 152 = .ok (.return_, 1) := by decide +kernel
theorem dX0_giveTo_0 : decode cX0_giveTo 0 = .ok (.aload_n 1, 1) := by decide +kernel
theorem dX0_giveTo_1 : decode cX0_giveTo 1 = .ok (.iload_n 2, 1) := by decide +kernel
theorem dX0_giveTo_2 : decode cX0_giveTo 2 = .ok (.putfield 81, 3) := by decide +kernel
theorem dX0_giveTo_5 : decode cX0_giveTo 5 = .ok (.aload_n 1, 1) := by decide +kernel
theorem dX0_giveTo_6 : decode cX0_giveTo 6 = .ok (.iconst 0, 1) := by decide +kernel
theorem dX0_giveTo_7 : decode cX0_giveTo 7 = .ok (.putfield 84, 3) := by decide +kernel
theorem dX0_giveTo_10 : decode cX0_giveTo 10 = .ok (.aload_n 1, 1) := by decide +kernel
theorem dX0_giveTo_11 : decode cX0_giveTo 11 = .ok (.aload_n 0, 1) := by decide +kernel
theorem dX0_giveTo_12 : decode cX0_giveTo 12 = .ok (.getfield 9, 3) := by decide +kernel
theorem dX0_giveTo_15 : decode cX0_giveTo 15 = .ok (.getfield 87, 3) := by decide +kernel
theorem dX0_giveTo_18 : decode cX0_giveTo 18 = .ok (.iload_n 2, 1) := by decide +kernel
theorem dX0_giveTo_19 : decode cX0_giveTo 19 = .ok (.invokestatic 90, 3) := by decide +kernel
theorem dX0_giveTo_22 : decode cX0_giveTo 22 = .ok (.putfield 94, 3) := by decide +kernel
theorem dX0_giveTo_25 : decode cX0_giveTo 25 = .ok (.aload_n 1, 1) := by decide +kernel
theorem dX0_giveTo_26 : decode cX0_giveTo 26 = .ok (.aload_n 0, 1) := by decide +kernel
theorem dX0_giveTo_27 : decode cX0_giveTo 27 = .ok (.getfield 9, 3) := by decide +kernel
theorem dX0_giveTo_30 : decode cX0_giveTo 30 = .ok (.getfield 96, 3) := by decide +kernel
theorem dX0_giveTo_33 : decode cX0_giveTo 33 = .ok (.iload_n 2, 1) := by decide +kernel
theorem dX0_giveTo_34 : decode cX0_giveTo 34 = .ok (.invokestatic 90, 3) := by decide +kernel
theorem dX0_giveTo_37 : decode cX0_giveTo 37 = .ok (.putfield 99, 3) := by decide +kernel
theorem dX0_giveTo_40 : decode cX0_giveTo 40 = .ok (.aload_n 1, 1) := by decide +kernel
theorem dX0_giveTo_41 : decode cX0_giveTo 41 = .ok (.aload_n 0, 1) := by decide +kernel
theorem dX0_giveTo_42 : decode cX0_giveTo 42 = .ok (.getfield 9, 3) := by decide +kernel
theorem dX0_giveTo_45 : decode cX0_giveTo 45 = .ok (.getfield 101, 3) := by decide +kernel
theorem dX0_giveTo_48 : decode cX0_giveTo 48 = .ok (.iload_n 2, 1) := by decide +kernel
theorem dX0_giveTo_49 : decode cX0_giveTo 49 = .ok (.invokestatic 90, 3) := by decide +kernel
theorem dX0_giveTo_52 : decode cX0_giveTo 52 = .ok (.putfield 104, 3) := by decide +kernel
theorem dX0_giveTo_55 : decode cX0_giveTo 55 = .ok (.iload_n 2, 1) := by decide +kernel
theorem dX0_giveTo_56 : decode cX0_giveTo 56 = .ok (.ifCond .lt 15, 3) := by decide +kernel
theorem dX0_giveTo_59 : decode cX0_giveTo 59 = .ok (.aload_n 1, 1) := by decide +kernel
theorem dX0_giveTo_60 : decode cX0_giveTo 60 = .ok (.dup, 1) := by decide +kernel
theorem dX0_giveTo_61 : decode cX0_giveTo 61 = .ok (.getfield 67, 3) := by decide +kernel
theorem dX0_giveTo_64 : decode cX0_giveTo 64 = .ok (.iconst 1, 1) := by decide +kernel
theorem dX0_giveTo_65 : decode cX0_giveTo 65 = .ok (.iload_n 2, 1) := by decide +kernel
theorem dX0_giveTo_66 : decode cX0_giveTo 66 = .ok (.ishl, 1) := by decide +kernel
theorem dX0_giveTo_67 : decode cX0_giveTo 67 = .ok (.ior, 1) := by decide +kernel
theorem dX0_giveTo_68 : decode cX0_giveTo 68 = .ok (.putfield 67, 3) := by decide +kernel
theorem dX0_giveTo_71 : decode cX0_giveTo 71 = .ok (.return_, 1) := by decide +kernel
theorem dX0_step_0 : decode cX0_step 0 = .ok (.aload_n 0, 1) := by decide +kernel
theorem dX0_step_1 : decode cX0_step 1 = .ok (.getfield 9, 3) := by decide +kernel
theorem dX0_step_4 : decode cX0_step 4 = .ok (.getfield 74, 3) := by decide +kernel
theorem dX0_step_7 : decode cX0_step 7 = .ok (.ifCond .le 23, 3) := by decide +kernel
theorem dX0_step_10 : decode cX0_step 10 = .ok (.aload_n 1, 1) := by decide +kernel
theorem dX0_step_11 : decode cX0_step 11 = .ok (.getfield 52, 3) := by decide +kernel
theorem dX0_step_14 : decode cX0_step 14 = .ok (.ifCond .le 11, 3) := by decide +kernel
theorem dX0_step_17 : decode cX0_step 17 = .ok (.aload_n 0, 1) := by decide +kernel
theorem dX0_step_18 : decode cX0_step 18 = .ok (.aload_n 1, 1) := by decide +kernel
theorem dX0_step_19 : decode cX0_step 19 = .ok (.invokevirtual 106, 3) := by decide +kernel
theorem dX0_step_22 : decode cX0_step 22 = .ok (.goto 8, 3) := by decide +kernel
theorem dX0_step_25 : decode cX0_step 25 = .ok (.aload_n 0, 1) := by decide +kernel
theorem dX0_step_26 : decode cX0_step 26 = .ok (.aload_n 1, 1) := by decide +kernel
theorem dX0_step_27 : decode cX0_step 27 = .ok (.invokevirtual 110, 3) := by decide +kernel
theorem dX0_step_30 : decode cX0_step 30 = .ok (.aload_n 1, 1) := by decide +kernel
theorem dX0_step_31 : decode cX0_step 31 = .ok (.dup, 1) := by decide +kernel
theorem dX0_step_32 : decode cX0_step 32 = .ok (.getfield 58, 3) := by decide +kernel
theorem dX0_step_35 : decode cX0_step 35 = .ok (.iconst 1, 1) := by decide +kernel
theorem dX0_step_36 : decode cX0_step 36 = .ok (.iadd, 1) := by decide +kernel
theorem dX0_step_37 : decode cX0_step 37 = .ok (.putfield 58, 3) := by decide +kernel
theorem dX0_step_40 : decode cX0_step 40 = .ok (.return_, 1) := by decide +kernel
theorem dX0_stepAsleep_0 : decode cX0_stepAsleep 0 = .ok (.aload_n 1, 1) := by decide +kernel
theorem dX0_stepAsleep_1 : decode cX0_stepAsleep 1 = .ok (.aload_n 1, 1) := by decide +kernel
theorem dX0_stepAsleep_2 : decode cX0_stepAsleep 2 = .ok (.getfield 21, 3) := by decide +kernel
theorem dX0_stepAsleep_5 : decode cX0_stepAsleep 5 = .ok (.aload_n 0, 1) := by decide +kernel
theorem dX0_stepAsleep_6 : decode cX0_stepAsleep 6 = .ok (.getfield 9, 3) := by decide +kernel
theorem dX0_stepAsleep_9 : decode cX0_stepAsleep 9 = .ok (.getfield 113, 3) := by decide +kernel
theorem dX0_stepAsleep_12 : decode cX0_stepAsleep 12 = .ok (.iconst 0, 1) := by decide +kernel
theorem dX0_stepAsleep_13 : decode cX0_stepAsleep 13 = .ok (.aload_n 1, 1) := by decide +kernel
theorem dX0_stepAsleep_14 : decode cX0_stepAsleep 14 = .ok (.invokevirtual 117, 3) := by decide +kernel
theorem dX0_stepAsleep_17 : decode cX0_stepAsleep 17 = .ok (.iadd, 1) := by decide +kernel
theorem dX0_stepAsleep_18 : decode cX0_stepAsleep 18 = .ok (.iconst 0, 1) := by decide +kernel
theorem dX0_stepAsleep_19 : decode cX0_stepAsleep 19 = .ok (.bipush 99, 2) := by decide +kernel
theorem dX0_stepAsleep_21 : decode cX0_stepAsleep 21 = .ok (.invokestatic 123, 3) := by decide +kernel
theorem dX0_stepAsleep_24 : decode cX0_stepAsleep 24 = .ok (.putfield 21, 3) := by decide +kernel
theorem dX0_stepAsleep_27 : decode cX0_stepAsleep 27 = .ok (.aload_n 1, 1) := by decide +kernel
theorem dX0_stepAsleep_28 : decode cX0_stepAsleep 28 = .ok (.iconst 3, 1) := by decide +kernel
theorem dX0_stepAsleep_29 : decode cX0_stepAsleep 29 = .ok (.iconst 1, 1) := by decide +kernel
theorem dX0_stepAsleep_30 : decode cX0_stepAsleep 30 = .ok (.invokevirtual 127, 3) := by decide +kernel
theorem dX0_stepAsleep_33 : decode cX0_stepAsleep 33 = .ok (.aload_n 1, 1) := by decide +kernel
theorem dX0_stepAsleep_34 : decode cX0_stepAsleep 34 = .ok (.iconst 0, 1) := by decide +kernel
theorem dX0_stepAsleep_35 : decode cX0_stepAsleep 35 = .ok (.putfield 49, 3) := by decide +kernel
theorem dX0_stepAsleep_38 : decode cX0_stepAsleep 38 = .ok (.aload_n 1, 1) := by decide +kernel
theorem dX0_stepAsleep_39 : decode cX0_stepAsleep 39 = .ok (.dup, 1) := by decide +kernel
theorem dX0_stepAsleep_40 : decode cX0_stepAsleep 40 = .ok (.getfield 52, 3) := by decide +kernel
theorem dX0_stepAsleep_43 : decode cX0_stepAsleep 43 = .ok (.iconst 1, 1) := by decide +kernel
theorem dX0_stepAsleep_44 : decode cX0_stepAsleep 44 = .ok (.isub, 1) := by decide +kernel
theorem dX0_stepAsleep_45 : decode cX0_stepAsleep 45 = .ok (.putfield 52, 3) := by decide +kernel
theorem dX0_stepAsleep_48 : decode cX0_stepAsleep 48 = .ok (.aload_n 1, 1) := by decide +kernel
theorem dX0_stepAsleep_49 : decode cX0_stepAsleep 49 = .ok (.getfield 52, 3) := by decide +kernel
theorem dX0_stepAsleep_52 : decode cX0_stepAsleep 52 = .ok (.ifCond .ne 13, 3) := by decide +kernel
theorem dX0_stepAsleep_55 : decode cX0_stepAsleep 55 = .ok (.aload_n 1, 1) := by decide +kernel
theorem dX0_stepAsleep_56 : decode cX0_stepAsleep 56 = .ok (.iconst 0, 1) := by decide +kernel
theorem dX0_stepAsleep_57 : decode cX0_stepAsleep 57 = .ok (.putfield 27, 3) := by decide +kernel
theorem dX0_stepAsleep_60 : decode cX0_stepAsleep 60 = .ok (.aload_n 1, 1) := by decide +kernel
theorem dX0_stepAsleep_61 : decode cX0_stepAsleep 61 = .ok (.iconst 0, 1) := by decide +kernel
theorem dX0_stepAsleep_62 : decode cX0_stepAsleep 62 = .ok (.putfield 84, 3) := by decide +kernel
theorem dX0_stepAsleep_65 : decode cX0_stepAsleep 65 = .ok (.return_, 1) := by decide +kernel
theorem dX0_stepAwake_0 : decode cX0_stepAwake 0 = .ok (.aload_n 0, 1) := by decide +kernel
theorem dX0_stepAwake_1 : decode cX0_stepAwake 1 = .ok (.getfield 9, 3) := by decide +kernel
theorem dX0_stepAwake_4 : decode cX0_stepAwake 4 = .ok (.getfield 113, 3) := by decide +kernel
theorem dX0_stepAwake_7 : decode cX0_stepAwake 7 = .ok (.iconst 0, 1) := by decide +kernel
theorem dX0_stepAwake_8 : decode cX0_stepAwake 8 = .ok (.aload_n 1, 1) := by decide +kernel
theorem dX0_stepAwake_9 : decode cX0_stepAwake 9 = .ok (.invokevirtual 117, 3) := by decide +kernel
theorem dX0_stepAwake_12 : decode cX0_stepAwake 12 = .ok (.istore_n 2, 1) := by decide +kernel
theorem dX0_stepAwake_13 : decode cX0_stepAwake 13 = .ok (.aload_n 0, 1) := by decide +kernel
theorem dX0_stepAwake_14 : decode cX0_stepAwake 14 = .ok (.getfield 9, 3) := by decide +kernel
theorem dX0_stepAwake_17 : decode cX0_stepAwake 17 = .ok (.getfield 113, 3) := by decide +kernel
theorem dX0_stepAwake_20 : decode cX0_stepAwake 20 = .ok (.iconst 1, 1) := by decide +kernel
theorem dX0_stepAwake_21 : decode cX0_stepAwake 21 = .ok (.aload_n 1, 1) := by decide +kernel
theorem dX0_stepAwake_22 : decode cX0_stepAwake 22 = .ok (.invokevirtual 117, 3) := by decide +kernel
theorem dX0_stepAwake_25 : decode cX0_stepAwake 25 = .ok (.istore_n 3, 1) := by decide +kernel
theorem dX0_stepAwake_26 : decode cX0_stepAwake 26 = .ok (.aload_n 0, 1) := by decide +kernel
theorem dX0_stepAwake_27 : decode cX0_stepAwake 27 = .ok (.getfield 9, 3) := by decide +kernel
theorem dX0_stepAwake_30 : decode cX0_stepAwake 30 = .ok (.getfield 113, 3) := by decide +kernel
theorem dX0_stepAwake_33 : decode cX0_stepAwake 33 = .ok (.iconst 2, 1) := by decide +kernel
theorem dX0_stepAwake_34 : decode cX0_stepAwake 34 = .ok (.aload_n 1, 1) := by decide +kernel
theorem dX0_stepAwake_35 : decode cX0_stepAwake 35 = .ok (.invokevirtual 117, 3) := by decide +kernel
theorem dX0_stepAwake_38 : decode cX0_stepAwake 38 = .ok (.istore 4, 2) := by decide +kernel
theorem dX0_stepAwake_40 : decode cX0_stepAwake 40 = .ok (.aload_n 0, 1) := by decide +kernel
theorem dX0_stepAwake_41 : decode cX0_stepAwake 41 = .ok (.getfield 9, 3) := by decide +kernel
theorem dX0_stepAwake_44 : decode cX0_stepAwake 44 = .ok (.getfield 113, 3) := by decide +kernel
theorem dX0_stepAwake_47 : decode cX0_stepAwake 47 = .ok (.iconst 3, 1) := by decide +kernel
theorem dX0_stepAwake_48 : decode cX0_stepAwake 48 = .ok (.aload_n 1, 1) := by decide +kernel
theorem dX0_stepAwake_49 : decode cX0_stepAwake 49 = .ok (.invokevirtual 117, 3) := by decide +kernel
theorem dX0_stepAwake_52 : decode cX0_stepAwake 52 = .ok (.istore 5, 2) := by decide +kernel
theorem dX0_stepAwake_54 : decode cX0_stepAwake 54 = .ok (.aload_n 1, 1) := by decide +kernel
theorem dX0_stepAwake_55 : decode cX0_stepAwake 55 = .ok (.aload_n 1, 1) := by decide +kernel
theorem dX0_stepAwake_56 : decode cX0_stepAwake 56 = .ok (.getfield 21, 3) := by decide +kernel
theorem dX0_stepAwake_59 : decode cX0_stepAwake 59 = .ok (.iload_n 2, 1) := by decide +kernel
theorem dX0_stepAwake_60 : decode cX0_stepAwake 60 = .ok (.iadd, 1) := by decide +kernel
theorem dX0_stepAwake_61 : decode cX0_stepAwake 61 = .ok (.iconst 0, 1) := by decide +kernel
theorem dX0_stepAwake_62 : decode cX0_stepAwake 62 = .ok (.bipush 99, 2) := by decide +kernel
theorem dX0_stepAwake_64 : decode cX0_stepAwake 64 = .ok (.invokestatic 123, 3) := by decide +kernel
theorem dX0_stepAwake_67 : decode cX0_stepAwake 67 = .ok (.putfield 21, 3) := by decide +kernel
theorem dX0_stepAwake_70 : decode cX0_stepAwake 70 = .ok (.aload_n 1, 1) := by decide +kernel
theorem dX0_stepAwake_71 : decode cX0_stepAwake 71 = .ok (.aload_n 1, 1) := by decide +kernel
theorem dX0_stepAwake_72 : decode cX0_stepAwake 72 = .ok (.getfield 27, 3) := by decide +kernel
theorem dX0_stepAwake_75 : decode cX0_stepAwake 75 = .ok (.iload_n 3, 1) := by decide +kernel
theorem dX0_stepAwake_76 : decode cX0_stepAwake 76 = .ok (.iadd, 1) := by decide +kernel
theorem dX0_stepAwake_77 : decode cX0_stepAwake 77 = .ok (.iconst 0, 1) := by decide +kernel
theorem dX0_stepAwake_78 : decode cX0_stepAwake 78 = .ok (.bipush 99, 2) := by decide +kernel
theorem dX0_stepAwake_80 : decode cX0_stepAwake 80 = .ok (.invokestatic 123, 3) := by decide +kernel
theorem dX0_stepAwake_83 : decode cX0_stepAwake 83 = .ok (.putfield 27, 3) := by decide +kernel
theorem dX0_stepAwake_86 : decode cX0_stepAwake 86 = .ok (.aload_n 1, 1) := by decide +kernel
theorem dX0_stepAwake_87 : decode cX0_stepAwake 87 = .ok (.aload_n 1, 1) := by decide +kernel
theorem dX0_stepAwake_88 : decode cX0_stepAwake 88 = .ok (.getfield 31, 3) := by decide +kernel
theorem dX0_stepAwake_91 : decode cX0_stepAwake 91 = .ok (.iload 4, 2) := by decide +kernel
theorem dX0_stepAwake_93 : decode cX0_stepAwake 93 = .ok (.iadd, 1) := by decide +kernel
theorem dX0_stepAwake_94 : decode cX0_stepAwake 94 = .ok (.iconst 0, 1) := by decide +kernel
theorem dX0_stepAwake_95 : decode cX0_stepAwake 95 = .ok (.bipush 99, 2) := by decide +kernel
theorem dX0_stepAwake_97 : decode cX0_stepAwake 97 = .ok (.invokestatic 123, 3) := by decide +kernel
theorem dX0_stepAwake_100 : decode cX0_stepAwake 100 = .ok (.putfield 31, 3) := by decide +kernel
theorem dX0_stepAwake_103 : decode cX0_stepAwake 103 = .ok (.aload_n 1, 1) := by decide +kernel
theorem dX0_stepAwake_104 : decode cX0_stepAwake 104 = .ok (.aload_n 1, 1) := by decide +kernel
theorem dX0_stepAwake_105 : decode cX0_stepAwake 105 = .ok (.getfield 35, 3) := by decide +kernel
theorem dX0_stepAwake_108 : decode cX0_stepAwake 108 = .ok (.iload 5, 2) := by decide +kernel
theorem dX0_stepAwake_110 : decode cX0_stepAwake 110 = .ok (.iadd, 1) := by decide +kernel
theorem dX0_stepAwake_111 : decode cX0_stepAwake 111 = .ok (.iconst 0, 1) := by decide +kernel
theorem dX0_stepAwake_112 : decode cX0_stepAwake 112 = .ok (.bipush 99, 2) := by decide +kernel
theorem dX0_stepAwake_114 : decode cX0_stepAwake 114 = .ok (.invokestatic 123, 3) := by decide +kernel
theorem dX0_stepAwake_117 : decode cX0_stepAwake 117 = .ok (.putfield 35, 3) := by decide +kernel
theorem dX0_stepAwake_120 : decode cX0_stepAwake 120 = .ok (.aload_n 1, 1) := by decide +kernel
theorem dX0_stepAwake_121 : decode cX0_stepAwake 121 = .ok (.dup, 1) := by decide +kernel
theorem dX0_stepAwake_122 : decode cX0_stepAwake 122 = .ok (.getfield 84, 3) := by decide +kernel
theorem dX0_stepAwake_125 : decode cX0_stepAwake 125 = .ok (.iconst 1, 1) := by decide +kernel
theorem dX0_stepAwake_126 : decode cX0_stepAwake 126 = .ok (.iadd, 1) := by decide +kernel
theorem dX0_stepAwake_127 : decode cX0_stepAwake 127 = .ok (.putfield 84, 3) := by decide +kernel
theorem dX0_stepAwake_130 : decode cX0_stepAwake 130 = .ok (.aload_n 1, 1) := by decide +kernel
theorem dX0_stepAwake_131 : decode cX0_stepAwake 131 = .ok (.aload_n 0, 1) := by decide +kernel
theorem dX0_stepAwake_132 : decode cX0_stepAwake 132 = .ok (.getfield 9, 3) := by decide +kernel
theorem dX0_stepAwake_135 : decode cX0_stepAwake 135 = .ok (.getfield 113, 3) := by decide +kernel
theorem dX0_stepAwake_138 : decode cX0_stepAwake 138 = .ok (.iconst 4, 1) := by decide +kernel
theorem dX0_stepAwake_139 : decode cX0_stepAwake 139 = .ok (.aload_n 1, 1) := by decide +kernel
theorem dX0_stepAwake_140 : decode cX0_stepAwake 140 = .ok (.invokevirtual 117, 3) := by decide +kernel
theorem dX0_stepAwake_143 : decode cX0_stepAwake 143 = .ok (.putfield 49, 3) := by decide +kernel
theorem dX0_stepAwake_146 : decode cX0_stepAwake 146 = .ok (.aload_n 1, 1) := by decide +kernel
theorem dX0_stepAwake_147 : decode cX0_stepAwake 147 = .ok (.iconst 0, 1) := by decide +kernel
theorem dX0_stepAwake_148 : decode cX0_stepAwake 148 = .ok (.iconst 1, 1) := by decide +kernel
theorem dX0_stepAwake_149 : decode cX0_stepAwake 149 = .ok (.invokevirtual 127, 3) := by decide +kernel
theorem dX0_stepAwake_152 : decode cX0_stepAwake 152 = .ok (.aload_n 1, 1) := by decide +kernel
theorem dX0_stepAwake_153 : decode cX0_stepAwake 153 = .ok (.iconst 1, 1) := by decide +kernel
theorem dX0_stepAwake_154 : decode cX0_stepAwake 154 = .ok (.aload_n 1, 1) := by decide +kernel
theorem dX0_stepAwake_155 : decode cX0_stepAwake 155 = .ok (.getfield 49, 3) := by decide +kernel
theorem dX0_stepAwake_158 : decode cX0_stepAwake 158 = .ok (.invokevirtual 127, 3) := by decide +kernel
theorem dX0_stepAwake_161 : decode cX0_stepAwake 161 = .ok (.aload_n 1, 1) := by decide +kernel
theorem dX0_stepAwake_162 : decode cX0_stepAwake 162 = .ok (.getfield 49, 3) := by decide +kernel
theorem dX0_stepAwake_165 : decode cX0_stepAwake 165 = .ok (.ifCond .ne 18, 3) := by decide +kernel
theorem dX0_stepAwake_168 : decode cX0_stepAwake 168 = .ok (.aload_n 1, 1) := by decide +kernel
theorem dX0_stepAwake_169 : decode cX0_stepAwake 169 = .ok (.getfield 31, 3) := by decide +kernel
theorem dX0_stepAwake_172 : decode cX0_stepAwake 172 = .ok (.bipush 50, 2) := by decide +kernel
theorem dX0_stepAwake_174 : decode cX0_stepAwake 174 = .ok (.if_icmp .lt 9, 3) := by decide +kernel
theorem dX0_stepAwake_177 : decode cX0_stepAwake 177 = .ok (.aload_n 1, 1) := by decide +kernel
theorem dX0_stepAwake_178 : decode cX0_stepAwake 178 = .ok (.iconst 2, 1) := by decide +kernel
theorem dX0_stepAwake_179 : decode cX0_stepAwake 179 = .ok (.iconst 1, 1) := by decide +kernel
theorem dX0_stepAwake_180 : decode cX0_stepAwake 180 = .ok (.invokevirtual 127, 3) := by decide +kernel
theorem dX0_stepAwake_183 : decode cX0_stepAwake 183 = .ok (.bipush 100, 2) := by decide +kernel
theorem dX0_stepAwake_185 : decode cX0_stepAwake 185 = .ok (.aload_n 1, 1) := by decide +kernel
theorem dX0_stepAwake_186 : decode cX0_stepAwake 186 = .ok (.getfield 39, 3) := by decide +kernel
theorem dX0_stepAwake_189 : decode cX0_stepAwake 189 = .ok (.aload_n 1, 1) := by decide +kernel
theorem dX0_stepAwake_190 : decode cX0_stepAwake 190 = .ok (.getfield 58, 3) := by decide +kernel
theorem dX0_stepAwake_193 : decode cX0_stepAwake 193 = .ok (.invokestatic 131, 3) := by decide +kernel
theorem dX0_stepAwake_196 : decode cX0_stepAwake 196 = .ok (.aload_n 0, 1) := by decide +kernel
theorem dX0_stepAwake_197 : decode cX0_stepAwake 197 = .ok (.getfield 9, 3) := by decide +kernel
theorem dX0_stepAwake_200 : decode cX0_stepAwake 200 = .ok (.getfield 113, 3) := by decide +kernel
theorem dX0_stepAwake_203 : decode cX0_stepAwake 203 = .ok (.bipush 6, 2) := by decide +kernel
theorem dX0_stepAwake_205 : decode cX0_stepAwake 205 = .ok (.aload_n 1, 1) := by decide +kernel
theorem dX0_stepAwake_206 : decode cX0_stepAwake 206 = .ok (.invokevirtual 117, 3) := by decide +kernel
theorem dX0_stepAwake_209 : decode cX0_stepAwake 209 = .ok (.if_icmp .ge 8, 3) := by decide +kernel
theorem dX0_stepAwake_212 : decode cX0_stepAwake 212 = .ok (.aload_n 0, 1) := by decide +kernel
theorem dX0_stepAwake_213 : decode cX0_stepAwake 213 = .ok (.aload_n 1, 1) := by decide +kernel
theorem dX0_stepAwake_214 : decode cX0_stepAwake 214 = .ok (.invokevirtual 134, 3) := by decide +kernel
theorem dX0_stepAwake_217 : decode cX0_stepAwake 217 = .ok (.aload_n 0, 1) := by decide +kernel
theorem dX0_stepAwake_218 : decode cX0_stepAwake 218 = .ok (.getfield 9, 3) := by decide +kernel
theorem dX0_stepAwake_221 : decode cX0_stepAwake 221 = .ok (.getfield 113, 3) := by decide +kernel
theorem dX0_stepAwake_224 : decode cX0_stepAwake 224 = .ok (.iconst 5, 1) := by decide +kernel
theorem dX0_stepAwake_225 : decode cX0_stepAwake 225 = .ok (.aload_n 1, 1) := by decide +kernel
theorem dX0_stepAwake_226 : decode cX0_stepAwake 226 = .ok (.invokevirtual 117, 3) := by decide +kernel
theorem dX0_stepAwake_229 : decode cX0_stepAwake 229 = .ok (.ifCond .le 8, 3) := by decide +kernel
theorem dX0_stepAwake_232 : decode cX0_stepAwake 232 = .ok (.aload_n 0, 1) := by decide +kernel
theorem dX0_stepAwake_233 : decode cX0_stepAwake 233 = .ok (.aload_n 1, 1) := by decide +kernel
theorem dX0_stepAwake_234 : decode cX0_stepAwake 234 = .ok (.invokevirtual 137, 3) := by decide +kernel
theorem dX0_stepAwake_237 : decode cX0_stepAwake 237 = .ok (.return_, 1) := by decide +kernel
theorem dX0_spit_0 : decode cX0_spit 0 = .ok (.aload_n 1, 1) := by decide +kernel
theorem dX0_spit_1 : decode cX0_spit 1 = .ok (.iconst 0, 1) := by decide +kernel
theorem dX0_spit_2 : decode cX0_spit 2 = .ok (.putfield 35, 3) := by decide +kernel
theorem dX0_spit_5 : decode cX0_spit 5 = .ok (.aload_n 1, 1) := by decide +kernel
theorem dX0_spit_6 : decode cX0_spit 6 = .ok (.bipush 6, 2) := by decide +kernel
theorem dX0_spit_8 : decode cX0_spit 8 = .ok (.iconst 1, 1) := by decide +kernel
theorem dX0_spit_9 : decode cX0_spit 9 = .ok (.invokevirtual 127, 3) := by decide +kernel
theorem dX0_spit_12 : decode cX0_spit 12 = .ok (.aload_n 1, 1) := by decide +kernel
theorem dX0_spit_13 : decode cX0_spit 13 = .ok (.getfield 55, 3) := by decide +kernel
theorem dX0_spit_16 : decode cX0_spit 16 = .ok (.ifCond .ne 22, 3) := by decide +kernel
theorem dX0_spit_19 : decode cX0_spit 19 = .ok (.aload_n 1, 1) := by decide +kernel
theorem dX0_spit_20 : decode cX0_spit 20 = .ok (.iconst 4, 1) := by decide +kernel
theorem dX0_spit_21 : decode cX0_spit 21 = .ok (.aload_n 0, 1) := by decide +kernel
theorem dX0_spit_22 : decode cX0_spit 22 = .ok (.getfield 9, 3) := by decide +kernel
theorem dX0_spit_25 : decode cX0_spit 25 = .ok (.getfield 140, 3) := by decide +kernel
theorem dX0_spit_28 : decode cX0_spit 28 = .ok (.aload_n 1, 1) := by decide +kernel
theorem dX0_spit_29 : decode cX0_spit 29 = .ok (.getfield 81, 3) := by decide +kernel
theorem dX0_spit_32 : decode cX0_spit 32 = .ok (.invokestatic 90, 3) := by decide +kernel
theorem dX0_spit_35 : decode cX0_spit 35 = .ok (.invokevirtual 127, 3) := by decide +kernel
theorem dX0_spit_38 : decode cX0_spit 38 = .ok (.return_, 1) := by decide +kernel
theorem dX0_lot_0 : decode cX0_lot 0 = .ok (.iload_n 1, 1) := by decide +kernel
theorem dX0_lot_1 : decode cX0_lot 1 = .ok (.bipush 37, 2) := by decide +kernel
theorem dX0_lot_3 : decode cX0_lot 3 = .ok (.ixor, 1) := by decide +kernel
theorem dX0_lot_4 : decode cX0_lot 4 = .ok (.ldc 143, 2) := by decide +kernel
theorem dX0_lot_6 : decode cX0_lot 6 = .ok (.imul, 1) := by decide +kernel
theorem dX0_lot_7 : decode cX0_lot 7 = .ok (.sipush 12345, 3) := by decide +kernel
theorem dX0_lot_10 : decode cX0_lot 10 = .ok (.iadd, 1) := by decide +kernel
theorem dX0_lot_11 : decode cX0_lot 11 = .ok (.istore_n 3, 1) := by decide +kernel
theorem dX0_lot_12 : decode cX0_lot 12 = .ok (.iload_n 3, 1) := by decide +kernel
theorem dX0_lot_13 : decode cX0_lot 13 = .ok (.iload_n 3, 1) := by decide +kernel
theorem dX0_lot_14 : decode cX0_lot 14 = .ok (.bipush 15, 2) := by decide +kernel
theorem dX0_lot_16 : decode cX0_lot 16 = .ok (.iushr, 1) := by decide +kernel
theorem dX0_lot_17 : decode cX0_lot 17 = .ok (.ixor, 1) := by decide +kernel
theorem dX0_lot_18 : decode cX0_lot 18 = .ok (.istore_n 3, 1) := by decide +kernel
theorem dX0_lot_19 : decode cX0_lot 19 = .ok (.iload_n 3, 1) := by decide +kernel
theorem dX0_lot_20 : decode cX0_lot 20 = .ok (.iload_n 2, 1) := by decide +kernel
theorem dX0_lot_21 : decode cX0_lot 21 = .ok (.ixor, 1) := by decide +kernel
theorem dX0_lot_22 : decode cX0_lot 22 = .ok (.ldc 143, 2) := by decide +kernel
theorem dX0_lot_24 : decode cX0_lot 24 = .ok (.imul, 1) := by decide +kernel
theorem dX0_lot_25 : decode cX0_lot 25 = .ok (.sipush 12345, 3) := by decide +kernel
theorem dX0_lot_28 : decode cX0_lot 28 = .ok (.iadd, 1) := by decide +kernel
theorem dX0_lot_29 : decode cX0_lot 29 = .ok (.istore_n 3, 1) := by decide +kernel
theorem dX0_lot_30 : decode cX0_lot 30 = .ok (.iload_n 3, 1) := by decide +kernel
theorem dX0_lot_31 : decode cX0_lot 31 = .ok (.iload_n 3, 1) := by decide +kernel
theorem dX0_lot_32 : decode cX0_lot 32 = .ok (.bipush 15, 2) := by decide +kernel
theorem dX0_lot_34 : decode cX0_lot 34 = .ok (.iushr, 1) := by decide +kernel
theorem dX0_lot_35 : decode cX0_lot 35 = .ok (.ixor, 1) := by decide +kernel
theorem dX0_lot_36 : decode cX0_lot 36 = .ok (.istore_n 3, 1) := by decide +kernel
theorem dX0_lot_37 : decode cX0_lot 37 = .ok (.iload_n 0, 1) := by decide +kernel
theorem dX0_lot_38 : decode cX0_lot 38 = .ok (.ifCond .ne 7, 3) := by decide +kernel
theorem dX0_lot_41 : decode cX0_lot 41 = .ok (.iconst 0, 1) := by decide +kernel
theorem dX0_lot_42 : decode cX0_lot 42 = .ok (.goto 8, 3) := by decide +kernel
theorem dX0_lot_45 : decode cX0_lot 45 = .ok (.iload_n 3, 1) := by decide +kernel
theorem dX0_lot_46 : decode cX0_lot 46 = .ok (.iconst 1, 1) := by decide +kernel
theorem dX0_lot_47 : decode cX0_lot 47 = .ok (.iushr, 1) := by decide +kernel
theorem dX0_lot_48 : decode cX0_lot 48 = .ok (.iload_n 0, 1) := by decide +kernel
theorem dX0_lot_49 : decode cX0_lot 49 = .ok (.irem, 1) := by decide +kernel
theorem dX0_lot_50 : decode cX0_lot 50 = .ok (.ireturn, 1) := by decide +kernel
theorem dX0_fallAsleep_0 : decode cX0_fallAsleep 0 = .ok (.aload_n 1, 1) := by decide +kernel
theorem dX0_fallAsleep_1 : decode cX0_fallAsleep 1 = .ok (.bipush 60, 2) := by decide +kernel
theorem dX0_fallAsleep_3 : decode cX0_fallAsleep 3 = .ok (.putfield 52, 3) := by decide +kernel
theorem dX0_fallAsleep_6 : decode cX0_fallAsleep 6 = .ok (.aload_n 1, 1) := by decide +kernel
theorem dX0_fallAsleep_7 : decode cX0_fallAsleep 7 = .ok (.dup, 1) := by decide +kernel
theorem dX0_fallAsleep_8 : decode cX0_fallAsleep 8 = .ok (.getfield 61, 3) := by decide +kernel
theorem dX0_fallAsleep_11 : decode cX0_fallAsleep 11 = .ok (.iconst 1, 1) := by decide +kernel
theorem dX0_fallAsleep_12 : decode cX0_fallAsleep 12 = .ok (.iadd, 1) := by decide +kernel
theorem dX0_fallAsleep_13 : decode cX0_fallAsleep 13 = .ok (.putfield 61, 3) := by decide +kernel
theorem dX0_fallAsleep_16 : decode cX0_fallAsleep 16 = .ok (.return_, 1) := by decide +kernel
theorem dX0_giveOver_0 : decode cX0_giveOver 0 = .ok (.iload_n 2, 1) := by decide +kernel
theorem dX0_giveOver_1 : decode cX0_giveOver 1 = .ok (.aload_n 1, 1) := by decide +kernel
theorem dX0_giveOver_2 : decode cX0_giveOver 2 = .ok (.getfield 43, 3) := by decide +kernel
theorem dX0_giveOver_5 : decode cX0_giveOver 5 = .ok (.if_icmp .eq 32, 3) := by decide +kernel
theorem dX0_giveOver_8 : decode cX0_giveOver 8 = .ok (.iload_n 2, 1) := by decide +kernel
theorem dX0_giveOver_9 : decode cX0_giveOver 9 = .ok (.aload_n 1, 1) := by decide +kernel
theorem dX0_giveOver_10 : decode cX0_giveOver 10 = .ok (.getfield 46, 3) := by decide +kernel
theorem dX0_giveOver_13 : decode cX0_giveOver 13 = .ok (.if_icmp .eq 24, 3) := by decide +kernel
theorem dX0_giveOver_16 : decode cX0_giveOver 16 = .ok (.aload_n 1, 1) := by decide +kernel
theorem dX0_giveOver_17 : decode cX0_giveOver 17 = .ok (.bipush 99, 2) := by decide +kernel
theorem dX0_giveOver_19 : decode cX0_giveOver 19 = .ok (.aload_n 1, 1) := by decide +kernel
theorem dX0_giveOver_20 : decode cX0_giveOver 20 = .ok (.getfield 31, 3) := by decide +kernel
theorem dX0_giveOver_23 : decode cX0_giveOver 23 = .ok (.aload_n 0, 1) := by decide +kernel
theorem dX0_giveOver_24 : decode cX0_giveOver 24 = .ok (.getfield 9, 3) := by decide +kernel
theorem dX0_giveOver_27 : decode cX0_giveOver 27 = .ok (.getfield 144, 3) := by decide +kernel
theorem dX0_giveOver_30 : decode cX0_giveOver 30 = .ok (.iadd, 1) := by decide +kernel
theorem dX0_giveOver_31 : decode cX0_giveOver 31 = .ok (.invokestatic 147, 3) := by decide +kernel
theorem dX0_giveOver_34 : decode cX0_giveOver 34 = .ok (.putfield 31, 3) := by decide +kernel
theorem dX0_giveOver_37 : decode cX0_giveOver 37 = .ok (.aload_n 1, 1) := by decide +kernel
theorem dX0_giveOver_38 : decode cX0_giveOver 38 = .ok (.aload_n 1, 1) := by decide +kernel
theorem dX0_giveOver_39 : decode cX0_giveOver 39 = .ok (.getfield 43, 3) := by decide +kernel
theorem dX0_giveOver_42 : decode cX0_giveOver 42 = .ok (.putfield 46, 3) := by decide +kernel
theorem dX0_giveOver_45 : decode cX0_giveOver 45 = .ok (.aload_n 1, 1) := by decide +kernel
theorem dX0_giveOver_46 : decode cX0_giveOver 46 = .ok (.aload_n 1, 1) := by decide +kernel
theorem dX0_giveOver_47 : decode cX0_giveOver 47 = .ok (.getfield 81, 3) := by decide +kernel
theorem dX0_giveOver_50 : decode cX0_giveOver 50 = .ok (.putfield 43, 3) := by decide +kernel
theorem dX0_giveOver_53 : decode cX0_giveOver 53 = .ok (.aload_n 1, 1) := by decide +kernel
theorem dX0_giveOver_54 : decode cX0_giveOver 54 = .ok (.dup, 1) := by decide +kernel
theorem dX0_giveOver_55 : decode cX0_giveOver 55 = .ok (.getfield 64, 3) := by decide +kernel
theorem dX0_giveOver_58 : decode cX0_giveOver 58 = .ok (.iconst 1, 1) := by decide +kernel
theorem dX0_giveOver_59 : decode cX0_giveOver 59 = .ok (.iadd, 1) := by decide +kernel
theorem dX0_giveOver_60 : decode cX0_giveOver 60 = .ok (.putfield 64, 3) := by decide +kernel
theorem dX0_giveOver_63 : decode cX0_giveOver 63 = .ok (.aload_n 0, 1) := by decide +kernel
theorem dX0_giveOver_64 : decode cX0_giveOver 64 = .ok (.aload_n 1, 1) := by decide +kernel
theorem dX0_giveOver_65 : decode cX0_giveOver 65 = .ok (.iload_n 2, 1) := by decide +kernel
theorem dX0_giveOver_66 : decode cX0_giveOver 66 = .ok (.invokevirtual 77, 3) := by decide +kernel
theorem dX0_giveOver_69 : decode cX0_giveOver 69 = .ok (.return_, 1) := by decide +kernel
theorem dX0_feedNow_0 : decode cX0_feedNow 0 = .ok (.aload_n 1, 1) := by decide +kernel
theorem dX0_feedNow_1 : decode cX0_feedNow 1 = .ok (.iconst 0, 1) := by decide +kernel
theorem dX0_feedNow_2 : decode cX0_feedNow 2 = .ok (.putfield 21, 3) := by decide +kernel
theorem dX0_feedNow_5 : decode cX0_feedNow 5 = .ok (.aload_n 1, 1) := by decide +kernel
theorem dX0_feedNow_6 : decode cX0_feedNow 6 = .ok (.bipush 99, 2) := by decide +kernel
theorem dX0_feedNow_8 : decode cX0_feedNow 8 = .ok (.aload_n 1, 1) := by decide +kernel
theorem dX0_feedNow_9 : decode cX0_feedNow 9 = .ok (.getfield 35, 3) := by decide +kernel
theorem dX0_feedNow_12 : decode cX0_feedNow 12 = .ok (.aload_n 0, 1) := by decide +kernel
theorem dX0_feedNow_13 : decode cX0_feedNow 13 = .ok (.getfield 9, 3) := by decide +kernel
theorem dX0_feedNow_16 : decode cX0_feedNow 16 = .ok (.getfield 153, 3) := by decide +kernel
theorem dX0_feedNow_19 : decode cX0_feedNow 19 = .ok (.iadd, 1) := by decide +kernel
theorem dX0_feedNow_20 : decode cX0_feedNow 20 = .ok (.invokestatic 147, 3) := by decide +kernel
theorem dX0_feedNow_23 : decode cX0_feedNow 23 = .ok (.putfield 35, 3) := by decide +kernel
theorem dX0_feedNow_26 : decode cX0_feedNow 26 = .ok (.return_, 1) := by decide +kernel
theorem dX0_goOn_0 : decode cX0_goOn 0 = .ok (.iconst 0, 1) := by decide +kernel
theorem dX0_goOn_1 : decode cX0_goOn 1 = .ok (.istore_n 3, 1) := by decide +kernel
theorem dX0_goOn_2 : decode cX0_goOn 2 = .ok (.iload_n 3, 1) := by decide +kernel
theorem dX0_goOn_3 : decode cX0_goOn 3 = .ok (.iload_n 2, 1) := by decide +kernel
theorem dX0_goOn_4 : decode cX0_goOn 4 = .ok (.if_icmp .ge 14, 3) := by decide +kernel
theorem dX0_goOn_7 : decode cX0_goOn 7 = .ok (.aload_n 0, 1) := by decide +kernel
theorem dX0_goOn_8 : decode cX0_goOn 8 = .ok (.aload_n 1, 1) := by decide +kernel
theorem dX0_goOn_9 : decode cX0_goOn 9 = .ok (.invokevirtual 156, 3) := by decide +kernel
theorem dX0_goOn_12 : decode cX0_goOn 12 = .ok (.iinc 3 1, 3) := by decide +kernel
theorem dX0_goOn_15 : decode cX0_goOn 15 = .ok (.goto (-13), 3) := by decide +kernel
theorem dX0_goOn_18 : decode cX0_goOn 18 = .ok (.return_, 1) := by decide +kernel
theorem dX0_cried_0 : decode cX0_cried 0 = .ok (.aload_n 1, 1) := by decide +kernel
theorem dX0_cried_1 : decode cX0_cried 1 = .ok (.iconst 1, 1) := by decide +kernel
theorem dX0_cried_2 : decode cX0_cried 2 = .ok (.invokevirtual 159, 3) := by decide +kernel
theorem dX0_cried_5 : decode cX0_cried 5 = .ok (.istore_n 3, 1) := by decide +kernel
theorem dX0_cried_6 : decode cX0_cried 6 = .ok (.iconst 0, 1) := by decide +kernel
theorem dX0_cried_7 : decode cX0_cried 7 = .ok (.istore 4, 2) := by decide +kernel
theorem dX0_cried_9 : decode cX0_cried 9 = .ok (.iload 4, 2) := by decide +kernel
theorem dX0_cried_11 : decode cX0_cried 11 = .ok (.iload_n 2, 1) := by decide +kernel
theorem dX0_cried_12 : decode cX0_cried 12 = .ok (.if_icmp .ge 14, 3) := by decide +kernel
theorem dX0_cried_15 : decode cX0_cried 15 = .ok (.aload_n 0, 1) := by decide +kernel
theorem dX0_cried_16 : decode cX0_cried 16 = .ok (.aload_n 1, 1) := by decide +kernel
theorem dX0_cried_17 : decode cX0_cried 17 = .ok (.invokevirtual 156, 3) := by decide +kernel
theorem dX0_cried_20 : decode cX0_cried 20 = .ok (.iinc 4 1, 3) := by decide +kernel
theorem dX0_cried_23 : decode cX0_cried 23 = .ok (.goto (-14), 3) := by decide +kernel
theorem dX0_cried_26 : decode cX0_cried 26 = .ok (.aload_n 1, 1) := by decide +kernel
theorem dX0_cried_27 : decode cX0_cried 27 = .ok (.iconst 1, 1) := by decide +kernel
theorem dX0_cried_28 : decode cX0_cried 28 = .ok (.invokevirtual 159, 3) := by decide +kernel
theorem dX0_cried_31 : decode cX0_cried 31 = .ok (.iload_n 3, 1) := by decide +kernel
theorem dX0_cried_32 : decode cX0_cried 32 = .ok (.isub, 1) := by decide +kernel
theorem dX0_cried_33 : decode cX0_cried 33 = .ok (.ireturn, 1) := by decide +kernel
theorem dX0_keep_0 : decode cX0_keep 0 = .ok (.aload_n 1, 1) := by decide +kernel
theorem dX0_keep_1 : decode cX0_keep 1 = .ok (.getfield 81, 3) := by decide +kernel
theorem dX0_keep_4 : decode cX0_keep 4 = .ok (.iload_n 2, 1) := by decide +kernel
theorem dX0_keep_5 : decode cX0_keep 5 = .ok (.if_icmp .eq 9, 3) := by decide +kernel
theorem dX0_keep_8 : decode cX0_keep 8 = .ok (.aload_n 0, 1) := by decide +kernel
theorem dX0_keep_9 : decode cX0_keep 9 = .ok (.aload_n 1, 1) := by decide +kernel
theorem dX0_keep_10 : decode cX0_keep 10 = .ok (.iload_n 2, 1) := by decide +kernel
theorem dX0_keep_11 : decode cX0_keep 11 = .ok (.invokevirtual 163, 3) := by decide +kernel
theorem dX0_keep_14 : decode cX0_keep 14 = .ok (.iload_n 3, 1) := by decide +kernel
theorem dX0_keep_15 : decode cX0_keep 15 = .ok (.istore 4, 2) := by decide +kernel
theorem dX0_keep_17 : decode cX0_keep 17 = .ok (.iconst 0, 1) := by decide +kernel
theorem dX0_keep_18 : decode cX0_keep 18 = .ok (.istore 5, 2) := by decide +kernel
theorem dX0_keep_20 : decode cX0_keep 20 = .ok (.iload 5, 2) := by decide +kernel
theorem dX0_keep_22 : decode cX0_keep 22 = .ok (.iload_n 3, 1) := by decide +kernel
theorem dX0_keep_23 : decode cX0_keep 23 = .ok (.bipush 61, 2) := by decide +kernel
theorem dX0_keep_25 : decode cX0_keep 25 = .ok (.imul, 1) := by decide +kernel
theorem dX0_keep_26 : decode cX0_keep 26 = .ok (.if_icmp .ge 36, 3) := by decide +kernel
theorem dX0_keep_29 : decode cX0_keep 29 = .ok (.iload 4, 2) := by decide +kernel
theorem dX0_keep_31 : decode cX0_keep 31 = .ok (.ifCond .gt 10, 3) := by decide +kernel
theorem dX0_keep_34 : decode cX0_keep 34 = .ok (.aload_n 1, 1) := by decide +kernel
theorem dX0_keep_35 : decode cX0_keep 35 = .ok (.getfield 52, 3) := by decide +kernel
theorem dX0_keep_38 : decode cX0_keep 38 = .ok (.ifCond .le 24, 3) := by decide +kernel
theorem dX0_keep_41 : decode cX0_keep 41 = .ok (.aload_n 1, 1) := by decide +kernel
theorem dX0_keep_42 : decode cX0_keep 42 = .ok (.getfield 52, 3) := by decide +kernel
theorem dX0_keep_45 : decode cX0_keep 45 = .ok (.ifCond .ne 6, 3) := by decide +kernel
theorem dX0_keep_48 : decode cX0_keep 48 = .ok (.iinc 4 (-1), 3) := by decide +kernel
theorem dX0_keep_51 : decode cX0_keep 51 = .ok (.aload_n 0, 1) := by decide +kernel
theorem dX0_keep_52 : decode cX0_keep 52 = .ok (.aload_n 1, 1) := by decide +kernel
theorem dX0_keep_53 : decode cX0_keep 53 = .ok (.invokevirtual 156, 3) := by decide +kernel
theorem dX0_keep_56 : decode cX0_keep 56 = .ok (.iinc 5 1, 3) := by decide +kernel
theorem dX0_keep_59 : decode cX0_keep 59 = .ok (.goto (-39), 3) := by decide +kernel
theorem dX0_keep_62 : decode cX0_keep 62 = .ok (.return_, 1) := by decide +kernel
theorem dX0_goByRule_0 : decode cX0_goByRule 0 = .ok (.iconst 0, 1) := by decide +kernel
theorem dX0_goByRule_1 : decode cX0_goByRule 1 = .ok (.istore 5, 2) := by decide +kernel
theorem dX0_goByRule_3 : decode cX0_goByRule 3 = .ok (.iload 5, 2) := by decide +kernel
theorem dX0_goByRule_5 : decode cX0_goByRule 5 = .ok (.iload 4, 2) := by decide +kernel
theorem dX0_goByRule_7 : decode cX0_goByRule 7 = .ok (.if_icmp .ge 101, 3) := by decide +kernel
theorem dX0_goByRule_10 : decode cX0_goByRule 10 = .ok (.aload_n 1, 1) := by decide +kernel
theorem dX0_goByRule_11 : decode cX0_goByRule 11 = .ok (.getfield 52, 3) := by decide +kernel
theorem dX0_goByRule_14 : decode cX0_goByRule 14 = .ok (.ifCond .ne 83, 3) := by decide +kernel
theorem dX0_goByRule_17 : decode cX0_goByRule 17 = .ok (.aload_n 1, 1) := by decide +kernel
theorem dX0_goByRule_18 : decode cX0_goByRule 18 = .ok (.getfield 81, 3) := by decide +kernel
theorem dX0_goByRule_21 : decode cX0_goByRule 21 = .ok (.istore 6, 2) := by decide +kernel
theorem dX0_goByRule_23 : decode cX0_goByRule 23 = .ok (.iload_n 2, 1) := by decide +kernel
theorem dX0_goByRule_24 : decode cX0_goByRule 24 = .ok (.ifCond .ne 11, 3) := by decide +kernel
theorem dX0_goByRule_27 : decode cX0_goByRule 27 = .ok (.aload_n 1, 1) := by decide +kernel
theorem dX0_goByRule_28 : decode cX0_goByRule 28 = .ok (.getfield 84, 3) := by decide +kernel
theorem dX0_goByRule_31 : decode cX0_goByRule 31 = .ok (.iload_n 3, 1) := by decide +kernel
theorem dX0_goByRule_32 : decode cX0_goByRule 32 = .ok (.if_icmp .ge 16, 3) := by decide +kernel
theorem dX0_goByRule_35 : decode cX0_goByRule 35 = .ok (.iload_n 2, 1) := by decide +kernel
theorem dX0_goByRule_36 : decode cX0_goByRule 36 = .ok (.iconst 1, 1) := by decide +kernel
theorem dX0_goByRule_37 : decode cX0_goByRule 37 = .ok (.if_icmp .ne 24, 3) := by decide +kernel
theorem dX0_goByRule_40 : decode cX0_goByRule 40 = .ok (.aload_n 1, 1) := by decide +kernel
theorem dX0_goByRule_41 : decode cX0_goByRule 41 = .ok (.getfield 49, 3) := by decide +kernel
theorem dX0_goByRule_44 : decode cX0_goByRule 44 = .ok (.iload_n 3, 1) := by decide +kernel
theorem dX0_goByRule_45 : decode cX0_goByRule 45 = .ok (.if_icmp .lt 16, 3) := by decide +kernel
theorem dX0_goByRule_48 : decode cX0_goByRule 48 = .ok (.aload_n 0, 1) := by decide +kernel
theorem dX0_goByRule_49 : decode cX0_goByRule 49 = .ok (.aload_n 1, 1) := by decide +kernel
theorem dX0_goByRule_50 : decode cX0_goByRule 50 = .ok (.getfield 81, 3) := by decide +kernel
theorem dX0_goByRule_53 : decode cX0_goByRule 53 = .ok (.invokevirtual 166, 3) := by decide +kernel
theorem dX0_goByRule_56 : decode cX0_goByRule 56 = .ok (.istore 6, 2) := by decide +kernel
theorem dX0_goByRule_58 : decode cX0_goByRule 58 = .ok (.goto 23, 3) := by decide +kernel
theorem dX0_goByRule_61 : decode cX0_goByRule 61 = .ok (.iload_n 2, 1) := by decide +kernel
theorem dX0_goByRule_62 : decode cX0_goByRule 62 = .ok (.iconst 2, 1) := by decide +kernel
theorem dX0_goByRule_63 : decode cX0_goByRule 63 = .ok (.if_icmp .ne 18, 3) := by decide +kernel
theorem dX0_goByRule_66 : decode cX0_goByRule 66 = .ok (.aload_n 1, 1) := by decide +kernel
theorem dX0_goByRule_67 : decode cX0_goByRule 67 = .ok (.getfield 84, 3) := by decide +kernel
theorem dX0_goByRule_70 : decode cX0_goByRule 70 = .ok (.iload_n 3, 1) := by decide +kernel
theorem dX0_goByRule_71 : decode cX0_goByRule 71 = .ok (.if_icmp .lt 10, 3) := by decide +kernel
theorem dX0_goByRule_74 : decode cX0_goByRule 74 = .ok (.aload_n 0, 1) := by decide +kernel
theorem dX0_goByRule_75 : decode cX0_goByRule 75 = .ok (.aload_n 1, 1) := by decide +kernel
theorem dX0_goByRule_76 : decode cX0_goByRule 76 = .ok (.invokevirtual 169, 3) := by decide +kernel
theorem dX0_goByRule_79 : decode cX0_goByRule 79 = .ok (.istore 6, 2) := by decide +kernel
theorem dX0_goByRule_81 : decode cX0_goByRule 81 = .ok (.iload 6, 2) := by decide +kernel
theorem dX0_goByRule_83 : decode cX0_goByRule 83 = .ok (.aload_n 1, 1) := by decide +kernel
theorem dX0_goByRule_84 : decode cX0_goByRule 84 = .ok (.getfield 81, 3) := by decide +kernel
theorem dX0_goByRule_87 : decode cX0_goByRule 87 = .ok (.if_icmp .eq 10, 3) := by decide +kernel
theorem dX0_goByRule_90 : decode cX0_goByRule 90 = .ok (.aload_n 0, 1) := by decide +kernel
theorem dX0_goByRule_91 : decode cX0_goByRule 91 = .ok (.aload_n 1, 1) := by decide +kernel
theorem dX0_goByRule_92 : decode cX0_goByRule 92 = .ok (.iload 6, 2) := by decide +kernel
theorem dX0_goByRule_94 : decode cX0_goByRule 94 = .ok (.invokevirtual 163, 3) := by decide +kernel
theorem dX0_goByRule_97 : decode cX0_goByRule 97 = .ok (.aload_n 0, 1) := by decide +kernel
theorem dX0_goByRule_98 : decode cX0_goByRule 98 = .ok (.aload_n 1, 1) := by decide +kernel
theorem dX0_goByRule_99 : decode cX0_goByRule 99 = .ok (.invokevirtual 156, 3) := by decide +kernel
theorem dX0_goByRule_102 : decode cX0_goByRule 102 = .ok (.iinc 5 1, 3) := by decide +kernel
theorem dX0_goByRule_105 : decode cX0_goByRule 105 = .ok (.goto (-102), 3) := by decide +kernel
theorem dX0_goByRule_108 : decode cX0_goByRule 108 = .ok (.return_, 1) := by decide +kernel
theorem dX0_behind_0 : decode cX0_behind 0 = .ok (.iload_n 1, 1) := by decide +kernel
theorem dX0_behind_1 : decode cX0_behind 1 = .ok (.iconst 1, 1) := by decide +kernel
theorem dX0_behind_2 : decode cX0_behind 2 = .ok (.iadd, 1) := by decide +kernel
theorem dX0_behind_3 : decode cX0_behind 3 = .ok (.aload_n 0, 1) := by decide +kernel
theorem dX0_behind_4 : decode cX0_behind 4 = .ok (.getfield 9, 3) := by decide +kernel
theorem dX0_behind_7 : decode cX0_behind 7 = .ok (.getfield 74, 3) := by decide +kernel
theorem dX0_behind_10 : decode cX0_behind 10 = .ok (.if_icmp .ge 9, 3) := by decide +kernel
theorem dX0_behind_13 : decode cX0_behind 13 = .ok (.iload_n 1, 1) := by decide +kernel
theorem dX0_behind_14 : decode cX0_behind 14 = .ok (.iconst 1, 1) := by decide +kernel
theorem dX0_behind_15 : decode cX0_behind 15 = .ok (.iadd, 1) := by decide +kernel
theorem dX0_behind_16 : decode cX0_behind 16 = .ok (.goto 4, 3) := by decide +kernel
theorem dX0_behind_19 : decode cX0_behind 19 = .ok (.iconst 0, 1) := by decide +kernel
theorem dX0_behind_20 : decode cX0_behind 20 = .ok (.ireturn, 1) := by decide +kernel
theorem dX0_fewest_0 : decode cX0_fewest 0 = .ok (.aload_n 1, 1) := by decide +kernel
theorem dX0_fewest_1 : decode cX0_fewest 1 = .ok (.getfield 81, 3) := by decide +kernel
theorem dX0_fewest_4 : decode cX0_fewest 4 = .ok (.istore_n 2, 1) := by decide +kernel
theorem dX0_fewest_5 : decode cX0_fewest 5 = .ok (.iconst 0, 1) := by decide +kernel
theorem dX0_fewest_6 : decode cX0_fewest 6 = .ok (.istore_n 3, 1) := by decide +kernel
theorem dX0_fewest_7 : decode cX0_fewest 7 = .ok (.iload_n 3, 1) := by decide +kernel
theorem dX0_fewest_8 : decode cX0_fewest 8 = .ok (.aload_n 0, 1) := by decide +kernel
theorem dX0_fewest_9 : decode cX0_fewest 9 = .ok (.getfield 9, 3) := by decide +kernel
theorem dX0_fewest_12 : decode cX0_fewest 12 = .ok (.getfield 74, 3) := by decide +kernel
theorem dX0_fewest_15 : decode cX0_fewest 15 = .ok (.if_icmp .ge 42, 3) := by decide +kernel
theorem dX0_fewest_18 : decode cX0_fewest 18 = .ok (.iload_n 3, 1) := by decide +kernel
theorem dX0_fewest_19 : decode cX0_fewest 19 = .ok (.aload_n 1, 1) := by decide +kernel
theorem dX0_fewest_20 : decode cX0_fewest 20 = .ok (.getfield 81, 3) := by decide +kernel
theorem dX0_fewest_23 : decode cX0_fewest 23 = .ok (.if_icmp .eq 28, 3) := by decide +kernel
theorem dX0_fewest_26 : decode cX0_fewest 26 = .ok (.iload_n 2, 1) := by decide +kernel
theorem dX0_fewest_27 : decode cX0_fewest 27 = .ok (.aload_n 1, 1) := by decide +kernel
theorem dX0_fewest_28 : decode cX0_fewest 28 = .ok (.getfield 81, 3) := by decide +kernel
theorem dX0_fewest_31 : decode cX0_fewest 31 = .ok (.if_icmp .eq 18, 3) := by decide +kernel
theorem dX0_fewest_34 : decode cX0_fewest 34 = .ok (.aload_n 1, 1) := by decide +kernel
theorem dX0_fewest_35 : decode cX0_fewest 35 = .ok (.iload_n 3, 1) := by decide +kernel
theorem dX0_fewest_36 : decode cX0_fewest 36 = .ok (.iconst 0, 1) := by decide +kernel
theorem dX0_fewest_37 : decode cX0_fewest 37 = .ok (.invokevirtual 173, 3) := by decide +kernel
theorem dX0_fewest_40 : decode cX0_fewest 40 = .ok (.aload_n 1, 1) := by decide +kernel
theorem dX0_fewest_41 : decode cX0_fewest 41 = .ok (.iload_n 2, 1) := by decide +kernel
theorem dX0_fewest_42 : decode cX0_fewest 42 = .ok (.iconst 0, 1) := by decide +kernel
theorem dX0_fewest_43 : decode cX0_fewest 43 = .ok (.invokevirtual 173, 3) := by decide +kernel
theorem dX0_fewest_46 : decode cX0_fewest 46 = .ok (.if_icmp .ge 5, 3) := by decide +kernel
theorem dX0_fewest_49 : decode cX0_fewest 49 = .ok (.iload_n 3, 1) := by decide +kernel
theorem dX0_fewest_50 : decode cX0_fewest 50 = .ok (.istore_n 2, 1) := by decide +kernel
theorem dX0_fewest_51 : decode cX0_fewest 51 = .ok (.iinc 3 1, 3) := by decide +kernel
theorem dX0_fewest_54 : decode cX0_fewest 54 = .ok (.goto (-47), 3) := by decide +kernel
theorem dX0_fewest_57 : decode cX0_fewest 57 = .ok (.iload_n 2, 1) := by decide +kernel
theorem dX0_fewest_58 : decode cX0_fewest 58 = .ok (.ireturn, 1) := by decide +kernel
theorem dX1_init_0 : decode cX1_init 0 = .ok (.aload_n 0, 1) := by decide +kernel
theorem dX1_init_1 : decode cX1_init 1 = .ok (.invokespecial 3, 3) := by decide +kernel
theorem dX1_init_4 : decode cX1_init 4 = .ok (.aload_n 0, 1) := by decide +kernel
theorem dX1_init_5 : decode cX1_init 5 = .ok (.sipush 420, 3) := by decide +kernel
theorem dX1_init_8 : decode cX1_init 8 = .ok (.newarray .int, 2) := by decide +kernel
theorem dX1_init_10 : decode cX1_init 10 = .ok (.putfield 11, 3) := by decide +kernel
theorem dX1_init_13 : decode cX1_init 13 = .ok (.aload_n 0, 1) := by decide +kernel
theorem dX1_init_14 : decode cX1_init 14 = .ok (.sipush 420, 3) := by decide +kernel
theorem dX1_init_17 : decode cX1_init 17 = .ok (.newarray .int, 2) := by decide +kernel
theorem dX1_init_19 : decode cX1_init 19 = .ok (.putfield 15, 3) := by decide +kernel
theorem dX1_init_22 : decode cX1_init 22 = .ok (.aload_n 0, 1) := by decide +kernel
theorem dX1_init_23 : decode cX1_init 23 = .ok (.bipush 7, 2) := by decide +kernel
theorem dX1_init_25 : decode cX1_init 25 = .ok (.newarray .int, 2) := by decide +kernel
theorem dX1_init_27 : decode cX1_init 27 = .ok (.putfield 18, 3) := by decide +kernel
theorem dX1_init_30 : decode cX1_init 30 = .ok (.aload_n 0, 1) := by decide +kernel
theorem dX1_init_31 : decode cX1_init 31 = .ok (.bipush 7, 2) := by decide +kernel
theorem dX1_init_33 : decode cX1_init 33 = .ok (.newarray .int, 2) := by decide +kernel
theorem dX1_init_35 : decode cX1_init 35 = .ok (.putfield 21, 3) := by decide +kernel
theorem dX1_init_38 : decode cX1_init 38 = .ok (.aload_n 0, 1) := by decide +kernel
theorem dX1_init_39 : decode cX1_init 39 = .ok (.bipush 40, 2) := by decide +kernel
theorem dX1_init_41 : decode cX1_init 41 = .ok (.newarray .int, 2) := by decide +kernel
theorem dX1_init_43 : decode cX1_init 43 = .ok (.putfield 24, 3) := by decide +kernel
theorem dX1_init_46 : decode cX1_init 46 = .ok (.return_, 1) := by decide +kernel
theorem dX1_begin_0 : decode cX1_begin 0 = .ok (.aload_n 0, 1) := by decide +kernel
theorem dX1_begin_1 : decode cX1_begin 1 = .ok (.iconst 0, 1) := by decide +kernel
theorem dX1_begin_2 : decode cX1_begin 2 = .ok (.putfield 27, 3) := by decide +kernel
theorem dX1_begin_5 : decode cX1_begin 5 = .ok (.aload_n 0, 1) := by decide +kernel
theorem dX1_begin_6 : decode cX1_begin 6 = .ok (.iconst 0, 1) := by decide +kernel
theorem dX1_begin_7 : decode cX1_begin 7 = .ok (.putfield 31, 3) := by decide +kernel
theorem dX1_begin_10 : decode cX1_begin 10 = .ok (.iconst 0, 1) := by decide +kernel
theorem dX1_begin_11 : decode cX1_begin 11 = .ok (.istore_n 1, 1) := by decide +kernel
theorem dX1_begin_12 : decode cX1_begin 12 = .ok (.iload_n 1, 1) := by decide +kernel
theorem dX1_begin_13 : decode cX1_begin 13 = .ok (.bipush 7, 2) := by decide +kernel
theorem dX1_begin_15 : decode cX1_begin 15 = .ok (.if_icmp .ge 36, 3) := by decide +kernel
theorem dX1_begin_18 : decode cX1_begin 18 = .ok (.aload_n 0, 1) := by decide +kernel
theorem dX1_begin_19 : decode cX1_begin 19 = .ok (.iload_n 1, 1) := by decide +kernel
theorem dX1_begin_20 : decode cX1_begin 20 = .ok (.invokevirtual 34, 3) := by decide +kernel
theorem dX1_begin_23 : decode cX1_begin 23 = .ok (.aload_n 0, 1) := by decide +kernel
theorem dX1_begin_24 : decode cX1_begin 24 = .ok (.iload_n 1, 1) := by decide +kernel
theorem dX1_begin_25 : decode cX1_begin 25 = .ok (.ifCond .eq 8, 3) := by decide +kernel
theorem dX1_begin_28 : decode cX1_begin 28 = .ok (.iload_n 1, 1) := by decide +kernel
theorem dX1_begin_29 : decode cX1_begin 29 = .ok (.iconst 1, 1) := by decide +kernel
theorem dX1_begin_30 : decode cX1_begin 30 = .ok (.if_icmp .ne 7, 3) := by decide +kernel
theorem dX1_begin_33 : decode cX1_begin 33 = .ok (.iconst 1, 1) := by decide +kernel
theorem dX1_begin_34 : decode cX1_begin 34 = .ok (.goto 4, 3) := by decide +kernel
theorem dX1_begin_37 : decode cX1_begin 37 = .ok (.iconst 0, 1) := by decide +kernel
theorem dX1_begin_38 : decode cX1_begin 38 = .ok (.invokevirtual 38, 3) := by decide +kernel
theorem dX1_begin_41 : decode cX1_begin 41 = .ok (.aload_n 0, 1) := by decide +kernel
theorem dX1_begin_42 : decode cX1_begin 42 = .ok (.invokevirtual 41, 3) := by decide +kernel
theorem dX1_begin_45 : decode cX1_begin 45 = .ok (.iinc 1 1, 3) := by decide +kernel
theorem dX1_begin_48 : decode cX1_begin 48 = .ok (.goto (-36), 3) := by decide +kernel
theorem dX1_begin_51 : decode cX1_begin 51 = .ok (.return_, 1) := by decide +kernel
theorem dX1_beginLaw_0 : decode cX1_beginLaw 0 = .ok (.aload_n 0, 1) := by decide +kernel
theorem dX1_beginLaw_1 : decode cX1_beginLaw 1 = .ok (.getfield 18, 3) := by decide +kernel
theorem dX1_beginLaw_4 : decode cX1_beginLaw 4 = .ok (.iload_n 1, 1) := by decide +kernel
theorem dX1_beginLaw_5 : decode cX1_beginLaw 5 = .ok (.aload_n 0, 1) := by decide +kernel
theorem dX1_beginLaw_6 : decode cX1_beginLaw 6 = .ok (.getfield 31, 3) := by decide +kernel
theorem dX1_beginLaw_9 : decode cX1_beginLaw 9 = .ok (.invokestatic 44, 3) := by decide +kernel
theorem dX1_beginLaw_12 : decode cX1_beginLaw 12 = .ok (.aload_n 0, 1) := by decide +kernel
theorem dX1_beginLaw_13 : decode cX1_beginLaw 13 = .ok (.getfield 21, 3) := by decide +kernel
theorem dX1_beginLaw_16 : decode cX1_beginLaw 16 = .ok (.iload_n 1, 1) := by decide +kernel
theorem dX1_beginLaw_17 : decode cX1_beginLaw 17 = .ok (.iconst 0, 1) := by decide +kernel
theorem dX1_beginLaw_18 : decode cX1_beginLaw 18 = .ok (.invokestatic 44, 3) := by decide +kernel
theorem dX1_beginLaw_21 : decode cX1_beginLaw 21 = .ok (.return_, 1) := by decide +kernel
theorem dX1_addIf_0 : decode cX1_addIf 0 = .ok (.aload_n 0, 1) := by decide +kernel
theorem dX1_addIf_1 : decode cX1_addIf 1 = .ok (.getfield 21, 3) := by decide +kernel
theorem dX1_addIf_4 : decode cX1_addIf 4 = .ok (.iload_n 1, 1) := by decide +kernel
theorem dX1_addIf_5 : decode cX1_addIf 5 = .ok (.aload_n 0, 1) := by decide +kernel
theorem dX1_addIf_6 : decode cX1_addIf 6 = .ok (.getfield 21, 3) := by decide +kernel
theorem dX1_addIf_9 : decode cX1_addIf 9 = .ok (.iload_n 1, 1) := by decide +kernel
theorem dX1_addIf_10 : decode cX1_addIf 10 = .ok (.invokestatic 48, 3) := by decide +kernel
theorem dX1_addIf_13 : decode cX1_addIf 13 = .ok (.iconst 1, 1) := by decide +kernel
theorem dX1_addIf_14 : decode cX1_addIf 14 = .ok (.iadd, 1) := by decide +kernel
theorem dX1_addIf_15 : decode cX1_addIf 15 = .ok (.invokestatic 44, 3) := by decide +kernel
theorem dX1_addIf_18 : decode cX1_addIf 18 = .ok (.return_, 1) := by decide +kernel
theorem dX1_addStep_0 : decode cX1_addStep 0 = .ok (.aload_n 0, 1) := by decide +kernel
theorem dX1_addStep_1 : decode cX1_addStep 1 = .ok (.getfield 11, 3) := by decide +kernel
theorem dX1_addStep_4 : decode cX1_addStep 4 = .ok (.aload_n 0, 1) := by decide +kernel
theorem dX1_addStep_5 : decode cX1_addStep 5 = .ok (.getfield 27, 3) := by decide +kernel
theorem dX1_addStep_8 : decode cX1_addStep 8 = .ok (.iload_n 1, 1) := by decide +kernel
theorem dX1_addStep_9 : decode cX1_addStep 9 = .ok (.invokestatic 44, 3) := by decide +kernel
theorem dX1_addStep_12 : decode cX1_addStep 12 = .ok (.aload_n 0, 1) := by decide +kernel
theorem dX1_addStep_13 : decode cX1_addStep 13 = .ok (.dup, 1) := by decide +kernel
theorem dX1_addStep_14 : decode cX1_addStep 14 = .ok (.getfield 27, 3) := by decide +kernel
theorem dX1_addStep_17 : decode cX1_addStep 17 = .ok (.iconst 1, 1) := by decide +kernel
theorem dX1_addStep_18 : decode cX1_addStep 18 = .ok (.iadd, 1) := by decide +kernel
theorem dX1_addStep_19 : decode cX1_addStep 19 = .ok (.putfield 27, 3) := by decide +kernel
theorem dX1_addStep_22 : decode cX1_addStep 22 = .ok (.return_, 1) := by decide +kernel
theorem dX1_endPiece_0 : decode cX1_endPiece 0 = .ok (.aload_n 0, 1) := by decide +kernel
theorem dX1_endPiece_1 : decode cX1_endPiece 1 = .ok (.dup, 1) := by decide +kernel
theorem dX1_endPiece_2 : decode cX1_endPiece 2 = .ok (.getfield 31, 3) := by decide +kernel
theorem dX1_endPiece_5 : decode cX1_endPiece 5 = .ok (.iconst 1, 1) := by decide +kernel
theorem dX1_endPiece_6 : decode cX1_endPiece 6 = .ok (.iadd, 1) := by decide +kernel
theorem dX1_endPiece_7 : decode cX1_endPiece 7 = .ok (.putfield 31, 3) := by decide +kernel
theorem dX1_endPiece_10 : decode cX1_endPiece 10 = .ok (.aload_n 0, 1) := by decide +kernel
theorem dX1_endPiece_11 : decode cX1_endPiece 11 = .ok (.getfield 15, 3) := by decide +kernel
theorem dX1_endPiece_14 : decode cX1_endPiece 14 = .ok (.aload_n 0, 1) := by decide +kernel
theorem dX1_endPiece_15 : decode cX1_endPiece 15 = .ok (.getfield 31, 3) := by decide +kernel
theorem dX1_endPiece_18 : decode cX1_endPiece 18 = .ok (.aload_n 0, 1) := by decide +kernel
theorem dX1_endPiece_19 : decode cX1_endPiece 19 = .ok (.getfield 27, 3) := by decide +kernel
theorem dX1_endPiece_22 : decode cX1_endPiece 22 = .ok (.invokestatic 44, 3) := by decide +kernel
theorem dX1_endPiece_25 : decode cX1_endPiece 25 = .ok (.return_, 1) := by decide +kernel
theorem dX1_takeFrom_0 : decode cX1_takeFrom 0 = .ok (.aload_n 1, 1) := by decide +kernel
theorem dX1_takeFrom_1 : decode cX1_takeFrom 1 = .ok (.getfield 11, 3) := by decide +kernel
theorem dX1_takeFrom_4 : decode cX1_takeFrom 4 = .ok (.aload_n 0, 1) := by decide +kernel
theorem dX1_takeFrom_5 : decode cX1_takeFrom 5 = .ok (.getfield 11, 3) := by decide +kernel
theorem dX1_takeFrom_8 : decode cX1_takeFrom 8 = .ok (.invokestatic 52, 3) := by decide +kernel
theorem dX1_takeFrom_11 : decode cX1_takeFrom 11 = .ok (.aload_n 0, 1) := by decide +kernel
theorem dX1_takeFrom_12 : decode cX1_takeFrom 12 = .ok (.aload_n 1, 1) := by decide +kernel
theorem dX1_takeFrom_13 : decode cX1_takeFrom 13 = .ok (.getfield 27, 3) := by decide +kernel
theorem dX1_takeFrom_16 : decode cX1_takeFrom 16 = .ok (.putfield 27, 3) := by decide +kernel
theorem dX1_takeFrom_19 : decode cX1_takeFrom 19 = .ok (.aload_n 1, 1) := by decide +kernel
theorem dX1_takeFrom_20 : decode cX1_takeFrom 20 = .ok (.getfield 15, 3) := by decide +kernel
theorem dX1_takeFrom_23 : decode cX1_takeFrom 23 = .ok (.aload_n 0, 1) := by decide +kernel
theorem dX1_takeFrom_24 : decode cX1_takeFrom 24 = .ok (.getfield 15, 3) := by decide +kernel
theorem dX1_takeFrom_27 : decode cX1_takeFrom 27 = .ok (.invokestatic 52, 3) := by decide +kernel
theorem dX1_takeFrom_30 : decode cX1_takeFrom 30 = .ok (.aload_n 0, 1) := by decide +kernel
theorem dX1_takeFrom_31 : decode cX1_takeFrom 31 = .ok (.aload_n 1, 1) := by decide +kernel
theorem dX1_takeFrom_32 : decode cX1_takeFrom 32 = .ok (.getfield 31, 3) := by decide +kernel
theorem dX1_takeFrom_35 : decode cX1_takeFrom 35 = .ok (.putfield 31, 3) := by decide +kernel
theorem dX1_takeFrom_38 : decode cX1_takeFrom 38 = .ok (.aload_n 1, 1) := by decide +kernel
theorem dX1_takeFrom_39 : decode cX1_takeFrom 39 = .ok (.getfield 18, 3) := by decide +kernel
theorem dX1_takeFrom_42 : decode cX1_takeFrom 42 = .ok (.aload_n 0, 1) := by decide +kernel
theorem dX1_takeFrom_43 : decode cX1_takeFrom 43 = .ok (.getfield 18, 3) := by decide +kernel
theorem dX1_takeFrom_46 : decode cX1_takeFrom 46 = .ok (.invokestatic 52, 3) := by decide +kernel
theorem dX1_takeFrom_49 : decode cX1_takeFrom 49 = .ok (.aload_n 1, 1) := by decide +kernel
theorem dX1_takeFrom_50 : decode cX1_takeFrom 50 = .ok (.getfield 21, 3) := by decide +kernel
theorem dX1_takeFrom_53 : decode cX1_takeFrom 53 = .ok (.aload_n 0, 1) := by decide +kernel
theorem dX1_takeFrom_54 : decode cX1_takeFrom 54 = .ok (.getfield 21, 3) := by decide +kernel
theorem dX1_takeFrom_57 : decode cX1_takeFrom 57 = .ok (.invokestatic 52, 3) := by decide +kernel
theorem dX1_takeFrom_60 : decode cX1_takeFrom 60 = .ok (.return_, 1) := by decide +kernel
theorem dX1_tells_0 : decode cX1_tells 0 = .ok (.aload_n 0, 1) := by decide +kernel
theorem dX1_tells_1 : decode cX1_tells 1 = .ok (.iconst 0, 1) := by decide +kernel
theorem dX1_tells_2 : decode cX1_tells 2 = .ok (.putfield 56, 3) := by decide +kernel
theorem dX1_tells_5 : decode cX1_tells 5 = .ok (.aload_n 0, 1) := by decide +kernel
theorem dX1_tells_6 : decode cX1_tells 6 = .ok (.getfield 18, 3) := by decide +kernel
theorem dX1_tells_9 : decode cX1_tells 9 = .ok (.iload_n 1, 1) := by decide +kernel
theorem dX1_tells_10 : decode cX1_tells 10 = .ok (.invokestatic 48, 3) := by decide +kernel
theorem dX1_tells_13 : decode cX1_tells 13 = .ok (.istore_n 3, 1) := by decide +kernel
theorem dX1_tells_14 : decode cX1_tells 14 = .ok (.iload_n 3, 1) := by decide +kernel
theorem dX1_tells_15 : decode cX1_tells 15 = .ok (.iconst 3, 1) := by decide +kernel
theorem dX1_tells_16 : decode cX1_tells 16 = .ok (.aload_n 0, 1) := by decide +kernel
theorem dX1_tells_17 : decode cX1_tells 17 = .ok (.getfield 21, 3) := by decide +kernel
theorem dX1_tells_20 : decode cX1_tells 20 = .ok (.iload_n 1, 1) := by decide +kernel
theorem dX1_tells_21 : decode cX1_tells 21 = .ok (.invokestatic 48, 3) := by decide +kernel
theorem dX1_tells_24 : decode cX1_tells 24 = .ok (.imul, 1) := by decide +kernel
theorem dX1_tells_25 : decode cX1_tells 25 = .ok (.iadd, 1) := by decide +kernel
theorem dX1_tells_26 : decode cX1_tells 26 = .ok (.istore 4, 2) := by decide +kernel
theorem dX1_tells_28 : decode cX1_tells 28 = .ok (.iconst 0, 1) := by decide +kernel
theorem dX1_tells_29 : decode cX1_tells 29 = .ok (.istore 5, 2) := by decide +kernel
theorem dX1_tells_31 : decode cX1_tells 31 = .ok (.iconst 0, 1) := by decide +kernel
theorem dX1_tells_32 : decode cX1_tells 32 = .ok (.istore 6, 2) := by decide +kernel
theorem dX1_tells_34 : decode cX1_tells 34 = .ok (.iload_n 3, 1) := by decide +kernel
theorem dX1_tells_35 : decode cX1_tells 35 = .ok (.iload 4, 2) := by decide +kernel
theorem dX1_tells_37 : decode cX1_tells 37 = .ok (.if_icmp .ge 77, 3) := by decide +kernel
theorem dX1_tells_40 : decode cX1_tells 40 = .ok (.iload 6, 2) := by decide +kernel
theorem dX1_tells_42 : decode cX1_tells 42 = .ok (.ifCond .ne 72, 3) := by decide +kernel
theorem dX1_tells_45 : decode cX1_tells 45 = .ok (.aload_n 0, 1) := by decide +kernel
theorem dX1_tells_46 : decode cX1_tells 46 = .ok (.getfield 56, 3) := by decide +kernel
theorem dX1_tells_49 : decode cX1_tells 49 = .ok (.ifCond .ne 65, 3) := by decide +kernel
theorem dX1_tells_52 : decode cX1_tells 52 = .ok (.aload_n 0, 1) := by decide +kernel
theorem dX1_tells_53 : decode cX1_tells 53 = .ok (.iload_n 3, 1) := by decide +kernel
theorem dX1_tells_54 : decode cX1_tells 54 = .ok (.aload_n 2, 1) := by decide +kernel
theorem dX1_tells_55 : decode cX1_tells 55 = .ok (.invokevirtual 60, 3) := by decide +kernel
theorem dX1_tells_58 : decode cX1_tells 58 = .ok (.istore 7, 2) := by decide +kernel
theorem dX1_tells_60 : decode cX1_tells 60 = .ok (.aload_n 0, 1) := by decide +kernel
theorem dX1_tells_61 : decode cX1_tells 61 = .ok (.getfield 56, 3) := by decide +kernel
theorem dX1_tells_64 : decode cX1_tells 64 = .ok (.ifCond .eq 7, 3) := by decide +kernel
theorem dX1_tells_67 : decode cX1_tells 67 = .ok (.iconst 0, 1) := by decide +kernel
theorem dX1_tells_68 : decode cX1_tells 68 = .ok (.goto 11, 3) := by decide +kernel
theorem dX1_tells_71 : decode cX1_tells 71 = .ok (.aload_n 0, 1) := by decide +kernel
theorem dX1_tells_72 : decode cX1_tells 72 = .ok (.iload_n 3, 1) := by decide +kernel
theorem dX1_tells_73 : decode cX1_tells 73 = .ok (.iconst 1, 1) := by decide +kernel
theorem dX1_tells_74 : decode cX1_tells 74 = .ok (.iadd, 1) := by decide +kernel
theorem dX1_tells_75 : decode cX1_tells 75 = .ok (.aload_n 2, 1) := by decide +kernel
theorem dX1_tells_76 : decode cX1_tells 76 = .ok (.invokevirtual 60, 3) := by decide +kernel
theorem dX1_tells_79 : decode cX1_tells 79 = .ok (.istore 8, 2) := by decide +kernel
theorem dX1_tells_81 : decode cX1_tells 81 = .ok (.aload_n 0, 1) := by decide +kernel
theorem dX1_tells_82 : decode cX1_tells 82 = .ok (.getfield 56, 3) := by decide +kernel
theorem dX1_tells_85 : decode cX1_tells 85 = .ok (.ifCond .ne 23, 3) := by decide +kernel
theorem dX1_tells_88 : decode cX1_tells 88 = .ok (.iload 7, 2) := by decide +kernel
theorem dX1_tells_90 : decode cX1_tells 90 = .ok (.iload 8, 2) := by decide +kernel
theorem dX1_tells_92 : decode cX1_tells 92 = .ok (.if_icmp .ge 16, 3) := by decide +kernel
theorem dX1_tells_95 : decode cX1_tells 95 = .ok (.aload_n 0, 1) := by decide +kernel
theorem dX1_tells_96 : decode cX1_tells 96 = .ok (.iload_n 3, 1) := by decide +kernel
theorem dX1_tells_97 : decode cX1_tells 97 = .ok (.iconst 2, 1) := by decide +kernel
theorem dX1_tells_98 : decode cX1_tells 98 = .ok (.iadd, 1) := by decide +kernel
theorem dX1_tells_99 : decode cX1_tells 99 = .ok (.aload_n 2, 1) := by decide +kernel
theorem dX1_tells_100 : decode cX1_tells 100 = .ok (.invokevirtual 60, 3) := by decide +kernel
theorem dX1_tells_103 : decode cX1_tells 103 = .ok (.istore 5, 2) := by decide +kernel
theorem dX1_tells_105 : decode cX1_tells 105 = .ok (.iconst 1, 1) := by decide +kernel
theorem dX1_tells_106 : decode cX1_tells 106 = .ok (.istore 6, 2) := by decide +kernel
theorem dX1_tells_108 : decode cX1_tells 108 = .ok (.iinc 3 3, 3) := by decide +kernel
theorem dX1_tells_111 : decode cX1_tells 111 = .ok (.goto (-77), 3) := by decide +kernel
theorem dX1_tells_114 : decode cX1_tells 114 = .ok (.iload 6, 2) := by decide +kernel
theorem dX1_tells_116 : decode cX1_tells 116 = .ok (.ifCond .ne 19, 3) := by decide +kernel
theorem dX1_tells_119 : decode cX1_tells 119 = .ok (.aload_n 0, 1) := by decide +kernel
theorem dX1_tells_120 : decode cX1_tells 120 = .ok (.getfield 56, 3) := by decide +kernel
theorem dX1_tells_123 : decode cX1_tells 123 = .ok (.ifCond .ne 12, 3) := by decide +kernel
theorem dX1_tells_126 : decode cX1_tells 126 = .ok (.aload_n 0, 1) := by decide +kernel
theorem dX1_tells_127 : decode cX1_tells 127 = .ok (.iload 4, 2) := by decide +kernel
theorem dX1_tells_129 : decode cX1_tells 129 = .ok (.aload_n 2, 1) := by decide +kernel
theorem dX1_tells_130 : decode cX1_tells 130 = .ok (.invokevirtual 60, 3) := by decide +kernel
theorem dX1_tells_133 : decode cX1_tells 133 = .ok (.istore 5, 2) := by decide +kernel
theorem dX1_tells_135 : decode cX1_tells 135 = .ok (.aload_n 0, 1) := by decide +kernel
theorem dX1_tells_136 : decode cX1_tells 136 = .ok (.getfield 56, 3) := by decide +kernel
theorem dX1_tells_139 : decode cX1_tells 139 = .ok (.ifCond .eq 7, 3) := by decide +kernel
theorem dX1_tells_142 : decode cX1_tells 142 = .ok (.iconst 0, 1) := by decide +kernel
theorem dX1_tells_143 : decode cX1_tells 143 = .ok (.goto 5, 3) := by decide +kernel
theorem dX1_tells_146 : decode cX1_tells 146 = .ok (.iload 5, 2) := by decide +kernel
theorem dX1_tells_148 : decode cX1_tells 148 = .ok (.getstatic 64, 3) := by decide +kernel
theorem dX1_tells_151 : decode cX1_tells 151 = .ok (.iload_n 1, 1) := by decide +kernel
theorem dX1_tells_152 : decode cX1_tells 152 = .ok (.invokestatic 48, 3) := by decide +kernel
theorem dX1_tells_155 : decode cX1_tells 155 = .ok (.getstatic 67, 3) := by decide +kernel
theorem dX1_tells_158 : decode cX1_tells 158 = .ok (.iload_n 1, 1) := by decide +kernel
theorem dX1_tells_159 : decode cX1_tells 159 = .ok (.invokestatic 48, 3) := by decide +kernel
theorem dX1_tells_162 : decode cX1_tells 162 = .ok (.invokestatic 70, 3) := by decide +kernel
theorem dX1_tells_165 : decode cX1_tells 165 = .ok (.ireturn, 1) := by decide +kernel
theorem dX1_value_0 : decode cX1_value 0 = .ok (.aload_n 0, 1) := by decide +kernel
theorem dX1_value_1 : decode cX1_value 1 = .ok (.getfield 15, 3) := by decide +kernel
theorem dX1_value_4 : decode cX1_value 4 = .ok (.iload_n 1, 1) := by decide +kernel
theorem dX1_value_5 : decode cX1_value 5 = .ok (.iconst 1, 1) := by decide +kernel
theorem dX1_value_6 : decode cX1_value 6 = .ok (.iadd, 1) := by decide +kernel
theorem dX1_value_7 : decode cX1_value 7 = .ok (.invokestatic 48, 3) := by decide +kernel
theorem dX1_value_10 : decode cX1_value 10 = .ok (.istore_n 3, 1) := by decide +kernel
theorem dX1_value_11 : decode cX1_value 11 = .ok (.iconst 0, 1) := by decide +kernel
theorem dX1_value_12 : decode cX1_value 12 = .ok (.istore 4, 2) := by decide +kernel
theorem dX1_value_14 : decode cX1_value 14 = .ok (.aload_n 0, 1) := by decide +kernel
theorem dX1_value_15 : decode cX1_value 15 = .ok (.getfield 15, 3) := by decide +kernel
theorem dX1_value_18 : decode cX1_value 18 = .ok (.iload_n 1, 1) := by decide +kernel
theorem dX1_value_19 : decode cX1_value 19 = .ok (.invokestatic 48, 3) := by decide +kernel
theorem dX1_value_22 : decode cX1_value 22 = .ok (.istore 5, 2) := by decide +kernel
theorem dX1_value_24 : decode cX1_value 24 = .ok (.iload 5, 2) := by decide +kernel
theorem dX1_value_26 : decode cX1_value 26 = .ok (.ifCond .lt 124, 3) := by decide +kernel
theorem dX1_value_29 : decode cX1_value 29 = .ok (.iload 5, 2) := by decide +kernel
theorem dX1_value_31 : decode cX1_value 31 = .ok (.iload_n 3, 1) := by decide +kernel
theorem dX1_value_32 : decode cX1_value 32 = .ok (.if_icmp .ge 118, 3) := by decide +kernel
theorem dX1_value_35 : decode cX1_value 35 = .ok (.iload 5, 2) := by decide +kernel
theorem dX1_value_37 : decode cX1_value 37 = .ok (.aload_n 0, 1) := by decide +kernel
theorem dX1_value_38 : decode cX1_value 38 = .ok (.getfield 11, 3) := by decide +kernel
theorem dX1_value_41 : decode cX1_value 41 = .ok (.arraylength, 1) := by decide +kernel
theorem dX1_value_42 : decode cX1_value 42 = .ok (.if_icmp .ge 108, 3) := by decide +kernel
theorem dX1_value_45 : decode cX1_value 45 = .ok (.aload_n 0, 1) := by decide +kernel
theorem dX1_value_46 : decode cX1_value 46 = .ok (.getfield 11, 3) := by decide +kernel
theorem dX1_value_49 : decode cX1_value 49 = .ok (.iload 5, 2) := by decide +kernel
theorem dX1_value_51 : decode cX1_value 51 = .ok (.iaload, 1) := by decide +kernel
theorem dX1_value_52 : decode cX1_value 52 = .ok (.istore 6, 2) := by decide +kernel
theorem dX1_value_54 : decode cX1_value 54 = .ok (.iload 6, 2) := by decide +kernel
theorem dX1_value_56 : decode cX1_value 56 = .ok (.sipush 20000, 3) := by decide +kernel
theorem dX1_value_59 : decode cX1_value 59 = .ok (.if_icmp .ge 41, 3) := by decide +kernel
theorem dX1_value_62 : decode cX1_value 62 = .ok (.aload_n 0, 1) := by decide +kernel
theorem dX1_value_63 : decode cX1_value 63 = .ok (.getfield 24, 3) := by decide +kernel
theorem dX1_value_66 : decode cX1_value 66 = .ok (.iload 4, 2) := by decide +kernel
theorem dX1_value_68 : decode cX1_value 68 = .ok (.iload 6, 2) := by decide +kernel
theorem dX1_value_70 : decode cX1_value 70 = .ok (.sipush 10000, 3) := by decide +kernel
theorem dX1_value_73 : decode cX1_value 73 = .ok (.if_icmp .ge 8, 3) := by decide +kernel
theorem dX1_value_76 : decode cX1_value 76 = .ok (.iload 6, 2) := by decide +kernel
theorem dX1_value_78 : decode cX1_value 78 = .ok (.goto 13, 3) := by decide +kernel
theorem dX1_value_81 : decode cX1_value 81 = .ok (.aload_n 2, 1) := by decide +kernel
theorem dX1_value_82 : decode cX1_value 82 = .ok (.iload 6, 2) := by decide +kernel
theorem dX1_value_84 : decode cX1_value 84 = .ok (.sipush 10000, 3) := by decide +kernel
theorem dX1_value_87 : decode cX1_value 87 = .ok (.isub, 1) := by decide +kernel
theorem dX1_value_88 : decode cX1_value 88 = .ok (.invokevirtual 74, 3) := by decide +kernel
theorem dX1_value_91 : decode cX1_value 91 = .ok (.invokestatic 44, 3) := by decide +kernel
theorem dX1_value_94 : decode cX1_value 94 = .ok (.iinc 4 1, 3) := by decide +kernel
theorem dX1_value_97 : decode cX1_value 97 = .ok (.goto 47, 3) := by decide +kernel
theorem dX1_value_100 : decode cX1_value 100 = .ok (.iinc 4 (-1), 3) := by decide +kernel
theorem dX1_value_103 : decode cX1_value 103 = .ok (.aload_n 0, 1) := by decide +kernel
theorem dX1_value_104 : decode cX1_value 104 = .ok (.getfield 24, 3) := by decide +kernel
theorem dX1_value_107 : decode cX1_value 107 = .ok (.iload 4, 2) := by decide +kernel
theorem dX1_value_109 : decode cX1_value 109 = .ok (.iconst 1, 1) := by decide +kernel
theorem dX1_value_110 : decode cX1_value 110 = .ok (.isub, 1) := by decide +kernel
theorem dX1_value_111 : decode cX1_value 111 = .ok (.aload_n 0, 1) := by decide +kernel
theorem dX1_value_112 : decode cX1_value 112 = .ok (.iload 6, 2) := by decide +kernel
theorem dX1_value_114 : decode cX1_value 114 = .ok (.sipush 20000, 3) := by decide +kernel
theorem dX1_value_117 : decode cX1_value 117 = .ok (.isub, 1) := by decide +kernel
theorem dX1_value_118 : decode cX1_value 118 = .ok (.aload_n 0, 1) := by decide +kernel
theorem dX1_value_119 : decode cX1_value 119 = .ok (.getfield 24, 3) := by decide +kernel
theorem dX1_value_122 : decode cX1_value 122 = .ok (.iload 4, 2) := by decide +kernel
theorem dX1_value_124 : decode cX1_value 124 = .ok (.iconst 1, 1) := by decide +kernel
theorem dX1_value_125 : decode cX1_value 125 = .ok (.isub, 1) := by decide +kernel
theorem dX1_value_126 : decode cX1_value 126 = .ok (.invokestatic 48, 3) := by decide +kernel
theorem dX1_value_129 : decode cX1_value 129 = .ok (.aload_n 0, 1) := by decide +kernel
theorem dX1_value_130 : decode cX1_value 130 = .ok (.getfield 24, 3) := by decide +kernel
theorem dX1_value_133 : decode cX1_value 133 = .ok (.iload 4, 2) := by decide +kernel
theorem dX1_value_135 : decode cX1_value 135 = .ok (.invokestatic 48, 3) := by decide +kernel
theorem dX1_value_138 : decode cX1_value 138 = .ok (.invokevirtual 80, 3) := by decide +kernel
theorem dX1_value_141 : decode cX1_value 141 = .ok (.invokestatic 44, 3) := by decide +kernel
theorem dX1_value_144 : decode cX1_value 144 = .ok (.iinc 5 1, 3) := by decide +kernel
theorem dX1_value_147 : decode cX1_value 147 = .ok (.goto (-123), 3) := by decide +kernel
theorem dX1_value_150 : decode cX1_value 150 = .ok (.aload_n 0, 1) := by decide +kernel
theorem dX1_value_151 : decode cX1_value 151 = .ok (.getfield 24, 3) := by decide +kernel
theorem dX1_value_154 : decode cX1_value 154 = .ok (.iconst 0, 1) := by decide +kernel
theorem dX1_value_155 : decode cX1_value 155 = .ok (.invokestatic 48, 3) := by decide +kernel
theorem dX1_value_158 : decode cX1_value 158 = .ok (.ireturn, 1) := by decide +kernel
theorem dX1_join_0 : decode cX1_join 0 = .ok (.iload_n 1, 1) := by decide +kernel
theorem dX1_join_1 : decode cX1_join 1 = .ok (.tableswitch 43 42 45 #[39, 31, 43, 35], 31) := by decide +kernel
theorem dX1_join_32 : decode cX1_join 32 = .ok (.iload_n 2, 1) := by decide +kernel
theorem dX1_join_33 : decode cX1_join 33 = .ok (.iload_n 3, 1) := by decide +kernel
theorem dX1_join_34 : decode cX1_join 34 = .ok (.iadd, 1) := by decide +kernel
theorem dX1_join_35 : decode cX1_join 35 = .ok (.ireturn, 1) := by decide +kernel
theorem dX1_join_36 : decode cX1_join 36 = .ok (.iload_n 2, 1) := by decide +kernel
theorem dX1_join_37 : decode cX1_join 37 = .ok (.iload_n 3, 1) := by decide +kernel
theorem dX1_join_38 : decode cX1_join 38 = .ok (.isub, 1) := by decide +kernel
theorem dX1_join_39 : decode cX1_join 39 = .ok (.ireturn, 1) := by decide +kernel
theorem dX1_join_40 : decode cX1_join 40 = .ok (.iload_n 2, 1) := by decide +kernel
theorem dX1_join_41 : decode cX1_join 41 = .ok (.iload_n 3, 1) := by decide +kernel
theorem dX1_join_42 : decode cX1_join 42 = .ok (.imul, 1) := by decide +kernel
theorem dX1_join_43 : decode cX1_join 43 = .ok (.ireturn, 1) := by decide +kernel
theorem dX1_join_44 : decode cX1_join 44 = .ok (.iload_n 3, 1) := by decide +kernel
theorem dX1_join_45 : decode cX1_join 45 = .ok (.ifCond .ne 10, 3) := by decide +kernel
theorem dX1_join_48 : decode cX1_join 48 = .ok (.aload_n 0, 1) := by decide +kernel
theorem dX1_join_49 : decode cX1_join 49 = .ok (.iconst 1, 1) := by decide +kernel
theorem dX1_join_50 : decode cX1_join 50 = .ok (.putfield 56, 3) := by decide +kernel
theorem dX1_join_53 : decode cX1_join 53 = .ok (.iconst 0, 1) := by decide +kernel
theorem dX1_join_54 : decode cX1_join 54 = .ok (.ireturn, 1) := by decide +kernel
theorem dX1_join_55 : decode cX1_join 55 = .ok (.iload_n 2, 1) := by decide +kernel
theorem dX1_join_56 : decode cX1_join 56 = .ok (.iload_n 3, 1) := by decide +kernel
theorem dX1_join_57 : decode cX1_join 57 = .ok (.idiv, 1) := by decide +kernel
theorem dX1_join_58 : decode cX1_join 58 = .ok (.ireturn, 1) := by decide +kernel
theorem dX2_init_0 : decode cX2_init 0 = .ok (.aload_n 0, 1) := by decide +kernel
theorem dX2_init_1 : decode cX2_init 1 = .ok (.invokespecial 1, 3) := by decide +kernel
theorem dX2_init_4 : decode cX2_init 4 = .ok (.return_, 1) := by decide +kernel
theorem dX2_begin_0 : decode cX2_begin 0 = .ok (.aload_n 0, 1) := by decide +kernel
theorem dX2_begin_1 : decode cX2_begin 1 = .ok (.iconst 0, 1) := by decide +kernel
theorem dX2_begin_2 : decode cX2_begin 2 = .ok (.putfield 7, 3) := by decide +kernel
theorem dX2_begin_5 : decode cX2_begin 5 = .ok (.aload_n 0, 1) := by decide +kernel
theorem dX2_begin_6 : decode cX2_begin 6 = .ok (.iconst 0, 1) := by decide +kernel
theorem dX2_begin_7 : decode cX2_begin 7 = .ok (.putfield 13, 3) := by decide +kernel
theorem dX2_begin_10 : decode cX2_begin 10 = .ok (.aload_n 0, 1) := by decide +kernel
theorem dX2_begin_11 : decode cX2_begin 11 = .ok (.iconst 0, 1) := by decide +kernel
theorem dX2_begin_12 : decode cX2_begin 12 = .ok (.putfield 17, 3) := by decide +kernel
theorem dX2_begin_15 : decode cX2_begin 15 = .ok (.return_, 1) := by decide +kernel
theorem dX2_offer_0 : decode cX2_offer 0 = .ok (.aload_n 0, 1) := by decide +kernel
theorem dX2_offer_1 : decode cX2_offer 1 = .ok (.getfield 7, 3) := by decide +kernel
theorem dX2_offer_4 : decode cX2_offer 4 = .ok (.ifCond .eq 11, 3) := by decide +kernel
theorem dX2_offer_7 : decode cX2_offer 7 = .ok (.iload_n 2, 1) := by decide +kernel
theorem dX2_offer_8 : decode cX2_offer 8 = .ok (.aload_n 0, 1) := by decide +kernel
theorem dX2_offer_9 : decode cX2_offer 9 = .ok (.getfield 17, 3) := by decide +kernel
theorem dX2_offer_12 : decode cX2_offer 12 = .ok (.if_icmp .ge 18, 3) := by decide +kernel
theorem dX2_offer_15 : decode cX2_offer 15 = .ok (.aload_n 0, 1) := by decide +kernel
theorem dX2_offer_16 : decode cX2_offer 16 = .ok (.iconst 1, 1) := by decide +kernel
theorem dX2_offer_17 : decode cX2_offer 17 = .ok (.putfield 7, 3) := by decide +kernel
theorem dX2_offer_20 : decode cX2_offer 20 = .ok (.aload_n 0, 1) := by decide +kernel
theorem dX2_offer_21 : decode cX2_offer 21 = .ok (.iload_n 1, 1) := by decide +kernel
theorem dX2_offer_22 : decode cX2_offer 22 = .ok (.putfield 13, 3) := by decide +kernel
theorem dX2_offer_25 : decode cX2_offer 25 = .ok (.aload_n 0, 1) := by decide +kernel
theorem dX2_offer_26 : decode cX2_offer 26 = .ok (.iload_n 2, 1) := by decide +kernel
theorem dX2_offer_27 : decode cX2_offer 27 = .ok (.putfield 17, 3) := by decide +kernel
theorem dX2_offer_30 : decode cX2_offer 30 = .ok (.return_, 1) := by decide +kernel
theorem dX2_pick_0 : decode cX2_pick 0 = .ok (.iload_n 1, 1) := by decide +kernel
theorem dX2_pick_1 : decode cX2_pick 1 = .ok (.ifCond .ne 10, 3) := by decide +kernel
theorem dX2_pick_4 : decode cX2_pick 4 = .ok (.aload_n 0, 1) := by decide +kernel
theorem dX2_pick_5 : decode cX2_pick 5 = .ok (.getfield 13, 3) := by decide +kernel
theorem dX2_pick_8 : decode cX2_pick 8 = .ok (.goto 7, 3) := by decide +kernel
theorem dX2_pick_11 : decode cX2_pick 11 = .ok (.aload_n 0, 1) := by decide +kernel
theorem dX2_pick_12 : decode cX2_pick 12 = .ok (.getfield 17, 3) := by decide +kernel
theorem dX2_pick_15 : decode cX2_pick 15 = .ok (.ireturn, 1) := by decide +kernel
theorem dX3_init_0 : decode cX3_init 0 = .ok (.aload_n 0, 1) := by decide +kernel
theorem dX3_init_1 : decode cX3_init 1 = .ok (.invokespecial 3, 3) := by decide +kernel
theorem dX3_init_4 : decode cX3_init 4 = .ok (.aload_n 0, 1) := by decide +kernel
theorem dX3_init_5 : decode cX3_init 5 = .ok (.bipush 7, 2) := by decide +kernel
theorem dX3_init_7 : decode cX3_init 7 = .ok (.anewarray 9, 3) := by decide +kernel
theorem dX3_init_10 : decode cX3_init 10 = .ok (.putfield 11, 3) := by decide +kernel
theorem dX3_init_13 : decode cX3_init 13 = .ok (.aload_n 0, 1) := by decide +kernel
theorem dX3_init_14 : decode cX3_init 14 = .ok (.bipush 7, 2) := by decide +kernel
theorem dX3_init_16 : decode cX3_init 16 = .ok (.newarray .int, 2) := by decide +kernel
theorem dX3_init_18 : decode cX3_init 18 = .ok (.putfield 17, 3) := by decide +kernel
theorem dX3_init_21 : decode cX3_init 21 = .ok (.aload_n 0, 1) := by decide +kernel
theorem dX3_init_22 : decode cX3_init 22 = .ok (.new 9, 3) := by decide +kernel
theorem dX3_init_25 : decode cX3_init 25 = .ok (.dup, 1) := by decide +kernel
theorem dX3_init_26 : decode cX3_init 26 = .ok (.invokespecial 21, 3) := by decide +kernel
theorem dX3_init_29 : decode cX3_init 29 = .ok (.putfield 22, 3) := by decide +kernel
theorem dX3_init_32 : decode cX3_init 32 = .ok (.aload_n 0, 1) := by decide +kernel
theorem dX3_init_33 : decode cX3_init 33 = .ok (.bipush 6, 2) := by decide +kernel
theorem dX3_init_35 : decode cX3_init 35 = .ok (.newarray .int, 2) := by decide +kernel
theorem dX3_init_37 : decode cX3_init 37 = .ok (.putfield 26, 3) := by decide +kernel
theorem dX3_init_40 : decode cX3_init 40 = .ok (.aload_n 0, 1) := by decide +kernel
theorem dX3_init_41 : decode cX3_init 41 = .ok (.bipush 6, 2) := by decide +kernel
theorem dX3_init_43 : decode cX3_init 43 = .ok (.newarray .int, 2) := by decide +kernel
theorem dX3_init_45 : decode cX3_init 45 = .ok (.putfield 29, 3) := by decide +kernel
theorem dX3_init_48 : decode cX3_init 48 = .ok (.aload_n 0, 1) := by decide +kernel
theorem dX3_init_49 : decode cX3_init 49 = .ok (.bipush 6, 2) := by decide +kernel
theorem dX3_init_51 : decode cX3_init 51 = .ok (.newarray .int, 2) := by decide +kernel
theorem dX3_init_53 : decode cX3_init 53 = .ok (.putfield 32, 3) := by decide +kernel
theorem dX3_init_56 : decode cX3_init 56 = .ok (.aload_n 0, 1) := by decide +kernel
theorem dX3_init_57 : decode cX3_init 57 = .ok (.new 35, 3) := by decide +kernel
theorem dX3_init_60 : decode cX3_init 60 = .ok (.dup, 1) := by decide +kernel
theorem dX3_init_61 : decode cX3_init 61 = .ok (.invokespecial 37, 3) := by decide +kernel
theorem dX3_init_64 : decode cX3_init 64 = .ok (.putfield 38, 3) := by decide +kernel
theorem dX3_init_67 : decode cX3_init 67 = .ok (.aload_n 0, 1) := by decide +kernel
theorem dX3_init_68 : decode cX3_init 68 = .ok (.new 35, 3) := by decide +kernel
theorem dX3_init_71 : decode cX3_init 71 = .ok (.dup, 1) := by decide +kernel
theorem dX3_init_72 : decode cX3_init 72 = .ok (.invokespecial 37, 3) := by decide +kernel
theorem dX3_init_75 : decode cX3_init 75 = .ok (.putfield 42, 3) := by decide +kernel
theorem dX3_init_78 : decode cX3_init 78 = .ok (.aload_n 0, 1) := by decide +kernel
theorem dX3_init_79 : decode cX3_init 79 = .ok (.aload_n 1, 1) := by decide +kernel
theorem dX3_init_80 : decode cX3_init 80 = .ok (.putfield 45, 3) := by decide +kernel
theorem dX3_init_83 : decode cX3_init 83 = .ok (.iconst 0, 1) := by decide +kernel
theorem dX3_init_84 : decode cX3_init 84 = .ok (.istore_n 2, 1) := by decide +kernel
theorem dX3_init_85 : decode cX3_init 85 = .ok (.iload_n 2, 1) := by decide +kernel
theorem dX3_init_86 : decode cX3_init 86 = .ok (.aload_n 0, 1) := by decide +kernel
theorem dX3_init_87 : decode cX3_init 87 = .ok (.getfield 11, 3) := by decide +kernel
theorem dX3_init_90 : decode cX3_init 90 = .ok (.arraylength, 1) := by decide +kernel
theorem dX3_init_91 : decode cX3_init 91 = .ok (.if_icmp .ge 22, 3) := by decide +kernel
theorem dX3_init_94 : decode cX3_init 94 = .ok (.aload_n 0, 1) := by decide +kernel
theorem dX3_init_95 : decode cX3_init 95 = .ok (.getfield 11, 3) := by decide +kernel
theorem dX3_init_98 : decode cX3_init 98 = .ok (.iload_n 2, 1) := by decide +kernel
theorem dX3_init_99 : decode cX3_init 99 = .ok (.new 9, 3) := by decide +kernel
theorem dX3_init_102 : decode cX3_init 102 = .ok (.dup, 1) := by decide +kernel
theorem dX3_init_103 : decode cX3_init 103 = .ok (.invokespecial 21, 3) := by decide +kernel
theorem dX3_init_106 : decode cX3_init 106 = .ok (.aastore, 1) := by decide +kernel
theorem dX3_init_107 : decode cX3_init 107 = .ok (.iinc 2 1, 3) := by decide +kernel
theorem dX3_init_110 : decode cX3_init 110 = .ok (.goto (-25), 3) := by decide +kernel
theorem dX3_init_113 : decode cX3_init 113 = .ok (.return_, 1) := by decide +kernel
theorem dX3_row_0 : decode cX3_row 0 = .ok (.iload_n 1, 1) := by decide +kernel
theorem dX3_row_1 : decode cX3_row 1 = .ok (.ifCond .lt 21, 3) := by decide +kernel
theorem dX3_row_4 : decode cX3_row 4 = .ok (.iload_n 1, 1) := by decide +kernel
theorem dX3_row_5 : decode cX3_row 5 = .ok (.aload_n 0, 1) := by decide +kernel
theorem dX3_row_6 : decode cX3_row 6 = .ok (.getfield 11, 3) := by decide +kernel
theorem dX3_row_9 : decode cX3_row 9 = .ok (.arraylength, 1) := by decide +kernel
theorem dX3_row_10 : decode cX3_row 10 = .ok (.if_icmp .ge 12, 3) := by decide +kernel
theorem dX3_row_13 : decode cX3_row 13 = .ok (.aload_n 0, 1) := by decide +kernel
theorem dX3_row_14 : decode cX3_row 14 = .ok (.getfield 11, 3) := by decide +kernel
theorem dX3_row_17 : decode cX3_row 17 = .ok (.iload_n 1, 1) := by decide +kernel
theorem dX3_row_18 : decode cX3_row 18 = .ok (.aaload, 1) := by decide +kernel
theorem dX3_row_19 : decode cX3_row 19 = .ok (.goto 4, 3) := by decide +kernel
theorem dX3_row_22 : decode cX3_row 22 = .ok (.aconst_null, 1) := by decide +kernel
theorem dX3_row_23 : decode cX3_row 23 = .ok (.astore_n 2, 1) := by decide +kernel
theorem dX3_row_24 : decode cX3_row 24 = .ok (.aload_n 2, 1) := by decide +kernel
theorem dX3_row_25 : decode cX3_row 25 = .ok (.ifnonnull 10, 3) := by decide +kernel
theorem dX3_row_28 : decode cX3_row 28 = .ok (.aload_n 0, 1) := by decide +kernel
theorem dX3_row_29 : decode cX3_row 29 = .ok (.getfield 22, 3) := by decide +kernel
theorem dX3_row_32 : decode cX3_row 32 = .ok (.goto 4, 3) := by decide +kernel
theorem dX3_row_35 : decode cX3_row 35 = .ok (.aload_n 2, 1) := by decide +kernel
theorem dX3_row_36 : decode cX3_row 36 = .ok (.areturn, 1) := by decide +kernel
theorem dX3_search_0 : decode cX3_search 0 = .ok (.iload_n 2, 1) := by decide +kernel
theorem dX3_search_1 : decode cX3_search 1 = .ok (.aload_n 0, 1) := by decide +kernel
theorem dX3_search_2 : decode cX3_search 2 = .ok (.getfield 49, 3) := by decide +kernel
theorem dX3_search_5 : decode cX3_search 5 = .ok (.if_icmp .ne 12, 3) := by decide +kernel
theorem dX3_search_8 : decode cX3_search 8 = .ok (.iload_n 3, 1) := by decide +kernel
theorem dX3_search_9 : decode cX3_search 9 = .ok (.aload_n 0, 1) := by decide +kernel
theorem dX3_search_10 : decode cX3_search 10 = .ok (.getfield 53, 3) := by decide +kernel
theorem dX3_search_13 : decode cX3_search 13 = .ok (.if_icmp .ne 4, 3) := by decide +kernel
theorem dX3_search_16 : decode cX3_search 16 = .ok (.return_, 1) := by decide +kernel
theorem dX3_search_17 : decode cX3_search 17 = .ok (.aload_n 0, 1) := by decide +kernel
theorem dX3_search_18 : decode cX3_search 18 = .ok (.iload_n 2, 1) := by decide +kernel
theorem dX3_search_19 : decode cX3_search 19 = .ok (.putfield 49, 3) := by decide +kernel
theorem dX3_search_22 : decode cX3_search 22 = .ok (.aload_n 0, 1) := by decide +kernel
theorem dX3_search_23 : decode cX3_search 23 = .ok (.iload_n 3, 1) := by decide +kernel
theorem dX3_search_24 : decode cX3_search 24 = .ok (.putfield 53, 3) := by decide +kernel
theorem dX3_search_27 : decode cX3_search 27 = .ok (.aload_n 0, 1) := by decide +kernel
theorem dX3_search_28 : decode cX3_search 28 = .ok (.aload_n 1, 1) := by decide +kernel
theorem dX3_search_29 : decode cX3_search 29 = .ok (.invokevirtual 56, 3) := by decide +kernel
theorem dX3_search_32 : decode cX3_search 32 = .ok (.iconst 0, 1) := by decide +kernel
theorem dX3_search_33 : decode cX3_search 33 = .ok (.istore 4, 2) := by decide +kernel
theorem dX3_search_35 : decode cX3_search 35 = .ok (.iconst 0, 1) := by decide +kernel
theorem dX3_search_36 : decode cX3_search 36 = .ok (.istore 5, 2) := by decide +kernel
theorem dX3_search_38 : decode cX3_search 38 = .ok (.iload 5, 2) := by decide +kernel
theorem dX3_search_40 : decode cX3_search 40 = .ok (.sipush 720, 3) := by decide +kernel
theorem dX3_search_43 : decode cX3_search 43 = .ok (.if_icmp .ge 146, 3) := by decide +kernel
theorem dX3_search_46 : decode cX3_search 46 = .ok (.iload 4, 2) := by decide +kernel
theorem dX3_search_48 : decode cX3_search 48 = .ok (.ifCond .lt 141, 3) := by decide +kernel
theorem dX3_search_51 : decode cX3_search 51 = .ok (.iload 4, 2) := by decide +kernel
theorem dX3_search_53 : decode cX3_search 53 = .ok (.istore 6, 2) := by decide +kernel
theorem dX3_search_55 : decode cX3_search 55 = .ok (.iload 6, 2) := by decide +kernel
theorem dX3_search_57 : decode cX3_search 57 = .ok (.aload_n 0, 1) := by decide +kernel
theorem dX3_search_58 : decode cX3_search 58 = .ok (.getfield 45, 3) := by decide +kernel
theorem dX3_search_61 : decode cX3_search 61 = .ok (.getfield 60, 3) := by decide +kernel
theorem dX3_search_64 : decode cX3_search 64 = .ok (.getfield 66, 3) := by decide +kernel
theorem dX3_search_67 : decode cX3_search 67 = .ok (.if_icmp .ge 106, 3) := by decide +kernel
theorem dX3_search_70 : decode cX3_search 70 = .ok (.aload_n 0, 1) := by decide +kernel
theorem dX3_search_71 : decode cX3_search 71 = .ok (.iload 6, 2) := by decide +kernel
theorem dX3_search_73 : decode cX3_search 73 = .ok (.iconst 1, 1) := by decide +kernel
theorem dX3_search_74 : decode cX3_search 74 = .ok (.iadd, 1) := by decide +kernel
theorem dX3_search_75 : decode cX3_search 75 = .ok (.invokevirtual 71, 3) := by decide +kernel
theorem dX3_search_78 : decode cX3_search 78 = .ok (.astore 7, 2) := by decide +kernel
theorem dX3_search_80 : decode cX3_search 80 = .ok (.aload 7, 2) := by decide +kernel
theorem dX3_search_82 : decode cX3_search 82 = .ok (.aload_n 0, 1) := by decide +kernel
theorem dX3_search_83 : decode cX3_search 83 = .ok (.iload 6, 2) := by decide +kernel
theorem dX3_search_85 : decode cX3_search 85 = .ok (.invokevirtual 71, 3) := by decide +kernel
theorem dX3_search_88 : decode cX3_search 88 = .ok (.invokevirtual 75, 3) := by decide +kernel
theorem dX3_search_91 : decode cX3_search 91 = .ok (.aload 7, 2) := by decide +kernel
theorem dX3_search_93 : decode cX3_search 93 = .ok (.getfield 78, 3) := by decide +kernel
theorem dX3_search_96 : decode cX3_search 96 = .ok (.istore 8, 2) := by decide +kernel
theorem dX3_search_98 : decode cX3_search 98 = .ok (.aload_n 0, 1) := by decide +kernel
theorem dX3_search_99 : decode cX3_search 99 = .ok (.getfield 26, 3) := by decide +kernel
theorem dX3_search_102 : decode cX3_search 102 = .ok (.iload 6, 2) := by decide +kernel
theorem dX3_search_104 : decode cX3_search 104 = .ok (.invokestatic 81, 3) := by decide +kernel
theorem dX3_search_107 : decode cX3_search 107 = .ok (.istore 9, 2) := by decide +kernel
theorem dX3_search_109 : decode cX3_search 109 = .ok (.aload_n 0, 1) := by decide +kernel
theorem dX3_search_110 : decode cX3_search 110 = .ok (.getfield 45, 3) := by decide +kernel
theorem dX3_search_113 : decode cX3_search 113 = .ok (.aload 7, 2) := by decide +kernel
theorem dX3_search_115 : decode cX3_search 115 = .ok (.iload 9, 2) := by decide +kernel
theorem dX3_search_117 : decode cX3_search 117 = .ok (.iload_n 2, 1) := by decide +kernel
theorem dX3_search_118 : decode cX3_search 118 = .ok (.invokevirtual 85, 3) := by decide +kernel
theorem dX3_search_121 : decode cX3_search 121 = .ok (.aload_n 0, 1) := by decide +kernel
theorem dX3_search_122 : decode cX3_search 122 = .ok (.getfield 17, 3) := by decide +kernel
theorem dX3_search_125 : decode cX3_search 125 = .ok (.iload 6, 2) := by decide +kernel
theorem dX3_search_127 : decode cX3_search 127 = .ok (.invokestatic 81, 3) := by decide +kernel
theorem dX3_search_130 : decode cX3_search 130 = .ok (.istore 10, 2) := by decide +kernel
theorem dX3_search_132 : decode cX3_search 132 = .ok (.aload_n 0, 1) := by decide +kernel
theorem dX3_search_133 : decode cX3_search 133 = .ok (.getfield 17, 3) := by decide +kernel
theorem dX3_search_136 : decode cX3_search 136 = .ok (.iload 6, 2) := by decide +kernel
theorem dX3_search_138 : decode cX3_search 138 = .ok (.iconst 1, 1) := by decide +kernel
theorem dX3_search_139 : decode cX3_search 139 = .ok (.iadd, 1) := by decide +kernel
theorem dX3_search_140 : decode cX3_search 140 = .ok (.iload 10, 2) := by decide +kernel
theorem dX3_search_142 : decode cX3_search 142 = .ok (.bipush (-2), 2) := by decide +kernel
theorem dX3_search_144 : decode cX3_search 144 = .ok (.if_icmp .ne 18, 3) := by decide +kernel
theorem dX3_search_147 : decode cX3_search 147 = .ok (.aload 7, 2) := by decide +kernel
theorem dX3_search_149 : decode cX3_search 149 = .ok (.getfield 78, 3) := by decide +kernel
theorem dX3_search_152 : decode cX3_search 152 = .ok (.iload 8, 2) := by decide +kernel
theorem dX3_search_154 : decode cX3_search 154 = .ok (.if_icmp .le 8, 3) := by decide +kernel
theorem dX3_search_157 : decode cX3_search 157 = .ok (.iload 9, 2) := by decide +kernel
theorem dX3_search_159 : decode cX3_search 159 = .ok (.goto 5, 3) := by decide +kernel
theorem dX3_search_162 : decode cX3_search 162 = .ok (.iload 10, 2) := by decide +kernel
theorem dX3_search_164 : decode cX3_search 164 = .ok (.invokestatic 89, 3) := by decide +kernel
theorem dX3_search_167 : decode cX3_search 167 = .ok (.iinc 6 1, 3) := by decide +kernel
theorem dX3_search_170 : decode cX3_search 170 = .ok (.goto (-115), 3) := by decide +kernel
theorem dX3_search_173 : decode cX3_search 173 = .ok (.aload_n 0, 1) := by decide +kernel
theorem dX3_search_174 : decode cX3_search 174 = .ok (.invokevirtual 93, 3) := by decide +kernel
theorem dX3_search_177 : decode cX3_search 177 = .ok (.aload_n 0, 1) := by decide +kernel
theorem dX3_search_178 : decode cX3_search 178 = .ok (.invokevirtual 96, 3) := by decide +kernel
theorem dX3_search_181 : decode cX3_search 181 = .ok (.istore 4, 2) := by decide +kernel
theorem dX3_search_183 : decode cX3_search 183 = .ok (.iinc 5 1, 3) := by decide +kernel
theorem dX3_search_186 : decode cX3_search 186 = .ok (.goto (-148), 3) := by decide +kernel
theorem dX3_search_189 : decode cX3_search 189 = .ok (.return_, 1) := by decide +kernel
theorem dX3_begin_0 : decode cX3_begin 0 = .ok (.aload_n 0, 1) := by decide +kernel
theorem dX3_begin_1 : decode cX3_begin 1 = .ok (.iconst 0, 1) := by decide +kernel
theorem dX3_begin_2 : decode cX3_begin 2 = .ok (.invokevirtual 71, 3) := by decide +kernel
theorem dX3_begin_5 : decode cX3_begin 5 = .ok (.aload_n 1, 1) := by decide +kernel
theorem dX3_begin_6 : decode cX3_begin 6 = .ok (.invokevirtual 75, 3) := by decide +kernel
theorem dX3_begin_9 : decode cX3_begin 9 = .ok (.aload_n 0, 1) := by decide +kernel
theorem dX3_begin_10 : decode cX3_begin 10 = .ok (.getfield 17, 3) := by decide +kernel
theorem dX3_begin_13 : decode cX3_begin 13 = .ok (.iconst 0, 1) := by decide +kernel
theorem dX3_begin_14 : decode cX3_begin 14 = .ok (.bipush (-2), 2) := by decide +kernel
theorem dX3_begin_16 : decode cX3_begin 16 = .ok (.invokestatic 89, 3) := by decide +kernel
theorem dX3_begin_19 : decode cX3_begin 19 = .ok (.iconst 0, 1) := by decide +kernel
theorem dX3_begin_20 : decode cX3_begin 20 = .ok (.istore_n 2, 1) := by decide +kernel
theorem dX3_begin_21 : decode cX3_begin 21 = .ok (.iload_n 2, 1) := by decide +kernel
theorem dX3_begin_22 : decode cX3_begin 22 = .ok (.bipush 6, 2) := by decide +kernel
theorem dX3_begin_24 : decode cX3_begin 24 = .ok (.if_icmp .ge 27, 3) := by decide +kernel
theorem dX3_begin_27 : decode cX3_begin 27 = .ok (.aload_n 0, 1) := by decide +kernel
theorem dX3_begin_28 : decode cX3_begin 28 = .ok (.getfield 26, 3) := by decide +kernel
theorem dX3_begin_31 : decode cX3_begin 31 = .ok (.iload_n 2, 1) := by decide +kernel
theorem dX3_begin_32 : decode cX3_begin 32 = .ok (.iload_n 2, 1) := by decide +kernel
theorem dX3_begin_33 : decode cX3_begin 33 = .ok (.invokestatic 89, 3) := by decide +kernel
theorem dX3_begin_36 : decode cX3_begin 36 = .ok (.aload_n 0, 1) := by decide +kernel
theorem dX3_begin_37 : decode cX3_begin 37 = .ok (.getfield 32, 3) := by decide +kernel
theorem dX3_begin_40 : decode cX3_begin 40 = .ok (.iload_n 2, 1) := by decide +kernel
theorem dX3_begin_41 : decode cX3_begin 41 = .ok (.iconst 0, 1) := by decide +kernel
theorem dX3_begin_42 : decode cX3_begin 42 = .ok (.invokestatic 89, 3) := by decide +kernel
theorem dX3_begin_45 : decode cX3_begin 45 = .ok (.iinc 2 1, 3) := by decide +kernel
theorem dX3_begin_48 : decode cX3_begin 48 = .ok (.goto (-27), 3) := by decide +kernel
theorem dX3_begin_51 : decode cX3_begin 51 = .ok (.aload_n 0, 1) := by decide +kernel
theorem dX3_begin_52 : decode cX3_begin 52 = .ok (.getfield 38, 3) := by decide +kernel
theorem dX3_begin_55 : decode cX3_begin 55 = .ok (.invokevirtual 100, 3) := by decide +kernel
theorem dX3_begin_58 : decode cX3_begin 58 = .ok (.aload_n 0, 1) := by decide +kernel
theorem dX3_begin_59 : decode cX3_begin 59 = .ok (.getfield 42, 3) := by decide +kernel
theorem dX3_begin_62 : decode cX3_begin 62 = .ok (.invokevirtual 100, 3) := by decide +kernel
theorem dX3_begin_65 : decode cX3_begin 65 = .ok (.aload_n 0, 1) := by decide +kernel
theorem dX3_begin_66 : decode cX3_begin 66 = .ok (.iconst 0, 1) := by decide +kernel
theorem dX3_begin_67 : decode cX3_begin 67 = .ok (.putfield 102, 3) := by decide +kernel
theorem dX3_begin_70 : decode cX3_begin 70 = .ok (.return_, 1) := by decide +kernel
theorem dX3_share_0 : decode cX3_share 0 = .ok (.aload_n 0, 1) := by decide +kernel
theorem dX3_share_1 : decode cX3_share 1 = .ok (.aload_n 0, 1) := by decide +kernel
theorem dX3_share_2 : decode cX3_share 2 = .ok (.getfield 45, 3) := by decide +kernel
theorem dX3_share_5 : decode cX3_share 5 = .ok (.getfield 60, 3) := by decide +kernel
theorem dX3_share_8 : decode cX3_share 8 = .ok (.getfield 66, 3) := by decide +kernel
theorem dX3_share_11 : decode cX3_share 11 = .ok (.invokevirtual 71, 3) := by decide +kernel
theorem dX3_share_14 : decode cX3_share 14 = .ok (.iload_n 1, 1) := by decide +kernel
theorem dX3_share_15 : decode cX3_share 15 = .ok (.iload_n 2, 1) := by decide +kernel
theorem dX3_share_16 : decode cX3_share 16 = .ok (.invokevirtual 105, 3) := by decide +kernel
theorem dX3_share_19 : decode cX3_share 19 = .ok (.aload_n 0, 1) := by decide +kernel
theorem dX3_share_20 : decode cX3_share 20 = .ok (.iconst 0, 1) := by decide +kernel
theorem dX3_share_21 : decode cX3_share 21 = .ok (.invokevirtual 71, 3) := by decide +kernel
theorem dX3_share_24 : decode cX3_share 24 = .ok (.iload_n 1, 1) := by decide +kernel
theorem dX3_share_25 : decode cX3_share 25 = .ok (.iload_n 2, 1) := by decide +kernel
theorem dX3_share_26 : decode cX3_share 26 = .ok (.invokevirtual 105, 3) := by decide +kernel
theorem dX3_share_29 : decode cX3_share 29 = .ok (.isub, 1) := by decide +kernel
theorem dX3_share_30 : decode cX3_share 30 = .ok (.ireturn, 1) := by decide +kernel
theorem dX3_weigh_0 : decode cX3_weigh 0 = .ok (.iconst 0, 1) := by decide +kernel
theorem dX3_weigh_1 : decode cX3_weigh 1 = .ok (.istore_n 1, 1) := by decide +kernel
theorem dX3_weigh_2 : decode cX3_weigh 2 = .ok (.iconst 0, 1) := by decide +kernel
theorem dX3_weigh_3 : decode cX3_weigh 3 = .ok (.istore_n 2, 1) := by decide +kernel
theorem dX3_weigh_4 : decode cX3_weigh 4 = .ok (.aload_n 0, 1) := by decide +kernel
theorem dX3_weigh_5 : decode cX3_weigh 5 = .ok (.iconst 0, 1) := by decide +kernel
theorem dX3_weigh_6 : decode cX3_weigh 6 = .ok (.iconst 2, 1) := by decide +kernel
theorem dX3_weigh_7 : decode cX3_weigh 7 = .ok (.invokevirtual 109, 3) := by decide +kernel
theorem dX3_weigh_10 : decode cX3_weigh 10 = .ok (.istore_n 3, 1) := by decide +kernel
theorem dX3_weigh_11 : decode cX3_weigh 11 = .ok (.iload_n 3, 1) := by decide +kernel
theorem dX3_weigh_12 : decode cX3_weigh 12 = .ok (.istore 4, 2) := by decide +kernel
theorem dX3_weigh_14 : decode cX3_weigh 14 = .ok (.iconst 0, 1) := by decide +kernel
theorem dX3_weigh_15 : decode cX3_weigh 15 = .ok (.istore 5, 2) := by decide +kernel
theorem dX3_weigh_17 : decode cX3_weigh 17 = .ok (.iload 5, 2) := by decide +kernel
theorem dX3_weigh_19 : decode cX3_weigh 19 = .ok (.aload_n 0, 1) := by decide +kernel
theorem dX3_weigh_20 : decode cX3_weigh 20 = .ok (.getfield 45, 3) := by decide +kernel
theorem dX3_weigh_23 : decode cX3_weigh 23 = .ok (.getfield 60, 3) := by decide +kernel
theorem dX3_weigh_26 : decode cX3_weigh 26 = .ok (.getfield 66, 3) := by decide +kernel
theorem dX3_weigh_29 : decode cX3_weigh 29 = .ok (.if_icmp .ge 66, 3) := by decide +kernel
theorem dX3_weigh_32 : decode cX3_weigh 32 = .ok (.aload_n 0, 1) := by decide +kernel
theorem dX3_weigh_33 : decode cX3_weigh 33 = .ok (.iload 5, 2) := by decide +kernel
theorem dX3_weigh_35 : decode cX3_weigh 35 = .ok (.iconst 1, 1) := by decide +kernel
theorem dX3_weigh_36 : decode cX3_weigh 36 = .ok (.invokevirtual 109, 3) := by decide +kernel
theorem dX3_weigh_39 : decode cX3_weigh 39 = .ok (.istore 6, 2) := by decide +kernel
theorem dX3_weigh_41 : decode cX3_weigh 41 = .ok (.aload_n 0, 1) := by decide +kernel
theorem dX3_weigh_42 : decode cX3_weigh 42 = .ok (.iload 5, 2) := by decide +kernel
theorem dX3_weigh_44 : decode cX3_weigh 44 = .ok (.iconst 2, 1) := by decide +kernel
theorem dX3_weigh_45 : decode cX3_weigh 45 = .ok (.invokevirtual 109, 3) := by decide +kernel
theorem dX3_weigh_48 : decode cX3_weigh 48 = .ok (.istore 7, 2) := by decide +kernel
theorem dX3_weigh_50 : decode cX3_weigh 50 = .ok (.iload_n 1, 1) := by decide +kernel
theorem dX3_weigh_51 : decode cX3_weigh 51 = .ok (.iload 6, 2) := by decide +kernel
theorem dX3_weigh_53 : decode cX3_weigh 53 = .ok (.iadd, 1) := by decide +kernel
theorem dX3_weigh_54 : decode cX3_weigh 54 = .ok (.istore_n 1, 1) := by decide +kernel
theorem dX3_weigh_55 : decode cX3_weigh 55 = .ok (.iload 6, 2) := by decide +kernel
theorem dX3_weigh_57 : decode cX3_weigh 57 = .ok (.aload_n 0, 1) := by decide +kernel
theorem dX3_weigh_58 : decode cX3_weigh 58 = .ok (.iload_n 2, 1) := by decide +kernel
theorem dX3_weigh_59 : decode cX3_weigh 59 = .ok (.iconst 1, 1) := by decide +kernel
theorem dX3_weigh_60 : decode cX3_weigh 60 = .ok (.invokevirtual 109, 3) := by decide +kernel
theorem dX3_weigh_63 : decode cX3_weigh 63 = .ok (.if_icmp .ge 8, 3) := by decide +kernel
theorem dX3_weigh_66 : decode cX3_weigh 66 = .ok (.iload 5, 2) := by decide +kernel
theorem dX3_weigh_68 : decode cX3_weigh 68 = .ok (.goto 4, 3) := by decide +kernel
theorem dX3_weigh_71 : decode cX3_weigh 71 = .ok (.iload_n 2, 1) := by decide +kernel
theorem dX3_weigh_72 : decode cX3_weigh 72 = .ok (.istore_n 2, 1) := by decide +kernel
theorem dX3_weigh_73 : decode cX3_weigh 73 = .ok (.iload_n 3, 1) := by decide +kernel
theorem dX3_weigh_74 : decode cX3_weigh 74 = .ok (.iload 7, 2) := by decide +kernel
theorem dX3_weigh_76 : decode cX3_weigh 76 = .ok (.invokestatic 112, 3) := by decide +kernel
theorem dX3_weigh_79 : decode cX3_weigh 79 = .ok (.istore_n 3, 1) := by decide +kernel
theorem dX3_weigh_80 : decode cX3_weigh 80 = .ok (.iload 4, 2) := by decide +kernel
theorem dX3_weigh_82 : decode cX3_weigh 82 = .ok (.iload 7, 2) := by decide +kernel
theorem dX3_weigh_84 : decode cX3_weigh 84 = .ok (.invokestatic 117, 3) := by decide +kernel
theorem dX3_weigh_87 : decode cX3_weigh 87 = .ok (.istore 4, 2) := by decide +kernel
theorem dX3_weigh_89 : decode cX3_weigh 89 = .ok (.iinc 5 1, 3) := by decide +kernel
theorem dX3_weigh_92 : decode cX3_weigh 92 = .ok (.goto (-75), 3) := by decide +kernel
theorem dX3_weigh_95 : decode cX3_weigh 95 = .ok (.aload_n 0, 1) := by decide +kernel
theorem dX3_weigh_96 : decode cX3_weigh 96 = .ok (.getfield 32, 3) := by decide +kernel
theorem dX3_weigh_99 : decode cX3_weigh 99 = .ok (.iload_n 2, 1) := by decide +kernel
theorem dX3_weigh_100 : decode cX3_weigh 100 = .ok (.aload_n 0, 1) := by decide +kernel
theorem dX3_weigh_101 : decode cX3_weigh 101 = .ok (.getfield 32, 3) := by decide +kernel
theorem dX3_weigh_104 : decode cX3_weigh 104 = .ok (.iload_n 2, 1) := by decide +kernel
theorem dX3_weigh_105 : decode cX3_weigh 105 = .ok (.invokestatic 81, 3) := by decide +kernel
theorem dX3_weigh_108 : decode cX3_weigh 108 = .ok (.iconst 1, 1) := by decide +kernel
theorem dX3_weigh_109 : decode cX3_weigh 109 = .ok (.iadd, 1) := by decide +kernel
theorem dX3_weigh_110 : decode cX3_weigh 110 = .ok (.invokestatic 89, 3) := by decide +kernel
theorem dX3_weigh_113 : decode cX3_weigh 113 = .ok (.aload_n 0, 1) := by decide +kernel
theorem dX3_weigh_114 : decode cX3_weigh 114 = .ok (.dup, 1) := by decide +kernel
theorem dX3_weigh_115 : decode cX3_weigh 115 = .ok (.getfield 102, 3) := by decide +kernel
theorem dX3_weigh_118 : decode cX3_weigh 118 = .ok (.aload_n 0, 1) := by decide +kernel
theorem dX3_weigh_119 : decode cX3_weigh 119 = .ok (.getfield 45, 3) := by decide +kernel
theorem dX3_weigh_122 : decode cX3_weigh 122 = .ok (.getfield 60, 3) := by decide +kernel
theorem dX3_weigh_125 : decode cX3_weigh 125 = .ok (.getfield 120, 3) := by decide +kernel
theorem dX3_weigh_128 : decode cX3_weigh 128 = .ok (.aload_n 0, 1) := by decide +kernel
theorem dX3_weigh_129 : decode cX3_weigh 129 = .ok (.getfield 17, 3) := by decide +kernel
theorem dX3_weigh_132 : decode cX3_weigh 132 = .ok (.aload_n 0, 1) := by decide +kernel
theorem dX3_weigh_133 : decode cX3_weigh 133 = .ok (.getfield 45, 3) := by decide +kernel
theorem dX3_weigh_136 : decode cX3_weigh 136 = .ok (.getfield 60, 3) := by decide +kernel
theorem dX3_weigh_139 : decode cX3_weigh 139 = .ok (.getfield 66, 3) := by decide +kernel
theorem dX3_weigh_142 : decode cX3_weigh 142 = .ok (.invokestatic 81, 3) := by decide +kernel
theorem dX3_weigh_145 : decode cX3_weigh 145 = .ok (.invokestatic 81, 3) := by decide +kernel
theorem dX3_weigh_148 : decode cX3_weigh 148 = .ok (.iadd, 1) := by decide +kernel
theorem dX3_weigh_149 : decode cX3_weigh 149 = .ok (.putfield 102, 3) := by decide +kernel
theorem dX3_weigh_152 : decode cX3_weigh 152 = .ok (.aload_n 0, 1) := by decide +kernel
theorem dX3_weigh_153 : decode cX3_weigh 153 = .ok (.getfield 42, 3) := by decide +kernel
theorem dX3_weigh_156 : decode cX3_weigh 156 = .ok (.aload_n 0, 1) := by decide +kernel
theorem dX3_weigh_157 : decode cX3_weigh 157 = .ok (.getfield 26, 3) := by decide +kernel
theorem dX3_weigh_160 : decode cX3_weigh 160 = .ok (.iconst 0, 1) := by decide +kernel
theorem dX3_weigh_161 : decode cX3_weigh 161 = .ok (.invokestatic 81, 3) := by decide +kernel
theorem dX3_weigh_164 : decode cX3_weigh 164 = .ok (.iload_n 3, 1) := by decide +kernel
theorem dX3_weigh_165 : decode cX3_weigh 165 = .ok (.iload 4, 2) := by decide +kernel
theorem dX3_weigh_167 : decode cX3_weigh 167 = .ok (.isub, 1) := by decide +kernel
theorem dX3_weigh_168 : decode cX3_weigh 168 = .ok (.invokevirtual 123, 3) := by decide +kernel
theorem dX3_weigh_171 : decode cX3_weigh 171 = .ok (.aload_n 0, 1) := by decide +kernel
theorem dX3_weigh_172 : decode cX3_weigh 172 = .ok (.getfield 38, 3) := by decide +kernel
theorem dX3_weigh_175 : decode cX3_weigh 175 = .ok (.getfield 127, 3) := by decide +kernel
theorem dX3_weigh_178 : decode cX3_weigh 178 = .ok (.ifCond .eq 14, 3) := by decide +kernel
theorem dX3_weigh_181 : decode cX3_weigh 181 = .ok (.iload_n 1, 1) := by decide +kernel
theorem dX3_weigh_182 : decode cX3_weigh 182 = .ok (.aload_n 0, 1) := by decide +kernel
theorem dX3_weigh_183 : decode cX3_weigh 183 = .ok (.getfield 38, 3) := by decide +kernel
theorem dX3_weigh_186 : decode cX3_weigh 186 = .ok (.getfield 131, 3) := by decide +kernel
theorem dX3_weigh_189 : decode cX3_weigh 189 = .ok (.if_icmp .ge 14, 3) := by decide +kernel
theorem dX3_weigh_192 : decode cX3_weigh 192 = .ok (.aload_n 0, 1) := by decide +kernel
theorem dX3_weigh_193 : decode cX3_weigh 193 = .ok (.getfield 26, 3) := by decide +kernel
theorem dX3_weigh_196 : decode cX3_weigh 196 = .ok (.aload_n 0, 1) := by decide +kernel
theorem dX3_weigh_197 : decode cX3_weigh 197 = .ok (.getfield 29, 3) := by decide +kernel
theorem dX3_weigh_200 : decode cX3_weigh 200 = .ok (.invokestatic 134, 3) := by decide +kernel
theorem dX3_weigh_203 : decode cX3_weigh 203 = .ok (.aload_n 0, 1) := by decide +kernel
theorem dX3_weigh_204 : decode cX3_weigh 204 = .ok (.getfield 38, 3) := by decide +kernel
theorem dX3_weigh_207 : decode cX3_weigh 207 = .ok (.iconst 0, 1) := by decide +kernel
theorem dX3_weigh_208 : decode cX3_weigh 208 = .ok (.iload_n 1, 1) := by decide +kernel
theorem dX3_weigh_209 : decode cX3_weigh 209 = .ok (.invokevirtual 123, 3) := by decide +kernel
theorem dX3_weigh_212 : decode cX3_weigh 212 = .ok (.return_, 1) := by decide +kernel
theorem dX3_follow_0 : decode cX3_follow 0 = .ok (.aload_n 0, 1) := by decide +kernel
theorem dX3_follow_1 : decode cX3_follow 1 = .ok (.getfield 45, 3) := by decide +kernel
theorem dX3_follow_4 : decode cX3_follow 4 = .ok (.getfield 60, 3) := by decide +kernel
theorem dX3_follow_7 : decode cX3_follow 7 = .ok (.getfield 66, 3) := by decide +kernel
theorem dX3_follow_10 : decode cX3_follow 10 = .ok (.istore_n 1, 1) := by decide +kernel
theorem dX3_follow_11 : decode cX3_follow 11 = .ok (.iload_n 1, 1) := by decide +kernel
theorem dX3_follow_12 : decode cX3_follow 12 = .ok (.iconst 2, 1) := by decide +kernel
theorem dX3_follow_13 : decode cX3_follow 13 = .ok (.isub, 1) := by decide +kernel
theorem dX3_follow_14 : decode cX3_follow 14 = .ok (.istore_n 2, 1) := by decide +kernel
theorem dX3_follow_15 : decode cX3_follow 15 = .ok (.iload_n 2, 1) := by decide +kernel
theorem dX3_follow_16 : decode cX3_follow 16 = .ok (.ifCond .lt 30, 3) := by decide +kernel
theorem dX3_follow_19 : decode cX3_follow 19 = .ok (.aload_n 0, 1) := by decide +kernel
theorem dX3_follow_20 : decode cX3_follow 20 = .ok (.getfield 26, 3) := by decide +kernel
theorem dX3_follow_23 : decode cX3_follow 23 = .ok (.iload_n 2, 1) := by decide +kernel
theorem dX3_follow_24 : decode cX3_follow 24 = .ok (.invokestatic 81, 3) := by decide +kernel
theorem dX3_follow_27 : decode cX3_follow 27 = .ok (.aload_n 0, 1) := by decide +kernel
theorem dX3_follow_28 : decode cX3_follow 28 = .ok (.getfield 26, 3) := by decide +kernel
theorem dX3_follow_31 : decode cX3_follow 31 = .ok (.iload_n 2, 1) := by decide +kernel
theorem dX3_follow_32 : decode cX3_follow 32 = .ok (.iconst 1, 1) := by decide +kernel
theorem dX3_follow_33 : decode cX3_follow 33 = .ok (.iadd, 1) := by decide +kernel
theorem dX3_follow_34 : decode cX3_follow 34 = .ok (.invokestatic 81, 3) := by decide +kernel
theorem dX3_follow_37 : decode cX3_follow 37 = .ok (.if_icmp .le 9, 3) := by decide +kernel
theorem dX3_follow_40 : decode cX3_follow 40 = .ok (.iinc 2 (-1), 3) := by decide +kernel
theorem dX3_follow_43 : decode cX3_follow 43 = .ok (.goto (-28), 3) := by decide +kernel
theorem dX3_follow_46 : decode cX3_follow 46 = .ok (.iload_n 2, 1) := by decide +kernel
theorem dX3_follow_47 : decode cX3_follow 47 = .ok (.ifCond .ge 5, 3) := by decide +kernel
theorem dX3_follow_50 : decode cX3_follow 50 = .ok (.iconst (-1), 1) := by decide +kernel
theorem dX3_follow_51 : decode cX3_follow 51 = .ok (.ireturn, 1) := by decide +kernel
theorem dX3_follow_52 : decode cX3_follow 52 = .ok (.iload_n 1, 1) := by decide +kernel
theorem dX3_follow_53 : decode cX3_follow 53 = .ok (.iconst 1, 1) := by decide +kernel
theorem dX3_follow_54 : decode cX3_follow 54 = .ok (.isub, 1) := by decide +kernel
theorem dX3_follow_55 : decode cX3_follow 55 = .ok (.istore_n 3, 1) := by decide +kernel
theorem dX3_follow_56 : decode cX3_follow 56 = .ok (.iload_n 3, 1) := by decide +kernel
theorem dX3_follow_57 : decode cX3_follow 57 = .ok (.iload_n 2, 1) := by decide +kernel
theorem dX3_follow_58 : decode cX3_follow 58 = .ok (.if_icmp .le 28, 3) := by decide +kernel
theorem dX3_follow_61 : decode cX3_follow 61 = .ok (.aload_n 0, 1) := by decide +kernel
theorem dX3_follow_62 : decode cX3_follow 62 = .ok (.getfield 26, 3) := by decide +kernel
theorem dX3_follow_65 : decode cX3_follow 65 = .ok (.iload_n 3, 1) := by decide +kernel
theorem dX3_follow_66 : decode cX3_follow 66 = .ok (.invokestatic 81, 3) := by decide +kernel
theorem dX3_follow_69 : decode cX3_follow 69 = .ok (.aload_n 0, 1) := by decide +kernel
theorem dX3_follow_70 : decode cX3_follow 70 = .ok (.getfield 26, 3) := by decide +kernel
theorem dX3_follow_73 : decode cX3_follow 73 = .ok (.iload_n 2, 1) := by decide +kernel
theorem dX3_follow_74 : decode cX3_follow 74 = .ok (.invokestatic 81, 3) := by decide +kernel
theorem dX3_follow_77 : decode cX3_follow 77 = .ok (.if_icmp .ge 9, 3) := by decide +kernel
theorem dX3_follow_80 : decode cX3_follow 80 = .ok (.iinc 3 (-1), 3) := by decide +kernel
theorem dX3_follow_83 : decode cX3_follow 83 = .ok (.goto (-27), 3) := by decide +kernel
theorem dX3_follow_86 : decode cX3_follow 86 = .ok (.aload_n 0, 1) := by decide +kernel
theorem dX3_follow_87 : decode cX3_follow 87 = .ok (.iload_n 2, 1) := by decide +kernel
theorem dX3_follow_88 : decode cX3_follow 88 = .ok (.iload_n 3, 1) := by decide +kernel
theorem dX3_follow_89 : decode cX3_follow 89 = .ok (.invokevirtual 138, 3) := by decide +kernel
theorem dX3_follow_92 : decode cX3_follow 92 = .ok (.iload_n 2, 1) := by decide +kernel
theorem dX3_follow_93 : decode cX3_follow 93 = .ok (.iconst 1, 1) := by decide +kernel
theorem dX3_follow_94 : decode cX3_follow 94 = .ok (.iadd, 1) := by decide +kernel
theorem dX3_follow_95 : decode cX3_follow 95 = .ok (.istore 4, 2) := by decide +kernel
theorem dX3_follow_97 : decode cX3_follow 97 = .ok (.iload_n 1, 1) := by decide +kernel
theorem dX3_follow_98 : decode cX3_follow 98 = .ok (.iconst 1, 1) := by decide +kernel
theorem dX3_follow_99 : decode cX3_follow 99 = .ok (.isub, 1) := by decide +kernel
theorem dX3_follow_100 : decode cX3_follow 100 = .ok (.istore 5, 2) := by decide +kernel
theorem dX3_follow_102 : decode cX3_follow 102 = .ok (.iload 4, 2) := by decide +kernel
theorem dX3_follow_104 : decode cX3_follow 104 = .ok (.iload 5, 2) := by decide +kernel
theorem dX3_follow_106 : decode cX3_follow 106 = .ok (.if_icmp .ge 20, 3) := by decide +kernel
theorem dX3_follow_109 : decode cX3_follow 109 = .ok (.aload_n 0, 1) := by decide +kernel
theorem dX3_follow_110 : decode cX3_follow 110 = .ok (.iload 4, 2) := by decide +kernel
theorem dX3_follow_112 : decode cX3_follow 112 = .ok (.iload 5, 2) := by decide +kernel
theorem dX3_follow_114 : decode cX3_follow 114 = .ok (.invokevirtual 138, 3) := by decide +kernel
theorem dX3_follow_117 : decode cX3_follow 117 = .ok (.iinc 4 1, 3) := by decide +kernel
theorem dX3_follow_120 : decode cX3_follow 120 = .ok (.iinc 5 (-1), 3) := by decide +kernel
theorem dX3_follow_123 : decode cX3_follow 123 = .ok (.goto (-21), 3) := by decide +kernel
theorem dX3_follow_126 : decode cX3_follow 126 = .ok (.iload_n 2, 1) := by decide +kernel
theorem dX3_follow_127 : decode cX3_follow 127 = .ok (.ireturn, 1) := by decide +kernel
theorem dX3_change_0 : decode cX3_change 0 = .ok (.aload_n 0, 1) := by decide +kernel
theorem dX3_change_1 : decode cX3_change 1 = .ok (.getfield 26, 3) := by decide +kernel
theorem dX3_change_4 : decode cX3_change 4 = .ok (.iload_n 1, 1) := by decide +kernel
theorem dX3_change_5 : decode cX3_change 5 = .ok (.invokestatic 81, 3) := by decide +kernel
theorem dX3_change_8 : decode cX3_change 8 = .ok (.istore_n 3, 1) := by decide +kernel
theorem dX3_change_9 : decode cX3_change 9 = .ok (.aload_n 0, 1) := by decide +kernel
theorem dX3_change_10 : decode cX3_change 10 = .ok (.getfield 26, 3) := by decide +kernel
theorem dX3_change_13 : decode cX3_change 13 = .ok (.iload_n 1, 1) := by decide +kernel
theorem dX3_change_14 : decode cX3_change 14 = .ok (.aload_n 0, 1) := by decide +kernel
theorem dX3_change_15 : decode cX3_change 15 = .ok (.getfield 26, 3) := by decide +kernel
theorem dX3_change_18 : decode cX3_change 18 = .ok (.iload_n 2, 1) := by decide +kernel
theorem dX3_change_19 : decode cX3_change 19 = .ok (.invokestatic 81, 3) := by decide +kernel
theorem dX3_change_22 : decode cX3_change 22 = .ok (.invokestatic 89, 3) := by decide +kernel
theorem dX3_change_25 : decode cX3_change 25 = .ok (.aload_n 0, 1) := by decide +kernel
theorem dX3_change_26 : decode cX3_change 26 = .ok (.getfield 26, 3) := by decide +kernel
theorem dX3_change_29 : decode cX3_change 29 = .ok (.iload_n 2, 1) := by decide +kernel
theorem dX3_change_30 : decode cX3_change 30 = .ok (.iload_n 3, 1) := by decide +kernel
theorem dX3_change_31 : decode cX3_change 31 = .ok (.invokestatic 89, 3) := by decide +kernel
theorem dX3_change_34 : decode cX3_change 34 = .ok (.return_, 1) := by decide +kernel
theorem dX5_init_0 : decode cX5_init 0 = .ok (.aload_n 0, 1) := by decide +kernel
theorem dX5_init_1 : decode cX5_init 1 = .ok (.invokespecial 3, 3) := by decide +kernel
theorem dX5_init_4 : decode cX5_init 4 = .ok (.aload_n 0, 1) := by decide +kernel
theorem dX5_init_5 : decode cX5_init 5 = .ok (.bipush (-2), 2) := by decide +kernel
theorem dX5_init_7 : decode cX5_init 7 = .ok (.putfield 9, 3) := by decide +kernel
theorem dX5_init_10 : decode cX5_init 10 = .ok (.aload_n 0, 1) := by decide +kernel
theorem dX5_init_11 : decode cX5_init 11 = .ok (.bipush (-2), 2) := by decide +kernel
theorem dX5_init_13 : decode cX5_init 13 = .ok (.putfield 15, 3) := by decide +kernel
theorem dX5_init_16 : decode cX5_init 16 = .ok (.aload_n 0, 1) := by decide +kernel
theorem dX5_init_17 : decode cX5_init 17 = .ok (.bipush (-2), 2) := by decide +kernel
theorem dX5_init_19 : decode cX5_init 19 = .ok (.putfield 18, 3) := by decide +kernel
theorem dX5_init_22 : decode cX5_init 22 = .ok (.aload_n 0, 1) := by decide +kernel
theorem dX5_init_23 : decode cX5_init 23 = .ok (.bipush 42, 2) := by decide +kernel
theorem dX5_init_25 : decode cX5_init 25 = .ok (.newarray .int, 2) := by decide +kernel
theorem dX5_init_27 : decode cX5_init 27 = .ok (.putfield 21, 3) := by decide +kernel
theorem dX5_init_30 : decode cX5_init 30 = .ok (.return_, 1) := by decide +kernel
theorem dX5_takeFrom_0 : decode cX5_takeFrom 0 = .ok (.aload_n 1, 1) := by decide +kernel
theorem dX5_takeFrom_1 : decode cX5_takeFrom 1 = .ok (.ifnonnull 4, 3) := by decide +kernel
theorem dX5_takeFrom_4 : decode cX5_takeFrom 4 = .ok (.return_, 1) := by decide +kernel
theorem dX5_takeFrom_5 : decode cX5_takeFrom 5 = .ok (.aload_n 0, 1) := by decide +kernel
theorem dX5_takeFrom_6 : decode cX5_takeFrom 6 = .ok (.aload_n 1, 1) := by decide +kernel
theorem dX5_takeFrom_7 : decode cX5_takeFrom 7 = .ok (.getfield 25, 3) := by decide +kernel
theorem dX5_takeFrom_10 : decode cX5_takeFrom 10 = .ok (.putfield 25, 3) := by decide +kernel
theorem dX5_takeFrom_13 : decode cX5_takeFrom 13 = .ok (.aload_n 0, 1) := by decide +kernel
theorem dX5_takeFrom_14 : decode cX5_takeFrom 14 = .ok (.aload_n 1, 1) := by decide +kernel
theorem dX5_takeFrom_15 : decode cX5_takeFrom 15 = .ok (.getfield 28, 3) := by decide +kernel
theorem dX5_takeFrom_18 : decode cX5_takeFrom 18 = .ok (.putfield 28, 3) := by decide +kernel
theorem dX5_takeFrom_21 : decode cX5_takeFrom 21 = .ok (.aload_n 0, 1) := by decide +kernel
theorem dX5_takeFrom_22 : decode cX5_takeFrom 22 = .ok (.aload_n 1, 1) := by decide +kernel
theorem dX5_takeFrom_23 : decode cX5_takeFrom 23 = .ok (.getfield 31, 3) := by decide +kernel
theorem dX5_takeFrom_26 : decode cX5_takeFrom 26 = .ok (.putfield 31, 3) := by decide +kernel
theorem dX5_takeFrom_29 : decode cX5_takeFrom 29 = .ok (.aload_n 0, 1) := by decide +kernel
theorem dX5_takeFrom_30 : decode cX5_takeFrom 30 = .ok (.aload_n 1, 1) := by decide +kernel
theorem dX5_takeFrom_31 : decode cX5_takeFrom 31 = .ok (.getfield 34, 3) := by decide +kernel
theorem dX5_takeFrom_34 : decode cX5_takeFrom 34 = .ok (.putfield 34, 3) := by decide +kernel
theorem dX5_takeFrom_37 : decode cX5_takeFrom 37 = .ok (.aload_n 0, 1) := by decide +kernel
theorem dX5_takeFrom_38 : decode cX5_takeFrom 38 = .ok (.aload_n 1, 1) := by decide +kernel
theorem dX5_takeFrom_39 : decode cX5_takeFrom 39 = .ok (.getfield 37, 3) := by decide +kernel
theorem dX5_takeFrom_42 : decode cX5_takeFrom 42 = .ok (.putfield 37, 3) := by decide +kernel
theorem dX5_takeFrom_45 : decode cX5_takeFrom 45 = .ok (.aload_n 0, 1) := by decide +kernel
theorem dX5_takeFrom_46 : decode cX5_takeFrom 46 = .ok (.aload_n 1, 1) := by decide +kernel
theorem dX5_takeFrom_47 : decode cX5_takeFrom 47 = .ok (.getfield 40, 3) := by decide +kernel
theorem dX5_takeFrom_50 : decode cX5_takeFrom 50 = .ok (.putfield 40, 3) := by decide +kernel
theorem dX5_takeFrom_53 : decode cX5_takeFrom 53 = .ok (.aload_n 0, 1) := by decide +kernel
theorem dX5_takeFrom_54 : decode cX5_takeFrom 54 = .ok (.aload_n 1, 1) := by decide +kernel
theorem dX5_takeFrom_55 : decode cX5_takeFrom 55 = .ok (.getfield 43, 3) := by decide +kernel
theorem dX5_takeFrom_58 : decode cX5_takeFrom 58 = .ok (.putfield 43, 3) := by decide +kernel
theorem dX5_takeFrom_61 : decode cX5_takeFrom 61 = .ok (.aload_n 0, 1) := by decide +kernel
theorem dX5_takeFrom_62 : decode cX5_takeFrom 62 = .ok (.aload_n 1, 1) := by decide +kernel
theorem dX5_takeFrom_63 : decode cX5_takeFrom 63 = .ok (.getfield 46, 3) := by decide +kernel
theorem dX5_takeFrom_66 : decode cX5_takeFrom 66 = .ok (.putfield 46, 3) := by decide +kernel
theorem dX5_takeFrom_69 : decode cX5_takeFrom 69 = .ok (.aload_n 0, 1) := by decide +kernel
theorem dX5_takeFrom_70 : decode cX5_takeFrom 70 = .ok (.aload_n 1, 1) := by decide +kernel
theorem dX5_takeFrom_71 : decode cX5_takeFrom 71 = .ok (.getfield 49, 3) := by decide +kernel
theorem dX5_takeFrom_74 : decode cX5_takeFrom 74 = .ok (.putfield 49, 3) := by decide +kernel
theorem dX5_takeFrom_77 : decode cX5_takeFrom 77 = .ok (.aload_n 0, 1) := by decide +kernel
theorem dX5_takeFrom_78 : decode cX5_takeFrom 78 = .ok (.aload_n 1, 1) := by decide +kernel
theorem dX5_takeFrom_79 : decode cX5_takeFrom 79 = .ok (.getfield 9, 3) := by decide +kernel
theorem dX5_takeFrom_82 : decode cX5_takeFrom 82 = .ok (.putfield 9, 3) := by decide +kernel
theorem dX5_takeFrom_85 : decode cX5_takeFrom 85 = .ok (.aload_n 0, 1) := by decide +kernel
theorem dX5_takeFrom_86 : decode cX5_takeFrom 86 = .ok (.aload_n 1, 1) := by decide +kernel
theorem dX5_takeFrom_87 : decode cX5_takeFrom 87 = .ok (.getfield 15, 3) := by decide +kernel
theorem dX5_takeFrom_90 : decode cX5_takeFrom 90 = .ok (.putfield 15, 3) := by decide +kernel
theorem dX5_takeFrom_93 : decode cX5_takeFrom 93 = .ok (.aload_n 0, 1) := by decide +kernel
theorem dX5_takeFrom_94 : decode cX5_takeFrom 94 = .ok (.aload_n 1, 1) := by decide +kernel
theorem dX5_takeFrom_95 : decode cX5_takeFrom 95 = .ok (.getfield 18, 3) := by decide +kernel
theorem dX5_takeFrom_98 : decode cX5_takeFrom 98 = .ok (.putfield 18, 3) := by decide +kernel
theorem dX5_takeFrom_101 : decode cX5_takeFrom 101 = .ok (.aload_n 0, 1) := by decide +kernel
theorem dX5_takeFrom_102 : decode cX5_takeFrom 102 = .ok (.aload_n 1, 1) := by decide +kernel
theorem dX5_takeFrom_103 : decode cX5_takeFrom 103 = .ok (.getfield 52, 3) := by decide +kernel
theorem dX5_takeFrom_106 : decode cX5_takeFrom 106 = .ok (.putfield 52, 3) := by decide +kernel
theorem dX5_takeFrom_109 : decode cX5_takeFrom 109 = .ok (.aload_n 0, 1) := by decide +kernel
theorem dX5_takeFrom_110 : decode cX5_takeFrom 110 = .ok (.aload_n 1, 1) := by decide +kernel
theorem dX5_takeFrom_111 : decode cX5_takeFrom 111 = .ok (.getfield 55, 3) := by decide +kernel
theorem dX5_takeFrom_114 : decode cX5_takeFrom 114 = .ok (.putfield 55, 3) := by decide +kernel
theorem dX5_takeFrom_117 : decode cX5_takeFrom 117 = .ok (.aload_n 0, 1) := by decide +kernel
theorem dX5_takeFrom_118 : decode cX5_takeFrom 118 = .ok (.aload_n 1, 1) := by decide +kernel
theorem dX5_takeFrom_119 : decode cX5_takeFrom 119 = .ok (.getfield 58, 3) := by decide +kernel
theorem dX5_takeFrom_122 : decode cX5_takeFrom 122 = .ok (.putfield 58, 3) := by decide +kernel
theorem dX5_takeFrom_125 : decode cX5_takeFrom 125 = .ok (.aload_n 0, 1) := by decide +kernel
theorem dX5_takeFrom_126 : decode cX5_takeFrom 126 = .ok (.aload_n 1, 1) := by decide +kernel
theorem dX5_takeFrom_127 : decode cX5_takeFrom 127 = .ok (.getfield 61, 3) := by decide +kernel
theorem dX5_takeFrom_130 : decode cX5_takeFrom 130 = .ok (.putfield 61, 3) := by decide +kernel
theorem dX5_takeFrom_133 : decode cX5_takeFrom 133 = .ok (.aload_n 0, 1) := by decide +kernel
theorem dX5_takeFrom_134 : decode cX5_takeFrom 134 = .ok (.aload_n 1, 1) := by decide +kernel
theorem dX5_takeFrom_135 : decode cX5_takeFrom 135 = .ok (.getfield 64, 3) := by decide +kernel
theorem dX5_takeFrom_138 : decode cX5_takeFrom 138 = .ok (.putfield 64, 3) := by decide +kernel
theorem dX5_takeFrom_141 : decode cX5_takeFrom 141 = .ok (.aload_n 0, 1) := by decide +kernel
theorem dX5_takeFrom_142 : decode cX5_takeFrom 142 = .ok (.aload_n 1, 1) := by decide +kernel
theorem dX5_takeFrom_143 : decode cX5_takeFrom 143 = .ok (.getfield 67, 3) := by decide +kernel
theorem dX5_takeFrom_146 : decode cX5_takeFrom 146 = .ok (.putfield 67, 3) := by decide +kernel
theorem dX5_takeFrom_149 : decode cX5_takeFrom 149 = .ok (.aload_n 0, 1) := by decide +kernel
theorem dX5_takeFrom_150 : decode cX5_takeFrom 150 = .ok (.aload_n 1, 1) := by decide +kernel
theorem dX5_takeFrom_151 : decode cX5_takeFrom 151 = .ok (.getfield 70, 3) := by decide +kernel
theorem dX5_takeFrom_154 : decode cX5_takeFrom 154 = .ok (.putfield 70, 3) := by decide +kernel
theorem dX5_takeFrom_157 : decode cX5_takeFrom 157 = .ok (.aload_n 0, 1) := by decide +kernel
theorem dX5_takeFrom_158 : decode cX5_takeFrom 158 = .ok (.aload_n 1, 1) := by decide +kernel
theorem dX5_takeFrom_159 : decode cX5_takeFrom 159 = .ok (.getfield 73, 3) := by decide +kernel
theorem dX5_takeFrom_162 : decode cX5_takeFrom 162 = .ok (.putfield 73, 3) := by decide +kernel
theorem dX5_takeFrom_165 : decode cX5_takeFrom 165 = .ok (.aload_n 1, 1) := by decide +kernel
theorem dX5_takeFrom_166 : decode cX5_takeFrom 166 = .ok (.getfield 21, 3) := by decide +kernel
theorem dX5_takeFrom_169 : decode cX5_takeFrom 169 = .ok (.aload_n 0, 1) := by decide +kernel
theorem dX5_takeFrom_170 : decode cX5_takeFrom 170 = .ok (.getfield 21, 3) := by decide +kernel
theorem dX5_takeFrom_173 : decode cX5_takeFrom 173 = .ok (.invokestatic 76, 3) := by decide +kernel
theorem dX5_takeFrom_176 : decode cX5_takeFrom 176 = .ok (.return_, 1) := by decide +kernel
theorem dX5_look_0 : decode cX5_look 0 = .ok (.iload_n 1, 1) := by decide +kernel
theorem dX5_look_1 : decode cX5_look 1 = .ok (.tableswitch 87 0 7 #[47, 52, 57, 62, 67, 72, 77, 82], 47) := by decide +kernel
theorem dX5_look_48 : decode cX5_look 48 = .ok (.aload_n 0, 1) := by decide +kernel
theorem dX5_look_49 : decode cX5_look 49 = .ok (.getfield 25, 3) := by decide +kernel
theorem dX5_look_52 : decode cX5_look 52 = .ok (.ireturn, 1) := by decide +kernel
theorem dX5_look_53 : decode cX5_look 53 = .ok (.aload_n 0, 1) := by decide +kernel
theorem dX5_look_54 : decode cX5_look 54 = .ok (.getfield 28, 3) := by decide +kernel
theorem dX5_look_57 : decode cX5_look 57 = .ok (.ireturn, 1) := by decide +kernel
theorem dX5_look_58 : decode cX5_look 58 = .ok (.aload_n 0, 1) := by decide +kernel
theorem dX5_look_59 : decode cX5_look 59 = .ok (.getfield 31, 3) := by decide +kernel
theorem dX5_look_62 : decode cX5_look 62 = .ok (.ireturn, 1) := by decide +kernel
theorem dX5_look_63 : decode cX5_look 63 = .ok (.aload_n 0, 1) := by decide +kernel
theorem dX5_look_64 : decode cX5_look 64 = .ok (.getfield 34, 3) := by decide +kernel
theorem dX5_look_67 : decode cX5_look 67 = .ok (.ireturn, 1) := by decide +kernel
theorem dX5_look_68 : decode cX5_look 68 = .ok (.aload_n 0, 1) := by decide +kernel
theorem dX5_look_69 : decode cX5_look 69 = .ok (.getfield 37, 3) := by decide +kernel
theorem dX5_look_72 : decode cX5_look 72 = .ok (.ireturn, 1) := by decide +kernel
theorem dX5_look_73 : decode cX5_look 73 = .ok (.aload_n 0, 1) := by decide +kernel
theorem dX5_look_74 : decode cX5_look 74 = .ok (.getfield 40, 3) := by decide +kernel
theorem dX5_look_77 : decode cX5_look 77 = .ok (.ireturn, 1) := by decide +kernel
theorem dX5_look_78 : decode cX5_look 78 = .ok (.aload_n 0, 1) := by decide +kernel
theorem dX5_look_79 : decode cX5_look 79 = .ok (.getfield 43, 3) := by decide +kernel
theorem dX5_look_82 : decode cX5_look 82 = .ok (.ireturn, 1) := by decide +kernel
theorem dX5_look_83 : decode cX5_look 83 = .ok (.aload_n 0, 1) := by decide +kernel
theorem dX5_look_84 : decode cX5_look 84 = .ok (.getfield 46, 3) := by decide +kernel
theorem dX5_look_87 : decode cX5_look 87 = .ok (.ireturn, 1) := by decide +kernel
theorem dX5_look_88 : decode cX5_look 88 = .ok (.aload_n 0, 1) := by decide +kernel
theorem dX5_look_89 : decode cX5_look 89 = .ok (.getfield 49, 3) := by decide +kernel
theorem dX5_look_92 : decode cX5_look 92 = .ok (.ireturn, 1) := by decide +kernel
theorem dX5_tallyMore_0 : decode cX5_tallyMore 0 = .ok (.aload_n 0, 1) := by decide +kernel
theorem dX5_tallyMore_1 : decode cX5_tallyMore 1 = .ok (.getfield 9, 3) := by decide +kernel
theorem dX5_tallyMore_4 : decode cX5_tallyMore 4 = .ok (.bipush 7, 2) := by decide +kernel
theorem dX5_tallyMore_6 : decode cX5_tallyMore 6 = .ok (.imul, 1) := by decide +kernel
theorem dX5_tallyMore_7 : decode cX5_tallyMore 7 = .ok (.iload_n 1, 1) := by decide +kernel
theorem dX5_tallyMore_8 : decode cX5_tallyMore 8 = .ok (.iadd, 1) := by decide +kernel
theorem dX5_tallyMore_9 : decode cX5_tallyMore 9 = .ok (.istore_n 3, 1) := by decide +kernel
theorem dX5_tallyMore_10 : decode cX5_tallyMore 10 = .ok (.iload_n 3, 1) := by decide +kernel
theorem dX5_tallyMore_11 : decode cX5_tallyMore 11 = .ok (.ifCond .lt 22, 3) := by decide +kernel
theorem dX5_tallyMore_14 : decode cX5_tallyMore 14 = .ok (.iload_n 3, 1) := by decide +kernel
theorem dX5_tallyMore_15 : decode cX5_tallyMore 15 = .ok (.aload_n 0, 1) := by decide +kernel
theorem dX5_tallyMore_16 : decode cX5_tallyMore 16 = .ok (.getfield 21, 3) := by decide +kernel
theorem dX5_tallyMore_19 : decode cX5_tallyMore 19 = .ok (.arraylength, 1) := by decide +kernel
theorem dX5_tallyMore_20 : decode cX5_tallyMore 20 = .ok (.if_icmp .ge 13, 3) := by decide +kernel
theorem dX5_tallyMore_23 : decode cX5_tallyMore 23 = .ok (.aload_n 0, 1) := by decide +kernel
theorem dX5_tallyMore_24 : decode cX5_tallyMore 24 = .ok (.getfield 21, 3) := by decide +kernel
theorem dX5_tallyMore_27 : decode cX5_tallyMore 27 = .ok (.iload_n 3, 1) := by decide +kernel
theorem dX5_tallyMore_28 : decode cX5_tallyMore 28 = .ok (.dup2, 1) := by decide +kernel
theorem dX5_tallyMore_29 : decode cX5_tallyMore 29 = .ok (.iaload, 1) := by decide +kernel
theorem dX5_tallyMore_30 : decode cX5_tallyMore 30 = .ok (.iload_n 2, 1) := by decide +kernel
theorem dX5_tallyMore_31 : decode cX5_tallyMore 31 = .ok (.iadd, 1) := by decide +kernel
theorem dX5_tallyMore_32 : decode cX5_tallyMore 32 = .ok (.iastore, 1) := by decide +kernel
theorem dX5_tallyMore_33 : decode cX5_tallyMore 33 = .ok (.return_, 1) := by decide +kernel
theorem dX5_tallied_0 : decode cX5_tallied 0 = .ok (.aload_n 0, 1) := by decide +kernel
theorem dX5_tallied_1 : decode cX5_tallied 1 = .ok (.getfield 21, 3) := by decide +kernel
theorem dX5_tallied_4 : decode cX5_tallied 4 = .ok (.iload_n 1, 1) := by decide +kernel
theorem dX5_tallied_5 : decode cX5_tallied 5 = .ok (.bipush 7, 2) := by decide +kernel
theorem dX5_tallied_7 : decode cX5_tallied 7 = .ok (.imul, 1) := by decide +kernel
theorem dX5_tallied_8 : decode cX5_tallied 8 = .ok (.iload_n 2, 1) := by decide +kernel
theorem dX5_tallied_9 : decode cX5_tallied 9 = .ok (.iadd, 1) := by decide +kernel
theorem dX5_tallied_10 : decode cX5_tallied 10 = .ok (.invokestatic 80, 3) := by decide +kernel
theorem dX5_tallied_13 : decode cX5_tallied 13 = .ok (.ireturn, 1) := by decide +kernel
theorem dX5_allTallied_0 : decode cX5_allTallied 0 = .ok (.iconst 0, 1) := by decide +kernel
theorem dX5_allTallied_1 : decode cX5_allTallied 1 = .ok (.istore_n 2, 1) := by decide +kernel
theorem dX5_allTallied_2 : decode cX5_allTallied 2 = .ok (.iconst 0, 1) := by decide +kernel
theorem dX5_allTallied_3 : decode cX5_allTallied 3 = .ok (.istore_n 3, 1) := by decide +kernel
theorem dX5_allTallied_4 : decode cX5_allTallied 4 = .ok (.iload_n 3, 1) := by decide +kernel
theorem dX5_allTallied_5 : decode cX5_allTallied 5 = .ok (.bipush 6, 2) := by decide +kernel
theorem dX5_allTallied_7 : decode cX5_allTallied 7 = .ok (.if_icmp .ge 18, 3) := by decide +kernel
theorem dX5_allTallied_10 : decode cX5_allTallied 10 = .ok (.iload_n 2, 1) := by decide +kernel
theorem dX5_allTallied_11 : decode cX5_allTallied 11 = .ok (.aload_n 0, 1) := by decide +kernel
theorem dX5_allTallied_12 : decode cX5_allTallied 12 = .ok (.iload_n 3, 1) := by decide +kernel
theorem dX5_allTallied_13 : decode cX5_allTallied 13 = .ok (.iload_n 1, 1) := by decide +kernel
theorem dX5_allTallied_14 : decode cX5_allTallied 14 = .ok (.invokevirtual 84, 3) := by decide +kernel
theorem dX5_allTallied_17 : decode cX5_allTallied 17 = .ok (.iadd, 1) := by decide +kernel
theorem dX5_allTallied_18 : decode cX5_allTallied 18 = .ok (.istore_n 2, 1) := by decide +kernel
theorem dX5_allTallied_19 : decode cX5_allTallied 19 = .ok (.iinc 3 1, 3) := by decide +kernel
theorem dX5_allTallied_22 : decode cX5_allTallied 22 = .ok (.goto (-18), 3) := by decide +kernel
theorem dX5_allTallied_25 : decode cX5_allTallied 25 = .ok (.iload_n 2, 1) := by decide +kernel
theorem dX5_allTallied_26 : decode cX5_allTallied 26 = .ok (.ireturn, 1) := by decide +kernel
theorem dX6_init_0 : decode cX6_init 0 = .ok (.aload_n 0, 1) := by decide +kernel
theorem dX6_init_1 : decode cX6_init 1 = .ok (.invokespecial 3, 3) := by decide +kernel
theorem dX6_init_4 : decode cX6_init 4 = .ok (.aload_n 0, 1) := by decide +kernel
theorem dX6_init_5 : decode cX6_init 5 = .ok (.bipush 6, 2) := by decide +kernel
theorem dX6_init_7 : decode cX6_init 7 = .ok (.newarray .long, 2) := by decide +kernel
theorem dX6_init_9 : decode cX6_init 9 = .ok (.putfield 9, 3) := by decide +kernel
theorem dX6_init_12 : decode cX6_init 12 = .ok (.aload_n 0, 1) := by decide +kernel
theorem dX6_init_13 : decode cX6_init 13 = .ok (.bipush 6, 2) := by decide +kernel
theorem dX6_init_15 : decode cX6_init 15 = .ok (.newarray .int, 2) := by decide +kernel
theorem dX6_init_17 : decode cX6_init 17 = .ok (.putfield 15, 3) := by decide +kernel
theorem dX6_init_20 : decode cX6_init 20 = .ok (.aload_n 0, 1) := by decide +kernel
theorem dX6_init_21 : decode cX6_init 21 = .ok (.bipush 6, 2) := by decide +kernel
theorem dX6_init_23 : decode cX6_init 23 = .ok (.newarray .int, 2) := by decide +kernel
theorem dX6_init_25 : decode cX6_init 25 = .ok (.putfield 19, 3) := by decide +kernel
theorem dX6_init_28 : decode cX6_init 28 = .ok (.aload_n 0, 1) := by decide +kernel
theorem dX6_init_29 : decode cX6_init 29 = .ok (.bipush 6, 2) := by decide +kernel
theorem dX6_init_31 : decode cX6_init 31 = .ok (.newarray .int, 2) := by decide +kernel
theorem dX6_init_33 : decode cX6_init 33 = .ok (.putfield 22, 3) := by decide +kernel
theorem dX6_init_36 : decode cX6_init 36 = .ok (.aload_n 0, 1) := by decide +kernel
theorem dX6_init_37 : decode cX6_init 37 = .ok (.bipush 6, 2) := by decide +kernel
theorem dX6_init_39 : decode cX6_init 39 = .ok (.newarray .int, 2) := by decide +kernel
theorem dX6_init_41 : decode cX6_init 41 = .ok (.putfield 25, 3) := by decide +kernel
theorem dX6_init_44 : decode cX6_init 44 = .ok (.aload_n 0, 1) := by decide +kernel
theorem dX6_init_45 : decode cX6_init 45 = .ok (.bipush 6, 2) := by decide +kernel
theorem dX6_init_47 : decode cX6_init 47 = .ok (.newarray .int, 2) := by decide +kernel
theorem dX6_init_49 : decode cX6_init 49 = .ok (.putfield 28, 3) := by decide +kernel
theorem dX6_init_52 : decode cX6_init 52 = .ok (.aload_n 0, 1) := by decide +kernel
theorem dX6_init_53 : decode cX6_init 53 = .ok (.new 31, 3) := by decide +kernel
theorem dX6_init_56 : decode cX6_init 56 = .ok (.dup, 1) := by decide +kernel
theorem dX6_init_57 : decode cX6_init 57 = .ok (.invokespecial 33, 3) := by decide +kernel
theorem dX6_init_60 : decode cX6_init 60 = .ok (.putfield 34, 3) := by decide +kernel
theorem dX6_init_63 : decode cX6_init 63 = .ok (.return_, 1) := by decide +kernel
theorem dX6_begin_0 : decode cX6_begin 0 = .ok (.aload_n 0, 1) := by decide +kernel
theorem dX6_begin_1 : decode cX6_begin 1 = .ok (.iconst 0, 1) := by decide +kernel
theorem dX6_begin_2 : decode cX6_begin 2 = .ok (.iconst 0, 1) := by decide +kernel
theorem dX6_begin_3 : decode cX6_begin 3 = .ok (.iconst 0, 1) := by decide +kernel
theorem dX6_begin_4 : decode cX6_begin 4 = .ok (.iconst 0, 1) := by decide +kernel
theorem dX6_begin_5 : decode cX6_begin 5 = .ok (.invokevirtual 38, 3) := by decide +kernel
theorem dX6_begin_8 : decode cX6_begin 8 = .ok (.aload_n 0, 1) := by decide +kernel
theorem dX6_begin_9 : decode cX6_begin 9 = .ok (.bipush 20, 2) := by decide +kernel
theorem dX6_begin_11 : decode cX6_begin 11 = .ok (.putfield 42, 3) := by decide +kernel
theorem dX6_begin_14 : decode cX6_begin 14 = .ok (.aload_n 0, 1) := by decide +kernel
theorem dX6_begin_15 : decode cX6_begin 15 = .ok (.bipush 30, 2) := by decide +kernel
theorem dX6_begin_17 : decode cX6_begin 17 = .ok (.putfield 46, 3) := by decide +kernel
theorem dX6_begin_20 : decode cX6_begin 20 = .ok (.aload_n 0, 1) := by decide +kernel
theorem dX6_begin_21 : decode cX6_begin 21 = .ok (.iconst 0, 1) := by decide +kernel
theorem dX6_begin_22 : decode cX6_begin 22 = .ok (.putfield 49, 3) := by decide +kernel
theorem dX6_begin_25 : decode cX6_begin 25 = .ok (.aload_n 0, 1) := by decide +kernel
theorem dX6_begin_26 : decode cX6_begin 26 = .ok (.iconst 0, 1) := by decide +kernel
theorem dX6_begin_27 : decode cX6_begin 27 = .ok (.putfield 52, 3) := by decide +kernel
theorem dX6_begin_30 : decode cX6_begin 30 = .ok (.aload_n 0, 1) := by decide +kernel
theorem dX6_begin_31 : decode cX6_begin 31 = .ok (.getfield 34, 3) := by decide +kernel
theorem dX6_begin_34 : decode cX6_begin 34 = .ok (.invokevirtual 55, 3) := by decide +kernel
theorem dX6_begin_37 : decode cX6_begin 37 = .ok (.return_, 1) := by decide +kernel
theorem dX6_tellBaby_0 : decode cX6_tellBaby 0 = .ok (.aload_n 0, 1) := by decide +kernel
theorem dX6_tellBaby_1 : decode cX6_tellBaby 1 = .ok (.iload_n 1, 1) := by decide +kernel
theorem dX6_tellBaby_2 : decode cX6_tellBaby 2 = .ok (.putfield 58, 3) := by decide +kernel
theorem dX6_tellBaby_5 : decode cX6_tellBaby 5 = .ok (.aload_n 0, 1) := by decide +kernel
theorem dX6_tellBaby_6 : decode cX6_tellBaby 6 = .ok (.iload_n 2, 1) := by decide +kernel
theorem dX6_tellBaby_7 : decode cX6_tellBaby 7 = .ok (.putfield 61, 3) := by decide +kernel
theorem dX6_tellBaby_10 : decode cX6_tellBaby 10 = .ok (.aload_n 0, 1) := by decide +kernel
theorem dX6_tellBaby_11 : decode cX6_tellBaby 11 = .ok (.iload_n 3, 1) := by decide +kernel
theorem dX6_tellBaby_12 : decode cX6_tellBaby 12 = .ok (.putfield 64, 3) := by decide +kernel
theorem dX6_tellBaby_15 : decode cX6_tellBaby 15 = .ok (.aload_n 0, 1) := by decide +kernel
theorem dX6_tellBaby_16 : decode cX6_tellBaby 16 = .ok (.iload 4, 2) := by decide +kernel
theorem dX6_tellBaby_18 : decode cX6_tellBaby 18 = .ok (.putfield 67, 3) := by decide +kernel
theorem dX6_tellBaby_21 : decode cX6_tellBaby 21 = .ok (.return_, 1) := by decide +kernel
theorem dX6_tellAunt_0 : decode cX6_tellAunt 0 = .ok (.aload_n 0, 1) := by decide +kernel
theorem dX6_tellAunt_1 : decode cX6_tellAunt 1 = .ok (.getfield 52, 3) := by decide +kernel
theorem dX6_tellAunt_4 : decode cX6_tellAunt 4 = .ok (.ifCond .lt 25, 3) := by decide +kernel
theorem dX6_tellAunt_7 : decode cX6_tellAunt 7 = .ok (.aload_n 0, 1) := by decide +kernel
theorem dX6_tellAunt_8 : decode cX6_tellAunt 8 = .ok (.getfield 52, 3) := by decide +kernel
theorem dX6_tellAunt_11 : decode cX6_tellAunt 11 = .ok (.aload_n 0, 1) := by decide +kernel
theorem dX6_tellAunt_12 : decode cX6_tellAunt 12 = .ok (.getfield 9, 3) := by decide +kernel
theorem dX6_tellAunt_15 : decode cX6_tellAunt 15 = .ok (.arraylength, 1) := by decide +kernel
theorem dX6_tellAunt_16 : decode cX6_tellAunt 16 = .ok (.if_icmp .ge 13, 3) := by decide +kernel
theorem dX6_tellAunt_19 : decode cX6_tellAunt 19 = .ok (.aload_n 0, 1) := by decide +kernel
theorem dX6_tellAunt_20 : decode cX6_tellAunt 20 = .ok (.getfield 9, 3) := by decide +kernel
theorem dX6_tellAunt_23 : decode cX6_tellAunt 23 = .ok (.aload_n 0, 1) := by decide +kernel
theorem dX6_tellAunt_24 : decode cX6_tellAunt 24 = .ok (.getfield 52, 3) := by decide +kernel
theorem dX6_tellAunt_27 : decode cX6_tellAunt 27 = .ok (.lload_n 1, 1) := by decide +kernel
theorem dX6_tellAunt_28 : decode cX6_tellAunt 28 = .ok (.lastore, 1) := by decide +kernel
theorem dX6_tellAunt_29 : decode cX6_tellAunt 29 = .ok (.aload_n 0, 1) := by decide +kernel
theorem dX6_tellAunt_30 : decode cX6_tellAunt 30 = .ok (.getfield 15, 3) := by decide +kernel
theorem dX6_tellAunt_33 : decode cX6_tellAunt 33 = .ok (.aload_n 0, 1) := by decide +kernel
theorem dX6_tellAunt_34 : decode cX6_tellAunt 34 = .ok (.getfield 52, 3) := by decide +kernel
theorem dX6_tellAunt_37 : decode cX6_tellAunt 37 = .ok (.aload_n 3, 1) := by decide +kernel
theorem dX6_tellAunt_38 : decode cX6_tellAunt 38 = .ok (.iconst 0, 1) := by decide +kernel
theorem dX6_tellAunt_39 : decode cX6_tellAunt 39 = .ok (.invokestatic 70, 3) := by decide +kernel
theorem dX6_tellAunt_42 : decode cX6_tellAunt 42 = .ok (.invokestatic 74, 3) := by decide +kernel
theorem dX6_tellAunt_45 : decode cX6_tellAunt 45 = .ok (.aload_n 0, 1) := by decide +kernel
theorem dX6_tellAunt_46 : decode cX6_tellAunt 46 = .ok (.getfield 19, 3) := by decide +kernel
theorem dX6_tellAunt_49 : decode cX6_tellAunt 49 = .ok (.aload_n 0, 1) := by decide +kernel
theorem dX6_tellAunt_50 : decode cX6_tellAunt 50 = .ok (.getfield 52, 3) := by decide +kernel
theorem dX6_tellAunt_53 : decode cX6_tellAunt 53 = .ok (.aload_n 3, 1) := by decide +kernel
theorem dX6_tellAunt_54 : decode cX6_tellAunt 54 = .ok (.iconst 1, 1) := by decide +kernel
theorem dX6_tellAunt_55 : decode cX6_tellAunt 55 = .ok (.invokestatic 70, 3) := by decide +kernel
theorem dX6_tellAunt_58 : decode cX6_tellAunt 58 = .ok (.invokestatic 74, 3) := by decide +kernel
theorem dX6_tellAunt_61 : decode cX6_tellAunt 61 = .ok (.aload_n 0, 1) := by decide +kernel
theorem dX6_tellAunt_62 : decode cX6_tellAunt 62 = .ok (.getfield 22, 3) := by decide +kernel
theorem dX6_tellAunt_65 : decode cX6_tellAunt 65 = .ok (.aload_n 0, 1) := by decide +kernel
theorem dX6_tellAunt_66 : decode cX6_tellAunt 66 = .ok (.getfield 52, 3) := by decide +kernel
theorem dX6_tellAunt_69 : decode cX6_tellAunt 69 = .ok (.aload_n 3, 1) := by decide +kernel
theorem dX6_tellAunt_70 : decode cX6_tellAunt 70 = .ok (.iconst 2, 1) := by decide +kernel
theorem dX6_tellAunt_71 : decode cX6_tellAunt 71 = .ok (.invokestatic 70, 3) := by decide +kernel
theorem dX6_tellAunt_74 : decode cX6_tellAunt 74 = .ok (.invokestatic 74, 3) := by decide +kernel
theorem dX6_tellAunt_77 : decode cX6_tellAunt 77 = .ok (.aload_n 0, 1) := by decide +kernel
theorem dX6_tellAunt_78 : decode cX6_tellAunt 78 = .ok (.getfield 25, 3) := by decide +kernel
theorem dX6_tellAunt_81 : decode cX6_tellAunt 81 = .ok (.aload_n 0, 1) := by decide +kernel
theorem dX6_tellAunt_82 : decode cX6_tellAunt 82 = .ok (.getfield 52, 3) := by decide +kernel
theorem dX6_tellAunt_85 : decode cX6_tellAunt 85 = .ok (.aload_n 3, 1) := by decide +kernel
theorem dX6_tellAunt_86 : decode cX6_tellAunt 86 = .ok (.iconst 3, 1) := by decide +kernel
theorem dX6_tellAunt_87 : decode cX6_tellAunt 87 = .ok (.invokestatic 70, 3) := by decide +kernel
theorem dX6_tellAunt_90 : decode cX6_tellAunt 90 = .ok (.invokestatic 74, 3) := by decide +kernel
theorem dX6_tellAunt_93 : decode cX6_tellAunt 93 = .ok (.aload_n 0, 1) := by decide +kernel
theorem dX6_tellAunt_94 : decode cX6_tellAunt 94 = .ok (.getfield 28, 3) := by decide +kernel
theorem dX6_tellAunt_97 : decode cX6_tellAunt 97 = .ok (.aload_n 0, 1) := by decide +kernel
theorem dX6_tellAunt_98 : decode cX6_tellAunt 98 = .ok (.getfield 52, 3) := by decide +kernel
theorem dX6_tellAunt_101 : decode cX6_tellAunt 101 = .ok (.iload 4, 2) := by decide +kernel
theorem dX6_tellAunt_103 : decode cX6_tellAunt 103 = .ok (.ifCond .eq 7, 3) := by decide +kernel
theorem dX6_tellAunt_106 : decode cX6_tellAunt 106 = .ok (.iconst 1, 1) := by decide +kernel
theorem dX6_tellAunt_107 : decode cX6_tellAunt 107 = .ok (.goto 4, 3) := by decide +kernel
theorem dX6_tellAunt_110 : decode cX6_tellAunt 110 = .ok (.iconst 0, 1) := by decide +kernel
theorem dX6_tellAunt_111 : decode cX6_tellAunt 111 = .ok (.invokestatic 74, 3) := by decide +kernel
theorem dX6_tellAunt_114 : decode cX6_tellAunt 114 = .ok (.aload_n 0, 1) := by decide +kernel
theorem dX6_tellAunt_115 : decode cX6_tellAunt 115 = .ok (.dup, 1) := by decide +kernel
theorem dX6_tellAunt_116 : decode cX6_tellAunt 116 = .ok (.getfield 52, 3) := by decide +kernel
theorem dX6_tellAunt_119 : decode cX6_tellAunt 119 = .ok (.iconst 1, 1) := by decide +kernel
theorem dX6_tellAunt_120 : decode cX6_tellAunt 120 = .ok (.iadd, 1) := by decide +kernel
theorem dX6_tellAunt_121 : decode cX6_tellAunt 121 = .ok (.putfield 52, 3) := by decide +kernel
theorem dX6_tellAunt_124 : decode cX6_tellAunt 124 = .ok (.return_, 1) := by decide +kernel
theorem dX6_knows_0 : decode cX6_knows 0 = .ok (.iconst 0, 1) := by decide +kernel
theorem dX6_knows_1 : decode cX6_knows 1 = .ok (.istore_n 3, 1) := by decide +kernel
theorem dX6_knows_2 : decode cX6_knows 2 = .ok (.iload_n 3, 1) := by decide +kernel
theorem dX6_knows_3 : decode cX6_knows 3 = .ok (.aload_n 0, 1) := by decide +kernel
theorem dX6_knows_4 : decode cX6_knows 4 = .ok (.getfield 52, 3) := by decide +kernel
theorem dX6_knows_7 : decode cX6_knows 7 = .ok (.if_icmp .ge 31, 3) := by decide +kernel
theorem dX6_knows_10 : decode cX6_knows 10 = .ok (.iload_n 3, 1) := by decide +kernel
theorem dX6_knows_11 : decode cX6_knows 11 = .ok (.aload_n 0, 1) := by decide +kernel
theorem dX6_knows_12 : decode cX6_knows 12 = .ok (.getfield 9, 3) := by decide +kernel
theorem dX6_knows_15 : decode cX6_knows 15 = .ok (.arraylength, 1) := by decide +kernel
theorem dX6_knows_16 : decode cX6_knows 16 = .ok (.if_icmp .ge 22, 3) := by decide +kernel
theorem dX6_knows_19 : decode cX6_knows 19 = .ok (.aload_n 0, 1) := by decide +kernel
theorem dX6_knows_20 : decode cX6_knows 20 = .ok (.getfield 9, 3) := by decide +kernel
theorem dX6_knows_23 : decode cX6_knows 23 = .ok (.iload_n 3, 1) := by decide +kernel
theorem dX6_knows_24 : decode cX6_knows 24 = .ok (.laload, 1) := by decide +kernel
theorem dX6_knows_25 : decode cX6_knows 25 = .ok (.lload_n 1, 1) := by decide +kernel
theorem dX6_knows_26 : decode cX6_knows 26 = .ok (.lcmp, 1) := by decide +kernel
theorem dX6_knows_27 : decode cX6_knows 27 = .ok (.ifCond .ne 5, 3) := by decide +kernel
theorem dX6_knows_30 : decode cX6_knows 30 = .ok (.iconst 1, 1) := by decide +kernel
theorem dX6_knows_31 : decode cX6_knows 31 = .ok (.ireturn, 1) := by decide +kernel
theorem dX6_knows_32 : decode cX6_knows 32 = .ok (.iinc 3 1, 3) := by decide +kernel
theorem dX6_knows_35 : decode cX6_knows 35 = .ok (.goto (-33), 3) := by decide +kernel
theorem dX6_knows_38 : decode cX6_knows 38 = .ok (.iconst 0, 1) := by decide +kernel
theorem dX6_knows_39 : decode cX6_knows 39 = .ok (.ireturn, 1) := by decide +kernel
theorem dX6_takeFrom_0 : decode cX6_takeFrom 0 = .ok (.aload_n 0, 1) := by decide +kernel
theorem dX6_takeFrom_1 : decode cX6_takeFrom 1 = .ok (.aload_n 1, 1) := by decide +kernel
theorem dX6_takeFrom_2 : decode cX6_takeFrom 2 = .ok (.getfield 58, 3) := by decide +kernel
theorem dX6_takeFrom_5 : decode cX6_takeFrom 5 = .ok (.aload_n 1, 1) := by decide +kernel
theorem dX6_takeFrom_6 : decode cX6_takeFrom 6 = .ok (.getfield 61, 3) := by decide +kernel
theorem dX6_takeFrom_9 : decode cX6_takeFrom 9 = .ok (.aload_n 1, 1) := by decide +kernel
theorem dX6_takeFrom_10 : decode cX6_takeFrom 10 = .ok (.getfield 64, 3) := by decide +kernel
theorem dX6_takeFrom_13 : decode cX6_takeFrom 13 = .ok (.aload_n 1, 1) := by decide +kernel
theorem dX6_takeFrom_14 : decode cX6_takeFrom 14 = .ok (.getfield 67, 3) := by decide +kernel
theorem dX6_takeFrom_17 : decode cX6_takeFrom 17 = .ok (.invokevirtual 38, 3) := by decide +kernel
theorem dX6_takeFrom_20 : decode cX6_takeFrom 20 = .ok (.aload_n 0, 1) := by decide +kernel
theorem dX6_takeFrom_21 : decode cX6_takeFrom 21 = .ok (.aload_n 1, 1) := by decide +kernel
theorem dX6_takeFrom_22 : decode cX6_takeFrom 22 = .ok (.getfield 42, 3) := by decide +kernel
theorem dX6_takeFrom_25 : decode cX6_takeFrom 25 = .ok (.putfield 42, 3) := by decide +kernel
theorem dX6_takeFrom_28 : decode cX6_takeFrom 28 = .ok (.aload_n 0, 1) := by decide +kernel
theorem dX6_takeFrom_29 : decode cX6_takeFrom 29 = .ok (.aload_n 1, 1) := by decide +kernel
theorem dX6_takeFrom_30 : decode cX6_takeFrom 30 = .ok (.getfield 46, 3) := by decide +kernel
theorem dX6_takeFrom_33 : decode cX6_takeFrom 33 = .ok (.putfield 46, 3) := by decide +kernel
theorem dX6_takeFrom_36 : decode cX6_takeFrom 36 = .ok (.aload_n 0, 1) := by decide +kernel
theorem dX6_takeFrom_37 : decode cX6_takeFrom 37 = .ok (.aload_n 1, 1) := by decide +kernel
theorem dX6_takeFrom_38 : decode cX6_takeFrom 38 = .ok (.getfield 49, 3) := by decide +kernel
theorem dX6_takeFrom_41 : decode cX6_takeFrom 41 = .ok (.putfield 49, 3) := by decide +kernel
theorem dX6_takeFrom_44 : decode cX6_takeFrom 44 = .ok (.aload_n 0, 1) := by decide +kernel
theorem dX6_takeFrom_45 : decode cX6_takeFrom 45 = .ok (.aload_n 1, 1) := by decide +kernel
theorem dX6_takeFrom_46 : decode cX6_takeFrom 46 = .ok (.getfield 52, 3) := by decide +kernel
theorem dX6_takeFrom_49 : decode cX6_takeFrom 49 = .ok (.putfield 52, 3) := by decide +kernel
theorem dX6_takeFrom_52 : decode cX6_takeFrom 52 = .ok (.aload_n 1, 1) := by decide +kernel
theorem dX6_takeFrom_53 : decode cX6_takeFrom 53 = .ok (.getfield 15, 3) := by decide +kernel
theorem dX6_takeFrom_56 : decode cX6_takeFrom 56 = .ok (.aload_n 0, 1) := by decide +kernel
theorem dX6_takeFrom_57 : decode cX6_takeFrom 57 = .ok (.getfield 15, 3) := by decide +kernel
theorem dX6_takeFrom_60 : decode cX6_takeFrom 60 = .ok (.invokestatic 78, 3) := by decide +kernel
theorem dX6_takeFrom_63 : decode cX6_takeFrom 63 = .ok (.aload_n 1, 1) := by decide +kernel
theorem dX6_takeFrom_64 : decode cX6_takeFrom 64 = .ok (.getfield 19, 3) := by decide +kernel
theorem dX6_takeFrom_67 : decode cX6_takeFrom 67 = .ok (.aload_n 0, 1) := by decide +kernel
theorem dX6_takeFrom_68 : decode cX6_takeFrom 68 = .ok (.getfield 19, 3) := by decide +kernel
theorem dX6_takeFrom_71 : decode cX6_takeFrom 71 = .ok (.invokestatic 78, 3) := by decide +kernel
theorem dX6_takeFrom_74 : decode cX6_takeFrom 74 = .ok (.aload_n 1, 1) := by decide +kernel
theorem dX6_takeFrom_75 : decode cX6_takeFrom 75 = .ok (.getfield 22, 3) := by decide +kernel
theorem dX6_takeFrom_78 : decode cX6_takeFrom 78 = .ok (.aload_n 0, 1) := by decide +kernel
theorem dX6_takeFrom_79 : decode cX6_takeFrom 79 = .ok (.getfield 22, 3) := by decide +kernel
theorem dX6_takeFrom_82 : decode cX6_takeFrom 82 = .ok (.invokestatic 78, 3) := by decide +kernel
theorem dX6_takeFrom_85 : decode cX6_takeFrom 85 = .ok (.aload_n 1, 1) := by decide +kernel
theorem dX6_takeFrom_86 : decode cX6_takeFrom 86 = .ok (.getfield 25, 3) := by decide +kernel
theorem dX6_takeFrom_89 : decode cX6_takeFrom 89 = .ok (.aload_n 0, 1) := by decide +kernel
theorem dX6_takeFrom_90 : decode cX6_takeFrom 90 = .ok (.getfield 25, 3) := by decide +kernel
theorem dX6_takeFrom_93 : decode cX6_takeFrom 93 = .ok (.invokestatic 78, 3) := by decide +kernel
theorem dX6_takeFrom_96 : decode cX6_takeFrom 96 = .ok (.aload_n 1, 1) := by decide +kernel
theorem dX6_takeFrom_97 : decode cX6_takeFrom 97 = .ok (.getfield 28, 3) := by decide +kernel
theorem dX6_takeFrom_100 : decode cX6_takeFrom 100 = .ok (.aload_n 0, 1) := by decide +kernel
theorem dX6_takeFrom_101 : decode cX6_takeFrom 101 = .ok (.getfield 28, 3) := by decide +kernel
theorem dX6_takeFrom_104 : decode cX6_takeFrom 104 = .ok (.invokestatic 78, 3) := by decide +kernel
theorem dX6_takeFrom_107 : decode cX6_takeFrom 107 = .ok (.aload_n 0, 1) := by decide +kernel
theorem dX6_takeFrom_108 : decode cX6_takeFrom 108 = .ok (.getfield 34, 3) := by decide +kernel
theorem dX6_takeFrom_111 : decode cX6_takeFrom 111 = .ok (.aload_n 1, 1) := by decide +kernel
theorem dX6_takeFrom_112 : decode cX6_takeFrom 112 = .ok (.getfield 34, 3) := by decide +kernel
theorem dX6_takeFrom_115 : decode cX6_takeFrom 115 = .ok (.invokevirtual 82, 3) := by decide +kernel
theorem dX6_takeFrom_118 : decode cX6_takeFrom 118 = .ok (.return_, 1) := by decide +kernel
theorem dX7_init_0 : decode cX7_init 0 = .ok (.aload_n 0, 1) := by decide +kernel
theorem dX7_init_1 : decode cX7_init 1 = .ok (.invokespecial 3, 3) := by decide +kernel
theorem dX7_init_4 : decode cX7_init 4 = .ok (.aload_n 0, 1) := by decide +kernel
theorem dX7_init_5 : decode cX7_init 5 = .ok (.bipush 50, 2) := by decide +kernel
theorem dX7_init_7 : decode cX7_init 7 = .ok (.anewarray 9, 3) := by decide +kernel
theorem dX7_init_10 : decode cX7_init 10 = .ok (.putfield 11, 3) := by decide +kernel
theorem dX7_init_13 : decode cX7_init 13 = .ok (.iconst 0, 1) := by decide +kernel
theorem dX7_init_14 : decode cX7_init 14 = .ok (.istore_n 1, 1) := by decide +kernel
theorem dX7_init_15 : decode cX7_init 15 = .ok (.iload_n 1, 1) := by decide +kernel
theorem dX7_init_16 : decode cX7_init 16 = .ok (.aload_n 0, 1) := by decide +kernel
theorem dX7_init_17 : decode cX7_init 17 = .ok (.getfield 11, 3) := by decide +kernel
theorem dX7_init_20 : decode cX7_init 20 = .ok (.arraylength, 1) := by decide +kernel
theorem dX7_init_21 : decode cX7_init 21 = .ok (.if_icmp .ge 22, 3) := by decide +kernel
theorem dX7_init_24 : decode cX7_init 24 = .ok (.aload_n 0, 1) := by decide +kernel
theorem dX7_init_25 : decode cX7_init 25 = .ok (.getfield 11, 3) := by decide +kernel
theorem dX7_init_28 : decode cX7_init 28 = .ok (.iload_n 1, 1) := by decide +kernel
theorem dX7_init_29 : decode cX7_init 29 = .ok (.new 9, 3) := by decide +kernel
theorem dX7_init_32 : decode cX7_init 32 = .ok (.dup, 1) := by decide +kernel
theorem dX7_init_33 : decode cX7_init 33 = .ok (.invokespecial 17, 3) := by decide +kernel
theorem dX7_init_36 : decode cX7_init 36 = .ok (.aastore, 1) := by decide +kernel
theorem dX7_init_37 : decode cX7_init 37 = .ok (.iinc 1 1, 3) := by decide +kernel
theorem dX7_init_40 : decode cX7_init 40 = .ok (.goto (-25), 3) := by decide +kernel
theorem dX7_init_43 : decode cX7_init 43 = .ok (.return_, 1) := by decide +kernel
theorem dX7_begin_0 : decode cX7_begin 0 = .ok (.aload_n 0, 1) := by decide +kernel
theorem dX7_begin_1 : decode cX7_begin 1 = .ok (.iconst 0, 1) := by decide +kernel
theorem dX7_begin_2 : decode cX7_begin 2 = .ok (.putfield 18, 3) := by decide +kernel
theorem dX7_begin_5 : decode cX7_begin 5 = .ok (.aload_n 0, 1) := by decide +kernel
theorem dX7_begin_6 : decode cX7_begin 6 = .ok (.iconst 0, 1) := by decide +kernel
theorem dX7_begin_7 : decode cX7_begin 7 = .ok (.putfield 22, 3) := by decide +kernel
theorem dX7_begin_10 : decode cX7_begin 10 = .ok (.aload_n 0, 1) := by decide +kernel
theorem dX7_begin_11 : decode cX7_begin 11 = .ok (.dup, 1) := by decide +kernel
theorem dX7_begin_12 : decode cX7_begin 12 = .ok (.getfield 25, 3) := by decide +kernel
theorem dX7_begin_15 : decode cX7_begin 15 = .ok (.iconst 1, 1) := by decide +kernel
theorem dX7_begin_16 : decode cX7_begin 16 = .ok (.iadd, 1) := by decide +kernel
theorem dX7_begin_17 : decode cX7_begin 17 = .ok (.putfield 25, 3) := by decide +kernel
theorem dX7_begin_20 : decode cX7_begin 20 = .ok (.return_, 1) := by decide +kernel
theorem dX7_note_0 : decode cX7_note 0 = .ok (.aload_n 0, 1) := by decide +kernel
theorem dX7_note_1 : decode cX7_note 1 = .ok (.dup, 1) := by decide +kernel
theorem dX7_note_2 : decode cX7_note 2 = .ok (.getfield 25, 3) := by decide +kernel
theorem dX7_note_5 : decode cX7_note 5 = .ok (.iconst 1, 1) := by decide +kernel
theorem dX7_note_6 : decode cX7_note 6 = .ok (.iadd, 1) := by decide +kernel
theorem dX7_note_7 : decode cX7_note 7 = .ok (.putfield 25, 3) := by decide +kernel
theorem dX7_note_10 : decode cX7_note 10 = .ok (.aload_n 0, 1) := by decide +kernel
theorem dX7_note_11 : decode cX7_note 11 = .ok (.getfield 22, 3) := by decide +kernel
theorem dX7_note_14 : decode cX7_note 14 = .ok (.ifCond .lt 40, 3) := by decide +kernel
theorem dX7_note_17 : decode cX7_note 17 = .ok (.aload_n 0, 1) := by decide +kernel
theorem dX7_note_18 : decode cX7_note 18 = .ok (.getfield 22, 3) := by decide +kernel
theorem dX7_note_21 : decode cX7_note 21 = .ok (.aload_n 0, 1) := by decide +kernel
theorem dX7_note_22 : decode cX7_note 22 = .ok (.getfield 11, 3) := by decide +kernel
theorem dX7_note_25 : decode cX7_note 25 = .ok (.arraylength, 1) := by decide +kernel
theorem dX7_note_26 : decode cX7_note 26 = .ok (.if_icmp .ge 28, 3) := by decide +kernel
theorem dX7_note_29 : decode cX7_note 29 = .ok (.aload_n 0, 1) := by decide +kernel
theorem dX7_note_30 : decode cX7_note 30 = .ok (.getfield 11, 3) := by decide +kernel
theorem dX7_note_33 : decode cX7_note 33 = .ok (.aload_n 0, 1) := by decide +kernel
theorem dX7_note_34 : decode cX7_note 34 = .ok (.getfield 22, 3) := by decide +kernel
theorem dX7_note_37 : decode cX7_note 37 = .ok (.aaload, 1) := by decide +kernel
theorem dX7_note_38 : decode cX7_note 38 = .ok (.ifnull 16, 3) := by decide +kernel
theorem dX7_note_41 : decode cX7_note 41 = .ok (.aload_n 0, 1) := by decide +kernel
theorem dX7_note_42 : decode cX7_note 42 = .ok (.getfield 11, 3) := by decide +kernel
theorem dX7_note_45 : decode cX7_note 45 = .ok (.aload_n 0, 1) := by decide +kernel
theorem dX7_note_46 : decode cX7_note 46 = .ok (.getfield 22, 3) := by decide +kernel
theorem dX7_note_49 : decode cX7_note 49 = .ok (.aaload, 1) := by decide +kernel
theorem dX7_note_50 : decode cX7_note 50 = .ok (.aload_n 1, 1) := by decide +kernel
theorem dX7_note_51 : decode cX7_note 51 = .ok (.invokevirtual 28, 3) := by decide +kernel
theorem dX7_note_54 : decode cX7_note 54 = .ok (.aload_n 0, 1) := by decide +kernel
theorem dX7_note_55 : decode cX7_note 55 = .ok (.aload_n 0, 1) := by decide +kernel
theorem dX7_note_56 : decode cX7_note 56 = .ok (.getfield 22, 3) := by decide +kernel
theorem dX7_note_59 : decode cX7_note 59 = .ok (.iconst 1, 1) := by decide +kernel
theorem dX7_note_60 : decode cX7_note 60 = .ok (.iadd, 1) := by decide +kernel
theorem dX7_note_61 : decode cX7_note 61 = .ok (.bipush 50, 2) := by decide +kernel
theorem dX7_note_63 : decode cX7_note 63 = .ok (.if_icmp .ge 12, 3) := by decide +kernel
theorem dX7_note_66 : decode cX7_note 66 = .ok (.aload_n 0, 1) := by decide +kernel
theorem dX7_note_67 : decode cX7_note 67 = .ok (.getfield 22, 3) := by decide +kernel
theorem dX7_note_70 : decode cX7_note 70 = .ok (.iconst 1, 1) := by decide +kernel
theorem dX7_note_71 : decode cX7_note 71 = .ok (.iadd, 1) := by decide +kernel
theorem dX7_note_72 : decode cX7_note 72 = .ok (.goto 4, 3) := by decide +kernel
theorem dX7_note_75 : decode cX7_note 75 = .ok (.iconst 0, 1) := by decide +kernel
theorem dX7_note_76 : decode cX7_note 76 = .ok (.putfield 22, 3) := by decide +kernel
theorem dX7_note_79 : decode cX7_note 79 = .ok (.aload_n 0, 1) := by decide +kernel
theorem dX7_note_80 : decode cX7_note 80 = .ok (.bipush 50, 2) := by decide +kernel
theorem dX7_note_82 : decode cX7_note 82 = .ok (.aload_n 0, 1) := by decide +kernel
theorem dX7_note_83 : decode cX7_note 83 = .ok (.getfield 18, 3) := by decide +kernel
theorem dX7_note_86 : decode cX7_note 86 = .ok (.iconst 1, 1) := by decide +kernel
theorem dX7_note_87 : decode cX7_note 87 = .ok (.iadd, 1) := by decide +kernel
theorem dX7_note_88 : decode cX7_note 88 = .ok (.invokestatic 32, 3) := by decide +kernel
theorem dX7_note_91 : decode cX7_note 91 = .ok (.putfield 18, 3) := by decide +kernel
theorem dX7_note_94 : decode cX7_note 94 = .ok (.return_, 1) := by decide +kernel
theorem dX7_giveBack_0 : decode cX7_giveBack 0 = .ok (.aload_n 0, 1) := by decide +kernel
theorem dX7_giveBack_1 : decode cX7_giveBack 1 = .ok (.getfield 18, 3) := by decide +kernel
theorem dX7_giveBack_4 : decode cX7_giveBack 4 = .ok (.ifCond .ne 5, 3) := by decide +kernel
theorem dX7_giveBack_7 : decode cX7_giveBack 7 = .ok (.iconst 0, 1) := by decide +kernel
theorem dX7_giveBack_8 : decode cX7_giveBack 8 = .ok (.ireturn, 1) := by decide +kernel
theorem dX7_giveBack_9 : decode cX7_giveBack 9 = .ok (.aload_n 0, 1) := by decide +kernel
theorem dX7_giveBack_10 : decode cX7_giveBack 10 = .ok (.dup, 1) := by decide +kernel
theorem dX7_giveBack_11 : decode cX7_giveBack 11 = .ok (.getfield 18, 3) := by decide +kernel
theorem dX7_giveBack_14 : decode cX7_giveBack 14 = .ok (.iconst 1, 1) := by decide +kernel
theorem dX7_giveBack_15 : decode cX7_giveBack 15 = .ok (.isub, 1) := by decide +kernel
theorem dX7_giveBack_16 : decode cX7_giveBack 16 = .ok (.putfield 18, 3) := by decide +kernel
theorem dX7_giveBack_19 : decode cX7_giveBack 19 = .ok (.aload_n 0, 1) := by decide +kernel
theorem dX7_giveBack_20 : decode cX7_giveBack 20 = .ok (.dup, 1) := by decide +kernel
theorem dX7_giveBack_21 : decode cX7_giveBack 21 = .ok (.getfield 25, 3) := by decide +kernel
theorem dX7_giveBack_24 : decode cX7_giveBack 24 = .ok (.iconst 1, 1) := by decide +kernel
theorem dX7_giveBack_25 : decode cX7_giveBack 25 = .ok (.iadd, 1) := by decide +kernel
theorem dX7_giveBack_26 : decode cX7_giveBack 26 = .ok (.putfield 25, 3) := by decide +kernel
theorem dX7_giveBack_29 : decode cX7_giveBack 29 = .ok (.aload_n 0, 1) := by decide +kernel
theorem dX7_giveBack_30 : decode cX7_giveBack 30 = .ok (.aload_n 0, 1) := by decide +kernel
theorem dX7_giveBack_31 : decode cX7_giveBack 31 = .ok (.getfield 22, 3) := by decide +kernel
theorem dX7_giveBack_34 : decode cX7_giveBack 34 = .ok (.ifCond .le 12, 3) := by decide +kernel
theorem dX7_giveBack_37 : decode cX7_giveBack 37 = .ok (.aload_n 0, 1) := by decide +kernel
theorem dX7_giveBack_38 : decode cX7_giveBack 38 = .ok (.getfield 22, 3) := by decide +kernel
theorem dX7_giveBack_41 : decode cX7_giveBack 41 = .ok (.iconst 1, 1) := by decide +kernel
theorem dX7_giveBack_42 : decode cX7_giveBack 42 = .ok (.isub, 1) := by decide +kernel
theorem dX7_giveBack_43 : decode cX7_giveBack 43 = .ok (.goto 5, 3) := by decide +kernel
theorem dX7_giveBack_46 : decode cX7_giveBack 46 = .ok (.bipush 49, 2) := by decide +kernel
theorem dX7_giveBack_48 : decode cX7_giveBack 48 = .ok (.putfield 22, 3) := by decide +kernel
theorem dX7_giveBack_51 : decode cX7_giveBack 51 = .ok (.aload_n 0, 1) := by decide +kernel
theorem dX7_giveBack_52 : decode cX7_giveBack 52 = .ok (.getfield 22, 3) := by decide +kernel
theorem dX7_giveBack_55 : decode cX7_giveBack 55 = .ok (.ifCond .lt 28, 3) := by decide +kernel
theorem dX7_giveBack_58 : decode cX7_giveBack 58 = .ok (.aload_n 0, 1) := by decide +kernel
theorem dX7_giveBack_59 : decode cX7_giveBack 59 = .ok (.getfield 22, 3) := by decide +kernel
theorem dX7_giveBack_62 : decode cX7_giveBack 62 = .ok (.aload_n 0, 1) := by decide +kernel
theorem dX7_giveBack_63 : decode cX7_giveBack 63 = .ok (.getfield 11, 3) := by decide +kernel
theorem dX7_giveBack_66 : decode cX7_giveBack 66 = .ok (.arraylength, 1) := by decide +kernel
theorem dX7_giveBack_67 : decode cX7_giveBack 67 = .ok (.if_icmp .ge 16, 3) := by decide +kernel
theorem dX7_giveBack_70 : decode cX7_giveBack 70 = .ok (.aload_n 1, 1) := by decide +kernel
theorem dX7_giveBack_71 : decode cX7_giveBack 71 = .ok (.aload_n 0, 1) := by decide +kernel
theorem dX7_giveBack_72 : decode cX7_giveBack 72 = .ok (.getfield 11, 3) := by decide +kernel
theorem dX7_giveBack_75 : decode cX7_giveBack 75 = .ok (.aload_n 0, 1) := by decide +kernel
theorem dX7_giveBack_76 : decode cX7_giveBack 76 = .ok (.getfield 22, 3) := by decide +kernel
theorem dX7_giveBack_79 : decode cX7_giveBack 79 = .ok (.aaload, 1) := by decide +kernel
theorem dX7_giveBack_80 : decode cX7_giveBack 80 = .ok (.invokevirtual 28, 3) := by decide +kernel
theorem dX7_giveBack_83 : decode cX7_giveBack 83 = .ok (.iconst 1, 1) := by decide +kernel
theorem dX7_giveBack_84 : decode cX7_giveBack 84 = .ok (.ireturn, 1) := by decide +kernel
