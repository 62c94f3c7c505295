theorem dX8_at_0 : decode cX8_at 0 = .ok (.aload_n 0, 1) := by decide +kernel
theorem dX8_at_1 : decode cX8_at 1 = .ok (.ifnull 19, 3) := by decide +kernel
theorem dX8_at_4 : decode cX8_at 4 = .ok (.iload_n 1, 1) := by decide +kernel
theorem dX8_at_5 : decode cX8_at 5 = .ok (.ifCond .lt 15, 3) := by decide +kernel
theorem dX8_at_8 : decode cX8_at 8 = .ok (.iload_n 1, 1) := by decide +kernel
theorem dX8_at_9 : decode cX8_at 9 = .ok (.aload_n 0, 1) := by decide +kernel
theorem dX8_at_10 : decode cX8_at 10 = .ok (.arraylength, 1) := by decide +kernel
theorem dX8_at_11 : decode cX8_at 11 = .ok (.if_icmp .ge 9, 3) := by decide +kernel
theorem dX8_at_14 : decode cX8_at 14 = .ok (.aload_n 0, 1) := by decide +kernel
theorem dX8_at_15 : decode cX8_at 15 = .ok (.iload_n 1, 1) := by decide +kernel
theorem dX8_at_16 : decode cX8_at 16 = .ok (.iaload, 1) := by decide +kernel
theorem dX8_at_17 : decode cX8_at 17 = .ok (.goto 4, 3) := by decide +kernel
theorem dX8_at_20 : decode cX8_at 20 = .ok (.iconst 0, 1) := by decide +kernel
theorem dX8_at_21 : decode cX8_at 21 = .ok (.ireturn, 1) := by decide +kernel
theorem dX8_put_0 : decode cX8_put 0 = .ok (.aload_n 0, 1) := by decide +kernel
theorem dX8_put_1 : decode cX8_put 1 = .ok (.ifnull 17, 3) := by decide +kernel
theorem dX8_put_4 : decode cX8_put 4 = .ok (.iload_n 1, 1) := by decide +kernel
theorem dX8_put_5 : decode cX8_put 5 = .ok (.ifCond .lt 13, 3) := by decide +kernel
theorem dX8_put_8 : decode cX8_put 8 = .ok (.iload_n 1, 1) := by decide +kernel
theorem dX8_put_9 : decode cX8_put 9 = .ok (.aload_n 0, 1) := by decide +kernel
theorem dX8_put_10 : decode cX8_put 10 = .ok (.arraylength, 1) := by decide +kernel
theorem dX8_put_11 : decode cX8_put 11 = .ok (.if_icmp .ge 7, 3) := by decide +kernel
theorem dX8_put_14 : decode cX8_put 14 = .ok (.aload_n 0, 1) := by decide +kernel
theorem dX8_put_15 : decode cX8_put 15 = .ok (.iload_n 1, 1) := by decide +kernel
theorem dX8_put_16 : decode cX8_put 16 = .ok (.iload_n 2, 1) := by decide +kernel
theorem dX8_put_17 : decode cX8_put 17 = .ok (.iastore, 1) := by decide +kernel
theorem dX8_put_18 : decode cX8_put 18 = .ok (.return_, 1) := by decide +kernel
theorem dX8_copy_0 : decode cX8_copy 0 = .ok (.aload_n 0, 1) := by decide +kernel
theorem dX8_copy_1 : decode cX8_copy 1 = .ok (.ifnull 7, 3) := by decide +kernel
theorem dX8_copy_4 : decode cX8_copy 4 = .ok (.aload_n 1, 1) := by decide +kernel
theorem dX8_copy_5 : decode cX8_copy 5 = .ok (.ifnonnull 4, 3) := by decide +kernel
theorem dX8_copy_8 : decode cX8_copy 8 = .ok (.return_, 1) := by decide +kernel
theorem dX8_copy_9 : decode cX8_copy 9 = .ok (.iconst 0, 1) := by decide +kernel
theorem dX8_copy_10 : decode cX8_copy 10 = .ok (.istore_n 2, 1) := by decide +kernel
theorem dX8_copy_11 : decode cX8_copy 11 = .ok (.iload_n 2, 1) := by decide +kernel
theorem dX8_copy_12 : decode cX8_copy 12 = .ok (.aload_n 0, 1) := by decide +kernel
theorem dX8_copy_13 : decode cX8_copy 13 = .ok (.arraylength, 1) := by decide +kernel
theorem dX8_copy_14 : decode cX8_copy 14 = .ok (.if_icmp .ge 21, 3) := by decide +kernel
theorem dX8_copy_17 : decode cX8_copy 17 = .ok (.iload_n 2, 1) := by decide +kernel
theorem dX8_copy_18 : decode cX8_copy 18 = .ok (.aload_n 1, 1) := by decide +kernel
theorem dX8_copy_19 : decode cX8_copy 19 = .ok (.arraylength, 1) := by decide +kernel
theorem dX8_copy_20 : decode cX8_copy 20 = .ok (.if_icmp .ge 15, 3) := by decide +kernel
theorem dX8_copy_23 : decode cX8_copy 23 = .ok (.aload_n 1, 1) := by decide +kernel
theorem dX8_copy_24 : decode cX8_copy 24 = .ok (.iload_n 2, 1) := by decide +kernel
theorem dX8_copy_25 : decode cX8_copy 25 = .ok (.aload_n 0, 1) := by decide +kernel
theorem dX8_copy_26 : decode cX8_copy 26 = .ok (.iload_n 2, 1) := by decide +kernel
theorem dX8_copy_27 : decode cX8_copy 27 = .ok (.iaload, 1) := by decide +kernel
theorem dX8_copy_28 : decode cX8_copy 28 = .ok (.iastore, 1) := by decide +kernel
theorem dX8_copy_29 : decode cX8_copy 29 = .ok (.iinc 2 1, 3) := by decide +kernel
theorem dX8_copy_32 : decode cX8_copy 32 = .ok (.goto (-21), 3) := by decide +kernel
theorem dX8_copy_35 : decode cX8_copy 35 = .ok (.return_, 1) := by decide +kernel
theorem dX8_within_0 : decode cX8_within 0 = .ok (.iload_n 1, 1) := by decide +kernel
theorem dX8_within_1 : decode cX8_within 1 = .ok (.iload_n 2, 1) := by decide +kernel
theorem dX8_within_2 : decode cX8_within 2 = .ok (.iload_n 0, 1) := by decide +kernel
theorem dX8_within_3 : decode cX8_within 3 = .ok (.invokestatic 1, 3) := by decide +kernel
theorem dX8_within_6 : decode cX8_within 6 = .ok (.invokestatic 7, 3) := by decide +kernel
theorem dX8_within_9 : decode cX8_within 9 = .ok (.ireturn, 1) := by decide +kernel
theorem dX8_between_0 : decode cX8_between 0 = .ok (.iload_n 0, 1) := by decide +kernel
theorem dX8_between_1 : decode cX8_between 1 = .ok (.iload_n 1, 1) := by decide +kernel
theorem dX8_between_2 : decode cX8_between 2 = .ok (.if_icmp .lt 12, 3) := by decide +kernel
theorem dX8_between_5 : decode cX8_between 5 = .ok (.iload_n 0, 1) := by decide +kernel
theorem dX8_between_6 : decode cX8_between 6 = .ok (.iload_n 2, 1) := by decide +kernel
theorem dX8_between_7 : decode cX8_between 7 = .ok (.if_icmp .gt 7, 3) := by decide +kernel
theorem dX8_between_10 : decode cX8_between 10 = .ok (.iconst 1, 1) := by decide +kernel
theorem dX8_between_11 : decode cX8_between 11 = .ok (.goto 4, 3) := by decide +kernel
theorem dX8_between_14 : decode cX8_between 14 = .ok (.iconst 0, 1) := by decide +kernel
theorem dX8_between_15 : decode cX8_between 15 = .ok (.ireturn, 1) := by decide +kernel
theorem dX8_init_0 : decode cX8_init 0 = .ok (.aload_n 0, 1) := by decide +kernel
theorem dX8_init_1 : decode cX8_init 1 = .ok (.invokespecial 10, 3) := by decide +kernel
theorem dX8_init_4 : decode cX8_init 4 = .ok (.aload_n 0, 1) := by decide +kernel
theorem dX8_init_5 : decode cX8_init 5 = .ok (.new 16, 3) := by decide +kernel
theorem dX8_init_8 : decode cX8_init 8 = .ok (.dup, 1) := by decide +kernel
theorem dX8_init_9 : decode cX8_init 9 = .ok (.invokespecial 18, 3) := by decide +kernel
theorem dX8_init_12 : decode cX8_init 12 = .ok (.putfield 19, 3) := by decide +kernel
theorem dX8_init_15 : decode cX8_init 15 = .ok (.aload_n 0, 1) := by decide +kernel
theorem dX8_init_16 : decode cX8_init 16 = .ok (.new 25, 3) := by decide +kernel
theorem dX8_init_19 : decode cX8_init 19 = .ok (.dup, 1) := by decide +kernel
theorem dX8_init_20 : decode cX8_init 20 = .ok (.invokespecial 27, 3) := by decide +kernel
theorem dX8_init_23 : decode cX8_init 23 = .ok (.putfield 28, 3) := by decide +kernel
theorem dX8_init_26 : decode cX8_init 26 = .ok (.aload_n 0, 1) := by decide +kernel
theorem dX8_init_27 : decode cX8_init 27 = .ok (.new 32, 3) := by decide +kernel
theorem dX8_init_30 : decode cX8_init 30 = .ok (.dup, 1) := by decide +kernel
theorem dX8_init_31 : decode cX8_init 31 = .ok (.aload_n 0, 1) := by decide +kernel
theorem dX8_init_32 : decode cX8_init 32 = .ok (.getfield 19, 3) := by decide +kernel
theorem dX8_init_35 : decode cX8_init 35 = .ok (.invokespecial 34, 3) := by decide +kernel
theorem dX8_init_38 : decode cX8_init 38 = .ok (.putfield 37, 3) := by decide +kernel
theorem dX8_init_41 : decode cX8_init 41 = .ok (.aload_n 0, 1) := by decide +kernel
theorem dX8_init_42 : decode cX8_init 42 = .ok (.new 41, 3) := by decide +kernel
theorem dX8_init_45 : decode cX8_init 45 = .ok (.dup, 1) := by decide +kernel
theorem dX8_init_46 : decode cX8_init 46 = .ok (.invokespecial 43, 3) := by decide +kernel
theorem dX8_init_49 : decode cX8_init 49 = .ok (.putfield 44, 3) := by decide +kernel
theorem dX8_init_52 : decode cX8_init 52 = .ok (.aload_n 0, 1) := by decide +kernel
theorem dX8_init_53 : decode cX8_init 53 = .ok (.new 41, 3) := by decide +kernel
theorem dX8_init_56 : decode cX8_init 56 = .ok (.dup, 1) := by decide +kernel
theorem dX8_init_57 : decode cX8_init 57 = .ok (.invokespecial 43, 3) := by decide +kernel
theorem dX8_init_60 : decode cX8_init 60 = .ok (.putfield 48, 3) := by decide +kernel
theorem dX8_init_63 : decode cX8_init 63 = .ok (.aload_n 0, 1) := by decide +kernel
theorem dX8_init_64 : decode cX8_init 64 = .ok (.new 51, 3) := by decide +kernel
theorem dX8_init_67 : decode cX8_init 67 = .ok (.dup, 1) := by decide +kernel
theorem dX8_init_68 : decode cX8_init 68 = .ok (.invokespecial 53, 3) := by decide +kernel
theorem dX8_init_71 : decode cX8_init 71 = .ok (.putfield 54, 3) := by decide +kernel
theorem dX8_init_74 : decode cX8_init 74 = .ok (.aload_n 0, 1) := by decide +kernel
theorem dX8_init_75 : decode cX8_init 75 = .ok (.iconst 3, 1) := by decide +kernel
theorem dX8_init_76 : decode cX8_init 76 = .ok (.anewarray 41, 3) := by decide +kernel
theorem dX8_init_79 : decode cX8_init 79 = .ok (.putfield 58, 3) := by decide +kernel
theorem dX8_init_82 : decode cX8_init 82 = .ok (.aload_n 0, 1) := by decide +kernel
theorem dX8_init_83 : decode cX8_init 83 = .ok (.iconst 3, 1) := by decide +kernel
theorem dX8_init_84 : decode cX8_init 84 = .ok (.newarray .int, 2) := by decide +kernel
theorem dX8_init_86 : decode cX8_init 86 = .ok (.putfield 62, 3) := by decide +kernel
theorem dX8_init_89 : decode cX8_init 89 = .ok (.aload_n 0, 1) := by decide +kernel
theorem dX8_init_90 : decode cX8_init 90 = .ok (.new 66, 3) := by decide +kernel
theorem dX8_init_93 : decode cX8_init 93 = .ok (.dup, 1) := by decide +kernel
theorem dX8_init_94 : decode cX8_init 94 = .ok (.aload_n 0, 1) := by decide +kernel
theorem dX8_init_95 : decode cX8_init 95 = .ok (.getfield 37, 3) := by decide +kernel
theorem dX8_init_98 : decode cX8_init 98 = .ok (.invokespecial 68, 3) := by decide +kernel
theorem dX8_init_101 : decode cX8_init 101 = .ok (.putfield 71, 3) := by decide +kernel
theorem dX8_init_104 : decode cX8_init 104 = .ok (.aload_n 0, 1) := by decide +kernel
theorem dX8_init_105 : decode cX8_init 105 = .ok (.new 75, 3) := by decide +kernel
theorem dX8_init_108 : decode cX8_init 108 = .ok (.dup, 1) := by decide +kernel
theorem dX8_init_109 : decode cX8_init 109 = .ok (.invokespecial 77, 3) := by decide +kernel
theorem dX8_init_112 : decode cX8_init 112 = .ok (.putfield 78, 3) := by decide +kernel
theorem dX8_init_115 : decode cX8_init 115 = .ok (.aload_n 0, 1) := by decide +kernel
theorem dX8_init_116 : decode cX8_init 116 = .ok (.sipush 384, 3) := by decide +kernel
theorem dX8_init_119 : decode cX8_init 119 = .ok (.newarray .int, 2) := by decide +kernel
theorem dX8_init_121 : decode cX8_init 121 = .ok (.putfield 82, 3) := by decide +kernel
theorem dX8_init_124 : decode cX8_init 124 = .ok (.aload_n 0, 1) := by decide +kernel
theorem dX8_init_125 : decode cX8_init 125 = .ok (.bipush 20, 2) := by decide +kernel
theorem dX8_init_127 : decode cX8_init 127 = .ok (.newarray .int, 2) := by decide +kernel
theorem dX8_init_129 : decode cX8_init 129 = .ok (.putfield 85, 3) := by decide +kernel
theorem dX8_init_132 : decode cX8_init 132 = .ok (.aload_n 0, 1) := by decide +kernel
theorem dX8_init_133 : decode cX8_init 133 = .ok (.bipush 20, 2) := by decide +kernel
theorem dX8_init_135 : decode cX8_init 135 = .ok (.newarray .int, 2) := by decide +kernel
theorem dX8_init_137 : decode cX8_init 137 = .ok (.putfield 88, 3) := by decide +kernel
theorem dX8_init_140 : decode cX8_init 140 = .ok (.iconst 0, 1) := by decide +kernel
theorem dX8_init_141 : decode cX8_init 141 = .ok (.istore_n 1, 1) := by decide +kernel
theorem dX8_init_142 : decode cX8_init 142 = .ok (.iload_n 1, 1) := by decide +kernel
theorem dX8_init_143 : decode cX8_init 143 = .ok (.aload_n 0, 1) := by decide +kernel
theorem dX8_init_144 : decode cX8_init 144 = .ok (.getfield 58, 3) := by decide +kernel
theorem dX8_init_147 : decode cX8_init 147 = .ok (.arraylength, 1) := by decide +kernel
theorem dX8_init_148 : decode cX8_init 148 = .ok (.if_icmp .ge 22, 3) := by decide +kernel
theorem dX8_init_151 : decode cX8_init 151 = .ok (.aload_n 0, 1) := by decide +kernel
theorem dX8_init_152 : decode cX8_init 152 = .ok (.getfield 58, 3) := by decide +kernel
theorem dX8_init_155 : decode cX8_init 155 = .ok (.iload_n 1, 1) := by decide +kernel
theorem dX8_init_156 : decode cX8_init 156 = .ok (.new 41, 3) := by decide +kernel
theorem dX8_init_159 : decode cX8_init 159 = .ok (.dup, 1) := by decide +kernel
theorem dX8_init_160 : decode cX8_init 160 = .ok (.invokespecial 43, 3) := by decide +kernel
theorem dX8_init_163 : decode cX8_init 163 = .ok (.aastore, 1) := by decide +kernel
theorem dX8_init_164 : decode cX8_init 164 = .ok (.iinc 1 1, 3) := by decide +kernel
theorem dX8_init_167 : decode cX8_init 167 = .ok (.goto (-25), 3) := by decide +kernel
theorem dX8_init_170 : decode cX8_init 170 = .ok (.aload_n 0, 1) := by decide +kernel
theorem dX8_init_171 : decode cX8_init 171 = .ok (.getfield 19, 3) := by decide +kernel
theorem dX8_init_174 : decode cX8_init 174 = .ok (.invokevirtual 91, 3) := by decide +kernel
theorem dX8_init_177 : decode cX8_init 177 = .ok (.aload_n 0, 1) := by decide +kernel
theorem dX8_init_178 : decode cX8_init 178 = .ok (.getfield 37, 3) := by decide +kernel
theorem dX8_init_181 : decode cX8_init 181 = .ok (.aload_n 0, 1) := by decide +kernel
theorem dX8_init_182 : decode cX8_init 182 = .ok (.getfield 44, 3) := by decide +kernel
theorem dX8_init_185 : decode cX8_init 185 = .ok (.invokevirtual 94, 3) := by decide +kernel
theorem dX8_init_188 : decode cX8_init 188 = .ok (.return_, 1) := by decide +kernel
theorem dX8_feed_0 : decode cX8_feed 0 = .ok (.aload_n 0, 1) := by decide +kernel
theorem dX8_feed_1 : decode cX8_feed 1 = .ok (.getfield 28, 3) := by decide +kernel
theorem dX8_feed_4 : decode cX8_feed 4 = .ok (.iload_n 1, 1) := by decide +kernel
theorem dX8_feed_5 : decode cX8_feed 5 = .ok (.iload_n 2, 1) := by decide +kernel
theorem dX8_feed_6 : decode cX8_feed 6 = .ok (.iload_n 3, 1) := by decide +kernel
theorem dX8_feed_7 : decode cX8_feed 7 = .ok (.iload 4, 2) := by decide +kernel
theorem dX8_feed_9 : decode cX8_feed 9 = .ok (.iload 5, 2) := by decide +kernel
theorem dX8_feed_11 : decode cX8_feed 11 = .ok (.invokevirtual 97, 3) := by decide +kernel
theorem dX8_feed_14 : decode cX8_feed 14 = .ok (.ireturn, 1) := by decide +kernel
theorem dX8_back_0 : decode cX8_back 0 = .ok (.aload_n 0, 1) := by decide +kernel
theorem dX8_back_1 : decode cX8_back 1 = .ok (.getfield 28, 3) := by decide +kernel
theorem dX8_back_4 : decode cX8_back 4 = .ok (.iload_n 1, 1) := by decide +kernel
theorem dX8_back_5 : decode cX8_back 5 = .ok (.invokevirtual 101, 3) := by decide +kernel
theorem dX8_back_8 : decode cX8_back 8 = .ok (.ireturn, 1) := by decide +kernel
theorem dX8_read_0 : decode cX8_read 0 = .ok (.aload_n 0, 1) := by decide +kernel
theorem dX8_read_1 : decode cX8_read 1 = .ok (.getfield 28, 3) := by decide +kernel
theorem dX8_read_4 : decode cX8_read 4 = .ok (.invokevirtual 105, 3) := by decide +kernel
theorem dX8_read_7 : decode cX8_read 7 = .ok (.istore_n 1, 1) := by decide +kernel
theorem dX8_read_8 : decode cX8_read 8 = .ok (.iload_n 1, 1) := by decide +kernel
theorem dX8_read_9 : decode cX8_read 9 = .ok (.ifCond .ne 62, 3) := by decide +kernel
theorem dX8_read_12 : decode cX8_read 12 = .ok (.aload_n 0, 1) := by decide +kernel
theorem dX8_read_13 : decode cX8_read 13 = .ok (.getfield 19, 3) := by decide +kernel
theorem dX8_read_16 : decode cX8_read 16 = .ok (.aload_n 0, 1) := by decide +kernel
theorem dX8_read_17 : decode cX8_read 17 = .ok (.getfield 28, 3) := by decide +kernel
theorem dX8_read_20 : decode cX8_read 20 = .ok (.getfield 109, 3) := by decide +kernel
theorem dX8_read_23 : decode cX8_read 23 = .ok (.invokevirtual 110, 3) := by decide +kernel
theorem dX8_read_26 : decode cX8_read 26 = .ok (.aload_n 0, 1) := by decide +kernel
theorem dX8_read_27 : decode cX8_read 27 = .ok (.getfield 37, 3) := by decide +kernel
theorem dX8_read_30 : decode cX8_read 30 = .ok (.aload_n 0, 1) := by decide +kernel
theorem dX8_read_31 : decode cX8_read 31 = .ok (.getfield 44, 3) := by decide +kernel
theorem dX8_read_34 : decode cX8_read 34 = .ok (.invokevirtual 94, 3) := by decide +kernel
theorem dX8_read_37 : decode cX8_read 37 = .ok (.aload_n 0, 1) := by decide +kernel
theorem dX8_read_38 : decode cX8_read 38 = .ok (.getfield 54, 3) := by decide +kernel
theorem dX8_read_41 : decode cX8_read 41 = .ok (.invokevirtual 113, 3) := by decide +kernel
theorem dX8_read_44 : decode cX8_read 44 = .ok (.aload_n 0, 1) := by decide +kernel
theorem dX8_read_45 : decode cX8_read 45 = .ok (.iconst 0, 1) := by decide +kernel
theorem dX8_read_46 : decode cX8_read 46 = .ok (.putfield 114, 3) := by decide +kernel
theorem dX8_read_49 : decode cX8_read 49 = .ok (.iconst 0, 1) := by decide +kernel
theorem dX8_read_50 : decode cX8_read 50 = .ok (.istore_n 2, 1) := by decide +kernel
theorem dX8_read_51 : decode cX8_read 51 = .ok (.iload_n 2, 1) := by decide +kernel
theorem dX8_read_52 : decode cX8_read 52 = .ok (.iconst 3, 1) := by decide +kernel
theorem dX8_read_53 : decode cX8_read 53 = .ok (.if_icmp .ge 18, 3) := by decide +kernel
theorem dX8_read_56 : decode cX8_read 56 = .ok (.aload_n 0, 1) := by decide +kernel
theorem dX8_read_57 : decode cX8_read 57 = .ok (.getfield 62, 3) := by decide +kernel
theorem dX8_read_60 : decode cX8_read 60 = .ok (.iload_n 2, 1) := by decide +kernel
theorem dX8_read_61 : decode cX8_read 61 = .ok (.iconst 0, 1) := by decide +kernel
theorem dX8_read_62 : decode cX8_read 62 = .ok (.invokestatic 118, 3) := by decide +kernel
theorem dX8_read_65 : decode cX8_read 65 = .ok (.iinc 2 1, 3) := by decide +kernel
theorem dX8_read_68 : decode cX8_read 68 = .ok (.goto (-17), 3) := by decide +kernel
theorem dX8_read_71 : decode cX8_read 71 = .ok (.iload_n 1, 1) := by decide +kernel
theorem dX8_read_72 : decode cX8_read 72 = .ok (.ireturn, 1) := by decide +kernel
theorem dX8_place_0 : decode cX8_place 0 = .ok (.aload_n 0, 1) := by decide +kernel
theorem dX8_place_1 : decode cX8_place 1 = .ok (.getfield 28, 3) := by decide +kernel
theorem dX8_place_4 : decode cX8_place 4 = .ok (.getfield 122, 3) := by decide +kernel
theorem dX8_place_7 : decode cX8_place 7 = .ok (.ireturn, 1) := by decide +kernel
theorem dX8_now_0 : decode cX8_now 0 = .ok (.iload_n 1, 1) := by decide +kernel
theorem dX8_now_1 : decode cX8_now 1 = .ok (.tableswitch 159 0 11 #[63, 71, 79, 87, 95, 103, 111, 119, 127, 135, 143, 151], 63) := by decide +kernel
theorem dX8_now_64 : decode cX8_now 64 = .ok (.aload_n 0, 1) := by decide +kernel
theorem dX8_now_65 : decode cX8_now 65 = .ok (.getfield 44, 3) := by decide +kernel
theorem dX8_now_68 : decode cX8_now 68 = .ok (.getfield 125, 3) := by decide +kernel
theorem dX8_now_71 : decode cX8_now 71 = .ok (.ireturn, 1) := by decide +kernel
theorem dX8_now_72 : decode cX8_now 72 = .ok (.aload_n 0, 1) := by decide +kernel
theorem dX8_now_73 : decode cX8_now 73 = .ok (.getfield 44, 3) := by decide +kernel
theorem dX8_now_76 : decode cX8_now 76 = .ok (.getfield 128, 3) := by decide +kernel
theorem dX8_now_79 : decode cX8_now 79 = .ok (.ireturn, 1) := by decide +kernel
theorem dX8_now_80 : decode cX8_now 80 = .ok (.aload_n 0, 1) := by decide +kernel
theorem dX8_now_81 : decode cX8_now 81 = .ok (.getfield 44, 3) := by decide +kernel
theorem dX8_now_84 : decode cX8_now 84 = .ok (.getfield 131, 3) := by decide +kernel
theorem dX8_now_87 : decode cX8_now 87 = .ok (.ireturn, 1) := by decide +kernel
theorem dX8_now_88 : decode cX8_now 88 = .ok (.aload_n 0, 1) := by decide +kernel
theorem dX8_now_89 : decode cX8_now 89 = .ok (.getfield 44, 3) := by decide +kernel
theorem dX8_now_92 : decode cX8_now 92 = .ok (.getfield 134, 3) := by decide +kernel
theorem dX8_now_95 : decode cX8_now 95 = .ok (.ireturn, 1) := by decide +kernel
theorem dX8_now_96 : decode cX8_now 96 = .ok (.aload_n 0, 1) := by decide +kernel
theorem dX8_now_97 : decode cX8_now 97 = .ok (.getfield 44, 3) := by decide +kernel
theorem dX8_now_100 : decode cX8_now 100 = .ok (.getfield 137, 3) := by decide +kernel
theorem dX8_now_103 : decode cX8_now 103 = .ok (.ireturn, 1) := by decide +kernel
theorem dX8_now_104 : decode cX8_now 104 = .ok (.aload_n 0, 1) := by decide +kernel
theorem dX8_now_105 : decode cX8_now 105 = .ok (.getfield 44, 3) := by decide +kernel
theorem dX8_now_108 : decode cX8_now 108 = .ok (.getfield 140, 3) := by decide +kernel
theorem dX8_now_111 : decode cX8_now 111 = .ok (.ireturn, 1) := by decide +kernel
theorem dX8_now_112 : decode cX8_now 112 = .ok (.aload_n 0, 1) := by decide +kernel
theorem dX8_now_113 : decode cX8_now 113 = .ok (.getfield 44, 3) := by decide +kernel
theorem dX8_now_116 : decode cX8_now 116 = .ok (.getfield 143, 3) := by decide +kernel
theorem dX8_now_119 : decode cX8_now 119 = .ok (.ireturn, 1) := by decide +kernel
theorem dX8_now_120 : decode cX8_now 120 = .ok (.aload_n 0, 1) := by decide +kernel
theorem dX8_now_121 : decode cX8_now 121 = .ok (.getfield 44, 3) := by decide +kernel
theorem dX8_now_124 : decode cX8_now 124 = .ok (.getfield 146, 3) := by decide +kernel
theorem dX8_now_127 : decode cX8_now 127 = .ok (.ireturn, 1) := by decide +kernel
theorem dX8_now_128 : decode cX8_now 128 = .ok (.aload_n 0, 1) := by decide +kernel
theorem dX8_now_129 : decode cX8_now 129 = .ok (.getfield 44, 3) := by decide +kernel
theorem dX8_now_132 : decode cX8_now 132 = .ok (.getfield 149, 3) := by decide +kernel
theorem dX8_now_135 : decode cX8_now 135 = .ok (.ireturn, 1) := by decide +kernel
theorem dX8_now_136 : decode cX8_now 136 = .ok (.aload_n 0, 1) := by decide +kernel
theorem dX8_now_137 : decode cX8_now 137 = .ok (.getfield 44, 3) := by decide +kernel
theorem dX8_now_140 : decode cX8_now 140 = .ok (.getfield 152, 3) := by decide +kernel
theorem dX8_now_143 : decode cX8_now 143 = .ok (.ireturn, 1) := by decide +kernel
theorem dX8_now_144 : decode cX8_now 144 = .ok (.aload_n 0, 1) := by decide +kernel
theorem dX8_now_145 : decode cX8_now 145 = .ok (.getfield 44, 3) := by decide +kernel
theorem dX8_now_148 : decode cX8_now 148 = .ok (.getfield 155, 3) := by decide +kernel
theorem dX8_now_151 : decode cX8_now 151 = .ok (.ireturn, 1) := by decide +kernel
theorem dX8_now_152 : decode cX8_now 152 = .ok (.aload_n 0, 1) := by decide +kernel
theorem dX8_now_153 : decode cX8_now 153 = .ok (.getfield 44, 3) := by decide +kernel
theorem dX8_now_156 : decode cX8_now 156 = .ok (.getfield 158, 3) := by decide +kernel
theorem dX8_now_159 : decode cX8_now 159 = .ok (.ireturn, 1) := by decide +kernel
theorem dX8_now_160 : decode cX8_now 160 = .ok (.iconst (-1), 1) := by decide +kernel
theorem dX8_now_161 : decode cX8_now 161 = .ok (.ireturn, 1) := by decide +kernel
theorem dX8_isAunt_0 : decode cX8_isAunt 0 = .ok (.iload_n 1, 1) := by decide +kernel
theorem dX8_isAunt_1 : decode cX8_isAunt 1 = .ok (.ifCond .lt 18, 3) := by decide +kernel
theorem dX8_isAunt_4 : decode cX8_isAunt 4 = .ok (.iload_n 1, 1) := by decide +kernel
theorem dX8_isAunt_5 : decode cX8_isAunt 5 = .ok (.aload_n 0, 1) := by decide +kernel
theorem dX8_isAunt_6 : decode cX8_isAunt 6 = .ok (.getfield 19, 3) := by decide +kernel
theorem dX8_isAunt_9 : decode cX8_isAunt 9 = .ok (.getfield 161, 3) := by decide +kernel
theorem dX8_isAunt_12 : decode cX8_isAunt 12 = .ok (.if_icmp .ge 7, 3) := by decide +kernel
theorem dX8_isAunt_15 : decode cX8_isAunt 15 = .ok (.iconst 1, 1) := by decide +kernel
theorem dX8_isAunt_16 : decode cX8_isAunt 16 = .ok (.goto 4, 3) := by decide +kernel
theorem dX8_isAunt_19 : decode cX8_isAunt 19 = .ok (.iconst 0, 1) := by decide +kernel
theorem dX8_isAunt_20 : decode cX8_isAunt 20 = .ok (.ireturn, 1) := by decide +kernel
theorem dX8_asleepOrAlone_0 : decode cX8_asleepOrAlone 0 = .ok (.aload_n 0, 1) := by decide +kernel
theorem dX8_asleepOrAlone_1 : decode cX8_asleepOrAlone 1 = .ok (.getfield 44, 3) := by decide +kernel
theorem dX8_asleepOrAlone_4 : decode cX8_asleepOrAlone 4 = .ok (.getfield 146, 3) := by decide +kernel
theorem dX8_asleepOrAlone_7 : decode cX8_asleepOrAlone 7 = .ok (.ifCond .gt 13, 3) := by decide +kernel
theorem dX8_asleepOrAlone_10 : decode cX8_asleepOrAlone 10 = .ok (.aload_n 0, 1) := by decide +kernel
theorem dX8_asleepOrAlone_11 : decode cX8_asleepOrAlone 11 = .ok (.getfield 19, 3) := by decide +kernel
theorem dX8_asleepOrAlone_14 : decode cX8_asleepOrAlone 14 = .ok (.getfield 161, 3) := by decide +kernel
theorem dX8_asleepOrAlone_17 : decode cX8_asleepOrAlone 17 = .ok (.ifCond .ne 7, 3) := by decide +kernel
theorem dX8_asleepOrAlone_20 : decode cX8_asleepOrAlone 20 = .ok (.iconst 1, 1) := by decide +kernel
theorem dX8_asleepOrAlone_21 : decode cX8_asleepOrAlone 21 = .ok (.goto 4, 3) := by decide +kernel
theorem dX8_asleepOrAlone_24 : decode cX8_asleepOrAlone 24 = .ok (.iconst 0, 1) := by decide +kernel
theorem dX8_asleepOrAlone_25 : decode cX8_asleepOrAlone 25 = .ok (.ireturn, 1) := by decide +kernel
theorem dX8_aunt_0 : decode cX8_aunt 0 = .ok (.aload_n 0, 1) := by decide +kernel
theorem dX8_aunt_1 : decode cX8_aunt 1 = .ok (.iload_n 1, 1) := by decide +kernel
theorem dX8_aunt_2 : decode cX8_aunt 2 = .ok (.invokevirtual 164, 3) := by decide +kernel
theorem dX8_aunt_5 : decode cX8_aunt 5 = .ok (.ifCond .eq 13, 3) := by decide +kernel
theorem dX8_aunt_8 : decode cX8_aunt 8 = .ok (.iload_n 2, 1) := by decide +kernel
theorem dX8_aunt_9 : decode cX8_aunt 9 = .ok (.iconst 0, 1) := by decide +kernel
theorem dX8_aunt_10 : decode cX8_aunt 10 = .ok (.bipush 6, 2) := by decide +kernel
theorem dX8_aunt_12 : decode cX8_aunt 12 = .ok (.invokestatic 168, 3) := by decide +kernel
theorem dX8_aunt_15 : decode cX8_aunt 15 = .ok (.ifCond .ne 5, 3) := by decide +kernel
theorem dX8_aunt_18 : decode cX8_aunt 18 = .ok (.iconst (-1), 1) := by decide +kernel
theorem dX8_aunt_19 : decode cX8_aunt 19 = .ok (.ireturn, 1) := by decide +kernel
theorem dX8_aunt_20 : decode cX8_aunt 20 = .ok (.iload_n 2, 1) := by decide +kernel
theorem dX8_aunt_21 : decode cX8_aunt 21 = .ok (.iconst 5, 1) := by decide +kernel
theorem dX8_aunt_22 : decode cX8_aunt 22 = .ok (.if_icmp .ne 17, 3) := by decide +kernel
theorem dX8_aunt_25 : decode cX8_aunt 25 = .ok (.aload_n 0, 1) := by decide +kernel
theorem dX8_aunt_26 : decode cX8_aunt 26 = .ok (.getfield 19, 3) := by decide +kernel
theorem dX8_aunt_29 : decode cX8_aunt 29 = .ok (.getfield 172, 3) := by decide +kernel
theorem dX8_aunt_32 : decode cX8_aunt 32 = .ok (.iload_n 1, 1) := by decide +kernel
theorem dX8_aunt_33 : decode cX8_aunt 33 = .ok (.invokestatic 175, 3) := by decide +kernel
theorem dX8_aunt_36 : decode cX8_aunt 36 = .ok (.goto 12, 3) := by decide +kernel
theorem dX8_aunt_39 : decode cX8_aunt 39 = .ok (.aload_n 0, 1) := by decide +kernel
theorem dX8_aunt_40 : decode cX8_aunt 40 = .ok (.getfield 44, 3) := by decide +kernel
theorem dX8_aunt_43 : decode cX8_aunt 43 = .ok (.iload_n 1, 1) := by decide +kernel
theorem dX8_aunt_44 : decode cX8_aunt 44 = .ok (.iload_n 2, 1) := by decide +kernel
theorem dX8_aunt_45 : decode cX8_aunt 45 = .ok (.invokevirtual 179, 3) := by decide +kernel
theorem dX8_aunt_48 : decode cX8_aunt 48 = .ok (.ireturn, 1) := by decide +kernel
theorem dX8_law_0 : decode cX8_law 0 = .ok (.iload_n 1, 1) := by decide +kernel
theorem dX8_law_1 : decode cX8_law 1 = .ok (.iconst 0, 1) := by decide +kernel
theorem dX8_law_2 : decode cX8_law 2 = .ok (.bipush 6, 2) := by decide +kernel
theorem dX8_law_4 : decode cX8_law 4 = .ok (.invokestatic 168, 3) := by decide +kernel
theorem dX8_law_7 : decode cX8_law 7 = .ok (.ifCond .eq 13, 3) := by decide +kernel
theorem dX8_law_10 : decode cX8_law 10 = .ok (.aload_n 0, 1) := by decide +kernel
theorem dX8_law_11 : decode cX8_law 11 = .ok (.getfield 19, 3) := by decide +kernel
theorem dX8_law_14 : decode cX8_law 14 = .ok (.getfield 161, 3) := by decide +kernel
theorem dX8_law_17 : decode cX8_law 17 = .ok (.ifCond .ne 7, 3) := by decide +kernel
theorem dX8_law_20 : decode cX8_law 20 = .ok (.sipush (-10000), 3) := by decide +kernel
theorem dX8_law_23 : decode cX8_law 23 = .ok (.ireturn, 1) := by decide +kernel
theorem dX8_law_24 : decode cX8_law 24 = .ok (.aload_n 0, 1) := by decide +kernel
theorem dX8_law_25 : decode cX8_law 25 = .ok (.getfield 19, 3) := by decide +kernel
theorem dX8_law_28 : decode cX8_law 28 = .ok (.getfield 182, 3) := by decide +kernel
theorem dX8_law_31 : decode cX8_law 31 = .ok (.iload_n 1, 1) := by decide +kernel
theorem dX8_law_32 : decode cX8_law 32 = .ok (.aload_n 0, 1) := by decide +kernel
theorem dX8_law_33 : decode cX8_law 33 = .ok (.getfield 44, 3) := by decide +kernel
theorem dX8_law_36 : decode cX8_law 36 = .ok (.invokevirtual 186, 3) := by decide +kernel
theorem dX8_law_39 : decode cX8_law 39 = .ok (.ireturn, 1) := by decide +kernel
theorem dX8_minutes_0 : decode cX8_minutes 0 = .ok (.iload_n 1, 1) := by decide +kernel
theorem dX8_minutes_1 : decode cX8_minutes 1 = .ok (.iconst 0, 1) := by decide +kernel
theorem dX8_minutes_2 : decode cX8_minutes 2 = .ok (.sipush 240, 3) := by decide +kernel
theorem dX8_minutes_5 : decode cX8_minutes 5 = .ok (.invokestatic 168, 3) := by decide +kernel
theorem dX8_minutes_8 : decode cX8_minutes 8 = .ok (.ifCond .ne 5, 3) := by decide +kernel
theorem dX8_minutes_11 : decode cX8_minutes 11 = .ok (.iconst (-1), 1) := by decide +kernel
theorem dX8_minutes_12 : decode cX8_minutes 12 = .ok (.ireturn, 1) := by decide +kernel
theorem dX8_minutes_13 : decode cX8_minutes 13 = .ok (.iload_n 1, 1) := by decide +kernel
theorem dX8_minutes_14 : decode cX8_minutes 14 = .ok (.ifCond .le 26, 3) := by decide +kernel
theorem dX8_minutes_17 : decode cX8_minutes 17 = .ok (.aload_n 0, 1) := by decide +kernel
theorem dX8_minutes_18 : decode cX8_minutes 18 = .ok (.getfield 54, 3) := by decide +kernel
theorem dX8_minutes_21 : decode cX8_minutes 21 = .ok (.aload_n 0, 1) := by decide +kernel
theorem dX8_minutes_22 : decode cX8_minutes 22 = .ok (.getfield 44, 3) := by decide +kernel
theorem dX8_minutes_25 : decode cX8_minutes 25 = .ok (.invokevirtual 192, 3) := by decide +kernel
theorem dX8_minutes_28 : decode cX8_minutes 28 = .ok (.aload_n 0, 1) := by decide +kernel
theorem dX8_minutes_29 : decode cX8_minutes 29 = .ok (.getfield 37, 3) := by decide +kernel
theorem dX8_minutes_32 : decode cX8_minutes 32 = .ok (.aload_n 0, 1) := by decide +kernel
theorem dX8_minutes_33 : decode cX8_minutes 33 = .ok (.getfield 44, 3) := by decide +kernel
theorem dX8_minutes_36 : decode cX8_minutes 36 = .ok (.iload_n 1, 1) := by decide +kernel
theorem dX8_minutes_37 : decode cX8_minutes 37 = .ok (.invokevirtual 195, 3) := by decide +kernel
theorem dX8_minutes_40 : decode cX8_minutes 40 = .ok (.aload_n 0, 1) := by decide +kernel
theorem dX8_minutes_41 : decode cX8_minutes 41 = .ok (.getfield 44, 3) := by decide +kernel
theorem dX8_minutes_44 : decode cX8_minutes 44 = .ok (.getfield 199, 3) := by decide +kernel
theorem dX8_minutes_47 : decode cX8_minutes 47 = .ok (.ireturn, 1) := by decide +kernel
theorem dX8_hand_0 : decode cX8_hand 0 = .ok (.aload_n 0, 1) := by decide +kernel
theorem dX8_hand_1 : decode cX8_hand 1 = .ok (.iload_n 1, 1) := by decide +kernel
theorem dX8_hand_2 : decode cX8_hand 2 = .ok (.invokevirtual 164, 3) := by decide +kernel
theorem dX8_hand_5 : decode cX8_hand 5 = .ok (.ifCond .eq 24, 3) := by decide +kernel
theorem dX8_hand_8 : decode cX8_hand 8 = .ok (.iload_n 1, 1) := by decide +kernel
theorem dX8_hand_9 : decode cX8_hand 9 = .ok (.aload_n 0, 1) := by decide +kernel
theorem dX8_hand_10 : decode cX8_hand 10 = .ok (.getfield 44, 3) := by decide +kernel
theorem dX8_hand_13 : decode cX8_hand 13 = .ok (.getfield 137, 3) := by decide +kernel
theorem dX8_hand_16 : decode cX8_hand 16 = .ok (.if_icmp .eq 13, 3) := by decide +kernel
theorem dX8_hand_19 : decode cX8_hand 19 = .ok (.aload_n 0, 1) := by decide +kernel
theorem dX8_hand_20 : decode cX8_hand 20 = .ok (.getfield 44, 3) := by decide +kernel
theorem dX8_hand_23 : decode cX8_hand 23 = .ok (.getfield 146, 3) := by decide +kernel
theorem dX8_hand_26 : decode cX8_hand 26 = .ok (.ifCond .le 5, 3) := by decide +kernel
theorem dX8_hand_29 : decode cX8_hand 29 = .ok (.iconst 0, 1) := by decide +kernel
theorem dX8_hand_30 : decode cX8_hand 30 = .ok (.ireturn, 1) := by decide +kernel
theorem dX8_hand_31 : decode cX8_hand 31 = .ok (.aload_n 0, 1) := by decide +kernel
theorem dX8_hand_32 : decode cX8_hand 32 = .ok (.getfield 54, 3) := by decide +kernel
theorem dX8_hand_35 : decode cX8_hand 35 = .ok (.aload_n 0, 1) := by decide +kernel
theorem dX8_hand_36 : decode cX8_hand 36 = .ok (.getfield 44, 3) := by decide +kernel
theorem dX8_hand_39 : decode cX8_hand 39 = .ok (.invokevirtual 192, 3) := by decide +kernel
theorem dX8_hand_42 : decode cX8_hand 42 = .ok (.aload_n 0, 1) := by decide +kernel
theorem dX8_hand_43 : decode cX8_hand 43 = .ok (.getfield 37, 3) := by decide +kernel
theorem dX8_hand_46 : decode cX8_hand 46 = .ok (.aload_n 0, 1) := by decide +kernel
theorem dX8_hand_47 : decode cX8_hand 47 = .ok (.getfield 44, 3) := by decide +kernel
theorem dX8_hand_50 : decode cX8_hand 50 = .ok (.iload_n 1, 1) := by decide +kernel
theorem dX8_hand_51 : decode cX8_hand 51 = .ok (.invokevirtual 202, 3) := by decide +kernel
theorem dX8_hand_54 : decode cX8_hand 54 = .ok (.iconst 1, 1) := by decide +kernel
theorem dX8_hand_55 : decode cX8_hand 55 = .ok (.ireturn, 1) := by decide +kernel
theorem dX8_nurse_0 : decode cX8_nurse 0 = .ok (.aload_n 0, 1) := by decide +kernel
theorem dX8_nurse_1 : decode cX8_nurse 1 = .ok (.invokevirtual 205, 3) := by decide +kernel
theorem dX8_nurse_4 : decode cX8_nurse 4 = .ok (.ifCond .eq 5, 3) := by decide +kernel
theorem dX8_nurse_7 : decode cX8_nurse 7 = .ok (.iconst 0, 1) := by decide +kernel
theorem dX8_nurse_8 : decode cX8_nurse 8 = .ok (.ireturn, 1) := by decide +kernel
theorem dX8_nurse_9 : decode cX8_nurse 9 = .ok (.aload_n 0, 1) := by decide +kernel
theorem dX8_nurse_10 : decode cX8_nurse 10 = .ok (.getfield 54, 3) := by decide +kernel
theorem dX8_nurse_13 : decode cX8_nurse 13 = .ok (.aload_n 0, 1) := by decide +kernel
theorem dX8_nurse_14 : decode cX8_nurse 14 = .ok (.getfield 44, 3) := by decide +kernel
theorem dX8_nurse_17 : decode cX8_nurse 17 = .ok (.invokevirtual 192, 3) := by decide +kernel
theorem dX8_nurse_20 : decode cX8_nurse 20 = .ok (.aload_n 0, 1) := by decide +kernel
theorem dX8_nurse_21 : decode cX8_nurse 21 = .ok (.getfield 37, 3) := by decide +kernel
theorem dX8_nurse_24 : decode cX8_nurse 24 = .ok (.aload_n 0, 1) := by decide +kernel
theorem dX8_nurse_25 : decode cX8_nurse 25 = .ok (.getfield 44, 3) := by decide +kernel
theorem dX8_nurse_28 : decode cX8_nurse 28 = .ok (.invokevirtual 209, 3) := by decide +kernel
theorem dX8_nurse_31 : decode cX8_nurse 31 = .ok (.iconst 1, 1) := by decide +kernel
theorem dX8_nurse_32 : decode cX8_nurse 32 = .ok (.ireturn, 1) := by decide +kernel
theorem dX8_lay_0 : decode cX8_lay 0 = .ok (.aload_n 0, 1) := by decide +kernel
theorem dX8_lay_1 : decode cX8_lay 1 = .ok (.invokevirtual 205, 3) := by decide +kernel
theorem dX8_lay_4 : decode cX8_lay 4 = .ok (.ifCond .eq 5, 3) := by decide +kernel
theorem dX8_lay_7 : decode cX8_lay 7 = .ok (.iconst 0, 1) := by decide +kernel
theorem dX8_lay_8 : decode cX8_lay 8 = .ok (.ireturn, 1) := by decide +kernel
theorem dX8_lay_9 : decode cX8_lay 9 = .ok (.aload_n 0, 1) := by decide +kernel
theorem dX8_lay_10 : decode cX8_lay 10 = .ok (.getfield 54, 3) := by decide +kernel
theorem dX8_lay_13 : decode cX8_lay 13 = .ok (.aload_n 0, 1) := by decide +kernel
theorem dX8_lay_14 : decode cX8_lay 14 = .ok (.getfield 44, 3) := by decide +kernel
theorem dX8_lay_17 : decode cX8_lay 17 = .ok (.invokevirtual 192, 3) := by decide +kernel
theorem dX8_lay_20 : decode cX8_lay 20 = .ok (.aload_n 0, 1) := by decide +kernel
theorem dX8_lay_21 : decode cX8_lay 21 = .ok (.getfield 37, 3) := by decide +kernel
theorem dX8_lay_24 : decode cX8_lay 24 = .ok (.aload_n 0, 1) := by decide +kernel
theorem dX8_lay_25 : decode cX8_lay 25 = .ok (.getfield 44, 3) := by decide +kernel
theorem dX8_lay_28 : decode cX8_lay 28 = .ok (.invokevirtual 212, 3) := by decide +kernel
theorem dX8_lay_31 : decode cX8_lay 31 = .ok (.iconst 1, 1) := by decide +kernel
theorem dX8_lay_32 : decode cX8_lay 32 = .ok (.ireturn, 1) := by decide +kernel
theorem dX8_cloth_0 : decode cX8_cloth 0 = .ok (.aload_n 0, 1) := by decide +kernel
theorem dX8_cloth_1 : decode cX8_cloth 1 = .ok (.getfield 44, 3) := by decide +kernel
theorem dX8_cloth_4 : decode cX8_cloth 4 = .ok (.getfield 149, 3) := by decide +kernel
theorem dX8_cloth_7 : decode cX8_cloth 7 = .ok (.iconst 1, 1) := by decide +kernel
theorem dX8_cloth_8 : decode cX8_cloth 8 = .ok (.if_icmp .ne 7, 3) := by decide +kernel
theorem dX8_cloth_11 : decode cX8_cloth 11 = .ok (.iconst 1, 1) := by decide +kernel
theorem dX8_cloth_12 : decode cX8_cloth 12 = .ok (.goto 4, 3) := by decide +kernel
theorem dX8_cloth_15 : decode cX8_cloth 15 = .ok (.iconst 0, 1) := by decide +kernel
theorem dX8_cloth_16 : decode cX8_cloth 16 = .ok (.istore_n 2, 1) := by decide +kernel
theorem dX8_cloth_17 : decode cX8_cloth 17 = .ok (.aload_n 0, 1) := by decide +kernel
theorem dX8_cloth_18 : decode cX8_cloth 18 = .ok (.getfield 54, 3) := by decide +kernel
theorem dX8_cloth_21 : decode cX8_cloth 21 = .ok (.aload_n 0, 1) := by decide +kernel
theorem dX8_cloth_22 : decode cX8_cloth 22 = .ok (.getfield 44, 3) := by decide +kernel
theorem dX8_cloth_25 : decode cX8_cloth 25 = .ok (.invokevirtual 192, 3) := by decide +kernel
theorem dX8_cloth_28 : decode cX8_cloth 28 = .ok (.aload_n 0, 1) := by decide +kernel
theorem dX8_cloth_29 : decode cX8_cloth 29 = .ok (.getfield 44, 3) := by decide +kernel
theorem dX8_cloth_32 : decode cX8_cloth 32 = .ok (.iload_n 1, 1) := by decide +kernel
theorem dX8_cloth_33 : decode cX8_cloth 33 = .ok (.ifCond .eq 7, 3) := by decide +kernel
theorem dX8_cloth_36 : decode cX8_cloth 36 = .ok (.iconst 1, 1) := by decide +kernel
theorem dX8_cloth_37 : decode cX8_cloth 37 = .ok (.goto 4, 3) := by decide +kernel
theorem dX8_cloth_40 : decode cX8_cloth 40 = .ok (.iconst 0, 1) := by decide +kernel
theorem dX8_cloth_41 : decode cX8_cloth 41 = .ok (.putfield 149, 3) := by decide +kernel
theorem dX8_cloth_44 : decode cX8_cloth 44 = .ok (.iload_n 2, 1) := by decide +kernel
theorem dX8_cloth_45 : decode cX8_cloth 45 = .ok (.ireturn, 1) := by decide +kernel
theorem dX8_mother_0 : decode cX8_mother 0 = .ok (.aload_n 0, 1) := by decide +kernel
theorem dX8_mother_1 : decode cX8_mother 1 = .ok (.getfield 44, 3) := by decide +kernel
theorem dX8_mother_4 : decode cX8_mother 4 = .ok (.getfield 152, 3) := by decide +kernel
theorem dX8_mother_7 : decode cX8_mother 7 = .ok (.iconst 1, 1) := by decide +kernel
theorem dX8_mother_8 : decode cX8_mother 8 = .ok (.if_icmp .ne 7, 3) := by decide +kernel
theorem dX8_mother_11 : decode cX8_mother 11 = .ok (.iconst 1, 1) := by decide +kernel
theorem dX8_mother_12 : decode cX8_mother 12 = .ok (.goto 4, 3) := by decide +kernel
theorem dX8_mother_15 : decode cX8_mother 15 = .ok (.iconst 0, 1) := by decide +kernel
theorem dX8_mother_16 : decode cX8_mother 16 = .ok (.istore_n 2, 1) := by decide +kernel
theorem dX8_mother_17 : decode cX8_mother 17 = .ok (.aload_n 0, 1) := by decide +kernel
theorem dX8_mother_18 : decode cX8_mother 18 = .ok (.getfield 54, 3) := by decide +kernel
theorem dX8_mother_21 : decode cX8_mother 21 = .ok (.aload_n 0, 1) := by decide +kernel
theorem dX8_mother_22 : decode cX8_mother 22 = .ok (.getfield 44, 3) := by decide +kernel
theorem dX8_mother_25 : decode cX8_mother 25 = .ok (.invokevirtual 192, 3) := by decide +kernel
theorem dX8_mother_28 : decode cX8_mother 28 = .ok (.aload_n 0, 1) := by decide +kernel
theorem dX8_mother_29 : decode cX8_mother 29 = .ok (.getfield 44, 3) := by decide +kernel
theorem dX8_mother_32 : decode cX8_mother 32 = .ok (.iload_n 1, 1) := by decide +kernel
theorem dX8_mother_33 : decode cX8_mother 33 = .ok (.ifCond .eq 7, 3) := by decide +kernel
theorem dX8_mother_36 : decode cX8_mother 36 = .ok (.iconst 1, 1) := by decide +kernel
theorem dX8_mother_37 : decode cX8_mother 37 = .ok (.goto 4, 3) := by decide +kernel
theorem dX8_mother_40 : decode cX8_mother 40 = .ok (.iconst 0, 1) := by decide +kernel
theorem dX8_mother_41 : decode cX8_mother 41 = .ok (.putfield 152, 3) := by decide +kernel
theorem dX8_mother_44 : decode cX8_mother 44 = .ok (.iload_n 2, 1) := by decide +kernel
theorem dX8_mother_45 : decode cX8_mother 45 = .ok (.ireturn, 1) := by decide +kernel
theorem dX8_undo_0 : decode cX8_undo 0 = .ok (.aload_n 0, 1) := by decide +kernel
theorem dX8_undo_1 : decode cX8_undo 1 = .ok (.getfield 54, 3) := by decide +kernel
theorem dX8_undo_4 : decode cX8_undo 4 = .ok (.aload_n 0, 1) := by decide +kernel
theorem dX8_undo_5 : decode cX8_undo 5 = .ok (.getfield 44, 3) := by decide +kernel
theorem dX8_undo_8 : decode cX8_undo 8 = .ok (.invokevirtual 215, 3) := by decide +kernel
theorem dX8_undo_11 : decode cX8_undo 11 = .ok (.ireturn, 1) := by decide +kernel
theorem dX8_crying_0 : decode cX8_crying 0 = .ok (.iload_n 1, 1) := by decide +kernel
theorem dX8_crying_1 : decode cX8_crying 1 = .ok (.iconst 0, 1) := by decide +kernel
theorem dX8_crying_2 : decode cX8_crying 2 = .ok (.sipush 240, 3) := by decide +kernel
theorem dX8_crying_5 : decode cX8_crying 5 = .ok (.invokestatic 168, 3) := by decide +kernel
theorem dX8_crying_8 : decode cX8_crying 8 = .ok (.ifCond .ne 5, 3) := by decide +kernel
theorem dX8_crying_11 : decode cX8_crying 11 = .ok (.iconst (-1), 1) := by decide +kernel
theorem dX8_crying_12 : decode cX8_crying 12 = .ok (.ireturn, 1) := by decide +kernel
theorem dX8_crying_13 : decode cX8_crying 13 = .ok (.aload_n 0, 1) := by decide +kernel
theorem dX8_crying_14 : decode cX8_crying 14 = .ok (.getfield 48, 3) := by decide +kernel
theorem dX8_crying_17 : decode cX8_crying 17 = .ok (.aload_n 0, 1) := by decide +kernel
theorem dX8_crying_18 : decode cX8_crying 18 = .ok (.getfield 44, 3) := by decide +kernel
theorem dX8_crying_21 : decode cX8_crying 21 = .ok (.invokevirtual 219, 3) := by decide +kernel
theorem dX8_crying_24 : decode cX8_crying 24 = .ok (.aload_n 0, 1) := by decide +kernel
theorem dX8_crying_25 : decode cX8_crying 25 = .ok (.getfield 37, 3) := by decide +kernel
theorem dX8_crying_28 : decode cX8_crying 28 = .ok (.aload_n 0, 1) := by decide +kernel
theorem dX8_crying_29 : decode cX8_crying 29 = .ok (.getfield 48, 3) := by decide +kernel
theorem dX8_crying_32 : decode cX8_crying 32 = .ok (.iload_n 1, 1) := by decide +kernel
theorem dX8_crying_33 : decode cX8_crying 33 = .ok (.invokevirtual 221, 3) := by decide +kernel
theorem dX8_crying_36 : decode cX8_crying 36 = .ok (.ireturn, 1) := by decide +kernel
theorem dX8_next_0 : decode cX8_next 0 = .ok (.iload_n 1, 1) := by decide +kernel
theorem dX8_next_1 : decode cX8_next 1 = .ok (.iconst 1, 1) := by decide +kernel
theorem dX8_next_2 : decode cX8_next 2 = .ok (.bipush 120, 2) := by decide +kernel
theorem dX8_next_4 : decode cX8_next 4 = .ok (.invokestatic 168, 3) := by decide +kernel
theorem dX8_next_7 : decode cX8_next 7 = .ok (.ifCond .eq 12, 3) := by decide +kernel
theorem dX8_next_10 : decode cX8_next 10 = .ok (.iload_n 2, 1) := by decide +kernel
theorem dX8_next_11 : decode cX8_next 11 = .ok (.iconst 0, 1) := by decide +kernel
theorem dX8_next_12 : decode cX8_next 12 = .ok (.iconst 1, 1) := by decide +kernel
theorem dX8_next_13 : decode cX8_next 13 = .ok (.invokestatic 168, 3) := by decide +kernel
theorem dX8_next_16 : decode cX8_next 16 = .ok (.ifCond .ne 5, 3) := by decide +kernel
theorem dX8_next_19 : decode cX8_next 19 = .ok (.iconst (-1), 1) := by decide +kernel
theorem dX8_next_20 : decode cX8_next 20 = .ok (.ireturn, 1) := by decide +kernel
theorem dX8_next_21 : decode cX8_next 21 = .ok (.aload_n 0, 1) := by decide +kernel
theorem dX8_next_22 : decode cX8_next 22 = .ok (.getfield 44, 3) := by decide +kernel
theorem dX8_next_25 : decode cX8_next 25 = .ok (.getfield 146, 3) := by decide +kernel
theorem dX8_next_28 : decode cX8_next 28 = .ok (.ifCond .gt 14, 3) := by decide +kernel
theorem dX8_next_31 : decode cX8_next 31 = .ok (.aload_n 0, 1) := by decide +kernel
theorem dX8_next_32 : decode cX8_next 32 = .ok (.getfield 19, 3) := by decide +kernel
theorem dX8_next_35 : decode cX8_next 35 = .ok (.getfield 161, 3) := by decide +kernel
theorem dX8_next_38 : decode cX8_next 38 = .ok (.iconst 2, 1) := by decide +kernel
theorem dX8_next_39 : decode cX8_next 39 = .ok (.if_icmp .ge 6, 3) := by decide +kernel
theorem dX8_next_42 : decode cX8_next 42 = .ok (.bipush (-2), 2) := by decide +kernel
theorem dX8_next_44 : decode cX8_next 44 = .ok (.ireturn, 1) := by decide +kernel
theorem dX8_next_45 : decode cX8_next 45 = .ok (.aload_n 0, 1) := by decide +kernel
theorem dX8_next_46 : decode cX8_next 46 = .ok (.getfield 78, 3) := by decide +kernel
theorem dX8_next_49 : decode cX8_next 49 = .ok (.invokevirtual 225, 3) := by decide +kernel
theorem dX8_next_52 : decode cX8_next 52 = .ok (.iconst 0, 1) := by decide +kernel
theorem dX8_next_53 : decode cX8_next 53 = .ok (.istore_n 3, 1) := by decide +kernel
theorem dX8_next_54 : decode cX8_next 54 = .ok (.iload_n 3, 1) := by decide +kernel
theorem dX8_next_55 : decode cX8_next 55 = .ok (.aload_n 0, 1) := by decide +kernel
theorem dX8_next_56 : decode cX8_next 56 = .ok (.getfield 19, 3) := by decide +kernel
theorem dX8_next_59 : decode cX8_next 59 = .ok (.getfield 161, 3) := by decide +kernel
theorem dX8_next_62 : decode cX8_next 62 = .ok (.if_icmp .ge 63, 3) := by decide +kernel
theorem dX8_next_65 : decode cX8_next 65 = .ok (.iload_n 3, 1) := by decide +kernel
theorem dX8_next_66 : decode cX8_next 66 = .ok (.aload_n 0, 1) := by decide +kernel
theorem dX8_next_67 : decode cX8_next 67 = .ok (.getfield 44, 3) := by decide +kernel
theorem dX8_next_70 : decode cX8_next 70 = .ok (.getfield 137, 3) := by decide +kernel
theorem dX8_next_73 : decode cX8_next 73 = .ok (.if_icmp .eq 46, 3) := by decide +kernel
theorem dX8_next_76 : decode cX8_next 76 = .ok (.aload_n 0, 1) := by decide +kernel
theorem dX8_next_77 : decode cX8_next 77 = .ok (.getfield 48, 3) := by decide +kernel
theorem dX8_next_80 : decode cX8_next 80 = .ok (.aload_n 0, 1) := by decide +kernel
theorem dX8_next_81 : decode cX8_next 81 = .ok (.getfield 44, 3) := by decide +kernel
theorem dX8_next_84 : decode cX8_next 84 = .ok (.invokevirtual 219, 3) := by decide +kernel
theorem dX8_next_87 : decode cX8_next 87 = .ok (.aload_n 0, 1) := by decide +kernel
theorem dX8_next_88 : decode cX8_next 88 = .ok (.getfield 37, 3) := by decide +kernel
theorem dX8_next_91 : decode cX8_next 91 = .ok (.aload_n 0, 1) := by decide +kernel
theorem dX8_next_92 : decode cX8_next 92 = .ok (.getfield 48, 3) := by decide +kernel
theorem dX8_next_95 : decode cX8_next 95 = .ok (.iload_n 3, 1) := by decide +kernel
theorem dX8_next_96 : decode cX8_next 96 = .ok (.invokevirtual 202, 3) := by decide +kernel
theorem dX8_next_99 : decode cX8_next 99 = .ok (.aload_n 0, 1) := by decide +kernel
theorem dX8_next_100 : decode cX8_next 100 = .ok (.getfield 78, 3) := by decide +kernel
theorem dX8_next_103 : decode cX8_next 103 = .ok (.iload_n 3, 1) := by decide +kernel
theorem dX8_next_104 : decode cX8_next 104 = .ok (.aload_n 0, 1) := by decide +kernel
theorem dX8_next_105 : decode cX8_next 105 = .ok (.getfield 37, 3) := by decide +kernel
theorem dX8_next_108 : decode cX8_next 108 = .ok (.aload_n 0, 1) := by decide +kernel
theorem dX8_next_109 : decode cX8_next 109 = .ok (.getfield 48, 3) := by decide +kernel
theorem dX8_next_112 : decode cX8_next 112 = .ok (.iload_n 1, 1) := by decide +kernel
theorem dX8_next_113 : decode cX8_next 113 = .ok (.invokevirtual 221, 3) := by decide +kernel
theorem dX8_next_116 : decode cX8_next 116 = .ok (.invokevirtual 226, 3) := by decide +kernel
theorem dX8_next_119 : decode cX8_next 119 = .ok (.iinc 3 1, 3) := by decide +kernel
theorem dX8_next_122 : decode cX8_next 122 = .ok (.goto (-68), 3) := by decide +kernel
theorem dX8_next_125 : decode cX8_next 125 = .ok (.aload_n 0, 1) := by decide +kernel
theorem dX8_next_126 : decode cX8_next 126 = .ok (.getfield 78, 3) := by decide +kernel
theorem dX8_next_129 : decode cX8_next 129 = .ok (.iload_n 2, 1) := by decide +kernel
theorem dX8_next_130 : decode cX8_next 130 = .ok (.invokevirtual 230, 3) := by decide +kernel
theorem dX8_next_133 : decode cX8_next 133 = .ok (.ireturn, 1) := by decide +kernel
theorem dX8_order_0 : decode cX8_order 0 = .ok (.iload_n 1, 1) := by decide +kernel
theorem dX8_order_1 : decode cX8_order 1 = .ok (.iconst 1, 1) := by decide +kernel
theorem dX8_order_2 : decode cX8_order 2 = .ok (.bipush 10, 2) := by decide +kernel
theorem dX8_order_4 : decode cX8_order 4 = .ok (.invokestatic 168, 3) := by decide +kernel
theorem dX8_order_7 : decode cX8_order 7 = .ok (.ifCond .ne 5, 3) := by decide +kernel
theorem dX8_order_10 : decode cX8_order 10 = .ok (.iconst (-1), 1) := by decide +kernel
theorem dX8_order_11 : decode cX8_order 11 = .ok (.ireturn, 1) := by decide +kernel
theorem dX8_order_12 : decode cX8_order 12 = .ok (.aload_n 0, 1) := by decide +kernel
theorem dX8_order_13 : decode cX8_order 13 = .ok (.invokevirtual 205, 3) := by decide +kernel
theorem dX8_order_16 : decode cX8_order 16 = .ok (.ifCond .eq 6, 3) := by decide +kernel
theorem dX8_order_19 : decode cX8_order 19 = .ok (.bipush (-2), 2) := by decide +kernel
theorem dX8_order_21 : decode cX8_order 21 = .ok (.ireturn, 1) := by decide +kernel
theorem dX8_order_22 : decode cX8_order 22 = .ok (.aload_n 0, 1) := by decide +kernel
theorem dX8_order_23 : decode cX8_order 23 = .ok (.getfield 71, 3) := by decide +kernel
theorem dX8_order_26 : decode cX8_order 26 = .ok (.aload_n 0, 1) := by decide +kernel
theorem dX8_order_27 : decode cX8_order 27 = .ok (.getfield 44, 3) := by decide +kernel
theorem dX8_order_30 : decode cX8_order 30 = .ok (.iload_n 1, 1) := by decide +kernel
theorem dX8_order_31 : decode cX8_order 31 = .ok (.aload_n 0, 1) := by decide +kernel
theorem dX8_order_32 : decode cX8_order 32 = .ok (.getfield 54, 3) := by decide +kernel
theorem dX8_order_35 : decode cX8_order 35 = .ok (.getfield 233, 3) := by decide +kernel
theorem dX8_order_38 : decode cX8_order 38 = .ok (.invokevirtual 236, 3) := by decide +kernel
theorem dX8_order_41 : decode cX8_order 41 = .ok (.aload_n 0, 1) := by decide +kernel
theorem dX8_order_42 : decode cX8_order 42 = .ok (.getfield 71, 3) := by decide +kernel
theorem dX8_order_45 : decode cX8_order 45 = .ok (.getfield 240, 3) := by decide +kernel
theorem dX8_order_48 : decode cX8_order 48 = .ok (.getfield 243, 3) := by decide +kernel
theorem dX8_order_51 : decode cX8_order 51 = .ok (.ireturn, 1) := by decide +kernel
theorem dX8_orderAt_0 : decode cX8_orderAt 0 = .ok (.iload_n 1, 1) := by decide +kernel
theorem dX8_orderAt_1 : decode cX8_orderAt 1 = .ok (.iconst 1, 1) := by decide +kernel
theorem dX8_orderAt_2 : decode cX8_orderAt 2 = .ok (.bipush 10, 2) := by decide +kernel
theorem dX8_orderAt_4 : decode cX8_orderAt 4 = .ok (.invokestatic 168, 3) := by decide +kernel
theorem dX8_orderAt_7 : decode cX8_orderAt 7 = .ok (.ifCond .eq 7, 3) := by decide +kernel
theorem dX8_orderAt_10 : decode cX8_orderAt 10 = .ok (.iload_n 2, 1) := by decide +kernel
theorem dX8_orderAt_11 : decode cX8_orderAt 11 = .ok (.ifCond .ge 5, 3) := by decide +kernel
theorem dX8_orderAt_14 : decode cX8_orderAt 14 = .ok (.iconst (-1), 1) := by decide +kernel
theorem dX8_orderAt_15 : decode cX8_orderAt 15 = .ok (.ireturn, 1) := by decide +kernel
theorem dX8_orderAt_16 : decode cX8_orderAt 16 = .ok (.aload_n 0, 1) := by decide +kernel
theorem dX8_orderAt_17 : decode cX8_orderAt 17 = .ok (.invokevirtual 205, 3) := by decide +kernel
theorem dX8_orderAt_20 : decode cX8_orderAt 20 = .ok (.ifCond .eq 6, 3) := by decide +kernel
theorem dX8_orderAt_23 : decode cX8_orderAt 23 = .ok (.bipush (-2), 2) := by decide +kernel
theorem dX8_orderAt_25 : decode cX8_orderAt 25 = .ok (.ireturn, 1) := by decide +kernel
theorem dX8_orderAt_26 : decode cX8_orderAt 26 = .ok (.iload_n 2, 1) := by decide +kernel
theorem dX8_orderAt_27 : decode cX8_orderAt 27 = .ok (.aload_n 0, 1) := by decide +kernel
theorem dX8_orderAt_28 : decode cX8_orderAt 28 = .ok (.getfield 19, 3) := by decide +kernel
theorem dX8_orderAt_31 : decode cX8_orderAt 31 = .ok (.getfield 161, 3) := by decide +kernel
theorem dX8_orderAt_34 : decode cX8_orderAt 34 = .ok (.if_icmp .lt 5, 3) := by decide +kernel
theorem dX8_orderAt_37 : decode cX8_orderAt 37 = .ok (.iconst (-1), 1) := by decide +kernel
theorem dX8_orderAt_38 : decode cX8_orderAt 38 = .ok (.ireturn, 1) := by decide +kernel
theorem dX8_orderAt_39 : decode cX8_orderAt 39 = .ok (.aload_n 0, 1) := by decide +kernel
theorem dX8_orderAt_40 : decode cX8_orderAt 40 = .ok (.getfield 71, 3) := by decide +kernel
theorem dX8_orderAt_43 : decode cX8_orderAt 43 = .ok (.aload_n 0, 1) := by decide +kernel
theorem dX8_orderAt_44 : decode cX8_orderAt 44 = .ok (.getfield 44, 3) := by decide +kernel
theorem dX8_orderAt_47 : decode cX8_orderAt 47 = .ok (.iload_n 1, 1) := by decide +kernel
theorem dX8_orderAt_48 : decode cX8_orderAt 48 = .ok (.aload_n 0, 1) := by decide +kernel
theorem dX8_orderAt_49 : decode cX8_orderAt 49 = .ok (.getfield 54, 3) := by decide +kernel
theorem dX8_orderAt_52 : decode cX8_orderAt 52 = .ok (.getfield 233, 3) := by decide +kernel
theorem dX8_orderAt_55 : decode cX8_orderAt 55 = .ok (.invokevirtual 236, 3) := by decide +kernel
theorem dX8_orderAt_58 : decode cX8_orderAt 58 = .ok (.aload_n 0, 1) := by decide +kernel
theorem dX8_orderAt_59 : decode cX8_orderAt 59 = .ok (.getfield 71, 3) := by decide +kernel
theorem dX8_orderAt_62 : decode cX8_orderAt 62 = .ok (.getfield 246, 3) := by decide +kernel
theorem dX8_orderAt_65 : decode cX8_orderAt 65 = .ok (.iload_n 2, 1) := by decide +kernel
theorem dX8_orderAt_66 : decode cX8_orderAt 66 = .ok (.invokestatic 175, 3) := by decide +kernel
theorem dX8_orderAt_69 : decode cX8_orderAt 69 = .ok (.ireturn, 1) := by decide +kernel
theorem dX8_sitters_0 : decode cX8_sitters 0 = .ok (.iload_n 1, 1) := by decide +kernel
theorem dX8_sitters_1 : decode cX8_sitters 1 = .ok (.iconst 1, 1) := by decide +kernel
theorem dX8_sitters_2 : decode cX8_sitters 2 = .ok (.bipush 10, 2) := by decide +kernel
theorem dX8_sitters_4 : decode cX8_sitters 4 = .ok (.invokestatic 168, 3) := by decide +kernel
theorem dX8_sitters_7 : decode cX8_sitters 7 = .ok (.ifCond .ne 5, 3) := by decide +kernel
theorem dX8_sitters_10 : decode cX8_sitters 10 = .ok (.iconst (-1), 1) := by decide +kernel
theorem dX8_sitters_11 : decode cX8_sitters 11 = .ok (.ireturn, 1) := by decide +kernel
theorem dX8_sitters_12 : decode cX8_sitters 12 = .ok (.aload_n 0, 1) := by decide +kernel
theorem dX8_sitters_13 : decode cX8_sitters 13 = .ok (.invokevirtual 205, 3) := by decide +kernel
theorem dX8_sitters_16 : decode cX8_sitters 16 = .ok (.ifCond .eq 6, 3) := by decide +kernel
theorem dX8_sitters_19 : decode cX8_sitters 19 = .ok (.bipush (-2), 2) := by decide +kernel
theorem dX8_sitters_21 : decode cX8_sitters 21 = .ok (.ireturn, 1) := by decide +kernel
theorem dX8_sitters_22 : decode cX8_sitters 22 = .ok (.aload_n 0, 1) := by decide +kernel
theorem dX8_sitters_23 : decode cX8_sitters 23 = .ok (.getfield 71, 3) := by decide +kernel
theorem dX8_sitters_26 : decode cX8_sitters 26 = .ok (.aload_n 0, 1) := by decide +kernel
theorem dX8_sitters_27 : decode cX8_sitters 27 = .ok (.getfield 44, 3) := by decide +kernel
theorem dX8_sitters_30 : decode cX8_sitters 30 = .ok (.iload_n 1, 1) := by decide +kernel
theorem dX8_sitters_31 : decode cX8_sitters 31 = .ok (.aload_n 0, 1) := by decide +kernel
theorem dX8_sitters_32 : decode cX8_sitters 32 = .ok (.getfield 54, 3) := by decide +kernel
theorem dX8_sitters_35 : decode cX8_sitters 35 = .ok (.getfield 233, 3) := by decide +kernel
theorem dX8_sitters_38 : decode cX8_sitters 38 = .ok (.invokevirtual 236, 3) := by decide +kernel
theorem dX8_sitters_41 : decode cX8_sitters 41 = .ok (.aload_n 0, 1) := by decide +kernel
theorem dX8_sitters_42 : decode cX8_sitters 42 = .ok (.getfield 71, 3) := by decide +kernel
theorem dX8_sitters_45 : decode cX8_sitters 45 = .ok (.getfield 249, 3) := by decide +kernel
theorem dX8_sitters_48 : decode cX8_sitters 48 = .ok (.ireturn, 1) := by decide +kernel
theorem dX8_luck_0 : decode cX8_luck 0 = .ok (.aload_n 0, 1) := by decide +kernel
theorem dX8_luck_1 : decode cX8_luck 1 = .ok (.iload_n 1, 1) := by decide +kernel
theorem dX8_luck_2 : decode cX8_luck 2 = .ok (.invokevirtual 164, 3) := by decide +kernel
theorem dX8_luck_5 : decode cX8_luck 5 = .ok (.ifCond .eq 13, 3) := by decide +kernel
theorem dX8_luck_8 : decode cX8_luck 8 = .ok (.iload_n 2, 1) := by decide +kernel
theorem dX8_luck_9 : decode cX8_luck 9 = .ok (.iconst 1, 1) := by decide +kernel
theorem dX8_luck_10 : decode cX8_luck 10 = .ok (.bipush 10, 2) := by decide +kernel
theorem dX8_luck_12 : decode cX8_luck 12 = .ok (.invokestatic 168, 3) := by decide +kernel
theorem dX8_luck_15 : decode cX8_luck 15 = .ok (.ifCond .ne 5, 3) := by decide +kernel
theorem dX8_luck_18 : decode cX8_luck 18 = .ok (.iconst (-1), 1) := by decide +kernel
theorem dX8_luck_19 : decode cX8_luck 19 = .ok (.ireturn, 1) := by decide +kernel
theorem dX8_luck_20 : decode cX8_luck 20 = .ok (.aload_n 0, 1) := by decide +kernel
theorem dX8_luck_21 : decode cX8_luck 21 = .ok (.invokevirtual 205, 3) := by decide +kernel
theorem dX8_luck_24 : decode cX8_luck 24 = .ok (.ifCond .eq 6, 3) := by decide +kernel
theorem dX8_luck_27 : decode cX8_luck 27 = .ok (.bipush (-2), 2) := by decide +kernel
theorem dX8_luck_29 : decode cX8_luck 29 = .ok (.ireturn, 1) := by decide +kernel
theorem dX8_luck_30 : decode cX8_luck 30 = .ok (.aload_n 0, 1) := by decide +kernel
theorem dX8_luck_31 : decode cX8_luck 31 = .ok (.getfield 71, 3) := by decide +kernel
theorem dX8_luck_34 : decode cX8_luck 34 = .ok (.aload_n 0, 1) := by decide +kernel
theorem dX8_luck_35 : decode cX8_luck 35 = .ok (.getfield 44, 3) := by decide +kernel
theorem dX8_luck_38 : decode cX8_luck 38 = .ok (.iload_n 2, 1) := by decide +kernel
theorem dX8_luck_39 : decode cX8_luck 39 = .ok (.aload_n 0, 1) := by decide +kernel
theorem dX8_luck_40 : decode cX8_luck 40 = .ok (.getfield 54, 3) := by decide +kernel
theorem dX8_luck_43 : decode cX8_luck 43 = .ok (.getfield 233, 3) := by decide +kernel
theorem dX8_luck_46 : decode cX8_luck 46 = .ok (.invokevirtual 236, 3) := by decide +kernel
theorem dX8_luck_49 : decode cX8_luck 49 = .ok (.aload_n 0, 1) := by decide +kernel
theorem dX8_luck_50 : decode cX8_luck 50 = .ok (.getfield 71, 3) := by decide +kernel
theorem dX8_luck_53 : decode cX8_luck 53 = .ok (.getfield 252, 3) := by decide +kernel
theorem dX8_luck_56 : decode cX8_luck 56 = .ok (.iload_n 1, 1) := by decide +kernel
theorem dX8_luck_57 : decode cX8_luck 57 = .ok (.invokestatic 175, 3) := by decide +kernel
theorem dX8_luck_60 : decode cX8_luck 60 = .ok (.ireturn, 1) := by decide +kernel
theorem dX8_wants_0 : decode cX8_wants 0 = .ok (.iload_n 1, 1) := by decide +kernel
theorem dX8_wants_1 : decode cX8_wants 1 = .ok (.iconst 1, 1) := by decide +kernel
theorem dX8_wants_2 : decode cX8_wants 2 = .ok (.bipush 120, 2) := by decide +kernel
theorem dX8_wants_4 : decode cX8_wants 4 = .ok (.invokestatic 168, 3) := by decide +kernel
theorem dX8_wants_7 : decode cX8_wants 7 = .ok (.ifCond .eq 12, 3) := by decide +kernel
theorem dX8_wants_10 : decode cX8_wants 10 = .ok (.iload_n 2, 1) := by decide +kernel
theorem dX8_wants_11 : decode cX8_wants 11 = .ok (.iconst 0, 1) := by decide +kernel
theorem dX8_wants_12 : decode cX8_wants 12 = .ok (.iconst 1, 1) := by decide +kernel
theorem dX8_wants_13 : decode cX8_wants 13 = .ok (.invokestatic 168, 3) := by decide +kernel
theorem dX8_wants_16 : decode cX8_wants 16 = .ok (.ifCond .ne 5, 3) := by decide +kernel
theorem dX8_wants_19 : decode cX8_wants 19 = .ok (.iconst (-1), 1) := by decide +kernel
theorem dX8_wants_20 : decode cX8_wants 20 = .ok (.ireturn, 1) := by decide +kernel
theorem dX8_wants_21 : decode cX8_wants 21 = .ok (.aload_n 0, 1) := by decide +kernel
theorem dX8_wants_22 : decode cX8_wants 22 = .ok (.invokevirtual 205, 3) := by decide +kernel
theorem dX8_wants_25 : decode cX8_wants 25 = .ok (.ifCond .eq 6, 3) := by decide +kernel
theorem dX8_wants_28 : decode cX8_wants 28 = .ok (.bipush (-2), 2) := by decide +kernel
theorem dX8_wants_30 : decode cX8_wants 30 = .ok (.ireturn, 1) := by decide +kernel
theorem dX8_wants_31 : decode cX8_wants 31 = .ok (.aload_n 0, 1) := by decide +kernel
theorem dX8_wants_32 : decode cX8_wants 32 = .ok (.getfield 78, 3) := by decide +kernel
theorem dX8_wants_35 : decode cX8_wants 35 = .ok (.invokevirtual 225, 3) := by decide +kernel
theorem dX8_wants_38 : decode cX8_wants 38 = .ok (.iconst 0, 1) := by decide +kernel
theorem dX8_wants_39 : decode cX8_wants 39 = .ok (.istore_n 3, 1) := by decide +kernel
theorem dX8_wants_40 : decode cX8_wants 40 = .ok (.iload_n 3, 1) := by decide +kernel
theorem dX8_wants_41 : decode cX8_wants 41 = .ok (.iconst 4, 1) := by decide +kernel
theorem dX8_wants_42 : decode cX8_wants 42 = .ok (.aload_n 0, 1) := by decide +kernel
theorem dX8_wants_43 : decode cX8_wants 43 = .ok (.getfield 19, 3) := by decide +kernel
theorem dX8_wants_46 : decode cX8_wants 46 = .ok (.getfield 161, 3) := by decide +kernel
theorem dX8_wants_49 : decode cX8_wants 49 = .ok (.iadd, 1) := by decide +kernel
theorem dX8_wants_50 : decode cX8_wants 50 = .ok (.if_icmp .ge 58, 3) := by decide +kernel
theorem dX8_wants_53 : decode cX8_wants 53 = .ok (.iload_n 3, 1) := by decide +kernel
theorem dX8_wants_54 : decode cX8_wants 54 = .ok (.iconst 4, 1) := by decide +kernel
theorem dX8_wants_55 : decode cX8_wants 55 = .ok (.isub, 1) := by decide +kernel
theorem dX8_wants_56 : decode cX8_wants 56 = .ok (.aload_n 0, 1) := by decide +kernel
theorem dX8_wants_57 : decode cX8_wants 57 = .ok (.getfield 44, 3) := by decide +kernel
theorem dX8_wants_60 : decode cX8_wants 60 = .ok (.getfield 137, 3) := by decide +kernel
theorem dX8_wants_63 : decode cX8_wants 63 = .ok (.if_icmp .eq 39, 3) := by decide +kernel
theorem dX8_wants_66 : decode cX8_wants 66 = .ok (.aload_n 0, 1) := by decide +kernel
theorem dX8_wants_67 : decode cX8_wants 67 = .ok (.getfield 48, 3) := by decide +kernel
theorem dX8_wants_70 : decode cX8_wants 70 = .ok (.aload_n 0, 1) := by decide +kernel
theorem dX8_wants_71 : decode cX8_wants 71 = .ok (.getfield 44, 3) := by decide +kernel
theorem dX8_wants_74 : decode cX8_wants 74 = .ok (.invokevirtual 219, 3) := by decide +kernel
theorem dX8_wants_77 : decode cX8_wants 77 = .ok (.aload_n 0, 1) := by decide +kernel
theorem dX8_wants_78 : decode cX8_wants 78 = .ok (.iload_n 3, 1) := by decide +kernel
theorem dX8_wants_79 : decode cX8_wants 79 = .ok (.invokevirtual 255, 3) := by decide +kernel
theorem dX8_wants_82 : decode cX8_wants 82 = .ok (.aload_n 0, 1) := by decide +kernel
theorem dX8_wants_83 : decode cX8_wants 83 = .ok (.getfield 78, 3) := by decide +kernel
theorem dX8_wants_86 : decode cX8_wants 86 = .ok (.iload_n 3, 1) := by decide +kernel
theorem dX8_wants_87 : decode cX8_wants 87 = .ok (.aload_n 0, 1) := by decide +kernel
theorem dX8_wants_88 : decode cX8_wants 88 = .ok (.getfield 37, 3) := by decide +kernel
theorem dX8_wants_91 : decode cX8_wants 91 = .ok (.aload_n 0, 1) := by decide +kernel
theorem dX8_wants_92 : decode cX8_wants 92 = .ok (.getfield 48, 3) := by decide +kernel
theorem dX8_wants_95 : decode cX8_wants 95 = .ok (.iload_n 1, 1) := by decide +kernel
theorem dX8_wants_96 : decode cX8_wants 96 = .ok (.invokevirtual 221, 3) := by decide +kernel
theorem dX8_wants_99 : decode cX8_wants 99 = .ok (.invokevirtual 226, 3) := by decide +kernel
theorem dX8_wants_102 : decode cX8_wants 102 = .ok (.iinc 3 1, 3) := by decide +kernel
theorem dX8_wants_105 : decode cX8_wants 105 = .ok (.goto (-65), 3) := by decide +kernel
theorem dX8_wants_108 : decode cX8_wants 108 = .ok (.aload_n 0, 1) := by decide +kernel
theorem dX8_wants_109 : decode cX8_wants 109 = .ok (.getfield 78, 3) := by decide +kernel
theorem dX8_wants_112 : decode cX8_wants 112 = .ok (.iload_n 2, 1) := by decide +kernel
theorem dX8_wants_113 : decode cX8_wants 113 = .ok (.invokevirtual 230, 3) := by decide +kernel
theorem dX8_wants_116 : decode cX8_wants 116 = .ok (.ireturn, 1) := by decide +kernel
theorem dX8_grant_0 : decode cX8_grant 0 = .ok (.iload_n 1, 1) := by decide +kernel
theorem dX8_grant_1 : decode cX8_grant 1 = .ok (.iconst 1, 1) := by decide +kernel
theorem dX8_grant_2 : decode cX8_grant 2 = .ok (.if_icmp .ne 17, 3) := by decide +kernel
theorem dX8_grant_5 : decode cX8_grant 5 = .ok (.aload_n 0, 1) := by decide +kernel
theorem dX8_grant_6 : decode cX8_grant 6 = .ok (.getfield 37, 3) := by decide +kernel
theorem dX8_grant_9 : decode cX8_grant 9 = .ok (.aload_n 0, 1) := by decide +kernel
theorem dX8_grant_10 : decode cX8_grant 10 = .ok (.getfield 48, 3) := by decide +kernel
theorem dX8_grant_13 : decode cX8_grant 13 = .ok (.invokevirtual 209, 3) := by decide +kernel
theorem dX8_grant_16 : decode cX8_grant 16 = .ok (.goto 65, 3) := by decide +kernel
theorem dX8_grant_19 : decode cX8_grant 19 = .ok (.iload_n 1, 1) := by decide +kernel
theorem dX8_grant_20 : decode cX8_grant 20 = .ok (.iconst 2, 1) := by decide +kernel
theorem dX8_grant_21 : decode cX8_grant 21 = .ok (.if_icmp .ne 17, 3) := by decide +kernel
theorem dX8_grant_24 : decode cX8_grant 24 = .ok (.aload_n 0, 1) := by decide +kernel
theorem dX8_grant_25 : decode cX8_grant 25 = .ok (.getfield 37, 3) := by decide +kernel
theorem dX8_grant_28 : decode cX8_grant 28 = .ok (.aload_n 0, 1) := by decide +kernel
theorem dX8_grant_29 : decode cX8_grant 29 = .ok (.getfield 48, 3) := by decide +kernel
theorem dX8_grant_32 : decode cX8_grant 32 = .ok (.invokevirtual 212, 3) := by decide +kernel
theorem dX8_grant_35 : decode cX8_grant 35 = .ok (.goto 46, 3) := by decide +kernel
theorem dX8_grant_38 : decode cX8_grant 38 = .ok (.iload_n 1, 1) := by decide +kernel
theorem dX8_grant_39 : decode cX8_grant 39 = .ok (.iconst 3, 1) := by decide +kernel
theorem dX8_grant_40 : decode cX8_grant 40 = .ok (.if_icmp .ne 22, 3) := by decide +kernel
theorem dX8_grant_43 : decode cX8_grant 43 = .ok (.aload_n 0, 1) := by decide +kernel
theorem dX8_grant_44 : decode cX8_grant 44 = .ok (.getfield 48, 3) := by decide +kernel
theorem dX8_grant_47 : decode cX8_grant 47 = .ok (.iconst 1, 1) := by decide +kernel
theorem dX8_grant_48 : decode cX8_grant 48 = .ok (.aload_n 0, 1) := by decide +kernel
theorem dX8_grant_49 : decode cX8_grant 49 = .ok (.getfield 48, 3) := by decide +kernel
theorem dX8_grant_52 : decode cX8_grant 52 = .ok (.getfield 152, 3) := by decide +kernel
theorem dX8_grant_55 : decode cX8_grant 55 = .ok (.isub, 1) := by decide +kernel
theorem dX8_grant_56 : decode cX8_grant 56 = .ok (.putfield 152, 3) := by decide +kernel
theorem dX8_grant_59 : decode cX8_grant 59 = .ok (.goto 22, 3) := by decide +kernel
theorem dX8_grant_62 : decode cX8_grant 62 = .ok (.iload_n 1, 1) := by decide +kernel
theorem dX8_grant_63 : decode cX8_grant 63 = .ok (.iconst 4, 1) := by decide +kernel
theorem dX8_grant_64 : decode cX8_grant 64 = .ok (.if_icmp .lt 17, 3) := by decide +kernel
theorem dX8_grant_67 : decode cX8_grant 67 = .ok (.aload_n 0, 1) := by decide +kernel
theorem dX8_grant_68 : decode cX8_grant 68 = .ok (.getfield 37, 3) := by decide +kernel
theorem dX8_grant_71 : decode cX8_grant 71 = .ok (.aload_n 0, 1) := by decide +kernel
theorem dX8_grant_72 : decode cX8_grant 72 = .ok (.getfield 48, 3) := by decide +kernel
theorem dX8_grant_75 : decode cX8_grant 75 = .ok (.iload_n 1, 1) := by decide +kernel
theorem dX8_grant_76 : decode cX8_grant 76 = .ok (.iconst 4, 1) := by decide +kernel
theorem dX8_grant_77 : decode cX8_grant 77 = .ok (.isub, 1) := by decide +kernel
theorem dX8_grant_78 : decode cX8_grant 78 = .ok (.invokevirtual 202, 3) := by decide +kernel
theorem dX8_grant_81 : decode cX8_grant 81 = .ok (.return_, 1) := by decide +kernel
theorem dX8_criedInSight_0 : decode cX8_criedInSight 0 = .ok (.aload_n 0, 1) := by decide +kernel
theorem dX8_criedInSight_1 : decode cX8_criedInSight 1 = .ok (.getfield 48, 3) := by decide +kernel
theorem dX8_criedInSight_4 : decode cX8_criedInSight 4 = .ok (.aload_n 0, 1) := by decide +kernel
theorem dX8_criedInSight_5 : decode cX8_criedInSight 5 = .ok (.getfield 44, 3) := by decide +kernel
theorem dX8_criedInSight_8 : decode cX8_criedInSight 8 = .ok (.invokevirtual 219, 3) := by decide +kernel
theorem dX8_criedInSight_11 : decode cX8_criedInSight 11 = .ok (.aload_n 0, 1) := by decide +kernel
theorem dX8_criedInSight_12 : decode cX8_criedInSight 12 = .ok (.getfield 48, 3) := by decide +kernel
theorem dX8_criedInSight_15 : decode cX8_criedInSight 15 = .ok (.iconst 1, 1) := by decide +kernel
theorem dX8_criedInSight_16 : decode cX8_criedInSight 16 = .ok (.putfield 152, 3) := by decide +kernel
theorem dX8_criedInSight_19 : decode cX8_criedInSight 19 = .ok (.aload_n 0, 1) := by decide +kernel
theorem dX8_criedInSight_20 : decode cX8_criedInSight 20 = .ok (.getfield 37, 3) := by decide +kernel
theorem dX8_criedInSight_23 : decode cX8_criedInSight 23 = .ok (.aload_n 0, 1) := by decide +kernel
theorem dX8_criedInSight_24 : decode cX8_criedInSight 24 = .ok (.getfield 48, 3) := by decide +kernel
theorem dX8_criedInSight_27 : decode cX8_criedInSight 27 = .ok (.iload_n 1, 1) := by decide +kernel
theorem dX8_criedInSight_28 : decode cX8_criedInSight 28 = .ok (.invokevirtual 221, 3) := by decide +kernel
theorem dX8_criedInSight_31 : decode cX8_criedInSight 31 = .ok (.istore_n 3, 1) := by decide +kernel
theorem dX8_criedInSight_32 : decode cX8_criedInSight 32 = .ok (.aload_n 0, 1) := by decide +kernel
theorem dX8_criedInSight_33 : decode cX8_criedInSight 33 = .ok (.getfield 48, 3) := by decide +kernel
theorem dX8_criedInSight_36 : decode cX8_criedInSight 36 = .ok (.iconst 0, 1) := by decide +kernel
theorem dX8_criedInSight_37 : decode cX8_criedInSight 37 = .ok (.putfield 152, 3) := by decide +kernel
theorem dX8_criedInSight_40 : decode cX8_criedInSight 40 = .ok (.iload_n 3, 1) := by decide +kernel
theorem dX8_criedInSight_41 : decode cX8_criedInSight 41 = .ok (.aload_n 0, 1) := by decide +kernel
theorem dX8_criedInSight_42 : decode cX8_criedInSight 42 = .ok (.getfield 37, 3) := by decide +kernel
theorem dX8_criedInSight_45 : decode cX8_criedInSight 45 = .ok (.aload_n 0, 1) := by decide +kernel
theorem dX8_criedInSight_46 : decode cX8_criedInSight 46 = .ok (.getfield 48, 3) := by decide +kernel
theorem dX8_criedInSight_49 : decode cX8_criedInSight 49 = .ok (.iload_n 2, 1) := by decide +kernel
theorem dX8_criedInSight_50 : decode cX8_criedInSight 50 = .ok (.iload_n 1, 1) := by decide +kernel
theorem dX8_criedInSight_51 : decode cX8_criedInSight 51 = .ok (.isub, 1) := by decide +kernel
theorem dX8_criedInSight_52 : decode cX8_criedInSight 52 = .ok (.invokevirtual 221, 3) := by decide +kernel
theorem dX8_criedInSight_55 : decode cX8_criedInSight 55 = .ok (.iadd, 1) := by decide +kernel
theorem dX8_criedInSight_56 : decode cX8_criedInSight 56 = .ok (.ireturn, 1) := by decide +kernel
theorem dX8_moment_0 : decode cX8_moment 0 = .ok (.iload_n 1, 1) := by decide +kernel
theorem dX8_moment_1 : decode cX8_moment 1 = .ok (.iconst 1, 1) := by decide +kernel
theorem dX8_moment_2 : decode cX8_moment 2 = .ok (.bipush 120, 2) := by decide +kernel
theorem dX8_moment_4 : decode cX8_moment 4 = .ok (.invokestatic 168, 3) := by decide +kernel
theorem dX8_moment_7 : decode cX8_moment 7 = .ok (.ifCond .ne 7, 3) := by decide +kernel
theorem dX8_moment_10 : decode cX8_moment 10 = .ok (.ldc_w 259, 3) := by decide +kernel
theorem dX8_moment_13 : decode cX8_moment 13 = .ok (.ireturn, 1) := by decide +kernel
theorem dX8_moment_14 : decode cX8_moment 14 = .ok (.aload_n 0, 1) := by decide +kernel
theorem dX8_moment_15 : decode cX8_moment 15 = .ok (.iconst 1, 1) := by decide +kernel
theorem dX8_moment_16 : decode cX8_moment 16 = .ok (.iload_n 1, 1) := by decide +kernel
theorem dX8_moment_17 : decode cX8_moment 17 = .ok (.invokevirtual 260, 3) := by decide +kernel
theorem dX8_moment_20 : decode cX8_moment 20 = .ok (.aload_n 0, 1) := by decide +kernel
theorem dX8_moment_21 : decode cX8_moment 21 = .ok (.iconst 0, 1) := by decide +kernel
theorem dX8_moment_22 : decode cX8_moment 22 = .ok (.iload_n 1, 1) := by decide +kernel
theorem dX8_moment_23 : decode cX8_moment 23 = .ok (.invokevirtual 260, 3) := by decide +kernel
theorem dX8_moment_26 : decode cX8_moment 26 = .ok (.isub, 1) := by decide +kernel
theorem dX8_moment_27 : decode cX8_moment 27 = .ok (.ireturn, 1) := by decide +kernel
theorem dX8_beat_0 : decode cX8_beat 0 = .ok (.aload_n 0, 1) := by decide +kernel
theorem dX8_beat_1 : decode cX8_beat 1 = .ok (.iload_n 1, 1) := by decide +kernel
theorem dX8_beat_2 : decode cX8_beat 2 = .ok (.invokevirtual 164, 3) := by decide +kernel
theorem dX8_beat_5 : decode cX8_beat 5 = .ok (.ifCond .eq 22, 3) := by decide +kernel
theorem dX8_beat_8 : decode cX8_beat 8 = .ok (.iload_n 2, 1) := by decide +kernel
theorem dX8_beat_9 : decode cX8_beat 9 = .ok (.iconst 1, 1) := by decide +kernel
theorem dX8_beat_10 : decode cX8_beat 10 = .ok (.bipush 120, 2) := by decide +kernel
theorem dX8_beat_12 : decode cX8_beat 12 = .ok (.invokestatic 168, 3) := by decide +kernel
theorem dX8_beat_15 : decode cX8_beat 15 = .ok (.ifCond .eq 12, 3) := by decide +kernel
theorem dX8_beat_18 : decode cX8_beat 18 = .ok (.iload_n 3, 1) := by decide +kernel
theorem dX8_beat_19 : decode cX8_beat 19 = .ok (.iconst 0, 1) := by decide +kernel
theorem dX8_beat_20 : decode cX8_beat 20 = .ok (.iconst 1, 1) := by decide +kernel
theorem dX8_beat_21 : decode cX8_beat 21 = .ok (.invokestatic 168, 3) := by decide +kernel
theorem dX8_beat_24 : decode cX8_beat 24 = .ok (.ifCond .ne 5, 3) := by decide +kernel
theorem dX8_beat_27 : decode cX8_beat 27 = .ok (.iconst (-1), 1) := by decide +kernel
theorem dX8_beat_28 : decode cX8_beat 28 = .ok (.ireturn, 1) := by decide +kernel
theorem dX8_beat_29 : decode cX8_beat 29 = .ok (.aload_n 0, 1) := by decide +kernel
theorem dX8_beat_30 : decode cX8_beat 30 = .ok (.getfield 44, 3) := by decide +kernel
theorem dX8_beat_33 : decode cX8_beat 33 = .ok (.getfield 146, 3) := by decide +kernel
theorem dX8_beat_36 : decode cX8_beat 36 = .ok (.ifCond .le 6, 3) := by decide +kernel
theorem dX8_beat_39 : decode cX8_beat 39 = .ok (.bipush (-2), 2) := by decide +kernel
theorem dX8_beat_41 : decode cX8_beat 41 = .ok (.ireturn, 1) := by decide +kernel
theorem dX8_beat_42 : decode cX8_beat 42 = .ok (.aload_n 0, 1) := by decide +kernel
theorem dX8_beat_43 : decode cX8_beat 43 = .ok (.getfield 78, 3) := by decide +kernel
theorem dX8_beat_46 : decode cX8_beat 46 = .ok (.invokevirtual 225, 3) := by decide +kernel
theorem dX8_beat_49 : decode cX8_beat 49 = .ok (.iconst 0, 1) := by decide +kernel
theorem dX8_beat_50 : decode cX8_beat 50 = .ok (.istore 4, 2) := by decide +kernel
theorem dX8_beat_52 : decode cX8_beat 52 = .ok (.iload 4, 2) := by decide +kernel
theorem dX8_beat_54 : decode cX8_beat 54 = .ok (.bipush 9, 2) := by decide +kernel
theorem dX8_beat_56 : decode cX8_beat 56 = .ok (.if_icmp .gt 73, 3) := by decide +kernel
theorem dX8_beat_59 : decode cX8_beat 59 = .ok (.aload_n 0, 1) := by decide +kernel
theorem dX8_beat_60 : decode cX8_beat 60 = .ok (.getfield 48, 3) := by decide +kernel
theorem dX8_beat_63 : decode cX8_beat 63 = .ok (.aload_n 0, 1) := by decide +kernel
theorem dX8_beat_64 : decode cX8_beat 64 = .ok (.getfield 44, 3) := by decide +kernel
theorem dX8_beat_67 : decode cX8_beat 67 = .ok (.invokevirtual 219, 3) := by decide +kernel
theorem dX8_beat_70 : decode cX8_beat 70 = .ok (.iload_n 1, 1) := by decide +kernel
theorem dX8_beat_71 : decode cX8_beat 71 = .ok (.aload_n 0, 1) := by decide +kernel
theorem dX8_beat_72 : decode cX8_beat 72 = .ok (.getfield 48, 3) := by decide +kernel
theorem dX8_beat_75 : decode cX8_beat 75 = .ok (.getfield 137, 3) := by decide +kernel
theorem dX8_beat_78 : decode cX8_beat 78 = .ok (.if_icmp .eq 15, 3) := by decide +kernel
theorem dX8_beat_81 : decode cX8_beat 81 = .ok (.aload_n 0, 1) := by decide +kernel
theorem dX8_beat_82 : decode cX8_beat 82 = .ok (.getfield 37, 3) := by decide +kernel
theorem dX8_beat_85 : decode cX8_beat 85 = .ok (.aload_n 0, 1) := by decide +kernel
theorem dX8_beat_86 : decode cX8_beat 86 = .ok (.getfield 48, 3) := by decide +kernel
theorem dX8_beat_89 : decode cX8_beat 89 = .ok (.iload_n 1, 1) := by decide +kernel
theorem dX8_beat_90 : decode cX8_beat 90 = .ok (.invokevirtual 202, 3) := by decide +kernel
theorem dX8_beat_93 : decode cX8_beat 93 = .ok (.aload_n 0, 1) := by decide +kernel
theorem dX8_beat_94 : decode cX8_beat 94 = .ok (.getfield 48, 3) := by decide +kernel
theorem dX8_beat_97 : decode cX8_beat 97 = .ok (.iload 4, 2) := by decide +kernel
theorem dX8_beat_99 : decode cX8_beat 99 = .ok (.putfield 263, 3) := by decide +kernel
theorem dX8_beat_102 : decode cX8_beat 102 = .ok (.aload_n 0, 1) := by decide +kernel
theorem dX8_beat_103 : decode cX8_beat 103 = .ok (.getfield 78, 3) := by decide +kernel
theorem dX8_beat_106 : decode cX8_beat 106 = .ok (.iload 4, 2) := by decide +kernel
theorem dX8_beat_108 : decode cX8_beat 108 = .ok (.aload_n 0, 1) := by decide +kernel
theorem dX8_beat_109 : decode cX8_beat 109 = .ok (.getfield 37, 3) := by decide +kernel
theorem dX8_beat_112 : decode cX8_beat 112 = .ok (.aload_n 0, 1) := by decide +kernel
theorem dX8_beat_113 : decode cX8_beat 113 = .ok (.getfield 48, 3) := by decide +kernel
theorem dX8_beat_116 : decode cX8_beat 116 = .ok (.iload_n 2, 1) := by decide +kernel
theorem dX8_beat_117 : decode cX8_beat 117 = .ok (.invokevirtual 221, 3) := by decide +kernel
theorem dX8_beat_120 : decode cX8_beat 120 = .ok (.invokevirtual 226, 3) := by decide +kernel
theorem dX8_beat_123 : decode cX8_beat 123 = .ok (.iinc 4 1, 3) := by decide +kernel
theorem dX8_beat_126 : decode cX8_beat 126 = .ok (.goto (-74), 3) := by decide +kernel
theorem dX8_beat_129 : decode cX8_beat 129 = .ok (.aload_n 0, 1) := by decide +kernel
theorem dX8_beat_130 : decode cX8_beat 130 = .ok (.getfield 78, 3) := by decide +kernel
theorem dX8_beat_133 : decode cX8_beat 133 = .ok (.iload_n 3, 1) := by decide +kernel
theorem dX8_beat_134 : decode cX8_beat 134 = .ok (.invokevirtual 230, 3) := by decide +kernel
theorem dX8_beat_137 : decode cX8_beat 137 = .ok (.ireturn, 1) := by decide +kernel
theorem dX8_round_0 : decode cX8_round 0 = .ok (.iload_n 1, 1) := by decide +kernel
theorem dX8_round_1 : decode cX8_round 1 = .ok (.iconst 0, 1) := by decide +kernel
theorem dX8_round_2 : decode cX8_round 2 = .ok (.iconst 3, 1) := by decide +kernel
theorem dX8_round_3 : decode cX8_round 3 = .ok (.invokestatic 168, 3) := by decide +kernel
theorem dX8_round_6 : decode cX8_round 6 = .ok (.ifCond .eq 44, 3) := by decide +kernel
theorem dX8_round_9 : decode cX8_round 9 = .ok (.iload_n 2, 1) := by decide +kernel
theorem dX8_round_10 : decode cX8_round 10 = .ok (.iconst 1, 1) := by decide +kernel
theorem dX8_round_11 : decode cX8_round 11 = .ok (.bipush 20, 2) := by decide +kernel
theorem dX8_round_13 : decode cX8_round 13 = .ok (.invokestatic 168, 3) := by decide +kernel
theorem dX8_round_16 : decode cX8_round 16 = .ok (.ifCond .eq 34, 3) := by decide +kernel
theorem dX8_round_19 : decode cX8_round 19 = .ok (.iload_n 3, 1) := by decide +kernel
theorem dX8_round_20 : decode cX8_round 20 = .ok (.iconst 1, 1) := by decide +kernel
theorem dX8_round_21 : decode cX8_round 21 = .ok (.sipush 240, 3) := by decide +kernel
theorem dX8_round_24 : decode cX8_round 24 = .ok (.invokestatic 168, 3) := by decide +kernel
theorem dX8_round_27 : decode cX8_round 27 = .ok (.ifCond .eq 23, 3) := by decide +kernel
theorem dX8_round_30 : decode cX8_round 30 = .ok (.iload 4, 2) := by decide +kernel
theorem dX8_round_32 : decode cX8_round 32 = .ok (.iconst 0, 1) := by decide +kernel
theorem dX8_round_33 : decode cX8_round 33 = .ok (.iconst 2, 1) := by decide +kernel
theorem dX8_round_34 : decode cX8_round 34 = .ok (.invokestatic 168, 3) := by decide +kernel
theorem dX8_round_37 : decode cX8_round 37 = .ok (.ifCond .eq 13, 3) := by decide +kernel
theorem dX8_round_40 : decode cX8_round 40 = .ok (.aload_n 0, 1) := by decide +kernel
theorem dX8_round_41 : decode cX8_round 41 = .ok (.getfield 19, 3) := by decide +kernel
theorem dX8_round_44 : decode cX8_round 44 = .ok (.getfield 161, 3) := by decide +kernel
theorem dX8_round_47 : decode cX8_round 47 = .ok (.ifCond .ne 5, 3) := by decide +kernel
theorem dX8_round_50 : decode cX8_round 50 = .ok (.iconst (-1), 1) := by decide +kernel
theorem dX8_round_51 : decode cX8_round 51 = .ok (.ireturn, 1) := by decide +kernel
theorem dX8_round_52 : decode cX8_round 52 = .ok (.aload_n 0, 1) := by decide +kernel
theorem dX8_round_53 : decode cX8_round 53 = .ok (.getfield 48, 3) := by decide +kernel
theorem dX8_round_56 : decode cX8_round 56 = .ok (.aload_n 0, 1) := by decide +kernel
theorem dX8_round_57 : decode cX8_round 57 = .ok (.getfield 44, 3) := by decide +kernel
theorem dX8_round_60 : decode cX8_round 60 = .ok (.invokevirtual 219, 3) := by decide +kernel
theorem dX8_round_63 : decode cX8_round 63 = .ok (.aload_n 0, 1) := by decide +kernel
theorem dX8_round_64 : decode cX8_round 64 = .ok (.getfield 37, 3) := by decide +kernel
theorem dX8_round_67 : decode cX8_round 67 = .ok (.aload_n 0, 1) := by decide +kernel
theorem dX8_round_68 : decode cX8_round 68 = .ok (.getfield 48, 3) := by decide +kernel
theorem dX8_round_71 : decode cX8_round 71 = .ok (.iload_n 1, 1) := by decide +kernel
theorem dX8_round_72 : decode cX8_round 72 = .ok (.iload_n 2, 1) := by decide +kernel
theorem dX8_round_73 : decode cX8_round 73 = .ok (.iload_n 3, 1) := by decide +kernel
theorem dX8_round_74 : decode cX8_round 74 = .ok (.invokevirtual 265, 3) := by decide +kernel
theorem dX8_round_77 : decode cX8_round 77 = .ok (.iload 4, 2) := by decide +kernel
theorem dX8_round_79 : decode cX8_round 79 = .ok (.iconst 2, 1) := by decide +kernel
theorem dX8_round_80 : decode cX8_round 80 = .ok (.if_icmp .ne 11, 3) := by decide +kernel
theorem dX8_round_83 : decode cX8_round 83 = .ok (.aload_n 0, 1) := by decide +kernel
theorem dX8_round_84 : decode cX8_round 84 = .ok (.getfield 48, 3) := by decide +kernel
theorem dX8_round_87 : decode cX8_round 87 = .ok (.getfield 137, 3) := by decide +kernel
theorem dX8_round_90 : decode cX8_round 90 = .ok (.ireturn, 1) := by decide +kernel
theorem dX8_round_91 : decode cX8_round 91 = .ok (.iload 4, 2) := by decide +kernel
theorem dX8_round_93 : decode cX8_round 93 = .ok (.ifCond .ne 7, 3) := by decide +kernel
theorem dX8_round_96 : decode cX8_round 96 = .ok (.iconst 1, 1) := by decide +kernel
theorem dX8_round_97 : decode cX8_round 97 = .ok (.goto 4, 3) := by decide +kernel
theorem dX8_round_100 : decode cX8_round 100 = .ok (.iconst 2, 1) := by decide +kernel
theorem dX8_round_101 : decode cX8_round 101 = .ok (.istore 5, 2) := by decide +kernel
theorem dX8_round_103 : decode cX8_round 103 = .ok (.aload_n 0, 1) := by decide +kernel
theorem dX8_round_104 : decode cX8_round 104 = .ok (.getfield 48, 3) := by decide +kernel
theorem dX8_round_107 : decode cX8_round 107 = .ok (.iload 5, 2) := by decide +kernel
theorem dX8_round_109 : decode cX8_round 109 = .ok (.invokevirtual 269, 3) := by decide +kernel
theorem dX8_round_112 : decode cX8_round 112 = .ok (.aload_n 0, 1) := by decide +kernel
theorem dX8_round_113 : decode cX8_round 113 = .ok (.getfield 44, 3) := by decide +kernel
theorem dX8_round_116 : decode cX8_round 116 = .ok (.iload 5, 2) := by decide +kernel
theorem dX8_round_118 : decode cX8_round 118 = .ok (.invokevirtual 269, 3) := by decide +kernel
theorem dX8_round_121 : decode cX8_round 121 = .ok (.isub, 1) := by decide +kernel
theorem dX8_round_122 : decode cX8_round 122 = .ok (.ireturn, 1) := by decide +kernel
theorem dX8_fairest_0 : decode cX8_fairest 0 = .ok (.iload_n 1, 1) := by decide +kernel
theorem dX8_fairest_1 : decode cX8_fairest 1 = .ok (.iconst 1, 1) := by decide +kernel
theorem dX8_fairest_2 : decode cX8_fairest 2 = .ok (.bipush 10, 2) := by decide +kernel
theorem dX8_fairest_4 : decode cX8_fairest 4 = .ok (.invokestatic 168, 3) := by decide +kernel
theorem dX8_fairest_7 : decode cX8_fairest 7 = .ok (.ifCond .eq 12, 3) := by decide +kernel
theorem dX8_fairest_10 : decode cX8_fairest 10 = .ok (.iload_n 2, 1) := by decide +kernel
theorem dX8_fairest_11 : decode cX8_fairest 11 = .ok (.iconst 0, 1) := by decide +kernel
theorem dX8_fairest_12 : decode cX8_fairest 12 = .ok (.iconst 1, 1) := by decide +kernel
theorem dX8_fairest_13 : decode cX8_fairest 13 = .ok (.invokestatic 168, 3) := by decide +kernel
theorem dX8_fairest_16 : decode cX8_fairest 16 = .ok (.ifCond .ne 5, 3) := by decide +kernel
theorem dX8_fairest_19 : decode cX8_fairest 19 = .ok (.iconst (-1), 1) := by decide +kernel
theorem dX8_fairest_20 : decode cX8_fairest 20 = .ok (.ireturn, 1) := by decide +kernel
theorem dX8_fairest_21 : decode cX8_fairest 21 = .ok (.aload_n 0, 1) := by decide +kernel
theorem dX8_fairest_22 : decode cX8_fairest 22 = .ok (.invokevirtual 205, 3) := by decide +kernel
theorem dX8_fairest_25 : decode cX8_fairest 25 = .ok (.ifCond .eq 6, 3) := by decide +kernel
theorem dX8_fairest_28 : decode cX8_fairest 28 = .ok (.bipush (-2), 2) := by decide +kernel
theorem dX8_fairest_30 : decode cX8_fairest 30 = .ok (.ireturn, 1) := by decide +kernel
theorem dX8_fairest_31 : decode cX8_fairest 31 = .ok (.aload_n 0, 1) := by decide +kernel
theorem dX8_fairest_32 : decode cX8_fairest 32 = .ok (.getfield 71, 3) := by decide +kernel
theorem dX8_fairest_35 : decode cX8_fairest 35 = .ok (.aload_n 0, 1) := by decide +kernel
theorem dX8_fairest_36 : decode cX8_fairest 36 = .ok (.getfield 44, 3) := by decide +kernel
theorem dX8_fairest_39 : decode cX8_fairest 39 = .ok (.iload_n 1, 1) := by decide +kernel
theorem dX8_fairest_40 : decode cX8_fairest 40 = .ok (.aload_n 0, 1) := by decide +kernel
theorem dX8_fairest_41 : decode cX8_fairest 41 = .ok (.getfield 54, 3) := by decide +kernel
theorem dX8_fairest_44 : decode cX8_fairest 44 = .ok (.getfield 233, 3) := by decide +kernel
theorem dX8_fairest_47 : decode cX8_fairest 47 = .ok (.invokevirtual 236, 3) := by decide +kernel
theorem dX8_fairest_50 : decode cX8_fairest 50 = .ok (.iload_n 2, 1) := by decide +kernel
theorem dX8_fairest_51 : decode cX8_fairest 51 = .ok (.ifCond .ne 16, 3) := by decide +kernel
theorem dX8_fairest_54 : decode cX8_fairest 54 = .ok (.aload_n 0, 1) := by decide +kernel
theorem dX8_fairest_55 : decode cX8_fairest 55 = .ok (.getfield 71, 3) := by decide +kernel
theorem dX8_fairest_58 : decode cX8_fairest 58 = .ok (.getfield 272, 3) := by decide +kernel
theorem dX8_fairest_61 : decode cX8_fairest 61 = .ok (.getfield 243, 3) := by decide +kernel
theorem dX8_fairest_64 : decode cX8_fairest 64 = .ok (.goto 13, 3) := by decide +kernel
theorem dX8_fairest_67 : decode cX8_fairest 67 = .ok (.aload_n 0, 1) := by decide +kernel
theorem dX8_fairest_68 : decode cX8_fairest 68 = .ok (.getfield 71, 3) := by decide +kernel
theorem dX8_fairest_71 : decode cX8_fairest 71 = .ok (.getfield 272, 3) := by decide +kernel
theorem dX8_fairest_74 : decode cX8_fairest 74 = .ok (.getfield 275, 3) := by decide +kernel
theorem dX8_fairest_77 : decode cX8_fairest 77 = .ok (.ireturn, 1) := by decide +kernel
theorem dX8_leftOut_0 : decode cX8_leftOut 0 = .ok (.iload_n 1, 1) := by decide +kernel
theorem dX8_leftOut_1 : decode cX8_leftOut 1 = .ok (.iconst 1, 1) := by decide +kernel
theorem dX8_leftOut_2 : decode cX8_leftOut 2 = .ok (.bipush 10, 2) := by decide +kernel
theorem dX8_leftOut_4 : decode cX8_leftOut 4 = .ok (.invokestatic 168, 3) := by decide +kernel
theorem dX8_leftOut_7 : decode cX8_leftOut 7 = .ok (.ifCond .eq 12, 3) := by decide +kernel
theorem dX8_leftOut_10 : decode cX8_leftOut 10 = .ok (.iload_n 2, 1) := by decide +kernel
theorem dX8_leftOut_11 : decode cX8_leftOut 11 = .ok (.iconst 0, 1) := by decide +kernel
theorem dX8_leftOut_12 : decode cX8_leftOut 12 = .ok (.iconst 1, 1) := by decide +kernel
theorem dX8_leftOut_13 : decode cX8_leftOut 13 = .ok (.invokestatic 168, 3) := by decide +kernel
theorem dX8_leftOut_16 : decode cX8_leftOut 16 = .ok (.ifCond .ne 5, 3) := by decide +kernel
theorem dX8_leftOut_19 : decode cX8_leftOut 19 = .ok (.iconst (-1), 1) := by decide +kernel
theorem dX8_leftOut_20 : decode cX8_leftOut 20 = .ok (.ireturn, 1) := by decide +kernel
theorem dX8_leftOut_21 : decode cX8_leftOut 21 = .ok (.aload_n 0, 1) := by decide +kernel
theorem dX8_leftOut_22 : decode cX8_leftOut 22 = .ok (.invokevirtual 205, 3) := by decide +kernel
theorem dX8_leftOut_25 : decode cX8_leftOut 25 = .ok (.ifCond .eq 6, 3) := by decide +kernel
theorem dX8_leftOut_28 : decode cX8_leftOut 28 = .ok (.bipush (-2), 2) := by decide +kernel
theorem dX8_leftOut_30 : decode cX8_leftOut 30 = .ok (.ireturn, 1) := by decide +kernel
theorem dX8_leftOut_31 : decode cX8_leftOut 31 = .ok (.aload_n 0, 1) := by decide +kernel
theorem dX8_leftOut_32 : decode cX8_leftOut 32 = .ok (.getfield 78, 3) := by decide +kernel
theorem dX8_leftOut_35 : decode cX8_leftOut 35 = .ok (.invokevirtual 225, 3) := by decide +kernel
theorem dX8_leftOut_38 : decode cX8_leftOut 38 = .ok (.iconst 0, 1) := by decide +kernel
theorem dX8_leftOut_39 : decode cX8_leftOut 39 = .ok (.istore_n 3, 1) := by decide +kernel
theorem dX8_leftOut_40 : decode cX8_leftOut 40 = .ok (.iload_n 3, 1) := by decide +kernel
theorem dX8_leftOut_41 : decode cX8_leftOut 41 = .ok (.aload_n 0, 1) := by decide +kernel
theorem dX8_leftOut_42 : decode cX8_leftOut 42 = .ok (.getfield 19, 3) := by decide +kernel
theorem dX8_leftOut_45 : decode cX8_leftOut 45 = .ok (.getfield 161, 3) := by decide +kernel
theorem dX8_leftOut_48 : decode cX8_leftOut 48 = .ok (.if_icmp .ge 86, 3) := by decide +kernel
theorem dX8_leftOut_51 : decode cX8_leftOut 51 = .ok (.aload_n 0, 1) := by decide +kernel
theorem dX8_leftOut_52 : decode cX8_leftOut 52 = .ok (.getfield 48, 3) := by decide +kernel
theorem dX8_leftOut_55 : decode cX8_leftOut 55 = .ok (.aload_n 0, 1) := by decide +kernel
theorem dX8_leftOut_56 : decode cX8_leftOut 56 = .ok (.getfield 44, 3) := by decide +kernel
theorem dX8_leftOut_59 : decode cX8_leftOut 59 = .ok (.invokevirtual 219, 3) := by decide +kernel
theorem dX8_leftOut_62 : decode cX8_leftOut 62 = .ok (.iconst 0, 1) := by decide +kernel
theorem dX8_leftOut_63 : decode cX8_leftOut 63 = .ok (.istore 4, 2) := by decide +kernel
theorem dX8_leftOut_65 : decode cX8_leftOut 65 = .ok (.iload 4, 2) := by decide +kernel
theorem dX8_leftOut_67 : decode cX8_leftOut 67 = .ok (.aload_n 0, 1) := by decide +kernel
theorem dX8_leftOut_68 : decode cX8_leftOut 68 = .ok (.getfield 19, 3) := by decide +kernel
theorem dX8_leftOut_71 : decode cX8_leftOut 71 = .ok (.getfield 161, 3) := by decide +kernel
theorem dX8_leftOut_74 : decode cX8_leftOut 74 = .ok (.if_icmp .ge 29, 3) := by decide +kernel
theorem dX8_leftOut_77 : decode cX8_leftOut 77 = .ok (.iload 4, 2) := by decide +kernel
theorem dX8_leftOut_79 : decode cX8_leftOut 79 = .ok (.iload_n 3, 1) := by decide +kernel
theorem dX8_leftOut_80 : decode cX8_leftOut 80 = .ok (.if_icmp .eq 17, 3) := by decide +kernel
theorem dX8_leftOut_83 : decode cX8_leftOut 83 = .ok (.aload_n 0, 1) := by decide +kernel
theorem dX8_leftOut_84 : decode cX8_leftOut 84 = .ok (.getfield 37, 3) := by decide +kernel
theorem dX8_leftOut_87 : decode cX8_leftOut 87 = .ok (.aload_n 0, 1) := by decide +kernel
theorem dX8_leftOut_88 : decode cX8_leftOut 88 = .ok (.getfield 48, 3) := by decide +kernel
theorem dX8_leftOut_91 : decode cX8_leftOut 91 = .ok (.iload 4, 2) := by decide +kernel
theorem dX8_leftOut_93 : decode cX8_leftOut 93 = .ok (.iload_n 1, 1) := by decide +kernel
theorem dX8_leftOut_94 : decode cX8_leftOut 94 = .ok (.invokevirtual 278, 3) := by decide +kernel
theorem dX8_leftOut_97 : decode cX8_leftOut 97 = .ok (.iinc 4 1, 3) := by decide +kernel
theorem dX8_leftOut_100 : decode cX8_leftOut 100 = .ok (.goto (-35), 3) := by decide +kernel
theorem dX8_leftOut_103 : decode cX8_leftOut 103 = .ok (.aload_n 0, 1) := by decide +kernel
theorem dX8_leftOut_104 : decode cX8_leftOut 104 = .ok (.getfield 78, 3) := by decide +kernel
theorem dX8_leftOut_107 : decode cX8_leftOut 107 = .ok (.iload_n 3, 1) := by decide +kernel
theorem dX8_leftOut_108 : decode cX8_leftOut 108 = .ok (.aload_n 0, 1) := by decide +kernel
theorem dX8_leftOut_109 : decode cX8_leftOut 109 = .ok (.getfield 48, 3) := by decide +kernel
theorem dX8_leftOut_112 : decode cX8_leftOut 112 = .ok (.iconst 1, 1) := by decide +kernel
theorem dX8_leftOut_113 : decode cX8_leftOut 113 = .ok (.invokevirtual 269, 3) := by decide +kernel
theorem dX8_leftOut_116 : decode cX8_leftOut 116 = .ok (.aload_n 0, 1) := by decide +kernel
theorem dX8_leftOut_117 : decode cX8_leftOut 117 = .ok (.getfield 44, 3) := by decide +kernel
theorem dX8_leftOut_120 : decode cX8_leftOut 120 = .ok (.iconst 1, 1) := by decide +kernel
theorem dX8_leftOut_121 : decode cX8_leftOut 121 = .ok (.invokevirtual 269, 3) := by decide +kernel
theorem dX8_leftOut_124 : decode cX8_leftOut 124 = .ok (.isub, 1) := by decide +kernel
theorem dX8_leftOut_125 : decode cX8_leftOut 125 = .ok (.invokevirtual 226, 3) := by decide +kernel
theorem dX8_leftOut_128 : decode cX8_leftOut 128 = .ok (.iinc 3 1, 3) := by decide +kernel
theorem dX8_leftOut_131 : decode cX8_leftOut 131 = .ok (.goto (-91), 3) := by decide +kernel
theorem dX8_leftOut_134 : decode cX8_leftOut 134 = .ok (.aload_n 0, 1) := by decide +kernel
theorem dX8_leftOut_135 : decode cX8_leftOut 135 = .ok (.getfield 78, 3) := by decide +kernel
theorem dX8_leftOut_138 : decode cX8_leftOut 138 = .ok (.iload_n 2, 1) := by decide +kernel
theorem dX8_leftOut_139 : decode cX8_leftOut 139 = .ok (.invokevirtual 230, 3) := by decide +kernel
theorem dX8_leftOut_142 : decode cX8_leftOut 142 = .ok (.ireturn, 1) := by decide +kernel
theorem dX8_bestRound_0 : decode cX8_bestRound 0 = .ok (.iload_n 1, 1) := by decide +kernel
theorem dX8_bestRound_1 : decode cX8_bestRound 1 = .ok (.iconst 1, 1) := by decide +kernel
theorem dX8_bestRound_2 : decode cX8_bestRound 2 = .ok (.bipush 120, 2) := by decide +kernel
theorem dX8_bestRound_4 : decode cX8_bestRound 4 = .ok (.invokestatic 168, 3) := by decide +kernel
theorem dX8_bestRound_7 : decode cX8_bestRound 7 = .ok (.ifCond .eq 22, 3) := by decide +kernel
theorem dX8_bestRound_10 : decode cX8_bestRound 10 = .ok (.iload_n 2, 1) := by decide +kernel
theorem dX8_bestRound_11 : decode cX8_bestRound 11 = .ok (.iconst 0, 1) := by decide +kernel
theorem dX8_bestRound_12 : decode cX8_bestRound 12 = .ok (.iconst 1, 1) := by decide +kernel
theorem dX8_bestRound_13 : decode cX8_bestRound 13 = .ok (.invokestatic 168, 3) := by decide +kernel
theorem dX8_bestRound_16 : decode cX8_bestRound 16 = .ok (.ifCond .eq 13, 3) := by decide +kernel
theorem dX8_bestRound_19 : decode cX8_bestRound 19 = .ok (.aload_n 0, 1) := by decide +kernel
theorem dX8_bestRound_20 : decode cX8_bestRound 20 = .ok (.getfield 19, 3) := by decide +kernel
theorem dX8_bestRound_23 : decode cX8_bestRound 23 = .ok (.getfield 161, 3) := by decide +kernel
theorem dX8_bestRound_26 : decode cX8_bestRound 26 = .ok (.ifCond .ne 5, 3) := by decide +kernel
theorem dX8_bestRound_29 : decode cX8_bestRound 29 = .ok (.iconst (-1), 1) := by decide +kernel
theorem dX8_bestRound_30 : decode cX8_bestRound 30 = .ok (.ireturn, 1) := by decide +kernel
theorem dX8_bestRound_31 : decode cX8_bestRound 31 = .ok (.aload_n 0, 1) := by decide +kernel
theorem dX8_bestRound_32 : decode cX8_bestRound 32 = .ok (.getfield 78, 3) := by decide +kernel
theorem dX8_bestRound_35 : decode cX8_bestRound 35 = .ok (.invokevirtual 225, 3) := by decide +kernel
theorem dX8_bestRound_38 : decode cX8_bestRound 38 = .ok (.iconst 0, 1) := by decide +kernel
theorem dX8_bestRound_39 : decode cX8_bestRound 39 = .ok (.istore_n 3, 1) := by decide +kernel
theorem dX8_bestRound_40 : decode cX8_bestRound 40 = .ok (.iload_n 3, 1) := by decide +kernel
theorem dX8_bestRound_41 : decode cX8_bestRound 41 = .ok (.iconst 4, 1) := by decide +kernel
theorem dX8_bestRound_42 : decode cX8_bestRound 42 = .ok (.if_icmp .ge 82, 3) := by decide +kernel
theorem dX8_bestRound_45 : decode cX8_bestRound 45 = .ok (.iconst 1, 1) := by decide +kernel
theorem dX8_bestRound_46 : decode cX8_bestRound 46 = .ok (.istore 4, 2) := by decide +kernel
theorem dX8_bestRound_48 : decode cX8_bestRound 48 = .ok (.iload 4, 2) := by decide +kernel
theorem dX8_bestRound_50 : decode cX8_bestRound 50 = .ok (.bipush 20, 2) := by decide +kernel
theorem dX8_bestRound_52 : decode cX8_bestRound 52 = .ok (.if_icmp .gt 66, 3) := by decide +kernel
theorem dX8_bestRound_55 : decode cX8_bestRound 55 = .ok (.aload_n 0, 1) := by decide +kernel
theorem dX8_bestRound_56 : decode cX8_bestRound 56 = .ok (.getfield 48, 3) := by decide +kernel
theorem dX8_bestRound_59 : decode cX8_bestRound 59 = .ok (.aload_n 0, 1) := by decide +kernel
theorem dX8_bestRound_60 : decode cX8_bestRound 60 = .ok (.getfield 44, 3) := by decide +kernel
theorem dX8_bestRound_63 : decode cX8_bestRound 63 = .ok (.invokevirtual 219, 3) := by decide +kernel
theorem dX8_bestRound_66 : decode cX8_bestRound 66 = .ok (.aload_n 0, 1) := by decide +kernel
theorem dX8_bestRound_67 : decode cX8_bestRound 67 = .ok (.getfield 37, 3) := by decide +kernel
theorem dX8_bestRound_70 : decode cX8_bestRound 70 = .ok (.aload_n 0, 1) := by decide +kernel
theorem dX8_bestRound_71 : decode cX8_bestRound 71 = .ok (.getfield 48, 3) := by decide +kernel
theorem dX8_bestRound_74 : decode cX8_bestRound 74 = .ok (.iload_n 3, 1) := by decide +kernel
theorem dX8_bestRound_75 : decode cX8_bestRound 75 = .ok (.iload 4, 2) := by decide +kernel
theorem dX8_bestRound_77 : decode cX8_bestRound 77 = .ok (.iload_n 1, 1) := by decide +kernel
theorem dX8_bestRound_78 : decode cX8_bestRound 78 = .ok (.invokevirtual 265, 3) := by decide +kernel
theorem dX8_bestRound_81 : decode cX8_bestRound 81 = .ok (.aload_n 0, 1) := by decide +kernel
theorem dX8_bestRound_82 : decode cX8_bestRound 82 = .ok (.getfield 78, 3) := by decide +kernel
theorem dX8_bestRound_85 : decode cX8_bestRound 85 = .ok (.bipush 100, 2) := by decide +kernel
theorem dX8_bestRound_87 : decode cX8_bestRound 87 = .ok (.iload_n 3, 1) := by decide +kernel
theorem dX8_bestRound_88 : decode cX8_bestRound 88 = .ok (.imul, 1) := by decide +kernel
theorem dX8_bestRound_89 : decode cX8_bestRound 89 = .ok (.iload 4, 2) := by decide +kernel
theorem dX8_bestRound_91 : decode cX8_bestRound 91 = .ok (.iadd, 1) := by decide +kernel
theorem dX8_bestRound_92 : decode cX8_bestRound 92 = .ok (.aload_n 0, 1) := by decide +kernel
theorem dX8_bestRound_93 : decode cX8_bestRound 93 = .ok (.getfield 48, 3) := by decide +kernel
theorem dX8_bestRound_96 : decode cX8_bestRound 96 = .ok (.iconst 1, 1) := by decide +kernel
theorem dX8_bestRound_97 : decode cX8_bestRound 97 = .ok (.invokevirtual 269, 3) := by decide +kernel
theorem dX8_bestRound_100 : decode cX8_bestRound 100 = .ok (.aload_n 0, 1) := by decide +kernel
theorem dX8_bestRound_101 : decode cX8_bestRound 101 = .ok (.getfield 44, 3) := by decide +kernel
theorem dX8_bestRound_104 : decode cX8_bestRound 104 = .ok (.iconst 1, 1) := by decide +kernel
theorem dX8_bestRound_105 : decode cX8_bestRound 105 = .ok (.invokevirtual 269, 3) := by decide +kernel
theorem dX8_bestRound_108 : decode cX8_bestRound 108 = .ok (.isub, 1) := by decide +kernel
theorem dX8_bestRound_109 : decode cX8_bestRound 109 = .ok (.invokevirtual 226, 3) := by decide +kernel
theorem dX8_bestRound_112 : decode cX8_bestRound 112 = .ok (.iinc 4 1, 3) := by decide +kernel
theorem dX8_bestRound_115 : decode cX8_bestRound 115 = .ok (.goto (-67), 3) := by decide +kernel
theorem dX8_bestRound_118 : decode cX8_bestRound 118 = .ok (.iinc 3 1, 3) := by decide +kernel
theorem dX8_bestRound_121 : decode cX8_bestRound 121 = .ok (.goto (-81), 3) := by decide +kernel
theorem dX8_bestRound_124 : decode cX8_bestRound 124 = .ok (.aload_n 0, 1) := by decide +kernel
theorem dX8_bestRound_125 : decode cX8_bestRound 125 = .ok (.getfield 78, 3) := by decide +kernel
theorem dX8_bestRound_128 : decode cX8_bestRound 128 = .ok (.iload_n 2, 1) := by decide +kernel
theorem dX8_bestRound_129 : decode cX8_bestRound 129 = .ok (.invokevirtual 230, 3) := by decide +kernel
theorem dX8_bestRound_132 : decode cX8_bestRound 132 = .ok (.ireturn, 1) := by decide +kernel
theorem dX8_feedAt_0 : decode cX8_feedAt 0 = .ok (.iload_n 1, 1) := by decide +kernel
theorem dX8_feedAt_1 : decode cX8_feedAt 1 = .ok (.iconst 1, 1) := by decide +kernel
theorem dX8_feedAt_2 : decode cX8_feedAt 2 = .ok (.bipush 60, 2) := by decide +kernel
theorem dX8_feedAt_4 : decode cX8_feedAt 4 = .ok (.invokestatic 168, 3) := by decide +kernel
theorem dX8_feedAt_7 : decode cX8_feedAt 7 = .ok (.ifCond .eq 12, 3) := by decide +kernel
theorem dX8_feedAt_10 : decode cX8_feedAt 10 = .ok (.iload_n 2, 1) := by decide +kernel
theorem dX8_feedAt_11 : decode cX8_feedAt 11 = .ok (.iconst 0, 1) := by decide +kernel
theorem dX8_feedAt_12 : decode cX8_feedAt 12 = .ok (.iconst 1, 1) := by decide +kernel
theorem dX8_feedAt_13 : decode cX8_feedAt 13 = .ok (.invokestatic 168, 3) := by decide +kernel
theorem dX8_feedAt_16 : decode cX8_feedAt 16 = .ok (.ifCond .ne 5, 3) := by decide +kernel
theorem dX8_feedAt_19 : decode cX8_feedAt 19 = .ok (.iconst (-1), 1) := by decide +kernel
theorem dX8_feedAt_20 : decode cX8_feedAt 20 = .ok (.ireturn, 1) := by decide +kernel
theorem dX8_feedAt_21 : decode cX8_feedAt 21 = .ok (.aload_n 0, 1) := by decide +kernel
theorem dX8_feedAt_22 : decode cX8_feedAt 22 = .ok (.invokevirtual 205, 3) := by decide +kernel
theorem dX8_feedAt_25 : decode cX8_feedAt 25 = .ok (.ifCond .eq 6, 3) := by decide +kernel
theorem dX8_feedAt_28 : decode cX8_feedAt 28 = .ok (.bipush (-2), 2) := by decide +kernel
theorem dX8_feedAt_30 : decode cX8_feedAt 30 = .ok (.ireturn, 1) := by decide +kernel
theorem dX8_feedAt_31 : decode cX8_feedAt 31 = .ok (.aload_n 0, 1) := by decide +kernel
theorem dX8_feedAt_32 : decode cX8_feedAt 32 = .ok (.getfield 78, 3) := by decide +kernel
theorem dX8_feedAt_35 : decode cX8_feedAt 35 = .ok (.invokevirtual 225, 3) := by decide +kernel
theorem dX8_feedAt_38 : decode cX8_feedAt 38 = .ok (.iconst 0, 1) := by decide +kernel
theorem dX8_feedAt_39 : decode cX8_feedAt 39 = .ok (.istore_n 3, 1) := by decide +kernel
theorem dX8_feedAt_40 : decode cX8_feedAt 40 = .ok (.iload_n 3, 1) := by decide +kernel
theorem dX8_feedAt_41 : decode cX8_feedAt 41 = .ok (.iload_n 1, 1) := by decide +kernel
theorem dX8_feedAt_42 : decode cX8_feedAt 42 = .ok (.if_icmp .ge 80, 3) := by decide +kernel
theorem dX8_feedAt_45 : decode cX8_feedAt 45 = .ok (.aload_n 0, 1) := by decide +kernel
theorem dX8_feedAt_46 : decode cX8_feedAt 46 = .ok (.getfield 48, 3) := by decide +kernel
theorem dX8_feedAt_49 : decode cX8_feedAt 49 = .ok (.aload_n 0, 1) := by decide +kernel
theorem dX8_feedAt_50 : decode cX8_feedAt 50 = .ok (.getfield 44, 3) := by decide +kernel
theorem dX8_feedAt_53 : decode cX8_feedAt 53 = .ok (.invokevirtual 219, 3) := by decide +kernel
theorem dX8_feedAt_56 : decode cX8_feedAt 56 = .ok (.aload_n 0, 1) := by decide +kernel
theorem dX8_feedAt_57 : decode cX8_feedAt 57 = .ok (.getfield 37, 3) := by decide +kernel
theorem dX8_feedAt_60 : decode cX8_feedAt 60 = .ok (.aload_n 0, 1) := by decide +kernel
theorem dX8_feedAt_61 : decode cX8_feedAt 61 = .ok (.getfield 48, 3) := by decide +kernel
theorem dX8_feedAt_64 : decode cX8_feedAt 64 = .ok (.iload_n 3, 1) := by decide +kernel
theorem dX8_feedAt_65 : decode cX8_feedAt 65 = .ok (.invokevirtual 221, 3) := by decide +kernel
theorem dX8_feedAt_68 : decode cX8_feedAt 68 = .ok (.istore 4, 2) := by decide +kernel
theorem dX8_feedAt_70 : decode cX8_feedAt 70 = .ok (.aload_n 0, 1) := by decide +kernel
theorem dX8_feedAt_71 : decode cX8_feedAt 71 = .ok (.getfield 48, 3) := by decide +kernel
theorem dX8_feedAt_74 : decode cX8_feedAt 74 = .ok (.getfield 146, 3) := by decide +kernel
theorem dX8_feedAt_77 : decode cX8_feedAt 77 = .ok (.ifCond .ne 39, 3) := by decide +kernel
theorem dX8_feedAt_80 : decode cX8_feedAt 80 = .ok (.aload_n 0, 1) := by decide +kernel
theorem dX8_feedAt_81 : decode cX8_feedAt 81 = .ok (.getfield 37, 3) := by decide +kernel
theorem dX8_feedAt_84 : decode cX8_feedAt 84 = .ok (.aload_n 0, 1) := by decide +kernel
theorem dX8_feedAt_85 : decode cX8_feedAt 85 = .ok (.getfield 48, 3) := by decide +kernel
theorem dX8_feedAt_88 : decode cX8_feedAt 88 = .ok (.invokevirtual 209, 3) := by decide +kernel
theorem dX8_feedAt_91 : decode cX8_feedAt 91 = .ok (.aload_n 0, 1) := by decide +kernel
theorem dX8_feedAt_92 : decode cX8_feedAt 92 = .ok (.getfield 78, 3) := by decide +kernel
theorem dX8_feedAt_95 : decode cX8_feedAt 95 = .ok (.iload_n 3, 1) := by decide +kernel
theorem dX8_feedAt_96 : decode cX8_feedAt 96 = .ok (.iload 4, 2) := by decide +kernel
theorem dX8_feedAt_98 : decode cX8_feedAt 98 = .ok (.aload_n 0, 1) := by decide +kernel
theorem dX8_feedAt_99 : decode cX8_feedAt 99 = .ok (.getfield 37, 3) := by decide +kernel
theorem dX8_feedAt_102 : decode cX8_feedAt 102 = .ok (.aload_n 0, 1) := by decide +kernel
theorem dX8_feedAt_103 : decode cX8_feedAt 103 = .ok (.getfield 48, 3) := by decide +kernel
theorem dX8_feedAt_106 : decode cX8_feedAt 106 = .ok (.iload_n 1, 1) := by decide +kernel
theorem dX8_feedAt_107 : decode cX8_feedAt 107 = .ok (.iload_n 3, 1) := by decide +kernel
theorem dX8_feedAt_108 : decode cX8_feedAt 108 = .ok (.isub, 1) := by decide +kernel
theorem dX8_feedAt_109 : decode cX8_feedAt 109 = .ok (.invokevirtual 221, 3) := by decide +kernel
theorem dX8_feedAt_112 : decode cX8_feedAt 112 = .ok (.iadd, 1) := by decide +kernel
theorem dX8_feedAt_113 : decode cX8_feedAt 113 = .ok (.invokevirtual 226, 3) := by decide +kernel
theorem dX8_feedAt_116 : decode cX8_feedAt 116 = .ok (.iinc 3 1, 3) := by decide +kernel
theorem dX8_feedAt_119 : decode cX8_feedAt 119 = .ok (.goto (-79), 3) := by decide +kernel
theorem dX8_feedAt_122 : decode cX8_feedAt 122 = .ok (.aload_n 0, 1) := by decide +kernel
theorem dX8_feedAt_123 : decode cX8_feedAt 123 = .ok (.getfield 78, 3) := by decide +kernel
theorem dX8_feedAt_126 : decode cX8_feedAt 126 = .ok (.iload_n 2, 1) := by decide +kernel
theorem dX8_feedAt_127 : decode cX8_feedAt 127 = .ok (.invokevirtual 230, 3) := by decide +kernel
theorem dX8_feedAt_130 : decode cX8_feedAt 130 = .ok (.ireturn, 1) := by decide +kernel
theorem dX8_inSight_0 : decode cX8_inSight 0 = .ok (.iload_n 1, 1) := by decide +kernel
theorem dX8_inSight_1 : decode cX8_inSight 1 = .ok (.iconst 1, 1) := by decide +kernel
theorem dX8_inSight_2 : decode cX8_inSight 2 = .ok (.bipush 60, 2) := by decide +kernel
theorem dX8_inSight_4 : decode cX8_inSight 4 = .ok (.invokestatic 168, 3) := by decide +kernel
theorem dX8_inSight_7 : decode cX8_inSight 7 = .ok (.ifCond .eq 12, 3) := by decide +kernel
theorem dX8_inSight_10 : decode cX8_inSight 10 = .ok (.iload_n 2, 1) := by decide +kernel
theorem dX8_inSight_11 : decode cX8_inSight 11 = .ok (.iconst 0, 1) := by decide +kernel
theorem dX8_inSight_12 : decode cX8_inSight 12 = .ok (.iconst 1, 1) := by decide +kernel
theorem dX8_inSight_13 : decode cX8_inSight 13 = .ok (.invokestatic 168, 3) := by decide +kernel
theorem dX8_inSight_16 : decode cX8_inSight 16 = .ok (.ifCond .ne 5, 3) := by decide +kernel
theorem dX8_inSight_19 : decode cX8_inSight 19 = .ok (.iconst (-1), 1) := by decide +kernel
theorem dX8_inSight_20 : decode cX8_inSight 20 = .ok (.ireturn, 1) := by decide +kernel
theorem dX8_inSight_21 : decode cX8_inSight 21 = .ok (.aload_n 0, 1) := by decide +kernel
theorem dX8_inSight_22 : decode cX8_inSight 22 = .ok (.getfield 78, 3) := by decide +kernel
theorem dX8_inSight_25 : decode cX8_inSight 25 = .ok (.invokevirtual 225, 3) := by decide +kernel
theorem dX8_inSight_28 : decode cX8_inSight 28 = .ok (.iconst 0, 1) := by decide +kernel
theorem dX8_inSight_29 : decode cX8_inSight 29 = .ok (.istore_n 3, 1) := by decide +kernel
theorem dX8_inSight_30 : decode cX8_inSight 30 = .ok (.iload_n 3, 1) := by decide +kernel
theorem dX8_inSight_31 : decode cX8_inSight 31 = .ok (.iload_n 1, 1) := by decide +kernel
theorem dX8_inSight_32 : decode cX8_inSight 32 = .ok (.if_icmp .gt 23, 3) := by decide +kernel
theorem dX8_inSight_35 : decode cX8_inSight 35 = .ok (.aload_n 0, 1) := by decide +kernel
theorem dX8_inSight_36 : decode cX8_inSight 36 = .ok (.getfield 78, 3) := by decide +kernel
theorem dX8_inSight_39 : decode cX8_inSight 39 = .ok (.iload_n 3, 1) := by decide +kernel
theorem dX8_inSight_40 : decode cX8_inSight 40 = .ok (.aload_n 0, 1) := by decide +kernel
theorem dX8_inSight_41 : decode cX8_inSight 41 = .ok (.iload_n 3, 1) := by decide +kernel
theorem dX8_inSight_42 : decode cX8_inSight 42 = .ok (.iload_n 1, 1) := by decide +kernel
theorem dX8_inSight_43 : decode cX8_inSight 43 = .ok (.invokevirtual 260, 3) := by decide +kernel
theorem dX8_inSight_46 : decode cX8_inSight 46 = .ok (.invokevirtual 226, 3) := by decide +kernel
theorem dX8_inSight_49 : decode cX8_inSight 49 = .ok (.iinc 3 1, 3) := by decide +kernel
theorem dX8_inSight_52 : decode cX8_inSight 52 = .ok (.goto (-22), 3) := by decide +kernel
theorem dX8_inSight_55 : decode cX8_inSight 55 = .ok (.aload_n 0, 1) := by decide +kernel
theorem dX8_inSight_56 : decode cX8_inSight 56 = .ok (.getfield 78, 3) := by decide +kernel
theorem dX8_inSight_59 : decode cX8_inSight 59 = .ok (.iload_n 2, 1) := by decide +kernel
theorem dX8_inSight_60 : decode cX8_inSight 60 = .ok (.invokevirtual 230, 3) := by decide +kernel
theorem dX8_inSight_63 : decode cX8_inSight 63 = .ok (.ireturn, 1) := by decide +kernel
theorem dX8_peak_0 : decode cX8_peak 0 = .ok (.iload_n 1, 1) := by decide +kernel
theorem dX8_peak_1 : decode cX8_peak 1 = .ok (.iconst 1, 1) := by decide +kernel
theorem dX8_peak_2 : decode cX8_peak 2 = .ok (.sipush 240, 3) := by decide +kernel
theorem dX8_peak_5 : decode cX8_peak 5 = .ok (.invokestatic 168, 3) := by decide +kernel
theorem dX8_peak_8 : decode cX8_peak 8 = .ok (.ifCond .eq 12, 3) := by decide +kernel
theorem dX8_peak_11 : decode cX8_peak 11 = .ok (.iload_n 2, 1) := by decide +kernel
theorem dX8_peak_12 : decode cX8_peak 12 = .ok (.iconst 0, 1) := by decide +kernel
theorem dX8_peak_13 : decode cX8_peak 13 = .ok (.iconst 1, 1) := by decide +kernel
theorem dX8_peak_14 : decode cX8_peak 14 = .ok (.invokestatic 168, 3) := by decide +kernel
theorem dX8_peak_17 : decode cX8_peak 17 = .ok (.ifCond .ne 5, 3) := by decide +kernel
theorem dX8_peak_20 : decode cX8_peak 20 = .ok (.iconst (-1), 1) := by decide +kernel
theorem dX8_peak_21 : decode cX8_peak 21 = .ok (.ireturn, 1) := by decide +kernel
theorem dX8_peak_22 : decode cX8_peak 22 = .ok (.aload_n 0, 1) := by decide +kernel
theorem dX8_peak_23 : decode cX8_peak 23 = .ok (.getfield 48, 3) := by decide +kernel
theorem dX8_peak_26 : decode cX8_peak 26 = .ok (.aload_n 0, 1) := by decide +kernel
theorem dX8_peak_27 : decode cX8_peak 27 = .ok (.getfield 44, 3) := by decide +kernel
theorem dX8_peak_30 : decode cX8_peak 30 = .ok (.invokevirtual 219, 3) := by decide +kernel
theorem dX8_peak_33 : decode cX8_peak 33 = .ok (.iconst (-1), 1) := by decide +kernel
theorem dX8_peak_34 : decode cX8_peak 34 = .ok (.istore_n 3, 1) := by decide +kernel
theorem dX8_peak_35 : decode cX8_peak 35 = .ok (.iconst 0, 1) := by decide +kernel
theorem dX8_peak_36 : decode cX8_peak 36 = .ok (.istore 4, 2) := by decide +kernel
theorem dX8_peak_38 : decode cX8_peak 38 = .ok (.iconst 0, 1) := by decide +kernel
theorem dX8_peak_39 : decode cX8_peak 39 = .ok (.istore 5, 2) := by decide +kernel
theorem dX8_peak_41 : decode cX8_peak 41 = .ok (.iload 5, 2) := by decide +kernel
theorem dX8_peak_43 : decode cX8_peak 43 = .ok (.iload_n 1, 1) := by decide +kernel
theorem dX8_peak_44 : decode cX8_peak 44 = .ok (.if_icmp .ge 43, 3) := by decide +kernel
theorem dX8_peak_47 : decode cX8_peak 47 = .ok (.aload_n 0, 1) := by decide +kernel
theorem dX8_peak_48 : decode cX8_peak 48 = .ok (.getfield 37, 3) := by decide +kernel
theorem dX8_peak_51 : decode cX8_peak 51 = .ok (.aload_n 0, 1) := by decide +kernel
theorem dX8_peak_52 : decode cX8_peak 52 = .ok (.getfield 48, 3) := by decide +kernel
theorem dX8_peak_55 : decode cX8_peak 55 = .ok (.invokevirtual 281, 3) := by decide +kernel
theorem dX8_peak_58 : decode cX8_peak 58 = .ok (.aload_n 0, 1) := by decide +kernel
theorem dX8_peak_59 : decode cX8_peak 59 = .ok (.getfield 48, 3) := by decide +kernel
theorem dX8_peak_62 : decode cX8_peak 62 = .ok (.getfield 143, 3) := by decide +kernel
theorem dX8_peak_65 : decode cX8_peak 65 = .ok (.iload_n 3, 1) := by decide +kernel
theorem dX8_peak_66 : decode cX8_peak 66 = .ok (.if_icmp .le 15, 3) := by decide +kernel
theorem dX8_peak_69 : decode cX8_peak 69 = .ok (.aload_n 0, 1) := by decide +kernel
theorem dX8_peak_70 : decode cX8_peak 70 = .ok (.getfield 48, 3) := by decide +kernel
theorem dX8_peak_73 : decode cX8_peak 73 = .ok (.getfield 143, 3) := by decide +kernel
theorem dX8_peak_76 : decode cX8_peak 76 = .ok (.istore_n 3, 1) := by decide +kernel
theorem dX8_peak_77 : decode cX8_peak 77 = .ok (.iload 5, 2) := by decide +kernel
theorem dX8_peak_79 : decode cX8_peak 79 = .ok (.istore 4, 2) := by decide +kernel
theorem dX8_peak_81 : decode cX8_peak 81 = .ok (.iinc 5 1, 3) := by decide +kernel
theorem dX8_peak_84 : decode cX8_peak 84 = .ok (.goto (-43), 3) := by decide +kernel
theorem dX8_peak_87 : decode cX8_peak 87 = .ok (.iload_n 2, 1) := by decide +kernel
theorem dX8_peak_88 : decode cX8_peak 88 = .ok (.ifCond .ne 7, 3) := by decide +kernel
theorem dX8_peak_91 : decode cX8_peak 91 = .ok (.iload_n 3, 1) := by decide +kernel
theorem dX8_peak_92 : decode cX8_peak 92 = .ok (.goto 5, 3) := by decide +kernel
theorem dX8_peak_95 : decode cX8_peak 95 = .ok (.iload 4, 2) := by decide +kernel
theorem dX8_peak_97 : decode cX8_peak 97 = .ok (.ireturn, 1) := by decide +kernel
theorem dX8_merry_0 : decode cX8_merry 0 = .ok (.aload_n 0, 1) := by decide +kernel
theorem dX8_merry_1 : decode cX8_merry 1 = .ok (.getfield 48, 3) := by decide +kernel
theorem dX8_merry_4 : decode cX8_merry 4 = .ok (.aload_n 0, 1) := by decide +kernel
theorem dX8_merry_5 : decode cX8_merry 5 = .ok (.getfield 44, 3) := by decide +kernel
theorem dX8_merry_8 : decode cX8_merry 8 = .ok (.invokevirtual 219, 3) := by decide +kernel
theorem dX8_merry_11 : decode cX8_merry 11 = .ok (.aload_n 0, 1) := by decide +kernel
theorem dX8_merry_12 : decode cX8_merry 12 = .ok (.getfield 44, 3) := by decide +kernel
theorem dX8_merry_15 : decode cX8_merry 15 = .ok (.iconst 2, 1) := by decide +kernel
theorem dX8_merry_16 : decode cX8_merry 16 = .ok (.invokevirtual 269, 3) := by decide +kernel
theorem dX8_merry_19 : decode cX8_merry 19 = .ok (.istore_n 1, 1) := by decide +kernel
theorem dX8_merry_20 : decode cX8_merry 20 = .ok (.iconst 1, 1) := by decide +kernel
theorem dX8_merry_21 : decode cX8_merry 21 = .ok (.istore_n 2, 1) := by decide +kernel
theorem dX8_merry_22 : decode cX8_merry 22 = .ok (.iload_n 2, 1) := by decide +kernel
theorem dX8_merry_23 : decode cX8_merry 23 = .ok (.sipush 240, 3) := by decide +kernel
theorem dX8_merry_26 : decode cX8_merry 26 = .ok (.if_icmp .gt 34, 3) := by decide +kernel
theorem dX8_merry_29 : decode cX8_merry 29 = .ok (.aload_n 0, 1) := by decide +kernel
theorem dX8_merry_30 : decode cX8_merry 30 = .ok (.getfield 37, 3) := by decide +kernel
theorem dX8_merry_33 : decode cX8_merry 33 = .ok (.aload_n 0, 1) := by decide +kernel
theorem dX8_merry_34 : decode cX8_merry 34 = .ok (.getfield 48, 3) := by decide +kernel
theorem dX8_merry_37 : decode cX8_merry 37 = .ok (.invokevirtual 281, 3) := by decide +kernel
theorem dX8_merry_40 : decode cX8_merry 40 = .ok (.aload_n 0, 1) := by decide +kernel
theorem dX8_merry_41 : decode cX8_merry 41 = .ok (.getfield 48, 3) := by decide +kernel
theorem dX8_merry_44 : decode cX8_merry 44 = .ok (.iconst 2, 1) := by decide +kernel
theorem dX8_merry_45 : decode cX8_merry 45 = .ok (.invokevirtual 269, 3) := by decide +kernel
theorem dX8_merry_48 : decode cX8_merry 48 = .ok (.iload_n 1, 1) := by decide +kernel
theorem dX8_merry_49 : decode cX8_merry 49 = .ok (.if_icmp .le 5, 3) := by decide +kernel
theorem dX8_merry_52 : decode cX8_merry 52 = .ok (.iload_n 2, 1) := by decide +kernel
theorem dX8_merry_53 : decode cX8_merry 53 = .ok (.ireturn, 1) := by decide +kernel
theorem dX8_merry_54 : decode cX8_merry 54 = .ok (.iinc 2 1, 3) := by decide +kernel
theorem dX8_merry_57 : decode cX8_merry 57 = .ok (.goto (-35), 3) := by decide +kernel
theorem dX8_merry_60 : decode cX8_merry 60 = .ok (.bipush (-2), 2) := by decide +kernel
theorem dX8_merry_62 : decode cX8_merry 62 = .ok (.ireturn, 1) := by decide +kernel
theorem dX8_rests_0 : decode cX8_rests 0 = .ok (.iload_n 1, 1) := by decide +kernel
theorem dX8_rests_1 : decode cX8_rests 1 = .ok (.iconst 1, 1) := by decide +kernel
theorem dX8_rests_2 : decode cX8_rests 2 = .ok (.bipush 10, 2) := by decide +kernel
theorem dX8_rests_4 : decode cX8_rests 4 = .ok (.invokestatic 168, 3) := by decide +kernel
theorem dX8_rests_7 : decode cX8_rests 7 = .ok (.ifCond .eq 8, 3) := by decide +kernel
theorem dX8_rests_10 : decode cX8_rests 10 = .ok (.iload_n 2, 1) := by decide +kernel
theorem dX8_rests_11 : decode cX8_rests 11 = .ok (.iconst (-1), 1) := by decide +kernel
theorem dX8_rests_12 : decode cX8_rests 12 = .ok (.if_icmp .ge 5, 3) := by decide +kernel
theorem dX8_rests_15 : decode cX8_rests 15 = .ok (.iconst (-1), 1) := by decide +kernel
theorem dX8_rests_16 : decode cX8_rests 16 = .ok (.ireturn, 1) := by decide +kernel
theorem dX8_rests_17 : decode cX8_rests 17 = .ok (.aload_n 0, 1) := by decide +kernel
theorem dX8_rests_18 : decode cX8_rests 18 = .ok (.invokevirtual 205, 3) := by decide +kernel
theorem dX8_rests_21 : decode cX8_rests 21 = .ok (.ifCond .eq 6, 3) := by decide +kernel
theorem dX8_rests_24 : decode cX8_rests 24 = .ok (.bipush (-2), 2) := by decide +kernel
theorem dX8_rests_26 : decode cX8_rests 26 = .ok (.ireturn, 1) := by decide +kernel
theorem dX8_rests_27 : decode cX8_rests 27 = .ok (.iconst 1, 1) := by decide +kernel
theorem dX8_rests_28 : decode cX8_rests 28 = .ok (.aload_n 0, 1) := by decide +kernel
theorem dX8_rests_29 : decode cX8_rests 29 = .ok (.getfield 19, 3) := by decide +kernel
theorem dX8_rests_32 : decode cX8_rests 32 = .ok (.getfield 161, 3) := by decide +kernel
theorem dX8_rests_35 : decode cX8_rests 35 = .ok (.ishl, 1) := by decide +kernel
theorem dX8_rests_36 : decode cX8_rests 36 = .ok (.istore_n 3, 1) := by decide +kernel
theorem dX8_rests_37 : decode cX8_rests 37 = .ok (.iconst 0, 1) := by decide +kernel
theorem dX8_rests_38 : decode cX8_rests 38 = .ok (.istore 4, 2) := by decide +kernel
theorem dX8_rests_40 : decode cX8_rests 40 = .ok (.iload 4, 2) := by decide +kernel
theorem dX8_rests_42 : decode cX8_rests 42 = .ok (.iload_n 3, 1) := by decide +kernel
theorem dX8_rests_43 : decode cX8_rests 43 = .ok (.if_icmp .ge 16, 3) := by decide +kernel
theorem dX8_rests_46 : decode cX8_rests 46 = .ok (.aload_n 0, 1) := by decide +kernel
theorem dX8_rests_47 : decode cX8_rests 47 = .ok (.iload 4, 2) := by decide +kernel
theorem dX8_rests_49 : decode cX8_rests 49 = .ok (.iload_n 1, 1) := by decide +kernel
theorem dX8_rests_50 : decode cX8_rests 50 = .ok (.invokevirtual 284, 3) := by decide +kernel
theorem dX8_rests_53 : decode cX8_rests 53 = .ok (.iinc 4 1, 3) := by decide +kernel
theorem dX8_rests_56 : decode cX8_rests 56 = .ok (.goto (-16), 3) := by decide +kernel
theorem dX8_rests_59 : decode cX8_rests 59 = .ok (.iconst 0, 1) := by decide +kernel
theorem dX8_rests_60 : decode cX8_rests 60 = .ok (.istore 4, 2) := by decide +kernel
theorem dX8_rests_62 : decode cX8_rests 62 = .ok (.iconst 0, 1) := by decide +kernel
theorem dX8_rests_63 : decode cX8_rests 63 = .ok (.istore 5, 2) := by decide +kernel
theorem dX8_rests_65 : decode cX8_rests 65 = .ok (.iload 5, 2) := by decide +kernel
theorem dX8_rests_67 : decode cX8_rests 67 = .ok (.iload_n 3, 1) := by decide +kernel
theorem dX8_rests_68 : decode cX8_rests 68 = .ok (.if_icmp .ge 30, 3) := by decide +kernel
theorem dX8_rests_71 : decode cX8_rests 71 = .ok (.aload_n 0, 1) := by decide +kernel
theorem dX8_rests_72 : decode cX8_rests 72 = .ok (.iload 5, 2) := by decide +kernel
theorem dX8_rests_74 : decode cX8_rests 74 = .ok (.invokevirtual 287, 3) := by decide +kernel
theorem dX8_rests_77 : decode cX8_rests 77 = .ok (.ifCond .eq 15, 3) := by decide +kernel
theorem dX8_rests_80 : decode cX8_rests 80 = .ok (.iload 4, 2) := by decide +kernel
theorem dX8_rests_82 : decode cX8_rests 82 = .ok (.iload_n 2, 1) := by decide +kernel
theorem dX8_rests_83 : decode cX8_rests 83 = .ok (.if_icmp .ne 6, 3) := by decide +kernel
theorem dX8_rests_86 : decode cX8_rests 86 = .ok (.iload 5, 2) := by decide +kernel
theorem dX8_rests_88 : decode cX8_rests 88 = .ok (.ireturn, 1) := by decide +kernel
theorem dX8_rests_89 : decode cX8_rests 89 = .ok (.iinc 4 1, 3) := by decide +kernel
theorem dX8_rests_92 : decode cX8_rests 92 = .ok (.iinc 5 1, 3) := by decide +kernel
theorem dX8_rests_95 : decode cX8_rests 95 = .ok (.goto (-30), 3) := by decide +kernel
theorem dX8_rests_98 : decode cX8_rests 98 = .ok (.iload_n 2, 1) := by decide +kernel
theorem dX8_rests_99 : decode cX8_rests 99 = .ok (.iconst (-1), 1) := by decide +kernel
theorem dX8_rests_100 : decode cX8_rests 100 = .ok (.if_icmp .ne 8, 3) := by decide +kernel
theorem dX8_rests_103 : decode cX8_rests 103 = .ok (.iload 4, 2) := by decide +kernel
theorem dX8_rests_105 : decode cX8_rests 105 = .ok (.goto 4, 3) := by decide +kernel
theorem dX8_rests_108 : decode cX8_rests 108 = .ok (.iconst (-1), 1) := by decide +kernel
theorem dX8_rests_109 : decode cX8_rests 109 = .ok (.ireturn, 1) := by decide +kernel
theorem dX8_laughInSet_0 : decode cX8_laughInSet 0 = .ok (.aload_n 0, 1) := by decide +kernel
theorem dX8_laughInSet_1 : decode cX8_laughInSet 1 = .ok (.getfield 48, 3) := by decide +kernel
theorem dX8_laughInSet_4 : decode cX8_laughInSet 4 = .ok (.aload_n 0, 1) := by decide +kernel
theorem dX8_laughInSet_5 : decode cX8_laughInSet 5 = .ok (.getfield 44, 3) := by decide +kernel
theorem dX8_laughInSet_8 : decode cX8_laughInSet 8 = .ok (.invokevirtual 219, 3) := by decide +kernel
theorem dX8_laughInSet_11 : decode cX8_laughInSet 11 = .ok (.aload_n 0, 1) := by decide +kernel
theorem dX8_laughInSet_12 : decode cX8_laughInSet 12 = .ok (.getfield 44, 3) := by decide +kernel
theorem dX8_laughInSet_15 : decode cX8_laughInSet 15 = .ok (.getfield 137, 3) := by decide +kernel
theorem dX8_laughInSet_18 : decode cX8_laughInSet 18 = .ok (.istore_n 3, 1) := by decide +kernel
theorem dX8_laughInSet_19 : decode cX8_laughInSet 19 = .ok (.iconst 0, 1) := by decide +kernel
theorem dX8_laughInSet_20 : decode cX8_laughInSet 20 = .ok (.istore 4, 2) := by decide +kernel
theorem dX8_laughInSet_22 : decode cX8_laughInSet 22 = .ok (.iload 4, 2) := by decide +kernel
theorem dX8_laughInSet_24 : decode cX8_laughInSet 24 = .ok (.aload_n 0, 1) := by decide +kernel
theorem dX8_laughInSet_25 : decode cX8_laughInSet 25 = .ok (.getfield 19, 3) := by decide +kernel
theorem dX8_laughInSet_28 : decode cX8_laughInSet 28 = .ok (.getfield 161, 3) := by decide +kernel
theorem dX8_laughInSet_31 : decode cX8_laughInSet 31 = .ok (.if_icmp .ge 78, 3) := by decide +kernel
theorem dX8_laughInSet_34 : decode cX8_laughInSet 34 = .ok (.aload_n 0, 1) := by decide +kernel
theorem dX8_laughInSet_35 : decode cX8_laughInSet 35 = .ok (.getfield 37, 3) := by decide +kernel
theorem dX8_laughInSet_38 : decode cX8_laughInSet 38 = .ok (.aload_n 0, 1) := by decide +kernel
theorem dX8_laughInSet_39 : decode cX8_laughInSet 39 = .ok (.getfield 48, 3) := by decide +kernel
theorem dX8_laughInSet_42 : decode cX8_laughInSet 42 = .ok (.iload_n 3, 1) := by decide +kernel
theorem dX8_laughInSet_43 : decode cX8_laughInSet 43 = .ok (.iload_n 1, 1) := by decide +kernel
theorem dX8_laughInSet_44 : decode cX8_laughInSet 44 = .ok (.iload_n 3, 1) := by decide +kernel
theorem dX8_laughInSet_45 : decode cX8_laughInSet 45 = .ok (.ishr, 1) := by decide +kernel
theorem dX8_laughInSet_46 : decode cX8_laughInSet 46 = .ok (.iconst 1, 1) := by decide +kernel
theorem dX8_laughInSet_47 : decode cX8_laughInSet 47 = .ok (.iand, 1) := by decide +kernel
theorem dX8_laughInSet_48 : decode cX8_laughInSet 48 = .ok (.iconst 1, 1) := by decide +kernel
theorem dX8_laughInSet_49 : decode cX8_laughInSet 49 = .ok (.if_icmp .ne 9, 3) := by decide +kernel
theorem dX8_laughInSet_52 : decode cX8_laughInSet 52 = .ok (.iconst 2, 1) := by decide +kernel
theorem dX8_laughInSet_53 : decode cX8_laughInSet 53 = .ok (.iload_n 2, 1) := by decide +kernel
theorem dX8_laughInSet_54 : decode cX8_laughInSet 54 = .ok (.imul, 1) := by decide +kernel
theorem dX8_laughInSet_55 : decode cX8_laughInSet 55 = .ok (.goto 4, 3) := by decide +kernel
theorem dX8_laughInSet_58 : decode cX8_laughInSet 58 = .ok (.iload_n 2, 1) := by decide +kernel
theorem dX8_laughInSet_59 : decode cX8_laughInSet 59 = .ok (.invokevirtual 278, 3) := by decide +kernel
theorem dX8_laughInSet_62 : decode cX8_laughInSet 62 = .ok (.aload_n 0, 1) := by decide +kernel
theorem dX8_laughInSet_63 : decode cX8_laughInSet 63 = .ok (.getfield 82, 3) := by decide +kernel
theorem dX8_laughInSet_66 : decode cX8_laughInSet 66 = .ok (.iload_n 1, 1) := by decide +kernel
theorem dX8_laughInSet_67 : decode cX8_laughInSet 67 = .ok (.bipush 6, 2) := by decide +kernel
theorem dX8_laughInSet_69 : decode cX8_laughInSet 69 = .ok (.imul, 1) := by decide +kernel
theorem dX8_laughInSet_70 : decode cX8_laughInSet 70 = .ok (.iload_n 3, 1) := by decide +kernel
theorem dX8_laughInSet_71 : decode cX8_laughInSet 71 = .ok (.iadd, 1) := by decide +kernel
theorem dX8_laughInSet_72 : decode cX8_laughInSet 72 = .ok (.aload_n 0, 1) := by decide +kernel
theorem dX8_laughInSet_73 : decode cX8_laughInSet 73 = .ok (.getfield 48, 3) := by decide +kernel
theorem dX8_laughInSet_76 : decode cX8_laughInSet 76 = .ok (.iload_n 3, 1) := by decide +kernel
theorem dX8_laughInSet_77 : decode cX8_laughInSet 77 = .ok (.iconst 2, 1) := by decide +kernel
theorem dX8_laughInSet_78 : decode cX8_laughInSet 78 = .ok (.invokevirtual 179, 3) := by decide +kernel
theorem dX8_laughInSet_81 : decode cX8_laughInSet 81 = .ok (.aload_n 0, 1) := by decide +kernel
theorem dX8_laughInSet_82 : decode cX8_laughInSet 82 = .ok (.getfield 44, 3) := by decide +kernel
theorem dX8_laughInSet_85 : decode cX8_laughInSet 85 = .ok (.iload_n 3, 1) := by decide +kernel
theorem dX8_laughInSet_86 : decode cX8_laughInSet 86 = .ok (.iconst 2, 1) := by decide +kernel
theorem dX8_laughInSet_87 : decode cX8_laughInSet 87 = .ok (.invokevirtual 179, 3) := by decide +kernel
theorem dX8_laughInSet_90 : decode cX8_laughInSet 90 = .ok (.isub, 1) := by decide +kernel
theorem dX8_laughInSet_91 : decode cX8_laughInSet 91 = .ok (.invokestatic 118, 3) := by decide +kernel
theorem dX8_laughInSet_94 : decode cX8_laughInSet 94 = .ok (.aload_n 0, 1) := by decide +kernel
theorem dX8_laughInSet_95 : decode cX8_laughInSet 95 = .ok (.getfield 37, 3) := by decide +kernel
theorem dX8_laughInSet_98 : decode cX8_laughInSet 98 = .ok (.iload_n 3, 1) := by decide +kernel
theorem dX8_laughInSet_99 : decode cX8_laughInSet 99 = .ok (.invokevirtual 290, 3) := by decide +kernel
theorem dX8_laughInSet_102 : decode cX8_laughInSet 102 = .ok (.istore_n 3, 1) := by decide +kernel
theorem dX8_laughInSet_103 : decode cX8_laughInSet 103 = .ok (.iinc 4 1, 3) := by decide +kernel
theorem dX8_laughInSet_106 : decode cX8_laughInSet 106 = .ok (.goto (-84), 3) := by decide +kernel
theorem dX8_laughInSet_109 : decode cX8_laughInSet 109 = .ok (.return_, 1) := by decide +kernel
theorem dX8_isAtRest_0 : decode cX8_isAtRest 0 = .ok (.iconst 0, 1) := by decide +kernel
theorem dX8_isAtRest_1 : decode cX8_isAtRest 1 = .ok (.istore_n 2, 1) := by decide +kernel
theorem dX8_isAtRest_2 : decode cX8_isAtRest 2 = .ok (.iload_n 2, 1) := by decide +kernel
theorem dX8_isAtRest_3 : decode cX8_isAtRest 3 = .ok (.aload_n 0, 1) := by decide +kernel
theorem dX8_isAtRest_4 : decode cX8_isAtRest 4 = .ok (.getfield 19, 3) := by decide +kernel
theorem dX8_isAtRest_7 : decode cX8_isAtRest 7 = .ok (.getfield 161, 3) := by decide +kernel
theorem dX8_isAtRest_10 : decode cX8_isAtRest 10 = .ok (.if_icmp .ge 46, 3) := by decide +kernel
theorem dX8_isAtRest_13 : decode cX8_isAtRest 13 = .ok (.iload_n 1, 1) := by decide +kernel
theorem dX8_isAtRest_14 : decode cX8_isAtRest 14 = .ok (.iconst 1, 1) := by decide +kernel
theorem dX8_isAtRest_15 : decode cX8_isAtRest 15 = .ok (.iload_n 2, 1) := by decide +kernel
theorem dX8_isAtRest_16 : decode cX8_isAtRest 16 = .ok (.ishl, 1) := by decide +kernel
theorem dX8_isAtRest_17 : decode cX8_isAtRest 17 = .ok (.ixor, 1) := by decide +kernel
theorem dX8_isAtRest_18 : decode cX8_isAtRest 18 = .ok (.istore_n 3, 1) := by decide +kernel
theorem dX8_isAtRest_19 : decode cX8_isAtRest 19 = .ok (.aload_n 0, 1) := by decide +kernel
theorem dX8_isAtRest_20 : decode cX8_isAtRest 20 = .ok (.getfield 82, 3) := by decide +kernel
theorem dX8_isAtRest_23 : decode cX8_isAtRest 23 = .ok (.iload_n 3, 1) := by decide +kernel
theorem dX8_isAtRest_24 : decode cX8_isAtRest 24 = .ok (.bipush 6, 2) := by decide +kernel
theorem dX8_isAtRest_26 : decode cX8_isAtRest 26 = .ok (.imul, 1) := by decide +kernel
theorem dX8_isAtRest_27 : decode cX8_isAtRest 27 = .ok (.iload_n 2, 1) := by decide +kernel
theorem dX8_isAtRest_28 : decode cX8_isAtRest 28 = .ok (.iadd, 1) := by decide +kernel
theorem dX8_isAtRest_29 : decode cX8_isAtRest 29 = .ok (.invokestatic 175, 3) := by decide +kernel
theorem dX8_isAtRest_32 : decode cX8_isAtRest 32 = .ok (.aload_n 0, 1) := by decide +kernel
theorem dX8_isAtRest_33 : decode cX8_isAtRest 33 = .ok (.getfield 82, 3) := by decide +kernel
theorem dX8_isAtRest_36 : decode cX8_isAtRest 36 = .ok (.iload_n 1, 1) := by decide +kernel
theorem dX8_isAtRest_37 : decode cX8_isAtRest 37 = .ok (.bipush 6, 2) := by decide +kernel
theorem dX8_isAtRest_39 : decode cX8_isAtRest 39 = .ok (.imul, 1) := by decide +kernel
theorem dX8_isAtRest_40 : decode cX8_isAtRest 40 = .ok (.iload_n 2, 1) := by decide +kernel
theorem dX8_isAtRest_41 : decode cX8_isAtRest 41 = .ok (.iadd, 1) := by decide +kernel
theorem dX8_isAtRest_42 : decode cX8_isAtRest 42 = .ok (.invokestatic 175, 3) := by decide +kernel
theorem dX8_isAtRest_45 : decode cX8_isAtRest 45 = .ok (.if_icmp .le 5, 3) := by decide +kernel
theorem dX8_isAtRest_48 : decode cX8_isAtRest 48 = .ok (.iconst 0, 1) := by decide +kernel
theorem dX8_isAtRest_49 : decode cX8_isAtRest 49 = .ok (.ireturn, 1) := by decide +kernel
theorem dX8_isAtRest_50 : decode cX8_isAtRest 50 = .ok (.iinc 2 1, 3) := by decide +kernel
theorem dX8_isAtRest_53 : decode cX8_isAtRest 53 = .ok (.goto (-51), 3) := by decide +kernel
theorem dX8_isAtRest_56 : decode cX8_isAtRest 56 = .ok (.iconst 1, 1) := by decide +kernel
theorem dX8_isAtRest_57 : decode cX8_isAtRest 57 = .ok (.ireturn, 1) := by decide +kernel
theorem dX8_silk_0 : decode cX8_silk 0 = .ok (.iload_n 1, 1) := by decide +kernel
theorem dX8_silk_1 : decode cX8_silk 1 = .ok (.iconst 0, 1) := by decide +kernel
theorem dX8_silk_2 : decode cX8_silk 2 = .ok (.bipush 120, 2) := by decide +kernel
theorem dX8_silk_4 : decode cX8_silk 4 = .ok (.invokestatic 168, 3) := by decide +kernel
theorem dX8_silk_7 : decode cX8_silk 7 = .ok (.ifCond .eq 13, 3) := by decide +kernel
theorem dX8_silk_10 : decode cX8_silk 10 = .ok (.iload_n 2, 1) := by decide +kernel
theorem dX8_silk_11 : decode cX8_silk 11 = .ok (.iconst 1, 1) := by decide +kernel
theorem dX8_silk_12 : decode cX8_silk 12 = .ok (.bipush 20, 2) := by decide +kernel
theorem dX8_silk_14 : decode cX8_silk 14 = .ok (.invokestatic 168, 3) := by decide +kernel
theorem dX8_silk_17 : decode cX8_silk 17 = .ok (.ifCond .ne 5, 3) := by decide +kernel
theorem dX8_silk_20 : decode cX8_silk 20 = .ok (.iconst (-1), 1) := by decide +kernel
theorem dX8_silk_21 : decode cX8_silk 21 = .ok (.ireturn, 1) := by decide +kernel
theorem dX8_silk_22 : decode cX8_silk 22 = .ok (.iconst 0, 1) := by decide +kernel
theorem dX8_silk_23 : decode cX8_silk 23 = .ok (.istore_n 3, 1) := by decide +kernel
theorem dX8_silk_24 : decode cX8_silk 24 = .ok (.iconst 0, 1) := by decide +kernel
theorem dX8_silk_25 : decode cX8_silk 25 = .ok (.istore 4, 2) := by decide +kernel
theorem dX8_silk_27 : decode cX8_silk 27 = .ok (.iload 4, 2) := by decide +kernel
theorem dX8_silk_29 : decode cX8_silk 29 = .ok (.iload_n 2, 1) := by decide +kernel
theorem dX8_silk_30 : decode cX8_silk 30 = .ok (.if_icmp .ge 69, 3) := by decide +kernel
theorem dX8_silk_33 : decode cX8_silk 33 = .ok (.aload_n 0, 1) := by decide +kernel
theorem dX8_silk_34 : decode cX8_silk 34 = .ok (.getfield 48, 3) := by decide +kernel
theorem dX8_silk_37 : decode cX8_silk 37 = .ok (.aload_n 0, 1) := by decide +kernel
theorem dX8_silk_38 : decode cX8_silk 38 = .ok (.getfield 44, 3) := by decide +kernel
theorem dX8_silk_41 : decode cX8_silk 41 = .ok (.invokevirtual 219, 3) := by decide +kernel
theorem dX8_silk_44 : decode cX8_silk 44 = .ok (.aload_n 0, 1) := by decide +kernel
theorem dX8_silk_45 : decode cX8_silk 45 = .ok (.getfield 48, 3) := by decide +kernel
theorem dX8_silk_48 : decode cX8_silk 48 = .ok (.aload_n 0, 1) := by decide +kernel
theorem dX8_silk_49 : decode cX8_silk 49 = .ok (.getfield 19, 3) := by decide +kernel
theorem dX8_silk_52 : decode cX8_silk 52 = .ok (.getfield 293, 3) := by decide +kernel
theorem dX8_silk_55 : decode cX8_silk 55 = .ok (.iload 4, 2) := by decide +kernel
theorem dX8_silk_57 : decode cX8_silk 57 = .ok (.iadd, 1) := by decide +kernel
theorem dX8_silk_58 : decode cX8_silk 58 = .ok (.putfield 296, 3) := by decide +kernel
theorem dX8_silk_61 : decode cX8_silk 61 = .ok (.aload_n 0, 1) := by decide +kernel
theorem dX8_silk_62 : decode cX8_silk 62 = .ok (.getfield 37, 3) := by decide +kernel
theorem dX8_silk_65 : decode cX8_silk 65 = .ok (.aload_n 0, 1) := by decide +kernel
theorem dX8_silk_66 : decode cX8_silk 66 = .ok (.getfield 48, 3) := by decide +kernel
theorem dX8_silk_69 : decode cX8_silk 69 = .ok (.iload_n 1, 1) := by decide +kernel
theorem dX8_silk_70 : decode cX8_silk 70 = .ok (.invokevirtual 195, 3) := by decide +kernel
theorem dX8_silk_73 : decode cX8_silk 73 = .ok (.iload_n 3, 1) := by decide +kernel
theorem dX8_silk_74 : decode cX8_silk 74 = .ok (.aload_n 0, 1) := by decide +kernel
theorem dX8_silk_75 : decode cX8_silk 75 = .ok (.getfield 48, 3) := by decide +kernel
theorem dX8_silk_78 : decode cX8_silk 78 = .ok (.iconst 4, 1) := by decide +kernel
theorem dX8_silk_79 : decode cX8_silk 79 = .ok (.invokevirtual 269, 3) := by decide +kernel
theorem dX8_silk_82 : decode cX8_silk 82 = .ok (.aload_n 0, 1) := by decide +kernel
theorem dX8_silk_83 : decode cX8_silk 83 = .ok (.getfield 44, 3) := by decide +kernel
theorem dX8_silk_86 : decode cX8_silk 86 = .ok (.iconst 4, 1) := by decide +kernel
theorem dX8_silk_87 : decode cX8_silk 87 = .ok (.invokevirtual 269, 3) := by decide +kernel
theorem dX8_silk_90 : decode cX8_silk 90 = .ok (.isub, 1) := by decide +kernel
theorem dX8_silk_91 : decode cX8_silk 91 = .ok (.iadd, 1) := by decide +kernel
theorem dX8_silk_92 : decode cX8_silk 92 = .ok (.istore_n 3, 1) := by decide +kernel
theorem dX8_silk_93 : decode cX8_silk 93 = .ok (.iinc 4 1, 3) := by decide +kernel
theorem dX8_silk_96 : decode cX8_silk 96 = .ok (.goto (-69), 3) := by decide +kernel
theorem dX8_silk_99 : decode cX8_silk 99 = .ok (.iload_n 3, 1) := by decide +kernel
theorem dX8_silk_100 : decode cX8_silk 100 = .ok (.ireturn, 1) := by decide +kernel
theorem dX8_likes_0 : decode cX8_likes 0 = .ok (.aload_n 0, 1) := by decide +kernel
theorem dX8_likes_1 : decode cX8_likes 1 = .ok (.iload_n 1, 1) := by decide +kernel
theorem dX8_likes_2 : decode cX8_likes 2 = .ok (.invokevirtual 164, 3) := by decide +kernel
theorem dX8_likes_5 : decode cX8_likes 5 = .ok (.ifCond .ne 5, 3) := by decide +kernel
theorem dX8_likes_8 : decode cX8_likes 8 = .ok (.iconst (-1), 1) := by decide +kernel
theorem dX8_likes_9 : decode cX8_likes 9 = .ok (.ireturn, 1) := by decide +kernel
theorem dX8_likes_10 : decode cX8_likes 10 = .ok (.aload_n 0, 1) := by decide +kernel
theorem dX8_likes_11 : decode cX8_likes 11 = .ok (.getfield 44, 3) := by decide +kernel
theorem dX8_likes_14 : decode cX8_likes 14 = .ok (.iload_n 1, 1) := by decide +kernel
theorem dX8_likes_15 : decode cX8_likes 15 = .ok (.iconst 0, 1) := by decide +kernel
theorem dX8_likes_16 : decode cX8_likes 16 = .ok (.invokevirtual 179, 3) := by decide +kernel
theorem dX8_likes_19 : decode cX8_likes 19 = .ok (.istore_n 3, 1) := by decide +kernel
theorem dX8_likes_20 : decode cX8_likes 20 = .ok (.iload_n 3, 1) := by decide +kernel
theorem dX8_likes_21 : decode cX8_likes 21 = .ok (.ifCond .ne 6, 3) := by decide +kernel
theorem dX8_likes_24 : decode cX8_likes 24 = .ok (.bipush (-2), 2) := by decide +kernel
theorem dX8_likes_26 : decode cX8_likes 26 = .ok (.ireturn, 1) := by decide +kernel
theorem dX8_likes_27 : decode cX8_likes 27 = .ok (.aload_n 0, 1) := by decide +kernel
theorem dX8_likes_28 : decode cX8_likes 28 = .ok (.getfield 44, 3) := by decide +kernel
theorem dX8_likes_31 : decode cX8_likes 31 = .ok (.iload_n 1, 1) := by decide +kernel
theorem dX8_likes_32 : decode cX8_likes 32 = .ok (.iconst 1, 1) := by decide +kernel
theorem dX8_likes_33 : decode cX8_likes 33 = .ok (.invokevirtual 179, 3) := by decide +kernel
theorem dX8_likes_36 : decode cX8_likes 36 = .ok (.istore 4, 2) := by decide +kernel
theorem dX8_likes_38 : decode cX8_likes 38 = .ok (.iload_n 3, 1) := by decide +kernel
theorem dX8_likes_39 : decode cX8_likes 39 = .ok (.iload 4, 2) := by decide +kernel
theorem dX8_likes_41 : decode cX8_likes 41 = .ok (.invokestatic 297, 3) := by decide +kernel
theorem dX8_likes_44 : decode cX8_likes 44 = .ok (.istore 5, 2) := by decide +kernel
theorem dX8_likes_46 : decode cX8_likes 46 = .ok (.iload 5, 2) := by decide +kernel
theorem dX8_likes_48 : decode cX8_likes 48 = .ok (.ifCond .ne 6, 3) := by decide +kernel
theorem dX8_likes_51 : decode cX8_likes 51 = .ok (.bipush (-2), 2) := by decide +kernel
theorem dX8_likes_53 : decode cX8_likes 53 = .ok (.ireturn, 1) := by decide +kernel
theorem dX8_likes_54 : decode cX8_likes 54 = .ok (.iload_n 2, 1) := by decide +kernel
theorem dX8_likes_55 : decode cX8_likes 55 = .ok (.ifCond .eq 10, 3) := by decide +kernel
theorem dX8_likes_58 : decode cX8_likes 58 = .ok (.iload_n 3, 1) := by decide +kernel
theorem dX8_likes_59 : decode cX8_likes 59 = .ok (.iload 5, 2) := by decide +kernel
theorem dX8_likes_61 : decode cX8_likes 61 = .ok (.idiv, 1) := by decide +kernel
theorem dX8_likes_62 : decode cX8_likes 62 = .ok (.goto 8, 3) := by decide +kernel
theorem dX8_likes_65 : decode cX8_likes 65 = .ok (.iload 4, 2) := by decide +kernel
theorem dX8_likes_67 : decode cX8_likes 67 = .ok (.iload 5, 2) := by decide +kernel
theorem dX8_likes_69 : decode cX8_likes 69 = .ok (.idiv, 1) := by decide +kernel
theorem dX8_likes_70 : decode cX8_likes 70 = .ok (.ireturn, 1) := by decide +kernel
theorem dX8_commonDivisor_0 : decode cX8_commonDivisor 0 = .ok (.iconst 0, 1) := by decide +kernel
theorem dX8_commonDivisor_1 : decode cX8_commonDivisor 1 = .ok (.istore_n 2, 1) := by decide +kernel
theorem dX8_commonDivisor_2 : decode cX8_commonDivisor 2 = .ok (.iload_n 2, 1) := by decide +kernel
theorem dX8_commonDivisor_3 : decode cX8_commonDivisor 3 = .ok (.bipush 100, 2) := by decide +kernel
theorem dX8_commonDivisor_5 : decode cX8_commonDivisor 5 = .ok (.if_icmp .ge 21, 3) := by decide +kernel
theorem dX8_commonDivisor_8 : decode cX8_commonDivisor 8 = .ok (.iload_n 1, 1) := by decide +kernel
theorem dX8_commonDivisor_9 : decode cX8_commonDivisor 9 = .ok (.ifCond .eq 17, 3) := by decide +kernel
theorem dX8_commonDivisor_12 : decode cX8_commonDivisor 12 = .ok (.iload_n 0, 1) := by decide +kernel
theorem dX8_commonDivisor_13 : decode cX8_commonDivisor 13 = .ok (.iload_n 1, 1) := by decide +kernel
theorem dX8_commonDivisor_14 : decode cX8_commonDivisor 14 = .ok (.irem, 1) := by decide +kernel
theorem dX8_commonDivisor_15 : decode cX8_commonDivisor 15 = .ok (.istore_n 3, 1) := by decide +kernel
theorem dX8_commonDivisor_16 : decode cX8_commonDivisor 16 = .ok (.iload_n 1, 1) := by decide +kernel
theorem dX8_commonDivisor_17 : decode cX8_commonDivisor 17 = .ok (.istore_n 0, 1) := by decide +kernel
theorem dX8_commonDivisor_18 : decode cX8_commonDivisor 18 = .ok (.iload_n 3, 1) := by decide +kernel
theorem dX8_commonDivisor_19 : decode cX8_commonDivisor 19 = .ok (.istore_n 1, 1) := by decide +kernel
theorem dX8_commonDivisor_20 : decode cX8_commonDivisor 20 = .ok (.iinc 2 1, 3) := by decide +kernel
theorem dX8_commonDivisor_23 : decode cX8_commonDivisor 23 = .ok (.goto (-21), 3) := by decide +kernel
theorem dX8_commonDivisor_26 : decode cX8_commonDivisor 26 = .ok (.iload_n 0, 1) := by decide +kernel
theorem dX8_commonDivisor_27 : decode cX8_commonDivisor 27 = .ok (.ireturn, 1) := by decide +kernel
theorem dX8_sleeps_0 : decode cX8_sleeps 0 = .ok (.aload_n 0, 1) := by decide +kernel
theorem dX8_sleeps_1 : decode cX8_sleeps 1 = .ok (.getfield 48, 3) := by decide +kernel
theorem dX8_sleeps_4 : decode cX8_sleeps 4 = .ok (.aload_n 0, 1) := by decide +kernel
theorem dX8_sleeps_5 : decode cX8_sleeps 5 = .ok (.getfield 44, 3) := by decide +kernel
theorem dX8_sleeps_8 : decode cX8_sleeps 8 = .ok (.invokevirtual 219, 3) := by decide +kernel
theorem dX8_sleeps_11 : decode cX8_sleeps 11 = .ok (.iconst 0, 1) := by decide +kernel
theorem dX8_sleeps_12 : decode cX8_sleeps 12 = .ok (.istore_n 1, 1) := by decide +kernel
theorem dX8_sleeps_13 : decode cX8_sleeps 13 = .ok (.iload_n 1, 1) := by decide +kernel
theorem dX8_sleeps_14 : decode cX8_sleeps 14 = .ok (.sipush 240, 3) := by decide +kernel
theorem dX8_sleeps_17 : decode cX8_sleeps 17 = .ok (.if_icmp .ge 32, 3) := by decide +kernel
theorem dX8_sleeps_20 : decode cX8_sleeps 20 = .ok (.aload_n 0, 1) := by decide +kernel
theorem dX8_sleeps_21 : decode cX8_sleeps 21 = .ok (.getfield 48, 3) := by decide +kernel
theorem dX8_sleeps_24 : decode cX8_sleeps 24 = .ok (.getfield 146, 3) := by decide +kernel
theorem dX8_sleeps_27 : decode cX8_sleeps 27 = .ok (.ifCond .le 5, 3) := by decide +kernel
theorem dX8_sleeps_30 : decode cX8_sleeps 30 = .ok (.iload_n 1, 1) := by decide +kernel
theorem dX8_sleeps_31 : decode cX8_sleeps 31 = .ok (.ireturn, 1) := by decide +kernel
theorem dX8_sleeps_32 : decode cX8_sleeps 32 = .ok (.aload_n 0, 1) := by decide +kernel
theorem dX8_sleeps_33 : decode cX8_sleeps 33 = .ok (.getfield 37, 3) := by decide +kernel
theorem dX8_sleeps_36 : decode cX8_sleeps 36 = .ok (.aload_n 0, 1) := by decide +kernel
theorem dX8_sleeps_37 : decode cX8_sleeps 37 = .ok (.getfield 48, 3) := by decide +kernel
theorem dX8_sleeps_40 : decode cX8_sleeps 40 = .ok (.invokevirtual 281, 3) := by decide +kernel
theorem dX8_sleeps_43 : decode cX8_sleeps 43 = .ok (.iinc 1 1, 3) := by decide +kernel
theorem dX8_sleeps_46 : decode cX8_sleeps 46 = .ok (.goto (-33), 3) := by decide +kernel
theorem dX8_sleeps_49 : decode cX8_sleeps 49 = .ok (.aload_n 0, 1) := by decide +kernel
theorem dX8_sleeps_50 : decode cX8_sleeps 50 = .ok (.getfield 48, 3) := by decide +kernel
theorem dX8_sleeps_53 : decode cX8_sleeps 53 = .ok (.getfield 146, 3) := by decide +kernel
theorem dX8_sleeps_56 : decode cX8_sleeps 56 = .ok (.ifCond .le 9, 3) := by decide +kernel
theorem dX8_sleeps_59 : decode cX8_sleeps 59 = .ok (.sipush 240, 3) := by decide +kernel
theorem dX8_sleeps_62 : decode cX8_sleeps 62 = .ok (.goto 5, 3) := by decide +kernel
theorem dX8_sleeps_65 : decode cX8_sleeps 65 = .ok (.bipush (-2), 2) := by decide +kernel
theorem dX8_sleeps_67 : decode cX8_sleeps 67 = .ok (.ireturn, 1) := by decide +kernel
theorem dX8_tell_0 : decode cX8_tell 0 = .ok (.iload_n 1, 1) := by decide +kernel
theorem dX8_tell_1 : decode cX8_tell 1 = .ok (.iconst 0, 1) := by decide +kernel
theorem dX8_tell_2 : decode cX8_tell 2 = .ok (.bipush 59, 2) := by decide +kernel
theorem dX8_tell_4 : decode cX8_tell 4 = .ok (.invokestatic 168, 3) := by decide +kernel
theorem dX8_tell_7 : decode cX8_tell 7 = .ok (.ifCond .eq 22, 3) := by decide +kernel
theorem dX8_tell_10 : decode cX8_tell 10 = .ok (.iload_n 2, 1) := by decide +kernel
theorem dX8_tell_11 : decode cX8_tell 11 = .ok (.iconst 0, 1) := by decide +kernel
theorem dX8_tell_12 : decode cX8_tell 12 = .ok (.bipush 99, 2) := by decide +kernel
theorem dX8_tell_14 : decode cX8_tell 14 = .ok (.invokestatic 168, 3) := by decide +kernel
theorem dX8_tell_17 : decode cX8_tell 17 = .ok (.ifCond .eq 12, 3) := by decide +kernel
theorem dX8_tell_20 : decode cX8_tell 20 = .ok (.aload_n 0, 1) := by decide +kernel
theorem dX8_tell_21 : decode cX8_tell 21 = .ok (.getfield 114, 3) := by decide +kernel
theorem dX8_tell_24 : decode cX8_tell 24 = .ok (.bipush 20, 2) := by decide +kernel
theorem dX8_tell_26 : decode cX8_tell 26 = .ok (.if_icmp .lt 5, 3) := by decide +kernel
theorem dX8_tell_29 : decode cX8_tell 29 = .ok (.iconst (-1), 1) := by decide +kernel
theorem dX8_tell_30 : decode cX8_tell 30 = .ok (.ireturn, 1) := by decide +kernel
theorem dX8_tell_31 : decode cX8_tell 31 = .ok (.aload_n 0, 1) := by decide +kernel
theorem dX8_tell_32 : decode cX8_tell 32 = .ok (.getfield 85, 3) := by decide +kernel
theorem dX8_tell_35 : decode cX8_tell 35 = .ok (.aload_n 0, 1) := by decide +kernel
theorem dX8_tell_36 : decode cX8_tell 36 = .ok (.getfield 114, 3) := by decide +kernel
theorem dX8_tell_39 : decode cX8_tell 39 = .ok (.iload_n 1, 1) := by decide +kernel
theorem dX8_tell_40 : decode cX8_tell 40 = .ok (.invokestatic 118, 3) := by decide +kernel
theorem dX8_tell_43 : decode cX8_tell 43 = .ok (.aload_n 0, 1) := by decide +kernel
theorem dX8_tell_44 : decode cX8_tell 44 = .ok (.getfield 88, 3) := by decide +kernel
theorem dX8_tell_47 : decode cX8_tell 47 = .ok (.aload_n 0, 1) := by decide +kernel
theorem dX8_tell_48 : decode cX8_tell 48 = .ok (.getfield 114, 3) := by decide +kernel
theorem dX8_tell_51 : decode cX8_tell 51 = .ok (.iload_n 2, 1) := by decide +kernel
theorem dX8_tell_52 : decode cX8_tell 52 = .ok (.invokestatic 118, 3) := by decide +kernel
theorem dX8_tell_55 : decode cX8_tell 55 = .ok (.aload_n 0, 1) := by decide +kernel
theorem dX8_tell_56 : decode cX8_tell 56 = .ok (.dup, 1) := by decide +kernel
theorem dX8_tell_57 : decode cX8_tell 57 = .ok (.getfield 114, 3) := by decide +kernel
theorem dX8_tell_60 : decode cX8_tell 60 = .ok (.iconst 1, 1) := by decide +kernel
theorem dX8_tell_61 : decode cX8_tell 61 = .ok (.iadd, 1) := by decide +kernel
theorem dX8_tell_62 : decode cX8_tell 62 = .ok (.putfield 114, 3) := by decide +kernel
theorem dX8_tell_65 : decode cX8_tell 65 = .ok (.aload_n 0, 1) := by decide +kernel
theorem dX8_tell_66 : decode cX8_tell 66 = .ok (.getfield 114, 3) := by decide +kernel
theorem dX8_tell_69 : decode cX8_tell 69 = .ok (.iconst 1, 1) := by decide +kernel
theorem dX8_tell_70 : decode cX8_tell 70 = .ok (.isub, 1) := by decide +kernel
theorem dX8_tell_71 : decode cX8_tell 71 = .ok (.ireturn, 1) := by decide +kernel
theorem dX8_forget_0 : decode cX8_forget 0 = .ok (.aload_n 0, 1) := by decide +kernel
theorem dX8_forget_1 : decode cX8_forget 1 = .ok (.getfield 114, 3) := by decide +kernel
theorem dX8_forget_4 : decode cX8_forget 4 = .ok (.istore_n 1, 1) := by decide +kernel
theorem dX8_forget_5 : decode cX8_forget 5 = .ok (.aload_n 0, 1) := by decide +kernel
theorem dX8_forget_6 : decode cX8_forget 6 = .ok (.iconst 0, 1) := by decide +kernel
theorem dX8_forget_7 : decode cX8_forget 7 = .ok (.putfield 114, 3) := by decide +kernel
theorem dX8_forget_10 : decode cX8_forget 10 = .ok (.iload_n 1, 1) := by decide +kernel
theorem dX8_forget_11 : decode cX8_forget 11 = .ok (.ireturn, 1) := by decide +kernel
theorem dX8_fed_0 : decode cX8_fed 0 = .ok (.iload_n 1, 1) := by decide +kernel
theorem dX8_fed_1 : decode cX8_fed 1 = .ok (.iconst 0, 1) := by decide +kernel
theorem dX8_fed_2 : decode cX8_fed 2 = .ok (.aload_n 0, 1) := by decide +kernel
theorem dX8_fed_3 : decode cX8_fed 3 = .ok (.getfield 114, 3) := by decide +kernel
theorem dX8_fed_6 : decode cX8_fed 6 = .ok (.invokestatic 168, 3) := by decide +kernel
theorem dX8_fed_9 : decode cX8_fed 9 = .ok (.ifCond .eq 8, 3) := by decide +kernel
theorem dX8_fed_12 : decode cX8_fed 12 = .ok (.iload_n 2, 1) := by decide +kernel
theorem dX8_fed_13 : decode cX8_fed 13 = .ok (.iconst (-1), 1) := by decide +kernel
theorem dX8_fed_14 : decode cX8_fed 14 = .ok (.if_icmp .ge 5, 3) := by decide +kernel
theorem dX8_fed_17 : decode cX8_fed 17 = .ok (.iconst (-1), 1) := by decide +kernel
theorem dX8_fed_18 : decode cX8_fed 18 = .ok (.ireturn, 1) := by decide +kernel
theorem dX8_fed_19 : decode cX8_fed 19 = .ok (.iconst 0, 1) := by decide +kernel
theorem dX8_fed_20 : decode cX8_fed 20 = .ok (.istore_n 3, 1) := by decide +kernel
theorem dX8_fed_21 : decode cX8_fed 21 = .ok (.iconst 0, 1) := by decide +kernel
theorem dX8_fed_22 : decode cX8_fed 22 = .ok (.istore 4, 2) := by decide +kernel
theorem dX8_fed_24 : decode cX8_fed 24 = .ok (.iload 4, 2) := by decide +kernel
theorem dX8_fed_26 : decode cX8_fed 26 = .ok (.bipush 99, 2) := by decide +kernel
theorem dX8_fed_28 : decode cX8_fed 28 = .ok (.if_icmp .gt 30, 3) := by decide +kernel
theorem dX8_fed_31 : decode cX8_fed 31 = .ok (.aload_n 0, 1) := by decide +kernel
theorem dX8_fed_32 : decode cX8_fed 32 = .ok (.iload 4, 2) := by decide +kernel
theorem dX8_fed_34 : decode cX8_fed 34 = .ok (.iload_n 1, 1) := by decide +kernel
theorem dX8_fed_35 : decode cX8_fed 35 = .ok (.invokevirtual 300, 3) := by decide +kernel
theorem dX8_fed_38 : decode cX8_fed 38 = .ok (.ifCond .eq 14, 3) := by decide +kernel
theorem dX8_fed_41 : decode cX8_fed 41 = .ok (.iload_n 3, 1) := by decide +kernel
theorem dX8_fed_42 : decode cX8_fed 42 = .ok (.iload_n 2, 1) := by decide +kernel
theorem dX8_fed_43 : decode cX8_fed 43 = .ok (.if_icmp .ne 6, 3) := by decide +kernel
theorem dX8_fed_46 : decode cX8_fed 46 = .ok (.iload 4, 2) := by decide +kernel
theorem dX8_fed_48 : decode cX8_fed 48 = .ok (.ireturn, 1) := by decide +kernel
theorem dX8_fed_49 : decode cX8_fed 49 = .ok (.iinc 3 1, 3) := by decide +kernel
theorem dX8_fed_52 : decode cX8_fed 52 = .ok (.iinc 4 1, 3) := by decide +kernel
theorem dX8_fed_55 : decode cX8_fed 55 = .ok (.goto (-31), 3) := by decide +kernel
theorem dX8_fed_58 : decode cX8_fed 58 = .ok (.iload_n 2, 1) := by decide +kernel
theorem dX8_fed_59 : decode cX8_fed 59 = .ok (.iconst (-1), 1) := by decide +kernel
theorem dX8_fed_60 : decode cX8_fed 60 = .ok (.if_icmp .ne 7, 3) := by decide +kernel
theorem dX8_fed_63 : decode cX8_fed 63 = .ok (.iload_n 3, 1) := by decide +kernel
theorem dX8_fed_64 : decode cX8_fed 64 = .ok (.goto 4, 3) := by decide +kernel
theorem dX8_fed_67 : decode cX8_fed 67 = .ok (.iconst (-1), 1) := by decide +kernel
theorem dX8_fed_68 : decode cX8_fed 68 = .ok (.ireturn, 1) := by decide +kernel
theorem dX8_criesAsTold_0 : decode cX8_criesAsTold 0 = .ok (.aload_n 0, 1) := by decide +kernel
theorem dX8_criesAsTold_1 : decode cX8_criesAsTold 1 = .ok (.getfield 37, 3) := by decide +kernel
theorem dX8_criesAsTold_4 : decode cX8_criesAsTold 4 = .ok (.aload_n 0, 1) := by decide +kernel
theorem dX8_criesAsTold_5 : decode cX8_criesAsTold 5 = .ok (.getfield 48, 3) := by decide +kernel
theorem dX8_criesAsTold_8 : decode cX8_criesAsTold 8 = .ok (.invokevirtual 94, 3) := by decide +kernel
theorem dX8_criesAsTold_11 : decode cX8_criesAsTold 11 = .ok (.aload_n 0, 1) := by decide +kernel
theorem dX8_criesAsTold_12 : decode cX8_criesAsTold 12 = .ok (.getfield 48, 3) := by decide +kernel
theorem dX8_criesAsTold_15 : decode cX8_criesAsTold 15 = .ok (.iload_n 1, 1) := by decide +kernel
theorem dX8_criesAsTold_16 : decode cX8_criesAsTold 16 = .ok (.putfield 125, 3) := by decide +kernel
theorem dX8_criesAsTold_19 : decode cX8_criesAsTold 19 = .ok (.iconst 0, 1) := by decide +kernel
theorem dX8_criesAsTold_20 : decode cX8_criesAsTold 20 = .ok (.istore_n 3, 1) := by decide +kernel
theorem dX8_criesAsTold_21 : decode cX8_criesAsTold 21 = .ok (.iload_n 3, 1) := by decide +kernel
theorem dX8_criesAsTold_22 : decode cX8_criesAsTold 22 = .ok (.bipush 60, 2) := by decide +kernel
theorem dX8_criesAsTold_24 : decode cX8_criesAsTold 24 = .ok (.if_icmp .ge 69, 3) := by decide +kernel
theorem dX8_criesAsTold_27 : decode cX8_criesAsTold 27 = .ok (.aload_n 0, 1) := by decide +kernel
theorem dX8_criesAsTold_28 : decode cX8_criesAsTold 28 = .ok (.getfield 37, 3) := by decide +kernel
theorem dX8_criesAsTold_31 : decode cX8_criesAsTold 31 = .ok (.aload_n 0, 1) := by decide +kernel
theorem dX8_criesAsTold_32 : decode cX8_criesAsTold 32 = .ok (.getfield 48, 3) := by decide +kernel
theorem dX8_criesAsTold_35 : decode cX8_criesAsTold 35 = .ok (.invokevirtual 281, 3) := by decide +kernel
theorem dX8_criesAsTold_38 : decode cX8_criesAsTold 38 = .ok (.iconst 0, 1) := by decide +kernel
theorem dX8_criesAsTold_39 : decode cX8_criesAsTold 39 = .ok (.istore 4, 2) := by decide +kernel
theorem dX8_criesAsTold_41 : decode cX8_criesAsTold 41 = .ok (.iload 4, 2) := by decide +kernel
theorem dX8_criesAsTold_43 : decode cX8_criesAsTold 43 = .ok (.iload_n 2, 1) := by decide +kernel
theorem dX8_criesAsTold_44 : decode cX8_criesAsTold 44 = .ok (.if_icmp .ge 43, 3) := by decide +kernel
theorem dX8_criesAsTold_47 : decode cX8_criesAsTold 47 = .ok (.aload_n 0, 1) := by decide +kernel
theorem dX8_criesAsTold_48 : decode cX8_criesAsTold 48 = .ok (.getfield 85, 3) := by decide +kernel
theorem dX8_criesAsTold_51 : decode cX8_criesAsTold 51 = .ok (.iload 4, 2) := by decide +kernel
theorem dX8_criesAsTold_53 : decode cX8_criesAsTold 53 = .ok (.invokestatic 175, 3) := by decide +kernel
theorem dX8_criesAsTold_56 : decode cX8_criesAsTold 56 = .ok (.iload_n 3, 1) := by decide +kernel
theorem dX8_criesAsTold_57 : decode cX8_criesAsTold 57 = .ok (.if_icmp .ne 24, 3) := by decide +kernel
theorem dX8_criesAsTold_60 : decode cX8_criesAsTold 60 = .ok (.aload_n 0, 1) := by decide +kernel
theorem dX8_criesAsTold_61 : decode cX8_criesAsTold 61 = .ok (.getfield 88, 3) := by decide +kernel
theorem dX8_criesAsTold_64 : decode cX8_criesAsTold 64 = .ok (.iload 4, 2) := by decide +kernel
theorem dX8_criesAsTold_66 : decode cX8_criesAsTold 66 = .ok (.invokestatic 175, 3) := by decide +kernel
theorem dX8_criesAsTold_69 : decode cX8_criesAsTold 69 = .ok (.aload_n 0, 1) := by decide +kernel
theorem dX8_criesAsTold_70 : decode cX8_criesAsTold 70 = .ok (.getfield 48, 3) := by decide +kernel
theorem dX8_criesAsTold_73 : decode cX8_criesAsTold 73 = .ok (.getfield 143, 3) := by decide +kernel
theorem dX8_criesAsTold_76 : decode cX8_criesAsTold 76 = .ok (.if_icmp .eq 5, 3) := by decide +kernel
theorem dX8_criesAsTold_79 : decode cX8_criesAsTold 79 = .ok (.iconst 0, 1) := by decide +kernel
theorem dX8_criesAsTold_80 : decode cX8_criesAsTold 80 = .ok (.ireturn, 1) := by decide +kernel
theorem dX8_criesAsTold_81 : decode cX8_criesAsTold 81 = .ok (.iinc 4 1, 3) := by decide +kernel
theorem dX8_criesAsTold_84 : decode cX8_criesAsTold 84 = .ok (.goto (-43), 3) := by decide +kernel
theorem dX8_criesAsTold_87 : decode cX8_criesAsTold 87 = .ok (.iinc 3 1, 3) := by decide +kernel
theorem dX8_criesAsTold_90 : decode cX8_criesAsTold 90 = .ok (.goto (-69), 3) := by decide +kernel
theorem dX8_criesAsTold_93 : decode cX8_criesAsTold 93 = .ok (.iconst 1, 1) := by decide +kernel
theorem dX8_criesAsTold_94 : decode cX8_criesAsTold 94 = .ok (.ireturn, 1) := by decide +kernel
theorem dX8_hold_0 : decode cX8_hold 0 = .ok (.iload_n 1, 1) := by decide +kernel
theorem dX8_hold_1 : decode cX8_hold 1 = .ok (.ifCond .lt 21, 3) := by decide +kernel
theorem dX8_hold_4 : decode cX8_hold 4 = .ok (.iload_n 1, 1) := by decide +kernel
theorem dX8_hold_5 : decode cX8_hold 5 = .ok (.aload_n 0, 1) := by decide +kernel
theorem dX8_hold_6 : decode cX8_hold 6 = .ok (.getfield 58, 3) := by decide +kernel
theorem dX8_hold_9 : decode cX8_hold 9 = .ok (.arraylength, 1) := by decide +kernel
theorem dX8_hold_10 : decode cX8_hold 10 = .ok (.if_icmp .ge 12, 3) := by decide +kernel
theorem dX8_hold_13 : decode cX8_hold 13 = .ok (.aload_n 0, 1) := by decide +kernel
theorem dX8_hold_14 : decode cX8_hold 14 = .ok (.getfield 58, 3) := by decide +kernel
theorem dX8_hold_17 : decode cX8_hold 17 = .ok (.iload_n 1, 1) := by decide +kernel
theorem dX8_hold_18 : decode cX8_hold 18 = .ok (.aaload, 1) := by decide +kernel
theorem dX8_hold_19 : decode cX8_hold 19 = .ok (.ifnonnull 5, 3) := by decide +kernel
theorem dX8_hold_22 : decode cX8_hold 22 = .ok (.iconst 0, 1) := by decide +kernel
theorem dX8_hold_23 : decode cX8_hold 23 = .ok (.ireturn, 1) := by decide +kernel
theorem dX8_hold_24 : decode cX8_hold 24 = .ok (.aload_n 0, 1) := by decide +kernel
theorem dX8_hold_25 : decode cX8_hold 25 = .ok (.getfield 58, 3) := by decide +kernel
theorem dX8_hold_28 : decode cX8_hold 28 = .ok (.iload_n 1, 1) := by decide +kernel
theorem dX8_hold_29 : decode cX8_hold 29 = .ok (.aaload, 1) := by decide +kernel
theorem dX8_hold_30 : decode cX8_hold 30 = .ok (.aload_n 0, 1) := by decide +kernel
theorem dX8_hold_31 : decode cX8_hold 31 = .ok (.getfield 44, 3) := by decide +kernel
theorem dX8_hold_34 : decode cX8_hold 34 = .ok (.invokevirtual 219, 3) := by decide +kernel
theorem dX8_hold_37 : decode cX8_hold 37 = .ok (.aload_n 0, 1) := by decide +kernel
theorem dX8_hold_38 : decode cX8_hold 38 = .ok (.getfield 62, 3) := by decide +kernel
theorem dX8_hold_41 : decode cX8_hold 41 = .ok (.iload_n 1, 1) := by decide +kernel
theorem dX8_hold_42 : decode cX8_hold 42 = .ok (.iconst 1, 1) := by decide +kernel
theorem dX8_hold_43 : decode cX8_hold 43 = .ok (.invokestatic 118, 3) := by decide +kernel
theorem dX8_hold_46 : decode cX8_hold 46 = .ok (.iconst 1, 1) := by decide +kernel
theorem dX8_hold_47 : decode cX8_hold 47 = .ok (.ireturn, 1) := by decide +kernel
theorem dX8_restore_0 : decode cX8_restore 0 = .ok (.iload_n 1, 1) := by decide +kernel
theorem dX8_restore_1 : decode cX8_restore 1 = .ok (.ifCond .lt 23, 3) := by decide +kernel
theorem dX8_restore_4 : decode cX8_restore 4 = .ok (.iload_n 1, 1) := by decide +kernel
theorem dX8_restore_5 : decode cX8_restore 5 = .ok (.aload_n 0, 1) := by decide +kernel
theorem dX8_restore_6 : decode cX8_restore 6 = .ok (.getfield 58, 3) := by decide +kernel
theorem dX8_restore_9 : decode cX8_restore 9 = .ok (.arraylength, 1) := by decide +kernel
theorem dX8_restore_10 : decode cX8_restore 10 = .ok (.if_icmp .ge 14, 3) := by decide +kernel
theorem dX8_restore_13 : decode cX8_restore 13 = .ok (.aload_n 0, 1) := by decide +kernel
theorem dX8_restore_14 : decode cX8_restore 14 = .ok (.getfield 62, 3) := by decide +kernel
theorem dX8_restore_17 : decode cX8_restore 17 = .ok (.iload_n 1, 1) := by decide +kernel
theorem dX8_restore_18 : decode cX8_restore 18 = .ok (.invokestatic 175, 3) := by decide +kernel
theorem dX8_restore_21 : decode cX8_restore 21 = .ok (.ifCond .ne 5, 3) := by decide +kernel
theorem dX8_restore_24 : decode cX8_restore 24 = .ok (.iconst 0, 1) := by decide +kernel
theorem dX8_restore_25 : decode cX8_restore 25 = .ok (.ireturn, 1) := by decide +kernel
theorem dX8_restore_26 : decode cX8_restore 26 = .ok (.aload_n 0, 1) := by decide +kernel
theorem dX8_restore_27 : decode cX8_restore 27 = .ok (.getfield 44, 3) := by decide +kernel
theorem dX8_restore_30 : decode cX8_restore 30 = .ok (.aload_n 0, 1) := by decide +kernel
theorem dX8_restore_31 : decode cX8_restore 31 = .ok (.getfield 58, 3) := by decide +kernel
theorem dX8_restore_34 : decode cX8_restore 34 = .ok (.iload_n 1, 1) := by decide +kernel
theorem dX8_restore_35 : decode cX8_restore 35 = .ok (.aaload, 1) := by decide +kernel
theorem dX8_restore_36 : decode cX8_restore 36 = .ok (.invokevirtual 219, 3) := by decide +kernel
theorem dX8_restore_39 : decode cX8_restore 39 = .ok (.aload_n 0, 1) := by decide +kernel
theorem dX8_restore_40 : decode cX8_restore 40 = .ok (.getfield 54, 3) := by decide +kernel
theorem dX8_restore_43 : decode cX8_restore 43 = .ok (.invokevirtual 113, 3) := by decide +kernel
theorem dX8_restore_46 : decode cX8_restore 46 = .ok (.iconst 1, 1) := by decide +kernel
theorem dX8_restore_47 : decode cX8_restore 47 = .ok (.ireturn, 1) := by decide +kernel
theorem dX8_count_0 : decode cX8_count 0 = .ok (.iload_n 1, 1) := by decide +kernel
theorem dX8_count_1 : decode cX8_count 1 = .ok (.tableswitch 202 0 13 #[71, 79, 87, 96, 105, 114, 122, 130, 138, 146, 151, 178, 186, 194], 71) := by decide +kernel
theorem dX8_count_72 : decode cX8_count 72 = .ok (.aload_n 0, 1) := by decide +kernel
theorem dX8_count_73 : decode cX8_count 73 = .ok (.getfield 19, 3) := by decide +kernel
theorem dX8_count_76 : decode cX8_count 76 = .ok (.getfield 161, 3) := by decide +kernel
theorem dX8_count_79 : decode cX8_count 79 = .ok (.ireturn, 1) := by decide +kernel
theorem dX8_count_80 : decode cX8_count 80 = .ok (.aload_n 0, 1) := by decide +kernel
theorem dX8_count_81 : decode cX8_count 81 = .ok (.getfield 44, 3) := by decide +kernel
theorem dX8_count_84 : decode cX8_count 84 = .ok (.getfield 199, 3) := by decide +kernel
theorem dX8_count_87 : decode cX8_count 87 = .ok (.ireturn, 1) := by decide +kernel
theorem dX8_count_88 : decode cX8_count 88 = .ok (.aload_n 0, 1) := by decide +kernel
theorem dX8_count_89 : decode cX8_count 89 = .ok (.getfield 44, 3) := by decide +kernel
theorem dX8_count_92 : decode cX8_count 92 = .ok (.iconst 1, 1) := by decide +kernel
theorem dX8_count_93 : decode cX8_count 93 = .ok (.invokevirtual 269, 3) := by decide +kernel
theorem dX8_count_96 : decode cX8_count 96 = .ok (.ireturn, 1) := by decide +kernel
theorem dX8_count_97 : decode cX8_count 97 = .ok (.aload_n 0, 1) := by decide +kernel
theorem dX8_count_98 : decode cX8_count 98 = .ok (.getfield 44, 3) := by decide +kernel
theorem dX8_count_101 : decode cX8_count 101 = .ok (.iconst 2, 1) := by decide +kernel
theorem dX8_count_102 : decode cX8_count 102 = .ok (.invokevirtual 269, 3) := by decide +kernel
theorem dX8_count_105 : decode cX8_count 105 = .ok (.ireturn, 1) := by decide +kernel
theorem dX8_count_106 : decode cX8_count 106 = .ok (.aload_n 0, 1) := by decide +kernel
theorem dX8_count_107 : decode cX8_count 107 = .ok (.getfield 44, 3) := by decide +kernel
theorem dX8_count_110 : decode cX8_count 110 = .ok (.iconst 4, 1) := by decide +kernel
theorem dX8_count_111 : decode cX8_count 111 = .ok (.invokevirtual 269, 3) := by decide +kernel
theorem dX8_count_114 : decode cX8_count 114 = .ok (.ireturn, 1) := by decide +kernel
theorem dX8_count_115 : decode cX8_count 115 = .ok (.aload_n 0, 1) := by decide +kernel
theorem dX8_count_116 : decode cX8_count 116 = .ok (.getfield 44, 3) := by decide +kernel
theorem dX8_count_119 : decode cX8_count 119 = .ok (.getfield 304, 3) := by decide +kernel
theorem dX8_count_122 : decode cX8_count 122 = .ok (.ireturn, 1) := by decide +kernel
theorem dX8_count_123 : decode cX8_count 123 = .ok (.aload_n 0, 1) := by decide +kernel
theorem dX8_count_124 : decode cX8_count 124 = .ok (.getfield 44, 3) := by decide +kernel
theorem dX8_count_127 : decode cX8_count 127 = .ok (.getfield 307, 3) := by decide +kernel
theorem dX8_count_130 : decode cX8_count 130 = .ok (.ireturn, 1) := by decide +kernel
theorem dX8_count_131 : decode cX8_count 131 = .ok (.aload_n 0, 1) := by decide +kernel
theorem dX8_count_132 : decode cX8_count 132 = .ok (.getfield 28, 3) := by decide +kernel
theorem dX8_count_135 : decode cX8_count 135 = .ok (.getfield 310, 3) := by decide +kernel
theorem dX8_count_138 : decode cX8_count 138 = .ok (.ireturn, 1) := by decide +kernel
theorem dX8_count_139 : decode cX8_count 139 = .ok (.aload_n 0, 1) := by decide +kernel
theorem dX8_count_140 : decode cX8_count 140 = .ok (.getfield 54, 3) := by decide +kernel
theorem dX8_count_143 : decode cX8_count 143 = .ok (.getfield 313, 3) := by decide +kernel
theorem dX8_count_146 : decode cX8_count 146 = .ok (.ireturn, 1) := by decide +kernel
theorem dX8_count_147 : decode cX8_count 147 = .ok (.aload_n 0, 1) := by decide +kernel
theorem dX8_count_148 : decode cX8_count 148 = .ok (.getfield 114, 3) := by decide +kernel
theorem dX8_count_151 : decode cX8_count 151 = .ok (.ireturn, 1) := by decide +kernel
theorem dX8_count_152 : decode cX8_count 152 = .ok (.aload_n 0, 1) := by decide +kernel
theorem dX8_count_153 : decode cX8_count 153 = .ok (.getfield 62, 3) := by decide +kernel
theorem dX8_count_156 : decode cX8_count 156 = .ok (.iconst 0, 1) := by decide +kernel
theorem dX8_count_157 : decode cX8_count 157 = .ok (.invokestatic 175, 3) := by decide +kernel
theorem dX8_count_160 : decode cX8_count 160 = .ok (.aload_n 0, 1) := by decide +kernel
theorem dX8_count_161 : decode cX8_count 161 = .ok (.getfield 62, 3) := by decide +kernel
theorem dX8_count_164 : decode cX8_count 164 = .ok (.iconst 1, 1) := by decide +kernel
theorem dX8_count_165 : decode cX8_count 165 = .ok (.invokestatic 175, 3) := by decide +kernel
theorem dX8_count_168 : decode cX8_count 168 = .ok (.iadd, 1) := by decide +kernel
theorem dX8_count_169 : decode cX8_count 169 = .ok (.aload_n 0, 1) := by decide +kernel
theorem dX8_count_170 : decode cX8_count 170 = .ok (.getfield 62, 3) := by decide +kernel
theorem dX8_count_173 : decode cX8_count 173 = .ok (.iconst 2, 1) := by decide +kernel
theorem dX8_count_174 : decode cX8_count 174 = .ok (.invokestatic 175, 3) := by decide +kernel
theorem dX8_count_177 : decode cX8_count 177 = .ok (.iadd, 1) := by decide +kernel
theorem dX8_count_178 : decode cX8_count 178 = .ok (.ireturn, 1) := by decide +kernel
theorem dX8_count_179 : decode cX8_count 179 = .ok (.aload_n 0, 1) := by decide +kernel
theorem dX8_count_180 : decode cX8_count 180 = .ok (.getfield 19, 3) := by decide +kernel
theorem dX8_count_183 : decode cX8_count 183 = .ok (.getfield 316, 3) := by decide +kernel
theorem dX8_count_186 : decode cX8_count 186 = .ok (.ireturn, 1) := by decide +kernel
theorem dX8_count_187 : decode cX8_count 187 = .ok (.aload_n 0, 1) := by decide +kernel
theorem dX8_count_188 : decode cX8_count 188 = .ok (.getfield 19, 3) := by decide +kernel
theorem dX8_count_191 : decode cX8_count 191 = .ok (.getfield 319, 3) := by decide +kernel
theorem dX8_count_194 : decode cX8_count 194 = .ok (.ireturn, 1) := by decide +kernel
theorem dX8_count_195 : decode cX8_count 195 = .ok (.aload_n 0, 1) := by decide +kernel
theorem dX8_count_196 : decode cX8_count 196 = .ok (.getfield 44, 3) := by decide +kernel
theorem dX8_count_199 : decode cX8_count 199 = .ok (.getfield 322, 3) := by decide +kernel
theorem dX8_count_202 : decode cX8_count 202 = .ok (.ireturn, 1) := by decide +kernel
theorem dX8_count_203 : decode cX8_count 203 = .ok (.iconst (-1), 1) := by decide +kernel
theorem dX8_count_204 : decode cX8_count 204 = .ok (.ireturn, 1) := by decide +kernel
