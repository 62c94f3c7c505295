theorem dX4_init_0 : decode cX4_init 0 = .ok (.aload_n 0, 1) := by decide +kernel
theorem dX4_init_1 : decode cX4_init 1 = .ok (.invokespecial 3, 3) := by decide +kernel
theorem dX4_init_4 : decode cX4_init 4 = .ok (.aload_n 0, 1) := by decide +kernel
theorem dX4_init_5 : decode cX4_init 5 = .ok (.sipush 2000, 3) := by decide +kernel
theorem dX4_init_8 : decode cX4_init 8 = .ok (.newarray .char, 2) := by decide +kernel
theorem dX4_init_10 : decode cX4_init 10 = .ok (.putfield 11, 3) := by decide +kernel
theorem dX4_init_13 : decode cX4_init 13 = .ok (.aload_n 0, 1) := by decide +kernel
theorem dX4_init_14 : decode cX4_init 14 = .ok (.sipush 402, 3) := by decide +kernel
theorem dX4_init_17 : decode cX4_init 17 = .ok (.newarray .int, 2) := by decide +kernel
theorem dX4_init_19 : decode cX4_init 19 = .ok (.putfield 15, 3) := by decide +kernel
theorem dX4_init_22 : decode cX4_init 22 = .ok (.aload_n 0, 1) := by decide +kernel
theorem dX4_init_23 : decode cX4_init 23 = .ok (.sipush 402, 3) := by decide +kernel
theorem dX4_init_26 : decode cX4_init 26 = .ok (.newarray .long, 2) := by decide +kernel
theorem dX4_init_28 : decode cX4_init 28 = .ok (.putfield 19, 3) := by decide +kernel
theorem dX4_init_31 : decode cX4_init 31 = .ok (.aload_n 0, 1) := by decide +kernel
theorem dX4_init_32 : decode cX4_init 32 = .ok (.sipush 402, 3) := by decide +kernel
theorem dX4_init_35 : decode cX4_init 35 = .ok (.newarray .int, 2) := by decide +kernel
theorem dX4_init_37 : decode cX4_init 37 = .ok (.putfield 23, 3) := by decide +kernel
theorem dX4_init_40 : decode cX4_init 40 = .ok (.aload_n 0, 1) := by decide +kernel
theorem dX4_init_41 : decode cX4_init 41 = .ok (.iconst 4, 1) := by decide +kernel
theorem dX4_init_42 : decode cX4_init 42 = .ok (.newarray .int, 2) := by decide +kernel
theorem dX4_init_44 : decode cX4_init 44 = .ok (.putfield 26, 3) := by decide +kernel
theorem dX4_init_47 : decode cX4_init 47 = .ok (.aload_n 0, 1) := by decide +kernel
theorem dX4_init_48 : decode cX4_init 48 = .ok (.bipush 40, 2) := by decide +kernel
theorem dX4_init_50 : decode cX4_init 50 = .ok (.newarray .int, 2) := by decide +kernel
theorem dX4_init_52 : decode cX4_init 52 = .ok (.putfield 29, 3) := by decide +kernel
theorem dX4_init_55 : decode cX4_init 55 = .ok (.aload_n 0, 1) := by decide +kernel
theorem dX4_init_56 : decode cX4_init 56 = .ok (.iconst (-1), 1) := by decide +kernel
theorem dX4_init_57 : decode cX4_init 57 = .ok (.putfield 32, 3) := by decide +kernel
theorem dX4_init_60 : decode cX4_init 60 = .ok (.aload_n 0, 1) := by decide +kernel
theorem dX4_init_61 : decode cX4_init 61 = .ok (.new 36, 3) := by decide +kernel
theorem dX4_init_64 : decode cX4_init 64 = .ok (.dup, 1) := by decide +kernel
theorem dX4_init_65 : decode cX4_init 65 = .ok (.invokespecial 38, 3) := by decide +kernel
theorem dX4_init_68 : decode cX4_init 68 = .ok (.putfield 39, 3) := by decide +kernel
theorem dX4_init_71 : decode cX4_init 71 = .ok (.return_, 1) := by decide +kernel
theorem dX4_addBytes_0 : decode cX4_addBytes 0 = .ok (.aload_n 0, 1) := by decide +kernel
theorem dX4_addBytes_1 : decode cX4_addBytes 1 = .ok (.getfield 43, 3) := by decide +kernel
theorem dX4_addBytes_4 : decode cX4_addBytes 4 = .ok (.bipush 20, 2) := by decide +kernel
theorem dX4_addBytes_6 : decode cX4_addBytes 6 = .ok (.iadd, 1) := by decide +kernel
theorem dX4_addBytes_7 : decode cX4_addBytes 7 = .ok (.sipush 2000, 3) := by decide +kernel
theorem dX4_addBytes_10 : decode cX4_addBytes 10 = .ok (.if_icmp .le 5, 3) := by decide +kernel
theorem dX4_addBytes_13 : decode cX4_addBytes 13 = .ok (.iconst (-1), 1) := by decide +kernel
theorem dX4_addBytes_14 : decode cX4_addBytes 14 = .ok (.ireturn, 1) := by decide +kernel
theorem dX4_addBytes_15 : decode cX4_addBytes 15 = .ok (.aload_n 0, 1) := by decide +kernel
theorem dX4_addBytes_16 : decode cX4_addBytes 16 = .ok (.iload_n 1, 1) := by decide +kernel
theorem dX4_addBytes_17 : decode cX4_addBytes 17 = .ok (.invokevirtual 46, 3) := by decide +kernel
theorem dX4_addBytes_20 : decode cX4_addBytes 20 = .ok (.aload_n 0, 1) := by decide +kernel
theorem dX4_addBytes_21 : decode cX4_addBytes 21 = .ok (.iload_n 2, 1) := by decide +kernel
theorem dX4_addBytes_22 : decode cX4_addBytes 22 = .ok (.invokevirtual 46, 3) := by decide +kernel
theorem dX4_addBytes_25 : decode cX4_addBytes 25 = .ok (.aload_n 0, 1) := by decide +kernel
theorem dX4_addBytes_26 : decode cX4_addBytes 26 = .ok (.iload_n 3, 1) := by decide +kernel
theorem dX4_addBytes_27 : decode cX4_addBytes 27 = .ok (.invokevirtual 46, 3) := by decide +kernel
theorem dX4_addBytes_30 : decode cX4_addBytes 30 = .ok (.aload_n 0, 1) := by decide +kernel
theorem dX4_addBytes_31 : decode cX4_addBytes 31 = .ok (.iload 4, 2) := by decide +kernel
theorem dX4_addBytes_33 : decode cX4_addBytes 33 = .ok (.invokevirtual 46, 3) := by decide +kernel
theorem dX4_addBytes_36 : decode cX4_addBytes 36 = .ok (.aload_n 0, 1) := by decide +kernel
theorem dX4_addBytes_37 : decode cX4_addBytes 37 = .ok (.iload 5, 2) := by decide +kernel
theorem dX4_addBytes_39 : decode cX4_addBytes 39 = .ok (.invokevirtual 46, 3) := by decide +kernel
theorem dX4_addBytes_42 : decode cX4_addBytes 42 = .ok (.aload_n 0, 1) := by decide +kernel
theorem dX4_addBytes_43 : decode cX4_addBytes 43 = .ok (.getfield 43, 3) := by decide +kernel
theorem dX4_addBytes_46 : decode cX4_addBytes 46 = .ok (.ireturn, 1) := by decide +kernel
theorem dX4_addFour_0 : decode cX4_addFour 0 = .ok (.bipush 24, 2) := by decide +kernel
theorem dX4_addFour_2 : decode cX4_addFour 2 = .ok (.istore_n 2, 1) := by decide +kernel
theorem dX4_addFour_3 : decode cX4_addFour 3 = .ok (.iload_n 2, 1) := by decide +kernel
theorem dX4_addFour_4 : decode cX4_addFour 4 = .ok (.ifCond .lt 55, 3) := by decide +kernel
theorem dX4_addFour_7 : decode cX4_addFour 7 = .ok (.aload_n 0, 1) := by decide +kernel
theorem dX4_addFour_8 : decode cX4_addFour 8 = .ok (.getfield 43, 3) := by decide +kernel
theorem dX4_addFour_11 : decode cX4_addFour 11 = .ok (.ifCond .lt 42, 3) := by decide +kernel
theorem dX4_addFour_14 : decode cX4_addFour 14 = .ok (.aload_n 0, 1) := by decide +kernel
theorem dX4_addFour_15 : decode cX4_addFour 15 = .ok (.getfield 43, 3) := by decide +kernel
theorem dX4_addFour_18 : decode cX4_addFour 18 = .ok (.aload_n 0, 1) := by decide +kernel
theorem dX4_addFour_19 : decode cX4_addFour 19 = .ok (.getfield 11, 3) := by decide +kernel
theorem dX4_addFour_22 : decode cX4_addFour 22 = .ok (.arraylength, 1) := by decide +kernel
theorem dX4_addFour_23 : decode cX4_addFour 23 = .ok (.if_icmp .ge 30, 3) := by decide +kernel
theorem dX4_addFour_26 : decode cX4_addFour 26 = .ok (.aload_n 0, 1) := by decide +kernel
theorem dX4_addFour_27 : decode cX4_addFour 27 = .ok (.getfield 11, 3) := by decide +kernel
theorem dX4_addFour_30 : decode cX4_addFour 30 = .ok (.aload_n 0, 1) := by decide +kernel
theorem dX4_addFour_31 : decode cX4_addFour 31 = .ok (.getfield 43, 3) := by decide +kernel
theorem dX4_addFour_34 : decode cX4_addFour 34 = .ok (.iload_n 1, 1) := by decide +kernel
theorem dX4_addFour_35 : decode cX4_addFour 35 = .ok (.iload_n 2, 1) := by decide +kernel
theorem dX4_addFour_36 : decode cX4_addFour 36 = .ok (.iushr, 1) := by decide +kernel
theorem dX4_addFour_37 : decode cX4_addFour 37 = .ok (.sipush 255, 3) := by decide +kernel
theorem dX4_addFour_40 : decode cX4_addFour 40 = .ok (.iand, 1) := by decide +kernel
theorem dX4_addFour_41 : decode cX4_addFour 41 = .ok (.i2c, 1) := by decide +kernel
theorem dX4_addFour_42 : decode cX4_addFour 42 = .ok (.castore, 1) := by decide +kernel
theorem dX4_addFour_43 : decode cX4_addFour 43 = .ok (.aload_n 0, 1) := by decide +kernel
theorem dX4_addFour_44 : decode cX4_addFour 44 = .ok (.dup, 1) := by decide +kernel
theorem dX4_addFour_45 : decode cX4_addFour 45 = .ok (.getfield 43, 3) := by decide +kernel
theorem dX4_addFour_48 : decode cX4_addFour 48 = .ok (.iconst 1, 1) := by decide +kernel
theorem dX4_addFour_49 : decode cX4_addFour 49 = .ok (.iadd, 1) := by decide +kernel
theorem dX4_addFour_50 : decode cX4_addFour 50 = .ok (.putfield 43, 3) := by decide +kernel
theorem dX4_addFour_53 : decode cX4_addFour 53 = .ok (.iinc 2 (-8), 3) := by decide +kernel
theorem dX4_addFour_56 : decode cX4_addFour 56 = .ok (.goto (-53), 3) := by decide +kernel
theorem dX4_addFour_59 : decode cX4_addFour 59 = .ok (.return_, 1) := by decide +kernel
theorem dX4_dropBytes_0 : decode cX4_dropBytes 0 = .ok (.iload_n 1, 1) := by decide +kernel
theorem dX4_dropBytes_1 : decode cX4_dropBytes 1 = .ok (.ifCond .lt 11, 3) := by decide +kernel
theorem dX4_dropBytes_4 : decode cX4_dropBytes 4 = .ok (.iload_n 1, 1) := by decide +kernel
theorem dX4_dropBytes_5 : decode cX4_dropBytes 5 = .ok (.aload_n 0, 1) := by decide +kernel
theorem dX4_dropBytes_6 : decode cX4_dropBytes 6 = .ok (.getfield 43, 3) := by decide +kernel
theorem dX4_dropBytes_9 : decode cX4_dropBytes 9 = .ok (.if_icmp .le 5, 3) := by decide +kernel
theorem dX4_dropBytes_12 : decode cX4_dropBytes 12 = .ok (.iconst (-1), 1) := by decide +kernel
theorem dX4_dropBytes_13 : decode cX4_dropBytes 13 = .ok (.ireturn, 1) := by decide +kernel
theorem dX4_dropBytes_14 : decode cX4_dropBytes 14 = .ok (.aload_n 0, 1) := by decide +kernel
theorem dX4_dropBytes_15 : decode cX4_dropBytes 15 = .ok (.dup, 1) := by decide +kernel
theorem dX4_dropBytes_16 : decode cX4_dropBytes 16 = .ok (.getfield 43, 3) := by decide +kernel
theorem dX4_dropBytes_19 : decode cX4_dropBytes 19 = .ok (.iload_n 1, 1) := by decide +kernel
theorem dX4_dropBytes_20 : decode cX4_dropBytes 20 = .ok (.isub, 1) := by decide +kernel
theorem dX4_dropBytes_21 : decode cX4_dropBytes 21 = .ok (.putfield 43, 3) := by decide +kernel
theorem dX4_dropBytes_24 : decode cX4_dropBytes 24 = .ok (.aload_n 0, 1) := by decide +kernel
theorem dX4_dropBytes_25 : decode cX4_dropBytes 25 = .ok (.getfield 43, 3) := by decide +kernel
theorem dX4_dropBytes_28 : decode cX4_dropBytes 28 = .ok (.ireturn, 1) := by decide +kernel
theorem dX4_byteAt_0 : decode cX4_byteAt 0 = .ok (.iload_n 1, 1) := by decide +kernel
theorem dX4_byteAt_1 : decode cX4_byteAt 1 = .ok (.ifCond .lt 21, 3) := by decide +kernel
theorem dX4_byteAt_4 : decode cX4_byteAt 4 = .ok (.iload_n 1, 1) := by decide +kernel
theorem dX4_byteAt_5 : decode cX4_byteAt 5 = .ok (.aload_n 0, 1) := by decide +kernel
theorem dX4_byteAt_6 : decode cX4_byteAt 6 = .ok (.getfield 11, 3) := by decide +kernel
theorem dX4_byteAt_9 : decode cX4_byteAt 9 = .ok (.arraylength, 1) := by decide +kernel
theorem dX4_byteAt_10 : decode cX4_byteAt 10 = .ok (.if_icmp .ge 12, 3) := by decide +kernel
theorem dX4_byteAt_13 : decode cX4_byteAt 13 = .ok (.aload_n 0, 1) := by decide +kernel
theorem dX4_byteAt_14 : decode cX4_byteAt 14 = .ok (.getfield 11, 3) := by decide +kernel
theorem dX4_byteAt_17 : decode cX4_byteAt 17 = .ok (.iload_n 1, 1) := by decide +kernel
theorem dX4_byteAt_18 : decode cX4_byteAt 18 = .ok (.caload, 1) := by decide +kernel
theorem dX4_byteAt_19 : decode cX4_byteAt 19 = .ok (.goto 4, 3) := by decide +kernel
theorem dX4_byteAt_22 : decode cX4_byteAt 22 = .ok (.iconst 0, 1) := by decide +kernel
theorem dX4_byteAt_23 : decode cX4_byteAt 23 = .ok (.ireturn, 1) := by decide +kernel
theorem dX4_readTape_0 : decode cX4_readTape 0 = .ok (.aload_n 0, 1) := by decide +kernel
theorem dX4_readTape_1 : decode cX4_readTape 1 = .ok (.iconst 0, 1) := by decide +kernel
theorem dX4_readTape_2 : decode cX4_readTape 2 = .ok (.putfield 50, 3) := by decide +kernel
theorem dX4_readTape_5 : decode cX4_readTape 5 = .ok (.aload_n 0, 1) := by decide +kernel
theorem dX4_readTape_6 : decode cX4_readTape 6 = .ok (.iconst (-1), 1) := by decide +kernel
theorem dX4_readTape_7 : decode cX4_readTape 7 = .ok (.putfield 32, 3) := by decide +kernel
theorem dX4_readTape_10 : decode cX4_readTape 10 = .ok (.aload_n 0, 1) := by decide +kernel
theorem dX4_readTape_11 : decode cX4_readTape 11 = .ok (.getfield 39, 3) := by decide +kernel
theorem dX4_readTape_14 : decode cX4_readTape 14 = .ok (.invokevirtual 53, 3) := by decide +kernel
theorem dX4_readTape_17 : decode cX4_readTape 17 = .ok (.aload_n 0, 1) := by decide +kernel
theorem dX4_readTape_18 : decode cX4_readTape 18 = .ok (.invokevirtual 56, 3) := by decide +kernel
theorem dX4_readTape_21 : decode cX4_readTape 21 = .ok (.aload_n 0, 1) := by decide +kernel
theorem dX4_readTape_22 : decode cX4_readTape 22 = .ok (.iconst 0, 1) := by decide +kernel
theorem dX4_readTape_23 : decode cX4_readTape 23 = .ok (.putfield 59, 3) := by decide +kernel
theorem dX4_readTape_26 : decode cX4_readTape 26 = .ok (.iconst 1, 1) := by decide +kernel
theorem dX4_readTape_27 : decode cX4_readTape 27 = .ok (.istore_n 1, 1) := by decide +kernel
theorem dX4_readTape_28 : decode cX4_readTape 28 = .ok (.iconst 0, 1) := by decide +kernel
theorem dX4_readTape_29 : decode cX4_readTape 29 = .ok (.istore_n 2, 1) := by decide +kernel
theorem dX4_readTape_30 : decode cX4_readTape 30 = .ok (.iload_n 2, 1) := by decide +kernel
theorem dX4_readTape_31 : decode cX4_readTape 31 = .ok (.sipush 400, 3) := by decide +kernel
theorem dX4_readTape_34 : decode cX4_readTape 34 = .ok (.if_icmp .gt 27, 3) := by decide +kernel
theorem dX4_readTape_37 : decode cX4_readTape 37 = .ok (.iload_n 1, 1) := by decide +kernel
theorem dX4_readTape_38 : decode cX4_readTape 38 = .ok (.ifCond .eq 23, 3) := by decide +kernel
theorem dX4_readTape_41 : decode cX4_readTape 41 = .ok (.aload_n 0, 1) := by decide +kernel
theorem dX4_readTape_42 : decode cX4_readTape 42 = .ok (.invokevirtual 62, 3) := by decide +kernel
theorem dX4_readTape_45 : decode cX4_readTape 45 = .ok (.bipush 32, 2) := by decide +kernel
theorem dX4_readTape_47 : decode cX4_readTape 47 = .ok (.if_icmp .eq 14, 3) := by decide +kernel
theorem dX4_readTape_50 : decode cX4_readTape 50 = .ok (.aload_n 0, 1) := by decide +kernel
theorem dX4_readTape_51 : decode cX4_readTape 51 = .ok (.invokevirtual 66, 3) := by decide +kernel
theorem dX4_readTape_54 : decode cX4_readTape 54 = .ok (.istore_n 1, 1) := by decide +kernel
theorem dX4_readTape_55 : decode cX4_readTape 55 = .ok (.iinc 2 1, 3) := by decide +kernel
theorem dX4_readTape_58 : decode cX4_readTape 58 = .ok (.goto (-28), 3) := by decide +kernel
theorem dX4_readTape_61 : decode cX4_readTape 61 = .ok (.aload_n 0, 1) := by decide +kernel
theorem dX4_readTape_62 : decode cX4_readTape 62 = .ok (.iconst 0, 1) := by decide +kernel
theorem dX4_readTape_63 : decode cX4_readTape 63 = .ok (.putfield 43, 3) := by decide +kernel
theorem dX4_readTape_66 : decode cX4_readTape 66 = .ok (.aload_n 0, 1) := by decide +kernel
theorem dX4_readTape_67 : decode cX4_readTape 67 = .ok (.getfield 50, 3) := by decide +kernel
theorem dX4_readTape_70 : decode cX4_readTape 70 = .ok (.ireturn, 1) := by decide +kernel
theorem dX4_scan_0 : decode cX4_scan 0 = .ok (.aload_n 0, 1) := by decide +kernel
theorem dX4_scan_1 : decode cX4_scan 1 = .ok (.iconst 0, 1) := by decide +kernel
theorem dX4_scan_2 : decode cX4_scan 2 = .ok (.putfield 70, 3) := by decide +kernel
theorem dX4_scan_5 : decode cX4_scan 5 = .ok (.iconst 0, 1) := by decide +kernel
theorem dX4_scan_6 : decode cX4_scan 6 = .ok (.istore_n 1, 1) := by decide +kernel
theorem dX4_scan_7 : decode cX4_scan 7 = .ok (.iconst 0, 1) := by decide +kernel
theorem dX4_scan_8 : decode cX4_scan 8 = .ok (.istore_n 2, 1) := by decide +kernel
theorem dX4_scan_9 : decode cX4_scan 9 = .ok (.iload_n 2, 1) := by decide +kernel
theorem dX4_scan_10 : decode cX4_scan 10 = .ok (.aload_n 0, 1) := by decide +kernel
theorem dX4_scan_11 : decode cX4_scan 11 = .ok (.getfield 43, 3) := by decide +kernel
theorem dX4_scan_14 : decode cX4_scan 14 = .ok (.if_icmp .ge 49, 3) := by decide +kernel
theorem dX4_scan_17 : decode cX4_scan 17 = .ok (.aload_n 0, 1) := by decide +kernel
theorem dX4_scan_18 : decode cX4_scan 18 = .ok (.getfield 70, 3) := by decide +kernel
theorem dX4_scan_21 : decode cX4_scan 21 = .ok (.sipush 400, 3) := by decide +kernel
theorem dX4_scan_24 : decode cX4_scan 24 = .ok (.if_icmp .gt 39, 3) := by decide +kernel
theorem dX4_scan_27 : decode cX4_scan 27 = .ok (.aload_n 0, 1) := by decide +kernel
theorem dX4_scan_28 : decode cX4_scan 28 = .ok (.iload_n 2, 1) := by decide +kernel
theorem dX4_scan_29 : decode cX4_scan 29 = .ok (.invokevirtual 73, 3) := by decide +kernel
theorem dX4_scan_32 : decode cX4_scan 32 = .ok (.istore_n 3, 1) := by decide +kernel
theorem dX4_scan_33 : decode cX4_scan 33 = .ok (.iload_n 2, 1) := by decide +kernel
theorem dX4_scan_34 : decode cX4_scan 34 = .ok (.iload_n 1, 1) := by decide +kernel
theorem dX4_scan_35 : decode cX4_scan 35 = .ok (.if_icmp .lt 22, 3) := by decide +kernel
theorem dX4_scan_38 : decode cX4_scan 38 = .ok (.iload_n 3, 1) := by decide +kernel
theorem dX4_scan_39 : decode cX4_scan 39 = .ok (.invokestatic 77, 3) := by decide +kernel
theorem dX4_scan_42 : decode cX4_scan 42 = .ok (.ifCond .ne 15, 3) := by decide +kernel
theorem dX4_scan_45 : decode cX4_scan 45 = .ok (.aload_n 0, 1) := by decide +kernel
theorem dX4_scan_46 : decode cX4_scan 46 = .ok (.iload_n 2, 1) := by decide +kernel
theorem dX4_scan_47 : decode cX4_scan 47 = .ok (.invokevirtual 81, 3) := by decide +kernel
theorem dX4_scan_50 : decode cX4_scan 50 = .ok (.istore_n 1, 1) := by decide +kernel
theorem dX4_scan_51 : decode cX4_scan 51 = .ok (.aload_n 0, 1) := by decide +kernel
theorem dX4_scan_52 : decode cX4_scan 52 = .ok (.iload_n 2, 1) := by decide +kernel
theorem dX4_scan_53 : decode cX4_scan 53 = .ok (.iload_n 1, 1) := by decide +kernel
theorem dX4_scan_54 : decode cX4_scan 54 = .ok (.invokevirtual 85, 3) := by decide +kernel
theorem dX4_scan_57 : decode cX4_scan 57 = .ok (.iinc 2 1, 3) := by decide +kernel
theorem dX4_scan_60 : decode cX4_scan 60 = .ok (.goto (-51), 3) := by decide +kernel
theorem dX4_scan_63 : decode cX4_scan 63 = .ok (.aload_n 0, 1) := by decide +kernel
theorem dX4_scan_64 : decode cX4_scan 64 = .ok (.bipush 32, 2) := by decide +kernel
theorem dX4_scan_66 : decode cX4_scan 66 = .ok (.lconst 0, 1) := by decide +kernel
theorem dX4_scan_67 : decode cX4_scan 67 = .ok (.aload_n 0, 1) := by decide +kernel
theorem dX4_scan_68 : decode cX4_scan 68 = .ok (.getfield 43, 3) := by decide +kernel
theorem dX4_scan_71 : decode cX4_scan 71 = .ok (.invokevirtual 89, 3) := by decide +kernel
theorem dX4_scan_74 : decode cX4_scan 74 = .ok (.return_, 1) := by decide +kernel
theorem dX4_isBlank_0 : decode cX4_isBlank 0 = .ok (.iload_n 0, 1) := by decide +kernel
theorem dX4_isBlank_1 : decode cX4_isBlank 1 = .ok (.bipush 9, 2) := by decide +kernel
theorem dX4_isBlank_3 : decode cX4_isBlank 3 = .ok (.if_icmp .eq 21, 3) := by decide +kernel
theorem dX4_isBlank_6 : decode cX4_isBlank 6 = .ok (.iload_n 0, 1) := by decide +kernel
theorem dX4_isBlank_7 : decode cX4_isBlank 7 = .ok (.bipush 10, 2) := by decide +kernel
theorem dX4_isBlank_9 : decode cX4_isBlank 9 = .ok (.if_icmp .eq 15, 3) := by decide +kernel
theorem dX4_isBlank_12 : decode cX4_isBlank 12 = .ok (.iload_n 0, 1) := by decide +kernel
theorem dX4_isBlank_13 : decode cX4_isBlank 13 = .ok (.bipush 13, 2) := by decide +kernel
theorem dX4_isBlank_15 : decode cX4_isBlank 15 = .ok (.if_icmp .eq 9, 3) := by decide +kernel
theorem dX4_isBlank_18 : decode cX4_isBlank 18 = .ok (.iload_n 0, 1) := by decide +kernel
theorem dX4_isBlank_19 : decode cX4_isBlank 19 = .ok (.bipush 32, 2) := by decide +kernel
theorem dX4_isBlank_21 : decode cX4_isBlank 21 = .ok (.if_icmp .ne 7, 3) := by decide +kernel
theorem dX4_isBlank_24 : decode cX4_isBlank 24 = .ok (.iconst 1, 1) := by decide +kernel
theorem dX4_isBlank_25 : decode cX4_isBlank 25 = .ok (.goto 4, 3) := by decide +kernel
theorem dX4_isBlank_28 : decode cX4_isBlank 28 = .ok (.iconst 0, 1) := by decide +kernel
theorem dX4_isBlank_29 : decode cX4_isBlank 29 = .ok (.ireturn, 1) := by decide +kernel
theorem dX4_isLetter_0 : decode cX4_isLetter 0 = .ok (.iload_n 0, 1) := by decide +kernel
theorem dX4_isLetter_1 : decode cX4_isLetter 1 = .ok (.bipush 97, 2) := by decide +kernel
theorem dX4_isLetter_3 : decode cX4_isLetter 3 = .ok (.if_icmp .lt 13, 3) := by decide +kernel
theorem dX4_isLetter_6 : decode cX4_isLetter 6 = .ok (.iload_n 0, 1) := by decide +kernel
theorem dX4_isLetter_7 : decode cX4_isLetter 7 = .ok (.bipush 122, 2) := by decide +kernel
theorem dX4_isLetter_9 : decode cX4_isLetter 9 = .ok (.if_icmp .gt 7, 3) := by decide +kernel
theorem dX4_isLetter_12 : decode cX4_isLetter 12 = .ok (.iconst 1, 1) := by decide +kernel
theorem dX4_isLetter_13 : decode cX4_isLetter 13 = .ok (.goto 4, 3) := by decide +kernel
theorem dX4_isLetter_16 : decode cX4_isLetter 16 = .ok (.iconst 0, 1) := by decide +kernel
theorem dX4_isLetter_17 : decode cX4_isLetter 17 = .ok (.ireturn, 1) := by decide +kernel
theorem dX4_isDigit_0 : decode cX4_isDigit 0 = .ok (.iload_n 0, 1) := by decide +kernel
theorem dX4_isDigit_1 : decode cX4_isDigit 1 = .ok (.bipush 48, 2) := by decide +kernel
theorem dX4_isDigit_3 : decode cX4_isDigit 3 = .ok (.if_icmp .lt 13, 3) := by decide +kernel
theorem dX4_isDigit_6 : decode cX4_isDigit 6 = .ok (.iload_n 0, 1) := by decide +kernel
theorem dX4_isDigit_7 : decode cX4_isDigit 7 = .ok (.bipush 57, 2) := by decide +kernel
theorem dX4_isDigit_9 : decode cX4_isDigit 9 = .ok (.if_icmp .gt 7, 3) := by decide +kernel
theorem dX4_isDigit_12 : decode cX4_isDigit 12 = .ok (.iconst 1, 1) := by decide +kernel
theorem dX4_isDigit_13 : decode cX4_isDigit 13 = .ok (.goto 4, 3) := by decide +kernel
theorem dX4_isDigit_16 : decode cX4_isDigit 16 = .ok (.iconst 0, 1) := by decide +kernel
theorem dX4_isDigit_17 : decode cX4_isDigit 17 = .ok (.ireturn, 1) := by decide +kernel
theorem dX4_isSign_0 : decode cX4_isSign 0 = .ok (.iload_n 0, 1) := by decide +kernel
theorem dX4_isSign_1 : decode cX4_isSign 1 = .ok (.bipush 43, 2) := by decide +kernel
theorem dX4_isSign_3 : decode cX4_isSign 3 = .ok (.if_icmp .eq 21, 3) := by decide +kernel
theorem dX4_isSign_6 : decode cX4_isSign 6 = .ok (.iload_n 0, 1) := by decide +kernel
theorem dX4_isSign_7 : decode cX4_isSign 7 = .ok (.bipush 45, 2) := by decide +kernel
theorem dX4_isSign_9 : decode cX4_isSign 9 = .ok (.if_icmp .eq 15, 3) := by decide +kernel
theorem dX4_isSign_12 : decode cX4_isSign 12 = .ok (.iload_n 0, 1) := by decide +kernel
theorem dX4_isSign_13 : decode cX4_isSign 13 = .ok (.bipush 42, 2) := by decide +kernel
theorem dX4_isSign_15 : decode cX4_isSign 15 = .ok (.if_icmp .eq 9, 3) := by decide +kernel
theorem dX4_isSign_18 : decode cX4_isSign 18 = .ok (.iload_n 0, 1) := by decide +kernel
theorem dX4_isSign_19 : decode cX4_isSign 19 = .ok (.bipush 47, 2) := by decide +kernel
theorem dX4_isSign_21 : decode cX4_isSign 21 = .ok (.if_icmp .ne 7, 3) := by decide +kernel
theorem dX4_isSign_24 : decode cX4_isSign 24 = .ok (.iconst 1, 1) := by decide +kernel
theorem dX4_isSign_25 : decode cX4_isSign 25 = .ok (.goto 4, 3) := by decide +kernel
theorem dX4_isSign_28 : decode cX4_isSign 28 = .ok (.iconst 0, 1) := by decide +kernel
theorem dX4_isSign_29 : decode cX4_isSign 29 = .ok (.ireturn, 1) := by decide +kernel
theorem dX4_endOfRun_0 : decode cX4_endOfRun 0 = .ok (.aload_n 0, 1) := by decide +kernel
theorem dX4_endOfRun_1 : decode cX4_endOfRun 1 = .ok (.iload_n 1, 1) := by decide +kernel
theorem dX4_endOfRun_2 : decode cX4_endOfRun 2 = .ok (.invokevirtual 73, 3) := by decide +kernel
theorem dX4_endOfRun_5 : decode cX4_endOfRun 5 = .ok (.invokestatic 93, 3) := by decide +kernel
theorem dX4_endOfRun_8 : decode cX4_endOfRun 8 = .ok (.istore_n 2, 1) := by decide +kernel
theorem dX4_endOfRun_9 : decode cX4_endOfRun 9 = .ok (.aload_n 0, 1) := by decide +kernel
theorem dX4_endOfRun_10 : decode cX4_endOfRun 10 = .ok (.iload_n 1, 1) := by decide +kernel
theorem dX4_endOfRun_11 : decode cX4_endOfRun 11 = .ok (.invokevirtual 73, 3) := by decide +kernel
theorem dX4_endOfRun_14 : decode cX4_endOfRun 14 = .ok (.invokestatic 96, 3) := by decide +kernel
theorem dX4_endOfRun_17 : decode cX4_endOfRun 17 = .ok (.istore_n 3, 1) := by decide +kernel
theorem dX4_endOfRun_18 : decode cX4_endOfRun 18 = .ok (.iload_n 1, 1) := by decide +kernel
theorem dX4_endOfRun_19 : decode cX4_endOfRun 19 = .ok (.iconst 1, 1) := by decide +kernel
theorem dX4_endOfRun_20 : decode cX4_endOfRun 20 = .ok (.iadd, 1) := by decide +kernel
theorem dX4_endOfRun_21 : decode cX4_endOfRun 21 = .ok (.istore 4, 2) := by decide +kernel
theorem dX4_endOfRun_23 : decode cX4_endOfRun 23 = .ok (.iload 4, 2) := by decide +kernel
theorem dX4_endOfRun_25 : decode cX4_endOfRun 25 = .ok (.aload_n 0, 1) := by decide +kernel
theorem dX4_endOfRun_26 : decode cX4_endOfRun 26 = .ok (.getfield 43, 3) := by decide +kernel
theorem dX4_endOfRun_29 : decode cX4_endOfRun 29 = .ok (.if_icmp .ge 41, 3) := by decide +kernel
theorem dX4_endOfRun_32 : decode cX4_endOfRun 32 = .ok (.iload_n 2, 1) := by decide +kernel
theorem dX4_endOfRun_33 : decode cX4_endOfRun 33 = .ok (.ifCond .eq 15, 3) := by decide +kernel
theorem dX4_endOfRun_36 : decode cX4_endOfRun 36 = .ok (.aload_n 0, 1) := by decide +kernel
theorem dX4_endOfRun_37 : decode cX4_endOfRun 37 = .ok (.iload 4, 2) := by decide +kernel
theorem dX4_endOfRun_39 : decode cX4_endOfRun 39 = .ok (.invokevirtual 73, 3) := by decide +kernel
theorem dX4_endOfRun_42 : decode cX4_endOfRun 42 = .ok (.invokestatic 93, 3) := by decide +kernel
theorem dX4_endOfRun_45 : decode cX4_endOfRun 45 = .ok (.ifCond .ne 19, 3) := by decide +kernel
theorem dX4_endOfRun_48 : decode cX4_endOfRun 48 = .ok (.iload_n 3, 1) := by decide +kernel
theorem dX4_endOfRun_49 : decode cX4_endOfRun 49 = .ok (.ifCond .eq 21, 3) := by decide +kernel
theorem dX4_endOfRun_52 : decode cX4_endOfRun 52 = .ok (.aload_n 0, 1) := by decide +kernel
theorem dX4_endOfRun_53 : decode cX4_endOfRun 53 = .ok (.iload 4, 2) := by decide +kernel
theorem dX4_endOfRun_55 : decode cX4_endOfRun 55 = .ok (.invokevirtual 73, 3) := by decide +kernel
theorem dX4_endOfRun_58 : decode cX4_endOfRun 58 = .ok (.invokestatic 96, 3) := by decide +kernel
theorem dX4_endOfRun_61 : decode cX4_endOfRun 61 = .ok (.ifCond .eq 9, 3) := by decide +kernel
theorem dX4_endOfRun_64 : decode cX4_endOfRun 64 = .ok (.iinc 4 1, 3) := by decide +kernel
theorem dX4_endOfRun_67 : decode cX4_endOfRun 67 = .ok (.goto (-44), 3) := by decide +kernel
theorem dX4_endOfRun_70 : decode cX4_endOfRun 70 = .ok (.iload 4, 2) := by decide +kernel
theorem dX4_endOfRun_72 : decode cX4_endOfRun 72 = .ok (.ireturn, 1) := by decide +kernel
theorem dX4_addToken_0 : decode cX4_addToken 0 = .ok (.aload_n 0, 1) := by decide +kernel
theorem dX4_addToken_1 : decode cX4_addToken 1 = .ok (.iload_n 1, 1) := by decide +kernel
theorem dX4_addToken_2 : decode cX4_addToken 2 = .ok (.invokevirtual 73, 3) := by decide +kernel
theorem dX4_addToken_5 : decode cX4_addToken 5 = .ok (.istore_n 3, 1) := by decide +kernel
theorem dX4_addToken_6 : decode cX4_addToken 6 = .ok (.iload_n 3, 1) := by decide +kernel
theorem dX4_addToken_7 : decode cX4_addToken 7 = .ok (.invokestatic 93, 3) := by decide +kernel
theorem dX4_addToken_10 : decode cX4_addToken 10 = .ok (.ifCond .eq 12, 3) := by decide +kernel
theorem dX4_addToken_13 : decode cX4_addToken 13 = .ok (.aload_n 0, 1) := by decide +kernel
theorem dX4_addToken_14 : decode cX4_addToken 14 = .ok (.iload_n 1, 1) := by decide +kernel
theorem dX4_addToken_15 : decode cX4_addToken 15 = .ok (.iload_n 2, 1) := by decide +kernel
theorem dX4_addToken_16 : decode cX4_addToken 16 = .ok (.invokevirtual 99, 3) := by decide +kernel
theorem dX4_addToken_19 : decode cX4_addToken 19 = .ok (.goto 100, 3) := by decide +kernel
theorem dX4_addToken_22 : decode cX4_addToken 22 = .ok (.iload_n 3, 1) := by decide +kernel
theorem dX4_addToken_23 : decode cX4_addToken 23 = .ok (.invokestatic 96, 3) := by decide +kernel
theorem dX4_addToken_26 : decode cX4_addToken 26 = .ok (.ifCond .eq 32, 3) := by decide +kernel
theorem dX4_addToken_29 : decode cX4_addToken 29 = .ok (.aload_n 0, 1) := by decide +kernel
theorem dX4_addToken_30 : decode cX4_addToken 30 = .ok (.iload_n 2, 1) := by decide +kernel
theorem dX4_addToken_31 : decode cX4_addToken 31 = .ok (.iload_n 1, 1) := by decide +kernel
theorem dX4_addToken_32 : decode cX4_addToken 32 = .ok (.isub, 1) := by decide +kernel
theorem dX4_addToken_33 : decode cX4_addToken 33 = .ok (.iconst 4, 1) := by decide +kernel
theorem dX4_addToken_34 : decode cX4_addToken 34 = .ok (.if_icmp .gt 8, 3) := by decide +kernel
theorem dX4_addToken_37 : decode cX4_addToken 37 = .ok (.bipush 31, 2) := by decide +kernel
theorem dX4_addToken_39 : decode cX4_addToken 39 = .ok (.goto 5, 3) := by decide +kernel
theorem dX4_addToken_42 : decode cX4_addToken 42 = .ok (.bipush 33, 2) := by decide +kernel
theorem dX4_addToken_44 : decode cX4_addToken 44 = .ok (.aload_n 0, 1) := by decide +kernel
theorem dX4_addToken_45 : decode cX4_addToken 45 = .ok (.iload_n 1, 1) := by decide +kernel
theorem dX4_addToken_46 : decode cX4_addToken 46 = .ok (.iload_n 2, 1) := by decide +kernel
theorem dX4_addToken_47 : decode cX4_addToken 47 = .ok (.invokevirtual 102, 3) := by decide +kernel
theorem dX4_addToken_50 : decode cX4_addToken 50 = .ok (.i2l, 1) := by decide +kernel
theorem dX4_addToken_51 : decode cX4_addToken 51 = .ok (.iload_n 1, 1) := by decide +kernel
theorem dX4_addToken_52 : decode cX4_addToken 52 = .ok (.invokevirtual 89, 3) := by decide +kernel
theorem dX4_addToken_55 : decode cX4_addToken 55 = .ok (.goto 64, 3) := by decide +kernel
theorem dX4_addToken_58 : decode cX4_addToken 58 = .ok (.iload_n 3, 1) := by decide +kernel
theorem dX4_addToken_59 : decode cX4_addToken 59 = .ok (.invokestatic 106, 3) := by decide +kernel
theorem dX4_addToken_62 : decode cX4_addToken 62 = .ok (.ifCond .ne 33, 3) := by decide +kernel
theorem dX4_addToken_65 : decode cX4_addToken 65 = .ok (.iload_n 3, 1) := by decide +kernel
theorem dX4_addToken_66 : decode cX4_addToken 66 = .ok (.bipush 59, 2) := by decide +kernel
theorem dX4_addToken_68 : decode cX4_addToken 68 = .ok (.if_icmp .eq 27, 3) := by decide +kernel
theorem dX4_addToken_71 : decode cX4_addToken 71 = .ok (.iload_n 3, 1) := by decide +kernel
theorem dX4_addToken_72 : decode cX4_addToken 72 = .ok (.bipush 61, 2) := by decide +kernel
theorem dX4_addToken_74 : decode cX4_addToken 74 = .ok (.if_icmp .eq 21, 3) := by decide +kernel
theorem dX4_addToken_77 : decode cX4_addToken 77 = .ok (.iload_n 3, 1) := by decide +kernel
theorem dX4_addToken_78 : decode cX4_addToken 78 = .ok (.bipush 60, 2) := by decide +kernel
theorem dX4_addToken_80 : decode cX4_addToken 80 = .ok (.if_icmp .eq 15, 3) := by decide +kernel
theorem dX4_addToken_83 : decode cX4_addToken 83 = .ok (.iload_n 3, 1) := by decide +kernel
theorem dX4_addToken_84 : decode cX4_addToken 84 = .ok (.bipush 40, 2) := by decide +kernel
theorem dX4_addToken_86 : decode cX4_addToken 86 = .ok (.if_icmp .eq 9, 3) := by decide +kernel
theorem dX4_addToken_89 : decode cX4_addToken 89 = .ok (.iload_n 3, 1) := by decide +kernel
theorem dX4_addToken_90 : decode cX4_addToken 90 = .ok (.bipush 41, 2) := by decide +kernel
theorem dX4_addToken_92 : decode cX4_addToken 92 = .ok (.if_icmp .ne 7, 3) := by decide +kernel
theorem dX4_addToken_95 : decode cX4_addToken 95 = .ok (.iconst 1, 1) := by decide +kernel
theorem dX4_addToken_96 : decode cX4_addToken 96 = .ok (.goto 4, 3) := by decide +kernel
theorem dX4_addToken_99 : decode cX4_addToken 99 = .ok (.iconst 0, 1) := by decide +kernel
theorem dX4_addToken_100 : decode cX4_addToken 100 = .ok (.istore 4, 2) := by decide +kernel
theorem dX4_addToken_102 : decode cX4_addToken 102 = .ok (.aload_n 0, 1) := by decide +kernel
theorem dX4_addToken_103 : decode cX4_addToken 103 = .ok (.iload 4, 2) := by decide +kernel
theorem dX4_addToken_105 : decode cX4_addToken 105 = .ok (.ifCond .eq 7, 3) := by decide +kernel
theorem dX4_addToken_108 : decode cX4_addToken 108 = .ok (.iload_n 3, 1) := by decide +kernel
theorem dX4_addToken_109 : decode cX4_addToken 109 = .ok (.goto 5, 3) := by decide +kernel
theorem dX4_addToken_112 : decode cX4_addToken 112 = .ok (.bipush 33, 2) := by decide +kernel
theorem dX4_addToken_114 : decode cX4_addToken 114 = .ok (.lconst 0, 1) := by decide +kernel
theorem dX4_addToken_115 : decode cX4_addToken 115 = .ok (.iload_n 1, 1) := by decide +kernel
theorem dX4_addToken_116 : decode cX4_addToken 116 = .ok (.invokevirtual 89, 3) := by decide +kernel
theorem dX4_addToken_119 : decode cX4_addToken 119 = .ok (.return_, 1) := by decide +kernel
theorem dX4_addWord_0 : decode cX4_addWord 0 = .ok (.iload_n 2, 1) := by decide +kernel
theorem dX4_addWord_1 : decode cX4_addWord 1 = .ok (.iload_n 1, 1) := by decide +kernel
theorem dX4_addWord_2 : decode cX4_addWord 2 = .ok (.isub, 1) := by decide +kernel
theorem dX4_addWord_3 : decode cX4_addWord 3 = .ok (.bipush 8, 2) := by decide +kernel
theorem dX4_addWord_5 : decode cX4_addWord 5 = .ok (.if_icmp .le 12, 3) := by decide +kernel
theorem dX4_addWord_8 : decode cX4_addWord 8 = .ok (.aload_n 0, 1) := by decide +kernel
theorem dX4_addWord_9 : decode cX4_addWord 9 = .ok (.bipush 33, 2) := by decide +kernel
theorem dX4_addWord_11 : decode cX4_addWord 11 = .ok (.lconst 0, 1) := by decide +kernel
theorem dX4_addWord_12 : decode cX4_addWord 12 = .ok (.iload_n 1, 1) := by decide +kernel
theorem dX4_addWord_13 : decode cX4_addWord 13 = .ok (.invokevirtual 89, 3) := by decide +kernel
theorem dX4_addWord_16 : decode cX4_addWord 16 = .ok (.return_, 1) := by decide +kernel
theorem dX4_addWord_17 : decode cX4_addWord 17 = .ok (.aload_n 0, 1) := by decide +kernel
theorem dX4_addWord_18 : decode cX4_addWord 18 = .ok (.iload_n 1, 1) := by decide +kernel
theorem dX4_addWord_19 : decode cX4_addWord 19 = .ok (.iload_n 2, 1) := by decide +kernel
theorem dX4_addWord_20 : decode cX4_addWord 20 = .ok (.invokevirtual 110, 3) := by decide +kernel
theorem dX4_addWord_23 : decode cX4_addWord 23 = .ok (.istore_n 3, 1) := by decide +kernel
theorem dX4_addWord_24 : decode cX4_addWord 24 = .ok (.aload_n 0, 1) := by decide +kernel
theorem dX4_addWord_25 : decode cX4_addWord 25 = .ok (.iload_n 3, 1) := by decide +kernel
theorem dX4_addWord_26 : decode cX4_addWord 26 = .ok (.iconst (-1), 1) := by decide +kernel
theorem dX4_addWord_27 : decode cX4_addWord 27 = .ok (.if_icmp .ne 8, 3) := by decide +kernel
theorem dX4_addWord_30 : decode cX4_addWord 30 = .ok (.bipush 30, 2) := by decide +kernel
theorem dX4_addWord_32 : decode cX4_addWord 32 = .ok (.goto 4, 3) := by decide +kernel
theorem dX4_addWord_35 : decode cX4_addWord 35 = .ok (.iload_n 3, 1) := by decide +kernel
theorem dX4_addWord_36 : decode cX4_addWord 36 = .ok (.aload_n 0, 1) := by decide +kernel
theorem dX4_addWord_37 : decode cX4_addWord 37 = .ok (.iload_n 1, 1) := by decide +kernel
theorem dX4_addWord_38 : decode cX4_addWord 38 = .ok (.iload_n 2, 1) := by decide +kernel
theorem dX4_addWord_39 : decode cX4_addWord 39 = .ok (.invokevirtual 113, 3) := by decide +kernel
theorem dX4_addWord_42 : decode cX4_addWord 42 = .ok (.iload_n 1, 1) := by decide +kernel
theorem dX4_addWord_43 : decode cX4_addWord 43 = .ok (.invokevirtual 89, 3) := by decide +kernel
theorem dX4_addWord_46 : decode cX4_addWord 46 = .ok (.return_, 1) := by decide +kernel
theorem dX4_wordAt_0 : decode cX4_wordAt 0 = .ok (.iconst 0, 1) := by decide +kernel
theorem dX4_wordAt_1 : decode cX4_wordAt 1 = .ok (.istore_n 3, 1) := by decide +kernel
theorem dX4_wordAt_2 : decode cX4_wordAt 2 = .ok (.iload_n 3, 1) := by decide +kernel
theorem dX4_wordAt_3 : decode cX4_wordAt 3 = .ok (.bipush 24, 2) := by decide +kernel
theorem dX4_wordAt_5 : decode cX4_wordAt 5 = .ok (.if_icmp .gt 106, 3) := by decide +kernel
theorem dX4_wordAt_8 : decode cX4_wordAt 8 = .ok (.iconst 1, 1) := by decide +kernel
theorem dX4_wordAt_9 : decode cX4_wordAt 9 = .ok (.istore 4, 2) := by decide +kernel
theorem dX4_wordAt_11 : decode cX4_wordAt 11 = .ok (.iconst 0, 1) := by decide +kernel
theorem dX4_wordAt_12 : decode cX4_wordAt 12 = .ok (.istore 5, 2) := by decide +kernel
theorem dX4_wordAt_14 : decode cX4_wordAt 14 = .ok (.iload 5, 2) := by decide +kernel
theorem dX4_wordAt_16 : decode cX4_wordAt 16 = .ok (.bipush 8, 2) := by decide +kernel
theorem dX4_wordAt_18 : decode cX4_wordAt 18 = .ok (.if_icmp .ge 80, 3) := by decide +kernel
theorem dX4_wordAt_21 : decode cX4_wordAt 21 = .ok (.iload 4, 2) := by decide +kernel
theorem dX4_wordAt_23 : decode cX4_wordAt 23 = .ok (.ifCond .eq 75, 3) := by decide +kernel
theorem dX4_wordAt_26 : decode cX4_wordAt 26 = .ok (.iload_n 3, 1) := by decide +kernel
theorem dX4_wordAt_27 : decode cX4_wordAt 27 = .ok (.bipush 8, 2) := by decide +kernel
theorem dX4_wordAt_29 : decode cX4_wordAt 29 = .ok (.imul, 1) := by decide +kernel
theorem dX4_wordAt_30 : decode cX4_wordAt 30 = .ok (.iload 5, 2) := by decide +kernel
theorem dX4_wordAt_32 : decode cX4_wordAt 32 = .ok (.iadd, 1) := by decide +kernel
theorem dX4_wordAt_33 : decode cX4_wordAt 33 = .ok (.istore 6, 2) := by decide +kernel
theorem dX4_wordAt_35 : decode cX4_wordAt 35 = .ok (.iload_n 1, 1) := by decide +kernel
theorem dX4_wordAt_36 : decode cX4_wordAt 36 = .ok (.iload 5, 2) := by decide +kernel
theorem dX4_wordAt_38 : decode cX4_wordAt 38 = .ok (.iadd, 1) := by decide +kernel
theorem dX4_wordAt_39 : decode cX4_wordAt 39 = .ok (.iload_n 2, 1) := by decide +kernel
theorem dX4_wordAt_40 : decode cX4_wordAt 40 = .ok (.if_icmp .ge 14, 3) := by decide +kernel
theorem dX4_wordAt_43 : decode cX4_wordAt 43 = .ok (.aload_n 0, 1) := by decide +kernel
theorem dX4_wordAt_44 : decode cX4_wordAt 44 = .ok (.iload_n 1, 1) := by decide +kernel
theorem dX4_wordAt_45 : decode cX4_wordAt 45 = .ok (.iload 5, 2) := by decide +kernel
theorem dX4_wordAt_47 : decode cX4_wordAt 47 = .ok (.iadd, 1) := by decide +kernel
theorem dX4_wordAt_48 : decode cX4_wordAt 48 = .ok (.invokevirtual 73, 3) := by decide +kernel
theorem dX4_wordAt_51 : decode cX4_wordAt 51 = .ok (.goto 5, 3) := by decide +kernel
theorem dX4_wordAt_54 : decode cX4_wordAt 54 = .ok (.bipush 32, 2) := by decide +kernel
theorem dX4_wordAt_56 : decode cX4_wordAt 56 = .ok (.istore 7, 2) := by decide +kernel
theorem dX4_wordAt_58 : decode cX4_wordAt 58 = .ok (.iload 6, 2) := by decide +kernel
theorem dX4_wordAt_60 : decode cX4_wordAt 60 = .ok (.ifCond .lt 29, 3) := by decide +kernel
theorem dX4_wordAt_63 : decode cX4_wordAt 63 = .ok (.iload 6, 2) := by decide +kernel
theorem dX4_wordAt_65 : decode cX4_wordAt 65 = .ok (.ldc 117, 2) := by decide +kernel
theorem dX4_wordAt_67 : decode cX4_wordAt 67 = .ok (.invokevirtual 119, 3) := by decide +kernel
theorem dX4_wordAt_70 : decode cX4_wordAt 70 = .ok (.if_icmp .ge 19, 3) := by decide +kernel
theorem dX4_wordAt_73 : decode cX4_wordAt 73 = .ok (.ldc 117, 2) := by decide +kernel
theorem dX4_wordAt_75 : decode cX4_wordAt 75 = .ok (.iload 6, 2) := by decide +kernel
theorem dX4_wordAt_77 : decode cX4_wordAt 77 = .ok (.invokevirtual 123, 3) := by decide +kernel
theorem dX4_wordAt_80 : decode cX4_wordAt 80 = .ok (.iload 7, 2) := by decide +kernel
theorem dX4_wordAt_82 : decode cX4_wordAt 82 = .ok (.if_icmp .ne 7, 3) := by decide +kernel
theorem dX4_wordAt_85 : decode cX4_wordAt 85 = .ok (.iconst 1, 1) := by decide +kernel
theorem dX4_wordAt_86 : decode cX4_wordAt 86 = .ok (.goto 4, 3) := by decide +kernel
theorem dX4_wordAt_89 : decode cX4_wordAt 89 = .ok (.iconst 0, 1) := by decide +kernel
theorem dX4_wordAt_90 : decode cX4_wordAt 90 = .ok (.istore 4, 2) := by decide +kernel
theorem dX4_wordAt_92 : decode cX4_wordAt 92 = .ok (.iinc 5 1, 3) := by decide +kernel
theorem dX4_wordAt_95 : decode cX4_wordAt 95 = .ok (.goto (-81), 3) := by decide +kernel
theorem dX4_wordAt_98 : decode cX4_wordAt 98 = .ok (.iload 4, 2) := by decide +kernel
theorem dX4_wordAt_100 : decode cX4_wordAt 100 = .ok (.ifCond .eq 5, 3) := by decide +kernel
theorem dX4_wordAt_103 : decode cX4_wordAt 103 = .ok (.iload_n 3, 1) := by decide +kernel
theorem dX4_wordAt_104 : decode cX4_wordAt 104 = .ok (.ireturn, 1) := by decide +kernel
theorem dX4_wordAt_105 : decode cX4_wordAt 105 = .ok (.iinc 3 1, 3) := by decide +kernel
theorem dX4_wordAt_108 : decode cX4_wordAt 108 = .ok (.goto (-106), 3) := by decide +kernel
theorem dX4_wordAt_111 : decode cX4_wordAt 111 = .ok (.iconst (-1), 1) := by decide +kernel
theorem dX4_wordAt_112 : decode cX4_wordAt 112 = .ok (.ireturn, 1) := by decide +kernel
theorem dX4_nameAt_0 : decode cX4_nameAt 0 = .ok (.lconst 0, 1) := by decide +kernel
theorem dX4_nameAt_1 : decode cX4_nameAt 1 = .ok (.lstore_n 3, 1) := by decide +kernel
theorem dX4_nameAt_2 : decode cX4_nameAt 2 = .ok (.iload_n 1, 1) := by decide +kernel
theorem dX4_nameAt_3 : decode cX4_nameAt 3 = .ok (.istore 5, 2) := by decide +kernel
theorem dX4_nameAt_5 : decode cX4_nameAt 5 = .ok (.iload 5, 2) := by decide +kernel
theorem dX4_nameAt_7 : decode cX4_nameAt 7 = .ok (.iload_n 2, 1) := by decide +kernel
theorem dX4_nameAt_8 : decode cX4_nameAt 8 = .ok (.if_icmp .ge 28, 3) := by decide +kernel
theorem dX4_nameAt_11 : decode cX4_nameAt 11 = .ok (.lload_n 3, 1) := by decide +kernel
theorem dX4_nameAt_12 : decode cX4_nameAt 12 = .ok (.ldc2_w 126, 3) := by decide +kernel
theorem dX4_nameAt_15 : decode cX4_nameAt 15 = .ok (.lmul, 1) := by decide +kernel
theorem dX4_nameAt_16 : decode cX4_nameAt 16 = .ok (.aload_n 0, 1) := by decide +kernel
theorem dX4_nameAt_17 : decode cX4_nameAt 17 = .ok (.iload 5, 2) := by decide +kernel
theorem dX4_nameAt_19 : decode cX4_nameAt 19 = .ok (.invokevirtual 73, 3) := by decide +kernel
theorem dX4_nameAt_22 : decode cX4_nameAt 22 = .ok (.bipush 97, 2) := by decide +kernel
theorem dX4_nameAt_24 : decode cX4_nameAt 24 = .ok (.isub, 1) := by decide +kernel
theorem dX4_nameAt_25 : decode cX4_nameAt 25 = .ok (.iconst 1, 1) := by decide +kernel
theorem dX4_nameAt_26 : decode cX4_nameAt 26 = .ok (.iadd, 1) := by decide +kernel
theorem dX4_nameAt_27 : decode cX4_nameAt 27 = .ok (.i2l, 1) := by decide +kernel
theorem dX4_nameAt_28 : decode cX4_nameAt 28 = .ok (.ladd, 1) := by decide +kernel
theorem dX4_nameAt_29 : decode cX4_nameAt 29 = .ok (.lstore_n 3, 1) := by decide +kernel
theorem dX4_nameAt_30 : decode cX4_nameAt 30 = .ok (.iinc 5 1, 3) := by decide +kernel
theorem dX4_nameAt_33 : decode cX4_nameAt 33 = .ok (.goto (-28), 3) := by decide +kernel
theorem dX4_nameAt_36 : decode cX4_nameAt 36 = .ok (.lload_n 3, 1) := by decide +kernel
theorem dX4_nameAt_37 : decode cX4_nameAt 37 = .ok (.lreturn, 1) := by decide +kernel
theorem dX4_numberAt_0 : decode cX4_numberAt 0 = .ok (.iconst 0, 1) := by decide +kernel
theorem dX4_numberAt_1 : decode cX4_numberAt 1 = .ok (.istore_n 3, 1) := by decide +kernel
theorem dX4_numberAt_2 : decode cX4_numberAt 2 = .ok (.iload_n 1, 1) := by decide +kernel
theorem dX4_numberAt_3 : decode cX4_numberAt 3 = .ok (.istore 4, 2) := by decide +kernel
theorem dX4_numberAt_5 : decode cX4_numberAt 5 = .ok (.iload 4, 2) := by decide +kernel
theorem dX4_numberAt_7 : decode cX4_numberAt 7 = .ok (.iload_n 2, 1) := by decide +kernel
theorem dX4_numberAt_8 : decode cX4_numberAt 8 = .ok (.if_icmp .ge 24, 3) := by decide +kernel
theorem dX4_numberAt_11 : decode cX4_numberAt 11 = .ok (.iload_n 3, 1) := by decide +kernel
theorem dX4_numberAt_12 : decode cX4_numberAt 12 = .ok (.bipush 10, 2) := by decide +kernel
theorem dX4_numberAt_14 : decode cX4_numberAt 14 = .ok (.imul, 1) := by decide +kernel
theorem dX4_numberAt_15 : decode cX4_numberAt 15 = .ok (.aload_n 0, 1) := by decide +kernel
theorem dX4_numberAt_16 : decode cX4_numberAt 16 = .ok (.iload 4, 2) := by decide +kernel
theorem dX4_numberAt_18 : decode cX4_numberAt 18 = .ok (.invokevirtual 73, 3) := by decide +kernel
theorem dX4_numberAt_21 : decode cX4_numberAt 21 = .ok (.bipush 48, 2) := by decide +kernel
theorem dX4_numberAt_23 : decode cX4_numberAt 23 = .ok (.isub, 1) := by decide +kernel
theorem dX4_numberAt_24 : decode cX4_numberAt 24 = .ok (.iadd, 1) := by decide +kernel
theorem dX4_numberAt_25 : decode cX4_numberAt 25 = .ok (.istore_n 3, 1) := by decide +kernel
theorem dX4_numberAt_26 : decode cX4_numberAt 26 = .ok (.iinc 4 1, 3) := by decide +kernel
theorem dX4_numberAt_29 : decode cX4_numberAt 29 = .ok (.goto (-24), 3) := by decide +kernel
theorem dX4_numberAt_32 : decode cX4_numberAt 32 = .ok (.iload_n 3, 1) := by decide +kernel
theorem dX4_numberAt_33 : decode cX4_numberAt 33 = .ok (.ireturn, 1) := by decide +kernel
theorem dX4_addRow_0 : decode cX4_addRow 0 = .ok (.aload_n 0, 1) := by decide +kernel
theorem dX4_addRow_1 : decode cX4_addRow 1 = .ok (.getfield 15, 3) := by decide +kernel
theorem dX4_addRow_4 : decode cX4_addRow 4 = .ok (.aload_n 0, 1) := by decide +kernel
theorem dX4_addRow_5 : decode cX4_addRow 5 = .ok (.getfield 70, 3) := by decide +kernel
theorem dX4_addRow_8 : decode cX4_addRow 8 = .ok (.iload_n 1, 1) := by decide +kernel
theorem dX4_addRow_9 : decode cX4_addRow 9 = .ok (.invokestatic 128, 3) := by decide +kernel
theorem dX4_addRow_12 : decode cX4_addRow 12 = .ok (.aload_n 0, 1) := by decide +kernel
theorem dX4_addRow_13 : decode cX4_addRow 13 = .ok (.getfield 23, 3) := by decide +kernel
theorem dX4_addRow_16 : decode cX4_addRow 16 = .ok (.aload_n 0, 1) := by decide +kernel
theorem dX4_addRow_17 : decode cX4_addRow 17 = .ok (.getfield 70, 3) := by decide +kernel
theorem dX4_addRow_20 : decode cX4_addRow 20 = .ok (.iload 4, 2) := by decide +kernel
theorem dX4_addRow_22 : decode cX4_addRow 22 = .ok (.invokestatic 128, 3) := by decide +kernel
theorem dX4_addRow_25 : decode cX4_addRow 25 = .ok (.aload_n 0, 1) := by decide +kernel
theorem dX4_addRow_26 : decode cX4_addRow 26 = .ok (.getfield 70, 3) := by decide +kernel
theorem dX4_addRow_29 : decode cX4_addRow 29 = .ok (.ifCond .lt 25, 3) := by decide +kernel
theorem dX4_addRow_32 : decode cX4_addRow 32 = .ok (.aload_n 0, 1) := by decide +kernel
theorem dX4_addRow_33 : decode cX4_addRow 33 = .ok (.getfield 70, 3) := by decide +kernel
theorem dX4_addRow_36 : decode cX4_addRow 36 = .ok (.aload_n 0, 1) := by decide +kernel
theorem dX4_addRow_37 : decode cX4_addRow 37 = .ok (.getfield 19, 3) := by decide +kernel
theorem dX4_addRow_40 : decode cX4_addRow 40 = .ok (.arraylength, 1) := by decide +kernel
theorem dX4_addRow_41 : decode cX4_addRow 41 = .ok (.if_icmp .ge 13, 3) := by decide +kernel
theorem dX4_addRow_44 : decode cX4_addRow 44 = .ok (.aload_n 0, 1) := by decide +kernel
theorem dX4_addRow_45 : decode cX4_addRow 45 = .ok (.getfield 19, 3) := by decide +kernel
theorem dX4_addRow_48 : decode cX4_addRow 48 = .ok (.aload_n 0, 1) := by decide +kernel
theorem dX4_addRow_49 : decode cX4_addRow 49 = .ok (.getfield 70, 3) := by decide +kernel
theorem dX4_addRow_52 : decode cX4_addRow 52 = .ok (.lload_n 2, 1) := by decide +kernel
theorem dX4_addRow_53 : decode cX4_addRow 53 = .ok (.lastore, 1) := by decide +kernel
theorem dX4_addRow_54 : decode cX4_addRow 54 = .ok (.aload_n 0, 1) := by decide +kernel
theorem dX4_addRow_55 : decode cX4_addRow 55 = .ok (.dup, 1) := by decide +kernel
theorem dX4_addRow_56 : decode cX4_addRow 56 = .ok (.getfield 70, 3) := by decide +kernel
theorem dX4_addRow_59 : decode cX4_addRow 59 = .ok (.iconst 1, 1) := by decide +kernel
theorem dX4_addRow_60 : decode cX4_addRow 60 = .ok (.iadd, 1) := by decide +kernel
theorem dX4_addRow_61 : decode cX4_addRow 61 = .ok (.putfield 70, 3) := by decide +kernel
theorem dX4_addRow_64 : decode cX4_addRow 64 = .ok (.return_, 1) := by decide +kernel
theorem dX4_kind_0 : decode cX4_kind 0 = .ok (.aload_n 0, 1) := by decide +kernel
theorem dX4_kind_1 : decode cX4_kind 1 = .ok (.getfield 15, 3) := by decide +kernel
theorem dX4_kind_4 : decode cX4_kind 4 = .ok (.aload_n 0, 1) := by decide +kernel
theorem dX4_kind_5 : decode cX4_kind 5 = .ok (.getfield 59, 3) := by decide +kernel
theorem dX4_kind_8 : decode cX4_kind 8 = .ok (.invokestatic 132, 3) := by decide +kernel
theorem dX4_kind_11 : decode cX4_kind 11 = .ok (.ireturn, 1) := by decide +kernel
theorem dX4_worth_0 : decode cX4_worth 0 = .ok (.aload_n 0, 1) := by decide +kernel
theorem dX4_worth_1 : decode cX4_worth 1 = .ok (.getfield 59, 3) := by decide +kernel
theorem dX4_worth_4 : decode cX4_worth 4 = .ok (.ifCond .lt 27, 3) := by decide +kernel
theorem dX4_worth_7 : decode cX4_worth 7 = .ok (.aload_n 0, 1) := by decide +kernel
theorem dX4_worth_8 : decode cX4_worth 8 = .ok (.getfield 59, 3) := by decide +kernel
theorem dX4_worth_11 : decode cX4_worth 11 = .ok (.aload_n 0, 1) := by decide +kernel
theorem dX4_worth_12 : decode cX4_worth 12 = .ok (.getfield 19, 3) := by decide +kernel
theorem dX4_worth_15 : decode cX4_worth 15 = .ok (.arraylength, 1) := by decide +kernel
theorem dX4_worth_16 : decode cX4_worth 16 = .ok (.if_icmp .ge 15, 3) := by decide +kernel
theorem dX4_worth_19 : decode cX4_worth 19 = .ok (.aload_n 0, 1) := by decide +kernel
theorem dX4_worth_20 : decode cX4_worth 20 = .ok (.getfield 19, 3) := by decide +kernel
theorem dX4_worth_23 : decode cX4_worth 23 = .ok (.aload_n 0, 1) := by decide +kernel
theorem dX4_worth_24 : decode cX4_worth 24 = .ok (.getfield 59, 3) := by decide +kernel
theorem dX4_worth_27 : decode cX4_worth 27 = .ok (.laload, 1) := by decide +kernel
theorem dX4_worth_28 : decode cX4_worth 28 = .ok (.goto 4, 3) := by decide +kernel
theorem dX4_worth_31 : decode cX4_worth 31 = .ok (.lconst 0, 1) := by decide +kernel
theorem dX4_worth_32 : decode cX4_worth 32 = .ok (.lreturn, 1) := by decide +kernel
theorem dX4_fail_0 : decode cX4_fail 0 = .ok (.aload_n 0, 1) := by decide +kernel
theorem dX4_fail_1 : decode cX4_fail 1 = .ok (.iload_n 1, 1) := by decide +kernel
theorem dX4_fail_2 : decode cX4_fail 2 = .ok (.putfield 50, 3) := by decide +kernel
theorem dX4_fail_5 : decode cX4_fail 5 = .ok (.aload_n 0, 1) := by decide +kernel
theorem dX4_fail_6 : decode cX4_fail 6 = .ok (.aload_n 0, 1) := by decide +kernel
theorem dX4_fail_7 : decode cX4_fail 7 = .ok (.getfield 59, 3) := by decide +kernel
theorem dX4_fail_10 : decode cX4_fail 10 = .ok (.ifCond .lt 27, 3) := by decide +kernel
theorem dX4_fail_13 : decode cX4_fail 13 = .ok (.aload_n 0, 1) := by decide +kernel
theorem dX4_fail_14 : decode cX4_fail 14 = .ok (.getfield 59, 3) := by decide +kernel
theorem dX4_fail_17 : decode cX4_fail 17 = .ok (.aload_n 0, 1) := by decide +kernel
theorem dX4_fail_18 : decode cX4_fail 18 = .ok (.getfield 23, 3) := by decide +kernel
theorem dX4_fail_21 : decode cX4_fail 21 = .ok (.arraylength, 1) := by decide +kernel
theorem dX4_fail_22 : decode cX4_fail 22 = .ok (.if_icmp .ge 15, 3) := by decide +kernel
theorem dX4_fail_25 : decode cX4_fail 25 = .ok (.aload_n 0, 1) := by decide +kernel
theorem dX4_fail_26 : decode cX4_fail 26 = .ok (.getfield 23, 3) := by decide +kernel
theorem dX4_fail_29 : decode cX4_fail 29 = .ok (.aload_n 0, 1) := by decide +kernel
theorem dX4_fail_30 : decode cX4_fail 30 = .ok (.getfield 59, 3) := by decide +kernel
theorem dX4_fail_33 : decode cX4_fail 33 = .ok (.iaload, 1) := by decide +kernel
theorem dX4_fail_34 : decode cX4_fail 34 = .ok (.goto 7, 3) := by decide +kernel
theorem dX4_fail_37 : decode cX4_fail 37 = .ok (.aload_n 0, 1) := by decide +kernel
theorem dX4_fail_38 : decode cX4_fail 38 = .ok (.getfield 43, 3) := by decide +kernel
theorem dX4_fail_41 : decode cX4_fail 41 = .ok (.putfield 32, 3) := by decide +kernel
theorem dX4_fail_44 : decode cX4_fail 44 = .ok (.iconst 0, 1) := by decide +kernel
theorem dX4_fail_45 : decode cX4_fail 45 = .ok (.ireturn, 1) := by decide +kernel
theorem dX4_note_0 : decode cX4_note 0 = .ok (.aload_n 0, 1) := by decide +kernel
theorem dX4_note_1 : decode cX4_note 1 = .ok (.getfield 50, 3) := by decide +kernel
theorem dX4_note_4 : decode cX4_note 4 = .ok (.ifCond .ne 9, 3) := by decide +kernel
theorem dX4_note_7 : decode cX4_note 7 = .ok (.aload_n 0, 1) := by decide +kernel
theorem dX4_note_8 : decode cX4_note 8 = .ok (.iload_n 1, 1) := by decide +kernel
theorem dX4_note_9 : decode cX4_note 9 = .ok (.invokevirtual 136, 3) := by decide +kernel
theorem dX4_note_12 : decode cX4_note 12 = .ok (.pop, 1) := by decide +kernel
theorem dX4_note_13 : decode cX4_note 13 = .ok (.return_, 1) := by decide +kernel
theorem dX4_take_0 : decode cX4_take 0 = .ok (.aload_n 0, 1) := by decide +kernel
theorem dX4_take_1 : decode cX4_take 1 = .ok (.getfield 59, 3) := by decide +kernel
theorem dX4_take_4 : decode cX4_take 4 = .ok (.sipush 400, 3) := by decide +kernel
theorem dX4_take_7 : decode cX4_take 7 = .ok (.if_icmp .lt 9, 3) := by decide +kernel
theorem dX4_take_10 : decode cX4_take 10 = .ok (.aload_n 0, 1) := by decide +kernel
theorem dX4_take_11 : decode cX4_take 11 = .ok (.iconst 2, 1) := by decide +kernel
theorem dX4_take_12 : decode cX4_take 12 = .ok (.invokevirtual 136, 3) := by decide +kernel
theorem dX4_take_15 : decode cX4_take 15 = .ok (.ireturn, 1) := by decide +kernel
theorem dX4_take_16 : decode cX4_take 16 = .ok (.aload_n 0, 1) := by decide +kernel
theorem dX4_take_17 : decode cX4_take 17 = .ok (.dup, 1) := by decide +kernel
theorem dX4_take_18 : decode cX4_take 18 = .ok (.getfield 59, 3) := by decide +kernel
theorem dX4_take_21 : decode cX4_take 21 = .ok (.iconst 1, 1) := by decide +kernel
theorem dX4_take_22 : decode cX4_take 22 = .ok (.iadd, 1) := by decide +kernel
theorem dX4_take_23 : decode cX4_take 23 = .ok (.putfield 59, 3) := by decide +kernel
theorem dX4_take_26 : decode cX4_take 26 = .ok (.iconst 1, 1) := by decide +kernel
theorem dX4_take_27 : decode cX4_take 27 = .ok (.ireturn, 1) := by decide +kernel
theorem dX4_take__0 : decode cX4_take_ 0 = .ok (.aload_n 0, 1) := by decide +kernel
theorem dX4_take__1 : decode cX4_take_ 1 = .ok (.invokevirtual 62, 3) := by decide +kernel
theorem dX4_take__4 : decode cX4_take_ 4 = .ok (.iload_n 1, 1) := by decide +kernel
theorem dX4_take__5 : decode cX4_take_ 5 = .ok (.if_icmp .ne 10, 3) := by decide +kernel
theorem dX4_take__8 : decode cX4_take_ 8 = .ok (.aload_n 0, 1) := by decide +kernel
theorem dX4_take__9 : decode cX4_take_ 9 = .ok (.invokevirtual 139, 3) := by decide +kernel
theorem dX4_take__12 : decode cX4_take_ 12 = .ok (.goto 8, 3) := by decide +kernel
theorem dX4_take__15 : decode cX4_take_ 15 = .ok (.aload_n 0, 1) := by decide +kernel
theorem dX4_take__16 : decode cX4_take_ 16 = .ok (.iconst 1, 1) := by decide +kernel
theorem dX4_take__17 : decode cX4_take_ 17 = .ok (.invokevirtual 136, 3) := by decide +kernel
theorem dX4_take__20 : decode cX4_take_ 20 = .ok (.ireturn, 1) := by decide +kernel
theorem dX4_takeNumbers_0 : decode cX4_takeNumbers 0 = .ok (.iload_n 1, 1) := by decide +kernel
theorem dX4_takeNumbers_1 : decode cX4_takeNumbers 1 = .ok (.istore 4, 2) := by decide +kernel
theorem dX4_takeNumbers_3 : decode cX4_takeNumbers 3 = .ok (.iload 4, 2) := by decide +kernel
theorem dX4_takeNumbers_5 : decode cX4_takeNumbers 5 = .ok (.iload_n 2, 1) := by decide +kernel
theorem dX4_takeNumbers_6 : decode cX4_takeNumbers 6 = .ok (.if_icmp .ge 58, 3) := by decide +kernel
theorem dX4_takeNumbers_9 : decode cX4_takeNumbers 9 = .ok (.aload_n 0, 1) := by decide +kernel
theorem dX4_takeNumbers_10 : decode cX4_takeNumbers 10 = .ok (.invokevirtual 142, 3) := by decide +kernel
theorem dX4_takeNumbers_13 : decode cX4_takeNumbers 13 = .ok (.l2i, 1) := by decide +kernel
theorem dX4_takeNumbers_14 : decode cX4_takeNumbers 14 = .ok (.istore 5, 2) := by decide +kernel
theorem dX4_takeNumbers_16 : decode cX4_takeNumbers 16 = .ok (.aload_n 0, 1) := by decide +kernel
theorem dX4_takeNumbers_17 : decode cX4_takeNumbers 17 = .ok (.invokevirtual 62, 3) := by decide +kernel
theorem dX4_takeNumbers_20 : decode cX4_takeNumbers 20 = .ok (.bipush 31, 2) := by decide +kernel
theorem dX4_takeNumbers_22 : decode cX4_takeNumbers 22 = .ok (.if_icmp .ne 14, 3) := by decide +kernel
theorem dX4_takeNumbers_25 : decode cX4_takeNumbers 25 = .ok (.iload 5, 2) := by decide +kernel
theorem dX4_takeNumbers_27 : decode cX4_takeNumbers 27 = .ok (.iload_n 3, 1) := by decide +kernel
theorem dX4_takeNumbers_28 : decode cX4_takeNumbers 28 = .ok (.if_icmp .le 8, 3) := by decide +kernel
theorem dX4_takeNumbers_31 : decode cX4_takeNumbers 31 = .ok (.aload_n 0, 1) := by decide +kernel
theorem dX4_takeNumbers_32 : decode cX4_takeNumbers 32 = .ok (.iconst 5, 1) := by decide +kernel
theorem dX4_takeNumbers_33 : decode cX4_takeNumbers 33 = .ok (.invokevirtual 146, 3) := by decide +kernel
theorem dX4_takeNumbers_36 : decode cX4_takeNumbers 36 = .ok (.aload_n 0, 1) := by decide +kernel
theorem dX4_takeNumbers_37 : decode cX4_takeNumbers 37 = .ok (.getfield 26, 3) := by decide +kernel
theorem dX4_takeNumbers_40 : decode cX4_takeNumbers 40 = .ok (.iload 4, 2) := by decide +kernel
theorem dX4_takeNumbers_42 : decode cX4_takeNumbers 42 = .ok (.iload 5, 2) := by decide +kernel
theorem dX4_takeNumbers_44 : decode cX4_takeNumbers 44 = .ok (.invokestatic 128, 3) := by decide +kernel
theorem dX4_takeNumbers_47 : decode cX4_takeNumbers 47 = .ok (.aload_n 0, 1) := by decide +kernel
theorem dX4_takeNumbers_48 : decode cX4_takeNumbers 48 = .ok (.bipush 31, 2) := by decide +kernel
theorem dX4_takeNumbers_50 : decode cX4_takeNumbers 50 = .ok (.invokevirtual 149, 3) := by decide +kernel
theorem dX4_takeNumbers_53 : decode cX4_takeNumbers 53 = .ok (.ifCond .ne 5, 3) := by decide +kernel
theorem dX4_takeNumbers_56 : decode cX4_takeNumbers 56 = .ok (.iconst 0, 1) := by decide +kernel
theorem dX4_takeNumbers_57 : decode cX4_takeNumbers 57 = .ok (.ireturn, 1) := by decide +kernel
theorem dX4_takeNumbers_58 : decode cX4_takeNumbers 58 = .ok (.iinc 4 1, 3) := by decide +kernel
theorem dX4_takeNumbers_61 : decode cX4_takeNumbers 61 = .ok (.goto (-58), 3) := by decide +kernel
theorem dX4_takeNumbers_64 : decode cX4_takeNumbers 64 = .ok (.iconst 1, 1) := by decide +kernel
theorem dX4_takeNumbers_65 : decode cX4_takeNumbers 65 = .ok (.ireturn, 1) := by decide +kernel
theorem dX4_tellOne_0 : decode cX4_tellOne 0 = .ok (.aload_n 0, 1) := by decide +kernel
theorem dX4_tellOne_1 : decode cX4_tellOne 1 = .ok (.invokevirtual 62, 3) := by decide +kernel
theorem dX4_tellOne_4 : decode cX4_tellOne 4 = .ok (.istore_n 1, 1) := by decide +kernel
theorem dX4_tellOne_5 : decode cX4_tellOne 5 = .ok (.iload_n 1, 1) := by decide +kernel
theorem dX4_tellOne_6 : decode cX4_tellOne 6 = .ok (.iconst 1, 1) := by decide +kernel
theorem dX4_tellOne_7 : decode cX4_tellOne 7 = .ok (.if_icmp .ne 8, 3) := by decide +kernel
theorem dX4_tellOne_10 : decode cX4_tellOne 10 = .ok (.aload_n 0, 1) := by decide +kernel
theorem dX4_tellOne_11 : decode cX4_tellOne 11 = .ok (.invokevirtual 151, 3) := by decide +kernel
theorem dX4_tellOne_14 : decode cX4_tellOne 14 = .ok (.ireturn, 1) := by decide +kernel
theorem dX4_tellOne_15 : decode cX4_tellOne 15 = .ok (.iload_n 1, 1) := by decide +kernel
theorem dX4_tellOne_16 : decode cX4_tellOne 16 = .ok (.ifCond .ne 8, 3) := by decide +kernel
theorem dX4_tellOne_19 : decode cX4_tellOne 19 = .ok (.aload_n 0, 1) := by decide +kernel
theorem dX4_tellOne_20 : decode cX4_tellOne 20 = .ok (.invokevirtual 154, 3) := by decide +kernel
theorem dX4_tellOne_23 : decode cX4_tellOne 23 = .ok (.ireturn, 1) := by decide +kernel
theorem dX4_tellOne_24 : decode cX4_tellOne 24 = .ok (.iload_n 1, 1) := by decide +kernel
theorem dX4_tellOne_25 : decode cX4_tellOne 25 = .ok (.iconst 2, 1) := by decide +kernel
theorem dX4_tellOne_26 : decode cX4_tellOne 26 = .ok (.if_icmp .lt 17, 3) := by decide +kernel
theorem dX4_tellOne_29 : decode cX4_tellOne 29 = .ok (.iload_n 1, 1) := by decide +kernel
theorem dX4_tellOne_30 : decode cX4_tellOne 30 = .ok (.bipush 9, 2) := by decide +kernel
theorem dX4_tellOne_32 : decode cX4_tellOne 32 = .ok (.if_icmp .ge 11, 3) := by decide +kernel
theorem dX4_tellOne_35 : decode cX4_tellOne 35 = .ok (.aload_n 0, 1) := by decide +kernel
theorem dX4_tellOne_36 : decode cX4_tellOne 36 = .ok (.iload_n 1, 1) := by decide +kernel
theorem dX4_tellOne_37 : decode cX4_tellOne 37 = .ok (.iconst 2, 1) := by decide +kernel
theorem dX4_tellOne_38 : decode cX4_tellOne 38 = .ok (.isub, 1) := by decide +kernel
theorem dX4_tellOne_39 : decode cX4_tellOne 39 = .ok (.invokevirtual 157, 3) := by decide +kernel
theorem dX4_tellOne_42 : decode cX4_tellOne 42 = .ok (.ireturn, 1) := by decide +kernel
theorem dX4_tellOne_43 : decode cX4_tellOne 43 = .ok (.iload_n 1, 1) := by decide +kernel
theorem dX4_tellOne_44 : decode cX4_tellOne 44 = .ok (.bipush 9, 2) := by decide +kernel
theorem dX4_tellOne_46 : decode cX4_tellOne 46 = .ok (.if_icmp .eq 15, 3) := by decide +kernel
theorem dX4_tellOne_49 : decode cX4_tellOne 49 = .ok (.iload_n 1, 1) := by decide +kernel
theorem dX4_tellOne_50 : decode cX4_tellOne 50 = .ok (.bipush 10, 2) := by decide +kernel
theorem dX4_tellOne_52 : decode cX4_tellOne 52 = .ok (.if_icmp .eq 9, 3) := by decide +kernel
theorem dX4_tellOne_55 : decode cX4_tellOne 55 = .ok (.iload_n 1, 1) := by decide +kernel
theorem dX4_tellOne_56 : decode cX4_tellOne 56 = .ok (.bipush 11, 2) := by decide +kernel
theorem dX4_tellOne_58 : decode cX4_tellOne 58 = .ok (.if_icmp .ne 9, 3) := by decide +kernel
theorem dX4_tellOne_61 : decode cX4_tellOne 61 = .ok (.aload_n 0, 1) := by decide +kernel
theorem dX4_tellOne_62 : decode cX4_tellOne 62 = .ok (.iload_n 1, 1) := by decide +kernel
theorem dX4_tellOne_63 : decode cX4_tellOne 63 = .ok (.invokevirtual 160, 3) := by decide +kernel
theorem dX4_tellOne_66 : decode cX4_tellOne 66 = .ok (.ireturn, 1) := by decide +kernel
theorem dX4_tellOne_67 : decode cX4_tellOne 67 = .ok (.aload_n 0, 1) := by decide +kernel
theorem dX4_tellOne_68 : decode cX4_tellOne 68 = .ok (.iconst 1, 1) := by decide +kernel
theorem dX4_tellOne_69 : decode cX4_tellOne 69 = .ok (.invokevirtual 136, 3) := by decide +kernel
theorem dX4_tellOne_72 : decode cX4_tellOne 72 = .ok (.ireturn, 1) := by decide +kernel
theorem dX4_tellBaby_0 : decode cX4_tellBaby 0 = .ok (.aload_n 0, 1) := by decide +kernel
theorem dX4_tellBaby_1 : decode cX4_tellBaby 1 = .ok (.invokevirtual 139, 3) := by decide +kernel
theorem dX4_tellBaby_4 : decode cX4_tellBaby 4 = .ok (.ifCond .eq 27, 3) := by decide +kernel
theorem dX4_tellBaby_7 : decode cX4_tellBaby 7 = .ok (.aload_n 0, 1) := by decide +kernel
theorem dX4_tellBaby_8 : decode cX4_tellBaby 8 = .ok (.iconst 0, 1) := by decide +kernel
theorem dX4_tellBaby_9 : decode cX4_tellBaby 9 = .ok (.iconst 4, 1) := by decide +kernel
theorem dX4_tellBaby_10 : decode cX4_tellBaby 10 = .ok (.bipush 99, 2) := by decide +kernel
theorem dX4_tellBaby_12 : decode cX4_tellBaby 12 = .ok (.invokevirtual 163, 3) := by decide +kernel
theorem dX4_tellBaby_15 : decode cX4_tellBaby 15 = .ok (.ifCond .eq 16, 3) := by decide +kernel
theorem dX4_tellBaby_18 : decode cX4_tellBaby 18 = .ok (.aload_n 0, 1) := by decide +kernel
theorem dX4_tellBaby_19 : decode cX4_tellBaby 19 = .ok (.bipush 59, 2) := by decide +kernel
theorem dX4_tellBaby_21 : decode cX4_tellBaby 21 = .ok (.invokevirtual 149, 3) := by decide +kernel
theorem dX4_tellBaby_24 : decode cX4_tellBaby 24 = .ok (.ifCond .eq 7, 3) := by decide +kernel
theorem dX4_tellBaby_27 : decode cX4_tellBaby 27 = .ok (.iconst 1, 1) := by decide +kernel
theorem dX4_tellBaby_28 : decode cX4_tellBaby 28 = .ok (.goto 4, 3) := by decide +kernel
theorem dX4_tellBaby_31 : decode cX4_tellBaby 31 = .ok (.iconst 0, 1) := by decide +kernel
theorem dX4_tellBaby_32 : decode cX4_tellBaby 32 = .ok (.istore_n 1, 1) := by decide +kernel
theorem dX4_tellBaby_33 : decode cX4_tellBaby 33 = .ok (.aload_n 0, 1) := by decide +kernel
theorem dX4_tellBaby_34 : decode cX4_tellBaby 34 = .ok (.getfield 39, 3) := by decide +kernel
theorem dX4_tellBaby_37 : decode cX4_tellBaby 37 = .ok (.aload_n 0, 1) := by decide +kernel
theorem dX4_tellBaby_38 : decode cX4_tellBaby 38 = .ok (.getfield 26, 3) := by decide +kernel
theorem dX4_tellBaby_41 : decode cX4_tellBaby 41 = .ok (.iconst 0, 1) := by decide +kernel
theorem dX4_tellBaby_42 : decode cX4_tellBaby 42 = .ok (.invokestatic 132, 3) := by decide +kernel
theorem dX4_tellBaby_45 : decode cX4_tellBaby 45 = .ok (.aload_n 0, 1) := by decide +kernel
theorem dX4_tellBaby_46 : decode cX4_tellBaby 46 = .ok (.getfield 26, 3) := by decide +kernel
theorem dX4_tellBaby_49 : decode cX4_tellBaby 49 = .ok (.iconst 1, 1) := by decide +kernel
theorem dX4_tellBaby_50 : decode cX4_tellBaby 50 = .ok (.invokestatic 132, 3) := by decide +kernel
theorem dX4_tellBaby_53 : decode cX4_tellBaby 53 = .ok (.aload_n 0, 1) := by decide +kernel
theorem dX4_tellBaby_54 : decode cX4_tellBaby 54 = .ok (.getfield 26, 3) := by decide +kernel
theorem dX4_tellBaby_57 : decode cX4_tellBaby 57 = .ok (.iconst 2, 1) := by decide +kernel
theorem dX4_tellBaby_58 : decode cX4_tellBaby 58 = .ok (.invokestatic 132, 3) := by decide +kernel
theorem dX4_tellBaby_61 : decode cX4_tellBaby 61 = .ok (.aload_n 0, 1) := by decide +kernel
theorem dX4_tellBaby_62 : decode cX4_tellBaby 62 = .ok (.getfield 26, 3) := by decide +kernel
theorem dX4_tellBaby_65 : decode cX4_tellBaby 65 = .ok (.iconst 3, 1) := by decide +kernel
theorem dX4_tellBaby_66 : decode cX4_tellBaby 66 = .ok (.invokestatic 132, 3) := by decide +kernel
theorem dX4_tellBaby_69 : decode cX4_tellBaby 69 = .ok (.invokevirtual 167, 3) := by decide +kernel
theorem dX4_tellBaby_72 : decode cX4_tellBaby 72 = .ok (.iload_n 1, 1) := by decide +kernel
theorem dX4_tellBaby_73 : decode cX4_tellBaby 73 = .ok (.ireturn, 1) := by decide +kernel
theorem dX4_tellAunt_0 : decode cX4_tellAunt 0 = .ok (.aload_n 0, 1) := by decide +kernel
theorem dX4_tellAunt_1 : decode cX4_tellAunt 1 = .ok (.getfield 39, 3) := by decide +kernel
theorem dX4_tellAunt_4 : decode cX4_tellAunt 4 = .ok (.getfield 170, 3) := by decide +kernel
theorem dX4_tellAunt_7 : decode cX4_tellAunt 7 = .ok (.bipush 6, 2) := by decide +kernel
theorem dX4_tellAunt_9 : decode cX4_tellAunt 9 = .ok (.if_icmp .lt 9, 3) := by decide +kernel
theorem dX4_tellAunt_12 : decode cX4_tellAunt 12 = .ok (.aload_n 0, 1) := by decide +kernel
theorem dX4_tellAunt_13 : decode cX4_tellAunt 13 = .ok (.iconst 2, 1) := by decide +kernel
theorem dX4_tellAunt_14 : decode cX4_tellAunt 14 = .ok (.invokevirtual 136, 3) := by decide +kernel
theorem dX4_tellAunt_17 : decode cX4_tellAunt 17 = .ok (.ireturn, 1) := by decide +kernel
theorem dX4_tellAunt_18 : decode cX4_tellAunt 18 = .ok (.aload_n 0, 1) := by decide +kernel
theorem dX4_tellAunt_19 : decode cX4_tellAunt 19 = .ok (.invokevirtual 139, 3) := by decide +kernel
theorem dX4_tellAunt_22 : decode cX4_tellAunt 22 = .ok (.ifCond .ne 5, 3) := by decide +kernel
theorem dX4_tellAunt_25 : decode cX4_tellAunt 25 = .ok (.iconst 0, 1) := by decide +kernel
theorem dX4_tellAunt_26 : decode cX4_tellAunt 26 = .ok (.ireturn, 1) := by decide +kernel
theorem dX4_tellAunt_27 : decode cX4_tellAunt 27 = .ok (.aload_n 0, 1) := by decide +kernel
theorem dX4_tellAunt_28 : decode cX4_tellAunt 28 = .ok (.invokevirtual 142, 3) := by decide +kernel
theorem dX4_tellAunt_31 : decode cX4_tellAunt 31 = .ok (.lstore_n 1, 1) := by decide +kernel
theorem dX4_tellAunt_32 : decode cX4_tellAunt 32 = .ok (.aload_n 0, 1) := by decide +kernel
theorem dX4_tellAunt_33 : decode cX4_tellAunt 33 = .ok (.invokevirtual 62, 3) := by decide +kernel
theorem dX4_tellAunt_36 : decode cX4_tellAunt 36 = .ok (.bipush 30, 2) := by decide +kernel
theorem dX4_tellAunt_38 : decode cX4_tellAunt 38 = .ok (.if_icmp .ne 19, 3) := by decide +kernel
theorem dX4_tellAunt_41 : decode cX4_tellAunt 41 = .ok (.aload_n 0, 1) := by decide +kernel
theorem dX4_tellAunt_42 : decode cX4_tellAunt 42 = .ok (.getfield 39, 3) := by decide +kernel
theorem dX4_tellAunt_45 : decode cX4_tellAunt 45 = .ok (.lload_n 1, 1) := by decide +kernel
theorem dX4_tellAunt_46 : decode cX4_tellAunt 46 = .ok (.invokevirtual 173, 3) := by decide +kernel
theorem dX4_tellAunt_49 : decode cX4_tellAunt 49 = .ok (.ifCond .eq 8, 3) := by decide +kernel
theorem dX4_tellAunt_52 : decode cX4_tellAunt 52 = .ok (.aload_n 0, 1) := by decide +kernel
theorem dX4_tellAunt_53 : decode cX4_tellAunt 53 = .ok (.iconst 3, 1) := by decide +kernel
theorem dX4_tellAunt_54 : decode cX4_tellAunt 54 = .ok (.invokevirtual 146, 3) := by decide +kernel
theorem dX4_tellAunt_57 : decode cX4_tellAunt 57 = .ok (.aload_n 0, 1) := by decide +kernel
theorem dX4_tellAunt_58 : decode cX4_tellAunt 58 = .ok (.bipush 30, 2) := by decide +kernel
theorem dX4_tellAunt_60 : decode cX4_tellAunt 60 = .ok (.invokevirtual 149, 3) := by decide +kernel
theorem dX4_tellAunt_63 : decode cX4_tellAunt 63 = .ok (.ifCond .eq 25, 3) := by decide +kernel
theorem dX4_tellAunt_66 : decode cX4_tellAunt 66 = .ok (.aload_n 0, 1) := by decide +kernel
theorem dX4_tellAunt_67 : decode cX4_tellAunt 67 = .ok (.iconst 0, 1) := by decide +kernel
theorem dX4_tellAunt_68 : decode cX4_tellAunt 68 = .ok (.iconst 3, 1) := by decide +kernel
theorem dX4_tellAunt_69 : decode cX4_tellAunt 69 = .ok (.bipush 9, 2) := by decide +kernel
theorem dX4_tellAunt_71 : decode cX4_tellAunt 71 = .ok (.invokevirtual 163, 3) := by decide +kernel
theorem dX4_tellAunt_74 : decode cX4_tellAunt 74 = .ok (.ifCond .eq 14, 3) := by decide +kernel
theorem dX4_tellAunt_77 : decode cX4_tellAunt 77 = .ok (.aload_n 0, 1) := by decide +kernel
theorem dX4_tellAunt_78 : decode cX4_tellAunt 78 = .ok (.iconst 3, 1) := by decide +kernel
theorem dX4_tellAunt_79 : decode cX4_tellAunt 79 = .ok (.iconst 4, 1) := by decide +kernel
theorem dX4_tellAunt_80 : decode cX4_tellAunt 80 = .ok (.bipush 99, 2) := by decide +kernel
theorem dX4_tellAunt_82 : decode cX4_tellAunt 82 = .ok (.invokevirtual 163, 3) := by decide +kernel
theorem dX4_tellAunt_85 : decode cX4_tellAunt 85 = .ok (.ifCond .ne 5, 3) := by decide +kernel
theorem dX4_tellAunt_88 : decode cX4_tellAunt 88 = .ok (.iconst 0, 1) := by decide +kernel
theorem dX4_tellAunt_89 : decode cX4_tellAunt 89 = .ok (.ireturn, 1) := by decide +kernel
theorem dX4_tellAunt_90 : decode cX4_tellAunt 90 = .ok (.aload_n 0, 1) := by decide +kernel
theorem dX4_tellAunt_91 : decode cX4_tellAunt 91 = .ok (.invokevirtual 62, 3) := by decide +kernel
theorem dX4_tellAunt_94 : decode cX4_tellAunt 94 = .ok (.bipush 12, 2) := by decide +kernel
theorem dX4_tellAunt_96 : decode cX4_tellAunt 96 = .ok (.if_icmp .ne 7, 3) := by decide +kernel
theorem dX4_tellAunt_99 : decode cX4_tellAunt 99 = .ok (.iconst 1, 1) := by decide +kernel
theorem dX4_tellAunt_100 : decode cX4_tellAunt 100 = .ok (.goto 4, 3) := by decide +kernel
theorem dX4_tellAunt_103 : decode cX4_tellAunt 103 = .ok (.iconst 0, 1) := by decide +kernel
theorem dX4_tellAunt_104 : decode cX4_tellAunt 104 = .ok (.istore_n 3, 1) := by decide +kernel
theorem dX4_tellAunt_105 : decode cX4_tellAunt 105 = .ok (.iload_n 3, 1) := by decide +kernel
theorem dX4_tellAunt_106 : decode cX4_tellAunt 106 = .ok (.ifCond .eq 12, 3) := by decide +kernel
theorem dX4_tellAunt_109 : decode cX4_tellAunt 109 = .ok (.aload_n 0, 1) := by decide +kernel
theorem dX4_tellAunt_110 : decode cX4_tellAunt 110 = .ok (.invokevirtual 139, 3) := by decide +kernel
theorem dX4_tellAunt_113 : decode cX4_tellAunt 113 = .ok (.ifCond .ne 5, 3) := by decide +kernel
theorem dX4_tellAunt_116 : decode cX4_tellAunt 116 = .ok (.iconst 0, 1) := by decide +kernel
theorem dX4_tellAunt_117 : decode cX4_tellAunt 117 = .ok (.ireturn, 1) := by decide +kernel
theorem dX4_tellAunt_118 : decode cX4_tellAunt 118 = .ok (.aload_n 0, 1) := by decide +kernel
theorem dX4_tellAunt_119 : decode cX4_tellAunt 119 = .ok (.getfield 39, 3) := by decide +kernel
theorem dX4_tellAunt_122 : decode cX4_tellAunt 122 = .ok (.lload_n 1, 1) := by decide +kernel
theorem dX4_tellAunt_123 : decode cX4_tellAunt 123 = .ok (.aload_n 0, 1) := by decide +kernel
theorem dX4_tellAunt_124 : decode cX4_tellAunt 124 = .ok (.getfield 26, 3) := by decide +kernel
theorem dX4_tellAunt_127 : decode cX4_tellAunt 127 = .ok (.iload_n 3, 1) := by decide +kernel
theorem dX4_tellAunt_128 : decode cX4_tellAunt 128 = .ok (.invokevirtual 177, 3) := by decide +kernel
theorem dX4_tellAunt_131 : decode cX4_tellAunt 131 = .ok (.aload_n 0, 1) := by decide +kernel
theorem dX4_tellAunt_132 : decode cX4_tellAunt 132 = .ok (.bipush 59, 2) := by decide +kernel
theorem dX4_tellAunt_134 : decode cX4_tellAunt 134 = .ok (.invokevirtual 149, 3) := by decide +kernel
theorem dX4_tellAunt_137 : decode cX4_tellAunt 137 = .ok (.ireturn, 1) := by decide +kernel
theorem dX4_tellNumber_0 : decode cX4_tellNumber 0 = .ok (.aload_n 0, 1) := by decide +kernel
theorem dX4_tellNumber_1 : decode cX4_tellNumber 1 = .ok (.invokevirtual 139, 3) := by decide +kernel
theorem dX4_tellNumber_4 : decode cX4_tellNumber 4 = .ok (.ifCond .eq 26, 3) := by decide +kernel
theorem dX4_tellNumber_7 : decode cX4_tellNumber 7 = .ok (.aload_n 0, 1) := by decide +kernel
theorem dX4_tellNumber_8 : decode cX4_tellNumber 8 = .ok (.iconst 0, 1) := by decide +kernel
theorem dX4_tellNumber_9 : decode cX4_tellNumber 9 = .ok (.iconst 1, 1) := by decide +kernel
theorem dX4_tellNumber_10 : decode cX4_tellNumber 10 = .ok (.iload_n 1, 1) := by decide +kernel
theorem dX4_tellNumber_11 : decode cX4_tellNumber 11 = .ok (.bipush 11, 2) := by decide +kernel
theorem dX4_tellNumber_13 : decode cX4_tellNumber 13 = .ok (.if_icmp .ne 9, 3) := by decide +kernel
theorem dX4_tellNumber_16 : decode cX4_tellNumber 16 = .ok (.sipush 9999, 3) := by decide +kernel
theorem dX4_tellNumber_19 : decode cX4_tellNumber 19 = .ok (.goto 5, 3) := by decide +kernel
theorem dX4_tellNumber_22 : decode cX4_tellNumber 22 = .ok (.bipush 99, 2) := by decide +kernel
theorem dX4_tellNumber_24 : decode cX4_tellNumber 24 = .ok (.invokevirtual 163, 3) := by decide +kernel
theorem dX4_tellNumber_27 : decode cX4_tellNumber 27 = .ok (.ifCond .ne 5, 3) := by decide +kernel
theorem dX4_tellNumber_30 : decode cX4_tellNumber 30 = .ok (.iconst 0, 1) := by decide +kernel
theorem dX4_tellNumber_31 : decode cX4_tellNumber 31 = .ok (.ireturn, 1) := by decide +kernel
theorem dX4_tellNumber_32 : decode cX4_tellNumber 32 = .ok (.aload_n 0, 1) := by decide +kernel
theorem dX4_tellNumber_33 : decode cX4_tellNumber 33 = .ok (.getfield 26, 3) := by decide +kernel
theorem dX4_tellNumber_36 : decode cX4_tellNumber 36 = .ok (.iconst 0, 1) := by decide +kernel
theorem dX4_tellNumber_37 : decode cX4_tellNumber 37 = .ok (.invokestatic 132, 3) := by decide +kernel
theorem dX4_tellNumber_40 : decode cX4_tellNumber 40 = .ok (.istore_n 2, 1) := by decide +kernel
theorem dX4_tellNumber_41 : decode cX4_tellNumber 41 = .ok (.iload_n 1, 1) := by decide +kernel
theorem dX4_tellNumber_42 : decode cX4_tellNumber 42 = .ok (.bipush 9, 2) := by decide +kernel
theorem dX4_tellNumber_44 : decode cX4_tellNumber 44 = .ok (.if_icmp .ne 14, 3) := by decide +kernel
theorem dX4_tellNumber_47 : decode cX4_tellNumber 47 = .ok (.aload_n 0, 1) := by decide +kernel
theorem dX4_tellNumber_48 : decode cX4_tellNumber 48 = .ok (.getfield 39, 3) := by decide +kernel
theorem dX4_tellNumber_51 : decode cX4_tellNumber 51 = .ok (.iload_n 2, 1) := by decide +kernel
theorem dX4_tellNumber_52 : decode cX4_tellNumber 52 = .ok (.putfield 180, 3) := by decide +kernel
theorem dX4_tellNumber_55 : decode cX4_tellNumber 55 = .ok (.goto 28, 3) := by decide +kernel
theorem dX4_tellNumber_58 : decode cX4_tellNumber 58 = .ok (.iload_n 1, 1) := by decide +kernel
theorem dX4_tellNumber_59 : decode cX4_tellNumber 59 = .ok (.bipush 10, 2) := by decide +kernel
theorem dX4_tellNumber_61 : decode cX4_tellNumber 61 = .ok (.if_icmp .ne 14, 3) := by decide +kernel
theorem dX4_tellNumber_64 : decode cX4_tellNumber 64 = .ok (.aload_n 0, 1) := by decide +kernel
theorem dX4_tellNumber_65 : decode cX4_tellNumber 65 = .ok (.getfield 39, 3) := by decide +kernel
theorem dX4_tellNumber_68 : decode cX4_tellNumber 68 = .ok (.iload_n 2, 1) := by decide +kernel
theorem dX4_tellNumber_69 : decode cX4_tellNumber 69 = .ok (.putfield 183, 3) := by decide +kernel
theorem dX4_tellNumber_72 : decode cX4_tellNumber 72 = .ok (.goto 11, 3) := by decide +kernel
theorem dX4_tellNumber_75 : decode cX4_tellNumber 75 = .ok (.aload_n 0, 1) := by decide +kernel
theorem dX4_tellNumber_76 : decode cX4_tellNumber 76 = .ok (.getfield 39, 3) := by decide +kernel
theorem dX4_tellNumber_79 : decode cX4_tellNumber 79 = .ok (.iload_n 2, 1) := by decide +kernel
theorem dX4_tellNumber_80 : decode cX4_tellNumber 80 = .ok (.putfield 186, 3) := by decide +kernel
theorem dX4_tellNumber_83 : decode cX4_tellNumber 83 = .ok (.aload_n 0, 1) := by decide +kernel
theorem dX4_tellNumber_84 : decode cX4_tellNumber 84 = .ok (.bipush 59, 2) := by decide +kernel
theorem dX4_tellNumber_86 : decode cX4_tellNumber 86 = .ok (.invokevirtual 149, 3) := by decide +kernel
theorem dX4_tellNumber_89 : decode cX4_tellNumber 89 = .ok (.ireturn, 1) := by decide +kernel
theorem dX4_tellLaw_0 : decode cX4_tellLaw 0 = .ok (.aload_n 0, 1) := by decide +kernel
theorem dX4_tellLaw_1 : decode cX4_tellLaw 1 = .ok (.invokevirtual 139, 3) := by decide +kernel
theorem dX4_tellLaw_4 : decode cX4_tellLaw 4 = .ok (.ifCond .eq 12, 3) := by decide +kernel
theorem dX4_tellLaw_7 : decode cX4_tellLaw 7 = .ok (.aload_n 0, 1) := by decide +kernel
theorem dX4_tellLaw_8 : decode cX4_tellLaw 8 = .ok (.bipush 61, 2) := by decide +kernel
theorem dX4_tellLaw_10 : decode cX4_tellLaw 10 = .ok (.invokevirtual 149, 3) := by decide +kernel
theorem dX4_tellLaw_13 : decode cX4_tellLaw 13 = .ok (.ifCond .ne 5, 3) := by decide +kernel
theorem dX4_tellLaw_16 : decode cX4_tellLaw 16 = .ok (.iconst 0, 1) := by decide +kernel
theorem dX4_tellLaw_17 : decode cX4_tellLaw 17 = .ok (.ireturn, 1) := by decide +kernel
theorem dX4_tellLaw_18 : decode cX4_tellLaw 18 = .ok (.aload_n 0, 1) := by decide +kernel
theorem dX4_tellLaw_19 : decode cX4_tellLaw 19 = .ok (.getfield 39, 3) := by decide +kernel
theorem dX4_tellLaw_22 : decode cX4_tellLaw 22 = .ok (.getfield 189, 3) := by decide +kernel
theorem dX4_tellLaw_25 : decode cX4_tellLaw 25 = .ok (.iload_n 1, 1) := by decide +kernel
theorem dX4_tellLaw_26 : decode cX4_tellLaw 26 = .ok (.invokevirtual 193, 3) := by decide +kernel
theorem dX4_tellLaw_29 : decode cX4_tellLaw 29 = .ok (.iconst 0, 1) := by decide +kernel
theorem dX4_tellLaw_30 : decode cX4_tellLaw 30 = .ok (.istore_n 2, 1) := by decide +kernel
theorem dX4_tellLaw_31 : decode cX4_tellLaw 31 = .ok (.iload_n 2, 1) := by decide +kernel
theorem dX4_tellLaw_32 : decode cX4_tellLaw 32 = .ok (.iconst 4, 1) := by decide +kernel
theorem dX4_tellLaw_33 : decode cX4_tellLaw 33 = .ok (.if_icmp .gt 76, 3) := by decide +kernel
theorem dX4_tellLaw_36 : decode cX4_tellLaw 36 = .ok (.aload_n 0, 1) := by decide +kernel
theorem dX4_tellLaw_37 : decode cX4_tellLaw 37 = .ok (.invokevirtual 62, 3) := by decide +kernel
theorem dX4_tellLaw_40 : decode cX4_tellLaw 40 = .ok (.bipush 13, 2) := by decide +kernel
theorem dX4_tellLaw_42 : decode cX4_tellLaw 42 = .ok (.if_icmp .ne 67, 3) := by decide +kernel
theorem dX4_tellLaw_45 : decode cX4_tellLaw 45 = .ok (.iload_n 2, 1) := by decide +kernel
theorem dX4_tellLaw_46 : decode cX4_tellLaw 46 = .ok (.iconst 4, 1) := by decide +kernel
theorem dX4_tellLaw_47 : decode cX4_tellLaw 47 = .ok (.if_icmp .ne 9, 3) := by decide +kernel
theorem dX4_tellLaw_50 : decode cX4_tellLaw 50 = .ok (.aload_n 0, 1) := by decide +kernel
theorem dX4_tellLaw_51 : decode cX4_tellLaw 51 = .ok (.iconst 2, 1) := by decide +kernel
theorem dX4_tellLaw_52 : decode cX4_tellLaw 52 = .ok (.invokevirtual 136, 3) := by decide +kernel
theorem dX4_tellLaw_55 : decode cX4_tellLaw 55 = .ok (.ireturn, 1) := by decide +kernel
theorem dX4_tellLaw_56 : decode cX4_tellLaw 56 = .ok (.aload_n 0, 1) := by decide +kernel
theorem dX4_tellLaw_57 : decode cX4_tellLaw 57 = .ok (.invokevirtual 139, 3) := by decide +kernel
theorem dX4_tellLaw_60 : decode cX4_tellLaw 60 = .ok (.ifCond .eq 30, 3) := by decide +kernel
theorem dX4_tellLaw_63 : decode cX4_tellLaw 63 = .ok (.aload_n 0, 1) := by decide +kernel
theorem dX4_tellLaw_64 : decode cX4_tellLaw 64 = .ok (.bipush 60, 2) := by decide +kernel
theorem dX4_tellLaw_66 : decode cX4_tellLaw 66 = .ok (.invokevirtual 198, 3) := by decide +kernel
theorem dX4_tellLaw_69 : decode cX4_tellLaw 69 = .ok (.ifCond .eq 21, 3) := by decide +kernel
theorem dX4_tellLaw_72 : decode cX4_tellLaw 72 = .ok (.aload_n 0, 1) := by decide +kernel
theorem dX4_tellLaw_73 : decode cX4_tellLaw 73 = .ok (.bipush 14, 2) := by decide +kernel
theorem dX4_tellLaw_75 : decode cX4_tellLaw 75 = .ok (.invokevirtual 198, 3) := by decide +kernel
theorem dX4_tellLaw_78 : decode cX4_tellLaw 78 = .ok (.ifCond .eq 12, 3) := by decide +kernel
theorem dX4_tellLaw_81 : decode cX4_tellLaw 81 = .ok (.aload_n 0, 1) := by decide +kernel
theorem dX4_tellLaw_82 : decode cX4_tellLaw 82 = .ok (.bipush 15, 2) := by decide +kernel
theorem dX4_tellLaw_84 : decode cX4_tellLaw 84 = .ok (.invokevirtual 198, 3) := by decide +kernel
theorem dX4_tellLaw_87 : decode cX4_tellLaw 87 = .ok (.ifCond .ne 5, 3) := by decide +kernel
theorem dX4_tellLaw_90 : decode cX4_tellLaw 90 = .ok (.iconst 0, 1) := by decide +kernel
theorem dX4_tellLaw_91 : decode cX4_tellLaw 91 = .ok (.ireturn, 1) := by decide +kernel
theorem dX4_tellLaw_92 : decode cX4_tellLaw 92 = .ok (.aload_n 0, 1) := by decide +kernel
theorem dX4_tellLaw_93 : decode cX4_tellLaw 93 = .ok (.getfield 39, 3) := by decide +kernel
theorem dX4_tellLaw_96 : decode cX4_tellLaw 96 = .ok (.getfield 189, 3) := by decide +kernel
theorem dX4_tellLaw_99 : decode cX4_tellLaw 99 = .ok (.iload_n 1, 1) := by decide +kernel
theorem dX4_tellLaw_100 : decode cX4_tellLaw 100 = .ok (.invokevirtual 201, 3) := by decide +kernel
theorem dX4_tellLaw_103 : decode cX4_tellLaw 103 = .ok (.iinc 2 1, 3) := by decide +kernel
theorem dX4_tellLaw_106 : decode cX4_tellLaw 106 = .ok (.goto (-75), 3) := by decide +kernel
theorem dX4_tellLaw_109 : decode cX4_tellLaw 109 = .ok (.aload_n 0, 1) := by decide +kernel
theorem dX4_tellLaw_110 : decode cX4_tellLaw 110 = .ok (.bipush 59, 2) := by decide +kernel
theorem dX4_tellLaw_112 : decode cX4_tellLaw 112 = .ok (.invokevirtual 198, 3) := by decide +kernel
theorem dX4_tellLaw_115 : decode cX4_tellLaw 115 = .ok (.ireturn, 1) := by decide +kernel
theorem dX4_takePiece_0 : decode cX4_takePiece 0 = .ok (.aload_n 0, 1) := by decide +kernel
theorem dX4_takePiece_1 : decode cX4_takePiece 1 = .ok (.iconst 0, 1) := by decide +kernel
theorem dX4_takePiece_2 : decode cX4_takePiece 2 = .ok (.putfield 204, 3) := by decide +kernel
theorem dX4_takePiece_5 : decode cX4_takePiece 5 = .ok (.iconst 0, 1) := by decide +kernel
theorem dX4_takePiece_6 : decode cX4_takePiece 6 = .ok (.istore_n 2, 1) := by decide +kernel
theorem dX4_takePiece_7 : decode cX4_takePiece 7 = .ok (.iconst 1, 1) := by decide +kernel
theorem dX4_takePiece_8 : decode cX4_takePiece 8 = .ok (.istore_n 3, 1) := by decide +kernel
theorem dX4_takePiece_9 : decode cX4_takePiece 9 = .ok (.iconst 1, 1) := by decide +kernel
theorem dX4_takePiece_10 : decode cX4_takePiece 10 = .ok (.istore 4, 2) := by decide +kernel
theorem dX4_takePiece_12 : decode cX4_takePiece 12 = .ok (.iconst 0, 1) := by decide +kernel
theorem dX4_takePiece_13 : decode cX4_takePiece 13 = .ok (.istore 5, 2) := by decide +kernel
theorem dX4_takePiece_15 : decode cX4_takePiece 15 = .ok (.iload 5, 2) := by decide +kernel
theorem dX4_takePiece_17 : decode cX4_takePiece 17 = .ok (.sipush 400, 3) := by decide +kernel
theorem dX4_takePiece_20 : decode cX4_takePiece 20 = .ok (.if_icmp .gt 185, 3) := by decide +kernel
theorem dX4_takePiece_23 : decode cX4_takePiece 23 = .ok (.iload 4, 2) := by decide +kernel
theorem dX4_takePiece_25 : decode cX4_takePiece 25 = .ok (.ifCond .eq 180, 3) := by decide +kernel
theorem dX4_takePiece_28 : decode cX4_takePiece 28 = .ok (.aload_n 0, 1) := by decide +kernel
theorem dX4_takePiece_29 : decode cX4_takePiece 29 = .ok (.invokevirtual 62, 3) := by decide +kernel
theorem dX4_takePiece_32 : decode cX4_takePiece 32 = .ok (.istore 6, 2) := by decide +kernel
theorem dX4_takePiece_34 : decode cX4_takePiece 34 = .ok (.iload_n 3, 1) := by decide +kernel
theorem dX4_takePiece_35 : decode cX4_takePiece 35 = .ok (.ifCond .eq 34, 3) := by decide +kernel
theorem dX4_takePiece_38 : decode cX4_takePiece 38 = .ok (.iload 6, 2) := by decide +kernel
theorem dX4_takePiece_40 : decode cX4_takePiece 40 = .ok (.bipush 40, 2) := by decide +kernel
theorem dX4_takePiece_42 : decode cX4_takePiece 42 = .ok (.if_icmp .ne 27, 3) := by decide +kernel
theorem dX4_takePiece_45 : decode cX4_takePiece 45 = .ok (.iload_n 2, 1) := by decide +kernel
theorem dX4_takePiece_46 : decode cX4_takePiece 46 = .ok (.bipush 6, 2) := by decide +kernel
theorem dX4_takePiece_48 : decode cX4_takePiece 48 = .ok (.if_icmp .lt 9, 3) := by decide +kernel
theorem dX4_takePiece_51 : decode cX4_takePiece 51 = .ok (.aload_n 0, 1) := by decide +kernel
theorem dX4_takePiece_52 : decode cX4_takePiece 52 = .ok (.iconst 2, 1) := by decide +kernel
theorem dX4_takePiece_53 : decode cX4_takePiece 53 = .ok (.invokevirtual 136, 3) := by decide +kernel
theorem dX4_takePiece_56 : decode cX4_takePiece 56 = .ok (.ireturn, 1) := by decide +kernel
theorem dX4_takePiece_57 : decode cX4_takePiece 57 = .ok (.iinc 2 1, 3) := by decide +kernel
theorem dX4_takePiece_60 : decode cX4_takePiece 60 = .ok (.aload_n 0, 1) := by decide +kernel
theorem dX4_takePiece_61 : decode cX4_takePiece 61 = .ok (.iload 6, 2) := by decide +kernel
theorem dX4_takePiece_63 : decode cX4_takePiece 63 = .ok (.invokevirtual 207, 3) := by decide +kernel
theorem dX4_takePiece_66 : decode cX4_takePiece 66 = .ok (.goto 124, 3) := by decide +kernel
theorem dX4_takePiece_69 : decode cX4_takePiece 69 = .ok (.iload_n 3, 1) := by decide +kernel
theorem dX4_takePiece_70 : decode cX4_takePiece 70 = .ok (.ifCond .eq 23, 3) := by decide +kernel
theorem dX4_takePiece_73 : decode cX4_takePiece 73 = .ok (.aload_n 0, 1) := by decide +kernel
theorem dX4_takePiece_74 : decode cX4_takePiece 74 = .ok (.iload 6, 2) := by decide +kernel
theorem dX4_takePiece_76 : decode cX4_takePiece 76 = .ok (.invokevirtual 210, 3) := by decide +kernel
theorem dX4_takePiece_79 : decode cX4_takePiece 79 = .ok (.ifCond .ne 9, 3) := by decide +kernel
theorem dX4_takePiece_82 : decode cX4_takePiece 82 = .ok (.aload_n 0, 1) := by decide +kernel
theorem dX4_takePiece_83 : decode cX4_takePiece 83 = .ok (.iconst 1, 1) := by decide +kernel
theorem dX4_takePiece_84 : decode cX4_takePiece 84 = .ok (.invokevirtual 136, 3) := by decide +kernel
theorem dX4_takePiece_87 : decode cX4_takePiece 87 = .ok (.ireturn, 1) := by decide +kernel
theorem dX4_takePiece_88 : decode cX4_takePiece 88 = .ok (.iconst 0, 1) := by decide +kernel
theorem dX4_takePiece_89 : decode cX4_takePiece 89 = .ok (.istore_n 3, 1) := by decide +kernel
theorem dX4_takePiece_90 : decode cX4_takePiece 90 = .ok (.goto 100, 3) := by decide +kernel
theorem dX4_takePiece_93 : decode cX4_takePiece 93 = .ok (.iload 6, 2) := by decide +kernel
theorem dX4_takePiece_95 : decode cX4_takePiece 95 = .ok (.invokestatic 106, 3) := by decide +kernel
theorem dX4_takePiece_98 : decode cX4_takePiece 98 = .ok (.ifCond .eq 23, 3) := by decide +kernel
theorem dX4_takePiece_101 : decode cX4_takePiece 101 = .ok (.aload_n 0, 1) := by decide +kernel
theorem dX4_takePiece_102 : decode cX4_takePiece 102 = .ok (.iload 6, 2) := by decide +kernel
theorem dX4_takePiece_104 : decode cX4_takePiece 104 = .ok (.invokestatic 213, 3) := by decide +kernel
theorem dX4_takePiece_107 : decode cX4_takePiece 107 = .ok (.invokevirtual 216, 3) := by decide +kernel
theorem dX4_takePiece_110 : decode cX4_takePiece 110 = .ok (.aload_n 0, 1) := by decide +kernel
theorem dX4_takePiece_111 : decode cX4_takePiece 111 = .ok (.iload 6, 2) := by decide +kernel
theorem dX4_takePiece_113 : decode cX4_takePiece 113 = .ok (.invokevirtual 207, 3) := by decide +kernel
theorem dX4_takePiece_116 : decode cX4_takePiece 116 = .ok (.iconst 1, 1) := by decide +kernel
theorem dX4_takePiece_117 : decode cX4_takePiece 117 = .ok (.istore_n 3, 1) := by decide +kernel
theorem dX4_takePiece_118 : decode cX4_takePiece 118 = .ok (.goto 72, 3) := by decide +kernel
theorem dX4_takePiece_121 : decode cX4_takePiece 121 = .ok (.iload 6, 2) := by decide +kernel
theorem dX4_takePiece_123 : decode cX4_takePiece 123 = .ok (.bipush 41, 2) := by decide +kernel
theorem dX4_takePiece_125 : decode cX4_takePiece 125 = .ok (.if_icmp .ne 28, 3) := by decide +kernel
theorem dX4_takePiece_128 : decode cX4_takePiece 128 = .ok (.iload_n 2, 1) := by decide +kernel
theorem dX4_takePiece_129 : decode cX4_takePiece 129 = .ok (.ifCond .le 24, 3) := by decide +kernel
theorem dX4_takePiece_132 : decode cX4_takePiece 132 = .ok (.aload_n 0, 1) := by decide +kernel
theorem dX4_takePiece_133 : decode cX4_takePiece 133 = .ok (.iconst 1, 1) := by decide +kernel
theorem dX4_takePiece_134 : decode cX4_takePiece 134 = .ok (.invokevirtual 216, 3) := by decide +kernel
theorem dX4_takePiece_137 : decode cX4_takePiece 137 = .ok (.aload_n 0, 1) := by decide +kernel
theorem dX4_takePiece_138 : decode cX4_takePiece 138 = .ok (.dup, 1) := by decide +kernel
theorem dX4_takePiece_139 : decode cX4_takePiece 139 = .ok (.getfield 204, 3) := by decide +kernel
theorem dX4_takePiece_142 : decode cX4_takePiece 142 = .ok (.iconst 1, 1) := by decide +kernel
theorem dX4_takePiece_143 : decode cX4_takePiece 143 = .ok (.isub, 1) := by decide +kernel
theorem dX4_takePiece_144 : decode cX4_takePiece 144 = .ok (.putfield 204, 3) := by decide +kernel
theorem dX4_takePiece_147 : decode cX4_takePiece 147 = .ok (.iinc 2 (-1), 3) := by decide +kernel
theorem dX4_takePiece_150 : decode cX4_takePiece 150 = .ok (.goto 40, 3) := by decide +kernel
theorem dX4_takePiece_153 : decode cX4_takePiece 153 = .ok (.iload_n 2, 1) := by decide +kernel
theorem dX4_takePiece_154 : decode cX4_takePiece 154 = .ok (.ifCond .ne 30, 3) := by decide +kernel
theorem dX4_takePiece_157 : decode cX4_takePiece 157 = .ok (.iload 6, 2) := by decide +kernel
theorem dX4_takePiece_159 : decode cX4_takePiece 159 = .ok (.iload_n 1, 1) := by decide +kernel
theorem dX4_takePiece_160 : decode cX4_takePiece 160 = .ok (.if_icmp .ne 24, 3) := by decide +kernel
theorem dX4_takePiece_163 : decode cX4_takePiece 163 = .ok (.aload_n 0, 1) := by decide +kernel
theorem dX4_takePiece_164 : decode cX4_takePiece 164 = .ok (.iconst 1, 1) := by decide +kernel
theorem dX4_takePiece_165 : decode cX4_takePiece 165 = .ok (.invokevirtual 216, 3) := by decide +kernel
theorem dX4_takePiece_168 : decode cX4_takePiece 168 = .ok (.aload_n 0, 1) := by decide +kernel
theorem dX4_takePiece_169 : decode cX4_takePiece 169 = .ok (.getfield 39, 3) := by decide +kernel
theorem dX4_takePiece_172 : decode cX4_takePiece 172 = .ok (.getfield 189, 3) := by decide +kernel
theorem dX4_takePiece_175 : decode cX4_takePiece 175 = .ok (.invokevirtual 219, 3) := by decide +kernel
theorem dX4_takePiece_178 : decode cX4_takePiece 178 = .ok (.iconst 0, 1) := by decide +kernel
theorem dX4_takePiece_179 : decode cX4_takePiece 179 = .ok (.istore 4, 2) := by decide +kernel
theorem dX4_takePiece_181 : decode cX4_takePiece 181 = .ok (.goto 9, 3) := by decide +kernel
theorem dX4_takePiece_184 : decode cX4_takePiece 184 = .ok (.aload_n 0, 1) := by decide +kernel
theorem dX4_takePiece_185 : decode cX4_takePiece 185 = .ok (.iconst 1, 1) := by decide +kernel
theorem dX4_takePiece_186 : decode cX4_takePiece 186 = .ok (.invokevirtual 136, 3) := by decide +kernel
theorem dX4_takePiece_189 : decode cX4_takePiece 189 = .ok (.ireturn, 1) := by decide +kernel
theorem dX4_takePiece_190 : decode cX4_takePiece 190 = .ok (.aload_n 0, 1) := by decide +kernel
theorem dX4_takePiece_191 : decode cX4_takePiece 191 = .ok (.invokevirtual 139, 3) := by decide +kernel
theorem dX4_takePiece_194 : decode cX4_takePiece 194 = .ok (.ifCond .ne 5, 3) := by decide +kernel
theorem dX4_takePiece_197 : decode cX4_takePiece 197 = .ok (.iconst 0, 1) := by decide +kernel
theorem dX4_takePiece_198 : decode cX4_takePiece 198 = .ok (.ireturn, 1) := by decide +kernel
theorem dX4_takePiece_199 : decode cX4_takePiece 199 = .ok (.iinc 5 1, 3) := by decide +kernel
theorem dX4_takePiece_202 : decode cX4_takePiece 202 = .ok (.goto (-187), 3) := by decide +kernel
theorem dX4_takePiece_205 : decode cX4_takePiece 205 = .ok (.iload 4, 2) := by decide +kernel
theorem dX4_takePiece_207 : decode cX4_takePiece 207 = .ok (.ifCond .ne 7, 3) := by decide +kernel
theorem dX4_takePiece_210 : decode cX4_takePiece 210 = .ok (.iconst 1, 1) := by decide +kernel
theorem dX4_takePiece_211 : decode cX4_takePiece 211 = .ok (.goto 4, 3) := by decide +kernel
theorem dX4_takePiece_214 : decode cX4_takePiece 214 = .ok (.iconst 0, 1) := by decide +kernel
theorem dX4_takePiece_215 : decode cX4_takePiece 215 = .ok (.ireturn, 1) := by decide +kernel
theorem dX4_addUnit_0 : decode cX4_addUnit 0 = .ok (.iload_n 1, 1) := by decide +kernel
theorem dX4_addUnit_1 : decode cX4_addUnit 1 = .ok (.bipush 31, 2) := by decide +kernel
theorem dX4_addUnit_3 : decode cX4_addUnit 3 = .ok (.if_icmp .ne 20, 3) := by decide +kernel
theorem dX4_addUnit_6 : decode cX4_addUnit 6 = .ok (.aload_n 0, 1) := by decide +kernel
theorem dX4_addUnit_7 : decode cX4_addUnit 7 = .ok (.getfield 39, 3) := by decide +kernel
theorem dX4_addUnit_10 : decode cX4_addUnit 10 = .ok (.getfield 189, 3) := by decide +kernel
theorem dX4_addUnit_13 : decode cX4_addUnit 13 = .ok (.aload_n 0, 1) := by decide +kernel
theorem dX4_addUnit_14 : decode cX4_addUnit 14 = .ok (.invokevirtual 142, 3) := by decide +kernel
theorem dX4_addUnit_17 : decode cX4_addUnit 17 = .ok (.l2i, 1) := by decide +kernel
theorem dX4_addUnit_18 : decode cX4_addUnit 18 = .ok (.invokevirtual 222, 3) := by decide +kernel
theorem dX4_addUnit_21 : decode cX4_addUnit 21 = .ok (.iconst 1, 1) := by decide +kernel
theorem dX4_addUnit_22 : decode cX4_addUnit 22 = .ok (.ireturn, 1) := by decide +kernel
theorem dX4_addUnit_23 : decode cX4_addUnit 23 = .ok (.iload_n 1, 1) := by decide +kernel
theorem dX4_addUnit_24 : decode cX4_addUnit 24 = .ok (.bipush 16, 2) := by decide +kernel
theorem dX4_addUnit_26 : decode cX4_addUnit 26 = .ok (.if_icmp .lt 29, 3) := by decide +kernel
theorem dX4_addUnit_29 : decode cX4_addUnit 29 = .ok (.iload_n 1, 1) := by decide +kernel
theorem dX4_addUnit_30 : decode cX4_addUnit 30 = .ok (.bipush 24, 2) := by decide +kernel
theorem dX4_addUnit_32 : decode cX4_addUnit 32 = .ok (.if_icmp .gt 23, 3) := by decide +kernel
theorem dX4_addUnit_35 : decode cX4_addUnit 35 = .ok (.aload_n 0, 1) := by decide +kernel
theorem dX4_addUnit_36 : decode cX4_addUnit 36 = .ok (.getfield 39, 3) := by decide +kernel
theorem dX4_addUnit_39 : decode cX4_addUnit 39 = .ok (.getfield 189, 3) := by decide +kernel
theorem dX4_addUnit_42 : decode cX4_addUnit 42 = .ok (.sipush 10000, 3) := by decide +kernel
theorem dX4_addUnit_45 : decode cX4_addUnit 45 = .ok (.iload_n 1, 1) := by decide +kernel
theorem dX4_addUnit_46 : decode cX4_addUnit 46 = .ok (.iadd, 1) := by decide +kernel
theorem dX4_addUnit_47 : decode cX4_addUnit 47 = .ok (.bipush 16, 2) := by decide +kernel
theorem dX4_addUnit_49 : decode cX4_addUnit 49 = .ok (.isub, 1) := by decide +kernel
theorem dX4_addUnit_50 : decode cX4_addUnit 50 = .ok (.invokevirtual 222, 3) := by decide +kernel
theorem dX4_addUnit_53 : decode cX4_addUnit 53 = .ok (.iconst 1, 1) := by decide +kernel
theorem dX4_addUnit_54 : decode cX4_addUnit 54 = .ok (.ireturn, 1) := by decide +kernel
theorem dX4_addUnit_55 : decode cX4_addUnit 55 = .ok (.iconst 0, 1) := by decide +kernel
theorem dX4_addUnit_56 : decode cX4_addUnit 56 = .ok (.ireturn, 1) := by decide +kernel
theorem dX4_rank_0 : decode cX4_rank 0 = .ok (.iload_n 0, 1) := by decide +kernel
theorem dX4_rank_1 : decode cX4_rank 1 = .ok (.bipush 40, 2) := by decide +kernel
theorem dX4_rank_3 : decode cX4_rank 3 = .ok (.if_icmp .ne 5, 3) := by decide +kernel
theorem dX4_rank_6 : decode cX4_rank 6 = .ok (.iconst 0, 1) := by decide +kernel
theorem dX4_rank_7 : decode cX4_rank 7 = .ok (.ireturn, 1) := by decide +kernel
theorem dX4_rank_8 : decode cX4_rank 8 = .ok (.iload_n 0, 1) := by decide +kernel
theorem dX4_rank_9 : decode cX4_rank 9 = .ok (.bipush 42, 2) := by decide +kernel
theorem dX4_rank_11 : decode cX4_rank 11 = .ok (.if_icmp .eq 9, 3) := by decide +kernel
theorem dX4_rank_14 : decode cX4_rank 14 = .ok (.iload_n 0, 1) := by decide +kernel
theorem dX4_rank_15 : decode cX4_rank 15 = .ok (.bipush 47, 2) := by decide +kernel
theorem dX4_rank_17 : decode cX4_rank 17 = .ok (.if_icmp .ne 7, 3) := by decide +kernel
theorem dX4_rank_20 : decode cX4_rank 20 = .ok (.iconst 2, 1) := by decide +kernel
theorem dX4_rank_21 : decode cX4_rank 21 = .ok (.goto 4, 3) := by decide +kernel
theorem dX4_rank_24 : decode cX4_rank 24 = .ok (.iconst 1, 1) := by decide +kernel
theorem dX4_rank_25 : decode cX4_rank 25 = .ok (.ireturn, 1) := by decide +kernel
theorem dX4_addWaiting_0 : decode cX4_addWaiting 0 = .ok (.aload_n 0, 1) := by decide +kernel
theorem dX4_addWaiting_1 : decode cX4_addWaiting 1 = .ok (.getfield 29, 3) := by decide +kernel
theorem dX4_addWaiting_4 : decode cX4_addWaiting 4 = .ok (.aload_n 0, 1) := by decide +kernel
theorem dX4_addWaiting_5 : decode cX4_addWaiting 5 = .ok (.getfield 204, 3) := by decide +kernel
theorem dX4_addWaiting_8 : decode cX4_addWaiting 8 = .ok (.iload_n 1, 1) := by decide +kernel
theorem dX4_addWaiting_9 : decode cX4_addWaiting 9 = .ok (.invokestatic 128, 3) := by decide +kernel
theorem dX4_addWaiting_12 : decode cX4_addWaiting 12 = .ok (.aload_n 0, 1) := by decide +kernel
theorem dX4_addWaiting_13 : decode cX4_addWaiting 13 = .ok (.dup, 1) := by decide +kernel
theorem dX4_addWaiting_14 : decode cX4_addWaiting 14 = .ok (.getfield 204, 3) := by decide +kernel
theorem dX4_addWaiting_17 : decode cX4_addWaiting 17 = .ok (.iconst 1, 1) := by decide +kernel
theorem dX4_addWaiting_18 : decode cX4_addWaiting 18 = .ok (.iadd, 1) := by decide +kernel
theorem dX4_addWaiting_19 : decode cX4_addWaiting 19 = .ok (.putfield 204, 3) := by decide +kernel
theorem dX4_addWaiting_22 : decode cX4_addWaiting 22 = .ok (.return_, 1) := by decide +kernel
theorem dX4_endWaiting_0 : decode cX4_endWaiting 0 = .ok (.aload_n 0, 1) := by decide +kernel
theorem dX4_endWaiting_1 : decode cX4_endWaiting 1 = .ok (.getfield 204, 3) := by decide +kernel
theorem dX4_endWaiting_4 : decode cX4_endWaiting 4 = .ok (.ifCond .le 61, 3) := by decide +kernel
theorem dX4_endWaiting_7 : decode cX4_endWaiting 7 = .ok (.aload_n 0, 1) := by decide +kernel
theorem dX4_endWaiting_8 : decode cX4_endWaiting 8 = .ok (.getfield 29, 3) := by decide +kernel
theorem dX4_endWaiting_11 : decode cX4_endWaiting 11 = .ok (.aload_n 0, 1) := by decide +kernel
theorem dX4_endWaiting_12 : decode cX4_endWaiting 12 = .ok (.getfield 204, 3) := by decide +kernel
theorem dX4_endWaiting_15 : decode cX4_endWaiting 15 = .ok (.iconst 1, 1) := by decide +kernel
theorem dX4_endWaiting_16 : decode cX4_endWaiting 16 = .ok (.isub, 1) := by decide +kernel
theorem dX4_endWaiting_17 : decode cX4_endWaiting 17 = .ok (.invokestatic 132, 3) := by decide +kernel
theorem dX4_endWaiting_20 : decode cX4_endWaiting 20 = .ok (.invokestatic 213, 3) := by decide +kernel
theorem dX4_endWaiting_23 : decode cX4_endWaiting 23 = .ok (.iload_n 1, 1) := by decide +kernel
theorem dX4_endWaiting_24 : decode cX4_endWaiting 24 = .ok (.if_icmp .lt 41, 3) := by decide +kernel
theorem dX4_endWaiting_27 : decode cX4_endWaiting 27 = .ok (.aload_n 0, 1) := by decide +kernel
theorem dX4_endWaiting_28 : decode cX4_endWaiting 28 = .ok (.dup, 1) := by decide +kernel
theorem dX4_endWaiting_29 : decode cX4_endWaiting 29 = .ok (.getfield 204, 3) := by decide +kernel
theorem dX4_endWaiting_32 : decode cX4_endWaiting 32 = .ok (.iconst 1, 1) := by decide +kernel
theorem dX4_endWaiting_33 : decode cX4_endWaiting 33 = .ok (.isub, 1) := by decide +kernel
theorem dX4_endWaiting_34 : decode cX4_endWaiting 34 = .ok (.putfield 204, 3) := by decide +kernel
theorem dX4_endWaiting_37 : decode cX4_endWaiting 37 = .ok (.aload_n 0, 1) := by decide +kernel
theorem dX4_endWaiting_38 : decode cX4_endWaiting 38 = .ok (.getfield 39, 3) := by decide +kernel
theorem dX4_endWaiting_41 : decode cX4_endWaiting 41 = .ok (.getfield 189, 3) := by decide +kernel
theorem dX4_endWaiting_44 : decode cX4_endWaiting 44 = .ok (.sipush 20000, 3) := by decide +kernel
theorem dX4_endWaiting_47 : decode cX4_endWaiting 47 = .ok (.aload_n 0, 1) := by decide +kernel
theorem dX4_endWaiting_48 : decode cX4_endWaiting 48 = .ok (.getfield 29, 3) := by decide +kernel
theorem dX4_endWaiting_51 : decode cX4_endWaiting 51 = .ok (.aload_n 0, 1) := by decide +kernel
theorem dX4_endWaiting_52 : decode cX4_endWaiting 52 = .ok (.getfield 204, 3) := by decide +kernel
theorem dX4_endWaiting_55 : decode cX4_endWaiting 55 = .ok (.invokestatic 132, 3) := by decide +kernel
theorem dX4_endWaiting_58 : decode cX4_endWaiting 58 = .ok (.iadd, 1) := by decide +kernel
theorem dX4_endWaiting_59 : decode cX4_endWaiting 59 = .ok (.invokevirtual 222, 3) := by decide +kernel
theorem dX4_endWaiting_62 : decode cX4_endWaiting 62 = .ok (.goto (-62), 3) := by decide +kernel
theorem dX4_endWaiting_65 : decode cX4_endWaiting 65 = .ok (.return_, 1) := by decide +kernel
