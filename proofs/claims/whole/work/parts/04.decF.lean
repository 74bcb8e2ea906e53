theorem d_F_init_0 : decode b_F_init 0 = .ok (.aload_n 0, 1) := by decide +kernel
theorem d_F_init_1 : decode b_F_init 1 = .ok (.invokespecial 1, 3) := by decide +kernel
theorem d_F_init_4 : decode b_F_init 4 = .ok (.return_, 1) := by decide +kernel
theorem d_F_product_0 : decode b_F_product 0 = .ok (.iload_n 1, 1) := by decide +kernel
theorem d_F_product_1 : decode b_F_product 1 = .ok (.i2l, 1) := by decide +kernel
theorem d_F_product_2 : decode b_F_product 2 = .ok (.iload_n 2, 1) := by decide +kernel
theorem d_F_product_3 : decode b_F_product 3 = .ok (.i2l, 1) := by decide +kernel
theorem d_F_product_4 : decode b_F_product 4 = .ok (.lmul, 1) := by decide +kernel
theorem d_F_product_5 : decode b_F_product 5 = .ok (.bipush 16, 2) := by decide +kernel
theorem d_F_product_7 : decode b_F_product 7 = .ok (.lshr, 1) := by decide +kernel
theorem d_F_product_8 : decode b_F_product 8 = .ok (.l2i, 1) := by decide +kernel
theorem d_F_product_9 : decode b_F_product 9 = .ok (.ireturn, 1) := by decide +kernel
theorem d_F_quotient_0 : decode b_F_quotient 0 = .ok (.iload_n 2, 1) := by decide +kernel
theorem d_F_quotient_1 : decode b_F_quotient 1 = .ok (.ifCond .ne 23, 3) := by decide +kernel
theorem d_F_quotient_4 : decode b_F_quotient 4 = .ok (.iload_n 1, 1) := by decide +kernel
theorem d_F_quotient_5 : decode b_F_quotient 5 = .ok (.ifCond .le 8, 3) := by decide +kernel
theorem d_F_quotient_8 : decode b_F_quotient 8 = .ok (.ldc 9, 2) := by decide +kernel
theorem d_F_quotient_10 : decode b_F_quotient 10 = .ok (.goto 13, 3) := by decide +kernel
theorem d_F_quotient_13 : decode b_F_quotient 13 = .ok (.iload_n 1, 1) := by decide +kernel
theorem d_F_quotient_14 : decode b_F_quotient 14 = .ok (.ifCond .ge 8, 3) := by decide +kernel
theorem d_F_quotient_17 : decode b_F_quotient 17 = .ok (.ldc 10, 2) := by decide +kernel
theorem d_F_quotient_19 : decode b_F_quotient 19 = .ok (.goto 4, 3) := by decide +kernel
theorem d_F_quotient_22 : decode b_F_quotient 22 = .ok (.iconst 0, 1) := by decide +kernel
theorem d_F_quotient_23 : decode b_F_quotient 23 = .ok (.ireturn, 1) := by decide +kernel
theorem d_F_quotient_24 : decode b_F_quotient 24 = .ok (.ldc2_w 11, 3) := by decide +kernel
theorem d_F_quotient_27 : decode b_F_quotient 27 = .ok (.iload_n 1, 1) := by decide +kernel
theorem d_F_quotient_28 : decode b_F_quotient 28 = .ok (.i2l, 1) := by decide +kernel
theorem d_F_quotient_29 : decode b_F_quotient 29 = .ok (.lmul, 1) := by decide +kernel
theorem d_F_quotient_30 : decode b_F_quotient 30 = .ok (.iload_n 2, 1) := by decide +kernel
theorem d_F_quotient_31 : decode b_F_quotient 31 = .ok (.i2l, 1) := by decide +kernel
theorem d_F_quotient_32 : decode b_F_quotient 32 = .ok (.invokestatic 13, 3) := by decide +kernel
theorem d_F_quotient_35 : decode b_F_quotient 35 = .ok (.invokestatic 19, 3) := by decide +kernel
theorem d_F_quotient_38 : decode b_F_quotient 38 = .ok (.ireturn, 1) := by decide +kernel
theorem d_J_floorDiv_0 : decode b_J_floorDiv 0 = .ok (.lload_n 0, 1) := by decide +kernel
theorem d_J_floorDiv_1 : decode b_J_floorDiv 1 = .ok (.lload_n 2, 1) := by decide +kernel
theorem d_J_floorDiv_2 : decode b_J_floorDiv 2 = .ok (.ldiv, 1) := by decide +kernel
theorem d_J_floorDiv_3 : decode b_J_floorDiv 3 = .ok (.lstore 4, 2) := by decide +kernel
theorem d_J_floorDiv_5 : decode b_J_floorDiv 5 = .ok (.lload_n 0, 1) := by decide +kernel
theorem d_J_floorDiv_6 : decode b_J_floorDiv 6 = .ok (.lload_n 2, 1) := by decide +kernel
theorem d_J_floorDiv_7 : decode b_J_floorDiv 7 = .ok (.lxor, 1) := by decide +kernel
theorem d_J_floorDiv_8 : decode b_J_floorDiv 8 = .ok (.lconst 0, 1) := by decide +kernel
theorem d_J_floorDiv_9 : decode b_J_floorDiv 9 = .ok (.lcmp, 1) := by decide +kernel
theorem d_J_floorDiv_10 : decode b_J_floorDiv 10 = .ok (.ifCond .ge 17, 3) := by decide +kernel
theorem d_J_floorDiv_13 : decode b_J_floorDiv 13 = .ok (.lload 4, 2) := by decide +kernel
theorem d_J_floorDiv_15 : decode b_J_floorDiv 15 = .ok (.lload_n 2, 1) := by decide +kernel
theorem d_J_floorDiv_16 : decode b_J_floorDiv 16 = .ok (.lmul, 1) := by decide +kernel
theorem d_J_floorDiv_17 : decode b_J_floorDiv 17 = .ok (.lload_n 0, 1) := by decide +kernel
theorem d_J_floorDiv_18 : decode b_J_floorDiv 18 = .ok (.lcmp, 1) := by decide +kernel
theorem d_J_floorDiv_19 : decode b_J_floorDiv 19 = .ok (.ifCond .eq 8, 3) := by decide +kernel
theorem d_J_floorDiv_22 : decode b_J_floorDiv 22 = .ok (.lload 4, 2) := by decide +kernel
theorem d_J_floorDiv_24 : decode b_J_floorDiv 24 = .ok (.lconst 1, 1) := by decide +kernel
theorem d_J_floorDiv_25 : decode b_J_floorDiv 25 = .ok (.lsub, 1) := by decide +kernel
theorem d_J_floorDiv_26 : decode b_J_floorDiv 26 = .ok (.lreturn, 1) := by decide +kernel
theorem d_J_floorDiv_27 : decode b_J_floorDiv 27 = .ok (.lload 4, 2) := by decide +kernel
theorem d_J_floorDiv_29 : decode b_J_floorDiv 29 = .ok (.lreturn, 1) := by decide +kernel
theorem d_F_cut_0 : decode b_F_cut 0 = .ok (.ldc2_w 97, 3) := by decide +kernel
theorem d_F_cut_3 : decode b_F_cut 3 = .ok (.lload_n 0, 1) := by decide +kernel
theorem d_F_cut_4 : decode b_F_cut 4 = .ok (.ldc2_w 99, 3) := by decide +kernel
theorem d_F_cut_7 : decode b_F_cut 7 = .ok (.invokestatic 101, 3) := by decide +kernel
theorem d_F_cut_10 : decode b_F_cut 10 = .ok (.invokestatic 103, 3) := by decide +kernel
theorem d_F_cut_13 : decode b_F_cut 13 = .ok (.l2i, 1) := by decide +kernel
theorem d_F_cut_14 : decode b_F_cut 14 = .ok (.ireturn, 1) := by decide +kernel
theorem d_F_root_0 : decode b_F_root 0 = .ok (.iload_n 1, 1) := by decide +kernel
theorem d_F_root_1 : decode b_F_root 1 = .ok (.ifCond .ge 5, 3) := by decide +kernel
theorem d_F_root_4 : decode b_F_root 4 = .ok (.iconst 0, 1) := by decide +kernel
theorem d_F_root_5 : decode b_F_root 5 = .ok (.ireturn, 1) := by decide +kernel
theorem d_F_root_6 : decode b_F_root 6 = .ok (.ldc2_w 11, 3) := by decide +kernel
theorem d_F_root_9 : decode b_F_root 9 = .ok (.iload_n 1, 1) := by decide +kernel
theorem d_F_root_10 : decode b_F_root 10 = .ok (.i2l, 1) := by decide +kernel
theorem d_F_root_11 : decode b_F_root 11 = .ok (.lmul, 1) := by decide +kernel
theorem d_F_root_12 : decode b_F_root 12 = .ok (.invokestatic 23, 3) := by decide +kernel
theorem d_F_root_15 : decode b_F_root 15 = .ok (.ireturn, 1) := by decide +kernel
theorem d_F_wholeRoot_0 : decode b_F_wholeRoot 0 = .ok (.lconst 0, 1) := by decide +kernel
theorem d_F_wholeRoot_1 : decode b_F_wholeRoot 1 = .ok (.lstore_n 2, 1) := by decide +kernel
theorem d_F_wholeRoot_2 : decode b_F_wholeRoot 2 = .ok (.bipush 24, 2) := by decide +kernel
theorem d_F_wholeRoot_4 : decode b_F_wholeRoot 4 = .ok (.istore 4, 2) := by decide +kernel
theorem d_F_wholeRoot_6 : decode b_F_wholeRoot 6 = .ok (.iload 4, 2) := by decide +kernel
theorem d_F_wholeRoot_8 : decode b_F_wholeRoot 8 = .ok (.ifCond .lt 30, 3) := by decide +kernel
theorem d_F_wholeRoot_11 : decode b_F_wholeRoot 11 = .ok (.lload_n 2, 1) := by decide +kernel
theorem d_F_wholeRoot_12 : decode b_F_wholeRoot 12 = .ok (.lconst 1, 1) := by decide +kernel
theorem d_F_wholeRoot_13 : decode b_F_wholeRoot 13 = .ok (.iload 4, 2) := by decide +kernel
theorem d_F_wholeRoot_15 : decode b_F_wholeRoot 15 = .ok (.lshl, 1) := by decide +kernel
theorem d_F_wholeRoot_16 : decode b_F_wholeRoot 16 = .ok (.ladd, 1) := by decide +kernel
theorem d_F_wholeRoot_17 : decode b_F_wholeRoot 17 = .ok (.lstore 5, 2) := by decide +kernel
theorem d_F_wholeRoot_19 : decode b_F_wholeRoot 19 = .ok (.lload 5, 2) := by decide +kernel
theorem d_F_wholeRoot_21 : decode b_F_wholeRoot 21 = .ok (.lload 5, 2) := by decide +kernel
theorem d_F_wholeRoot_23 : decode b_F_wholeRoot 23 = .ok (.lmul, 1) := by decide +kernel
theorem d_F_wholeRoot_24 : decode b_F_wholeRoot 24 = .ok (.lload_n 0, 1) := by decide +kernel
theorem d_F_wholeRoot_25 : decode b_F_wholeRoot 25 = .ok (.lcmp, 1) := by decide +kernel
theorem d_F_wholeRoot_26 : decode b_F_wholeRoot 26 = .ok (.ifCond .gt 6, 3) := by decide +kernel
theorem d_F_wholeRoot_29 : decode b_F_wholeRoot 29 = .ok (.lload 5, 2) := by decide +kernel
theorem d_F_wholeRoot_31 : decode b_F_wholeRoot 31 = .ok (.lstore_n 2, 1) := by decide +kernel
theorem d_F_wholeRoot_32 : decode b_F_wholeRoot 32 = .ok (.iinc 4 (-1), 3) := by decide +kernel
theorem d_F_wholeRoot_35 : decode b_F_wholeRoot 35 = .ok (.goto (-29), 3) := by decide +kernel
theorem d_F_wholeRoot_38 : decode b_F_wholeRoot 38 = .ok (.lload_n 2, 1) := by decide +kernel
theorem d_F_wholeRoot_39 : decode b_F_wholeRoot 39 = .ok (.l2i, 1) := by decide +kernel
theorem d_F_wholeRoot_40 : decode b_F_wholeRoot 40 = .ok (.ireturn, 1) := by decide +kernel
theorem d_F_oneByRoot_0 : decode b_F_oneByRoot 0 = .ok (.iload_n 1, 1) := by decide +kernel
theorem d_F_oneByRoot_1 : decode b_F_oneByRoot 1 = .ok (.ifCond .gt 6, 3) := by decide +kernel
theorem d_F_oneByRoot_4 : decode b_F_oneByRoot 4 = .ok (.ldc 9, 2) := by decide +kernel
theorem d_F_oneByRoot_6 : decode b_F_oneByRoot 6 = .ok (.ireturn, 1) := by decide +kernel
theorem d_F_oneByRoot_7 : decode b_F_oneByRoot 7 = .ok (.ldc2_w 26, 3) := by decide +kernel
theorem d_F_oneByRoot_10 : decode b_F_oneByRoot 10 = .ok (.iload_n 1, 1) := by decide +kernel
theorem d_F_oneByRoot_11 : decode b_F_oneByRoot 11 = .ok (.i2l, 1) := by decide +kernel
theorem d_F_oneByRoot_12 : decode b_F_oneByRoot 12 = .ok (.ldiv, 1) := by decide +kernel
theorem d_F_oneByRoot_13 : decode b_F_oneByRoot 13 = .ok (.invokestatic 23, 3) := by decide +kernel
theorem d_F_oneByRoot_16 : decode b_F_oneByRoot 16 = .ok (.ireturn, 1) := by decide +kernel
theorem d_F_channel_0 : decode b_F_channel 0 = .ok (.iconst 0, 1) := by decide +kernel
theorem d_F_channel_1 : decode b_F_channel 1 = .ok (.iload_n 1, 1) := by decide +kernel
theorem d_F_channel_2 : decode b_F_channel 2 = .ok (.ldc 67, 2) := by decide +kernel
theorem d_F_channel_4 : decode b_F_channel 4 = .ok (.invokestatic 68, 3) := by decide +kernel
theorem d_F_channel_7 : decode b_F_channel 7 = .ok (.invokestatic 72, 3) := by decide +kernel
theorem d_F_channel_10 : decode b_F_channel 10 = .ok (.istore_n 2, 1) := by decide +kernel
theorem d_F_channel_11 : decode b_F_channel 11 = .ok (.sipush 255, 3) := by decide +kernel
theorem d_F_channel_14 : decode b_F_channel 14 = .ok (.iload_n 2, 1) := by decide +kernel
theorem d_F_channel_15 : decode b_F_channel 15 = .ok (.imul, 1) := by decide +kernel
theorem d_F_channel_16 : decode b_F_channel 16 = .ok (.ldc 75, 2) := by decide +kernel
theorem d_F_channel_18 : decode b_F_channel 18 = .ok (.iadd, 1) := by decide +kernel
theorem d_F_channel_19 : decode b_F_channel 19 = .ok (.bipush 16, 2) := by decide +kernel
theorem d_F_channel_21 : decode b_F_channel 21 = .ok (.ishr, 1) := by decide +kernel
theorem d_F_channel_22 : decode b_F_channel 22 = .ok (.ireturn, 1) := by decide +kernel
theorem d_F_fromHalf_0 : decode b_F_fromHalf 0 = .ok (.iload_n 1, 1) := by decide +kernel
theorem d_F_fromHalf_1 : decode b_F_fromHalf 1 = .ok (.ldc 75, 2) := by decide +kernel
theorem d_F_fromHalf_3 : decode b_F_fromHalf 3 = .ok (.iand, 1) := by decide +kernel
theorem d_F_fromHalf_4 : decode b_F_fromHalf 4 = .ok (.ifCond .eq 7, 3) := by decide +kernel
theorem d_F_fromHalf_7 : decode b_F_fromHalf 7 = .ok (.iconst 1, 1) := by decide +kernel
theorem d_F_fromHalf_8 : decode b_F_fromHalf 8 = .ok (.goto 4, 3) := by decide +kernel
theorem d_F_fromHalf_11 : decode b_F_fromHalf 11 = .ok (.iconst 0, 1) := by decide +kernel
theorem d_F_fromHalf_12 : decode b_F_fromHalf 12 = .ok (.istore_n 2, 1) := by decide +kernel
theorem d_F_fromHalf_13 : decode b_F_fromHalf 13 = .ok (.iload_n 1, 1) := by decide +kernel
theorem d_F_fromHalf_14 : decode b_F_fromHalf 14 = .ok (.bipush 10, 2) := by decide +kernel
theorem d_F_fromHalf_16 : decode b_F_fromHalf 16 = .ok (.ishr, 1) := by decide +kernel
theorem d_F_fromHalf_17 : decode b_F_fromHalf 17 = .ok (.bipush 31, 2) := by decide +kernel
theorem d_F_fromHalf_19 : decode b_F_fromHalf 19 = .ok (.iand, 1) := by decide +kernel
theorem d_F_fromHalf_20 : decode b_F_fromHalf 20 = .ok (.istore_n 3, 1) := by decide +kernel
theorem d_F_fromHalf_21 : decode b_F_fromHalf 21 = .ok (.iload_n 1, 1) := by decide +kernel
theorem d_F_fromHalf_22 : decode b_F_fromHalf 22 = .ok (.sipush 1023, 3) := by decide +kernel
theorem d_F_fromHalf_25 : decode b_F_fromHalf 25 = .ok (.iand, 1) := by decide +kernel
theorem d_F_fromHalf_26 : decode b_F_fromHalf 26 = .ok (.istore 4, 2) := by decide +kernel
theorem d_F_fromHalf_28 : decode b_F_fromHalf 28 = .ok (.iload_n 3, 1) := by decide +kernel
theorem d_F_fromHalf_29 : decode b_F_fromHalf 29 = .ok (.bipush 31, 2) := by decide +kernel
theorem d_F_fromHalf_31 : decode b_F_fromHalf 31 = .ok (.if_icmp .ne 24, 3) := by decide +kernel
theorem d_F_fromHalf_34 : decode b_F_fromHalf 34 = .ok (.iload 4, 2) := by decide +kernel
theorem d_F_fromHalf_36 : decode b_F_fromHalf 36 = .ok (.ifCond .eq 7, 3) := by decide +kernel
theorem d_F_fromHalf_39 : decode b_F_fromHalf 39 = .ok (.iconst 0, 1) := by decide +kernel
theorem d_F_fromHalf_40 : decode b_F_fromHalf 40 = .ok (.goto 14, 3) := by decide +kernel
theorem d_F_fromHalf_43 : decode b_F_fromHalf 43 = .ok (.iload_n 2, 1) := by decide +kernel
theorem d_F_fromHalf_44 : decode b_F_fromHalf 44 = .ok (.ifCond .eq 8, 3) := by decide +kernel
theorem d_F_fromHalf_47 : decode b_F_fromHalf 47 = .ok (.ldc 10, 2) := by decide +kernel
theorem d_F_fromHalf_49 : decode b_F_fromHalf 49 = .ok (.goto 5, 3) := by decide +kernel
theorem d_F_fromHalf_52 : decode b_F_fromHalf 52 = .ok (.ldc 9, 2) := by decide +kernel
theorem d_F_fromHalf_54 : decode b_F_fromHalf 54 = .ok (.ireturn, 1) := by decide +kernel
theorem d_F_fromHalf_55 : decode b_F_fromHalf 55 = .ok (.iload_n 3, 1) := by decide +kernel
theorem d_F_fromHalf_56 : decode b_F_fromHalf 56 = .ok (.ifCond .ne 9, 3) := by decide +kernel
theorem d_F_fromHalf_59 : decode b_F_fromHalf 59 = .ok (.iload 4, 2) := by decide +kernel
theorem d_F_fromHalf_61 : decode b_F_fromHalf 61 = .ok (.i2l, 1) := by decide +kernel
theorem d_F_fromHalf_62 : decode b_F_fromHalf 62 = .ok (.goto 10, 3) := by decide +kernel
theorem d_F_fromHalf_65 : decode b_F_fromHalf 65 = .ok (.sipush 1024, 3) := by decide +kernel
theorem d_F_fromHalf_68 : decode b_F_fromHalf 68 = .ok (.iload 4, 2) := by decide +kernel
theorem d_F_fromHalf_70 : decode b_F_fromHalf 70 = .ok (.iadd, 1) := by decide +kernel
theorem d_F_fromHalf_71 : decode b_F_fromHalf 71 = .ok (.i2l, 1) := by decide +kernel
theorem d_F_fromHalf_72 : decode b_F_fromHalf 72 = .ok (.lstore 5, 2) := by decide +kernel
theorem d_F_fromHalf_74 : decode b_F_fromHalf 74 = .ok (.iload_n 3, 1) := by decide +kernel
theorem d_F_fromHalf_75 : decode b_F_fromHalf 75 = .ok (.iconst 1, 1) := by decide +kernel
theorem d_F_fromHalf_76 : decode b_F_fromHalf 76 = .ok (.invokestatic 72, 3) := by decide +kernel
theorem d_F_fromHalf_79 : decode b_F_fromHalf 79 = .ok (.istore 7, 2) := by decide +kernel
theorem d_F_fromHalf_81 : decode b_F_fromHalf 81 = .ok (.iload_n 2, 1) := by decide +kernel
theorem d_F_fromHalf_82 : decode b_F_fromHalf 82 = .ok (.ifCond .eq 9, 3) := by decide +kernel
theorem d_F_fromHalf_85 : decode b_F_fromHalf 85 = .ok (.lload 5, 2) := by decide +kernel
theorem d_F_fromHalf_87 : decode b_F_fromHalf 87 = .ok (.lneg, 1) := by decide +kernel
theorem d_F_fromHalf_88 : decode b_F_fromHalf 88 = .ok (.goto 5, 3) := by decide +kernel
theorem d_F_fromHalf_91 : decode b_F_fromHalf 91 = .ok (.lload 5, 2) := by decide +kernel
theorem d_F_fromHalf_93 : decode b_F_fromHalf 93 = .ok (.lstore 8, 2) := by decide +kernel
theorem d_F_fromHalf_95 : decode b_F_fromHalf 95 = .ok (.iload 7, 2) := by decide +kernel
theorem d_F_fromHalf_97 : decode b_F_fromHalf 97 = .ok (.bipush 9, 2) := by decide +kernel
theorem d_F_fromHalf_99 : decode b_F_fromHalf 99 = .ok (.if_icmp .lt 14, 3) := by decide +kernel
theorem d_F_fromHalf_102 : decode b_F_fromHalf 102 = .ok (.lload 8, 2) := by decide +kernel
theorem d_F_fromHalf_104 : decode b_F_fromHalf 104 = .ok (.iload 7, 2) := by decide +kernel
theorem d_F_fromHalf_106 : decode b_F_fromHalf 106 = .ok (.bipush 9, 2) := by decide +kernel
theorem d_F_fromHalf_108 : decode b_F_fromHalf 108 = .ok (.isub, 1) := by decide +kernel
theorem d_F_fromHalf_109 : decode b_F_fromHalf 109 = .ok (.lshl, 1) := by decide +kernel
theorem d_F_fromHalf_110 : decode b_F_fromHalf 110 = .ok (.goto 11, 3) := by decide +kernel
theorem d_F_fromHalf_113 : decode b_F_fromHalf 113 = .ok (.lload 8, 2) := by decide +kernel
theorem d_F_fromHalf_115 : decode b_F_fromHalf 115 = .ok (.bipush 9, 2) := by decide +kernel
theorem d_F_fromHalf_117 : decode b_F_fromHalf 117 = .ok (.iload 7, 2) := by decide +kernel
theorem d_F_fromHalf_119 : decode b_F_fromHalf 119 = .ok (.isub, 1) := by decide +kernel
theorem d_F_fromHalf_120 : decode b_F_fromHalf 120 = .ok (.lshr, 1) := by decide +kernel
theorem d_F_fromHalf_121 : decode b_F_fromHalf 121 = .ok (.invokestatic 19, 3) := by decide +kernel
theorem d_F_fromHalf_124 : decode b_F_fromHalf 124 = .ok (.ireturn, 1) := by decide +kernel
theorem d_F_toHalf_0 : decode b_F_toHalf 0 = .ok (.iload_n 1, 1) := by decide +kernel
theorem d_F_toHalf_1 : decode b_F_toHalf 1 = .ok (.ifCond .ge 8, 3) := by decide +kernel
theorem d_F_toHalf_4 : decode b_F_toHalf 4 = .ok (.ldc 75, 2) := by decide +kernel
theorem d_F_toHalf_6 : decode b_F_toHalf 6 = .ok (.goto 4, 3) := by decide +kernel
theorem d_F_toHalf_9 : decode b_F_toHalf 9 = .ok (.iconst 0, 1) := by decide +kernel
theorem d_F_toHalf_10 : decode b_F_toHalf 10 = .ok (.istore_n 2, 1) := by decide +kernel
theorem d_F_toHalf_11 : decode b_F_toHalf 11 = .ok (.iload_n 1, 1) := by decide +kernel
theorem d_F_toHalf_12 : decode b_F_toHalf 12 = .ok (.i2l, 1) := by decide +kernel
theorem d_F_toHalf_13 : decode b_F_toHalf 13 = .ok (.invokestatic 35, 3) := by decide +kernel
theorem d_F_toHalf_16 : decode b_F_toHalf 16 = .ok (.lstore_n 3, 1) := by decide +kernel
theorem d_F_toHalf_17 : decode b_F_toHalf 17 = .ok (.lload_n 3, 1) := by decide +kernel
theorem d_F_toHalf_18 : decode b_F_toHalf 18 = .ok (.ldc2_w 88, 3) := by decide +kernel
theorem d_F_toHalf_21 : decode b_F_toHalf 21 = .ok (.lcmp, 1) := by decide +kernel
theorem d_F_toHalf_22 : decode b_F_toHalf 22 = .ok (.ifCond .ge 11, 3) := by decide +kernel
theorem d_F_toHalf_25 : decode b_F_toHalf 25 = .ok (.iload_n 2, 1) := by decide +kernel
theorem d_F_toHalf_26 : decode b_F_toHalf 26 = .ok (.lload_n 3, 1) := by decide +kernel
theorem d_F_toHalf_27 : decode b_F_toHalf 27 = .ok (.bipush 8, 2) := by decide +kernel
theorem d_F_toHalf_29 : decode b_F_toHalf 29 = .ok (.lshl, 1) := by decide +kernel
theorem d_F_toHalf_30 : decode b_F_toHalf 30 = .ok (.l2i, 1) := by decide +kernel
theorem d_F_toHalf_31 : decode b_F_toHalf 31 = .ok (.ior, 1) := by decide +kernel
theorem d_F_toHalf_32 : decode b_F_toHalf 32 = .ok (.ireturn, 1) := by decide +kernel
theorem d_F_toHalf_33 : decode b_F_toHalf 33 = .ok (.lload_n 3, 1) := by decide +kernel
theorem d_F_toHalf_34 : decode b_F_toHalf 34 = .ok (.invokestatic 90, 3) := by decide +kernel
theorem d_F_toHalf_37 : decode b_F_toHalf 37 = .ok (.istore 5, 2) := by decide +kernel
theorem d_F_toHalf_39 : decode b_F_toHalf 39 = .ok (.iload 5, 2) := by decide +kernel
theorem d_F_toHalf_41 : decode b_F_toHalf 41 = .ok (.iconst 1, 1) := by decide +kernel
theorem d_F_toHalf_42 : decode b_F_toHalf 42 = .ok (.isub, 1) := by decide +kernel
theorem d_F_toHalf_43 : decode b_F_toHalf 43 = .ok (.istore 6, 2) := by decide +kernel
theorem d_F_toHalf_45 : decode b_F_toHalf 45 = .ok (.iload 5, 2) := by decide +kernel
theorem d_F_toHalf_47 : decode b_F_toHalf 47 = .ok (.bipush 10, 2) := by decide +kernel
theorem d_F_toHalf_49 : decode b_F_toHalf 49 = .ok (.if_icmp .gt 14, 3) := by decide +kernel
theorem d_F_toHalf_52 : decode b_F_toHalf 52 = .ok (.lload_n 3, 1) := by decide +kernel
theorem d_F_toHalf_53 : decode b_F_toHalf 53 = .ok (.bipush 10, 2) := by decide +kernel
theorem d_F_toHalf_55 : decode b_F_toHalf 55 = .ok (.iload 5, 2) := by decide +kernel
theorem d_F_toHalf_57 : decode b_F_toHalf 57 = .ok (.isub, 1) := by decide +kernel
theorem d_F_toHalf_58 : decode b_F_toHalf 58 = .ok (.lshl, 1) := by decide +kernel
theorem d_F_toHalf_59 : decode b_F_toHalf 59 = .ok (.l2i, 1) := by decide +kernel
theorem d_F_toHalf_60 : decode b_F_toHalf 60 = .ok (.goto 12, 3) := by decide +kernel
theorem d_F_toHalf_63 : decode b_F_toHalf 63 = .ok (.lload_n 3, 1) := by decide +kernel
theorem d_F_toHalf_64 : decode b_F_toHalf 64 = .ok (.iload 5, 2) := by decide +kernel
theorem d_F_toHalf_66 : decode b_F_toHalf 66 = .ok (.bipush 10, 2) := by decide +kernel
theorem d_F_toHalf_68 : decode b_F_toHalf 68 = .ok (.isub, 1) := by decide +kernel
theorem d_F_toHalf_69 : decode b_F_toHalf 69 = .ok (.invokestatic 93, 3) := by decide +kernel
theorem d_F_toHalf_72 : decode b_F_toHalf 72 = .ok (.istore 7, 2) := by decide +kernel
theorem d_F_toHalf_74 : decode b_F_toHalf 74 = .ok (.iload_n 2, 1) := by decide +kernel
theorem d_F_toHalf_75 : decode b_F_toHalf 75 = .ok (.iload 6, 2) := by decide +kernel
theorem d_F_toHalf_77 : decode b_F_toHalf 77 = .ok (.bipush 10, 2) := by decide +kernel
theorem d_F_toHalf_79 : decode b_F_toHalf 79 = .ok (.ishl, 1) := by decide +kernel
theorem d_F_toHalf_80 : decode b_F_toHalf 80 = .ok (.iload 7, 2) := by decide +kernel
theorem d_F_toHalf_82 : decode b_F_toHalf 82 = .ok (.sipush 1024, 3) := by decide +kernel
theorem d_F_toHalf_85 : decode b_F_toHalf 85 = .ok (.isub, 1) := by decide +kernel
theorem d_F_toHalf_86 : decode b_F_toHalf 86 = .ok (.iadd, 1) := by decide +kernel
theorem d_F_toHalf_87 : decode b_F_toHalf 87 = .ok (.ior, 1) := by decide +kernel
theorem d_F_toHalf_88 : decode b_F_toHalf 88 = .ok (.ireturn, 1) := by decide +kernel
theorem d_F_magnitude_0 : decode b_F_magnitude 0 = .ok (.lload_n 0, 1) := by decide +kernel
theorem d_F_magnitude_1 : decode b_F_magnitude 1 = .ok (.lconst 0, 1) := by decide +kernel
theorem d_F_magnitude_2 : decode b_F_magnitude 2 = .ok (.lcmp, 1) := by decide +kernel
theorem d_F_magnitude_3 : decode b_F_magnitude 3 = .ok (.ifCond .ge 8, 3) := by decide +kernel
theorem d_F_magnitude_6 : decode b_F_magnitude 6 = .ok (.lload_n 0, 1) := by decide +kernel
theorem d_F_magnitude_7 : decode b_F_magnitude 7 = .ok (.lneg, 1) := by decide +kernel
theorem d_F_magnitude_8 : decode b_F_magnitude 8 = .ok (.goto 4, 3) := by decide +kernel
theorem d_F_magnitude_11 : decode b_F_magnitude 11 = .ok (.lload_n 0, 1) := by decide +kernel
theorem d_F_magnitude_12 : decode b_F_magnitude 12 = .ok (.lreturn, 1) := by decide +kernel
theorem d_F_highestBit_0 : decode b_F_highestBit 0 = .ok (.bipush 31, 2) := by decide +kernel
theorem d_F_highestBit_2 : decode b_F_highestBit 2 = .ok (.istore_n 2, 1) := by decide +kernel
theorem d_F_highestBit_3 : decode b_F_highestBit 3 = .ok (.iload_n 2, 1) := by decide +kernel
theorem d_F_highestBit_4 : decode b_F_highestBit 4 = .ok (.ifCond .le 17, 3) := by decide +kernel
theorem d_F_highestBit_7 : decode b_F_highestBit 7 = .ok (.lload_n 0, 1) := by decide +kernel
theorem d_F_highestBit_8 : decode b_F_highestBit 8 = .ok (.iload_n 2, 1) := by decide +kernel
theorem d_F_highestBit_9 : decode b_F_highestBit 9 = .ok (.lshr, 1) := by decide +kernel
theorem d_F_highestBit_10 : decode b_F_highestBit 10 = .ok (.lconst 0, 1) := by decide +kernel
theorem d_F_highestBit_11 : decode b_F_highestBit 11 = .ok (.lcmp, 1) := by decide +kernel
theorem d_F_highestBit_12 : decode b_F_highestBit 12 = .ok (.ifCond .ne 9, 3) := by decide +kernel
theorem d_F_highestBit_15 : decode b_F_highestBit 15 = .ok (.iinc 2 (-1), 3) := by decide +kernel
theorem d_F_highestBit_18 : decode b_F_highestBit 18 = .ok (.goto (-15), 3) := by decide +kernel
theorem d_F_highestBit_21 : decode b_F_highestBit 21 = .ok (.iload_n 2, 1) := by decide +kernel
theorem d_F_highestBit_22 : decode b_F_highestBit 22 = .ok (.ireturn, 1) := by decide +kernel
theorem d_F_nearestEven_0 : decode b_F_nearestEven 0 = .ok (.lload_n 0, 1) := by decide +kernel
theorem d_F_nearestEven_1 : decode b_F_nearestEven 1 = .ok (.iload_n 2, 1) := by decide +kernel
theorem d_F_nearestEven_2 : decode b_F_nearestEven 2 = .ok (.lshr, 1) := by decide +kernel
theorem d_F_nearestEven_3 : decode b_F_nearestEven 3 = .ok (.lstore_n 3, 1) := by decide +kernel
theorem d_F_nearestEven_4 : decode b_F_nearestEven 4 = .ok (.lload_n 0, 1) := by decide +kernel
theorem d_F_nearestEven_5 : decode b_F_nearestEven 5 = .ok (.lload_n 3, 1) := by decide +kernel
theorem d_F_nearestEven_6 : decode b_F_nearestEven 6 = .ok (.iload_n 2, 1) := by decide +kernel
theorem d_F_nearestEven_7 : decode b_F_nearestEven 7 = .ok (.lshl, 1) := by decide +kernel
theorem d_F_nearestEven_8 : decode b_F_nearestEven 8 = .ok (.lsub, 1) := by decide +kernel
theorem d_F_nearestEven_9 : decode b_F_nearestEven 9 = .ok (.iconst 1, 1) := by decide +kernel
theorem d_F_nearestEven_10 : decode b_F_nearestEven 10 = .ok (.lshl, 1) := by decide +kernel
theorem d_F_nearestEven_11 : decode b_F_nearestEven 11 = .ok (.lstore 5, 2) := by decide +kernel
theorem d_F_nearestEven_13 : decode b_F_nearestEven 13 = .ok (.lconst 1, 1) := by decide +kernel
theorem d_F_nearestEven_14 : decode b_F_nearestEven 14 = .ok (.iload_n 2, 1) := by decide +kernel
theorem d_F_nearestEven_15 : decode b_F_nearestEven 15 = .ok (.lshl, 1) := by decide +kernel
theorem d_F_nearestEven_16 : decode b_F_nearestEven 16 = .ok (.lstore 7, 2) := by decide +kernel
theorem d_F_nearestEven_18 : decode b_F_nearestEven 18 = .ok (.lload 5, 2) := by decide +kernel
theorem d_F_nearestEven_20 : decode b_F_nearestEven 20 = .ok (.lload 7, 2) := by decide +kernel
theorem d_F_nearestEven_22 : decode b_F_nearestEven 22 = .ok (.lcmp, 1) := by decide +kernel
theorem d_F_nearestEven_23 : decode b_F_nearestEven 23 = .ok (.ifCond .gt 19, 3) := by decide +kernel
theorem d_F_nearestEven_26 : decode b_F_nearestEven 26 = .ok (.lload 5, 2) := by decide +kernel
theorem d_F_nearestEven_28 : decode b_F_nearestEven 28 = .ok (.lload 7, 2) := by decide +kernel
theorem d_F_nearestEven_30 : decode b_F_nearestEven 30 = .ok (.lcmp, 1) := by decide +kernel
theorem d_F_nearestEven_31 : decode b_F_nearestEven 31 = .ok (.ifCond .ne 15, 3) := by decide +kernel
theorem d_F_nearestEven_34 : decode b_F_nearestEven 34 = .ok (.lload_n 3, 1) := by decide +kernel
theorem d_F_nearestEven_35 : decode b_F_nearestEven 35 = .ok (.lconst 1, 1) := by decide +kernel
theorem d_F_nearestEven_36 : decode b_F_nearestEven 36 = .ok (.land, 1) := by decide +kernel
theorem d_F_nearestEven_37 : decode b_F_nearestEven 37 = .ok (.lconst 1, 1) := by decide +kernel
theorem d_F_nearestEven_38 : decode b_F_nearestEven 38 = .ok (.lcmp, 1) := by decide +kernel
theorem d_F_nearestEven_39 : decode b_F_nearestEven 39 = .ok (.ifCond .ne 7, 3) := by decide +kernel
theorem d_F_nearestEven_42 : decode b_F_nearestEven 42 = .ok (.iconst 1, 1) := by decide +kernel
theorem d_F_nearestEven_43 : decode b_F_nearestEven 43 = .ok (.goto 4, 3) := by decide +kernel
theorem d_F_nearestEven_46 : decode b_F_nearestEven 46 = .ok (.iconst 0, 1) := by decide +kernel
theorem d_F_nearestEven_47 : decode b_F_nearestEven 47 = .ok (.istore 9, 2) := by decide +kernel
theorem d_F_nearestEven_49 : decode b_F_nearestEven 49 = .ok (.iload 9, 2) := by decide +kernel
theorem d_F_nearestEven_51 : decode b_F_nearestEven 51 = .ok (.ifCond .eq 9, 3) := by decide +kernel
theorem d_F_nearestEven_54 : decode b_F_nearestEven 54 = .ok (.lload_n 3, 1) := by decide +kernel
theorem d_F_nearestEven_55 : decode b_F_nearestEven 55 = .ok (.lconst 1, 1) := by decide +kernel
theorem d_F_nearestEven_56 : decode b_F_nearestEven 56 = .ok (.ladd, 1) := by decide +kernel
theorem d_F_nearestEven_57 : decode b_F_nearestEven 57 = .ok (.goto 4, 3) := by decide +kernel
theorem d_F_nearestEven_60 : decode b_F_nearestEven 60 = .ok (.lload_n 3, 1) := by decide +kernel
theorem d_F_nearestEven_61 : decode b_F_nearestEven 61 = .ok (.l2i, 1) := by decide +kernel
theorem d_F_nearestEven_62 : decode b_F_nearestEven 62 = .ok (.ireturn, 1) := by decide +kernel
theorem d_F_ratio_0 : decode b_F_ratio 0 = .ok (.lload 5, 2) := by decide +kernel
theorem d_F_ratio_2 : decode b_F_ratio 2 = .ok (.lconst 0, 1) := by decide +kernel
theorem d_F_ratio_3 : decode b_F_ratio 3 = .ok (.lcmp, 1) := by decide +kernel
theorem d_F_ratio_4 : decode b_F_ratio 4 = .ok (.ifCond .ne 13, 3) := by decide +kernel
theorem d_F_ratio_7 : decode b_F_ratio 7 = .ok (.new 28, 3) := by decide +kernel
theorem d_F_ratio_10 : decode b_F_ratio 10 = .ok (.dup, 1) := by decide +kernel
theorem d_F_ratio_11 : decode b_F_ratio 11 = .ok (.ldc 30, 2) := by decide +kernel
theorem d_F_ratio_13 : decode b_F_ratio 13 = .ok (.invokespecial 32, 3) := by decide +kernel
theorem d_F_ratio_16 : decode b_F_ratio 16 = .ok (.athrow, 1) := by decide +kernel
theorem d_F_ratio_17 : decode b_F_ratio 17 = .ok (.lload_n 1, 1) := by decide +kernel
theorem d_F_ratio_18 : decode b_F_ratio 18 = .ok (.invokestatic 35, 3) := by decide +kernel
theorem d_F_ratio_21 : decode b_F_ratio 21 = .ok (.lstore 7, 2) := by decide +kernel
theorem d_F_ratio_23 : decode b_F_ratio 23 = .ok (.lload_n 3, 1) := by decide +kernel
theorem d_F_ratio_24 : decode b_F_ratio 24 = .ok (.invokestatic 35, 3) := by decide +kernel
theorem d_F_ratio_27 : decode b_F_ratio 27 = .ok (.lstore 9, 2) := by decide +kernel
theorem d_F_ratio_29 : decode b_F_ratio 29 = .ok (.lload 5, 2) := by decide +kernel
theorem d_F_ratio_31 : decode b_F_ratio 31 = .ok (.invokestatic 35, 3) := by decide +kernel
theorem d_F_ratio_34 : decode b_F_ratio 34 = .ok (.lstore 11, 2) := by decide +kernel
theorem d_F_ratio_36 : decode b_F_ratio 36 = .ok (.lload 7, 2) := by decide +kernel
theorem d_F_ratio_38 : decode b_F_ratio 38 = .ok (.lload 9, 2) := by decide +kernel
theorem d_F_ratio_40 : decode b_F_ratio 40 = .ok (.invokestatic 39, 3) := by decide +kernel
theorem d_F_ratio_43 : decode b_F_ratio 43 = .ok (.lstore 13, 2) := by decide +kernel
theorem d_F_ratio_45 : decode b_F_ratio 45 = .ok (.lload 7, 2) := by decide +kernel
theorem d_F_ratio_47 : decode b_F_ratio 47 = .ok (.lload 9, 2) := by decide +kernel
theorem d_F_ratio_49 : decode b_F_ratio 49 = .ok (.lmul, 1) := by decide +kernel
theorem d_F_ratio_50 : decode b_F_ratio 50 = .ok (.lstore 15, 2) := by decide +kernel
theorem d_F_ratio_52 : decode b_F_ratio 52 = .ok (.lload 13, 2) := by decide +kernel
theorem d_F_ratio_54 : decode b_F_ratio 54 = .ok (.lload 11, 2) := by decide +kernel
theorem d_F_ratio_56 : decode b_F_ratio 56 = .ok (.invokestatic 42, 3) := by decide +kernel
theorem d_F_ratio_59 : decode b_F_ratio 59 = .ok (.ifCond .ne 13, 3) := by decide +kernel
theorem d_F_ratio_62 : decode b_F_ratio 62 = .ok (.new 28, 3) := by decide +kernel
theorem d_F_ratio_65 : decode b_F_ratio 65 = .ok (.dup, 1) := by decide +kernel
theorem d_F_ratio_66 : decode b_F_ratio 66 = .ok (.ldc 46, 2) := by decide +kernel
theorem d_F_ratio_68 : decode b_F_ratio 68 = .ok (.invokespecial 32, 3) := by decide +kernel
theorem d_F_ratio_71 : decode b_F_ratio 71 = .ok (.athrow, 1) := by decide +kernel
theorem d_F_ratio_72 : decode b_F_ratio 72 = .ok (.lload 13, 2) := by decide +kernel
theorem d_F_ratio_74 : decode b_F_ratio 74 = .ok (.lload 15, 2) := by decide +kernel
theorem d_F_ratio_76 : decode b_F_ratio 76 = .ok (.lload 11, 2) := by decide +kernel
theorem d_F_ratio_78 : decode b_F_ratio 78 = .ok (.invokestatic 48, 3) := by decide +kernel
theorem d_F_ratio_81 : decode b_F_ratio 81 = .ok (.lstore 17, 2) := by decide +kernel
theorem d_F_ratio_83 : decode b_F_ratio 83 = .ok (.lload 17, 2) := by decide +kernel
theorem d_F_ratio_85 : decode b_F_ratio 85 = .ok (.lload 11, 2) := by decide +kernel
theorem d_F_ratio_87 : decode b_F_ratio 87 = .ok (.lmul, 1) := by decide +kernel
theorem d_F_ratio_88 : decode b_F_ratio 88 = .ok (.lload 15, 2) := by decide +kernel
theorem d_F_ratio_90 : decode b_F_ratio 90 = .ok (.lcmp, 1) := by decide +kernel
theorem d_F_ratio_91 : decode b_F_ratio 91 = .ok (.ifCond .eq 7, 3) := by decide +kernel
theorem d_F_ratio_94 : decode b_F_ratio 94 = .ok (.iconst 1, 1) := by decide +kernel
theorem d_F_ratio_95 : decode b_F_ratio 95 = .ok (.goto 4, 3) := by decide +kernel
theorem d_F_ratio_98 : decode b_F_ratio 98 = .ok (.iconst 0, 1) := by decide +kernel
theorem d_F_ratio_99 : decode b_F_ratio 99 = .ok (.istore 19, 2) := by decide +kernel
theorem d_F_ratio_101 : decode b_F_ratio 101 = .ok (.lload_n 1, 1) := by decide +kernel
theorem d_F_ratio_102 : decode b_F_ratio 102 = .ok (.lload_n 3, 1) := by decide +kernel
theorem d_F_ratio_103 : decode b_F_ratio 103 = .ok (.lxor, 1) := by decide +kernel
theorem d_F_ratio_104 : decode b_F_ratio 104 = .ok (.lload 5, 2) := by decide +kernel
theorem d_F_ratio_106 : decode b_F_ratio 106 = .ok (.lxor, 1) := by decide +kernel
theorem d_F_ratio_107 : decode b_F_ratio 107 = .ok (.lconst 0, 1) := by decide +kernel
theorem d_F_ratio_108 : decode b_F_ratio 108 = .ok (.lcmp, 1) := by decide +kernel
theorem d_F_ratio_109 : decode b_F_ratio 109 = .ok (.ifCond .ge 7, 3) := by decide +kernel
theorem d_F_ratio_112 : decode b_F_ratio 112 = .ok (.iconst 1, 1) := by decide +kernel
theorem d_F_ratio_113 : decode b_F_ratio 113 = .ok (.goto 4, 3) := by decide +kernel
theorem d_F_ratio_116 : decode b_F_ratio 116 = .ok (.iconst 0, 1) := by decide +kernel
theorem d_F_ratio_117 : decode b_F_ratio 117 = .ok (.istore 20, 2) := by decide +kernel
theorem d_F_ratio_119 : decode b_F_ratio 119 = .ok (.lload 17, 2) := by decide +kernel
theorem d_F_ratio_121 : decode b_F_ratio 121 = .ok (.iload 19, 2) := by decide +kernel
theorem d_F_ratio_123 : decode b_F_ratio 123 = .ok (.iload 20, 2) := by decide +kernel
theorem d_F_ratio_125 : decode b_F_ratio 125 = .ok (.invokestatic 52, 3) := by decide +kernel
theorem d_F_ratio_128 : decode b_F_ratio 128 = .ok (.ifCond .ne 13, 3) := by decide +kernel
theorem d_F_ratio_131 : decode b_F_ratio 131 = .ok (.new 28, 3) := by decide +kernel
theorem d_F_ratio_134 : decode b_F_ratio 134 = .ok (.dup, 1) := by decide +kernel
theorem d_F_ratio_135 : decode b_F_ratio 135 = .ok (.ldc 46, 2) := by decide +kernel
theorem d_F_ratio_137 : decode b_F_ratio 137 = .ok (.invokespecial 32, 3) := by decide +kernel
theorem d_F_ratio_140 : decode b_F_ratio 140 = .ok (.athrow, 1) := by decide +kernel
theorem d_F_ratio_141 : decode b_F_ratio 141 = .ok (.lload 17, 2) := by decide +kernel
theorem d_F_ratio_143 : decode b_F_ratio 143 = .ok (.iload 19, 2) := by decide +kernel
theorem d_F_ratio_145 : decode b_F_ratio 145 = .ok (.iload 20, 2) := by decide +kernel
theorem d_F_ratio_147 : decode b_F_ratio 147 = .ok (.invokestatic 56, 3) := by decide +kernel
theorem d_F_ratio_150 : decode b_F_ratio 150 = .ok (.lreturn, 1) := by decide +kernel
theorem d_F_highProduct_0 : decode b_F_highProduct 0 = .ok (.lload_n 0, 1) := by decide +kernel
theorem d_F_highProduct_1 : decode b_F_highProduct 1 = .ok (.ldc2_w 107, 3) := by decide +kernel
theorem d_F_highProduct_4 : decode b_F_highProduct 4 = .ok (.land, 1) := by decide +kernel
theorem d_F_highProduct_5 : decode b_F_highProduct 5 = .ok (.lstore 4, 2) := by decide +kernel
theorem d_F_highProduct_7 : decode b_F_highProduct 7 = .ok (.lload_n 0, 1) := by decide +kernel
theorem d_F_highProduct_8 : decode b_F_highProduct 8 = .ok (.bipush 32, 2) := by decide +kernel
theorem d_F_highProduct_10 : decode b_F_highProduct 10 = .ok (.lushr, 1) := by decide +kernel
theorem d_F_highProduct_11 : decode b_F_highProduct 11 = .ok (.lstore 6, 2) := by decide +kernel
theorem d_F_highProduct_13 : decode b_F_highProduct 13 = .ok (.lload_n 2, 1) := by decide +kernel
theorem d_F_highProduct_14 : decode b_F_highProduct 14 = .ok (.ldc2_w 107, 3) := by decide +kernel
theorem d_F_highProduct_17 : decode b_F_highProduct 17 = .ok (.land, 1) := by decide +kernel
theorem d_F_highProduct_18 : decode b_F_highProduct 18 = .ok (.lstore 8, 2) := by decide +kernel
theorem d_F_highProduct_20 : decode b_F_highProduct 20 = .ok (.lload_n 2, 1) := by decide +kernel
theorem d_F_highProduct_21 : decode b_F_highProduct 21 = .ok (.bipush 32, 2) := by decide +kernel
theorem d_F_highProduct_23 : decode b_F_highProduct 23 = .ok (.lushr, 1) := by decide +kernel
theorem d_F_highProduct_24 : decode b_F_highProduct 24 = .ok (.lstore 10, 2) := by decide +kernel
theorem d_F_highProduct_26 : decode b_F_highProduct 26 = .ok (.lload 6, 2) := by decide +kernel
theorem d_F_highProduct_28 : decode b_F_highProduct 28 = .ok (.lload 8, 2) := by decide +kernel
theorem d_F_highProduct_30 : decode b_F_highProduct 30 = .ok (.lmul, 1) := by decide +kernel
theorem d_F_highProduct_31 : decode b_F_highProduct 31 = .ok (.lload 4, 2) := by decide +kernel
theorem d_F_highProduct_33 : decode b_F_highProduct 33 = .ok (.lload 8, 2) := by decide +kernel
theorem d_F_highProduct_35 : decode b_F_highProduct 35 = .ok (.lmul, 1) := by decide +kernel
theorem d_F_highProduct_36 : decode b_F_highProduct 36 = .ok (.bipush 32, 2) := by decide +kernel
theorem d_F_highProduct_38 : decode b_F_highProduct 38 = .ok (.lushr, 1) := by decide +kernel
theorem d_F_highProduct_39 : decode b_F_highProduct 39 = .ok (.ladd, 1) := by decide +kernel
theorem d_F_highProduct_40 : decode b_F_highProduct 40 = .ok (.lstore 12, 2) := by decide +kernel
theorem d_F_highProduct_42 : decode b_F_highProduct 42 = .ok (.lload 4, 2) := by decide +kernel
theorem d_F_highProduct_44 : decode b_F_highProduct 44 = .ok (.lload 10, 2) := by decide +kernel
theorem d_F_highProduct_46 : decode b_F_highProduct 46 = .ok (.lmul, 1) := by decide +kernel
theorem d_F_highProduct_47 : decode b_F_highProduct 47 = .ok (.lload 12, 2) := by decide +kernel
theorem d_F_highProduct_49 : decode b_F_highProduct 49 = .ok (.ldc2_w 107, 3) := by decide +kernel
theorem d_F_highProduct_52 : decode b_F_highProduct 52 = .ok (.land, 1) := by decide +kernel
theorem d_F_highProduct_53 : decode b_F_highProduct 53 = .ok (.ladd, 1) := by decide +kernel
theorem d_F_highProduct_54 : decode b_F_highProduct 54 = .ok (.lstore 14, 2) := by decide +kernel
theorem d_F_highProduct_56 : decode b_F_highProduct 56 = .ok (.lload 6, 2) := by decide +kernel
theorem d_F_highProduct_58 : decode b_F_highProduct 58 = .ok (.lload 10, 2) := by decide +kernel
theorem d_F_highProduct_60 : decode b_F_highProduct 60 = .ok (.lmul, 1) := by decide +kernel
theorem d_F_highProduct_61 : decode b_F_highProduct 61 = .ok (.lload 12, 2) := by decide +kernel
theorem d_F_highProduct_63 : decode b_F_highProduct 63 = .ok (.bipush 32, 2) := by decide +kernel
theorem d_F_highProduct_65 : decode b_F_highProduct 65 = .ok (.lushr, 1) := by decide +kernel
theorem d_F_highProduct_66 : decode b_F_highProduct 66 = .ok (.ladd, 1) := by decide +kernel
theorem d_F_highProduct_67 : decode b_F_highProduct 67 = .ok (.lload 14, 2) := by decide +kernel
theorem d_F_highProduct_69 : decode b_F_highProduct 69 = .ok (.bipush 32, 2) := by decide +kernel
theorem d_F_highProduct_71 : decode b_F_highProduct 71 = .ok (.lushr, 1) := by decide +kernel
theorem d_F_highProduct_72 : decode b_F_highProduct 72 = .ok (.ladd, 1) := by decide +kernel
theorem d_F_highProduct_73 : decode b_F_highProduct 73 = .ok (.lreturn, 1) := by decide +kernel
theorem d_F_isBelow_0 : decode b_F_isBelow 0 = .ok (.lload_n 0, 1) := by decide +kernel
theorem d_F_isBelow_1 : decode b_F_isBelow 1 = .ok (.ldc2_w 105, 3) := by decide +kernel
theorem d_F_isBelow_4 : decode b_F_isBelow 4 = .ok (.lxor, 1) := by decide +kernel
theorem d_F_isBelow_5 : decode b_F_isBelow 5 = .ok (.lload_n 2, 1) := by decide +kernel
theorem d_F_isBelow_6 : decode b_F_isBelow 6 = .ok (.ldc2_w 105, 3) := by decide +kernel
theorem d_F_isBelow_9 : decode b_F_isBelow 9 = .ok (.lxor, 1) := by decide +kernel
theorem d_F_isBelow_10 : decode b_F_isBelow 10 = .ok (.lcmp, 1) := by decide +kernel
theorem d_F_isBelow_11 : decode b_F_isBelow 11 = .ok (.ifCond .ge 7, 3) := by decide +kernel
theorem d_F_isBelow_14 : decode b_F_isBelow 14 = .ok (.iconst 1, 1) := by decide +kernel
theorem d_F_isBelow_15 : decode b_F_isBelow 15 = .ok (.goto 4, 3) := by decide +kernel
theorem d_F_isBelow_18 : decode b_F_isBelow 18 = .ok (.iconst 0, 1) := by decide +kernel
theorem d_F_isBelow_19 : decode b_F_isBelow 19 = .ok (.ireturn, 1) := by decide +kernel
theorem d_F_wholeQuotient_0 : decode b_F_wholeQuotient 0 = .ok (.lload_n 0, 1) := by decide +kernel
theorem d_F_wholeQuotient_1 : decode b_F_wholeQuotient 1 = .ok (.lstore 6, 2) := by decide +kernel
theorem d_F_wholeQuotient_3 : decode b_F_wholeQuotient 3 = .ok (.lconst 0, 1) := by decide +kernel
theorem d_F_wholeQuotient_4 : decode b_F_wholeQuotient 4 = .ok (.lstore 8, 2) := by decide +kernel
theorem d_F_wholeQuotient_6 : decode b_F_wholeQuotient 6 = .ok (.bipush 63, 2) := by decide +kernel
theorem d_F_wholeQuotient_8 : decode b_F_wholeQuotient 8 = .ok (.istore 10, 2) := by decide +kernel
theorem d_F_wholeQuotient_10 : decode b_F_wholeQuotient 10 = .ok (.iload 10, 2) := by decide +kernel
theorem d_F_wholeQuotient_12 : decode b_F_wholeQuotient 12 = .ok (.ifCond .lt 51, 3) := by decide +kernel
theorem d_F_wholeQuotient_15 : decode b_F_wholeQuotient 15 = .ok (.lload 6, 2) := by decide +kernel
theorem d_F_wholeQuotient_17 : decode b_F_wholeQuotient 17 = .ok (.iconst 1, 1) := by decide +kernel
theorem d_F_wholeQuotient_18 : decode b_F_wholeQuotient 18 = .ok (.lshl, 1) := by decide +kernel
theorem d_F_wholeQuotient_19 : decode b_F_wholeQuotient 19 = .ok (.lload_n 2, 1) := by decide +kernel
theorem d_F_wholeQuotient_20 : decode b_F_wholeQuotient 20 = .ok (.iload 10, 2) := by decide +kernel
theorem d_F_wholeQuotient_22 : decode b_F_wholeQuotient 22 = .ok (.lushr, 1) := by decide +kernel
theorem d_F_wholeQuotient_23 : decode b_F_wholeQuotient 23 = .ok (.lconst 1, 1) := by decide +kernel
theorem d_F_wholeQuotient_24 : decode b_F_wholeQuotient 24 = .ok (.land, 1) := by decide +kernel
theorem d_F_wholeQuotient_25 : decode b_F_wholeQuotient 25 = .ok (.lor, 1) := by decide +kernel
theorem d_F_wholeQuotient_26 : decode b_F_wholeQuotient 26 = .ok (.lstore 6, 2) := by decide +kernel
theorem d_F_wholeQuotient_28 : decode b_F_wholeQuotient 28 = .ok (.lload 8, 2) := by decide +kernel
theorem d_F_wholeQuotient_30 : decode b_F_wholeQuotient 30 = .ok (.iconst 1, 1) := by decide +kernel
theorem d_F_wholeQuotient_31 : decode b_F_wholeQuotient 31 = .ok (.lshl, 1) := by decide +kernel
theorem d_F_wholeQuotient_32 : decode b_F_wholeQuotient 32 = .ok (.lstore 8, 2) := by decide +kernel
theorem d_F_wholeQuotient_34 : decode b_F_wholeQuotient 34 = .ok (.lload 6, 2) := by decide +kernel
theorem d_F_wholeQuotient_36 : decode b_F_wholeQuotient 36 = .ok (.lload 4, 2) := by decide +kernel
theorem d_F_wholeQuotient_38 : decode b_F_wholeQuotient 38 = .ok (.invokestatic 42, 3) := by decide +kernel
theorem d_F_wholeQuotient_41 : decode b_F_wholeQuotient 41 = .ok (.ifCond .ne 16, 3) := by decide +kernel
theorem d_F_wholeQuotient_44 : decode b_F_wholeQuotient 44 = .ok (.lload 6, 2) := by decide +kernel
theorem d_F_wholeQuotient_46 : decode b_F_wholeQuotient 46 = .ok (.lload 4, 2) := by decide +kernel
theorem d_F_wholeQuotient_48 : decode b_F_wholeQuotient 48 = .ok (.lsub, 1) := by decide +kernel
theorem d_F_wholeQuotient_49 : decode b_F_wholeQuotient 49 = .ok (.lstore 6, 2) := by decide +kernel
theorem d_F_wholeQuotient_51 : decode b_F_wholeQuotient 51 = .ok (.lload 8, 2) := by decide +kernel
theorem d_F_wholeQuotient_53 : decode b_F_wholeQuotient 53 = .ok (.lconst 1, 1) := by decide +kernel
theorem d_F_wholeQuotient_54 : decode b_F_wholeQuotient 54 = .ok (.lor, 1) := by decide +kernel
theorem d_F_wholeQuotient_55 : decode b_F_wholeQuotient 55 = .ok (.lstore 8, 2) := by decide +kernel
theorem d_F_wholeQuotient_57 : decode b_F_wholeQuotient 57 = .ok (.iinc 10 (-1), 3) := by decide +kernel
theorem d_F_wholeQuotient_60 : decode b_F_wholeQuotient 60 = .ok (.goto (-50), 3) := by decide +kernel
theorem d_F_wholeQuotient_63 : decode b_F_wholeQuotient 63 = .ok (.lload 8, 2) := by decide +kernel
theorem d_F_wholeQuotient_65 : decode b_F_wholeQuotient 65 = .ok (.lreturn, 1) := by decide +kernel
theorem d_F_fitsLong_0 : decode b_F_fitsLong 0 = .ok (.lload_n 0, 1) := by decide +kernel
theorem d_F_fitsLong_1 : decode b_F_fitsLong 1 = .ok (.lconst 0, 1) := by decide +kernel
theorem d_F_fitsLong_2 : decode b_F_fitsLong 2 = .ok (.lcmp, 1) := by decide +kernel
theorem d_F_fitsLong_3 : decode b_F_fitsLong 3 = .ok (.ifCond .ge 19, 3) := by decide +kernel
theorem d_F_fitsLong_6 : decode b_F_fitsLong 6 = .ok (.lload_n 0, 1) := by decide +kernel
theorem d_F_fitsLong_7 : decode b_F_fitsLong 7 = .ok (.ldc2_w 105, 3) := by decide +kernel
theorem d_F_fitsLong_10 : decode b_F_fitsLong 10 = .ok (.lcmp, 1) := by decide +kernel
theorem d_F_fitsLong_11 : decode b_F_fitsLong 11 = .ok (.ifCond .ne 15, 3) := by decide +kernel
theorem d_F_fitsLong_14 : decode b_F_fitsLong 14 = .ok (.iload_n 3, 1) := by decide +kernel
theorem d_F_fitsLong_15 : decode b_F_fitsLong 15 = .ok (.ifCond .eq 11, 3) := by decide +kernel
theorem d_F_fitsLong_18 : decode b_F_fitsLong 18 = .ok (.iload_n 2, 1) := by decide +kernel
theorem d_F_fitsLong_19 : decode b_F_fitsLong 19 = .ok (.ifCond .ne 7, 3) := by decide +kernel
theorem d_F_fitsLong_22 : decode b_F_fitsLong 22 = .ok (.iconst 1, 1) := by decide +kernel
theorem d_F_fitsLong_23 : decode b_F_fitsLong 23 = .ok (.goto 4, 3) := by decide +kernel
theorem d_F_fitsLong_26 : decode b_F_fitsLong 26 = .ok (.iconst 0, 1) := by decide +kernel
theorem d_F_fitsLong_27 : decode b_F_fitsLong 27 = .ok (.ireturn, 1) := by decide +kernel
theorem d_F_signedDown_0 : decode b_F_signedDown 0 = .ok (.iload_n 3, 1) := by decide +kernel
theorem d_F_signedDown_1 : decode b_F_signedDown 1 = .ok (.ifCond .ne 5, 3) := by decide +kernel
theorem d_F_signedDown_4 : decode b_F_signedDown 4 = .ok (.lload_n 0, 1) := by decide +kernel
theorem d_F_signedDown_5 : decode b_F_signedDown 5 = .ok (.lreturn, 1) := by decide +kernel
theorem d_F_signedDown_6 : decode b_F_signedDown 6 = .ok (.iload_n 2, 1) := by decide +kernel
theorem d_F_signedDown_7 : decode b_F_signedDown 7 = .ok (.ifCond .eq 10, 3) := by decide +kernel
theorem d_F_signedDown_10 : decode b_F_signedDown 10 = .ok (.lload_n 0, 1) := by decide +kernel
theorem d_F_signedDown_11 : decode b_F_signedDown 11 = .ok (.lneg, 1) := by decide +kernel
theorem d_F_signedDown_12 : decode b_F_signedDown 12 = .ok (.lconst 1, 1) := by decide +kernel
theorem d_F_signedDown_13 : decode b_F_signedDown 13 = .ok (.lsub, 1) := by decide +kernel
theorem d_F_signedDown_14 : decode b_F_signedDown 14 = .ok (.goto 5, 3) := by decide +kernel
theorem d_F_signedDown_17 : decode b_F_signedDown 17 = .ok (.lload_n 0, 1) := by decide +kernel
theorem d_F_signedDown_18 : decode b_F_signedDown 18 = .ok (.lneg, 1) := by decide +kernel
theorem d_F_signedDown_19 : decode b_F_signedDown 19 = .ok (.lreturn, 1) := by decide +kernel
theorem d_F_between_0 : decode b_F_between 0 = .ok (.lload 5, 2) := by decide +kernel
theorem d_F_between_2 : decode b_F_between 2 = .ok (.lconst 0, 1) := by decide +kernel
theorem d_F_between_3 : decode b_F_between 3 = .ok (.lcmp, 1) := by decide +kernel
theorem d_F_between_4 : decode b_F_between 4 = .ok (.ifCond .gt 13, 3) := by decide +kernel
theorem d_F_between_7 : decode b_F_between 7 = .ok (.new 60, 3) := by decide +kernel
theorem d_F_between_10 : decode b_F_between 10 = .ok (.dup, 1) := by decide +kernel
theorem d_F_between_11 : decode b_F_between 11 = .ok (.ldc 62, 2) := by decide +kernel
theorem d_F_between_13 : decode b_F_between 13 = .ok (.invokespecial 64, 3) := by decide +kernel
theorem d_F_between_16 : decode b_F_between 16 = .ok (.athrow, 1) := by decide +kernel
theorem d_F_between_17 : decode b_F_between 17 = .ok (.lload_n 3, 1) := by decide +kernel
theorem d_F_between_18 : decode b_F_between 18 = .ok (.lconst 0, 1) := by decide +kernel
theorem d_F_between_19 : decode b_F_between 19 = .ok (.lcmp, 1) := by decide +kernel
theorem d_F_between_20 : decode b_F_between 20 = .ok (.ifCond .lt 10, 3) := by decide +kernel
theorem d_F_between_23 : decode b_F_between 23 = .ok (.lload_n 3, 1) := by decide +kernel
theorem d_F_between_24 : decode b_F_between 24 = .ok (.lload 5, 2) := by decide +kernel
theorem d_F_between_26 : decode b_F_between 26 = .ok (.lcmp, 1) := by decide +kernel
theorem d_F_between_27 : decode b_F_between 27 = .ok (.ifCond .le 13, 3) := by decide +kernel
theorem d_F_between_30 : decode b_F_between 30 = .ok (.new 60, 3) := by decide +kernel
theorem d_F_between_33 : decode b_F_between 33 = .ok (.dup, 1) := by decide +kernel
theorem d_F_between_34 : decode b_F_between 34 = .ok (.ldc 65, 2) := by decide +kernel
theorem d_F_between_36 : decode b_F_between 36 = .ok (.invokespecial 64, 3) := by decide +kernel
theorem d_F_between_39 : decode b_F_between 39 = .ok (.athrow, 1) := by decide +kernel
theorem d_F_between_40 : decode b_F_between 40 = .ok (.iload_n 2, 1) := by decide +kernel
theorem d_F_between_41 : decode b_F_between 41 = .ok (.i2l, 1) := by decide +kernel
theorem d_F_between_42 : decode b_F_between 42 = .ok (.iload_n 1, 1) := by decide +kernel
theorem d_F_between_43 : decode b_F_between 43 = .ok (.i2l, 1) := by decide +kernel
theorem d_F_between_44 : decode b_F_between 44 = .ok (.lsub, 1) := by decide +kernel
theorem d_F_between_45 : decode b_F_between 45 = .ok (.lstore 7, 2) := by decide +kernel
theorem d_F_between_47 : decode b_F_between 47 = .ok (.lload 7, 2) := by decide +kernel
theorem d_F_between_49 : decode b_F_between 49 = .ok (.invokestatic 35, 3) := by decide +kernel
theorem d_F_between_52 : decode b_F_between 52 = .ok (.lstore 9, 2) := by decide +kernel
theorem d_F_between_54 : decode b_F_between 54 = .ok (.lload 9, 2) := by decide +kernel
theorem d_F_between_56 : decode b_F_between 56 = .ok (.lload_n 3, 1) := by decide +kernel
theorem d_F_between_57 : decode b_F_between 57 = .ok (.lmul, 1) := by decide +kernel
theorem d_F_between_58 : decode b_F_between 58 = .ok (.lstore 11, 2) := by decide +kernel
theorem d_F_between_60 : decode b_F_between 60 = .ok (.lload 9, 2) := by decide +kernel
theorem d_F_between_62 : decode b_F_between 62 = .ok (.lload_n 3, 1) := by decide +kernel
theorem d_F_between_63 : decode b_F_between 63 = .ok (.invokestatic 39, 3) := by decide +kernel
theorem d_F_between_66 : decode b_F_between 66 = .ok (.lload 11, 2) := by decide +kernel
theorem d_F_between_68 : decode b_F_between 68 = .ok (.lload 5, 2) := by decide +kernel
theorem d_F_between_70 : decode b_F_between 70 = .ok (.invokestatic 48, 3) := by decide +kernel
theorem d_F_between_73 : decode b_F_between 73 = .ok (.lstore 13, 2) := by decide +kernel
theorem d_F_between_75 : decode b_F_between 75 = .ok (.iload_n 1, 1) := by decide +kernel
theorem d_F_between_76 : decode b_F_between 76 = .ok (.i2l, 1) := by decide +kernel
theorem d_F_between_77 : decode b_F_between 77 = .ok (.lload 13, 2) := by decide +kernel
theorem d_F_between_79 : decode b_F_between 79 = .ok (.lload 13, 2) := by decide +kernel
theorem d_F_between_81 : decode b_F_between 81 = .ok (.lload 5, 2) := by decide +kernel
theorem d_F_between_83 : decode b_F_between 83 = .ok (.lmul, 1) := by decide +kernel
theorem d_F_between_84 : decode b_F_between 84 = .ok (.lload 11, 2) := by decide +kernel
theorem d_F_between_86 : decode b_F_between 86 = .ok (.lcmp, 1) := by decide +kernel
theorem d_F_between_87 : decode b_F_between 87 = .ok (.ifCond .eq 7, 3) := by decide +kernel
theorem d_F_between_90 : decode b_F_between 90 = .ok (.iconst 1, 1) := by decide +kernel
theorem d_F_between_91 : decode b_F_between 91 = .ok (.goto 4, 3) := by decide +kernel
theorem d_F_between_94 : decode b_F_between 94 = .ok (.iconst 0, 1) := by decide +kernel
theorem d_F_between_95 : decode b_F_between 95 = .ok (.lload 7, 2) := by decide +kernel
theorem d_F_between_97 : decode b_F_between 97 = .ok (.lconst 0, 1) := by decide +kernel
theorem d_F_between_98 : decode b_F_between 98 = .ok (.lcmp, 1) := by decide +kernel
theorem d_F_between_99 : decode b_F_between 99 = .ok (.ifCond .ge 7, 3) := by decide +kernel
theorem d_F_between_102 : decode b_F_between 102 = .ok (.iconst 1, 1) := by decide +kernel
theorem d_F_between_103 : decode b_F_between 103 = .ok (.goto 4, 3) := by decide +kernel
theorem d_F_between_106 : decode b_F_between 106 = .ok (.iconst 0, 1) := by decide +kernel
theorem d_F_between_107 : decode b_F_between 107 = .ok (.invokestatic 56, 3) := by decide +kernel
theorem d_F_between_110 : decode b_F_between 110 = .ok (.ladd, 1) := by decide +kernel
theorem d_F_between_111 : decode b_F_between 111 = .ok (.l2i, 1) := by decide +kernel
theorem d_F_between_112 : decode b_F_between 112 = .ok (.ireturn, 1) := by decide +kernel
theorem d_F_fixed_0 : decode b_F_fixed 0 = .ok (.iload_n 1, 1) := by decide +kernel
theorem d_F_fixed_1 : decode b_F_fixed 1 = .ok (.invokestatic 76, 3) := by decide +kernel
theorem d_F_fixed_4 : decode b_F_fixed 4 = .ok (.ifCond .ne 13, 3) := by decide +kernel
theorem d_F_fixed_7 : decode b_F_fixed 7 = .ok (.new 60, 3) := by decide +kernel
theorem d_F_fixed_10 : decode b_F_fixed 10 = .ok (.dup, 1) := by decide +kernel
theorem d_F_fixed_11 : decode b_F_fixed 11 = .ok (.ldc 80, 2) := by decide +kernel
theorem d_F_fixed_13 : decode b_F_fixed 13 = .ok (.invokespecial 64, 3) := by decide +kernel
theorem d_F_fixed_16 : decode b_F_fixed 16 = .ok (.athrow, 1) := by decide +kernel
theorem d_F_fixed_17 : decode b_F_fixed 17 = .ok (.ldc 67, 2) := by decide +kernel
theorem d_F_fixed_19 : decode b_F_fixed 19 = .ok (.iload_n 1, 1) := by decide +kernel
theorem d_F_fixed_20 : decode b_F_fixed 20 = .ok (.imul, 1) := by decide +kernel
theorem d_F_fixed_21 : decode b_F_fixed 21 = .ok (.invokestatic 82, 3) := by decide +kernel
theorem d_F_fixed_24 : decode b_F_fixed 24 = .ok (.ireturn, 1) := by decide +kernel
theorem d_F_isByte_0 : decode b_F_isByte 0 = .ok (.iload_n 0, 1) := by decide +kernel
theorem d_F_isByte_1 : decode b_F_isByte 1 = .ok (.ifCond .lt 14, 3) := by decide +kernel
theorem d_F_isByte_4 : decode b_F_isByte 4 = .ok (.iload_n 0, 1) := by decide +kernel
theorem d_F_isByte_5 : decode b_F_isByte 5 = .ok (.sipush 255, 3) := by decide +kernel
theorem d_F_isByte_8 : decode b_F_isByte 8 = .ok (.if_icmp .gt 7, 3) := by decide +kernel
theorem d_F_isByte_11 : decode b_F_isByte 11 = .ok (.iconst 1, 1) := by decide +kernel
theorem d_F_isByte_12 : decode b_F_isByte 12 = .ok (.goto 4, 3) := by decide +kernel
theorem d_F_isByte_15 : decode b_F_isByte 15 = .ok (.iconst 0, 1) := by decide +kernel
theorem d_F_isByte_16 : decode b_F_isByte 16 = .ok (.ireturn, 1) := by decide +kernel
theorem d_F_nearest255th_0 : decode b_F_nearest255th 0 = .ok (.iconst 2, 1) := by decide +kernel
theorem d_F_nearest255th_1 : decode b_F_nearest255th 1 = .ok (.iload_n 0, 1) := by decide +kernel
theorem d_F_nearest255th_2 : decode b_F_nearest255th 2 = .ok (.imul, 1) := by decide +kernel
theorem d_F_nearest255th_3 : decode b_F_nearest255th 3 = .ok (.sipush 255, 3) := by decide +kernel
theorem d_F_nearest255th_6 : decode b_F_nearest255th 6 = .ok (.iadd, 1) := by decide +kernel
theorem d_F_nearest255th_7 : decode b_F_nearest255th 7 = .ok (.sipush 510, 3) := by decide +kernel
theorem d_F_nearest255th_10 : decode b_F_nearest255th 10 = .ok (.idiv, 1) := by decide +kernel
theorem d_F_nearest255th_11 : decode b_F_nearest255th 11 = .ok (.ireturn, 1) := by decide +kernel
theorem d_F_shade_0 : decode b_F_shade 0 = .ok (.iload_n 1, 1) := by decide +kernel
theorem d_F_shade_1 : decode b_F_shade 1 = .ok (.invokestatic 76, 3) := by decide +kernel
theorem d_F_shade_4 : decode b_F_shade 4 = .ok (.ifCond .eq 10, 3) := by decide +kernel
theorem d_F_shade_7 : decode b_F_shade 7 = .ok (.iload_n 2, 1) := by decide +kernel
theorem d_F_shade_8 : decode b_F_shade 8 = .ok (.invokestatic 76, 3) := by decide +kernel
theorem d_F_shade_11 : decode b_F_shade 11 = .ok (.ifCond .ne 13, 3) := by decide +kernel
theorem d_F_shade_14 : decode b_F_shade 14 = .ok (.new 60, 3) := by decide +kernel
theorem d_F_shade_17 : decode b_F_shade 17 = .ok (.dup, 1) := by decide +kernel
theorem d_F_shade_18 : decode b_F_shade 18 = .ok (.ldc 86, 2) := by decide +kernel
theorem d_F_shade_20 : decode b_F_shade 20 = .ok (.invokespecial 64, 3) := by decide +kernel
theorem d_F_shade_23 : decode b_F_shade 23 = .ok (.athrow, 1) := by decide +kernel
theorem d_F_shade_24 : decode b_F_shade 24 = .ok (.iload_n 1, 1) := by decide +kernel
theorem d_F_shade_25 : decode b_F_shade 25 = .ok (.iload_n 2, 1) := by decide +kernel
theorem d_F_shade_26 : decode b_F_shade 26 = .ok (.imul, 1) := by decide +kernel
theorem d_F_shade_27 : decode b_F_shade 27 = .ok (.invokestatic 82, 3) := by decide +kernel
theorem d_F_shade_30 : decode b_F_shade 30 = .ok (.ireturn, 1) := by decide +kernel
set_option maxRecDepth 20000 in
theorem g_F_13 {w0 : Cond} : GoodIn (w0 :: WS) (va_wsS R_F 13 y_J_floorDiv w_J_floorDiv) := ws_good (by decide +kernel) ic_J_floorDiv rfl
set_option maxRecDepth 20000 in
theorem g_F_19 {w0 : Cond} : GoodIn (w0 :: WS) (wsS R_F 19 y_F_cut w_F_cut) := ws_good (by decide +kernel) ic_F_cut rfl
set_option maxRecDepth 20000 in
theorem g_F_23 {w0 : Cond} : GoodIn (w0 :: WS) (wsS R_F 23 y_F_wholeRoot w_F_wholeRoot) := ws_good (by decide +kernel) ic_F_wholeRoot rfl
set_option maxRecDepth 20000 in
theorem g_F_35 {w0 : Cond} : GoodIn (w0 :: WS) (wsS R_F 35 y_F_magnitude w_F_magnitude) := ws_good (by decide +kernel) ic_F_magnitude rfl
set_option maxRecDepth 20000 in
theorem g_F_90 {w0 : Cond} : GoodIn (w0 :: WS) (wsS R_F 90 y_F_highestBit w_F_highestBit) := ws_good (by decide +kernel) ic_F_highestBit rfl
set_option maxRecDepth 20000 in
theorem g_F_93 {w0 : Cond} : GoodIn (w0 :: WS) (wsS R_F 93 y_F_nearestEven w_F_nearestEven) := ws_good (by decide +kernel) ic_F_nearestEven rfl
set_option maxRecDepth 20000 in
theorem g_F_39 {w0 : Cond} : GoodIn (w0 :: WS) (wsS R_F 39 y_F_highProduct w_F_highProduct) := ws_good (by decide +kernel) ic_F_highProduct rfl
set_option maxRecDepth 20000 in
theorem g_F_42 {w0 : Cond} : GoodIn (w0 :: WS) (wsS R_F 42 y_F_isBelow w_F_isBelow) := ws_good (by decide +kernel) ic_F_isBelow rfl
set_option maxRecDepth 20000 in
theorem g_F_48 {w0 : Cond} : GoodIn (w0 :: WS) (wsS R_F 48 y_F_wholeQuotient w_F_wholeQuotient) := ws_good (by decide +kernel) ic_F_wholeQuotient rfl
set_option maxRecDepth 20000 in
theorem g_F_52 {w0 : Cond} : GoodIn (w0 :: WS) (wsS R_F 52 y_F_fitsLong w_F_fitsLong) := ws_good (by decide +kernel) ic_F_fitsLong rfl
set_option maxRecDepth 20000 in
theorem g_F_56 {w0 : Cond} : GoodIn (w0 :: WS) (wsS R_F 56 y_F_signedDown w_F_signedDown) := ws_good (by decide +kernel) ic_F_signedDown rfl
set_option maxRecDepth 20000 in
theorem g_F_76 {w0 : Cond} : GoodIn (w0 :: WS) (wsS R_F 76 y_F_isByte w_F_isByte) := ws_good (by decide +kernel) ic_F_isByte rfl
set_option maxRecDepth 20000 in
theorem g_F_82 {w0 : Cond} : GoodIn (w0 :: WS) (wsS R_F 82 y_F_nearest255th w_F_nearest255th) := ws_good (by decide +kernel) ic_F_nearest255th rfl
