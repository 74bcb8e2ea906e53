theorem d_M_init_0 : decode b_M_init 0 = .ok (.aload_n 0, 1) := by decide +kernel
theorem d_M_init_1 : decode b_M_init 1 = .ok (.invokespecial 1, 3) := by decide +kernel
theorem d_M_init_4 : decode b_M_init 4 = .ok (.return_, 1) := by decide +kernel
theorem d_M_thrown_0 : decode b_M_thrown 0 = .ok (.aload_n 0, 1) := by decide +kernel
theorem d_M_thrown_1 : decode b_M_thrown 1 = .ok (.getfield 7, 3) := by decide +kernel
theorem d_M_thrown_4 : decode b_M_thrown 4 = .ok (.ireturn, 1) := by decide +kernel
theorem d_M_product_0 : decode b_M_product 0 = .ok (.aload_n 0, 1) := by decide +kernel
theorem d_M_product_1 : decode b_M_product 1 = .ok (.iconst 0, 1) := by decide +kernel
theorem d_M_product_2 : decode b_M_product 2 = .ok (.putfield 7, 3) := by decide +kernel
theorem d_M_product_5 : decode b_M_product 5 = .ok (.iload_n 1, 1) := by decide +kernel
theorem d_M_product_6 : decode b_M_product 6 = .ok (.bipush 16, 2) := by decide +kernel
theorem d_M_product_8 : decode b_M_product 8 = .ok (.ishr, 1) := by decide +kernel
theorem d_M_product_9 : decode b_M_product 9 = .ok (.istore_n 3, 1) := by decide +kernel
theorem d_M_product_10 : decode b_M_product 10 = .ok (.iload_n 1, 1) := by decide +kernel
theorem d_M_product_11 : decode b_M_product 11 = .ok (.ldc 13, 2) := by decide +kernel
theorem d_M_product_13 : decode b_M_product 13 = .ok (.iand, 1) := by decide +kernel
theorem d_M_product_14 : decode b_M_product 14 = .ok (.istore 4, 2) := by decide +kernel
theorem d_M_product_16 : decode b_M_product 16 = .ok (.iload_n 2, 1) := by decide +kernel
theorem d_M_product_17 : decode b_M_product 17 = .ok (.bipush 16, 2) := by decide +kernel
theorem d_M_product_19 : decode b_M_product 19 = .ok (.ishr, 1) := by decide +kernel
theorem d_M_product_20 : decode b_M_product 20 = .ok (.istore 5, 2) := by decide +kernel
theorem d_M_product_22 : decode b_M_product 22 = .ok (.iload_n 2, 1) := by decide +kernel
theorem d_M_product_23 : decode b_M_product 23 = .ok (.ldc 13, 2) := by decide +kernel
theorem d_M_product_25 : decode b_M_product 25 = .ok (.iand, 1) := by decide +kernel
theorem d_M_product_26 : decode b_M_product 26 = .ok (.istore 6, 2) := by decide +kernel
theorem d_M_product_28 : decode b_M_product 28 = .ok (.iload_n 3, 1) := by decide +kernel
theorem d_M_product_29 : decode b_M_product 29 = .ok (.iload 5, 2) := by decide +kernel
theorem d_M_product_31 : decode b_M_product 31 = .ok (.imul, 1) := by decide +kernel
theorem d_M_product_32 : decode b_M_product 32 = .ok (.bipush 16, 2) := by decide +kernel
theorem d_M_product_34 : decode b_M_product 34 = .ok (.ishl, 1) := by decide +kernel
theorem d_M_product_35 : decode b_M_product 35 = .ok (.iload_n 3, 1) := by decide +kernel
theorem d_M_product_36 : decode b_M_product 36 = .ok (.iload 6, 2) := by decide +kernel
theorem d_M_product_38 : decode b_M_product 38 = .ok (.imul, 1) := by decide +kernel
theorem d_M_product_39 : decode b_M_product 39 = .ok (.iadd, 1) := by decide +kernel
theorem d_M_product_40 : decode b_M_product 40 = .ok (.iload 4, 2) := by decide +kernel
theorem d_M_product_42 : decode b_M_product 42 = .ok (.iload 5, 2) := by decide +kernel
theorem d_M_product_44 : decode b_M_product 44 = .ok (.imul, 1) := by decide +kernel
theorem d_M_product_45 : decode b_M_product 45 = .ok (.iadd, 1) := by decide +kernel
theorem d_M_product_46 : decode b_M_product 46 = .ok (.iload 4, 2) := by decide +kernel
theorem d_M_product_48 : decode b_M_product 48 = .ok (.iload 6, 2) := by decide +kernel
theorem d_M_product_50 : decode b_M_product 50 = .ok (.imul, 1) := by decide +kernel
theorem d_M_product_51 : decode b_M_product 51 = .ok (.bipush 16, 2) := by decide +kernel
theorem d_M_product_53 : decode b_M_product 53 = .ok (.iushr, 1) := by decide +kernel
theorem d_M_product_54 : decode b_M_product 54 = .ok (.iadd, 1) := by decide +kernel
theorem d_M_product_55 : decode b_M_product 55 = .ok (.ireturn, 1) := by decide +kernel
theorem d_M_quotient_0 : decode b_M_quotient 0 = .ok (.aload_n 0, 1) := by decide +kernel
theorem d_M_quotient_1 : decode b_M_quotient 1 = .ok (.iconst 0, 1) := by decide +kernel
theorem d_M_quotient_2 : decode b_M_quotient 2 = .ok (.putfield 7, 3) := by decide +kernel
theorem d_M_quotient_5 : decode b_M_quotient 5 = .ok (.iload_n 2, 1) := by decide +kernel
theorem d_M_quotient_6 : decode b_M_quotient 6 = .ok (.ifCond .ne 23, 3) := by decide +kernel
theorem d_M_quotient_9 : decode b_M_quotient 9 = .ok (.iload_n 1, 1) := by decide +kernel
theorem d_M_quotient_10 : decode b_M_quotient 10 = .ok (.ifCond .le 8, 3) := by decide +kernel
theorem d_M_quotient_13 : decode b_M_quotient 13 = .ok (.ldc 42, 2) := by decide +kernel
theorem d_M_quotient_15 : decode b_M_quotient 15 = .ok (.goto 13, 3) := by decide +kernel
theorem d_M_quotient_18 : decode b_M_quotient 18 = .ok (.iload_n 1, 1) := by decide +kernel
theorem d_M_quotient_19 : decode b_M_quotient 19 = .ok (.ifCond .ge 8, 3) := by decide +kernel
theorem d_M_quotient_22 : decode b_M_quotient 22 = .ok (.ldc 43, 2) := by decide +kernel
theorem d_M_quotient_24 : decode b_M_quotient 24 = .ok (.goto 4, 3) := by decide +kernel
theorem d_M_quotient_27 : decode b_M_quotient 27 = .ok (.iconst 0, 1) := by decide +kernel
theorem d_M_quotient_28 : decode b_M_quotient 28 = .ok (.ireturn, 1) := by decide +kernel
theorem d_M_quotient_29 : decode b_M_quotient 29 = .ok (.iload_n 1, 1) := by decide +kernel
theorem d_M_quotient_30 : decode b_M_quotient 30 = .ok (.i2l, 1) := by decide +kernel
theorem d_M_quotient_31 : decode b_M_quotient 31 = .ok (.invokestatic 30, 3) := by decide +kernel
theorem d_M_quotient_34 : decode b_M_quotient 34 = .ok (.lstore_n 3, 1) := by decide +kernel
theorem d_M_quotient_35 : decode b_M_quotient 35 = .ok (.iload_n 2, 1) := by decide +kernel
theorem d_M_quotient_36 : decode b_M_quotient 36 = .ok (.i2l, 1) := by decide +kernel
theorem d_M_quotient_37 : decode b_M_quotient 37 = .ok (.invokestatic 30, 3) := by decide +kernel
theorem d_M_quotient_40 : decode b_M_quotient 40 = .ok (.lstore 5, 2) := by decide +kernel
theorem d_M_quotient_42 : decode b_M_quotient 42 = .ok (.lconst 0, 1) := by decide +kernel
theorem d_M_quotient_43 : decode b_M_quotient 43 = .ok (.lstore 7, 2) := by decide +kernel
theorem d_M_quotient_45 : decode b_M_quotient 45 = .ok (.lconst 0, 1) := by decide +kernel
theorem d_M_quotient_46 : decode b_M_quotient 46 = .ok (.lstore 9, 2) := by decide +kernel
theorem d_M_quotient_48 : decode b_M_quotient 48 = .ok (.bipush 47, 2) := by decide +kernel
theorem d_M_quotient_50 : decode b_M_quotient 50 = .ok (.istore 11, 2) := by decide +kernel
theorem d_M_quotient_52 : decode b_M_quotient 52 = .ok (.iload 11, 2) := by decide +kernel
theorem d_M_quotient_54 : decode b_M_quotient 54 = .ok (.ifCond .lt 63, 3) := by decide +kernel
theorem d_M_quotient_57 : decode b_M_quotient 57 = .ok (.lload 9, 2) := by decide +kernel
theorem d_M_quotient_59 : decode b_M_quotient 59 = .ok (.iconst 1, 1) := by decide +kernel
theorem d_M_quotient_60 : decode b_M_quotient 60 = .ok (.lshl, 1) := by decide +kernel
theorem d_M_quotient_61 : decode b_M_quotient 61 = .ok (.iload 11, 2) := by decide +kernel
theorem d_M_quotient_63 : decode b_M_quotient 63 = .ok (.bipush 15, 2) := by decide +kernel
theorem d_M_quotient_65 : decode b_M_quotient 65 = .ok (.if_icmp .le 15, 3) := by decide +kernel
theorem d_M_quotient_68 : decode b_M_quotient 68 = .ok (.lload_n 3, 1) := by decide +kernel
theorem d_M_quotient_69 : decode b_M_quotient 69 = .ok (.iload 11, 2) := by decide +kernel
theorem d_M_quotient_71 : decode b_M_quotient 71 = .ok (.bipush 16, 2) := by decide +kernel
theorem d_M_quotient_73 : decode b_M_quotient 73 = .ok (.isub, 1) := by decide +kernel
theorem d_M_quotient_74 : decode b_M_quotient 74 = .ok (.lshr, 1) := by decide +kernel
theorem d_M_quotient_75 : decode b_M_quotient 75 = .ok (.lconst 1, 1) := by decide +kernel
theorem d_M_quotient_76 : decode b_M_quotient 76 = .ok (.land, 1) := by decide +kernel
theorem d_M_quotient_77 : decode b_M_quotient 77 = .ok (.goto 4, 3) := by decide +kernel
theorem d_M_quotient_80 : decode b_M_quotient 80 = .ok (.lconst 0, 1) := by decide +kernel
theorem d_M_quotient_81 : decode b_M_quotient 81 = .ok (.lor, 1) := by decide +kernel
theorem d_M_quotient_82 : decode b_M_quotient 82 = .ok (.lstore 9, 2) := by decide +kernel
theorem d_M_quotient_84 : decode b_M_quotient 84 = .ok (.lload 7, 2) := by decide +kernel
theorem d_M_quotient_86 : decode b_M_quotient 86 = .ok (.iconst 1, 1) := by decide +kernel
theorem d_M_quotient_87 : decode b_M_quotient 87 = .ok (.lshl, 1) := by decide +kernel
theorem d_M_quotient_88 : decode b_M_quotient 88 = .ok (.lstore 7, 2) := by decide +kernel
theorem d_M_quotient_90 : decode b_M_quotient 90 = .ok (.lload 9, 2) := by decide +kernel
theorem d_M_quotient_92 : decode b_M_quotient 92 = .ok (.lload 5, 2) := by decide +kernel
theorem d_M_quotient_94 : decode b_M_quotient 94 = .ok (.lcmp, 1) := by decide +kernel
theorem d_M_quotient_95 : decode b_M_quotient 95 = .ok (.ifCond .lt 16, 3) := by decide +kernel
theorem d_M_quotient_98 : decode b_M_quotient 98 = .ok (.lload 9, 2) := by decide +kernel
theorem d_M_quotient_100 : decode b_M_quotient 100 = .ok (.lload 5, 2) := by decide +kernel
theorem d_M_quotient_102 : decode b_M_quotient 102 = .ok (.lsub, 1) := by decide +kernel
theorem d_M_quotient_103 : decode b_M_quotient 103 = .ok (.lstore 9, 2) := by decide +kernel
theorem d_M_quotient_105 : decode b_M_quotient 105 = .ok (.lload 7, 2) := by decide +kernel
theorem d_M_quotient_107 : decode b_M_quotient 107 = .ok (.lconst 1, 1) := by decide +kernel
theorem d_M_quotient_108 : decode b_M_quotient 108 = .ok (.lor, 1) := by decide +kernel
theorem d_M_quotient_109 : decode b_M_quotient 109 = .ok (.lstore 7, 2) := by decide +kernel
theorem d_M_quotient_111 : decode b_M_quotient 111 = .ok (.iinc 11 (-1), 3) := by decide +kernel
theorem d_M_quotient_114 : decode b_M_quotient 114 = .ok (.goto (-62), 3) := by decide +kernel
theorem d_M_quotient_117 : decode b_M_quotient 117 = .ok (.iload_n 1, 1) := by decide +kernel
theorem d_M_quotient_118 : decode b_M_quotient 118 = .ok (.ifCond .ge 7, 3) := by decide +kernel
theorem d_M_quotient_121 : decode b_M_quotient 121 = .ok (.iconst 1, 1) := by decide +kernel
theorem d_M_quotient_122 : decode b_M_quotient 122 = .ok (.goto 4, 3) := by decide +kernel
theorem d_M_quotient_125 : decode b_M_quotient 125 = .ok (.iconst 0, 1) := by decide +kernel
theorem d_M_quotient_126 : decode b_M_quotient 126 = .ok (.iload_n 2, 1) := by decide +kernel
theorem d_M_quotient_127 : decode b_M_quotient 127 = .ok (.ifCond .ge 7, 3) := by decide +kernel
theorem d_M_quotient_130 : decode b_M_quotient 130 = .ok (.iconst 1, 1) := by decide +kernel
theorem d_M_quotient_131 : decode b_M_quotient 131 = .ok (.goto 4, 3) := by decide +kernel
theorem d_M_quotient_134 : decode b_M_quotient 134 = .ok (.iconst 0, 1) := by decide +kernel
theorem d_M_quotient_135 : decode b_M_quotient 135 = .ok (.if_icmp .eq 27, 3) := by decide +kernel
theorem d_M_quotient_138 : decode b_M_quotient 138 = .ok (.iload_n 1, 1) := by decide +kernel
theorem d_M_quotient_139 : decode b_M_quotient 139 = .ok (.ifCond .eq 23, 3) := by decide +kernel
theorem d_M_quotient_142 : decode b_M_quotient 142 = .ok (.lload 9, 2) := by decide +kernel
theorem d_M_quotient_144 : decode b_M_quotient 144 = .ok (.lconst 0, 1) := by decide +kernel
theorem d_M_quotient_145 : decode b_M_quotient 145 = .ok (.lcmp, 1) := by decide +kernel
theorem d_M_quotient_146 : decode b_M_quotient 146 = .ok (.ifCond .le 11, 3) := by decide +kernel
theorem d_M_quotient_149 : decode b_M_quotient 149 = .ok (.lload 7, 2) := by decide +kernel
theorem d_M_quotient_151 : decode b_M_quotient 151 = .ok (.lneg, 1) := by decide +kernel
theorem d_M_quotient_152 : decode b_M_quotient 152 = .ok (.lconst 1, 1) := by decide +kernel
theorem d_M_quotient_153 : decode b_M_quotient 153 = .ok (.lsub, 1) := by decide +kernel
theorem d_M_quotient_154 : decode b_M_quotient 154 = .ok (.goto 6, 3) := by decide +kernel
theorem d_M_quotient_157 : decode b_M_quotient 157 = .ok (.lload 7, 2) := by decide +kernel
theorem d_M_quotient_159 : decode b_M_quotient 159 = .ok (.lneg, 1) := by decide +kernel
theorem d_M_quotient_160 : decode b_M_quotient 160 = .ok (.lstore 7, 2) := by decide +kernel
theorem d_M_quotient_162 : decode b_M_quotient 162 = .ok (.lload 7, 2) := by decide +kernel
theorem d_M_quotient_164 : decode b_M_quotient 164 = .ok (.ldc2_w 44, 3) := by decide +kernel
theorem d_M_quotient_167 : decode b_M_quotient 167 = .ok (.lcmp, 1) := by decide +kernel
theorem d_M_quotient_168 : decode b_M_quotient 168 = .ok (.ifCond .le 8, 3) := by decide +kernel
theorem d_M_quotient_171 : decode b_M_quotient 171 = .ok (.ldc 42, 2) := by decide +kernel
theorem d_M_quotient_173 : decode b_M_quotient 173 = .ok (.goto 20, 3) := by decide +kernel
theorem d_M_quotient_176 : decode b_M_quotient 176 = .ok (.lload 7, 2) := by decide +kernel
theorem d_M_quotient_178 : decode b_M_quotient 178 = .ok (.ldc2_w 46, 3) := by decide +kernel
theorem d_M_quotient_181 : decode b_M_quotient 181 = .ok (.lcmp, 1) := by decide +kernel
theorem d_M_quotient_182 : decode b_M_quotient 182 = .ok (.ifCond .ge 8, 3) := by decide +kernel
theorem d_M_quotient_185 : decode b_M_quotient 185 = .ok (.ldc 43, 2) := by decide +kernel
theorem d_M_quotient_187 : decode b_M_quotient 187 = .ok (.goto 6, 3) := by decide +kernel
theorem d_M_quotient_190 : decode b_M_quotient 190 = .ok (.lload 7, 2) := by decide +kernel
theorem d_M_quotient_192 : decode b_M_quotient 192 = .ok (.l2i, 1) := by decide +kernel
theorem d_M_quotient_193 : decode b_M_quotient 193 = .ok (.ireturn, 1) := by decide +kernel
theorem d_M_size_0 : decode b_M_size 0 = .ok (.lload_n 0, 1) := by decide +kernel
theorem d_M_size_1 : decode b_M_size 1 = .ok (.lconst 0, 1) := by decide +kernel
theorem d_M_size_2 : decode b_M_size 2 = .ok (.lcmp, 1) := by decide +kernel
theorem d_M_size_3 : decode b_M_size 3 = .ok (.ifCond .ge 8, 3) := by decide +kernel
theorem d_M_size_6 : decode b_M_size 6 = .ok (.lload_n 0, 1) := by decide +kernel
theorem d_M_size_7 : decode b_M_size 7 = .ok (.lneg, 1) := by decide +kernel
theorem d_M_size_8 : decode b_M_size 8 = .ok (.goto 4, 3) := by decide +kernel
theorem d_M_size_11 : decode b_M_size 11 = .ok (.lload_n 0, 1) := by decide +kernel
theorem d_M_size_12 : decode b_M_size 12 = .ok (.lreturn, 1) := by decide +kernel
theorem d_M_root_0 : decode b_M_root 0 = .ok (.aload_n 0, 1) := by decide +kernel
theorem d_M_root_1 : decode b_M_root 1 = .ok (.iconst 0, 1) := by decide +kernel
theorem d_M_root_2 : decode b_M_root 2 = .ok (.putfield 7, 3) := by decide +kernel
theorem d_M_root_5 : decode b_M_root 5 = .ok (.iload_n 1, 1) := by decide +kernel
theorem d_M_root_6 : decode b_M_root 6 = .ok (.ifCond .ge 7, 3) := by decide +kernel
theorem d_M_root_9 : decode b_M_root 9 = .ok (.lconst 0, 1) := by decide +kernel
theorem d_M_root_10 : decode b_M_root 10 = .ok (.goto 9, 3) := by decide +kernel
theorem d_M_root_13 : decode b_M_root 13 = .ok (.ldc2_w 48, 3) := by decide +kernel
theorem d_M_root_16 : decode b_M_root 16 = .ok (.iload_n 1, 1) := by decide +kernel
theorem d_M_root_17 : decode b_M_root 17 = .ok (.i2l, 1) := by decide +kernel
theorem d_M_root_18 : decode b_M_root 18 = .ok (.lmul, 1) := by decide +kernel
theorem d_M_root_19 : decode b_M_root 19 = .ok (.lstore_n 2, 1) := by decide +kernel
theorem d_M_root_20 : decode b_M_root 20 = .ok (.lconst 0, 1) := by decide +kernel
theorem d_M_root_21 : decode b_M_root 21 = .ok (.lstore 4, 2) := by decide +kernel
theorem d_M_root_23 : decode b_M_root 23 = .ok (.ldc2_w 50, 3) := by decide +kernel
theorem d_M_root_26 : decode b_M_root 26 = .ok (.lstore 6, 2) := by decide +kernel
theorem d_M_root_28 : decode b_M_root 28 = .ok (.lload 6, 2) := by decide +kernel
theorem d_M_root_30 : decode b_M_root 30 = .ok (.lconst 0, 1) := by decide +kernel
theorem d_M_root_31 : decode b_M_root 31 = .ok (.lcmp, 1) := by decide +kernel
theorem d_M_root_32 : decode b_M_root 32 = .ok (.ifCond .le 40, 3) := by decide +kernel
theorem d_M_root_35 : decode b_M_root 35 = .ok (.lload 4, 2) := by decide +kernel
theorem d_M_root_37 : decode b_M_root 37 = .ok (.lload 6, 2) := by decide +kernel
theorem d_M_root_39 : decode b_M_root 39 = .ok (.ladd, 1) := by decide +kernel
theorem d_M_root_40 : decode b_M_root 40 = .ok (.lload 4, 2) := by decide +kernel
theorem d_M_root_42 : decode b_M_root 42 = .ok (.lload 6, 2) := by decide +kernel
theorem d_M_root_44 : decode b_M_root 44 = .ok (.ladd, 1) := by decide +kernel
theorem d_M_root_45 : decode b_M_root 45 = .ok (.lmul, 1) := by decide +kernel
theorem d_M_root_46 : decode b_M_root 46 = .ok (.lload_n 2, 1) := by decide +kernel
theorem d_M_root_47 : decode b_M_root 47 = .ok (.lcmp, 1) := by decide +kernel
theorem d_M_root_48 : decode b_M_root 48 = .ok (.ifCond .gt 11, 3) := by decide +kernel
theorem d_M_root_51 : decode b_M_root 51 = .ok (.lload 4, 2) := by decide +kernel
theorem d_M_root_53 : decode b_M_root 53 = .ok (.lload 6, 2) := by decide +kernel
theorem d_M_root_55 : decode b_M_root 55 = .ok (.ladd, 1) := by decide +kernel
theorem d_M_root_56 : decode b_M_root 56 = .ok (.goto 5, 3) := by decide +kernel
theorem d_M_root_59 : decode b_M_root 59 = .ok (.lload 4, 2) := by decide +kernel
theorem d_M_root_61 : decode b_M_root 61 = .ok (.lstore 4, 2) := by decide +kernel
theorem d_M_root_63 : decode b_M_root 63 = .ok (.lload 6, 2) := by decide +kernel
theorem d_M_root_65 : decode b_M_root 65 = .ok (.iconst 1, 1) := by decide +kernel
theorem d_M_root_66 : decode b_M_root 66 = .ok (.lshr, 1) := by decide +kernel
theorem d_M_root_67 : decode b_M_root 67 = .ok (.lstore 6, 2) := by decide +kernel
theorem d_M_root_69 : decode b_M_root 69 = .ok (.goto (-41), 3) := by decide +kernel
theorem d_M_root_72 : decode b_M_root 72 = .ok (.lload 4, 2) := by decide +kernel
theorem d_M_root_74 : decode b_M_root 74 = .ok (.l2i, 1) := by decide +kernel
theorem d_M_root_75 : decode b_M_root 75 = .ok (.ireturn, 1) := by decide +kernel
theorem d_M_oneByRoot_0 : decode b_M_oneByRoot 0 = .ok (.aload_n 0, 1) := by decide +kernel
theorem d_M_oneByRoot_1 : decode b_M_oneByRoot 1 = .ok (.iconst 0, 1) := by decide +kernel
theorem d_M_oneByRoot_2 : decode b_M_oneByRoot 2 = .ok (.putfield 7, 3) := by decide +kernel
theorem d_M_oneByRoot_5 : decode b_M_oneByRoot 5 = .ok (.iload_n 1, 1) := by decide +kernel
theorem d_M_oneByRoot_6 : decode b_M_oneByRoot 6 = .ok (.ifCond .gt 6, 3) := by decide +kernel
theorem d_M_oneByRoot_9 : decode b_M_oneByRoot 9 = .ok (.ldc 42, 2) := by decide +kernel
theorem d_M_oneByRoot_11 : decode b_M_oneByRoot 11 = .ok (.ireturn, 1) := by decide +kernel
theorem d_M_oneByRoot_12 : decode b_M_oneByRoot 12 = .ok (.ldc2_w 52, 3) := by decide +kernel
theorem d_M_oneByRoot_15 : decode b_M_oneByRoot 15 = .ok (.iload_n 1, 1) := by decide +kernel
theorem d_M_oneByRoot_16 : decode b_M_oneByRoot 16 = .ok (.i2l, 1) := by decide +kernel
theorem d_M_oneByRoot_17 : decode b_M_oneByRoot 17 = .ok (.ldiv, 1) := by decide +kernel
theorem d_M_oneByRoot_18 : decode b_M_oneByRoot 18 = .ok (.lstore_n 2, 1) := by decide +kernel
theorem d_M_oneByRoot_19 : decode b_M_oneByRoot 19 = .ok (.lconst 0, 1) := by decide +kernel
theorem d_M_oneByRoot_20 : decode b_M_oneByRoot 20 = .ok (.lstore 4, 2) := by decide +kernel
theorem d_M_oneByRoot_22 : decode b_M_oneByRoot 22 = .ok (.ldc2_w 50, 3) := by decide +kernel
theorem d_M_oneByRoot_25 : decode b_M_oneByRoot 25 = .ok (.lstore 6, 2) := by decide +kernel
theorem d_M_oneByRoot_27 : decode b_M_oneByRoot 27 = .ok (.lload 6, 2) := by decide +kernel
theorem d_M_oneByRoot_29 : decode b_M_oneByRoot 29 = .ok (.lconst 0, 1) := by decide +kernel
theorem d_M_oneByRoot_30 : decode b_M_oneByRoot 30 = .ok (.lcmp, 1) := by decide +kernel
theorem d_M_oneByRoot_31 : decode b_M_oneByRoot 31 = .ok (.ifCond .le 40, 3) := by decide +kernel
theorem d_M_oneByRoot_34 : decode b_M_oneByRoot 34 = .ok (.lload 4, 2) := by decide +kernel
theorem d_M_oneByRoot_36 : decode b_M_oneByRoot 36 = .ok (.lload 6, 2) := by decide +kernel
theorem d_M_oneByRoot_38 : decode b_M_oneByRoot 38 = .ok (.ladd, 1) := by decide +kernel
theorem d_M_oneByRoot_39 : decode b_M_oneByRoot 39 = .ok (.lload 4, 2) := by decide +kernel
theorem d_M_oneByRoot_41 : decode b_M_oneByRoot 41 = .ok (.lload 6, 2) := by decide +kernel
theorem d_M_oneByRoot_43 : decode b_M_oneByRoot 43 = .ok (.ladd, 1) := by decide +kernel
theorem d_M_oneByRoot_44 : decode b_M_oneByRoot 44 = .ok (.lmul, 1) := by decide +kernel
theorem d_M_oneByRoot_45 : decode b_M_oneByRoot 45 = .ok (.lload_n 2, 1) := by decide +kernel
theorem d_M_oneByRoot_46 : decode b_M_oneByRoot 46 = .ok (.lcmp, 1) := by decide +kernel
theorem d_M_oneByRoot_47 : decode b_M_oneByRoot 47 = .ok (.ifCond .gt 11, 3) := by decide +kernel
theorem d_M_oneByRoot_50 : decode b_M_oneByRoot 50 = .ok (.lload 4, 2) := by decide +kernel
theorem d_M_oneByRoot_52 : decode b_M_oneByRoot 52 = .ok (.lload 6, 2) := by decide +kernel
theorem d_M_oneByRoot_54 : decode b_M_oneByRoot 54 = .ok (.ladd, 1) := by decide +kernel
theorem d_M_oneByRoot_55 : decode b_M_oneByRoot 55 = .ok (.goto 5, 3) := by decide +kernel
theorem d_M_oneByRoot_58 : decode b_M_oneByRoot 58 = .ok (.lload 4, 2) := by decide +kernel
theorem d_M_oneByRoot_60 : decode b_M_oneByRoot 60 = .ok (.lstore 4, 2) := by decide +kernel
theorem d_M_oneByRoot_62 : decode b_M_oneByRoot 62 = .ok (.lload 6, 2) := by decide +kernel
theorem d_M_oneByRoot_64 : decode b_M_oneByRoot 64 = .ok (.iconst 1, 1) := by decide +kernel
theorem d_M_oneByRoot_65 : decode b_M_oneByRoot 65 = .ok (.lshr, 1) := by decide +kernel
theorem d_M_oneByRoot_66 : decode b_M_oneByRoot 66 = .ok (.lstore 6, 2) := by decide +kernel
theorem d_M_oneByRoot_68 : decode b_M_oneByRoot 68 = .ok (.goto (-41), 3) := by decide +kernel
theorem d_M_oneByRoot_71 : decode b_M_oneByRoot 71 = .ok (.lload 4, 2) := by decide +kernel
theorem d_M_oneByRoot_73 : decode b_M_oneByRoot 73 = .ok (.l2i, 1) := by decide +kernel
theorem d_M_oneByRoot_74 : decode b_M_oneByRoot 74 = .ok (.ireturn, 1) := by decide +kernel
theorem d_M_ratio_0 : decode b_M_ratio 0 = .ok (.aload_n 0, 1) := by decide +kernel
theorem d_M_ratio_1 : decode b_M_ratio 1 = .ok (.iconst 1, 1) := by decide +kernel
theorem d_M_ratio_2 : decode b_M_ratio 2 = .ok (.putfield 7, 3) := by decide +kernel
theorem d_M_ratio_5 : decode b_M_ratio 5 = .ok (.lload 5, 2) := by decide +kernel
theorem d_M_ratio_7 : decode b_M_ratio 7 = .ok (.lconst 0, 1) := by decide +kernel
theorem d_M_ratio_8 : decode b_M_ratio 8 = .ok (.lcmp, 1) := by decide +kernel
theorem d_M_ratio_9 : decode b_M_ratio 9 = .ok (.ifCond .ne 5, 3) := by decide +kernel
theorem d_M_ratio_12 : decode b_M_ratio 12 = .ok (.lconst 0, 1) := by decide +kernel
theorem d_M_ratio_13 : decode b_M_ratio 13 = .ok (.lreturn, 1) := by decide +kernel
theorem d_M_ratio_14 : decode b_M_ratio 14 = .ok (.aload_n 0, 1) := by decide +kernel
theorem d_M_ratio_15 : decode b_M_ratio 15 = .ok (.lload_n 1, 1) := by decide +kernel
theorem d_M_ratio_16 : decode b_M_ratio 16 = .ok (.lload_n 3, 1) := by decide +kernel
theorem d_M_ratio_17 : decode b_M_ratio 17 = .ok (.lload 5, 2) := by decide +kernel
theorem d_M_ratio_19 : decode b_M_ratio 19 = .ok (.invokevirtual 54, 3) := by decide +kernel
theorem d_M_ratio_22 : decode b_M_ratio 22 = .ok (.lstore 7, 2) := by decide +kernel
theorem d_M_ratio_24 : decode b_M_ratio 24 = .ok (.aload_n 0, 1) := by decide +kernel
theorem d_M_ratio_25 : decode b_M_ratio 25 = .ok (.aload_n 0, 1) := by decide +kernel
theorem d_M_ratio_26 : decode b_M_ratio 26 = .ok (.getfield 27, 3) := by decide +kernel
theorem d_M_ratio_29 : decode b_M_ratio 29 = .ok (.lconst 0, 1) := by decide +kernel
theorem d_M_ratio_30 : decode b_M_ratio 30 = .ok (.lcmp, 1) := by decide +kernel
theorem d_M_ratio_31 : decode b_M_ratio 31 = .ok (.ifCond .ne 7, 3) := by decide +kernel
theorem d_M_ratio_34 : decode b_M_ratio 34 = .ok (.iconst 0, 1) := by decide +kernel
theorem d_M_ratio_35 : decode b_M_ratio 35 = .ok (.goto 4, 3) := by decide +kernel
theorem d_M_ratio_38 : decode b_M_ratio 38 = .ok (.iconst 1, 1) := by decide +kernel
theorem d_M_ratio_39 : decode b_M_ratio 39 = .ok (.putfield 7, 3) := by decide +kernel
theorem d_M_ratio_42 : decode b_M_ratio 42 = .ok (.aload_n 0, 1) := by decide +kernel
theorem d_M_ratio_43 : decode b_M_ratio 43 = .ok (.getfield 27, 3) := by decide +kernel
theorem d_M_ratio_46 : decode b_M_ratio 46 = .ok (.lconst 0, 1) := by decide +kernel
theorem d_M_ratio_47 : decode b_M_ratio 47 = .ok (.lcmp, 1) := by decide +kernel
theorem d_M_ratio_48 : decode b_M_ratio 48 = .ok (.ifCond .ne 8, 3) := by decide +kernel
theorem d_M_ratio_51 : decode b_M_ratio 51 = .ok (.lload 7, 2) := by decide +kernel
theorem d_M_ratio_53 : decode b_M_ratio 53 = .ok (.goto 4, 3) := by decide +kernel
theorem d_M_ratio_56 : decode b_M_ratio 56 = .ok (.lconst 0, 1) := by decide +kernel
theorem d_M_ratio_57 : decode b_M_ratio 57 = .ok (.lreturn, 1) := by decide +kernel
theorem d_M_exact_0 : decode b_M_exact 0 = .ok (.aload_n 0, 1) := by decide +kernel
theorem d_M_exact_1 : decode b_M_exact 1 = .ok (.lload_n 1, 1) := by decide +kernel
theorem d_M_exact_2 : decode b_M_exact 2 = .ok (.invokestatic 30, 3) := by decide +kernel
theorem d_M_exact_5 : decode b_M_exact 5 = .ok (.lload_n 3, 1) := by decide +kernel
theorem d_M_exact_6 : decode b_M_exact 6 = .ok (.invokestatic 30, 3) := by decide +kernel
theorem d_M_exact_9 : decode b_M_exact 9 = .ok (.invokevirtual 34, 3) := by decide +kernel
theorem d_M_exact_12 : decode b_M_exact 12 = .ok (.aload_n 0, 1) := by decide +kernel
theorem d_M_exact_13 : decode b_M_exact 13 = .ok (.lload 5, 2) := by decide +kernel
theorem d_M_exact_15 : decode b_M_exact 15 = .ok (.invokestatic 30, 3) := by decide +kernel
theorem d_M_exact_18 : decode b_M_exact 18 = .ok (.invokevirtual 38, 3) := by decide +kernel
theorem d_M_exact_21 : decode b_M_exact 21 = .ok (.lload_n 1, 1) := by decide +kernel
theorem d_M_exact_22 : decode b_M_exact 22 = .ok (.lconst 0, 1) := by decide +kernel
theorem d_M_exact_23 : decode b_M_exact 23 = .ok (.lcmp, 1) := by decide +kernel
theorem d_M_exact_24 : decode b_M_exact 24 = .ok (.ifCond .ge 7, 3) := by decide +kernel
theorem d_M_exact_27 : decode b_M_exact 27 = .ok (.iconst 1, 1) := by decide +kernel
theorem d_M_exact_28 : decode b_M_exact 28 = .ok (.goto 4, 3) := by decide +kernel
theorem d_M_exact_31 : decode b_M_exact 31 = .ok (.iconst 0, 1) := by decide +kernel
theorem d_M_exact_32 : decode b_M_exact 32 = .ok (.lload_n 3, 1) := by decide +kernel
theorem d_M_exact_33 : decode b_M_exact 33 = .ok (.lconst 0, 1) := by decide +kernel
theorem d_M_exact_34 : decode b_M_exact 34 = .ok (.lcmp, 1) := by decide +kernel
theorem d_M_exact_35 : decode b_M_exact 35 = .ok (.ifCond .ge 7, 3) := by decide +kernel
theorem d_M_exact_38 : decode b_M_exact 38 = .ok (.iconst 1, 1) := by decide +kernel
theorem d_M_exact_39 : decode b_M_exact 39 = .ok (.goto 4, 3) := by decide +kernel
theorem d_M_exact_42 : decode b_M_exact 42 = .ok (.iconst 0, 1) := by decide +kernel
theorem d_M_exact_43 : decode b_M_exact 43 = .ok (.if_icmp .eq 7, 3) := by decide +kernel
theorem d_M_exact_46 : decode b_M_exact 46 = .ok (.iconst 1, 1) := by decide +kernel
theorem d_M_exact_47 : decode b_M_exact 47 = .ok (.goto 4, 3) := by decide +kernel
theorem d_M_exact_50 : decode b_M_exact 50 = .ok (.iconst 0, 1) := by decide +kernel
theorem d_M_exact_51 : decode b_M_exact 51 = .ok (.lload 5, 2) := by decide +kernel
theorem d_M_exact_53 : decode b_M_exact 53 = .ok (.lconst 0, 1) := by decide +kernel
theorem d_M_exact_54 : decode b_M_exact 54 = .ok (.lcmp, 1) := by decide +kernel
theorem d_M_exact_55 : decode b_M_exact 55 = .ok (.ifCond .ge 7, 3) := by decide +kernel
theorem d_M_exact_58 : decode b_M_exact 58 = .ok (.iconst 1, 1) := by decide +kernel
theorem d_M_exact_59 : decode b_M_exact 59 = .ok (.goto 4, 3) := by decide +kernel
theorem d_M_exact_62 : decode b_M_exact 62 = .ok (.iconst 0, 1) := by decide +kernel
theorem d_M_exact_63 : decode b_M_exact 63 = .ok (.if_icmp .eq 34, 3) := by decide +kernel
theorem d_M_exact_66 : decode b_M_exact 66 = .ok (.aload_n 0, 1) := by decide +kernel
theorem d_M_exact_67 : decode b_M_exact 67 = .ok (.getfield 16, 3) := by decide +kernel
theorem d_M_exact_70 : decode b_M_exact 70 = .ok (.lconst 0, 1) := by decide +kernel
theorem d_M_exact_71 : decode b_M_exact 71 = .ok (.lcmp, 1) := by decide +kernel
theorem d_M_exact_72 : decode b_M_exact 72 = .ok (.ifCond .ne 21, 3) := by decide +kernel
theorem d_M_exact_75 : decode b_M_exact 75 = .ok (.aload_n 0, 1) := by decide +kernel
theorem d_M_exact_76 : decode b_M_exact 76 = .ok (.getfield 20, 3) := by decide +kernel
theorem d_M_exact_79 : decode b_M_exact 79 = .ok (.lconst 0, 1) := by decide +kernel
theorem d_M_exact_80 : decode b_M_exact 80 = .ok (.lcmp, 1) := by decide +kernel
theorem d_M_exact_81 : decode b_M_exact 81 = .ok (.ifCond .ne 12, 3) := by decide +kernel
theorem d_M_exact_84 : decode b_M_exact 84 = .ok (.aload_n 0, 1) := by decide +kernel
theorem d_M_exact_85 : decode b_M_exact 85 = .ok (.getfield 27, 3) := by decide +kernel
theorem d_M_exact_88 : decode b_M_exact 88 = .ok (.lconst 0, 1) := by decide +kernel
theorem d_M_exact_89 : decode b_M_exact 89 = .ok (.lcmp, 1) := by decide +kernel
theorem d_M_exact_90 : decode b_M_exact 90 = .ok (.ifCond .eq 7, 3) := by decide +kernel
theorem d_M_exact_93 : decode b_M_exact 93 = .ok (.iconst 1, 1) := by decide +kernel
theorem d_M_exact_94 : decode b_M_exact 94 = .ok (.goto 4, 3) := by decide +kernel
theorem d_M_exact_97 : decode b_M_exact 97 = .ok (.iconst 0, 1) := by decide +kernel
theorem d_M_exact_98 : decode b_M_exact 98 = .ok (.istore 7, 2) := by decide +kernel
theorem d_M_exact_100 : decode b_M_exact 100 = .ok (.iload 7, 2) := by decide +kernel
theorem d_M_exact_102 : decode b_M_exact 102 = .ok (.ifCond .eq 48, 3) := by decide +kernel
theorem d_M_exact_105 : decode b_M_exact 105 = .ok (.aload_n 0, 1) := by decide +kernel
theorem d_M_exact_106 : decode b_M_exact 106 = .ok (.getfield 27, 3) := by decide +kernel
theorem d_M_exact_109 : decode b_M_exact 109 = .ok (.lconst 0, 1) := by decide +kernel
theorem d_M_exact_110 : decode b_M_exact 110 = .ok (.lcmp, 1) := by decide +kernel
theorem d_M_exact_111 : decode b_M_exact 111 = .ok (.ifCond .eq 39, 3) := by decide +kernel
theorem d_M_exact_114 : decode b_M_exact 114 = .ok (.aload_n 0, 1) := by decide +kernel
theorem d_M_exact_115 : decode b_M_exact 115 = .ok (.aload_n 0, 1) := by decide +kernel
theorem d_M_exact_116 : decode b_M_exact 116 = .ok (.getfield 20, 3) := by decide +kernel
theorem d_M_exact_119 : decode b_M_exact 119 = .ok (.lconst 1, 1) := by decide +kernel
theorem d_M_exact_120 : decode b_M_exact 120 = .ok (.ladd, 1) := by decide +kernel
theorem d_M_exact_121 : decode b_M_exact 121 = .ok (.putfield 20, 3) := by decide +kernel
theorem d_M_exact_124 : decode b_M_exact 124 = .ok (.aload_n 0, 1) := by decide +kernel
theorem d_M_exact_125 : decode b_M_exact 125 = .ok (.aload_n 0, 1) := by decide +kernel
theorem d_M_exact_126 : decode b_M_exact 126 = .ok (.getfield 20, 3) := by decide +kernel
theorem d_M_exact_129 : decode b_M_exact 129 = .ok (.lconst 0, 1) := by decide +kernel
theorem d_M_exact_130 : decode b_M_exact 130 = .ok (.lcmp, 1) := by decide +kernel
theorem d_M_exact_131 : decode b_M_exact 131 = .ok (.ifCond .ne 12, 3) := by decide +kernel
theorem d_M_exact_134 : decode b_M_exact 134 = .ok (.aload_n 0, 1) := by decide +kernel
theorem d_M_exact_135 : decode b_M_exact 135 = .ok (.getfield 16, 3) := by decide +kernel
theorem d_M_exact_138 : decode b_M_exact 138 = .ok (.lconst 1, 1) := by decide +kernel
theorem d_M_exact_139 : decode b_M_exact 139 = .ok (.ladd, 1) := by decide +kernel
theorem d_M_exact_140 : decode b_M_exact 140 = .ok (.goto 7, 3) := by decide +kernel
theorem d_M_exact_143 : decode b_M_exact 143 = .ok (.aload_n 0, 1) := by decide +kernel
theorem d_M_exact_144 : decode b_M_exact 144 = .ok (.getfield 16, 3) := by decide +kernel
theorem d_M_exact_147 : decode b_M_exact 147 = .ok (.putfield 16, 3) := by decide +kernel
theorem d_M_exact_150 : decode b_M_exact 150 = .ok (.aload_n 0, 1) := by decide +kernel
theorem d_M_exact_151 : decode b_M_exact 151 = .ok (.getfield 16, 3) := by decide +kernel
theorem d_M_exact_154 : decode b_M_exact 154 = .ok (.lconst 0, 1) := by decide +kernel
theorem d_M_exact_155 : decode b_M_exact 155 = .ok (.lcmp, 1) := by decide +kernel
theorem d_M_exact_156 : decode b_M_exact 156 = .ok (.ifCond .ne 32, 3) := by decide +kernel
theorem d_M_exact_159 : decode b_M_exact 159 = .ok (.aload_n 0, 1) := by decide +kernel
theorem d_M_exact_160 : decode b_M_exact 160 = .ok (.getfield 20, 3) := by decide +kernel
theorem d_M_exact_163 : decode b_M_exact 163 = .ok (.lconst 0, 1) := by decide +kernel
theorem d_M_exact_164 : decode b_M_exact 164 = .ok (.lcmp, 1) := by decide +kernel
theorem d_M_exact_165 : decode b_M_exact 165 = .ok (.ifCond .ge 19, 3) := by decide +kernel
theorem d_M_exact_168 : decode b_M_exact 168 = .ok (.iload 7, 2) := by decide +kernel
theorem d_M_exact_170 : decode b_M_exact 170 = .ok (.ifCond .eq 18, 3) := by decide +kernel
theorem d_M_exact_173 : decode b_M_exact 173 = .ok (.aload_n 0, 1) := by decide +kernel
theorem d_M_exact_174 : decode b_M_exact 174 = .ok (.getfield 20, 3) := by decide +kernel
theorem d_M_exact_177 : decode b_M_exact 177 = .ok (.ldc2_w 14, 3) := by decide +kernel
theorem d_M_exact_180 : decode b_M_exact 180 = .ok (.lcmp, 1) := by decide +kernel
theorem d_M_exact_181 : decode b_M_exact 181 = .ok (.ifCond .ne 7, 3) := by decide +kernel
theorem d_M_exact_184 : decode b_M_exact 184 = .ok (.iconst 1, 1) := by decide +kernel
theorem d_M_exact_185 : decode b_M_exact 185 = .ok (.goto 4, 3) := by decide +kernel
theorem d_M_exact_188 : decode b_M_exact 188 = .ok (.iconst 0, 1) := by decide +kernel
theorem d_M_exact_189 : decode b_M_exact 189 = .ok (.istore 8, 2) := by decide +kernel
theorem d_M_exact_191 : decode b_M_exact 191 = .ok (.aload_n 0, 1) := by decide +kernel
theorem d_M_exact_192 : decode b_M_exact 192 = .ok (.iload 8, 2) := by decide +kernel
theorem d_M_exact_194 : decode b_M_exact 194 = .ok (.ifCond .eq 7, 3) := by decide +kernel
theorem d_M_exact_197 : decode b_M_exact 197 = .ok (.lconst 0, 1) := by decide +kernel
theorem d_M_exact_198 : decode b_M_exact 198 = .ok (.goto 4, 3) := by decide +kernel
theorem d_M_exact_201 : decode b_M_exact 201 = .ok (.lconst 1, 1) := by decide +kernel
theorem d_M_exact_202 : decode b_M_exact 202 = .ok (.putfield 27, 3) := by decide +kernel
theorem d_M_exact_205 : decode b_M_exact 205 = .ok (.iload 7, 2) := by decide +kernel
theorem d_M_exact_207 : decode b_M_exact 207 = .ok (.ifCond .eq 11, 3) := by decide +kernel
theorem d_M_exact_210 : decode b_M_exact 210 = .ok (.aload_n 0, 1) := by decide +kernel
theorem d_M_exact_211 : decode b_M_exact 211 = .ok (.getfield 20, 3) := by decide +kernel
theorem d_M_exact_214 : decode b_M_exact 214 = .ok (.lneg, 1) := by decide +kernel
theorem d_M_exact_215 : decode b_M_exact 215 = .ok (.goto 7, 3) := by decide +kernel
theorem d_M_exact_218 : decode b_M_exact 218 = .ok (.aload_n 0, 1) := by decide +kernel
theorem d_M_exact_219 : decode b_M_exact 219 = .ok (.getfield 20, 3) := by decide +kernel
theorem d_M_exact_222 : decode b_M_exact 222 = .ok (.lreturn, 1) := by decide +kernel
theorem d_M_multiply_0 : decode b_M_multiply 0 = .ok (.aload_n 0, 1) := by decide +kernel
theorem d_M_multiply_1 : decode b_M_multiply 1 = .ok (.lconst 0, 1) := by decide +kernel
theorem d_M_multiply_2 : decode b_M_multiply 2 = .ok (.putfield 16, 3) := by decide +kernel
theorem d_M_multiply_5 : decode b_M_multiply 5 = .ok (.aload_n 0, 1) := by decide +kernel
theorem d_M_multiply_6 : decode b_M_multiply 6 = .ok (.lconst 0, 1) := by decide +kernel
theorem d_M_multiply_7 : decode b_M_multiply 7 = .ok (.putfield 20, 3) := by decide +kernel
theorem d_M_multiply_10 : decode b_M_multiply 10 = .ok (.bipush 63, 2) := by decide +kernel
theorem d_M_multiply_12 : decode b_M_multiply 12 = .ok (.istore 5, 2) := by decide +kernel
theorem d_M_multiply_14 : decode b_M_multiply 14 = .ok (.iload 5, 2) := by decide +kernel
theorem d_M_multiply_16 : decode b_M_multiply 16 = .ok (.ifCond .lt 91, 3) := by decide +kernel
theorem d_M_multiply_19 : decode b_M_multiply 19 = .ok (.aload_n 0, 1) := by decide +kernel
theorem d_M_multiply_20 : decode b_M_multiply 20 = .ok (.aload_n 0, 1) := by decide +kernel
theorem d_M_multiply_21 : decode b_M_multiply 21 = .ok (.getfield 16, 3) := by decide +kernel
theorem d_M_multiply_24 : decode b_M_multiply 24 = .ok (.iconst 1, 1) := by decide +kernel
theorem d_M_multiply_25 : decode b_M_multiply 25 = .ok (.lshl, 1) := by decide +kernel
theorem d_M_multiply_26 : decode b_M_multiply 26 = .ok (.aload_n 0, 1) := by decide +kernel
theorem d_M_multiply_27 : decode b_M_multiply 27 = .ok (.getfield 20, 3) := by decide +kernel
theorem d_M_multiply_30 : decode b_M_multiply 30 = .ok (.bipush 63, 2) := by decide +kernel
theorem d_M_multiply_32 : decode b_M_multiply 32 = .ok (.lushr, 1) := by decide +kernel
theorem d_M_multiply_33 : decode b_M_multiply 33 = .ok (.lor, 1) := by decide +kernel
theorem d_M_multiply_34 : decode b_M_multiply 34 = .ok (.putfield 16, 3) := by decide +kernel
theorem d_M_multiply_37 : decode b_M_multiply 37 = .ok (.aload_n 0, 1) := by decide +kernel
theorem d_M_multiply_38 : decode b_M_multiply 38 = .ok (.aload_n 0, 1) := by decide +kernel
theorem d_M_multiply_39 : decode b_M_multiply 39 = .ok (.getfield 20, 3) := by decide +kernel
theorem d_M_multiply_42 : decode b_M_multiply 42 = .ok (.iconst 1, 1) := by decide +kernel
theorem d_M_multiply_43 : decode b_M_multiply 43 = .ok (.lshl, 1) := by decide +kernel
theorem d_M_multiply_44 : decode b_M_multiply 44 = .ok (.putfield 20, 3) := by decide +kernel
theorem d_M_multiply_47 : decode b_M_multiply 47 = .ok (.lload_n 3, 1) := by decide +kernel
theorem d_M_multiply_48 : decode b_M_multiply 48 = .ok (.iload 5, 2) := by decide +kernel
theorem d_M_multiply_50 : decode b_M_multiply 50 = .ok (.lushr, 1) := by decide +kernel
theorem d_M_multiply_51 : decode b_M_multiply 51 = .ok (.lconst 1, 1) := by decide +kernel
theorem d_M_multiply_52 : decode b_M_multiply 52 = .ok (.land, 1) := by decide +kernel
theorem d_M_multiply_53 : decode b_M_multiply 53 = .ok (.lconst 1, 1) := by decide +kernel
theorem d_M_multiply_54 : decode b_M_multiply 54 = .ok (.lcmp, 1) := by decide +kernel
theorem d_M_multiply_55 : decode b_M_multiply 55 = .ok (.ifCond .ne 46, 3) := by decide +kernel
theorem d_M_multiply_58 : decode b_M_multiply 58 = .ok (.aload_n 0, 1) := by decide +kernel
theorem d_M_multiply_59 : decode b_M_multiply 59 = .ok (.getfield 20, 3) := by decide +kernel
theorem d_M_multiply_62 : decode b_M_multiply 62 = .ok (.lload_n 1, 1) := by decide +kernel
theorem d_M_multiply_63 : decode b_M_multiply 63 = .ok (.ladd, 1) := by decide +kernel
theorem d_M_multiply_64 : decode b_M_multiply 64 = .ok (.lstore 6, 2) := by decide +kernel
theorem d_M_multiply_66 : decode b_M_multiply 66 = .ok (.aload_n 0, 1) := by decide +kernel
theorem d_M_multiply_67 : decode b_M_multiply 67 = .ok (.lload 6, 2) := by decide +kernel
theorem d_M_multiply_69 : decode b_M_multiply 69 = .ok (.aload_n 0, 1) := by decide +kernel
theorem d_M_multiply_70 : decode b_M_multiply 70 = .ok (.getfield 20, 3) := by decide +kernel
theorem d_M_multiply_73 : decode b_M_multiply 73 = .ok (.invokestatic 23, 3) := by decide +kernel
theorem d_M_multiply_76 : decode b_M_multiply 76 = .ok (.ifCond .eq 12, 3) := by decide +kernel
theorem d_M_multiply_79 : decode b_M_multiply 79 = .ok (.aload_n 0, 1) := by decide +kernel
theorem d_M_multiply_80 : decode b_M_multiply 80 = .ok (.getfield 16, 3) := by decide +kernel
theorem d_M_multiply_83 : decode b_M_multiply 83 = .ok (.lconst 1, 1) := by decide +kernel
theorem d_M_multiply_84 : decode b_M_multiply 84 = .ok (.ladd, 1) := by decide +kernel
theorem d_M_multiply_85 : decode b_M_multiply 85 = .ok (.goto 7, 3) := by decide +kernel
theorem d_M_multiply_88 : decode b_M_multiply 88 = .ok (.aload_n 0, 1) := by decide +kernel
theorem d_M_multiply_89 : decode b_M_multiply 89 = .ok (.getfield 16, 3) := by decide +kernel
theorem d_M_multiply_92 : decode b_M_multiply 92 = .ok (.putfield 16, 3) := by decide +kernel
theorem d_M_multiply_95 : decode b_M_multiply 95 = .ok (.aload_n 0, 1) := by decide +kernel
theorem d_M_multiply_96 : decode b_M_multiply 96 = .ok (.lload 6, 2) := by decide +kernel
theorem d_M_multiply_98 : decode b_M_multiply 98 = .ok (.putfield 20, 3) := by decide +kernel
theorem d_M_multiply_101 : decode b_M_multiply 101 = .ok (.iinc 5 (-1), 3) := by decide +kernel
theorem d_M_multiply_104 : decode b_M_multiply 104 = .ok (.goto (-90), 3) := by decide +kernel
theorem d_M_multiply_107 : decode b_M_multiply 107 = .ok (.return_, 1) := by decide +kernel
theorem d_M_below_0 : decode b_M_below 0 = .ok (.lload_n 0, 1) := by decide +kernel
theorem d_M_below_1 : decode b_M_below 1 = .ok (.ldc2_w 14, 3) := by decide +kernel
theorem d_M_below_4 : decode b_M_below 4 = .ok (.lxor, 1) := by decide +kernel
theorem d_M_below_5 : decode b_M_below 5 = .ok (.lload_n 2, 1) := by decide +kernel
theorem d_M_below_6 : decode b_M_below 6 = .ok (.ldc2_w 14, 3) := by decide +kernel
theorem d_M_below_9 : decode b_M_below 9 = .ok (.lxor, 1) := by decide +kernel
theorem d_M_below_10 : decode b_M_below 10 = .ok (.lcmp, 1) := by decide +kernel
theorem d_M_below_11 : decode b_M_below 11 = .ok (.ifCond .ge 7, 3) := by decide +kernel
theorem d_M_below_14 : decode b_M_below 14 = .ok (.iconst 1, 1) := by decide +kernel
theorem d_M_below_15 : decode b_M_below 15 = .ok (.goto 4, 3) := by decide +kernel
theorem d_M_below_18 : decode b_M_below 18 = .ok (.iconst 0, 1) := by decide +kernel
theorem d_M_below_19 : decode b_M_below 19 = .ok (.ireturn, 1) := by decide +kernel
theorem d_M_divide_0 : decode b_M_divide 0 = .ok (.lconst 0, 1) := by decide +kernel
theorem d_M_divide_1 : decode b_M_divide 1 = .ok (.lstore_n 3, 1) := by decide +kernel
theorem d_M_divide_2 : decode b_M_divide 2 = .ok (.lconst 0, 1) := by decide +kernel
theorem d_M_divide_3 : decode b_M_divide 3 = .ok (.lstore 5, 2) := by decide +kernel
theorem d_M_divide_5 : decode b_M_divide 5 = .ok (.lconst 0, 1) := by decide +kernel
theorem d_M_divide_6 : decode b_M_divide 6 = .ok (.lstore 7, 2) := by decide +kernel
theorem d_M_divide_8 : decode b_M_divide 8 = .ok (.bipush 127, 2) := by decide +kernel
theorem d_M_divide_10 : decode b_M_divide 10 = .ok (.istore 9, 2) := by decide +kernel
theorem d_M_divide_12 : decode b_M_divide 12 = .ok (.iload 9, 2) := by decide +kernel
theorem d_M_divide_14 : decode b_M_divide 14 = .ok (.ifCond .lt 107, 3) := by decide +kernel
theorem d_M_divide_17 : decode b_M_divide 17 = .ok (.iload 9, 2) := by decide +kernel
theorem d_M_divide_19 : decode b_M_divide 19 = .ok (.bipush 63, 2) := by decide +kernel
theorem d_M_divide_21 : decode b_M_divide 21 = .ok (.if_icmp .le 18, 3) := by decide +kernel
theorem d_M_divide_24 : decode b_M_divide 24 = .ok (.aload_n 0, 1) := by decide +kernel
theorem d_M_divide_25 : decode b_M_divide 25 = .ok (.getfield 16, 3) := by decide +kernel
theorem d_M_divide_28 : decode b_M_divide 28 = .ok (.iload 9, 2) := by decide +kernel
theorem d_M_divide_30 : decode b_M_divide 30 = .ok (.bipush 64, 2) := by decide +kernel
theorem d_M_divide_32 : decode b_M_divide 32 = .ok (.isub, 1) := by decide +kernel
theorem d_M_divide_33 : decode b_M_divide 33 = .ok (.lushr, 1) := by decide +kernel
theorem d_M_divide_34 : decode b_M_divide 34 = .ok (.lconst 1, 1) := by decide +kernel
theorem d_M_divide_35 : decode b_M_divide 35 = .ok (.land, 1) := by decide +kernel
theorem d_M_divide_36 : decode b_M_divide 36 = .ok (.goto 12, 3) := by decide +kernel
theorem d_M_divide_39 : decode b_M_divide 39 = .ok (.aload_n 0, 1) := by decide +kernel
theorem d_M_divide_40 : decode b_M_divide 40 = .ok (.getfield 20, 3) := by decide +kernel
theorem d_M_divide_43 : decode b_M_divide 43 = .ok (.iload 9, 2) := by decide +kernel
theorem d_M_divide_45 : decode b_M_divide 45 = .ok (.lushr, 1) := by decide +kernel
theorem d_M_divide_46 : decode b_M_divide 46 = .ok (.lconst 1, 1) := by decide +kernel
theorem d_M_divide_47 : decode b_M_divide 47 = .ok (.land, 1) := by decide +kernel
theorem d_M_divide_48 : decode b_M_divide 48 = .ok (.lstore 10, 2) := by decide +kernel
theorem d_M_divide_50 : decode b_M_divide 50 = .ok (.lload 7, 2) := by decide +kernel
theorem d_M_divide_52 : decode b_M_divide 52 = .ok (.lconst 0, 1) := by decide +kernel
theorem d_M_divide_53 : decode b_M_divide 53 = .ok (.lcmp, 1) := by decide +kernel
theorem d_M_divide_54 : decode b_M_divide 54 = .ok (.ifCond .ge 7, 3) := by decide +kernel
theorem d_M_divide_57 : decode b_M_divide 57 = .ok (.iconst 1, 1) := by decide +kernel
theorem d_M_divide_58 : decode b_M_divide 58 = .ok (.goto 4, 3) := by decide +kernel
theorem d_M_divide_61 : decode b_M_divide 61 = .ok (.iconst 0, 1) := by decide +kernel
theorem d_M_divide_62 : decode b_M_divide 62 = .ok (.istore 12, 2) := by decide +kernel
theorem d_M_divide_64 : decode b_M_divide 64 = .ok (.lload 7, 2) := by decide +kernel
theorem d_M_divide_66 : decode b_M_divide 66 = .ok (.iconst 1, 1) := by decide +kernel
theorem d_M_divide_67 : decode b_M_divide 67 = .ok (.lshl, 1) := by decide +kernel
theorem d_M_divide_68 : decode b_M_divide 68 = .ok (.lload 10, 2) := by decide +kernel
theorem d_M_divide_70 : decode b_M_divide 70 = .ok (.lor, 1) := by decide +kernel
theorem d_M_divide_71 : decode b_M_divide 71 = .ok (.lstore 7, 2) := by decide +kernel
theorem d_M_divide_73 : decode b_M_divide 73 = .ok (.lload_n 3, 1) := by decide +kernel
theorem d_M_divide_74 : decode b_M_divide 74 = .ok (.iconst 1, 1) := by decide +kernel
theorem d_M_divide_75 : decode b_M_divide 75 = .ok (.lshl, 1) := by decide +kernel
theorem d_M_divide_76 : decode b_M_divide 76 = .ok (.lload 5, 2) := by decide +kernel
theorem d_M_divide_78 : decode b_M_divide 78 = .ok (.bipush 63, 2) := by decide +kernel
theorem d_M_divide_80 : decode b_M_divide 80 = .ok (.lushr, 1) := by decide +kernel
theorem d_M_divide_81 : decode b_M_divide 81 = .ok (.lor, 1) := by decide +kernel
theorem d_M_divide_82 : decode b_M_divide 82 = .ok (.lstore_n 3, 1) := by decide +kernel
theorem d_M_divide_83 : decode b_M_divide 83 = .ok (.lload 5, 2) := by decide +kernel
theorem d_M_divide_85 : decode b_M_divide 85 = .ok (.iconst 1, 1) := by decide +kernel
theorem d_M_divide_86 : decode b_M_divide 86 = .ok (.lshl, 1) := by decide +kernel
theorem d_M_divide_87 : decode b_M_divide 87 = .ok (.lstore 5, 2) := by decide +kernel
theorem d_M_divide_89 : decode b_M_divide 89 = .ok (.iload 12, 2) := by decide +kernel
theorem d_M_divide_91 : decode b_M_divide 91 = .ok (.ifCond .ne 12, 3) := by decide +kernel
theorem d_M_divide_94 : decode b_M_divide 94 = .ok (.lload 7, 2) := by decide +kernel
theorem d_M_divide_96 : decode b_M_divide 96 = .ok (.lload_n 1, 1) := by decide +kernel
theorem d_M_divide_97 : decode b_M_divide 97 = .ok (.invokestatic 23, 3) := by decide +kernel
theorem d_M_divide_100 : decode b_M_divide 100 = .ok (.ifCond .ne 15, 3) := by decide +kernel
theorem d_M_divide_103 : decode b_M_divide 103 = .ok (.lload 7, 2) := by decide +kernel
theorem d_M_divide_105 : decode b_M_divide 105 = .ok (.lload_n 1, 1) := by decide +kernel
theorem d_M_divide_106 : decode b_M_divide 106 = .ok (.lsub, 1) := by decide +kernel
theorem d_M_divide_107 : decode b_M_divide 107 = .ok (.lstore 7, 2) := by decide +kernel
theorem d_M_divide_109 : decode b_M_divide 109 = .ok (.lload 5, 2) := by decide +kernel
theorem d_M_divide_111 : decode b_M_divide 111 = .ok (.lconst 1, 1) := by decide +kernel
theorem d_M_divide_112 : decode b_M_divide 112 = .ok (.lor, 1) := by decide +kernel
theorem d_M_divide_113 : decode b_M_divide 113 = .ok (.lstore 5, 2) := by decide +kernel
theorem d_M_divide_115 : decode b_M_divide 115 = .ok (.iinc 9 (-1), 3) := by decide +kernel
theorem d_M_divide_118 : decode b_M_divide 118 = .ok (.goto (-106), 3) := by decide +kernel
theorem d_M_divide_121 : decode b_M_divide 121 = .ok (.aload_n 0, 1) := by decide +kernel
theorem d_M_divide_122 : decode b_M_divide 122 = .ok (.lload_n 3, 1) := by decide +kernel
theorem d_M_divide_123 : decode b_M_divide 123 = .ok (.putfield 16, 3) := by decide +kernel
theorem d_M_divide_126 : decode b_M_divide 126 = .ok (.aload_n 0, 1) := by decide +kernel
theorem d_M_divide_127 : decode b_M_divide 127 = .ok (.lload 5, 2) := by decide +kernel
theorem d_M_divide_129 : decode b_M_divide 129 = .ok (.putfield 20, 3) := by decide +kernel
theorem d_M_divide_132 : decode b_M_divide 132 = .ok (.aload_n 0, 1) := by decide +kernel
theorem d_M_divide_133 : decode b_M_divide 133 = .ok (.lload 7, 2) := by decide +kernel
theorem d_M_divide_135 : decode b_M_divide 135 = .ok (.putfield 27, 3) := by decide +kernel
theorem d_M_divide_138 : decode b_M_divide 138 = .ok (.return_, 1) := by decide +kernel
theorem d_M_between_0 : decode b_M_between 0 = .ok (.aload_n 0, 1) := by decide +kernel
theorem d_M_between_1 : decode b_M_between 1 = .ok (.lload 5, 2) := by decide +kernel
theorem d_M_between_3 : decode b_M_between 3 = .ok (.lconst 0, 1) := by decide +kernel
theorem d_M_between_4 : decode b_M_between 4 = .ok (.lcmp, 1) := by decide +kernel
theorem d_M_between_5 : decode b_M_between 5 = .ok (.ifCond .le 16, 3) := by decide +kernel
theorem d_M_between_8 : decode b_M_between 8 = .ok (.lload_n 3, 1) := by decide +kernel
theorem d_M_between_9 : decode b_M_between 9 = .ok (.lconst 0, 1) := by decide +kernel
theorem d_M_between_10 : decode b_M_between 10 = .ok (.lcmp, 1) := by decide +kernel
theorem d_M_between_11 : decode b_M_between 11 = .ok (.ifCond .lt 10, 3) := by decide +kernel
theorem d_M_between_14 : decode b_M_between 14 = .ok (.lload_n 3, 1) := by decide +kernel
theorem d_M_between_15 : decode b_M_between 15 = .ok (.lload 5, 2) := by decide +kernel
theorem d_M_between_17 : decode b_M_between 17 = .ok (.lcmp, 1) := by decide +kernel
theorem d_M_between_18 : decode b_M_between 18 = .ok (.ifCond .le 7, 3) := by decide +kernel
theorem d_M_between_21 : decode b_M_between 21 = .ok (.iconst 1, 1) := by decide +kernel
theorem d_M_between_22 : decode b_M_between 22 = .ok (.goto 4, 3) := by decide +kernel
theorem d_M_between_25 : decode b_M_between 25 = .ok (.iconst 0, 1) := by decide +kernel
theorem d_M_between_26 : decode b_M_between 26 = .ok (.putfield 7, 3) := by decide +kernel
theorem d_M_between_29 : decode b_M_between 29 = .ok (.aload_n 0, 1) := by decide +kernel
theorem d_M_between_30 : decode b_M_between 30 = .ok (.getfield 7, 3) := by decide +kernel
theorem d_M_between_33 : decode b_M_between 33 = .ok (.ifCond .le 5, 3) := by decide +kernel
theorem d_M_between_36 : decode b_M_between 36 = .ok (.iconst 0, 1) := by decide +kernel
theorem d_M_between_37 : decode b_M_between 37 = .ok (.ireturn, 1) := by decide +kernel
theorem d_M_between_38 : decode b_M_between 38 = .ok (.iload_n 1, 1) := by decide +kernel
theorem d_M_between_39 : decode b_M_between 39 = .ok (.i2l, 1) := by decide +kernel
theorem d_M_between_40 : decode b_M_between 40 = .ok (.aload_n 0, 1) := by decide +kernel
theorem d_M_between_41 : decode b_M_between 41 = .ok (.iload_n 2, 1) := by decide +kernel
theorem d_M_between_42 : decode b_M_between 42 = .ok (.i2l, 1) := by decide +kernel
theorem d_M_between_43 : decode b_M_between 43 = .ok (.iload_n 1, 1) := by decide +kernel
theorem d_M_between_44 : decode b_M_between 44 = .ok (.i2l, 1) := by decide +kernel
theorem d_M_between_45 : decode b_M_between 45 = .ok (.lsub, 1) := by decide +kernel
theorem d_M_between_46 : decode b_M_between 46 = .ok (.lload_n 3, 1) := by decide +kernel
theorem d_M_between_47 : decode b_M_between 47 = .ok (.lload 5, 2) := by decide +kernel
theorem d_M_between_49 : decode b_M_between 49 = .ok (.invokevirtual 54, 3) := by decide +kernel
theorem d_M_between_52 : decode b_M_between 52 = .ok (.ladd, 1) := by decide +kernel
theorem d_M_between_53 : decode b_M_between 53 = .ok (.l2i, 1) := by decide +kernel
theorem d_M_between_54 : decode b_M_between 54 = .ok (.ireturn, 1) := by decide +kernel
theorem d_M_channel_0 : decode b_M_channel 0 = .ok (.aload_n 0, 1) := by decide +kernel
theorem d_M_channel_1 : decode b_M_channel 1 = .ok (.iconst 0, 1) := by decide +kernel
theorem d_M_channel_2 : decode b_M_channel 2 = .ok (.putfield 7, 3) := by decide +kernel
theorem d_M_channel_5 : decode b_M_channel 5 = .ok (.iload_n 1, 1) := by decide +kernel
theorem d_M_channel_6 : decode b_M_channel 6 = .ok (.ifCond .ge 7, 3) := by decide +kernel
theorem d_M_channel_9 : decode b_M_channel 9 = .ok (.iconst 0, 1) := by decide +kernel
theorem d_M_channel_10 : decode b_M_channel 10 = .ok (.goto 25, 3) := by decide +kernel
theorem d_M_channel_13 : decode b_M_channel 13 = .ok (.iload_n 1, 1) := by decide +kernel
theorem d_M_channel_14 : decode b_M_channel 14 = .ok (.ldc 58, 2) := by decide +kernel
theorem d_M_channel_16 : decode b_M_channel 16 = .ok (.if_icmp .le 9, 3) := by decide +kernel
theorem d_M_channel_19 : decode b_M_channel 19 = .ok (.sipush 255, 3) := by decide +kernel
theorem d_M_channel_22 : decode b_M_channel 22 = .ok (.goto 13, 3) := by decide +kernel
theorem d_M_channel_25 : decode b_M_channel 25 = .ok (.sipush 255, 3) := by decide +kernel
theorem d_M_channel_28 : decode b_M_channel 28 = .ok (.iload_n 1, 1) := by decide +kernel
theorem d_M_channel_29 : decode b_M_channel 29 = .ok (.imul, 1) := by decide +kernel
theorem d_M_channel_30 : decode b_M_channel 30 = .ok (.ldc 58, 2) := by decide +kernel
theorem d_M_channel_32 : decode b_M_channel 32 = .ok (.invokestatic 59, 3) := by decide +kernel
theorem d_M_channel_35 : decode b_M_channel 35 = .ok (.ireturn, 1) := by decide +kernel
theorem d_M_nearest_0 : decode b_M_nearest 0 = .ok (.iload_n 0, 1) := by decide +kernel
theorem d_M_nearest_1 : decode b_M_nearest 1 = .ok (.iload_n 1, 1) := by decide +kernel
theorem d_M_nearest_2 : decode b_M_nearest 2 = .ok (.idiv, 1) := by decide +kernel
theorem d_M_nearest_3 : decode b_M_nearest 3 = .ok (.istore_n 2, 1) := by decide +kernel
theorem d_M_nearest_4 : decode b_M_nearest 4 = .ok (.iconst 2, 1) := by decide +kernel
theorem d_M_nearest_5 : decode b_M_nearest 5 = .ok (.iload_n 0, 1) := by decide +kernel
theorem d_M_nearest_6 : decode b_M_nearest 6 = .ok (.iload_n 1, 1) := by decide +kernel
theorem d_M_nearest_7 : decode b_M_nearest 7 = .ok (.irem, 1) := by decide +kernel
theorem d_M_nearest_8 : decode b_M_nearest 8 = .ok (.imul, 1) := by decide +kernel
theorem d_M_nearest_9 : decode b_M_nearest 9 = .ok (.iload_n 1, 1) := by decide +kernel
theorem d_M_nearest_10 : decode b_M_nearest 10 = .ok (.if_icmp .lt 9, 3) := by decide +kernel
theorem d_M_nearest_13 : decode b_M_nearest 13 = .ok (.iload_n 2, 1) := by decide +kernel
theorem d_M_nearest_14 : decode b_M_nearest 14 = .ok (.iconst 1, 1) := by decide +kernel
theorem d_M_nearest_15 : decode b_M_nearest 15 = .ok (.iadd, 1) := by decide +kernel
theorem d_M_nearest_16 : decode b_M_nearest 16 = .ok (.goto 4, 3) := by decide +kernel
theorem d_M_nearest_19 : decode b_M_nearest 19 = .ok (.iload_n 2, 1) := by decide +kernel
theorem d_M_nearest_20 : decode b_M_nearest 20 = .ok (.ireturn, 1) := by decide +kernel
theorem d_M_fixed_0 : decode b_M_fixed 0 = .ok (.aload_n 0, 1) := by decide +kernel
theorem d_M_fixed_1 : decode b_M_fixed 1 = .ok (.iload_n 1, 1) := by decide +kernel
theorem d_M_fixed_2 : decode b_M_fixed 2 = .ok (.ifCond .lt 10, 3) := by decide +kernel
theorem d_M_fixed_5 : decode b_M_fixed 5 = .ok (.iload_n 1, 1) := by decide +kernel
theorem d_M_fixed_6 : decode b_M_fixed 6 = .ok (.sipush 255, 3) := by decide +kernel
theorem d_M_fixed_9 : decode b_M_fixed 9 = .ok (.if_icmp .le 7, 3) := by decide +kernel
theorem d_M_fixed_12 : decode b_M_fixed 12 = .ok (.iconst 1, 1) := by decide +kernel
theorem d_M_fixed_13 : decode b_M_fixed 13 = .ok (.goto 4, 3) := by decide +kernel
theorem d_M_fixed_16 : decode b_M_fixed 16 = .ok (.iconst 0, 1) := by decide +kernel
theorem d_M_fixed_17 : decode b_M_fixed 17 = .ok (.putfield 7, 3) := by decide +kernel
theorem d_M_fixed_20 : decode b_M_fixed 20 = .ok (.aload_n 0, 1) := by decide +kernel
theorem d_M_fixed_21 : decode b_M_fixed 21 = .ok (.getfield 7, 3) := by decide +kernel
theorem d_M_fixed_24 : decode b_M_fixed 24 = .ok (.ifCond .le 7, 3) := by decide +kernel
theorem d_M_fixed_27 : decode b_M_fixed 27 = .ok (.iconst 0, 1) := by decide +kernel
theorem d_M_fixed_28 : decode b_M_fixed 28 = .ok (.goto 13, 3) := by decide +kernel
theorem d_M_fixed_31 : decode b_M_fixed 31 = .ok (.ldc 58, 2) := by decide +kernel
theorem d_M_fixed_33 : decode b_M_fixed 33 = .ok (.iload_n 1, 1) := by decide +kernel
theorem d_M_fixed_34 : decode b_M_fixed 34 = .ok (.imul, 1) := by decide +kernel
theorem d_M_fixed_35 : decode b_M_fixed 35 = .ok (.sipush 255, 3) := by decide +kernel
theorem d_M_fixed_38 : decode b_M_fixed 38 = .ok (.invokestatic 59, 3) := by decide +kernel
theorem d_M_fixed_41 : decode b_M_fixed 41 = .ok (.ireturn, 1) := by decide +kernel
theorem d_M_shade_0 : decode b_M_shade 0 = .ok (.aload_n 0, 1) := by decide +kernel
theorem d_M_shade_1 : decode b_M_shade 1 = .ok (.iload_n 1, 1) := by decide +kernel
theorem d_M_shade_2 : decode b_M_shade 2 = .ok (.ifCond .lt 21, 3) := by decide +kernel
theorem d_M_shade_5 : decode b_M_shade 5 = .ok (.iload_n 1, 1) := by decide +kernel
theorem d_M_shade_6 : decode b_M_shade 6 = .ok (.sipush 255, 3) := by decide +kernel
theorem d_M_shade_9 : decode b_M_shade 9 = .ok (.if_icmp .gt 14, 3) := by decide +kernel
theorem d_M_shade_12 : decode b_M_shade 12 = .ok (.iload_n 2, 1) := by decide +kernel
theorem d_M_shade_13 : decode b_M_shade 13 = .ok (.ifCond .lt 10, 3) := by decide +kernel
theorem d_M_shade_16 : decode b_M_shade 16 = .ok (.iload_n 2, 1) := by decide +kernel
theorem d_M_shade_17 : decode b_M_shade 17 = .ok (.sipush 255, 3) := by decide +kernel
theorem d_M_shade_20 : decode b_M_shade 20 = .ok (.if_icmp .le 7, 3) := by decide +kernel
theorem d_M_shade_23 : decode b_M_shade 23 = .ok (.iconst 1, 1) := by decide +kernel
theorem d_M_shade_24 : decode b_M_shade 24 = .ok (.goto 4, 3) := by decide +kernel
theorem d_M_shade_27 : decode b_M_shade 27 = .ok (.iconst 0, 1) := by decide +kernel
theorem d_M_shade_28 : decode b_M_shade 28 = .ok (.putfield 7, 3) := by decide +kernel
theorem d_M_shade_31 : decode b_M_shade 31 = .ok (.aload_n 0, 1) := by decide +kernel
theorem d_M_shade_32 : decode b_M_shade 32 = .ok (.getfield 7, 3) := by decide +kernel
theorem d_M_shade_35 : decode b_M_shade 35 = .ok (.ifCond .le 7, 3) := by decide +kernel
theorem d_M_shade_38 : decode b_M_shade 38 = .ok (.iconst 0, 1) := by decide +kernel
theorem d_M_shade_39 : decode b_M_shade 39 = .ok (.goto 12, 3) := by decide +kernel
theorem d_M_shade_42 : decode b_M_shade 42 = .ok (.iload_n 1, 1) := by decide +kernel
theorem d_M_shade_43 : decode b_M_shade 43 = .ok (.iload_n 2, 1) := by decide +kernel
theorem d_M_shade_44 : decode b_M_shade 44 = .ok (.imul, 1) := by decide +kernel
theorem d_M_shade_45 : decode b_M_shade 45 = .ok (.sipush 255, 3) := by decide +kernel
theorem d_M_shade_48 : decode b_M_shade 48 = .ok (.invokestatic 59, 3) := by decide +kernel
theorem d_M_shade_51 : decode b_M_shade 51 = .ok (.ireturn, 1) := by decide +kernel
theorem d_M_fromHalf_0 : decode b_M_fromHalf 0 = .ok (.aload_n 0, 1) := by decide +kernel
theorem d_M_fromHalf_1 : decode b_M_fromHalf 1 = .ok (.iconst 0, 1) := by decide +kernel
theorem d_M_fromHalf_2 : decode b_M_fromHalf 2 = .ok (.putfield 7, 3) := by decide +kernel
theorem d_M_fromHalf_5 : decode b_M_fromHalf 5 = .ok (.iload_n 1, 1) := by decide +kernel
theorem d_M_fromHalf_6 : decode b_M_fromHalf 6 = .ok (.bipush 15, 2) := by decide +kernel
theorem d_M_fromHalf_8 : decode b_M_fromHalf 8 = .ok (.ishr, 1) := by decide +kernel
theorem d_M_fromHalf_9 : decode b_M_fromHalf 9 = .ok (.iconst 1, 1) := by decide +kernel
theorem d_M_fromHalf_10 : decode b_M_fromHalf 10 = .ok (.iand, 1) := by decide +kernel
theorem d_M_fromHalf_11 : decode b_M_fromHalf 11 = .ok (.iconst 1, 1) := by decide +kernel
theorem d_M_fromHalf_12 : decode b_M_fromHalf 12 = .ok (.if_icmp .ne 7, 3) := by decide +kernel
theorem d_M_fromHalf_15 : decode b_M_fromHalf 15 = .ok (.iconst 1, 1) := by decide +kernel
theorem d_M_fromHalf_16 : decode b_M_fromHalf 16 = .ok (.goto 4, 3) := by decide +kernel
theorem d_M_fromHalf_19 : decode b_M_fromHalf 19 = .ok (.iconst 0, 1) := by decide +kernel
theorem d_M_fromHalf_20 : decode b_M_fromHalf 20 = .ok (.istore_n 2, 1) := by decide +kernel
theorem d_M_fromHalf_21 : decode b_M_fromHalf 21 = .ok (.iload_n 1, 1) := by decide +kernel
theorem d_M_fromHalf_22 : decode b_M_fromHalf 22 = .ok (.bipush 10, 2) := by decide +kernel
theorem d_M_fromHalf_24 : decode b_M_fromHalf 24 = .ok (.ishr, 1) := by decide +kernel
theorem d_M_fromHalf_25 : decode b_M_fromHalf 25 = .ok (.bipush 31, 2) := by decide +kernel
theorem d_M_fromHalf_27 : decode b_M_fromHalf 27 = .ok (.iand, 1) := by decide +kernel
theorem d_M_fromHalf_28 : decode b_M_fromHalf 28 = .ok (.bipush 31, 2) := by decide +kernel
theorem d_M_fromHalf_30 : decode b_M_fromHalf 30 = .ok (.if_icmp .ne 27, 3) := by decide +kernel
theorem d_M_fromHalf_33 : decode b_M_fromHalf 33 = .ok (.iload_n 1, 1) := by decide +kernel
theorem d_M_fromHalf_34 : decode b_M_fromHalf 34 = .ok (.sipush 1023, 3) := by decide +kernel
theorem d_M_fromHalf_37 : decode b_M_fromHalf 37 = .ok (.iand, 1) := by decide +kernel
theorem d_M_fromHalf_38 : decode b_M_fromHalf 38 = .ok (.ifCond .le 7, 3) := by decide +kernel
theorem d_M_fromHalf_41 : decode b_M_fromHalf 41 = .ok (.iconst 0, 1) := by decide +kernel
theorem d_M_fromHalf_42 : decode b_M_fromHalf 42 = .ok (.goto 14, 3) := by decide +kernel
theorem d_M_fromHalf_45 : decode b_M_fromHalf 45 = .ok (.iload_n 2, 1) := by decide +kernel
theorem d_M_fromHalf_46 : decode b_M_fromHalf 46 = .ok (.ifCond .eq 8, 3) := by decide +kernel
theorem d_M_fromHalf_49 : decode b_M_fromHalf 49 = .ok (.ldc 43, 2) := by decide +kernel
theorem d_M_fromHalf_51 : decode b_M_fromHalf 51 = .ok (.goto 5, 3) := by decide +kernel
theorem d_M_fromHalf_54 : decode b_M_fromHalf 54 = .ok (.ldc 42, 2) := by decide +kernel
theorem d_M_fromHalf_56 : decode b_M_fromHalf 56 = .ok (.ireturn, 1) := by decide +kernel
theorem d_M_fromHalf_57 : decode b_M_fromHalf 57 = .ok (.iload_n 2, 1) := by decide +kernel
theorem d_M_fromHalf_58 : decode b_M_fromHalf 58 = .ok (.ifCond .eq 11, 3) := by decide +kernel
theorem d_M_fromHalf_61 : decode b_M_fromHalf 61 = .ok (.iload_n 1, 1) := by decide +kernel
theorem d_M_fromHalf_62 : decode b_M_fromHalf 62 = .ok (.invokestatic 65, 3) := by decide +kernel
theorem d_M_fromHalf_65 : decode b_M_fromHalf 65 = .ok (.lneg, 1) := by decide +kernel
theorem d_M_fromHalf_66 : decode b_M_fromHalf 66 = .ok (.goto 7, 3) := by decide +kernel
theorem d_M_fromHalf_69 : decode b_M_fromHalf 69 = .ok (.iload_n 1, 1) := by decide +kernel
theorem d_M_fromHalf_70 : decode b_M_fromHalf 70 = .ok (.invokestatic 65, 3) := by decide +kernel
theorem d_M_fromHalf_73 : decode b_M_fromHalf 73 = .ok (.lstore_n 3, 1) := by decide +kernel
theorem d_M_fromHalf_74 : decode b_M_fromHalf 74 = .ok (.lload_n 3, 1) := by decide +kernel
theorem d_M_fromHalf_75 : decode b_M_fromHalf 75 = .ok (.bipush 8, 2) := by decide +kernel
theorem d_M_fromHalf_77 : decode b_M_fromHalf 77 = .ok (.lshr, 1) := by decide +kernel
theorem d_M_fromHalf_78 : decode b_M_fromHalf 78 = .ok (.lstore 5, 2) := by decide +kernel
theorem d_M_fromHalf_80 : decode b_M_fromHalf 80 = .ok (.lload 5, 2) := by decide +kernel
theorem d_M_fromHalf_82 : decode b_M_fromHalf 82 = .ok (.ldc2_w 44, 3) := by decide +kernel
theorem d_M_fromHalf_85 : decode b_M_fromHalf 85 = .ok (.lcmp, 1) := by decide +kernel
theorem d_M_fromHalf_86 : decode b_M_fromHalf 86 = .ok (.ifCond .le 8, 3) := by decide +kernel
theorem d_M_fromHalf_89 : decode b_M_fromHalf 89 = .ok (.ldc 42, 2) := by decide +kernel
theorem d_M_fromHalf_91 : decode b_M_fromHalf 91 = .ok (.goto 20, 3) := by decide +kernel
theorem d_M_fromHalf_94 : decode b_M_fromHalf 94 = .ok (.lload 5, 2) := by decide +kernel
theorem d_M_fromHalf_96 : decode b_M_fromHalf 96 = .ok (.ldc2_w 46, 3) := by decide +kernel
theorem d_M_fromHalf_99 : decode b_M_fromHalf 99 = .ok (.lcmp, 1) := by decide +kernel
theorem d_M_fromHalf_100 : decode b_M_fromHalf 100 = .ok (.ifCond .ge 8, 3) := by decide +kernel
theorem d_M_fromHalf_103 : decode b_M_fromHalf 103 = .ok (.ldc 43, 2) := by decide +kernel
theorem d_M_fromHalf_105 : decode b_M_fromHalf 105 = .ok (.goto 6, 3) := by decide +kernel
theorem d_M_fromHalf_108 : decode b_M_fromHalf 108 = .ok (.lload 5, 2) := by decide +kernel
theorem d_M_fromHalf_110 : decode b_M_fromHalf 110 = .ok (.l2i, 1) := by decide +kernel
theorem d_M_fromHalf_111 : decode b_M_fromHalf 111 = .ok (.ireturn, 1) := by decide +kernel
theorem d_M_scaled_0 : decode b_M_scaled 0 = .ok (.iload_n 0, 1) := by decide +kernel
theorem d_M_scaled_1 : decode b_M_scaled 1 = .ok (.bipush 10, 2) := by decide +kernel
theorem d_M_scaled_3 : decode b_M_scaled 3 = .ok (.ishr, 1) := by decide +kernel
theorem d_M_scaled_4 : decode b_M_scaled 4 = .ok (.bipush 31, 2) := by decide +kernel
theorem d_M_scaled_6 : decode b_M_scaled 6 = .ok (.iand, 1) := by decide +kernel
theorem d_M_scaled_7 : decode b_M_scaled 7 = .ok (.istore_n 1, 1) := by decide +kernel
theorem d_M_scaled_8 : decode b_M_scaled 8 = .ok (.iload_n 0, 1) := by decide +kernel
theorem d_M_scaled_9 : decode b_M_scaled 9 = .ok (.sipush 1023, 3) := by decide +kernel
theorem d_M_scaled_12 : decode b_M_scaled 12 = .ok (.iand, 1) := by decide +kernel
theorem d_M_scaled_13 : decode b_M_scaled 13 = .ok (.i2l, 1) := by decide +kernel
theorem d_M_scaled_14 : decode b_M_scaled 14 = .ok (.lstore_n 2, 1) := by decide +kernel
theorem d_M_scaled_15 : decode b_M_scaled 15 = .ok (.iload_n 1, 1) := by decide +kernel
theorem d_M_scaled_16 : decode b_M_scaled 16 = .ok (.ifCond .ne 7, 3) := by decide +kernel
theorem d_M_scaled_19 : decode b_M_scaled 19 = .ok (.lload_n 2, 1) := by decide +kernel
theorem d_M_scaled_20 : decode b_M_scaled 20 = .ok (.goto 12, 3) := by decide +kernel
theorem d_M_scaled_23 : decode b_M_scaled 23 = .ok (.ldc2_w 63, 3) := by decide +kernel
theorem d_M_scaled_26 : decode b_M_scaled 26 = .ok (.lload_n 2, 1) := by decide +kernel
theorem d_M_scaled_27 : decode b_M_scaled 27 = .ok (.ladd, 1) := by decide +kernel
theorem d_M_scaled_28 : decode b_M_scaled 28 = .ok (.iload_n 1, 1) := by decide +kernel
theorem d_M_scaled_29 : decode b_M_scaled 29 = .ok (.iconst 1, 1) := by decide +kernel
theorem d_M_scaled_30 : decode b_M_scaled 30 = .ok (.isub, 1) := by decide +kernel
theorem d_M_scaled_31 : decode b_M_scaled 31 = .ok (.lshl, 1) := by decide +kernel
theorem d_M_scaled_32 : decode b_M_scaled 32 = .ok (.lreturn, 1) := by decide +kernel
theorem d_M_toHalf_0 : decode b_M_toHalf 0 = .ok (.aload_n 0, 1) := by decide +kernel
theorem d_M_toHalf_1 : decode b_M_toHalf 1 = .ok (.iconst 0, 1) := by decide +kernel
theorem d_M_toHalf_2 : decode b_M_toHalf 2 = .ok (.putfield 7, 3) := by decide +kernel
theorem d_M_toHalf_5 : decode b_M_toHalf 5 = .ok (.iload_n 1, 1) := by decide +kernel
theorem d_M_toHalf_6 : decode b_M_toHalf 6 = .ok (.i2l, 1) := by decide +kernel
theorem d_M_toHalf_7 : decode b_M_toHalf 7 = .ok (.invokestatic 30, 3) := by decide +kernel
theorem d_M_toHalf_10 : decode b_M_toHalf 10 = .ok (.bipush 8, 2) := by decide +kernel
theorem d_M_toHalf_12 : decode b_M_toHalf 12 = .ok (.lshl, 1) := by decide +kernel
theorem d_M_toHalf_13 : decode b_M_toHalf 13 = .ok (.lstore_n 2, 1) := by decide +kernel
theorem d_M_toHalf_14 : decode b_M_toHalf 14 = .ok (.iconst 0, 1) := by decide +kernel
theorem d_M_toHalf_15 : decode b_M_toHalf 15 = .ok (.istore 4, 2) := by decide +kernel
theorem d_M_toHalf_17 : decode b_M_toHalf 17 = .ok (.sipush 31744, 3) := by decide +kernel
theorem d_M_toHalf_20 : decode b_M_toHalf 20 = .ok (.istore 5, 2) := by decide +kernel
theorem d_M_toHalf_22 : decode b_M_toHalf 22 = .ok (.iload 5, 2) := by decide +kernel
theorem d_M_toHalf_24 : decode b_M_toHalf 24 = .ok (.iload 4, 2) := by decide +kernel
theorem d_M_toHalf_26 : decode b_M_toHalf 26 = .ok (.isub, 1) := by decide +kernel
theorem d_M_toHalf_27 : decode b_M_toHalf 27 = .ok (.iconst 1, 1) := by decide +kernel
theorem d_M_toHalf_28 : decode b_M_toHalf 28 = .ok (.if_icmp .le 36, 3) := by decide +kernel
theorem d_M_toHalf_31 : decode b_M_toHalf 31 = .ok (.iload 4, 2) := by decide +kernel
theorem d_M_toHalf_33 : decode b_M_toHalf 33 = .ok (.iload 5, 2) := by decide +kernel
theorem d_M_toHalf_35 : decode b_M_toHalf 35 = .ok (.iadd, 1) := by decide +kernel
theorem d_M_toHalf_36 : decode b_M_toHalf 36 = .ok (.iconst 1, 1) := by decide +kernel
theorem d_M_toHalf_37 : decode b_M_toHalf 37 = .ok (.ishr, 1) := by decide +kernel
theorem d_M_toHalf_38 : decode b_M_toHalf 38 = .ok (.istore 6, 2) := by decide +kernel
theorem d_M_toHalf_40 : decode b_M_toHalf 40 = .ok (.iload 6, 2) := by decide +kernel
theorem d_M_toHalf_42 : decode b_M_toHalf 42 = .ok (.invokestatic 65, 3) := by decide +kernel
theorem d_M_toHalf_45 : decode b_M_toHalf 45 = .ok (.lload_n 2, 1) := by decide +kernel
theorem d_M_toHalf_46 : decode b_M_toHalf 46 = .ok (.lcmp, 1) := by decide +kernel
theorem d_M_toHalf_47 : decode b_M_toHalf 47 = .ok (.ifCond .gt 10, 3) := by decide +kernel
theorem d_M_toHalf_50 : decode b_M_toHalf 50 = .ok (.iload 6, 2) := by decide +kernel
theorem d_M_toHalf_52 : decode b_M_toHalf 52 = .ok (.istore 4, 2) := by decide +kernel
theorem d_M_toHalf_54 : decode b_M_toHalf 54 = .ok (.goto 7, 3) := by decide +kernel
theorem d_M_toHalf_57 : decode b_M_toHalf 57 = .ok (.iload 6, 2) := by decide +kernel
theorem d_M_toHalf_59 : decode b_M_toHalf 59 = .ok (.istore 5, 2) := by decide +kernel
theorem d_M_toHalf_61 : decode b_M_toHalf 61 = .ok (.goto (-39), 3) := by decide +kernel
theorem d_M_toHalf_64 : decode b_M_toHalf 64 = .ok (.lload_n 2, 1) := by decide +kernel
theorem d_M_toHalf_65 : decode b_M_toHalf 65 = .ok (.iload 4, 2) := by decide +kernel
theorem d_M_toHalf_67 : decode b_M_toHalf 67 = .ok (.invokestatic 65, 3) := by decide +kernel
theorem d_M_toHalf_70 : decode b_M_toHalf 70 = .ok (.lsub, 1) := by decide +kernel
theorem d_M_toHalf_71 : decode b_M_toHalf 71 = .ok (.lstore 6, 2) := by decide +kernel
theorem d_M_toHalf_73 : decode b_M_toHalf 73 = .ok (.iload 4, 2) := by decide +kernel
theorem d_M_toHalf_75 : decode b_M_toHalf 75 = .ok (.iconst 1, 1) := by decide +kernel
theorem d_M_toHalf_76 : decode b_M_toHalf 76 = .ok (.iadd, 1) := by decide +kernel
theorem d_M_toHalf_77 : decode b_M_toHalf 77 = .ok (.invokestatic 65, 3) := by decide +kernel
theorem d_M_toHalf_80 : decode b_M_toHalf 80 = .ok (.lload_n 2, 1) := by decide +kernel
theorem d_M_toHalf_81 : decode b_M_toHalf 81 = .ok (.lsub, 1) := by decide +kernel
theorem d_M_toHalf_82 : decode b_M_toHalf 82 = .ok (.lstore 8, 2) := by decide +kernel
theorem d_M_toHalf_84 : decode b_M_toHalf 84 = .ok (.lload 6, 2) := by decide +kernel
theorem d_M_toHalf_86 : decode b_M_toHalf 86 = .ok (.lload 8, 2) := by decide +kernel
theorem d_M_toHalf_88 : decode b_M_toHalf 88 = .ok (.lcmp, 1) := by decide +kernel
theorem d_M_toHalf_89 : decode b_M_toHalf 89 = .ok (.ifCond .lt 18, 3) := by decide +kernel
theorem d_M_toHalf_92 : decode b_M_toHalf 92 = .ok (.lload 6, 2) := by decide +kernel
theorem d_M_toHalf_94 : decode b_M_toHalf 94 = .ok (.lload 8, 2) := by decide +kernel
theorem d_M_toHalf_96 : decode b_M_toHalf 96 = .ok (.lcmp, 1) := by decide +kernel
theorem d_M_toHalf_97 : decode b_M_toHalf 97 = .ok (.ifCond .ne 15, 3) := by decide +kernel
theorem d_M_toHalf_100 : decode b_M_toHalf 100 = .ok (.iload 4, 2) := by decide +kernel
theorem d_M_toHalf_102 : decode b_M_toHalf 102 = .ok (.iconst 2, 1) := by decide +kernel
theorem d_M_toHalf_103 : decode b_M_toHalf 103 = .ok (.irem, 1) := by decide +kernel
theorem d_M_toHalf_104 : decode b_M_toHalf 104 = .ok (.ifCond .ne 8, 3) := by decide +kernel
theorem d_M_toHalf_107 : decode b_M_toHalf 107 = .ok (.iload 4, 2) := by decide +kernel
theorem d_M_toHalf_109 : decode b_M_toHalf 109 = .ok (.goto 7, 3) := by decide +kernel
theorem d_M_toHalf_112 : decode b_M_toHalf 112 = .ok (.iload 4, 2) := by decide +kernel
theorem d_M_toHalf_114 : decode b_M_toHalf 114 = .ok (.iconst 1, 1) := by decide +kernel
theorem d_M_toHalf_115 : decode b_M_toHalf 115 = .ok (.iadd, 1) := by decide +kernel
theorem d_M_toHalf_116 : decode b_M_toHalf 116 = .ok (.istore 10, 2) := by decide +kernel
theorem d_M_toHalf_118 : decode b_M_toHalf 118 = .ok (.iload_n 1, 1) := by decide +kernel
theorem d_M_toHalf_119 : decode b_M_toHalf 119 = .ok (.ifCond .ge 16, 3) := by decide +kernel
theorem d_M_toHalf_122 : decode b_M_toHalf 122 = .ok (.iload 10, 2) := by decide +kernel
theorem d_M_toHalf_124 : decode b_M_toHalf 124 = .ok (.ifCond .le 11, 3) := by decide +kernel
theorem d_M_toHalf_127 : decode b_M_toHalf 127 = .ok (.iload 10, 2) := by decide +kernel
theorem d_M_toHalf_129 : decode b_M_toHalf 129 = .ok (.ldc 69, 2) := by decide +kernel
theorem d_M_toHalf_131 : decode b_M_toHalf 131 = .ok (.ior, 1) := by decide +kernel
theorem d_M_toHalf_132 : decode b_M_toHalf 132 = .ok (.goto 5, 3) := by decide +kernel
theorem d_M_toHalf_135 : decode b_M_toHalf 135 = .ok (.iload 10, 2) := by decide +kernel
theorem d_M_toHalf_137 : decode b_M_toHalf 137 = .ok (.ireturn, 1) := by decide +kernel
set_option maxRecDepth 20000 in
theorem g_M_30 {w0 : Cond} : GoodIn (w0 :: WS) (wsS R_M 30 y_M_size w_M_size) := ws_good (by decide +kernel) ic_M_size rfl
set_option maxRecDepth 20000 in
theorem g_M_54 {w0 : Cond} : GoodIn (w0 :: WS) (wsV R_M 54 R_M y_M_exact w_M_exact) := ws_good (by decide +kernel) ic_M_exact rfl
set_option maxRecDepth 20000 in
theorem g_M_34 {w0 : Cond} : GoodIn (w0 :: WS) (wsV R_M 34 R_M y_M_multiply w_M_multiply) := ws_good (by decide +kernel) ic_M_multiply rfl
set_option maxRecDepth 20000 in
theorem g_M_38 {w0 : Cond} : GoodIn (w0 :: WS) (wsV R_M 38 R_M y_M_divide w_M_divide) := ws_good (by decide +kernel) ic_M_divide rfl
set_option maxRecDepth 20000 in
theorem g_M_23 {w0 : Cond} : GoodIn (w0 :: WS) (wsS R_M 23 y_M_below w_M_below) := ws_good (by decide +kernel) ic_M_below rfl
set_option maxRecDepth 20000 in
theorem g_M_59 {w0 : Cond} : GoodIn (w0 :: WS) (wsS R_M 59 y_M_nearest w_M_nearest) := ws_good (by decide +kernel) ic_M_nearest rfl
set_option maxRecDepth 20000 in
theorem g_M_65 {w0 : Cond} : GoodIn (w0 :: WS) (wsS R_M 65 y_M_scaled w_M_scaled) := ws_good (by decide +kernel) ic_M_scaled rfl
