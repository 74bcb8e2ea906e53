theorem d_L_ratio_0 : decode b_L_ratio 0 = .ok (.aload 7, 2) := by decide +kernel
theorem d_L_ratio_2 : decode b_L_ratio 2 = .ok (.iconst 0, 1) := by decide +kernel
theorem d_L_ratio_3 : decode b_L_ratio 3 = .ok (.aload_n 0, 1) := by decide +kernel
theorem d_L_ratio_4 : decode b_L_ratio 4 = .ok (.lload_n 1, 1) := by decide +kernel
theorem d_L_ratio_5 : decode b_L_ratio 5 = .ok (.lload_n 3, 1) := by decide +kernel
theorem d_L_ratio_6 : decode b_L_ratio 6 = .ok (.lload 5, 2) := by decide +kernel
theorem d_L_ratio_8 : decode b_L_ratio 8 = .ok (.invokevirtual 7, 3) := by decide +kernel
theorem d_L_ratio_11 : decode b_L_ratio 11 = .ok (.lastore, 1) := by decide +kernel
theorem d_L_ratio_12 : decode b_L_ratio 12 = .ok (.goto 7, 3) := by decide +kernel
theorem d_L_ratio_15 : decode b_L_ratio 15 = .ok (.astore 8, 2) := by decide +kernel
theorem d_L_ratio_17 : decode b_L_ratio 17 = .ok (.iconst 1, 1) := by decide +kernel
theorem d_L_ratio_18 : decode b_L_ratio 18 = .ok (.ireturn, 1) := by decide +kernel
theorem d_L_ratio_19 : decode b_L_ratio 19 = .ok (.iconst 0, 1) := by decide +kernel
theorem d_L_ratio_20 : decode b_L_ratio 20 = .ok (.ireturn, 1) := by decide +kernel
theorem d_L_between_0 : decode b_L_between 0 = .ok (.aload 7, 2) := by decide +kernel
theorem d_L_between_2 : decode b_L_between 2 = .ok (.iconst 0, 1) := by decide +kernel
theorem d_L_between_3 : decode b_L_between 3 = .ok (.aload_n 0, 1) := by decide +kernel
theorem d_L_between_4 : decode b_L_between 4 = .ok (.iload_n 1, 1) := by decide +kernel
theorem d_L_between_5 : decode b_L_between 5 = .ok (.iload_n 2, 1) := by decide +kernel
theorem d_L_between_6 : decode b_L_between 6 = .ok (.lload_n 3, 1) := by decide +kernel
theorem d_L_between_7 : decode b_L_between 7 = .ok (.lload 5, 2) := by decide +kernel
theorem d_L_between_9 : decode b_L_between 9 = .ok (.invokevirtual 15, 3) := by decide +kernel
theorem d_L_between_12 : decode b_L_between 12 = .ok (.i2l, 1) := by decide +kernel
theorem d_L_between_13 : decode b_L_between 13 = .ok (.lastore, 1) := by decide +kernel
theorem d_L_between_14 : decode b_L_between 14 = .ok (.goto 7, 3) := by decide +kernel
theorem d_L_between_17 : decode b_L_between 17 = .ok (.astore 8, 2) := by decide +kernel
theorem d_L_between_19 : decode b_L_between 19 = .ok (.iconst 1, 1) := by decide +kernel
theorem d_L_between_20 : decode b_L_between 20 = .ok (.ireturn, 1) := by decide +kernel
theorem d_L_between_21 : decode b_L_between 21 = .ok (.iconst 0, 1) := by decide +kernel
theorem d_L_between_22 : decode b_L_between 22 = .ok (.ireturn, 1) := by decide +kernel
theorem d_L_fixed_0 : decode b_L_fixed 0 = .ok (.aload_n 2, 1) := by decide +kernel
theorem d_L_fixed_1 : decode b_L_fixed 1 = .ok (.iconst 0, 1) := by decide +kernel
theorem d_L_fixed_2 : decode b_L_fixed 2 = .ok (.aload_n 0, 1) := by decide +kernel
theorem d_L_fixed_3 : decode b_L_fixed 3 = .ok (.iload_n 1, 1) := by decide +kernel
theorem d_L_fixed_4 : decode b_L_fixed 4 = .ok (.invokevirtual 21, 3) := by decide +kernel
theorem d_L_fixed_7 : decode b_L_fixed 7 = .ok (.i2l, 1) := by decide +kernel
theorem d_L_fixed_8 : decode b_L_fixed 8 = .ok (.lastore, 1) := by decide +kernel
theorem d_L_fixed_9 : decode b_L_fixed 9 = .ok (.goto 6, 3) := by decide +kernel
theorem d_L_fixed_12 : decode b_L_fixed 12 = .ok (.astore_n 3, 1) := by decide +kernel
theorem d_L_fixed_13 : decode b_L_fixed 13 = .ok (.iconst 1, 1) := by decide +kernel
theorem d_L_fixed_14 : decode b_L_fixed 14 = .ok (.ireturn, 1) := by decide +kernel
theorem d_L_fixed_15 : decode b_L_fixed 15 = .ok (.iconst 0, 1) := by decide +kernel
theorem d_L_fixed_16 : decode b_L_fixed 16 = .ok (.ireturn, 1) := by decide +kernel
theorem d_L_shade_0 : decode b_L_shade 0 = .ok (.aload_n 3, 1) := by decide +kernel
theorem d_L_shade_1 : decode b_L_shade 1 = .ok (.iconst 0, 1) := by decide +kernel
theorem d_L_shade_2 : decode b_L_shade 2 = .ok (.aload_n 0, 1) := by decide +kernel
theorem d_L_shade_3 : decode b_L_shade 3 = .ok (.iload_n 1, 1) := by decide +kernel
theorem d_L_shade_4 : decode b_L_shade 4 = .ok (.iload_n 2, 1) := by decide +kernel
theorem d_L_shade_5 : decode b_L_shade 5 = .ok (.invokevirtual 25, 3) := by decide +kernel
theorem d_L_shade_8 : decode b_L_shade 8 = .ok (.i2l, 1) := by decide +kernel
theorem d_L_shade_9 : decode b_L_shade 9 = .ok (.lastore, 1) := by decide +kernel
theorem d_L_shade_10 : decode b_L_shade 10 = .ok (.goto 7, 3) := by decide +kernel
theorem d_L_shade_13 : decode b_L_shade 13 = .ok (.astore 4, 2) := by decide +kernel
theorem d_L_shade_15 : decode b_L_shade 15 = .ok (.iconst 1, 1) := by decide +kernel
theorem d_L_shade_16 : decode b_L_shade 16 = .ok (.ireturn, 1) := by decide +kernel
theorem d_L_shade_17 : decode b_L_shade 17 = .ok (.iconst 0, 1) := by decide +kernel
theorem d_L_shade_18 : decode b_L_shade 18 = .ok (.ireturn, 1) := by decide +kernel
set_option maxRecDepth 20000 in
theorem g_L_7 {w0 : Cond} : GoodIn (w0 :: WS) (wsV R_L 7 R_F y_F_ratio w_F_ratio) := ws_good (by decide +kernel) ic_F_ratio rfl
set_option maxRecDepth 20000 in
theorem g_L_15 {w0 : Cond} : GoodIn (w0 :: WS) (wsV R_L 15 R_F y_F_between w_F_between) := ws_good (by decide +kernel) ic_F_between rfl
set_option maxRecDepth 20000 in
theorem g_L_21 {w0 : Cond} : GoodIn (w0 :: WS) (wsV R_L 21 R_F y_F_fixed w_F_fixed) := ws_good (by decide +kernel) ic_F_fixed rfl
set_option maxRecDepth 20000 in
theorem g_L_25 {w0 : Cond} : GoodIn (w0 :: WS) (wsV R_L 25 R_F y_F_shade w_F_shade) := ws_good (by decide +kernel) ic_F_shade rfl
