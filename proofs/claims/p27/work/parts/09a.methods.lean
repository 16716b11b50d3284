set_option maxRecDepth 100000 in
theorem fz_pc_0 : fz_pc "java/lang/Integer" = true := by decide +kernel
set_option maxRecDepth 100000 in
theorem fz_pc_1 : fz_pc "java/util/Arrays" = true := by decide +kernel
set_option maxRecDepth 100000 in
theorem fz_pc_2 : fz_pc "FameAhead$Changes" = true := by decide +kernel
set_option maxRecDepth 100000 in
theorem fz_pc_3 : fz_pc "FameAhead" = true := by decide +kernel
set_option maxRecDepth 100000 in
theorem fz_pc_4 : fz_pc "FameAheadModel" = true := by decide +kernel
set_option maxRecDepth 100000 in
theorem fz_pc_5 : fz_pc "FameAhead$Journey" = true := by decide +kernel
set_option maxRecDepth 100000 in
theorem fz_pc_6 : fz_pc "FameAhead$Land" = true := by decide +kernel
set_option maxRecDepth 100000 in
theorem fz_pc_7 : fz_pc "FameAhead$Law" = true := by decide +kernel
set_option maxRecDepth 100000 in
theorem fz_pc_8 : fz_pc "FameAhead$Ledger" = true := by decide +kernel
set_option maxRecDepth 100000 in
theorem fz_pc_9 : fz_pc "FameAhead$Reader" = true := by decide +kernel
set_option maxRecDepth 100000 in
theorem fz_pc_10 : fz_pc "FameAhead$Seeker" = true := by decide +kernel
set_option maxRecDepth 100000 in
theorem fz_pc_11 : fz_pc "FameAhead$Shelves" = true := by decide +kernel
set_option maxRecDepth 100000 in
theorem fz_pc_12 : fz_pc "FameAhead$Tidings" = true := by decide +kernel
set_option maxRecDepth 100000 in
theorem fz_pc_13 : fz_pc "FameAhead$Words" = true := by decide +kernel
set_option maxRecDepth 100000 in
theorem fz_pd_0 : fz_pd "(I)I" 1 = true := by decide +kernel
set_option maxRecDepth 100000 in
theorem fz_pd_1 : fz_pd "([II)V" 2 = true := by decide +kernel
set_option maxRecDepth 100000 in
theorem fz_pd_2 : fz_pd "([JIIJ)V" 4 = true := by decide +kernel
set_option maxRecDepth 100000 in
theorem fz_pd_3 : fz_pd "([JJ)V" 2 = true := by decide +kernel
set_option maxRecDepth 100000 in
theorem fz_pd_4 : fz_pd "(III)V" 3 = true := by decide +kernel
set_option maxRecDepth 100000 in
theorem fz_pd_5 : fz_pd "(IIII)V" 4 = true := by decide +kernel
set_option maxRecDepth 100000 in
theorem fz_pd_6 : fz_pd "()V" 0 = true := by decide +kernel
set_option maxRecDepth 100000 in
theorem fz_pd_7 : fz_pd "()I" 0 = true := by decide +kernel
set_option maxRecDepth 100000 in
theorem fz_pd_8 : fz_pd "(III)I" 3 = true := by decide +kernel
set_option maxRecDepth 100000 in
theorem fz_pd_9 : fz_pd "(I)Z" 1 = true := by decide +kernel
set_option maxRecDepth 100000 in
theorem fz_pd_10 : fz_pd "(II)Z" 2 = true := by decide +kernel
set_option maxRecDepth 100000 in
theorem fz_pd_11 : fz_pd "(II)I" 2 = true := by decide +kernel
set_option maxRecDepth 100000 in
theorem fz_pd_12 : fz_pd "(JJ)J" 2 = true := by decide +kernel
set_option maxRecDepth 100000 in
theorem fz_pd_13 : fz_pd "(IIII)I" 4 = true := by decide +kernel
set_option maxRecDepth 100000 in
theorem fz_pd_14 : fz_pd "(II)J" 2 = true := by decide +kernel
set_option maxRecDepth 100000 in
theorem fz_pd_15 : fz_pd "(III)J" 3 = true := by decide +kernel
set_option maxRecDepth 100000 in
theorem fz_pd_16 : fz_pd "(III)Z" 3 = true := by decide +kernel
set_option maxRecDepth 100000 in
theorem fz_pd_17 : fz_pd "(IIJ)I" 3 = true := by decide +kernel
set_option maxRecDepth 100000 in
theorem fz_pd_18 : fz_pd "(IIIII)I" 5 = true := by decide +kernel
set_option maxRecDepth 100000 in
theorem fz_pd_19 : fz_pd "(IIZ)I" 3 = true := by decide +kernel
set_option maxRecDepth 100000 in
theorem fz_pd_20 : fz_pd "(II)V" 2 = true := by decide +kernel
set_option maxRecDepth 100000 in
theorem fz_pd_21 : fz_pd "(IZ)V" 2 = true := by decide +kernel
set_option maxRecDepth 100000 in
theorem fz_pd_22 : fz_pd "(I)V" 1 = true := by decide +kernel
set_option maxRecDepth 100000 in
theorem fz_pd_23 : fz_pd "(IZ)I" 2 = true := by decide +kernel
set_option maxRecDepth 100000 in
theorem fz_pd_24 : fz_pd "()Z" 0 = true := by decide +kernel
set_option maxRecDepth 100000 in
theorem fz_pd_25 : fz_pd "(IIIIII)Z" 6 = true := by decide +kernel
set_option maxRecDepth 100000 in
theorem fz_pd_26 : fz_pd "(IJ)J" 2 = true := by decide +kernel
set_option maxRecDepth 100000 in
theorem fz_pd_27 : fz_pd "(IIIII)V" 5 = true := by decide +kernel
set_option maxRecDepth 100000 in
theorem fz_pd_28 : fz_pd "([I)V" 1 = true := by decide +kernel
set_option maxRecDepth 100000 in
theorem fz_pd_29 : fz_pd "([III)V" 3 = true := by decide +kernel
set_option maxRecDepth 100000 in
theorem fz_pd_30 : fz_pd "(LFameAhead$Law;)V" 1 = true := by decide +kernel
set_option maxRecDepth 100000 in
theorem fz_pd_31 : fz_pd "(IIIIII)I" 6 = true := by decide +kernel
set_option maxRecDepth 100000 in
theorem fz_pd_32 : fz_pd "(IIJ)V" 3 = true := by decide +kernel
set_option maxRecDepth 100000 in
theorem fz_pd_33 : fz_pd "(I)J" 1 = true := by decide +kernel
set_option maxRecDepth 100000 in
def mJ6_bitCount_0f7a4 : fz_M := (yJ6_bitCount_0f7a4, prog_14_method_49_code, 1, (some .int), [(0, .iload_n 0, 1, 0, 0, 0), (1, .iload_n 0, 1, 0, 0, 0), (2, .iconst 1, 1, 0, 0, 0), (3, .iushr, 1, 0, 0, 0), (4, .ldc_w 265, 3, 4067, 0, 0), (7, .iand, 1, 0, 0, 0), (8, .isub, 1, 0, 0, 0), (9, .istore_n 0, 1, 0, 0, 0), (10, .iload_n 0, 1, 0, 0, 0), (11, .ldc_w 266, 3, 4068, 0, 0), (14, .iand, 1, 0, 0, 0), (15, .iload_n 0, 1, 0, 0, 0), (16, .iconst 2, 1, 0, 0, 0), (17, .iushr, 1, 0, 0, 0), (18, .ldc_w 266, 3, 4068, 0, 0), (21, .iand, 1, 0, 0, 0), (22, .iadd, 1, 0, 0, 0), (23, .istore_n 0, 1, 0, 0, 0), (24, .iload_n 0, 1, 0, 0, 0), (25, .iload_n 0, 1, 0, 0, 0), (26, .iconst 4, 1, 0, 0, 0), (27, .iushr, 1, 0, 0, 0), (28, .iadd, 1, 0, 0, 0), (29, .ldc_w 267, 3, 4069, 0, 0), (32, .iand, 1, 0, 0, 0), (33, .istore_n 0, 1, 0, 0, 0), (34, .iload_n 0, 1, 0, 0, 0), (35, .iload_n 0, 1, 0, 0, 0), (36, .bipush 8, 2, 0, 0, 0), (38, .iushr, 1, 0, 0, 0), (39, .iadd, 1, 0, 0, 0), (40, .istore_n 0, 1, 0, 0, 0), (41, .iload_n 0, 1, 0, 0, 0), (42, .iload_n 0, 1, 0, 0, 0), (43, .bipush 16, 2, 0, 0, 0), (45, .iushr, 1, 0, 0, 0), (46, .iadd, 1, 0, 0, 0), (47, .istore_n 0, 1, 0, 0, 0), (48, .iload_n 0, 1, 0, 0, 0), (49, .bipush 63, 2, 0, 0, 0), (51, .iand, 1, 0, 0, 0), (52, .ireturn, 1, 0, 0, 0)])
set_option maxRecDepth 100000 in
theorem kJ6_bitCount_0f7a4 : fz_okM mJ6_bitCount_0f7a4 = true := fz_okM_in (by decide +kernel) (by decide +kernel)
set_option maxRecDepth 100000 in
theorem vJ6_bitCount_0f7a4 : fz_vM mJ6_bitCount_0f7a4 1 true := fz_vS2 4066 1016 4065 fz_pc_0 fz_pd_0 rfl rfl rfl rfl
set_option maxRecDepth 100000 in
def mJ7_fill_53178 : fz_M := (yJ7_fill_53178, prog_17_method_103_code, 4, none, [(0, .iconst 0, 1, 0, 0, 0), (1, .istore_n 2, 1, 0, 0, 0), (2, .aload_n 0, 1, 0, 0, 0), (3, .arraylength, 1, 0, 0, 0), (4, .istore_n 3, 1, 0, 0, 0), (5, .iload_n 2, 1, 0, 0, 0), (6, .iload_n 3, 1, 0, 0, 0), (7, .if_icmp .ge 13, 3, 0, 0, 0), (10, .aload_n 0, 1, 0, 0, 0), (11, .iload_n 2, 1, 0, 0, 0), (12, .iload_n 1, 1, 0, 0, 0), (13, .iastore, 1, 0, 0, 0), (14, .iinc 2 1, 3, 0, 0, 0), (17, .goto (-12), 3, 0, 0, 0), (20, .return_, 1, 0, 0, 0)])
set_option maxRecDepth 100000 in
theorem kJ7_fill_53178 : fz_okM mJ7_fill_53178 = true := fz_okM_in (by decide +kernel) (by decide +kernel)
set_option maxRecDepth 100000 in
theorem vJ7_fill_53178 : fz_vM mJ7_fill_53178 2 true := fz_vS2 2161 1013 2160 fz_pc_1 fz_pd_1 rfl rfl rfl rfl
set_option maxRecDepth 100000 in
def mJ7_fill_bad5a : fz_M := (yJ7_fill_bad5a, prog_17_method_102_code, 6, none, [(0, .aload_n 0, 1, 0, 0, 0), (1, .arraylength, 1, 0, 0, 0), (2, .iload_n 1, 1, 0, 0, 0), (3, .iload_n 2, 1, 0, 0, 0), (4, .invokestatic 13, 3, 5033, 4, 0), (7, .iload_n 1, 1, 0, 0, 0), (8, .istore 5, 2, 0, 0, 0), (10, .iload 5, 2, 0, 0, 0), (12, .iload_n 2, 1, 0, 0, 0), (13, .if_icmp .ge 14, 3, 0, 0, 0), (16, .aload_n 0, 1, 0, 0, 0), (17, .iload 5, 2, 0, 0, 0), (19, .lload_n 3, 1, 0, 0, 0), (20, .lastore, 1, 0, 0, 0), (21, .iinc 5 1, 3, 0, 0, 0), (24, .goto (-14), 3, 0, 0, 0), (27, .return_, 1, 0, 0, 0)])
set_option maxRecDepth 100000 in
theorem kJ7_fill_bad5a : fz_okM mJ7_fill_bad5a = true := fz_okM_in (by decide +kernel) (by decide +kernel)
set_option maxRecDepth 100000 in
theorem vJ7_fill_bad5a : fz_vM mJ7_fill_bad5a 4 true := fz_vS2 5032 1013 5031 fz_pc_1 fz_pd_2 rfl rfl rfl rfl
set_option maxRecDepth 100000 in
def mJ7_fill_d0a16 : fz_M := (yJ7_fill_d0a16, prog_17_method_101_code, 5, none, [(0, .iconst 0, 1, 0, 0, 0), (1, .istore_n 3, 1, 0, 0, 0), (2, .aload_n 0, 1, 0, 0, 0), (3, .arraylength, 1, 0, 0, 0), (4, .istore 4, 2, 0, 0, 0), (6, .iload_n 3, 1, 0, 0, 0), (7, .iload 4, 2, 0, 0, 0), (9, .if_icmp .ge 13, 3, 0, 0, 0), (12, .aload_n 0, 1, 0, 0, 0), (13, .iload_n 3, 1, 0, 0, 0), (14, .lload_n 1, 1, 0, 0, 0), (15, .lastore, 1, 0, 0, 0), (16, .iinc 3 1, 3, 0, 0, 0), (19, .goto (-13), 3, 0, 0, 0), (22, .return_, 1, 0, 0, 0)])
set_option maxRecDepth 100000 in
theorem kJ7_fill_d0a16 : fz_okM mJ7_fill_d0a16 = true := fz_okM_in (by decide +kernel) (by decide +kernel)
set_option maxRecDepth 100000 in
theorem vJ7_fill_d0a16 : fz_vM mJ7_fill_d0a16 2 true := fz_vS2 4148 1013 4147 fz_pc_1 fz_pd_3 rfl rfl rfl rfl
set_option maxRecDepth 100000 in
def mJ7_rangeCheck_23922 : fz_M := (yJ7_rangeCheck_23922, prog_17_method_30_code, 3, none, [(0, .iload_n 1, 1, 0, 0, 0), (1, .iload_n 2, 1, 0, 0, 0), (2, .if_icmp .le 44, 3, 0, 0, 0), (5, .new 43, 3, 0, 0, 0), (8, .dup, 1, 0, 0, 0), (9, .new 45, 3, 0, 0, 0), (12, .dup, 1, 0, 0, 0), (13, .invokespecial 47, 3, 0, 0, 0), (21, .iload_n 1, 1, 0, 0, 0), (30, .iload_n 2, 1, 0, 0, 0), (42, .invokespecial 65, 3, 0, 0, 0), (45, .athrow, 1, 0, 0, 0), (46, .iload_n 1, 1, 0, 0, 0), (47, .ifCond .ge 12, 3, 0, 0, 0), (50, .new 68, 3, 0, 0, 0), (53, .dup, 1, 0, 0, 0), (54, .iload_n 1, 1, 0, 0, 0), (55, .invokespecial 70, 3, 0, 0, 0), (58, .athrow, 1, 0, 0, 0), (59, .iload_n 2, 1, 0, 0, 0), (60, .iload_n 0, 1, 0, 0, 0), (61, .if_icmp .le 12, 3, 0, 0, 0), (64, .new 68, 3, 0, 0, 0), (67, .dup, 1, 0, 0, 0), (68, .iload_n 2, 1, 0, 0, 0), (69, .invokespecial 70, 3, 0, 0, 0), (72, .athrow, 1, 0, 0, 0), (73, .return_, 1, 0, 0, 0)])
set_option maxRecDepth 100000 in
theorem kJ7_rangeCheck_23922 : fz_okM mJ7_rangeCheck_23922 = true := fz_okM_in (by decide +kernel) (by decide +kernel)
set_option maxRecDepth 100000 in
theorem vJ7_rangeCheck_23922 : fz_vM mJ7_rangeCheck_23922 3 true := fz_vS2 5035 1013 5034 fz_pc_1 fz_pd_4 rfl rfl rfl rfl
set_option maxRecDepth 100000 in
def mX0_add : fz_M := (yX0_add, prog_2_method_2_code, 5, none, [(0, .aload_n 0, 1, 0, 0, 0), (1, .getfield 24, 3, 4, 0, 2001), (4, .bipush 40, 2, 0, 0, 0), (6, .if_icmp .lt 7, 3, 0, 0, 0), (9, .aload_n 0, 1, 0, 0, 0), (10, .invokevirtual 28, 3, 3042, 9, 0), (13, .aload_n 0, 1, 0, 0, 0), (14, .getfield 11, 3, 0, 0, 1233), (17, .aload_n 0, 1, 0, 0, 0), (18, .getfield 24, 3, 4, 0, 2001), (21, .iload_n 1, 1, 0, 0, 0), (22, .iastore, 1, 0, 0, 0), (23, .aload_n 0, 1, 0, 0, 0), (24, .getfield 15, 3, 1, 0, 1235), (27, .aload_n 0, 1, 0, 0, 0), (28, .getfield 24, 3, 4, 0, 2001), (31, .iload_n 2, 1, 0, 0, 0), (32, .iastore, 1, 0, 0, 0), (33, .aload_n 0, 1, 0, 0, 0), (34, .getfield 18, 3, 2, 0, 1237), (37, .aload_n 0, 1, 0, 0, 0), (38, .getfield 24, 3, 4, 0, 2001), (41, .iload_n 3, 1, 0, 0, 0), (42, .iastore, 1, 0, 0, 0), (43, .aload_n 0, 1, 0, 0, 0), (44, .getfield 21, 3, 3, 0, 1239), (47, .aload_n 0, 1, 0, 0, 0), (48, .getfield 24, 3, 4, 0, 2001), (51, .iload 4, 2, 0, 0, 0), (53, .iastore, 1, 0, 0, 0), (54, .aload_n 0, 1, 0, 0, 0), (55, .dup, 1, 0, 0, 0), (56, .getfield 24, 3, 4, 0, 2001), (59, .iconst 1, 1, 0, 0, 0), (60, .iadd, 1, 0, 0, 0), (61, .putfield 24, 3, 4, 0, 2001), (64, .aload_n 0, 1, 0, 0, 0), (65, .aload_n 0, 1, 0, 0, 0), (66, .getfield 24, 3, 4, 0, 2001), (69, .putfield 31, 3, 5, 0, 2003), (72, .return_, 1, 0, 0, 0)])
set_option maxRecDepth 100000 in
theorem kX0_add : fz_okM mX0_add = true := fz_okM_in (by decide +kernel) (by decide +kernel)
set_option maxRecDepth 100000 in
theorem vX0_add : fz_vM mX0_add 4 false := fz_vI2 3041 1008 3039 3040 fz_pc_2 fz_pd_5 rfl rfl rfl rfl rfl
set_option maxRecDepth 100000 in
def mX0_dropOldest : fz_M := (yX0_dropOldest, prog_2_method_3_code, 1, none, [(0, .aload_n 0, 1, 0, 0, 0), (1, .getfield 11, 3, 0, 0, 1233), (4, .iconst 1, 1, 0, 0, 0), (5, .aload_n 0, 1, 0, 0, 0), (6, .getfield 11, 3, 0, 0, 1233), (9, .iconst 0, 1, 0, 0, 0), (10, .bipush 39, 2, 0, 0, 0), (12, .invokestatic 34, 3, 3046, 276, 0), (15, .aload_n 0, 1, 0, 0, 0), (16, .getfield 15, 3, 1, 0, 1235), (19, .iconst 1, 1, 0, 0, 0), (20, .aload_n 0, 1, 0, 0, 0), (21, .getfield 15, 3, 1, 0, 1235), (24, .iconst 0, 1, 0, 0, 0), (25, .bipush 39, 2, 0, 0, 0), (27, .invokestatic 34, 3, 3046, 276, 0), (30, .aload_n 0, 1, 0, 0, 0), (31, .getfield 18, 3, 2, 0, 1237), (34, .iconst 1, 1, 0, 0, 0), (35, .aload_n 0, 1, 0, 0, 0), (36, .getfield 18, 3, 2, 0, 1237), (39, .iconst 0, 1, 0, 0, 0), (40, .bipush 39, 2, 0, 0, 0), (42, .invokestatic 34, 3, 3046, 276, 0), (45, .aload_n 0, 1, 0, 0, 0), (46, .getfield 21, 3, 3, 0, 1239), (49, .iconst 1, 1, 0, 0, 0), (50, .aload_n 0, 1, 0, 0, 0), (51, .getfield 21, 3, 3, 0, 1239), (54, .iconst 0, 1, 0, 0, 0), (55, .bipush 39, 2, 0, 0, 0), (57, .invokestatic 34, 3, 3046, 276, 0), (60, .aload_n 0, 1, 0, 0, 0), (61, .bipush 39, 2, 0, 0, 0), (63, .putfield 24, 3, 4, 0, 2001), (66, .return_, 1, 0, 0, 0)])
set_option maxRecDepth 100000 in
theorem kX0_dropOldest : fz_okM mX0_dropOldest = true := fz_okM_in (by decide +kernel) (by decide +kernel)
set_option maxRecDepth 100000 in
theorem vX0_dropOldest : fz_vM mX0_dropOldest 0 false := fz_vI2 3045 1008 3044 13 fz_pc_2 fz_pd_6 rfl rfl rfl rfl rfl
set_option maxRecDepth 100000 in
def mX0_stepAhead : fz_M := (yX0_stepAhead, prog_2_method_5_code, 1, (some .int), [(0, .aload_n 0, 1, 0, 0, 0), (1, .getfield 24, 3, 4, 0, 2001), (4, .aload_n 0, 1, 0, 0, 0), (5, .getfield 31, 3, 5, 0, 2003), (8, .if_icmp .lt 6, 3, 0, 0, 0), (11, .bipush (-5), 2, 0, 0, 0), (13, .ireturn, 1, 0, 0, 0), (14, .aload_n 0, 1, 0, 0, 0), (15, .dup, 1, 0, 0, 0), (16, .getfield 24, 3, 4, 0, 2001), (19, .iconst 1, 1, 0, 0, 0), (20, .iadd, 1, 0, 0, 0), (21, .putfield 24, 3, 4, 0, 2001), (24, .aload_n 0, 1, 0, 0, 0), (25, .getfield 24, 3, 4, 0, 2001), (28, .iconst 1, 1, 0, 0, 0), (29, .isub, 1, 0, 0, 0), (30, .ireturn, 1, 0, 0, 0)])
set_option maxRecDepth 100000 in
theorem kX0_stepAhead : fz_okM mX0_stepAhead = true := fz_okM_in (by decide +kernel) (by decide +kernel)
set_option maxRecDepth 100000 in
theorem vX0_stepAhead : fz_vM mX0_stepAhead 0 false := fz_vI2 4207 1008 4205 4206 fz_pc_2 fz_pd_7 rfl rfl rfl rfl rfl
set_option maxRecDepth 100000 in
def mX0_stepBack : fz_M := (yX0_stepBack, prog_2_method_4_code, 1, (some .int), [(0, .aload_n 0, 1, 0, 0, 0), (1, .getfield 24, 3, 4, 0, 2001), (4, .ifCond .gt 6, 3, 0, 0, 0), (7, .bipush (-5), 2, 0, 0, 0), (9, .ireturn, 1, 0, 0, 0), (10, .aload_n 0, 1, 0, 0, 0), (11, .dup, 1, 0, 0, 0), (12, .getfield 24, 3, 4, 0, 2001), (15, .iconst 1, 1, 0, 0, 0), (16, .isub, 1, 0, 0, 0), (17, .putfield 24, 3, 4, 0, 2001), (20, .aload_n 0, 1, 0, 0, 0), (21, .getfield 24, 3, 4, 0, 2001), (24, .ireturn, 1, 0, 0, 0)])
set_option maxRecDepth 100000 in
theorem kX0_stepBack : fz_okM mX0_stepBack = true := fz_okM_in (by decide +kernel) (by decide +kernel)
set_option maxRecDepth 100000 in
theorem vX0_stepBack : fz_vM mX0_stepBack 0 false := fz_vI2 4199 1008 4197 4198 fz_pc_2 fz_pd_7 rfl rfl rfl rfl rfl
set_option maxRecDepth 100000 in
def mX1_go : fz_M := (yX1_go, prog_3_method_2_code, 4, none, [(0, .aload_n 0, 1, 0, 0, 0), (1, .getfield 9, 3, 0, 1, 2024), (4, .iload_n 1, 1, 0, 0, 0), (5, .iload_n 2, 1, 0, 0, 0), (6, .iastore, 1, 0, 0, 0), (7, .aload_n 0, 1, 0, 0, 0), (8, .dup, 1, 0, 0, 0), (9, .getfield 21, 3, 1, 1, 2026), (12, .iload_n 3, 1, 0, 0, 0), (13, .iadd, 1, 0, 0, 0), (14, .putfield 21, 3, 1, 1, 2026), (17, .aload_n 0, 1, 0, 0, 0), (18, .dup, 1, 0, 0, 0), (19, .getfield 25, 3, 2, 1, 2028), (22, .iconst 1, 1, 0, 0, 0), (23, .iadd, 1, 0, 0, 0), (24, .putfield 25, 3, 2, 1, 2028), (27, .aload_n 0, 1, 0, 0, 0), (28, .dup, 1, 0, 0, 0), (29, .getfield 28, 3, 3, 1, 2030), (32, .iload_n 3, 1, 0, 0, 0), (33, .iadd, 1, 0, 0, 0), (34, .putfield 28, 3, 3, 1, 2030), (37, .return_, 1, 0, 0, 0)])
set_option maxRecDepth 100000 in
theorem kX1_go : fz_okM mX1_go = true := fz_okM_in (by decide +kernel) (by decide +kernel)
set_option maxRecDepth 100000 in
theorem vX1_go : fz_vM mX1_go 3 false := fz_vI2 4166 1009 4164 4165 fz_pc_5 fz_pd_4 rfl rfl rfl rfl rfl
set_option maxRecDepth 100000 in
def mX1_keepImage : fz_M := (yX1_keepImage, prog_3_method_3_code, 1, none, [(0, .aload_n 0, 1, 0, 0, 0), (1, .getfield 9, 3, 0, 1, 2024), (4, .iconst 0, 1, 0, 0, 0), (5, .aload_n 0, 1, 0, 0, 0), (6, .getfield 15, 3, 7, 1, 2038), (9, .iconst 0, 1, 0, 0, 0), (10, .iconst 4, 1, 0, 0, 0), (11, .invokestatic 31, 3, 4183, 276, 0), (14, .aload_n 0, 1, 0, 0, 0), (15, .getfield 18, 3, 8, 1, 2039), (18, .iconst 0, 1, 0, 0, 0), (19, .aload_n 0, 1, 0, 0, 0), (20, .getfield 21, 3, 1, 1, 2026), (23, .iastore, 1, 0, 0, 0), (24, .aload_n 0, 1, 0, 0, 0), (25, .getfield 18, 3, 8, 1, 2039), (28, .iconst 1, 1, 0, 0, 0), (29, .aload_n 0, 1, 0, 0, 0), (30, .getfield 25, 3, 2, 1, 2028), (33, .iastore, 1, 0, 0, 0), (34, .aload_n 0, 1, 0, 0, 0), (35, .getfield 18, 3, 8, 1, 2039), (38, .iconst 2, 1, 0, 0, 0), (39, .aload_n 0, 1, 0, 0, 0), (40, .getfield 28, 3, 3, 1, 2030), (43, .iastore, 1, 0, 0, 0), (44, .aload_n 0, 1, 0, 0, 0), (45, .getfield 18, 3, 8, 1, 2039), (48, .iconst 3, 1, 0, 0, 0), (49, .aload_n 0, 1, 0, 0, 0), (50, .getfield 37, 3, 4, 1, 2032), (53, .iastore, 1, 0, 0, 0), (54, .aload_n 0, 1, 0, 0, 0), (55, .getfield 18, 3, 8, 1, 2039), (58, .iconst 4, 1, 0, 0, 0), (59, .aload_n 0, 1, 0, 0, 0), (60, .getfield 40, 3, 5, 1, 2034), (63, .iastore, 1, 0, 0, 0), (64, .aload_n 0, 1, 0, 0, 0), (65, .iconst 1, 1, 0, 0, 0), (66, .putfield 43, 3, 6, 1, 2036), (69, .return_, 1, 0, 0, 0)])
set_option maxRecDepth 100000 in
theorem kX1_keepImage : fz_okM mX1_keepImage = true := fz_okM_in (by decide +kernel) (by decide +kernel)
set_option maxRecDepth 100000 in
theorem vX1_keepImage : fz_vM mX1_keepImage 0 false := fz_vI2 4182 1009 4180 4181 fz_pc_5 fz_pd_6 rfl rfl rfl rfl rfl
set_option maxRecDepth 100000 in
def mX1_layBack : fz_M := (yX1_layBack, prog_3_method_4_code, 1, none, [(0, .aload_n 0, 1, 0, 0, 0), (1, .getfield 15, 3, 7, 1, 2038), (4, .iconst 0, 1, 0, 0, 0), (5, .aload_n 0, 1, 0, 0, 0), (6, .getfield 9, 3, 0, 1, 2024), (9, .iconst 0, 1, 0, 0, 0), (10, .iconst 4, 1, 0, 0, 0), (11, .invokestatic 31, 3, 4183, 276, 0), (14, .aload_n 0, 1, 0, 0, 0), (15, .aload_n 0, 1, 0, 0, 0), (16, .getfield 18, 3, 8, 1, 2039), (19, .iconst 0, 1, 0, 0, 0), (20, .iaload, 1, 0, 0, 0), (21, .putfield 21, 3, 1, 1, 2026), (24, .aload_n 0, 1, 0, 0, 0), (25, .aload_n 0, 1, 0, 0, 0), (26, .getfield 18, 3, 8, 1, 2039), (29, .iconst 1, 1, 0, 0, 0), (30, .iaload, 1, 0, 0, 0), (31, .putfield 25, 3, 2, 1, 2028), (34, .aload_n 0, 1, 0, 0, 0), (35, .aload_n 0, 1, 0, 0, 0), (36, .getfield 18, 3, 8, 1, 2039), (39, .iconst 2, 1, 0, 0, 0), (40, .iaload, 1, 0, 0, 0), (41, .putfield 28, 3, 3, 1, 2030), (44, .aload_n 0, 1, 0, 0, 0), (45, .aload_n 0, 1, 0, 0, 0), (46, .getfield 18, 3, 8, 1, 2039), (49, .iconst 3, 1, 0, 0, 0), (50, .iaload, 1, 0, 0, 0), (51, .putfield 37, 3, 4, 1, 2032), (54, .aload_n 0, 1, 0, 0, 0), (55, .aload_n 0, 1, 0, 0, 0), (56, .getfield 18, 3, 8, 1, 2039), (59, .iconst 4, 1, 0, 0, 0), (60, .iaload, 1, 0, 0, 0), (61, .putfield 40, 3, 5, 1, 2034), (64, .return_, 1, 0, 0, 0)])
set_option maxRecDepth 100000 in
theorem kX1_layBack : fz_okM mX1_layBack = true := fz_okM_in (by decide +kernel) (by decide +kernel)
set_option maxRecDepth 100000 in
theorem vX1_layBack : fz_vM mX1_layBack 0 false := fz_vI2 4191 1009 4189 4190 fz_pc_5 fz_pd_6 rfl rfl rfl rfl rfl
set_option maxRecDepth 100000 in
def mX2_acrossFrom : fz_M := (yX2_acrossFrom, prog_4_method_6_code, 3, (some .int), [(0, .aload_n 0, 1, 0, 0, 0), (1, .getfield 21, 3, 3, 2, 1039), (4, .iload_n 1, 1, 0, 0, 0), (5, .iaload, 1, 0, 0, 0), (6, .iload_n 2, 1, 0, 0, 0), (7, .if_icmp .ne 10, 3, 0, 0, 0), (10, .aload_n 0, 1, 0, 0, 0), (11, .getfield 24, 3, 4, 2, 1040), (14, .iload_n 1, 1, 0, 0, 0), (15, .iaload, 1, 0, 0, 0), (16, .ireturn, 1, 0, 0, 0), (17, .aload_n 0, 1, 0, 0, 0), (18, .getfield 24, 3, 4, 2, 1040), (21, .iload_n 1, 1, 0, 0, 0), (22, .iaload, 1, 0, 0, 0), (23, .iload_n 2, 1, 0, 0, 0), (24, .if_icmp .ne 12, 3, 0, 0, 0), (27, .aload_n 0, 1, 0, 0, 0), (28, .getfield 21, 3, 3, 2, 1039), (31, .iload_n 1, 1, 0, 0, 0), (32, .iaload, 1, 0, 0, 0), (33, .goto 5, 3, 0, 0, 0), (36, .bipush (-2), 2, 0, 0, 0), (38, .ireturn, 1, 0, 0, 0)])
set_option maxRecDepth 100000 in
theorem kX2_acrossFrom : fz_okM mX2_acrossFrom = true := fz_okM_in (by decide +kernel) (by decide +kernel)
set_option maxRecDepth 100000 in
theorem vX2_acrossFrom : fz_vM mX2_acrossFrom 2 false := fz_vI2 4035 1002 4033 4034 fz_pc_6 fz_pd_11 rfl rfl rfl rfl rfl
set_option maxRecDepth 100000 in
def mX2_addRoad : fz_M := (yX2_addRoad, prog_4_method_5_code, 4, (some .int), [(0, .aload_n 0, 1, 0, 0, 0), (1, .getfield 37, 3, 8, 2, 1045), (4, .bipush 12, 2, 0, 0, 0), (6, .if_icmp .lt 6, 3, 0, 0, 0), (9, .bipush (-3), 2, 0, 0, 0), (11, .ireturn, 1, 0, 0, 0), (12, .aload_n 0, 1, 0, 0, 0), (13, .getfield 21, 3, 3, 2, 1039), (16, .aload_n 0, 1, 0, 0, 0), (17, .getfield 37, 3, 8, 2, 1045), (20, .iload_n 1, 1, 0, 0, 0), (21, .iastore, 1, 0, 0, 0), (22, .aload_n 0, 1, 0, 0, 0), (23, .getfield 24, 3, 4, 2, 1040), (26, .aload_n 0, 1, 0, 0, 0), (27, .getfield 37, 3, 8, 2, 1045), (30, .iload_n 2, 1, 0, 0, 0), (31, .iastore, 1, 0, 0, 0), (32, .aload_n 0, 1, 0, 0, 0), (33, .getfield 15, 3, 1, 2, 1034), (36, .aload_n 0, 1, 0, 0, 0), (37, .getfield 37, 3, 8, 2, 1045), (40, .iload_n 3, 1, 0, 0, 0), (41, .iastore, 1, 0, 0, 0), (42, .aload_n 0, 1, 0, 0, 0), (43, .getfield 18, 3, 2, 2, 1037), (46, .aload_n 0, 1, 0, 0, 0), (47, .getfield 37, 3, 8, 2, 1045), (50, .iconst 1, 1, 0, 0, 0), (51, .iastore, 1, 0, 0, 0), (52, .aload_n 0, 1, 0, 0, 0), (53, .dup, 1, 0, 0, 0), (54, .getfield 37, 3, 8, 2, 1045), (57, .iconst 1, 1, 0, 0, 0), (58, .iadd, 1, 0, 0, 0), (59, .putfield 37, 3, 8, 2, 1045), (62, .aload_n 0, 1, 0, 0, 0), (63, .invokevirtual 40, 3, 2154, 201, 0), (66, .aload_n 0, 1, 0, 0, 0), (67, .getfield 37, 3, 8, 2, 1045), (70, .iconst 1, 1, 0, 0, 0), (71, .isub, 1, 0, 0, 0), (72, .ireturn, 1, 0, 0, 0)])
set_option maxRecDepth 100000 in
theorem kX2_addRoad : fz_okM mX2_addRoad = true := fz_okM_in (by decide +kernel) (by decide +kernel)
set_option maxRecDepth 100000 in
theorem vX2_addRoad : fz_vM mX2_addRoad 3 false := fz_vI2 2188 1002 2186 2187 fz_pc_6 fz_pd_8 rfl rfl rfl rfl rfl
set_option maxRecDepth 100000 in
def mX2_addTown : fz_M := (yX2_addTown, prog_4_method_4_code, 2, (some .int), [(0, .aload_n 0, 1, 0, 0, 0), (1, .getfield 33, 3, 7, 2, 1043), (4, .bipush 8, 2, 0, 0, 0), (6, .if_icmp .lt 6, 3, 0, 0, 0), (9, .bipush (-3), 2, 0, 0, 0), (11, .ireturn, 1, 0, 0, 0), (12, .aload_n 0, 1, 0, 0, 0), (13, .getfield 11, 3, 0, 2, 1031), (16, .aload_n 0, 1, 0, 0, 0), (17, .getfield 33, 3, 7, 2, 1043), (20, .iload_n 1, 1, 0, 0, 0), (21, .iastore, 1, 0, 0, 0), (22, .aload_n 0, 1, 0, 0, 0), (23, .dup, 1, 0, 0, 0), (24, .getfield 33, 3, 7, 2, 1043), (27, .iconst 1, 1, 0, 0, 0), (28, .iadd, 1, 0, 0, 0), (29, .putfield 33, 3, 7, 2, 1043), (32, .aload_n 0, 1, 0, 0, 0), (33, .invokevirtual 40, 3, 2154, 201, 0), (36, .aload_n 0, 1, 0, 0, 0), (37, .getfield 33, 3, 7, 2, 1043), (40, .iconst 1, 1, 0, 0, 0), (41, .isub, 1, 0, 0, 0), (42, .ireturn, 1, 0, 0, 0)])
set_option maxRecDepth 100000 in
theorem kX2_addTown : fz_okM mX2_addTown = true := fz_okM_in (by decide +kernel) (by decide +kernel)
set_option maxRecDepth 100000 in
theorem vX2_addTown : fz_vM mX2_addTown 1 false := fz_vI2 2153 1002 2151 2152 fz_pc_6 fz_pd_0 rfl rfl rfl rfl rfl
set_option maxRecDepth 100000 in
def mX2_hoursByCarters : fz_M := (yX2_hoursByCarters, prog_4_method_8_code, 4, (some .int), [(0, .aload_n 0, 1, 0, 0, 0), (1, .getfield 30, 3, 6, 2, 1042), (4, .iload_n 1, 1, 0, 0, 0), (5, .bipush 8, 2, 0, 0, 0), (7, .imul, 1, 0, 0, 0), (8, .iload_n 2, 1, 0, 0, 0), (9, .iadd, 1, 0, 0, 0), (10, .iaload, 1, 0, 0, 0), (11, .istore_n 3, 1, 0, 0, 0), (12, .iload_n 3, 1, 0, 0, 0), (13, .ldc 43, 2, 2158, 0, 0), (15, .if_icmp .lt 8, 3, 0, 0, 0), (18, .bipush (-2), 2, 0, 0, 0), (20, .goto 7, 3, 0, 0, 0), (23, .iload_n 3, 1, 0, 0, 0), (24, .bipush 100, 2, 0, 0, 0), (26, .idiv, 1, 0, 0, 0), (27, .ireturn, 1, 0, 0, 0)])
set_option maxRecDepth 100000 in
theorem kX2_hoursByCarters : fz_okM mX2_hoursByCarters = true := fz_okM_in (by decide +kernel) (by decide +kernel)
set_option maxRecDepth 100000 in
theorem vX2_hoursByCarters : fz_vM mX2_hoursByCarters 2 false := fz_vI2 3157 1002 3155 3156 fz_pc_6 fz_pd_11 rfl rfl rfl rfl rfl
set_option maxRecDepth 100000 in
def mX2_hoursByFeet : fz_M := (yX2_hoursByFeet, prog_4_method_7_code, 4, (some .int), [(0, .aload_n 0, 1, 0, 0, 0), (1, .getfield 27, 3, 5, 2, 1041), (4, .iload_n 1, 1, 0, 0, 0), (5, .bipush 8, 2, 0, 0, 0), (7, .imul, 1, 0, 0, 0), (8, .iload_n 2, 1, 0, 0, 0), (9, .iadd, 1, 0, 0, 0), (10, .iaload, 1, 0, 0, 0), (11, .istore_n 3, 1, 0, 0, 0), (12, .iload_n 3, 1, 0, 0, 0), (13, .ldc 43, 2, 2158, 0, 0), (15, .if_icmp .lt 8, 3, 0, 0, 0), (18, .bipush (-2), 2, 0, 0, 0), (20, .goto 7, 3, 0, 0, 0), (23, .iload_n 3, 1, 0, 0, 0), (24, .bipush 100, 2, 0, 0, 0), (26, .idiv, 1, 0, 0, 0), (27, .ireturn, 1, 0, 0, 0)])
set_option maxRecDepth 100000 in
theorem kX2_hoursByFeet : fz_okM mX2_hoursByFeet = true := fz_okM_in (by decide +kernel) (by decide +kernel)
set_option maxRecDepth 100000 in
theorem vX2_hoursByFeet : fz_vM mX2_hoursByFeet 2 false := fz_vI2 3153 1002 3151 3152 fz_pc_6 fz_pd_11 rfl rfl rfl rfl rfl
set_option maxRecDepth 100000 in
def mX2_isCartedTo : fz_M := (yX2_isCartedTo, prog_4_method_10_code, 9, (some .boolean), [(0, .iconst 1, 1, 0, 0, 0), (1, .iload_n 1, 1, 0, 0, 0), (2, .ishl, 1, 0, 0, 0), (3, .istore 4, 2, 0, 0, 0), (5, .iconst 0, 1, 0, 0, 0), (6, .istore 5, 2, 0, 0, 0), (8, .iload 5, 2, 0, 0, 0), (10, .aload_n 0, 1, 0, 0, 0), (11, .getfield 33, 3, 7, 2, 1043), (14, .if_icmp .ge 97, 3, 0, 0, 0), (17, .iload 4, 2, 0, 0, 0), (19, .istore 6, 2, 0, 0, 0), (21, .iconst 0, 1, 0, 0, 0), (22, .istore 7, 2, 0, 0, 0), (24, .iload 7, 2, 0, 0, 0), (26, .aload_n 0, 1, 0, 0, 0), (27, .getfield 37, 3, 8, 2, 1045), (30, .if_icmp .ge 65, 3, 0, 0, 0), (33, .iconst 1, 1, 0, 0, 0), (34, .aload_n 0, 1, 0, 0, 0), (35, .getfield 21, 3, 3, 2, 1039), (38, .iload 7, 2, 0, 0, 0), (40, .iaload, 1, 0, 0, 0), (41, .ishl, 1, 0, 0, 0), (42, .iconst 1, 1, 0, 0, 0), (43, .aload_n 0, 1, 0, 0, 0), (44, .getfield 24, 3, 4, 2, 1040), (47, .iload 7, 2, 0, 0, 0), (49, .iaload, 1, 0, 0, 0), (50, .ishl, 1, 0, 0, 0), (51, .ior, 1, 0, 0, 0), (52, .istore 8, 2, 0, 0, 0), (54, .aload_n 0, 1, 0, 0, 0), (55, .getfield 18, 3, 2, 2, 1037), (58, .iload 7, 2, 0, 0, 0), (60, .iaload, 1, 0, 0, 0), (61, .iconst 1, 1, 0, 0, 0), (62, .if_icmp .ne 27, 3, 0, 0, 0), (65, .iload_n 3, 1, 0, 0, 0), (66, .iload 7, 2, 0, 0, 0), (68, .ishr, 1, 0, 0, 0), (69, .iconst 1, 1, 0, 0, 0), (70, .iand, 1, 0, 0, 0), (71, .ifCond .ne 18, 3, 0, 0, 0), (74, .iload 4, 2, 0, 0, 0), (76, .iload 8, 2, 0, 0, 0), (78, .iand, 1, 0, 0, 0), (79, .ifCond .eq 10, 3, 0, 0, 0), (82, .iload 4, 2, 0, 0, 0), (84, .iload 8, 2, 0, 0, 0), (86, .ior, 1, 0, 0, 0), (87, .istore 4, 2, 0, 0, 0), (89, .iinc 7 1, 3, 0, 0, 0), (92, .goto (-68), 3, 0, 0, 0), (95, .iload 4, 2, 0, 0, 0), (97, .iload 6, 2, 0, 0, 0), (99, .if_icmp .ne 6, 3, 0, 0, 0), (102, .goto 9, 3, 0, 0, 0), (105, .iinc 5 1, 3, 0, 0, 0), (108, .goto (-100), 3, 0, 0, 0), (111, .iload 4, 2, 0, 0, 0), (113, .iload_n 2, 1, 0, 0, 0), (114, .ishr, 1, 0, 0, 0), (115, .iconst 1, 1, 0, 0, 0), (116, .iand, 1, 0, 0, 0), (117, .iconst 1, 1, 0, 0, 0), (118, .if_icmp .ne 7, 3, 0, 0, 0), (121, .iconst 1, 1, 0, 0, 0), (122, .goto 4, 3, 0, 0, 0), (125, .iconst 0, 1, 0, 0, 0), (126, .ireturn, 1, 0, 0, 0)])
set_option maxRecDepth 100000 in
theorem kX2_isCartedTo : fz_okM mX2_isCartedTo = true := fz_okM_in (by decide +kernel) (by decide +kernel)
set_option maxRecDepth 100000 in
theorem vX2_isCartedTo : fz_vM mX2_isCartedTo 3 false := fz_vI2 4073 1002 4071 4072 fz_pc_6 fz_pd_16 rfl rfl rfl rfl rfl
set_option maxRecDepth 100000 in
def mX2_isRoad : fz_M := (yX2_isRoad, prog_4_method_3_code, 2, (some .boolean), [(0, .iload_n 1, 1, 0, 0, 0), (1, .ifCond .lt 15, 3, 0, 0, 0), (4, .iload_n 1, 1, 0, 0, 0), (5, .aload_n 0, 1, 0, 0, 0), (6, .getfield 37, 3, 8, 2, 1045), (9, .if_icmp .ge 7, 3, 0, 0, 0), (12, .iconst 1, 1, 0, 0, 0), (13, .goto 4, 3, 0, 0, 0), (16, .iconst 0, 1, 0, 0, 0), (17, .ireturn, 1, 0, 0, 0)])
set_option maxRecDepth 100000 in
theorem kX2_isRoad : fz_okM mX2_isRoad = true := fz_okM_in (by decide +kernel) (by decide +kernel)
set_option maxRecDepth 100000 in
theorem vX2_isRoad : fz_vM mX2_isRoad 1 false := fz_vI2 3024 1002 3022 3023 fz_pc_6 fz_pd_9 rfl rfl rfl rfl rfl
set_option maxRecDepth 100000 in
def mX2_isTown : fz_M := (yX2_isTown, prog_4_method_2_code, 2, (some .boolean), [(0, .iload_n 1, 1, 0, 0, 0), (1, .ifCond .lt 15, 3, 0, 0, 0), (4, .iload_n 1, 1, 0, 0, 0), (5, .aload_n 0, 1, 0, 0, 0), (6, .getfield 33, 3, 7, 2, 1043), (9, .if_icmp .ge 7, 3, 0, 0, 0), (12, .iconst 1, 1, 0, 0, 0), (13, .goto 4, 3, 0, 0, 0), (16, .iconst 0, 1, 0, 0, 0), (17, .ireturn, 1, 0, 0, 0)])
set_option maxRecDepth 100000 in
theorem kX2_isTown : fz_okM mX2_isTown = true := fz_okM_in (by decide +kernel) (by decide +kernel)
set_option maxRecDepth 100000 in
theorem vX2_isTown : fz_vM mX2_isTown 1 false := fz_vI2 2184 1002 2182 2183 fz_pc_6 fz_pd_9 rfl rfl rfl rfl rfl
set_option maxRecDepth 100000 in
def mX2_join : fz_M := (yX2_join, prog_4_method_13_code, 6, none, [(0, .iconst 0, 1, 0, 0, 0), (1, .istore_n 2, 1, 0, 0, 0), (2, .iload_n 2, 1, 0, 0, 0), (3, .aload_n 0, 1, 0, 0, 0), (4, .getfield 33, 3, 7, 2, 1043), (7, .if_icmp .ge 88, 3, 0, 0, 0), (10, .iconst 0, 1, 0, 0, 0), (11, .istore_n 3, 1, 0, 0, 0), (12, .iload_n 3, 1, 0, 0, 0), (13, .aload_n 0, 1, 0, 0, 0), (14, .getfield 33, 3, 7, 2, 1043), (17, .if_icmp .ge 72, 3, 0, 0, 0), (20, .iconst 0, 1, 0, 0, 0), (21, .istore 4, 2, 0, 0, 0), (23, .iload 4, 2, 0, 0, 0), (25, .aload_n 0, 1, 0, 0, 0), (26, .getfield 33, 3, 7, 2, 1043), (29, .if_icmp .ge 54, 3, 0, 0, 0), (32, .aload_n 1, 1, 0, 0, 0), (33, .iload_n 3, 1, 0, 0, 0), (34, .bipush 8, 2, 0, 0, 0), (36, .imul, 1, 0, 0, 0), (37, .iload_n 2, 1, 0, 0, 0), (38, .iadd, 1, 0, 0, 0), (39, .iaload, 1, 0, 0, 0), (40, .aload_n 1, 1, 0, 0, 0), (41, .iload_n 2, 1, 0, 0, 0), (42, .bipush 8, 2, 0, 0, 0), (44, .imul, 1, 0, 0, 0), (45, .iload 4, 2, 0, 0, 0), (47, .iadd, 1, 0, 0, 0), (48, .iaload, 1, 0, 0, 0), (49, .iadd, 1, 0, 0, 0), (50, .istore 5, 2, 0, 0, 0), (52, .iload 5, 2, 0, 0, 0), (54, .aload_n 1, 1, 0, 0, 0), (55, .iload_n 3, 1, 0, 0, 0), (56, .bipush 8, 2, 0, 0, 0), (58, .imul, 1, 0, 0, 0), (59, .iload 4, 2, 0, 0, 0), (61, .iadd, 1, 0, 0, 0), (62, .iaload, 1, 0, 0, 0), (63, .if_icmp .ge 14, 3, 0, 0, 0), (66, .aload_n 1, 1, 0, 0, 0), (67, .iload_n 3, 1, 0, 0, 0), (68, .bipush 8, 2, 0, 0, 0), (70, .imul, 1, 0, 0, 0), (71, .iload 4, 2, 0, 0, 0), (73, .iadd, 1, 0, 0, 0), (74, .iload 5, 2, 0, 0, 0), (76, .iastore, 1, 0, 0, 0), (77, .iinc 4 1, 3, 0, 0, 0), (80, .goto (-57), 3, 0, 0, 0), (83, .iinc 3 1, 3, 0, 0, 0), (86, .goto (-74), 3, 0, 0, 0), (89, .iinc 2 1, 3, 0, 0, 0), (92, .goto (-90), 3, 0, 0, 0), (95, .return_, 1, 0, 0, 0)])
set_option maxRecDepth 100000 in
theorem kX2_join : fz_okM mX2_join = true := fz_okM_in (by decide +kernel) (by decide +kernel)
set_option maxRecDepth 100000 in
theorem vX2_join : fz_vM mX2_join 1 false := fz_vI2 2172 1002 2171 1 fz_pc_6 fz_pd_28 rfl rfl rfl rfl rfl
set_option maxRecDepth 100000 in
def mX2_measure : fz_M := (yX2_measure, prog_4_method_11_code, 2, none, [(0, .aload_n 0, 1, 0, 0, 0), (1, .getfield 27, 3, 5, 2, 1041), (4, .ldc 43, 2, 2158, 0, 0), (6, .invokestatic 44, 3, 2159, 1, 0), (9, .aload_n 0, 1, 0, 0, 0), (10, .getfield 30, 3, 6, 2, 1042), (13, .ldc 43, 2, 2158, 0, 0), (15, .invokestatic 44, 3, 2159, 1, 0), (18, .iconst 0, 1, 0, 0, 0), (19, .istore_n 1, 1, 0, 0, 0), (20, .iload_n 1, 1, 0, 0, 0), (21, .aload_n 0, 1, 0, 0, 0), (22, .getfield 33, 3, 7, 2, 1043), (25, .if_icmp .ge 33, 3, 0, 0, 0), (28, .aload_n 0, 1, 0, 0, 0), (29, .getfield 27, 3, 5, 2, 1041), (32, .iload_n 1, 1, 0, 0, 0), (33, .bipush 8, 2, 0, 0, 0), (35, .imul, 1, 0, 0, 0), (36, .iload_n 1, 1, 0, 0, 0), (37, .iadd, 1, 0, 0, 0), (38, .iconst 0, 1, 0, 0, 0), (39, .iastore, 1, 0, 0, 0), (40, .aload_n 0, 1, 0, 0, 0), (41, .getfield 30, 3, 6, 2, 1042), (44, .iload_n 1, 1, 0, 0, 0), (45, .bipush 8, 2, 0, 0, 0), (47, .imul, 1, 0, 0, 0), (48, .iload_n 1, 1, 0, 0, 0), (49, .iadd, 1, 0, 0, 0), (50, .iconst 0, 1, 0, 0, 0), (51, .iastore, 1, 0, 0, 0), (52, .iinc 1 1, 3, 0, 0, 0), (55, .goto (-35), 3, 0, 0, 0), (58, .iconst 0, 1, 0, 0, 0), (59, .istore_n 1, 1, 0, 0, 0), (60, .iload_n 1, 1, 0, 0, 0), (61, .aload_n 0, 1, 0, 0, 0), (62, .getfield 37, 3, 8, 2, 1045), (65, .if_icmp .ge 53, 3, 0, 0, 0), (68, .aload_n 0, 1, 0, 0, 0), (69, .aload_n 0, 1, 0, 0, 0), (70, .getfield 27, 3, 5, 2, 1041), (73, .iload_n 1, 1, 0, 0, 0), (74, .aload_n 0, 1, 0, 0, 0), (75, .getfield 15, 3, 1, 2, 1034), (78, .iload_n 1, 1, 0, 0, 0), (79, .iaload, 1, 0, 0, 0), (80, .invokevirtual 50, 3, 2162, 203, 0), (83, .aload_n 0, 1, 0, 0, 0), (84, .getfield 18, 3, 2, 2, 1037), (87, .iload_n 1, 1, 0, 0, 0), (88, .iaload, 1, 0, 0, 0), (89, .iconst 1, 1, 0, 0, 0), (90, .if_icmp .ne 22, 3, 0, 0, 0), (93, .aload_n 0, 1, 0, 0, 0), (94, .aload_n 0, 1, 0, 0, 0), (95, .getfield 30, 3, 6, 2, 1042), (98, .iload_n 1, 1, 0, 0, 0), (99, .aload_n 0, 1, 0, 0, 0), (100, .getfield 15, 3, 1, 2, 1034), (103, .iload_n 1, 1, 0, 0, 0), (104, .iaload, 1, 0, 0, 0), (105, .iconst 1, 1, 0, 0, 0), (106, .iadd, 1, 0, 0, 0), (107, .iconst 2, 1, 0, 0, 0), (108, .idiv, 1, 0, 0, 0), (109, .invokevirtual 50, 3, 2162, 203, 0), (112, .iinc 1 1, 3, 0, 0, 0), (115, .goto (-55), 3, 0, 0, 0), (118, .aload_n 0, 1, 0, 0, 0), (119, .aload_n 0, 1, 0, 0, 0), (120, .getfield 27, 3, 5, 2, 1041), (123, .invokevirtual 54, 3, 2169, 200, 0), (126, .aload_n 0, 1, 0, 0, 0), (127, .aload_n 0, 1, 0, 0, 0), (128, .getfield 30, 3, 6, 2, 1042), (131, .invokevirtual 54, 3, 2169, 200, 0), (134, .return_, 1, 0, 0, 0)])
set_option maxRecDepth 100000 in
theorem kX2_measure : fz_okM mX2_measure = true := fz_okM_in (by decide +kernel) (by decide +kernel)
set_option maxRecDepth 100000 in
theorem vX2_measure : fz_vM mX2_measure 0 false := fz_vI2 2157 1002 2155 2156 fz_pc_6 fz_pd_6 rfl rfl rfl rfl rfl
set_option maxRecDepth 100000 in
def mX2_roadsByCarters : fz_M := (yX2_roadsByCarters, prog_4_method_9_code, 4, (some .int), [(0, .aload_n 0, 1, 0, 0, 0), (1, .getfield 30, 3, 6, 2, 1042), (4, .iload_n 1, 1, 0, 0, 0), (5, .bipush 8, 2, 0, 0, 0), (7, .imul, 1, 0, 0, 0), (8, .iload_n 2, 1, 0, 0, 0), (9, .iadd, 1, 0, 0, 0), (10, .iaload, 1, 0, 0, 0), (11, .istore_n 3, 1, 0, 0, 0), (12, .iload_n 3, 1, 0, 0, 0), (13, .ldc 43, 2, 2158, 0, 0), (15, .if_icmp .lt 8, 3, 0, 0, 0), (18, .bipush (-2), 2, 0, 0, 0), (20, .goto 7, 3, 0, 0, 0), (23, .iload_n 3, 1, 0, 0, 0), (24, .bipush 100, 2, 0, 0, 0), (26, .irem, 1, 0, 0, 0), (27, .ireturn, 1, 0, 0, 0)])
set_option maxRecDepth 100000 in
theorem kX2_roadsByCarters : fz_okM mX2_roadsByCarters = true := fz_okM_in (by decide +kernel) (by decide +kernel)
set_option maxRecDepth 100000 in
theorem vX2_roadsByCarters : fz_vM mX2_roadsByCarters 2 false := fz_vI2 4141 1002 4139 4140 fz_pc_6 fz_pd_11 rfl rfl rfl rfl rfl
set_option maxRecDepth 100000 in
def mX2_shorten : fz_M := (yX2_shorten, prog_4_method_12_code, 7, none, [(0, .aload_n 0, 1, 0, 0, 0), (1, .getfield 21, 3, 3, 2, 1039), (4, .iload_n 2, 1, 0, 0, 0), (5, .iaload, 1, 0, 0, 0), (6, .bipush 8, 2, 0, 0, 0), (8, .imul, 1, 0, 0, 0), (9, .aload_n 0, 1, 0, 0, 0), (10, .getfield 24, 3, 4, 2, 1040), (13, .iload_n 2, 1, 0, 0, 0), (14, .iaload, 1, 0, 0, 0), (15, .iadd, 1, 0, 0, 0), (16, .istore 4, 2, 0, 0, 0), (18, .aload_n 0, 1, 0, 0, 0), (19, .getfield 24, 3, 4, 2, 1040), (22, .iload_n 2, 1, 0, 0, 0), (23, .iaload, 1, 0, 0, 0), (24, .bipush 8, 2, 0, 0, 0), (26, .imul, 1, 0, 0, 0), (27, .aload_n 0, 1, 0, 0, 0), (28, .getfield 21, 3, 3, 2, 1039), (31, .iload_n 2, 1, 0, 0, 0), (32, .iaload, 1, 0, 0, 0), (33, .iadd, 1, 0, 0, 0), (34, .istore 5, 2, 0, 0, 0), (36, .aload_n 1, 1, 0, 0, 0), (37, .iload 4, 2, 0, 0, 0), (39, .iaload, 1, 0, 0, 0), (40, .iload_n 3, 1, 0, 0, 0), (41, .bipush 100, 2, 0, 0, 0), (43, .imul, 1, 0, 0, 0), (44, .iconst 1, 1, 0, 0, 0), (45, .iadd, 1, 0, 0, 0), (46, .invokestatic 58, 3, 2166, 6, 0), (49, .istore 6, 2, 0, 0, 0), (51, .aload_n 1, 1, 0, 0, 0), (52, .iload 4, 2, 0, 0, 0), (54, .iload 6, 2, 0, 0, 0), (56, .iastore, 1, 0, 0, 0), (57, .aload_n 1, 1, 0, 0, 0), (58, .iload 5, 2, 0, 0, 0), (60, .iload 6, 2, 0, 0, 0), (62, .iastore, 1, 0, 0, 0), (63, .return_, 1, 0, 0, 0)])
set_option maxRecDepth 100000 in
theorem kX2_shorten : fz_okM mX2_shorten = true := fz_okM_in (by decide +kernel) (by decide +kernel)
set_option maxRecDepth 100000 in
theorem vX2_shorten : fz_vM mX2_shorten 3 false := fz_vI2 2165 1002 2164 0 fz_pc_6 fz_pd_29 rfl rfl rfl rfl rfl
set_option maxRecDepth 100000 in
def mX3_add : fz_M := (yX3_add, prog_5_method_3_code, 3, (some .int), [(0, .aload_n 0, 1, 0, 0, 0), (1, .getfield 22, 3, 4, 3, 1115), (4, .sipush 128, 3, 0, 0, 0), (7, .if_icmp .lt 5, 3, 0, 0, 0), (10, .iconst (-1), 1, 0, 0, 0), (11, .ireturn, 1, 0, 0, 0), (12, .aload_n 0, 1, 0, 0, 0), (13, .getfield 9, 3, 0, 3, 1111), (16, .aload_n 0, 1, 0, 0, 0), (17, .getfield 22, 3, 4, 3, 1115), (20, .iload_n 1, 1, 0, 0, 0), (21, .iastore, 1, 0, 0, 0), (22, .aload_n 0, 1, 0, 0, 0), (23, .getfield 13, 3, 1, 3, 1112), (26, .aload_n 0, 1, 0, 0, 0), (27, .getfield 22, 3, 4, 3, 1115), (30, .iload_n 2, 1, 0, 0, 0), (31, .iastore, 1, 0, 0, 0), (32, .aload_n 0, 1, 0, 0, 0), (33, .dup, 1, 0, 0, 0), (34, .getfield 22, 3, 4, 3, 1115), (37, .iconst 1, 1, 0, 0, 0), (38, .iadd, 1, 0, 0, 0), (39, .putfield 22, 3, 4, 3, 1115), (42, .aload_n 0, 1, 0, 0, 0), (43, .getfield 22, 3, 4, 3, 1115), (46, .iconst 1, 1, 0, 0, 0), (47, .isub, 1, 0, 0, 0), (48, .ireturn, 1, 0, 0, 0)])
set_option maxRecDepth 100000 in
theorem kX3_add : fz_okM mX3_add = true := fz_okM_in (by decide +kernel) (by decide +kernel)
set_option maxRecDepth 100000 in
theorem vX3_add : fz_vM mX3_add 2 false := fz_vI2 3120 1004 3118 3119 fz_pc_7 fz_pd_11 rfl rfl rfl rfl rfl
set_option maxRecDepth 100000 in
def mX3_become : fz_M := (yX3_become, prog_5_method_5_code, 2, none, [(0, .aload_n 1, 1, 0, 0, 0), (1, .getfield 9, 3, 0, 3, 1111), (4, .iconst 0, 1, 0, 0, 0), (5, .aload_n 0, 1, 0, 0, 0), (6, .getfield 9, 3, 0, 3, 1111), (9, .iconst 0, 1, 0, 0, 0), (10, .sipush 128, 3, 0, 0, 0), (13, .invokestatic 26, 3, 3145, 276, 0), (16, .aload_n 1, 1, 0, 0, 0), (17, .getfield 13, 3, 1, 3, 1112), (20, .iconst 0, 1, 0, 0, 0), (21, .aload_n 0, 1, 0, 0, 0), (22, .getfield 13, 3, 1, 3, 1112), (25, .iconst 0, 1, 0, 0, 0), (26, .sipush 128, 3, 0, 0, 0), (29, .invokestatic 26, 3, 3145, 276, 0), (32, .aload_n 0, 1, 0, 0, 0), (33, .aload_n 1, 1, 0, 0, 0), (34, .getfield 22, 3, 4, 3, 1115), (37, .putfield 22, 3, 4, 3, 1115), (40, .return_, 1, 0, 0, 0)])
set_option maxRecDepth 100000 in
theorem kX3_become : fz_okM mX3_become = true := fz_okM_in (by decide +kernel) (by decide +kernel)
set_option maxRecDepth 100000 in
theorem vX3_become : fz_vM mX3_become 1 false := fz_vI2 3144 1004 3142 3143 fz_pc_7 fz_pd_30 rfl rfl rfl rfl rfl
set_option maxRecDepth 100000 in
def mX3_clear : fz_M := (yX3_clear, prog_5_method_2_code, 1, none, [(0, .aload_n 0, 1, 0, 0, 0), (1, .iconst 0, 1, 0, 0, 0), (2, .putfield 22, 3, 4, 3, 1115), (5, .return_, 1, 0, 0, 0)])
set_option maxRecDepth 100000 in
theorem kX3_clear : fz_okM mX3_clear = true := fz_okM_in (by decide +kernel) (by decide +kernel)
set_option maxRecDepth 100000 in
theorem vX3_clear : fz_vM mX3_clear 0 false := fz_vI2 3077 1004 3075 3076 fz_pc_7 fz_pd_6 rfl rfl rfl rfl rfl
set_option maxRecDepth 100000 in
def mX3_joined : fz_M := (yX3_joined, prog_5_method_8_code, 3, (some .int), [(0, .iload_n 0, 1, 0, 0, 0), (1, .lookupswitch 188 #[(37, 176), (38, 105), (42, 160), (43, 152), (45, 156), (47, 164), (60, 119), (61, 130), (62, 141), (124, 91)], 91, 0, 0, 0), (92, .iload_n 1, 1, 0, 0, 0), (93, .ifCond .ne 7, 3, 0, 0, 0), (96, .iload_n 2, 1, 0, 0, 0), (97, .ifCond .eq 7, 3, 0, 0, 0), (100, .iconst 1, 1, 0, 0, 0), (101, .goto 4, 3, 0, 0, 0), (104, .iconst 0, 1, 0, 0, 0), (105, .ireturn, 1, 0, 0, 0), (106, .iload_n 1, 1, 0, 0, 0), (107, .ifCond .eq 11, 3, 0, 0, 0), (110, .iload_n 2, 1, 0, 0, 0), (111, .ifCond .eq 7, 3, 0, 0, 0), (114, .iconst 1, 1, 0, 0, 0), (115, .goto 4, 3, 0, 0, 0), (118, .iconst 0, 1, 0, 0, 0), (119, .ireturn, 1, 0, 0, 0), (120, .iload_n 1, 1, 0, 0, 0), (121, .iload_n 2, 1, 0, 0, 0), (122, .if_icmp .ge 7, 3, 0, 0, 0), (125, .iconst 1, 1, 0, 0, 0), (126, .goto 4, 3, 0, 0, 0), (129, .iconst 0, 1, 0, 0, 0), (130, .ireturn, 1, 0, 0, 0), (131, .iload_n 1, 1, 0, 0, 0), (132, .iload_n 2, 1, 0, 0, 0), (133, .if_icmp .ne 7, 3, 0, 0, 0), (136, .iconst 1, 1, 0, 0, 0), (137, .goto 4, 3, 0, 0, 0), (140, .iconst 0, 1, 0, 0, 0), (141, .ireturn, 1, 0, 0, 0), (142, .iload_n 1, 1, 0, 0, 0), (143, .iload_n 2, 1, 0, 0, 0), (144, .if_icmp .le 7, 3, 0, 0, 0), (147, .iconst 1, 1, 0, 0, 0), (148, .goto 4, 3, 0, 0, 0), (151, .iconst 0, 1, 0, 0, 0), (152, .ireturn, 1, 0, 0, 0), (153, .iload_n 1, 1, 0, 0, 0), (154, .iload_n 2, 1, 0, 0, 0), (155, .iadd, 1, 0, 0, 0), (156, .ireturn, 1, 0, 0, 0), (157, .iload_n 1, 1, 0, 0, 0), (158, .iload_n 2, 1, 0, 0, 0), (159, .isub, 1, 0, 0, 0), (160, .ireturn, 1, 0, 0, 0), (161, .iload_n 1, 1, 0, 0, 0), (162, .iload_n 2, 1, 0, 0, 0), (163, .imul, 1, 0, 0, 0), (164, .ireturn, 1, 0, 0, 0), (165, .iload_n 2, 1, 0, 0, 0), (166, .ifCond .ne 7, 3, 0, 0, 0), (169, .iconst 0, 1, 0, 0, 0), (170, .goto 6, 3, 0, 0, 0), (173, .iload_n 1, 1, 0, 0, 0), (174, .iload_n 2, 1, 0, 0, 0), (175, .idiv, 1, 0, 0, 0), (176, .ireturn, 1, 0, 0, 0), (177, .iload_n 2, 1, 0, 0, 0), (178, .ifCond .ne 7, 3, 0, 0, 0), (181, .iconst 0, 1, 0, 0, 0), (182, .goto 6, 3, 0, 0, 0), (185, .iload_n 1, 1, 0, 0, 0), (186, .iload_n 2, 1, 0, 0, 0), (187, .irem, 1, 0, 0, 0), (188, .ireturn, 1, 0, 0, 0), (189, .iconst 0, 1, 0, 0, 0), (190, .ireturn, 1, 0, 0, 0)])
set_option maxRecDepth 100000 in
theorem kX3_joined : fz_okM mX3_joined = true := fz_okM_in (by decide +kernel) (by decide +kernel)
set_option maxRecDepth 100000 in
theorem vX3_joined : fz_vM mX3_joined 3 true := fz_vS2 3189 1004 3188 fz_pc_7 fz_pd_8 rfl rfl rfl rfl
set_option maxRecDepth 100000 in
def mX3_leadHere : fz_M := (yX3_leadHere, prog_5_method_4_code, 2, none, [(0, .iload_n 1, 1, 0, 0, 0), (1, .ifCond .lt 21, 3, 0, 0, 0), (4, .iload_n 1, 1, 0, 0, 0), (5, .aload_n 0, 1, 0, 0, 0), (6, .getfield 22, 3, 4, 3, 1115), (9, .if_icmp .ge 13, 3, 0, 0, 0), (12, .aload_n 0, 1, 0, 0, 0), (13, .getfield 13, 3, 1, 3, 1112), (16, .iload_n 1, 1, 0, 0, 0), (17, .aload_n 0, 1, 0, 0, 0), (18, .getfield 22, 3, 4, 3, 1115), (21, .iastore, 1, 0, 0, 0), (22, .return_, 1, 0, 0, 0)])
set_option maxRecDepth 100000 in
theorem kX3_leadHere : fz_okM mX3_leadHere = true := fz_okM_in (by decide +kernel) (by decide +kernel)
set_option maxRecDepth 100000 in
theorem vX3_leadHere : fz_vM mX3_leadHere 1 false := fz_vI2 3136 1004 3134 3135 fz_pc_7 fz_pd_22 rfl rfl rfl rfl rfl
set_option maxRecDepth 100000 in
def mX3_run : fz_M := (yX3_run, prog_5_method_7_code, 7, (some .int), [(0, .iconst 0, 1, 0, 0, 0), (1, .istore_n 1, 1, 0, 0, 0), (2, .iconst 0, 1, 0, 0, 0), (3, .istore_n 2, 1, 0, 0, 0), (4, .iconst 0, 1, 0, 0, 0), (5, .istore_n 3, 1, 0, 0, 0), (6, .iload_n 3, 1, 0, 0, 0), (7, .aload_n 0, 1, 0, 0, 0), (8, .getfield 22, 3, 4, 3, 1115), (11, .if_icmp .ge 242, 3, 0, 0, 0), (14, .iload_n 3, 1, 0, 0, 0), (15, .iload_n 2, 1, 0, 0, 0), (16, .if_icmp .ge 6, 3, 0, 0, 0), (19, .goto 228, 3, 0, 0, 0), (22, .aload_n 0, 1, 0, 0, 0), (23, .getfield 9, 3, 0, 3, 1111), (26, .iload_n 3, 1, 0, 0, 0), (27, .iaload, 1, 0, 0, 0), (28, .istore 4, 2, 0, 0, 0), (30, .aload_n 0, 1, 0, 0, 0), (31, .getfield 13, 3, 1, 3, 1112), (34, .iload_n 3, 1, 0, 0, 0), (35, .iaload, 1, 0, 0, 0), (36, .istore 5, 2, 0, 0, 0), (38, .iload 4, 2, 0, 0, 0), (40, .bipush 35, 2, 0, 0, 0), (42, .if_icmp .eq 10, 3, 0, 0, 0), (45, .iload 4, 2, 0, 0, 0), (47, .bipush 64, 2, 0, 0, 0), (49, .if_icmp .ne 65, 3, 0, 0, 0), (52, .iload_n 1, 1, 0, 0, 0), (53, .sipush 128, 3, 0, 0, 0), (56, .if_icmp .ge 25, 3, 0, 0, 0), (59, .iload 4, 2, 0, 0, 0), (61, .bipush 64, 2, 0, 0, 0), (63, .if_icmp .ne 20, 3, 0, 0, 0), (66, .iload 5, 2, 0, 0, 0), (68, .ifCond .lt 13, 3, 0, 0, 0), (71, .iload 5, 2, 0, 0, 0), (73, .aload_n 0, 1, 0, 0, 0), (74, .getfield 19, 3, 3, 3, 1114), (77, .arraylength, 1, 0, 0, 0), (78, .if_icmp .lt 5, 3, 0, 0, 0), (81, .iconst 0, 1, 0, 0, 0), (82, .ireturn, 1, 0, 0, 0), (83, .aload_n 0, 1, 0, 0, 0), (84, .getfield 16, 3, 2, 3, 1113), (87, .iload_n 1, 1, 0, 0, 0), (88, .iload 4, 2, 0, 0, 0), (90, .bipush 35, 2, 0, 0, 0), (92, .if_icmp .ne 8, 3, 0, 0, 0), (95, .iload 5, 2, 0, 0, 0), (97, .goto 10, 3, 0, 0, 0), (100, .aload_n 0, 1, 0, 0, 0), (101, .getfield 19, 3, 3, 3, 1114), (104, .iload 5, 2, 0, 0, 0), (106, .iaload, 1, 0, 0, 0), (107, .iastore, 1, 0, 0, 0), (108, .iinc 1 1, 3, 0, 0, 0), (111, .goto 136, 3, 0, 0, 0), (114, .iload_n 1, 1, 0, 0, 0), (115, .iconst 1, 1, 0, 0, 0), (116, .if_icmp .ge 5, 3, 0, 0, 0), (119, .iconst 0, 1, 0, 0, 0), (120, .ireturn, 1, 0, 0, 0), (121, .aload_n 0, 1, 0, 0, 0), (122, .getfield 16, 3, 2, 3, 1113), (125, .iload_n 1, 1, 0, 0, 0), (126, .iconst 1, 1, 0, 0, 0), (127, .isub, 1, 0, 0, 0), (128, .iaload, 1, 0, 0, 0), (129, .istore 6, 2, 0, 0, 0), (131, .iload 4, 2, 0, 0, 0), (133, .bipush 59, 2, 0, 0, 0), (135, .if_icmp .ne 6, 3, 0, 0, 0), (138, .iload 6, 2, 0, 0, 0), (140, .ireturn, 1, 0, 0, 0), (141, .iload 4, 2, 0, 0, 0), (143, .bipush 63, 2, 0, 0, 0), (145, .if_icmp .ne 21, 3, 0, 0, 0), (148, .iinc 1 (-1), 3, 0, 0, 0), (151, .iload 6, 2, 0, 0, 0), (153, .ifCond .ne 8, 3, 0, 0, 0), (156, .iload 5, 2, 0, 0, 0), (158, .goto 4, 3, 0, 0, 0), (161, .iconst 0, 1, 0, 0, 0), (162, .istore_n 2, 1, 0, 0, 0), (163, .goto 84, 3, 0, 0, 0), (166, .iload 4, 2, 0, 0, 0), (168, .bipush 33, 2, 0, 0, 0), (170, .if_icmp .eq 10, 3, 0, 0, 0), (173, .iload 4, 2, 0, 0, 0), (175, .bipush 126, 2, 0, 0, 0), (177, .if_icmp .ne 37, 3, 0, 0, 0), (180, .aload_n 0, 1, 0, 0, 0), (181, .getfield 16, 3, 2, 3, 1113), (184, .iload_n 1, 1, 0, 0, 0), (185, .iconst 1, 1, 0, 0, 0), (186, .isub, 1, 0, 0, 0), (187, .iload 4, 2, 0, 0, 0), (189, .bipush 126, 2, 0, 0, 0), (191, .if_icmp .ne 9, 3, 0, 0, 0), (194, .iload 6, 2, 0, 0, 0), (196, .ineg, 1, 0, 0, 0), (197, .goto 13, 3, 0, 0, 0), (200, .iload 6, 2, 0, 0, 0), (202, .ifCond .ne 7, 3, 0, 0, 0), (205, .iconst 1, 1, 0, 0, 0), (206, .goto 4, 3, 0, 0, 0), (209, .iconst 0, 1, 0, 0, 0), (210, .iastore, 1, 0, 0, 0), (211, .goto 36, 3, 0, 0, 0), (214, .iload_n 1, 1, 0, 0, 0), (215, .iconst 2, 1, 0, 0, 0), (216, .if_icmp .ge 5, 3, 0, 0, 0), (219, .iconst 0, 1, 0, 0, 0), (220, .ireturn, 1, 0, 0, 0), (221, .iinc 1 (-1), 3, 0, 0, 0), (224, .aload_n 0, 1, 0, 0, 0), (225, .getfield 16, 3, 2, 3, 1113), (228, .iload_n 1, 1, 0, 0, 0), (229, .iconst 1, 1, 0, 0, 0), (230, .isub, 1, 0, 0, 0), (231, .iload 4, 2, 0, 0, 0), (233, .aload_n 0, 1, 0, 0, 0), (234, .getfield 16, 3, 2, 3, 1113), (237, .iload_n 1, 1, 0, 0, 0), (238, .iconst 1, 1, 0, 0, 0), (239, .isub, 1, 0, 0, 0), (240, .iaload, 1, 0, 0, 0), (241, .iload 6, 2, 0, 0, 0), (243, .invokestatic 45, 3, 3187, 208, 0), (246, .iastore, 1, 0, 0, 0), (247, .iinc 3 1, 3, 0, 0, 0), (250, .goto (-244), 3, 0, 0, 0), (253, .iconst 0, 1, 0, 0, 0), (254, .ireturn, 1, 0, 0, 0)])
set_option maxRecDepth 100000 in
theorem kX3_run : fz_okM mX3_run = true := fz_okM_in (by decide +kernel) (by decide +kernel)
set_option maxRecDepth 100000 in
theorem vX3_run : fz_vM mX3_run 0 false := fz_vI2 3186 1004 3185 27 fz_pc_7 fz_pd_7 rfl rfl rfl rfl rfl
set_option maxRecDepth 100000 in
def mX3_volume : fz_M := (yX3_volume, prog_5_method_6_code, 7, (some .int), [(0, .aload_n 0, 1, 0, 0, 0), (1, .getfield 22, 3, 4, 3, 1115), (4, .ifCond .ne 20, 3, 0, 0, 0), (7, .iconst 0, 1, 0, 0, 0), (8, .iconst 4, 1, 0, 0, 0), (9, .iload_n 1, 1, 0, 0, 0), (10, .imul, 1, 0, 0, 0), (11, .iload_n 2, 1, 0, 0, 0), (12, .bipush 8, 2, 0, 0, 0), (14, .idiv, 1, 0, 0, 0), (15, .isub, 1, 0, 0, 0), (16, .iload_n 3, 1, 0, 0, 0), (17, .iconst 4, 1, 0, 0, 0), (18, .idiv, 1, 0, 0, 0), (19, .isub, 1, 0, 0, 0), (20, .invokestatic 32, 3, 3180, 5, 0), (23, .ireturn, 1, 0, 0, 0), (24, .aload_n 0, 1, 0, 0, 0), (25, .getfield 19, 3, 3, 3, 1114), (28, .iconst 0, 1, 0, 0, 0), (29, .iload_n 1, 1, 0, 0, 0), (30, .iastore, 1, 0, 0, 0), (31, .aload_n 0, 1, 0, 0, 0), (32, .getfield 19, 3, 3, 3, 1114), (35, .iconst 1, 1, 0, 0, 0), (36, .iload_n 2, 1, 0, 0, 0), (37, .iastore, 1, 0, 0, 0), (38, .aload_n 0, 1, 0, 0, 0), (39, .getfield 19, 3, 3, 3, 1114), (42, .iconst 2, 1, 0, 0, 0), (43, .iload_n 3, 1, 0, 0, 0), (44, .iastore, 1, 0, 0, 0), (45, .aload_n 0, 1, 0, 0, 0), (46, .getfield 19, 3, 3, 3, 1114), (49, .iconst 3, 1, 0, 0, 0), (50, .iload 4, 2, 0, 0, 0), (52, .iastore, 1, 0, 0, 0), (53, .aload_n 0, 1, 0, 0, 0), (54, .getfield 19, 3, 3, 3, 1114), (57, .iconst 4, 1, 0, 0, 0), (58, .iload 5, 2, 0, 0, 0), (60, .iastore, 1, 0, 0, 0), (61, .aload_n 0, 1, 0, 0, 0), (62, .getfield 19, 3, 3, 3, 1114), (65, .iconst 5, 1, 0, 0, 0), (66, .iload 6, 2, 0, 0, 0), (68, .iastore, 1, 0, 0, 0), (69, .iconst 0, 1, 0, 0, 0), (70, .bipush 99, 2, 0, 0, 0), (72, .aload_n 0, 1, 0, 0, 0), (73, .invokevirtual 38, 3, 3183, 210, 0), (76, .invokestatic 42, 3, 3190, 6, 0), (79, .invokestatic 32, 3, 3180, 5, 0), (82, .ireturn, 1, 0, 0, 0)])
set_option maxRecDepth 100000 in
theorem kX3_volume : fz_okM mX3_volume = true := fz_okM_in (by decide +kernel) (by decide +kernel)
set_option maxRecDepth 100000 in
theorem vX3_volume : fz_vM mX3_volume 6 false := fz_vI2 3179 1004 3177 3178 fz_pc_7 fz_pd_31 rfl rfl rfl rfl rfl
set_option maxRecDepth 100000 in
def mX4_enter : fz_M := (yX4_enter, prog_6_method_3_code, 6, (some .int), [(0, .aload_n 0, 1, 0, 0, 0), (1, .getfield 27, 3, 5, 4, 1089), (4, .bipush 10, 2, 0, 0, 0), (6, .if_icmp .lt 6, 3, 0, 0, 0), (9, .bipush (-3), 2, 0, 0, 0), (11, .ireturn, 1, 0, 0, 0), (12, .aload_n 0, 1, 0, 0, 0), (13, .aload_n 0, 1, 0, 0, 0), (14, .getfield 27, 3, 5, 4, 1089), (17, .iload_n 1, 1, 0, 0, 0), (18, .bipush 10, 2, 0, 0, 0), (20, .imul, 1, 0, 0, 0), (21, .iload 4, 2, 0, 0, 0), (23, .iadd, 1, 0, 0, 0), (24, .iload_n 2, 1, 0, 0, 0), (25, .iload_n 3, 1, 0, 0, 0), (26, .iload 5, 2, 0, 0, 0), (28, .invokevirtual 31, 3, 2213, 216, 0), (31, .aload_n 0, 1, 0, 0, 0), (32, .dup, 1, 0, 0, 0), (33, .getfield 27, 3, 5, 4, 1089), (36, .iconst 1, 1, 0, 0, 0), (37, .iadd, 1, 0, 0, 0), (38, .putfield 27, 3, 5, 4, 1089), (41, .aload_n 0, 1, 0, 0, 0), (42, .getfield 27, 3, 5, 4, 1089), (45, .iconst 1, 1, 0, 0, 0), (46, .isub, 1, 0, 0, 0), (47, .ireturn, 1, 0, 0, 0)])
set_option maxRecDepth 100000 in
theorem kX4_enter : fz_okM mX4_enter = true := fz_okM_in (by decide +kernel) (by decide +kernel)
set_option maxRecDepth 100000 in
theorem vX4_enter : fz_vM mX4_enter 5 false := fz_vI2 2212 1003 2210 2211 fz_pc_8 fz_pd_18 rfl rfl rfl rfl rfl
set_option maxRecDepth 100000 in
def mX4_imagine : fz_M := (yX4_imagine, prog_6_method_4_code, 5, none, [(0, .aload_n 0, 1, 0, 0, 0), (1, .bipush 10, 2, 0, 0, 0), (3, .iload_n 1, 1, 0, 0, 0), (4, .iload_n 2, 1, 0, 0, 0), (5, .iload_n 3, 1, 0, 0, 0), (6, .iload 4, 2, 0, 0, 0), (8, .invokevirtual 31, 3, 2213, 216, 0), (11, .return_, 1, 0, 0, 0)])
set_option maxRecDepth 100000 in
theorem kX4_imagine : fz_okM mX4_imagine = true := fz_okM_in (by decide +kernel) (by decide +kernel)
set_option maxRecDepth 100000 in
theorem vX4_imagine : fz_vM mX4_imagine 4 false := fz_vI2 4055 1003 4053 4054 fz_pc_8 fz_pd_5 rfl rfl rfl rfl rfl
set_option maxRecDepth 100000 in
def mX4_isDeed : fz_M := (yX4_isDeed, prog_6_method_2_code, 2, (some .boolean), [(0, .iload_n 1, 1, 0, 0, 0), (1, .ifCond .lt 15, 3, 0, 0, 0), (4, .iload_n 1, 1, 0, 0, 0), (5, .aload_n 0, 1, 0, 0, 0), (6, .getfield 27, 3, 5, 4, 1089), (9, .if_icmp .ge 7, 3, 0, 0, 0), (12, .iconst 1, 1, 0, 0, 0), (13, .goto 4, 3, 0, 0, 0), (16, .iconst 0, 1, 0, 0, 0), (17, .ireturn, 1, 0, 0, 0)])
set_option maxRecDepth 100000 in
theorem kX4_isDeed : fz_okM mX4_isDeed = true := fz_okM_in (by decide +kernel) (by decide +kernel)
set_option maxRecDepth 100000 in
theorem vX4_isDeed : fz_vM mX4_isDeed 1 false := fz_vI2 3028 1003 3026 3027 fz_pc_8 fz_pd_9 rfl rfl rfl rfl rfl
set_option maxRecDepth 100000 in
def mX4_write : fz_M := (yX4_write, prog_6_method_5_code, 6, none, [(0, .aload_n 0, 1, 0, 0, 0), (1, .getfield 11, 3, 0, 4, 1074), (4, .iload_n 1, 1, 0, 0, 0), (5, .iload_n 2, 1, 0, 0, 0), (6, .bipush 10, 2, 0, 0, 0), (8, .idiv, 1, 0, 0, 0), (9, .iastore, 1, 0, 0, 0), (10, .aload_n 0, 1, 0, 0, 0), (11, .getfield 21, 3, 3, 4, 1083), (14, .iload_n 1, 1, 0, 0, 0), (15, .iload_n 2, 1, 0, 0, 0), (16, .bipush 10, 2, 0, 0, 0), (18, .irem, 1, 0, 0, 0), (19, .iastore, 1, 0, 0, 0), (20, .aload_n 0, 1, 0, 0, 0), (21, .getfield 15, 3, 1, 4, 1077), (24, .iload_n 1, 1, 0, 0, 0), (25, .iload_n 3, 1, 0, 0, 0), (26, .iastore, 1, 0, 0, 0), (27, .aload_n 0, 1, 0, 0, 0), (28, .getfield 18, 3, 2, 4, 1080), (31, .iload_n 1, 1, 0, 0, 0), (32, .iload 4, 2, 0, 0, 0), (34, .iastore, 1, 0, 0, 0), (35, .aload_n 0, 1, 0, 0, 0), (36, .getfield 24, 3, 4, 4, 1086), (39, .iload_n 1, 1, 0, 0, 0), (40, .iload 5, 2, 0, 0, 0), (42, .iastore, 1, 0, 0, 0), (43, .return_, 1, 0, 0, 0)])
set_option maxRecDepth 100000 in
theorem kX4_write : fz_okM mX4_write = true := fz_okM_in (by decide +kernel) (by decide +kernel)
set_option maxRecDepth 100000 in
theorem vX4_write : fz_vM mX4_write 5 false := fz_vI2 2216 1003 2215 7 fz_pc_8 fz_pd_27 rfl rfl rfl rfl rfl
set_option maxRecDepth 100000 in
def mX5_clear : fz_M := (yX5_clear, prog_7_method_3_code, 1, none, [(0, .aload_n 0, 1, 0, 0, 0), (1, .iconst 0, 1, 0, 0, 0), (2, .putfield 22, 3, 2, 5, 1138), (5, .return_, 1, 0, 0, 0)])
set_option maxRecDepth 100000 in
theorem kX5_clear : fz_okM mX5_clear = true := fz_okM_in (by decide +kernel) (by decide +kernel)
set_option maxRecDepth 100000 in
theorem vX5_clear : fz_vM mX5_clear 0 false := fz_vI2 3140 1005 3138 3139 fz_pc_9 fz_pd_6 rfl rfl rfl rfl rfl
set_option maxRecDepth 100000 in
def mX5_goesOnWith : fz_M := (yX5_goesOnWith, prog_7_method_14_code, 3, (some .boolean), [(0, .aload_n 0, 1, 0, 0, 0), (1, .invokevirtual 73, 3, 3106, 220, 0), (4, .iload_n 1, 1, 0, 0, 0), (5, .if_icmp .ne 7, 3, 0, 0, 0), (8, .iconst 1, 1, 0, 0, 0), (9, .goto 4, 3, 0, 0, 0), (12, .iconst 0, 1, 0, 0, 0), (13, .istore_n 2, 1, 0, 0, 0), (14, .iload_n 2, 1, 0, 0, 0), (15, .ifCond .eq 13, 3, 0, 0, 0), (18, .aload_n 0, 1, 0, 0, 0), (19, .dup, 1, 0, 0, 0), (20, .getfield 26, 3, 3, 5, 1140), (23, .iconst 1, 1, 0, 0, 0), (24, .iadd, 1, 0, 0, 0), (25, .putfield 26, 3, 3, 5, 1140), (28, .iload_n 2, 1, 0, 0, 0), (29, .ireturn, 1, 0, 0, 0)])
set_option maxRecDepth 100000 in
theorem kX5_goesOnWith : fz_okM mX5_goesOnWith = true := fz_okM_in (by decide +kernel) (by decide +kernel)
set_option maxRecDepth 100000 in
theorem vX5_goesOnWith : fz_vM mX5_goesOnWith 1 false := fz_vI2 3124 1005 3123 24 fz_pc_9 fz_pd_9 rfl rfl rfl rfl rfl
set_option maxRecDepth 100000 in
def mX5_letterHere : fz_M := (yX5_letterHere, prog_7_method_13_code, 1, (some .int), [(0, .aload_n 0, 1, 0, 0, 0), (1, .getfield 29, 3, 4, 5, 1141), (4, .ifCond .ne 26, 3, 0, 0, 0), (7, .aload_n 0, 1, 0, 0, 0), (8, .getfield 26, 3, 3, 5, 1140), (11, .aload_n 0, 1, 0, 0, 0), (12, .getfield 22, 3, 2, 5, 1138), (15, .if_icmp .ge 15, 3, 0, 0, 0), (18, .aload_n 0, 1, 0, 0, 0), (19, .getfield 18, 3, 1, 5, 1137), (22, .aload_n 0, 1, 0, 0, 0), (23, .getfield 26, 3, 3, 5, 1140), (26, .iaload, 1, 0, 0, 0), (27, .goto 4, 3, 0, 0, 0), (30, .iconst (-1), 1, 0, 0, 0), (31, .ireturn, 1, 0, 0, 0)])
set_option maxRecDepth 100000 in
theorem kX5_letterHere : fz_okM mX5_letterHere = true := fz_okM_in (by decide +kernel) (by decide +kernel)
set_option maxRecDepth 100000 in
theorem vX5_letterHere : fz_vM mX5_letterHere 0 false := fz_vI2 3109 1005 3108 22 fz_pc_9 fz_pd_7 rfl rfl rfl rfl rfl
set_option maxRecDepth 100000 in
def mX5_nameOf : fz_M := (yX5_nameOf, prog_7_method_17_code, 1, (some .int), [(0, .iload_n 0, 1, 0, 0, 0), (1, .lookupswitch 71 #[(97, 61), (100, 63), (109, 65), (112, 69), (116, 67), (119, 59)], 59, 0, 0, 0), (60, .iconst 0, 1, 0, 0, 0), (61, .ireturn, 1, 0, 0, 0), (62, .iconst 1, 1, 0, 0, 0), (63, .ireturn, 1, 0, 0, 0), (64, .iconst 2, 1, 0, 0, 0), (65, .ireturn, 1, 0, 0, 0), (66, .iconst 3, 1, 0, 0, 0), (67, .ireturn, 1, 0, 0, 0), (68, .iconst 4, 1, 0, 0, 0), (69, .ireturn, 1, 0, 0, 0), (70, .iconst 5, 1, 0, 0, 0), (71, .ireturn, 1, 0, 0, 0), (72, .iconst (-1), 1, 0, 0, 0), (73, .ireturn, 1, 0, 0, 0)])
set_option maxRecDepth 100000 in
theorem kX5_nameOf : fz_okM mX5_nameOf = true := fz_okM_in (by decide +kernel) (by decide +kernel)
set_option maxRecDepth 100000 in
theorem vX5_nameOf : fz_vM mX5_nameOf 1 true := fz_vS2 3112 1005 3111 fz_pc_9 fz_pd_0 rfl rfl rfl rfl
set_option maxRecDepth 100000 in
def mX5_nextOf : fz_M := (yX5_nextOf, prog_7_method_15_code, 5, (some .int), [(0, .aload_n 0, 1, 0, 0, 0), (1, .invokevirtual 73, 3, 3106, 220, 0), (4, .istore 4, 2, 0, 0, 0), (6, .iload 4, 2, 0, 0, 0), (8, .iload_n 1, 1, 0, 0, 0), (9, .if_icmp .eq 15, 3, 0, 0, 0), (12, .iload 4, 2, 0, 0, 0), (14, .iload_n 2, 1, 0, 0, 0), (15, .if_icmp .eq 9, 3, 0, 0, 0), (18, .iload 4, 2, 0, 0, 0), (20, .iload_n 3, 1, 0, 0, 0), (21, .if_icmp .ne 12, 3, 0, 0, 0), (24, .aload_n 0, 1, 0, 0, 0), (25, .iload 4, 2, 0, 0, 0), (27, .invokevirtual 84, 3, 3129, 223, 0), (30, .goto 4, 3, 0, 0, 0), (33, .iconst 0, 1, 0, 0, 0), (34, .ireturn, 1, 0, 0, 0)])
set_option maxRecDepth 100000 in
theorem kX5_nextOf : fz_okM mX5_nextOf = true := fz_okM_in (by decide +kernel) (by decide +kernel)
set_option maxRecDepth 100000 in
theorem vX5_nextOf : fz_vM mX5_nextOf 3 false := fz_vI2 3128 1005 3127 25 fz_pc_9 fz_pd_8 rfl rfl rfl rfl rfl
set_option maxRecDepth 100000 in
def mX5_passed : fz_M := (yX5_passed, prog_7_method_16_code, 2, (some .int), [(0, .iload_n 1, 1, 0, 0, 0), (1, .ifCond .lt 13, 3, 0, 0, 0), (4, .aload_n 0, 1, 0, 0, 0), (5, .dup, 1, 0, 0, 0), (6, .getfield 26, 3, 3, 5, 1140), (9, .iconst 1, 1, 0, 0, 0), (10, .iadd, 1, 0, 0, 0), (11, .putfield 26, 3, 3, 5, 1140), (14, .iload_n 1, 1, 0, 0, 0), (15, .ireturn, 1, 0, 0, 0)])
set_option maxRecDepth 100000 in
theorem kX5_passed : fz_okM mX5_passed = true := fz_okM_in (by decide +kernel) (by decide +kernel)
set_option maxRecDepth 100000 in
theorem vX5_passed : fz_vM mX5_passed 1 false := fz_vI2 3132 1005 3131 26 fz_pc_9 fz_pd_0 rfl rfl rfl rfl rfl
set_option maxRecDepth 100000 in
def mX5_readA : fz_M := (yX5_readA, prog_7_method_7_code, 3, none, [(0, .aload_n 0, 1, 0, 0, 0), (1, .iload_n 1, 1, 0, 0, 0), (2, .invokevirtual 57, 3, 3090, 225, 0), (5, .iconst 0, 1, 0, 0, 0), (6, .istore_n 2, 1, 0, 0, 0), (7, .iload_n 2, 1, 0, 0, 0), (8, .bipush 120, 2, 0, 0, 0), (10, .if_icmp .ge 34, 3, 0, 0, 0), (13, .aload_n 0, 1, 0, 0, 0), (14, .bipush 38, 2, 0, 0, 0), (16, .invokevirtual 39, 3, 3121, 218, 0), (19, .ifCond .eq 25, 3, 0, 0, 0), (22, .aload_n 0, 1, 0, 0, 0), (23, .iload_n 1, 1, 0, 0, 0), (24, .invokevirtual 57, 3, 3090, 225, 0), (27, .aload_n 0, 1, 0, 0, 0), (28, .getfield 12, 3, 0, 5, 1135), (31, .bipush 38, 2, 0, 0, 0), (33, .iconst 0, 1, 0, 0, 0), (34, .invokevirtual 47, 3, 3117, 204, 0), (37, .pop, 1, 0, 0, 0), (38, .iinc 2 1, 3, 0, 0, 0), (41, .goto (-34), 3, 0, 0, 0), (44, .return_, 1, 0, 0, 0)])
set_option maxRecDepth 100000 in
theorem kX5_readA : fz_okM mX5_readA = true := fz_okM_in (by decide +kernel) (by decide +kernel)
set_option maxRecDepth 100000 in
theorem vX5_readA : fz_vM mX5_readA 1 false := fz_vI2 3089 1005 3088 17 fz_pc_9 fz_pd_22 rfl rfl rfl rfl rfl
set_option maxRecDepth 100000 in
def mX5_readB : fz_M := (yX5_readB, prog_7_method_8_code, 3, none, [(0, .aload_n 0, 1, 0, 0, 0), (1, .iload_n 1, 1, 0, 0, 0), (2, .invokevirtual 60, 3, 3094, 231, 0), (5, .aload_n 0, 1, 0, 0, 0), (6, .bipush 60, 2, 0, 0, 0), (8, .bipush 61, 2, 0, 0, 0), (10, .bipush 62, 2, 0, 0, 0), (12, .invokevirtual 63, 3, 3125, 222, 0), (15, .istore_n 2, 1, 0, 0, 0), (16, .iload_n 2, 1, 0, 0, 0), (17, .ifCond .eq 18, 3, 0, 0, 0), (20, .aload_n 0, 1, 0, 0, 0), (21, .iload_n 1, 1, 0, 0, 0), (22, .invokevirtual 60, 3, 3094, 231, 0), (25, .aload_n 0, 1, 0, 0, 0), (26, .getfield 12, 3, 0, 5, 1135), (29, .iload_n 2, 1, 0, 0, 0), (30, .iconst 0, 1, 0, 0, 0), (31, .invokevirtual 47, 3, 3117, 204, 0), (34, .pop, 1, 0, 0, 0), (35, .return_, 1, 0, 0, 0)])
set_option maxRecDepth 100000 in
theorem kX5_readB : fz_okM mX5_readB = true := fz_okM_in (by decide +kernel) (by decide +kernel)
set_option maxRecDepth 100000 in
theorem vX5_readB : fz_vM mX5_readB 1 false := fz_vI2 3093 1005 3092 18 fz_pc_9 fz_pd_22 rfl rfl rfl rfl rfl
set_option maxRecDepth 100000 in
def mX5_readE : fz_M := (yX5_readE, prog_7_method_6_code, 3, none, [(0, .aload_n 0, 1, 0, 0, 0), (1, .iload_n 1, 1, 0, 0, 0), (2, .invokevirtual 54, 3, 3086, 224, 0), (5, .iconst 0, 1, 0, 0, 0), (6, .istore_n 2, 1, 0, 0, 0), (7, .iload_n 2, 1, 0, 0, 0), (8, .bipush 120, 2, 0, 0, 0), (10, .if_icmp .ge 34, 3, 0, 0, 0), (13, .aload_n 0, 1, 0, 0, 0), (14, .bipush 124, 2, 0, 0, 0), (16, .invokevirtual 39, 3, 3121, 218, 0), (19, .ifCond .eq 25, 3, 0, 0, 0), (22, .aload_n 0, 1, 0, 0, 0), (23, .iload_n 1, 1, 0, 0, 0), (24, .invokevirtual 54, 3, 3086, 224, 0), (27, .aload_n 0, 1, 0, 0, 0), (28, .getfield 12, 3, 0, 5, 1135), (31, .bipush 124, 2, 0, 0, 0), (33, .iconst 0, 1, 0, 0, 0), (34, .invokevirtual 47, 3, 3117, 204, 0), (37, .pop, 1, 0, 0, 0), (38, .iinc 2 1, 3, 0, 0, 0), (41, .goto (-34), 3, 0, 0, 0), (44, .return_, 1, 0, 0, 0)])
set_option maxRecDepth 100000 in
theorem kX5_readE : fz_okM mX5_readE = true := fz_okM_in (by decide +kernel) (by decide +kernel)
set_option maxRecDepth 100000 in
theorem vX5_readE : fz_vM mX5_readE 1 false := fz_vI2 3085 1005 3084 16 fz_pc_9 fz_pd_22 rfl rfl rfl rfl rfl
set_option maxRecDepth 100000 in
def mX5_readLine : fz_M := (yX5_readLine, prog_7_method_5_code, 2, none, [(0, .aload_n 0, 1, 0, 0, 0), (1, .iconst 0, 1, 0, 0, 0), (2, .invokevirtual 43, 3, 3082, 226, 0), (5, .iconst (-1), 1, 0, 0, 0), (6, .istore_n 1, 1, 0, 0, 0), (7, .aload_n 0, 1, 0, 0, 0), (8, .bipush 63, 2, 0, 0, 0), (10, .invokevirtual 39, 3, 3121, 218, 0), (13, .ifCond .eq 19, 3, 0, 0, 0), (16, .aload_n 0, 1, 0, 0, 0), (17, .getfield 12, 3, 0, 5, 1135), (20, .bipush 63, 2, 0, 0, 0), (22, .iconst 0, 1, 0, 0, 0), (23, .invokevirtual 47, 3, 3117, 204, 0), (26, .istore_n 1, 1, 0, 0, 0), (27, .aload_n 0, 1, 0, 0, 0), (28, .iconst 0, 1, 0, 0, 0), (29, .invokevirtual 43, 3, 3082, 226, 0), (32, .aload_n 0, 1, 0, 0, 0), (33, .getfield 12, 3, 0, 5, 1135), (36, .bipush 59, 2, 0, 0, 0), (38, .iconst 0, 1, 0, 0, 0), (39, .invokevirtual 47, 3, 3117, 204, 0), (42, .pop, 1, 0, 0, 0), (43, .aload_n 0, 1, 0, 0, 0), (44, .getfield 12, 3, 0, 5, 1135), (47, .iload_n 1, 1, 0, 0, 0), (48, .invokevirtual 51, 3, 3133, 209, 0), (51, .return_, 1, 0, 0, 0)])
set_option maxRecDepth 100000 in
theorem kX5_readLine : fz_okM mX5_readLine = true := fz_okM_in (by decide +kernel) (by decide +kernel)
set_option maxRecDepth 100000 in
theorem vX5_readLine : fz_vM mX5_readLine 0 false := fz_vI2 3081 1005 3080 15 fz_pc_9 fz_pd_6 rfl rfl rfl rfl rfl
set_option maxRecDepth 100000 in
def mX5_readNumber : fz_M := (yX5_readNumber, prog_7_method_12_code, 3, none, [(0, .iconst 0, 1, 0, 0, 0), (1, .istore_n 1, 1, 0, 0, 0), (2, .iconst 0, 1, 0, 0, 0), (3, .istore_n 2, 1, 0, 0, 0), (4, .iload_n 2, 1, 0, 0, 0), (5, .iconst 4, 1, 0, 0, 0), (6, .if_icmp .ge 50, 3, 0, 0, 0), (9, .aload_n 0, 1, 0, 0, 0), (10, .invokevirtual 73, 3, 3106, 220, 0), (13, .bipush 48, 2, 0, 0, 0), (15, .if_icmp .lt 41, 3, 0, 0, 0), (18, .aload_n 0, 1, 0, 0, 0), (19, .invokevirtual 73, 3, 3106, 220, 0), (22, .bipush 57, 2, 0, 0, 0), (24, .if_icmp .gt 32, 3, 0, 0, 0), (27, .iload_n 1, 1, 0, 0, 0), (28, .bipush 10, 2, 0, 0, 0), (30, .imul, 1, 0, 0, 0), (31, .aload_n 0, 1, 0, 0, 0), (32, .invokevirtual 73, 3, 3106, 220, 0), (35, .iadd, 1, 0, 0, 0), (36, .bipush 48, 2, 0, 0, 0), (38, .isub, 1, 0, 0, 0), (39, .istore_n 1, 1, 0, 0, 0), (40, .aload_n 0, 1, 0, 0, 0), (41, .dup, 1, 0, 0, 0), (42, .getfield 26, 3, 3, 5, 1140), (45, .iconst 1, 1, 0, 0, 0), (46, .iadd, 1, 0, 0, 0), (47, .putfield 26, 3, 3, 5, 1140), (50, .iinc 2 1, 3, 0, 0, 0), (53, .goto (-49), 3, 0, 0, 0), (56, .aload_n 0, 1, 0, 0, 0), (57, .getfield 12, 3, 0, 5, 1135), (60, .bipush 35, 2, 0, 0, 0), (62, .iload_n 1, 1, 0, 0, 0), (63, .invokevirtual 47, 3, 3117, 204, 0), (66, .pop, 1, 0, 0, 0), (67, .return_, 1, 0, 0, 0)])
set_option maxRecDepth 100000 in
theorem kX5_readNumber : fz_okM mX5_readNumber = true := fz_okM_in (by decide +kernel) (by decide +kernel)
set_option maxRecDepth 100000 in
theorem vX5_readNumber : fz_vM mX5_readNumber 0 false := fz_vI2 3116 1005 3115 23 fz_pc_9 fz_pd_6 rfl rfl rfl rfl rfl
set_option maxRecDepth 100000 in
def mX5_readO : fz_M := (yX5_readO, prog_7_method_11_code, 4, none, [(0, .aload_n 0, 1, 0, 0, 0), (1, .invokevirtual 73, 3, 3106, 220, 0), (4, .istore_n 2, 1, 0, 0, 0), (5, .iload_n 2, 1, 0, 0, 0), (6, .invokestatic 77, 3, 3110, 221, 0), (9, .istore_n 3, 1, 0, 0, 0), (10, .iload_n 2, 1, 0, 0, 0), (11, .bipush 48, 2, 0, 0, 0), (13, .if_icmp .lt 16, 3, 0, 0, 0), (16, .iload_n 2, 1, 0, 0, 0), (17, .bipush 57, 2, 0, 0, 0), (19, .if_icmp .gt 10, 3, 0, 0, 0), (22, .aload_n 0, 1, 0, 0, 0), (23, .invokevirtual 81, 3, 3113, 228, 0), (26, .goto 154, 3, 0, 0, 0), (29, .iload_n 3, 1, 0, 0, 0), (30, .ifCond .lt 27, 3, 0, 0, 0), (33, .aload_n 0, 1, 0, 0, 0), (34, .dup, 1, 0, 0, 0), (35, .getfield 26, 3, 3, 5, 1140), (38, .iconst 1, 1, 0, 0, 0), (39, .iadd, 1, 0, 0, 0), (40, .putfield 26, 3, 3, 5, 1140), (43, .aload_n 0, 1, 0, 0, 0), (44, .getfield 12, 3, 0, 5, 1135), (47, .bipush 64, 2, 0, 0, 0), (49, .iload_n 3, 1, 0, 0, 0), (50, .invokevirtual 47, 3, 3117, 204, 0), (53, .pop, 1, 0, 0, 0), (54, .goto 126, 3, 0, 0, 0), (57, .iload_n 1, 1, 0, 0, 0), (58, .bipush 6, 2, 0, 0, 0), (60, .if_icmp .lt 11, 3, 0, 0, 0), (63, .aload_n 0, 1, 0, 0, 0), (64, .iconst 1, 1, 0, 0, 0), (65, .putfield 29, 3, 4, 5, 1141), (68, .goto 112, 3, 0, 0, 0), (71, .aload_n 0, 1, 0, 0, 0), (72, .bipush 40, 2, 0, 0, 0), (74, .invokevirtual 39, 3, 3121, 218, 0), (77, .ifCond .eq 38, 3, 0, 0, 0), (80, .aload_n 0, 1, 0, 0, 0), (81, .iload_n 1, 1, 0, 0, 0), (82, .iconst 1, 1, 0, 0, 0), (83, .iadd, 1, 0, 0, 0), (84, .invokevirtual 43, 3, 3082, 226, 0), (87, .aload_n 0, 1, 0, 0, 0), (88, .aload_n 0, 1, 0, 0, 0), (89, .getfield 29, 3, 4, 5, 1141), (92, .ifCond .ne 12, 3, 0, 0, 0), (95, .aload_n 0, 1, 0, 0, 0), (96, .bipush 41, 2, 0, 0, 0), (98, .invokevirtual 39, 3, 3121, 218, 0), (101, .ifCond .ne 7, 3, 0, 0, 0), (104, .iconst 1, 1, 0, 0, 0), (105, .goto 4, 3, 0, 0, 0), (108, .iconst 0, 1, 0, 0, 0), (109, .putfield 29, 3, 4, 5, 1141), (112, .goto 68, 3, 0, 0, 0), (115, .aload_n 0, 1, 0, 0, 0), (116, .bipush 33, 2, 0, 0, 0), (118, .invokevirtual 39, 3, 3121, 218, 0), (121, .ifCond .eq 24, 3, 0, 0, 0), (124, .aload_n 0, 1, 0, 0, 0), (125, .iload_n 1, 1, 0, 0, 0), (126, .iconst 1, 1, 0, 0, 0), (127, .iadd, 1, 0, 0, 0), (128, .invokevirtual 70, 3, 3102, 229, 0), (131, .aload_n 0, 1, 0, 0, 0), (132, .getfield 12, 3, 0, 5, 1135), (135, .bipush 33, 2, 0, 0, 0), (137, .iconst 0, 1, 0, 0, 0), (138, .invokevirtual 47, 3, 3117, 204, 0), (141, .pop, 1, 0, 0, 0), (142, .goto 38, 3, 0, 0, 0), (145, .aload_n 0, 1, 0, 0, 0), (146, .bipush 45, 2, 0, 0, 0), (148, .invokevirtual 39, 3, 3121, 218, 0), (151, .ifCond .eq 24, 3, 0, 0, 0), (154, .aload_n 0, 1, 0, 0, 0), (155, .iload_n 1, 1, 0, 0, 0), (156, .iconst 1, 1, 0, 0, 0), (157, .iadd, 1, 0, 0, 0), (158, .invokevirtual 70, 3, 3102, 229, 0), (161, .aload_n 0, 1, 0, 0, 0), (162, .getfield 12, 3, 0, 5, 1135), (165, .bipush 126, 2, 0, 0, 0), (167, .iconst 0, 1, 0, 0, 0), (168, .invokevirtual 47, 3, 3117, 204, 0), (171, .pop, 1, 0, 0, 0), (172, .goto 8, 3, 0, 0, 0), (175, .aload_n 0, 1, 0, 0, 0), (176, .iconst 1, 1, 0, 0, 0), (177, .putfield 29, 3, 4, 5, 1141), (180, .return_, 1, 0, 0, 0)])
set_option maxRecDepth 100000 in
theorem kX5_readO : fz_okM mX5_readO = true := fz_okM_in (by decide +kernel) (by decide +kernel)
set_option maxRecDepth 100000 in
theorem vX5_readO : fz_vM mX5_readO 1 false := fz_vI2 3105 1005 3104 21 fz_pc_9 fz_pd_22 rfl rfl rfl rfl rfl
set_option maxRecDepth 100000 in
def mX5_readP : fz_M := (yX5_readP, prog_7_method_10_code, 4, none, [(0, .aload_n 0, 1, 0, 0, 0), (1, .iload_n 1, 1, 0, 0, 0), (2, .invokevirtual 70, 3, 3102, 229, 0), (5, .aload_n 0, 1, 0, 0, 0), (6, .bipush 42, 2, 0, 0, 0), (8, .bipush 47, 2, 0, 0, 0), (10, .bipush 37, 2, 0, 0, 0), (12, .invokevirtual 63, 3, 3125, 222, 0), (15, .istore_n 2, 1, 0, 0, 0), (16, .iconst 0, 1, 0, 0, 0), (17, .istore_n 3, 1, 0, 0, 0), (18, .iload_n 3, 1, 0, 0, 0), (19, .bipush 120, 2, 0, 0, 0), (21, .if_icmp .ge 39, 3, 0, 0, 0), (24, .iload_n 2, 1, 0, 0, 0), (25, .ifCond .eq 35, 3, 0, 0, 0), (28, .aload_n 0, 1, 0, 0, 0), (29, .iload_n 1, 1, 0, 0, 0), (30, .invokevirtual 70, 3, 3102, 229, 0), (33, .aload_n 0, 1, 0, 0, 0), (34, .getfield 12, 3, 0, 5, 1135), (37, .iload_n 2, 1, 0, 0, 0), (38, .iconst 0, 1, 0, 0, 0), (39, .invokevirtual 47, 3, 3117, 204, 0), (42, .pop, 1, 0, 0, 0), (43, .aload_n 0, 1, 0, 0, 0), (44, .bipush 42, 2, 0, 0, 0), (46, .bipush 47, 2, 0, 0, 0), (48, .bipush 37, 2, 0, 0, 0), (50, .invokevirtual 63, 3, 3125, 222, 0), (53, .istore_n 2, 1, 0, 0, 0), (54, .iinc 3 1, 3, 0, 0, 0), (57, .goto (-39), 3, 0, 0, 0), (60, .return_, 1, 0, 0, 0)])
set_option maxRecDepth 100000 in
theorem kX5_readP : fz_okM mX5_readP = true := fz_okM_in (by decide +kernel) (by decide +kernel)
set_option maxRecDepth 100000 in
theorem vX5_readP : fz_vM mX5_readP 1 false := fz_vI2 3101 1005 3100 20 fz_pc_9 fz_pd_22 rfl rfl rfl rfl rfl
set_option maxRecDepth 100000 in
def mX5_readS : fz_M := (yX5_readS, prog_7_method_9_code, 4, none, [(0, .aload_n 0, 1, 0, 0, 0), (1, .iload_n 1, 1, 0, 0, 0), (2, .invokevirtual 67, 3, 3098, 230, 0), (5, .aload_n 0, 1, 0, 0, 0), (6, .bipush 43, 2, 0, 0, 0), (8, .bipush 45, 2, 0, 0, 0), (10, .bipush 45, 2, 0, 0, 0), (12, .invokevirtual 63, 3, 3125, 222, 0), (15, .istore_n 2, 1, 0, 0, 0), (16, .iconst 0, 1, 0, 0, 0), (17, .istore_n 3, 1, 0, 0, 0), (18, .iload_n 3, 1, 0, 0, 0), (19, .bipush 120, 2, 0, 0, 0), (21, .if_icmp .ge 39, 3, 0, 0, 0), (24, .iload_n 2, 1, 0, 0, 0), (25, .ifCond .eq 35, 3, 0, 0, 0), (28, .aload_n 0, 1, 0, 0, 0), (29, .iload_n 1, 1, 0, 0, 0), (30, .invokevirtual 67, 3, 3098, 230, 0), (33, .aload_n 0, 1, 0, 0, 0), (34, .getfield 12, 3, 0, 5, 1135), (37, .iload_n 2, 1, 0, 0, 0), (38, .iconst 0, 1, 0, 0, 0), (39, .invokevirtual 47, 3, 3117, 204, 0), (42, .pop, 1, 0, 0, 0), (43, .aload_n 0, 1, 0, 0, 0), (44, .bipush 43, 2, 0, 0, 0), (46, .bipush 45, 2, 0, 0, 0), (48, .bipush 45, 2, 0, 0, 0), (50, .invokevirtual 63, 3, 3125, 222, 0), (53, .istore_n 2, 1, 0, 0, 0), (54, .iinc 3 1, 3, 0, 0, 0), (57, .goto (-39), 3, 0, 0, 0), (60, .return_, 1, 0, 0, 0)])
set_option maxRecDepth 100000 in
theorem kX5_readS : fz_okM mX5_readS = true := fz_okM_in (by decide +kernel) (by decide +kernel)
set_option maxRecDepth 100000 in
theorem vX5_readS : fz_vM mX5_readS 1 false := fz_vI2 3097 1005 3096 19 fz_pc_9 fz_pd_22 rfl rfl rfl rfl rfl
set_option maxRecDepth 100000 in
def mX5_readText : fz_M := (yX5_readText, prog_7_method_4_code, 2, (some .int), [(0, .aload_n 0, 1, 0, 0, 0), (1, .iconst 0, 1, 0, 0, 0), (2, .putfield 26, 3, 3, 5, 1140), (5, .aload_n 0, 1, 0, 0, 0), (6, .iconst 0, 1, 0, 0, 0), (7, .putfield 29, 3, 4, 5, 1141), (10, .aload_n 0, 1, 0, 0, 0), (11, .getfield 12, 3, 0, 5, 1135), (14, .invokevirtual 33, 3, 3074, 206, 0), (17, .aload_n 0, 1, 0, 0, 0), (18, .invokevirtual 36, 3, 3078, 227, 0), (21, .iconst 0, 1, 0, 0, 0), (22, .istore_n 1, 1, 0, 0, 0), (23, .iload_n 1, 1, 0, 0, 0), (24, .bipush 120, 2, 0, 0, 0), (26, .if_icmp .ge 22, 3, 0, 0, 0), (29, .aload_n 0, 1, 0, 0, 0), (30, .bipush 59, 2, 0, 0, 0), (32, .invokevirtual 39, 3, 3121, 218, 0), (35, .ifCond .eq 13, 3, 0, 0, 0), (38, .aload_n 0, 1, 0, 0, 0), (39, .invokevirtual 36, 3, 3078, 227, 0), (42, .iinc 1 1, 3, 0, 0, 0), (45, .goto (-22), 3, 0, 0, 0), (48, .aload_n 0, 1, 0, 0, 0), (49, .getfield 29, 3, 4, 5, 1141), (52, .ifCond .ne 14, 3, 0, 0, 0), (55, .aload_n 0, 1, 0, 0, 0), (56, .getfield 26, 3, 3, 5, 1140), (59, .aload_n 0, 1, 0, 0, 0), (60, .getfield 22, 3, 2, 5, 1138), (63, .if_icmp .ge 10, 3, 0, 0, 0), (66, .aload_n 0, 1, 0, 0, 0), (67, .getfield 26, 3, 3, 5, 1140), (70, .goto 4, 3, 0, 0, 0), (73, .iconst (-1), 1, 0, 0, 0), (74, .ireturn, 1, 0, 0, 0)])
set_option maxRecDepth 100000 in
theorem kX5_readText : fz_okM mX5_readText = true := fz_okM_in (by decide +kernel) (by decide +kernel)
set_option maxRecDepth 100000 in
theorem vX5_readText : fz_vM mX5_readText 0 false := fz_vI2 3073 1005 3071 3072 fz_pc_9 fz_pd_7 rfl rfl rfl rfl rfl
set_option maxRecDepth 100000 in
def mX5_take : fz_M := (yX5_take, prog_7_method_2_code, 2, (some .int), [(0, .aload_n 0, 1, 0, 0, 0), (1, .getfield 22, 3, 2, 5, 1138), (4, .bipush 120, 2, 0, 0, 0), (6, .if_icmp .lt 6, 3, 0, 0, 0), (9, .bipush (-3), 2, 0, 0, 0), (11, .ireturn, 1, 0, 0, 0), (12, .aload_n 0, 1, 0, 0, 0), (13, .getfield 18, 3, 1, 5, 1137), (16, .aload_n 0, 1, 0, 0, 0), (17, .getfield 22, 3, 2, 5, 1138), (20, .iload_n 1, 1, 0, 0, 0), (21, .iastore, 1, 0, 0, 0), (22, .aload_n 0, 1, 0, 0, 0), (23, .dup, 1, 0, 0, 0), (24, .getfield 22, 3, 2, 5, 1138), (27, .iconst 1, 1, 0, 0, 0), (28, .iadd, 1, 0, 0, 0), (29, .putfield 22, 3, 2, 5, 1138), (32, .aload_n 0, 1, 0, 0, 0), (33, .getfield 22, 3, 2, 5, 1138), (36, .ireturn, 1, 0, 0, 0)])
set_option maxRecDepth 100000 in
theorem kX5_take : fz_okM mX5_take = true := fz_okM_in (by decide +kernel) (by decide +kernel)
set_option maxRecDepth 100000 in
theorem vX5_take : fz_vM mX5_take 1 false := fz_vI2 3065 1005 3063 3064 fz_pc_9 fz_pd_0 rfl rfl rfl rfl rfl
set_option maxRecDepth 100000 in
def mX6_compare : fz_M := (yX6_compare, prog_8_method_5_code, 5, none, [(0, .iload_n 2, 1, 0, 0, 0), (1, .aload_n 0, 1, 0, 0, 0), (2, .getfield 39, 3, 5, 6, 1206), (5, .if_icmp .gt 35, 3, 0, 0, 0), (8, .iload_n 2, 1, 0, 0, 0), (9, .aload_n 0, 1, 0, 0, 0), (10, .getfield 39, 3, 5, 6, 1206), (13, .if_icmp .ne 31, 3, 0, 0, 0), (16, .iload_n 1, 1, 0, 0, 0), (17, .aload_n 0, 1, 0, 0, 0), (18, .getfield 42, 3, 6, 6, 1208), (21, .if_icmp .lt 19, 3, 0, 0, 0), (24, .iload_n 1, 1, 0, 0, 0), (25, .aload_n 0, 1, 0, 0, 0), (26, .getfield 42, 3, 6, 6, 1208), (29, .if_icmp .ne 15, 3, 0, 0, 0), (32, .iload_n 3, 1, 0, 0, 0), (33, .aload_n 0, 1, 0, 0, 0), (34, .getfield 45, 3, 7, 6, 1209), (37, .if_icmp .ge 7, 3, 0, 0, 0), (40, .iconst 1, 1, 0, 0, 0), (41, .goto 4, 3, 0, 0, 0), (44, .iconst 0, 1, 0, 0, 0), (45, .istore 4, 2, 0, 0, 0), (47, .iload 4, 2, 0, 0, 0), (49, .ifCond .eq 18, 3, 0, 0, 0), (52, .aload_n 0, 1, 0, 0, 0), (53, .iload_n 2, 1, 0, 0, 0), (54, .putfield 39, 3, 5, 6, 1206), (57, .aload_n 0, 1, 0, 0, 0), (58, .iload_n 1, 1, 0, 0, 0), (59, .putfield 42, 3, 6, 6, 1208), (62, .aload_n 0, 1, 0, 0, 0), (63, .iload_n 3, 1, 0, 0, 0), (64, .putfield 45, 3, 7, 6, 1209), (67, .return_, 1, 0, 0, 0)])
set_option maxRecDepth 100000 in
theorem kX6_compare : fz_okM mX6_compare = true := fz_okM_in (by decide +kernel) (by decide +kernel)
set_option maxRecDepth 100000 in
theorem vX6_compare : fz_vM mX6_compare 3 false := fz_vI2 4031 1007 4030 33 fz_pc_10 fz_pd_4 rfl rfl rfl rfl rfl
set_option maxRecDepth 100000 in
def mX6_explore : fz_M := (yX6_explore, prog_8_method_4_code, 10, none, [(0, .aload_n 0, 1, 0, 0, 0), (1, .iload_n 3, 1, 0, 0, 0), (2, .iload 4, 2, 0, 0, 0), (4, .iload 5, 2, 0, 0, 0), (6, .invokevirtual 52, 3, 4028, 234, 0), (9, .iload_n 3, 1, 0, 0, 0), (10, .iconst 4, 1, 0, 0, 0), (11, .if_icmp .lt 4, 3, 0, 0, 0), (14, .return_, 1, 0, 0, 0), (15, .iconst 0, 1, 0, 0, 0), (16, .istore 6, 2, 0, 0, 0), (18, .iload 6, 2, 0, 0, 0), (20, .aload_n 0, 1, 0, 0, 0), (21, .getfield 17, 3, 0, 6, 1201), (24, .getfield 56, 3, 8, 2, 1046), (27, .if_icmp .ge 179, 3, 0, 0, 0), (30, .aload_n 0, 1, 0, 0, 0), (31, .getfield 17, 3, 0, 6, 1201), (34, .iload 6, 2, 0, 0, 0), (36, .iload_n 1, 1, 0, 0, 0), (37, .invokevirtual 59, 3, 4032, 191, 0), (40, .istore 7, 2, 0, 0, 0), (42, .iload_n 2, 1, 0, 0, 0), (43, .aload_n 0, 1, 0, 0, 0), (44, .getfield 17, 3, 0, 6, 1201), (47, .getfield 63, 3, 1, 2, 1035), (50, .iload 6, 2, 0, 0, 0), (52, .iaload, 1, 0, 0, 0), (53, .iadd, 1, 0, 0, 0), (54, .istore 8, 2, 0, 0, 0), (56, .iload 7, 2, 0, 0, 0), (58, .ifCond .lt 142, 3, 0, 0, 0), (61, .iload 8, 2, 0, 0, 0), (63, .bipush 97, 2, 0, 0, 0), (65, .if_icmp .ge 135, 3, 0, 0, 0), (68, .aload_n 0, 1, 0, 0, 0), (69, .getfield 36, 3, 4, 6, 1205), (72, .iload 8, 2, 0, 0, 0), (74, .iadd, 1, 0, 0, 0), (75, .sipush 999, 3, 0, 0, 0), (78, .if_icmp .le 6, 3, 0, 0, 0), (81, .goto 119, 3, 0, 0, 0), (84, .iload 7, 2, 0, 0, 0), (86, .bipush 97, 2, 0, 0, 0), (88, .imul, 1, 0, 0, 0), (89, .iload 8, 2, 0, 0, 0), (91, .iadd, 1, 0, 0, 0), (92, .istore 9, 2, 0, 0, 0), (94, .aload_n 0, 1, 0, 0, 0), (95, .getfield 13, 3, 2, 6, 1203), (98, .iload 9, 2, 0, 0, 0), (100, .iaload, 1, 0, 0, 0), (101, .ldc 25, 2, 4022, 0, 0), (103, .if_icmp .ne 56, 3, 0, 0, 0), (106, .aload_n 0, 1, 0, 0, 0), (107, .getfield 21, 3, 1, 6, 1202), (110, .aload_n 0, 1, 0, 0, 0), (111, .getfield 32, 3, 3, 6, 1204), (114, .aload_n 0, 1, 0, 0, 0), (115, .getfield 32, 3, 3, 6, 1204), (118, .iload 7, 2, 0, 0, 0), (120, .aload_n 0, 1, 0, 0, 0), (121, .getfield 36, 3, 4, 6, 1205), (124, .iload 8, 2, 0, 0, 0), (126, .iadd, 1, 0, 0, 0), (127, .invokevirtual 66, 3, 4036, 256, 0), (130, .aload_n 0, 1, 0, 0, 0), (131, .getfield 13, 3, 2, 6, 1203), (134, .iload 9, 2, 0, 0, 0), (136, .aload_n 0, 1, 0, 0, 0), (137, .getfield 21, 3, 1, 6, 1202), (140, .invokevirtual 72, 3, 4037, 255, 0), (143, .ifCond .eq 8, 3, 0, 0, 0), (146, .ldc 76, 2, 4038, 0, 0), (148, .goto 10, 3, 0, 0, 0), (151, .aload_n 0, 1, 0, 0, 0), (152, .getfield 21, 3, 1, 6, 1202), (155, .invokevirtual 77, 3, 4039, 264, 0), (158, .iastore, 1, 0, 0, 0), (159, .aload_n 0, 1, 0, 0, 0), (160, .getfield 13, 3, 2, 6, 1203), (163, .iload 9, 2, 0, 0, 0), (165, .iaload, 1, 0, 0, 0), (166, .ldc 76, 2, 4038, 0, 0), (168, .if_icmp .eq 32, 3, 0, 0, 0), (171, .aload_n 0, 1, 0, 0, 0), (172, .iload 7, 2, 0, 0, 0), (174, .iload 8, 2, 0, 0, 0), (176, .iload_n 3, 1, 0, 0, 0), (177, .iconst 1, 1, 0, 0, 0), (178, .iadd, 1, 0, 0, 0), (179, .iload 4, 2, 0, 0, 0), (181, .aload_n 0, 1, 0, 0, 0), (182, .getfield 13, 3, 2, 6, 1203), (185, .iload 9, 2, 0, 0, 0), (187, .iaload, 1, 0, 0, 0), (188, .iadd, 1, 0, 0, 0), (189, .iload 5, 2, 0, 0, 0), (191, .bipush 8, 2, 0, 0, 0), (193, .imul, 1, 0, 0, 0), (194, .iload 7, 2, 0, 0, 0), (196, .iadd, 1, 0, 0, 0), (197, .invokevirtual 48, 3, 4024, 235, 0), (200, .iinc 6 1, 3, 0, 0, 0), (203, .goto (-185), 3, 0, 0, 0), (206, .return_, 1, 0, 0, 0)])
set_option maxRecDepth 100000 in
theorem kX6_explore : fz_okM mX6_explore = true := fz_okM_in (by decide +kernel) (by decide +kernel)
set_option maxRecDepth 100000 in
theorem vX6_explore : fz_vM mX6_explore 5 false := fz_vI2 4027 1007 4026 32 fz_pc_10 fz_pd_27 rfl rfl rfl rfl rfl
set_option maxRecDepth 100000 in
def mX6_seek : fz_M := (yX6_seek, prog_8_method_2_code, 4, none, [(0, .aload_n 0, 1, 0, 0, 0), (1, .getfield 13, 3, 2, 6, 1203), (4, .ldc 25, 2, 4022, 0, 0), (6, .invokestatic 26, 3, 4023, 1, 0), (9, .aload_n 0, 1, 0, 0, 0), (10, .iload_n 1, 1, 0, 0, 0), (11, .putfield 32, 3, 3, 6, 1204), (14, .aload_n 0, 1, 0, 0, 0), (15, .iload_n 3, 1, 0, 0, 0), (16, .putfield 36, 3, 4, 6, 1205), (19, .aload_n 0, 1, 0, 0, 0), (20, .iconst 0, 1, 0, 0, 0), (21, .putfield 39, 3, 5, 6, 1206), (24, .aload_n 0, 1, 0, 0, 0), (25, .iconst 0, 1, 0, 0, 0), (26, .putfield 42, 3, 6, 6, 1208), (29, .aload_n 0, 1, 0, 0, 0), (30, .iconst 0, 1, 0, 0, 0), (31, .putfield 45, 3, 7, 6, 1209), (34, .aload_n 0, 1, 0, 0, 0), (35, .iload_n 2, 1, 0, 0, 0), (36, .iconst 0, 1, 0, 0, 0), (37, .iconst 0, 1, 0, 0, 0), (38, .iconst 0, 1, 0, 0, 0), (39, .iconst 0, 1, 0, 0, 0), (40, .invokevirtual 48, 3, 4024, 235, 0), (43, .return_, 1, 0, 0, 0)])
set_option maxRecDepth 100000 in
theorem kX6_seek : fz_okM mX6_seek = true := fz_okM_in (by decide +kernel) (by decide +kernel)
set_option maxRecDepth 100000 in
theorem vX6_seek : fz_vM mX6_seek 3 false := fz_vI2 4021 1007 4019 4020 fz_pc_10 fz_pd_4 rfl rfl rfl rfl rfl
set_option maxRecDepth 100000 in
def mX6_townAt : fz_M := (yX6_townAt, prog_8_method_3_code, 2, (some .int), [(0, .iload_n 1, 1, 0, 0, 0), (1, .ifCond .lt 11, 3, 0, 0, 0), (4, .iload_n 1, 1, 0, 0, 0), (5, .aload_n 0, 1, 0, 0, 0), (6, .getfield 42, 3, 6, 6, 1208), (9, .if_icmp .lt 8, 3, 0, 0, 0), (12, .bipush (-2), 2, 0, 0, 0), (14, .goto 21, 3, 0, 0, 0), (17, .aload_n 0, 1, 0, 0, 0), (18, .getfield 45, 3, 7, 6, 1209), (21, .iconst 3, 1, 0, 0, 0), (22, .aload_n 0, 1, 0, 0, 0), (23, .getfield 42, 3, 6, 6, 1208), (26, .iconst 1, 1, 0, 0, 0), (27, .isub, 1, 0, 0, 0), (28, .iload_n 1, 1, 0, 0, 0), (29, .isub, 1, 0, 0, 0), (30, .imul, 1, 0, 0, 0), (31, .ishr, 1, 0, 0, 0), (32, .bipush 7, 2, 0, 0, 0), (34, .iand, 1, 0, 0, 0), (35, .ireturn, 1, 0, 0, 0)])
set_option maxRecDepth 100000 in
theorem kX6_townAt : fz_okM mX6_townAt = true := fz_okM_in (by decide +kernel) (by decide +kernel)
set_option maxRecDepth 100000 in
theorem vX6_townAt : fz_vM mX6_townAt 1 false := fz_vI2 4043 1007 4041 4042 fz_pc_10 fz_pd_0 rfl rfl rfl rfl rfl
set_option maxRecDepth 100000 in
def mX7_copy : fz_M := (yX7_copy, prog_9_method_11_code, 6, none, [(0, .aload_n 0, 1, 0, 0, 0), (1, .getfield 22, 3, 4, 7, 2099), (4, .iload_n 1, 1, 0, 0, 0), (5, .bipush 60, 2, 0, 0, 0), (7, .imul, 1, 0, 0, 0), (8, .iload_n 2, 1, 0, 0, 0), (9, .iadd, 1, 0, 0, 0), (10, .aload_n 0, 1, 0, 0, 0), (11, .getfield 22, 3, 4, 7, 2099), (14, .iload_n 3, 1, 0, 0, 0), (15, .bipush 60, 2, 0, 0, 0), (17, .imul, 1, 0, 0, 0), (18, .iload 4, 2, 0, 0, 0), (20, .iadd, 1, 0, 0, 0), (21, .iload 5, 2, 0, 0, 0), (23, .invokestatic 40, 3, 5064, 276, 0), (26, .return_, 1, 0, 0, 0)])
set_option maxRecDepth 100000 in
theorem kX7_copy : fz_okM mX7_copy = true := fz_okM_in (by decide +kernel) (by decide +kernel)
set_option maxRecDepth 100000 in
theorem vX7_copy : fz_vM mX7_copy 5 false := fz_vI2 5063 1011 5061 5062 fz_pc_11 fz_pd_27 rfl rfl rfl rfl rfl
set_option maxRecDepth 100000 in
def mX7_get : fz_M := (yX7_get, prog_9_method_9_code, 3, (some .long), [(0, .aload_n 0, 1, 0, 0, 0), (1, .getfield 22, 3, 4, 7, 2099), (4, .iload_n 1, 1, 0, 0, 0), (5, .bipush 60, 2, 0, 0, 0), (7, .imul, 1, 0, 0, 0), (8, .iload_n 2, 1, 0, 0, 0), (9, .iadd, 1, 0, 0, 0), (10, .laload, 1, 0, 0, 0), (11, .lreturn, 1, 0, 0, 0)])
set_option maxRecDepth 100000 in
theorem kX7_get : fz_okM mX7_get = true := fz_okM_in (by decide +kernel) (by decide +kernel)
set_option maxRecDepth 100000 in
theorem vX7_get : fz_vM mX7_get 2 false := fz_vI2 3008 1011 3006 3007 fz_pc_11 fz_pd_14 rfl rfl rfl rfl rfl
set_option maxRecDepth 100000 in
def mX7_hasPlaces : fz_M := (yX7_hasPlaces, prog_9_method_6_code, 4, (some .boolean), [(0, .aload_n 0, 1, 0, 0, 0), (1, .iload_n 1, 1, 0, 0, 0), (2, .invokevirtual 26, 3, 2233, 245, 0), (5, .ifCond .eq 37, 3, 0, 0, 0), (8, .iload_n 2, 1, 0, 0, 0), (9, .ifCond .lt 33, 3, 0, 0, 0), (12, .iload_n 3, 1, 0, 0, 0), (13, .ifCond .lt 29, 3, 0, 0, 0), (16, .iload_n 3, 1, 0, 0, 0), (17, .aload_n 0, 1, 0, 0, 0), (18, .getfield 19, 3, 3, 7, 2098), (21, .iload_n 1, 1, 0, 0, 0), (22, .iaload, 1, 0, 0, 0), (23, .if_icmp .gt 19, 3, 0, 0, 0), (26, .iload_n 2, 1, 0, 0, 0), (27, .aload_n 0, 1, 0, 0, 0), (28, .getfield 19, 3, 3, 7, 2098), (31, .iload_n 1, 1, 0, 0, 0), (32, .iaload, 1, 0, 0, 0), (33, .iload_n 3, 1, 0, 0, 0), (34, .isub, 1, 0, 0, 0), (35, .if_icmp .gt 7, 3, 0, 0, 0), (38, .iconst 1, 1, 0, 0, 0), (39, .goto 4, 3, 0, 0, 0), (42, .iconst 0, 1, 0, 0, 0), (43, .ireturn, 1, 0, 0, 0)])
set_option maxRecDepth 100000 in
theorem kX7_hasPlaces : fz_okM mX7_hasPlaces = true := fz_okM_in (by decide +kernel) (by decide +kernel)
set_option maxRecDepth 100000 in
theorem vX7_hasPlaces : fz_vM mX7_hasPlaces 3 false := fz_vI2 3004 1011 3002 3003 fz_pc_11 fz_pd_16 rfl rfl rfl rfl rfl
set_option maxRecDepth 100000 in
def mX7_holdsRow : fz_M := (yX7_holdsRow, prog_9_method_5_code, 3, (some .boolean), [(0, .aload_n 0, 1, 0, 0, 0), (1, .iload_n 1, 1, 0, 0, 0), (2, .invokevirtual 26, 3, 2233, 245, 0), (5, .ifCond .eq 17, 3, 0, 0, 0), (8, .aload_n 0, 1, 0, 0, 0), (9, .getfield 16, 3, 2, 7, 2096), (12, .iload_n 1, 1, 0, 0, 0), (13, .iaload, 1, 0, 0, 0), (14, .iload_n 2, 1, 0, 0, 0), (15, .if_icmp .ne 7, 3, 0, 0, 0), (18, .iconst 1, 1, 0, 0, 0), (19, .goto 4, 3, 0, 0, 0), (22, .iconst 0, 1, 0, 0, 0), (23, .ireturn, 1, 0, 0, 0)])
set_option maxRecDepth 100000 in
theorem kX7_holdsRow : fz_okM mX7_holdsRow = true := fz_okM_in (by decide +kernel) (by decide +kernel)
set_option maxRecDepth 100000 in
theorem vX7_holdsRow : fz_vM mX7_holdsRow 2 false := fz_vI2 2232 1011 2230 2231 fz_pc_11 fz_pd_10 rfl rfl rfl rfl rfl
set_option maxRecDepth 100000 in
def mX7_isEmpty : fz_M := (yX7_isEmpty, prog_9_method_3_code, 2, (some .boolean), [(0, .aload_n 0, 1, 0, 0, 0), (1, .getfield 9, 3, 0, 7, 2093), (4, .iload_n 1, 1, 0, 0, 0), (5, .iaload, 1, 0, 0, 0), (6, .ifCond .ne 7, 3, 0, 0, 0), (9, .iconst 1, 1, 0, 0, 0), (10, .goto 4, 3, 0, 0, 0), (13, .iconst 0, 1, 0, 0, 0), (14, .ireturn, 1, 0, 0, 0)])
set_option maxRecDepth 100000 in
theorem kX7_isEmpty : fz_okM mX7_isEmpty = true := fz_okM_in (by decide +kernel) (by decide +kernel)
set_option maxRecDepth 100000 in
theorem vX7_isEmpty : fz_vM mX7_isEmpty 1 false := fz_vI2 2228 1011 2226 2227 fz_pc_11 fz_pd_9 rfl rfl rfl rfl rfl
set_option maxRecDepth 100000 in
def mX7_isRow : fz_M := (yX7_isRow, prog_9_method_4_code, 2, (some .boolean), [(0, .aload_n 0, 1, 0, 0, 0), (1, .getfield 9, 3, 0, 7, 2093), (4, .iload_n 1, 1, 0, 0, 0), (5, .iaload, 1, 0, 0, 0), (6, .iconst 2, 1, 0, 0, 0), (7, .if_icmp .ne 7, 3, 0, 0, 0), (10, .iconst 1, 1, 0, 0, 0), (11, .goto 4, 3, 0, 0, 0), (14, .iconst 0, 1, 0, 0, 0), (15, .ireturn, 1, 0, 0, 0)])
set_option maxRecDepth 100000 in
theorem kX7_isRow : fz_okM mX7_isRow = true := fz_okM_in (by decide +kernel) (by decide +kernel)
set_option maxRecDepth 100000 in
theorem vX7_isRow : fz_vM mX7_isRow 1 false := fz_vI2 2236 1011 2234 2235 fz_pc_11 fz_pd_9 rfl rfl rfl rfl rfl
set_option maxRecDepth 100000 in
def mX7_isShelf : fz_M := (yX7_isShelf, prog_9_method_2_code, 2, (some .boolean), [(0, .iload_n 1, 1, 0, 0, 0), (1, .ifCond .lt 13, 3, 0, 0, 0), (4, .iload_n 1, 1, 0, 0, 0), (5, .bipush 6, 2, 0, 0, 0), (7, .if_icmp .ge 7, 3, 0, 0, 0), (10, .iconst 1, 1, 0, 0, 0), (11, .goto 4, 3, 0, 0, 0), (14, .iconst 0, 1, 0, 0, 0), (15, .ireturn, 1, 0, 0, 0)])
set_option maxRecDepth 100000 in
theorem kX7_isShelf : fz_okM mX7_isShelf = true := fz_okM_in (by decide +kernel) (by decide +kernel)
set_option maxRecDepth 100000 in
theorem vX7_isShelf : fz_vM mX7_isShelf 1 false := fz_vI2 2224 1011 2222 2223 fz_pc_11 fz_pd_9 rfl rfl rfl rfl rfl
set_option maxRecDepth 100000 in
def mX7_lowestBits : fz_M := (yX7_lowestBits, prog_9_method_12_code, 3, (some .long), [(0, .iload_n 0, 1, 0, 0, 0), (1, .tableswitch 61 0 4 #[35, 40, 45, 61, 49], 35, 0, 0, 0), (36, .lload_n 1, 1, 0, 0, 0), (37, .l2i, 1, 0, 0, 0), (38, .i2b, 1, 0, 0, 0), (39, .i2l, 1, 0, 0, 0), (40, .lreturn, 1, 0, 0, 0), (41, .lload_n 1, 1, 0, 0, 0), (42, .l2i, 1, 0, 0, 0), (43, .i2s, 1, 0, 0, 0), (44, .i2l, 1, 0, 0, 0), (45, .lreturn, 1, 0, 0, 0), (46, .lload_n 1, 1, 0, 0, 0), (47, .l2i, 1, 0, 0, 0), (48, .i2l, 1, 0, 0, 0), (49, .lreturn, 1, 0, 0, 0), (50, .lload_n 1, 1, 0, 0, 0), (51, .lconst 0, 1, 0, 0, 0), (52, .lcmp, 1, 0, 0, 0), (53, .ifCond .eq 7, 3, 0, 0, 0), (56, .lconst 1, 1, 0, 0, 0), (57, .goto 4, 3, 0, 0, 0), (60, .lconst 0, 1, 0, 0, 0), (61, .lreturn, 1, 0, 0, 0), (62, .lload_n 1, 1, 0, 0, 0), (63, .lreturn, 1, 0, 0, 0)])
set_option maxRecDepth 100000 in
theorem kX7_lowestBits : fz_okM mX7_lowestBits = true := fz_okM_in (by decide +kernel) (by decide +kernel)
set_option maxRecDepth 100000 in
theorem vX7_lowestBits : fz_vM mX7_lowestBits 2 true := fz_vS2 5051 1011 5050 fz_pc_11 fz_pd_26 rfl rfl rfl rfl
set_option maxRecDepth 100000 in
def mX7_set : fz_M := (yX7_set, prog_9_method_10_code, 5, none, [(0, .aload_n 0, 1, 0, 0, 0), (1, .getfield 22, 3, 4, 7, 2099), (4, .iload_n 1, 1, 0, 0, 0), (5, .bipush 60, 2, 0, 0, 0), (7, .imul, 1, 0, 0, 0), (8, .iload_n 2, 1, 0, 0, 0), (9, .iadd, 1, 0, 0, 0), (10, .aload_n 0, 1, 0, 0, 0), (11, .getfield 16, 3, 2, 7, 2096), (14, .iload_n 1, 1, 0, 0, 0), (15, .iaload, 1, 0, 0, 0), (16, .lload_n 3, 1, 0, 0, 0), (17, .invokestatic 36, 3, 5049, 247, 0), (20, .lastore, 1, 0, 0, 0), (21, .return_, 1, 0, 0, 0)])
set_option maxRecDepth 100000 in
theorem kX7_set : fz_okM mX7_set = true := fz_okM_in (by decide +kernel) (by decide +kernel)
set_option maxRecDepth 100000 in
theorem vX7_set : fz_vM mX7_set 3 false := fz_vI2 5048 1011 5046 5047 fz_pc_11 fz_pd_32 rfl rfl rfl rfl rfl
set_option maxRecDepth 100000 in
def mX7_setRow : fz_M := (yX7_setRow, prog_9_method_8_code, 4, none, [(0, .aload_n 0, 1, 0, 0, 0), (1, .getfield 9, 3, 0, 7, 2093), (4, .iload_n 1, 1, 0, 0, 0), (5, .iconst 2, 1, 0, 0, 0), (6, .iastore, 1, 0, 0, 0), (7, .aload_n 0, 1, 0, 0, 0), (8, .getfield 16, 3, 2, 7, 2096), (11, .iload_n 1, 1, 0, 0, 0), (12, .iload_n 2, 1, 0, 0, 0), (13, .iastore, 1, 0, 0, 0), (14, .aload_n 0, 1, 0, 0, 0), (15, .getfield 19, 3, 3, 7, 2098), (18, .iload_n 1, 1, 0, 0, 0), (19, .iload_n 3, 1, 0, 0, 0), (20, .iastore, 1, 0, 0, 0), (21, .aload_n 0, 1, 0, 0, 0), (22, .getfield 22, 3, 4, 7, 2099), (25, .iload_n 1, 1, 0, 0, 0), (26, .bipush 60, 2, 0, 0, 0), (28, .imul, 1, 0, 0, 0), (29, .iload_n 1, 1, 0, 0, 0), (30, .bipush 60, 2, 0, 0, 0), (32, .imul, 1, 0, 0, 0), (33, .bipush 60, 2, 0, 0, 0), (35, .iadd, 1, 0, 0, 0), (36, .lconst 0, 1, 0, 0, 0), (37, .invokestatic 30, 3, 5030, 2, 0), (40, .return_, 1, 0, 0, 0)])
set_option maxRecDepth 100000 in
theorem kX7_setRow : fz_okM mX7_setRow = true := fz_okM_in (by decide +kernel) (by decide +kernel)
set_option maxRecDepth 100000 in
theorem vX7_setRow : fz_vM mX7_setRow 3 false := fz_vI2 5029 1011 5027 5028 fz_pc_11 fz_pd_4 rfl rfl rfl rfl rfl
set_option maxRecDepth 100000 in
def mX7_setWord : fz_M := (yX7_setWord, prog_9_method_7_code, 3, none, [(0, .aload_n 0, 1, 0, 0, 0), (1, .getfield 9, 3, 0, 7, 2093), (4, .iload_n 1, 1, 0, 0, 0), (5, .iload_n 2, 1, 0, 0, 0), (6, .ifCond .ge 7, 3, 0, 0, 0), (9, .iconst 0, 1, 0, 0, 0), (10, .goto 4, 3, 0, 0, 0), (13, .iconst 1, 1, 0, 0, 0), (14, .iastore, 1, 0, 0, 0), (15, .aload_n 0, 1, 0, 0, 0), (16, .getfield 13, 3, 1, 7, 2094), (19, .iload_n 1, 1, 0, 0, 0), (20, .iload_n 2, 1, 0, 0, 0), (21, .iastore, 1, 0, 0, 0), (22, .return_, 1, 0, 0, 0)])
set_option maxRecDepth 100000 in
theorem kX7_setWord : fz_okM mX7_setWord = true := fz_okM_in (by decide +kernel) (by decide +kernel)
set_option maxRecDepth 100000 in
theorem vX7_setWord : fz_vM mX7_setWord 2 false := fz_vI2 5021 1011 5019 5020 fz_pc_11 fz_pd_20 rfl rfl rfl rfl rfl
set_option maxRecDepth 100000 in
def mX8_arrestsAt : fz_M := (yX8_arrestsAt, prog_10_method_11_code, 2, (some .boolean), [(0, .iload_n 1, 1, 0, 0, 0), (1, .ifCond .le 15, 3, 0, 0, 0), (4, .iload_n 1, 1, 0, 0, 0), (5, .aload_n 0, 1, 0, 0, 0), (6, .getfield 30, 3, 8, 8, 1169), (9, .if_icmp .lt 7, 3, 0, 0, 0), (12, .iconst 1, 1, 0, 0, 0), (13, .goto 4, 3, 0, 0, 0), (16, .iconst 0, 1, 0, 0, 0), (17, .ireturn, 1, 0, 0, 0)])
set_option maxRecDepth 100000 in
theorem kX8_arrestsAt : fz_okM mX8_arrestsAt = true := fz_okM_in (by decide +kernel) (by decide +kernel)
set_option maxRecDepth 100000 in
theorem vX8_arrestsAt : fz_vM mX8_arrestsAt 1 false := fz_vI2 3225 1006 3223 3224 fz_pc_12 fz_pd_9 rfl rfl rfl rfl rfl
set_option maxRecDepth 100000 in
def mX8_chancesUnchanged : fz_M := (yX8_chancesUnchanged, prog_10_method_15_code, 6, (some .long), [(0, .aload_n 0, 1, 0, 0, 0), (1, .getfield 26, 3, 7, 8, 1168), (4, .lconst 0, 1, 0, 0, 0), (5, .invokestatic 118, 3, 4146, 3, 0), (8, .aload_n 0, 1, 0, 0, 0), (9, .getfield 26, 3, 7, 8, 1168), (12, .iconst 0, 1, 0, 0, 0), (13, .lconst 1, 1, 0, 0, 0), (14, .lastore, 1, 0, 0, 0), (15, .iconst 0, 1, 0, 0, 0), (16, .istore_n 2, 1, 0, 0, 0), (17, .iload_n 2, 1, 0, 0, 0), (18, .iload_n 1, 1, 0, 0, 0), (19, .if_icmp .ge 98, 3, 0, 0, 0), (22, .aload_n 0, 1, 0, 0, 0), (23, .getfield 26, 3, 7, 8, 1168), (26, .iconst 4, 1, 0, 0, 0), (27, .laload, 1, 0, 0, 0), (28, .lstore_n 3, 1, 0, 0, 0), (29, .iconst 4, 1, 0, 0, 0), (30, .istore 5, 2, 0, 0, 0), (32, .iload 5, 2, 0, 0, 0), (34, .ifCond .le 48, 3, 0, 0, 0), (37, .aload_n 0, 1, 0, 0, 0), (38, .getfield 26, 3, 7, 8, 1168), (41, .iload 5, 2, 0, 0, 0), (43, .aload_n 0, 1, 0, 0, 0), (44, .getfield 26, 3, 7, 8, 1168), (47, .iload 5, 2, 0, 0, 0), (49, .laload, 1, 0, 0, 0), (50, .bipush 12, 2, 0, 0, 0), (52, .aload_n 0, 1, 0, 0, 0), (53, .getfield 34, 3, 9, 8, 1171), (56, .isub, 1, 0, 0, 0), (57, .i2l, 1, 0, 0, 0), (58, .lmul, 1, 0, 0, 0), (59, .aload_n 0, 1, 0, 0, 0), (60, .getfield 26, 3, 7, 8, 1168), (63, .iload 5, 2, 0, 0, 0), (65, .iconst 1, 1, 0, 0, 0), (66, .isub, 1, 0, 0, 0), (67, .laload, 1, 0, 0, 0), (68, .aload_n 0, 1, 0, 0, 0), (69, .getfield 34, 3, 9, 8, 1171), (72, .i2l, 1, 0, 0, 0), (73, .lmul, 1, 0, 0, 0), (74, .ladd, 1, 0, 0, 0), (75, .lastore, 1, 0, 0, 0), (76, .iinc 5 (-1), 3, 0, 0, 0), (79, .goto (-47), 3, 0, 0, 0), (82, .aload_n 0, 1, 0, 0, 0), (83, .getfield 26, 3, 7, 8, 1168), (86, .iconst 0, 1, 0, 0, 0), (87, .aload_n 0, 1, 0, 0, 0), (88, .getfield 26, 3, 7, 8, 1168), (91, .iconst 0, 1, 0, 0, 0), (92, .laload, 1, 0, 0, 0), (93, .bipush 12, 2, 0, 0, 0), (95, .aload_n 0, 1, 0, 0, 0), (96, .getfield 34, 3, 9, 8, 1171), (99, .isub, 1, 0, 0, 0), (100, .i2l, 1, 0, 0, 0), (101, .lmul, 1, 0, 0, 0), (102, .lload_n 3, 1, 0, 0, 0), (103, .aload_n 0, 1, 0, 0, 0), (104, .getfield 34, 3, 9, 8, 1171), (107, .i2l, 1, 0, 0, 0), (108, .lmul, 1, 0, 0, 0), (109, .ladd, 1, 0, 0, 0), (110, .lastore, 1, 0, 0, 0), (111, .iinc 2 1, 3, 0, 0, 0), (114, .goto (-97), 3, 0, 0, 0), (117, .aload_n 0, 1, 0, 0, 0), (118, .getfield 26, 3, 7, 8, 1168), (121, .iconst 0, 1, 0, 0, 0), (122, .laload, 1, 0, 0, 0), (123, .lreturn, 1, 0, 0, 0)])
set_option maxRecDepth 100000 in
theorem kX8_chancesUnchanged : fz_okM mX8_chancesUnchanged = true := fz_okM_in (by decide +kernel) (by decide +kernel)
set_option maxRecDepth 100000 in
theorem vX8_chancesUnchanged : fz_vM mX8_chancesUnchanged 1 false := fz_vI2 4145 1006 4143 4144 fz_pc_12 fz_pd_33 rfl rfl rfl rfl rfl
set_option maxRecDepth 100000 in
def mX8_hourHeard : fz_M := (yX8_hourHeard, prog_10_method_2_code, 4, (some .int), [(0, .aload_n 0, 1, 0, 0, 0), (1, .getfield 37, 3, 0, 8, 1159), (4, .aload_n 0, 1, 0, 0, 0), (5, .getfield 41, 3, 1, 8, 1160), (8, .getfield 49, 3, 1, 4, 1078), (11, .iload_n 1, 1, 0, 0, 0), (12, .iaload, 1, 0, 0, 0), (13, .iload_n 2, 1, 0, 0, 0), (14, .invokevirtual 52, 3, 3166, 194, 0), (17, .istore_n 3, 1, 0, 0, 0), (18, .iload_n 3, 1, 0, 0, 0), (19, .ifCond .ge 8, 3, 0, 0, 0), (22, .bipush (-2), 2, 0, 0, 0), (24, .goto 24, 3, 0, 0, 0), (27, .aload_n 0, 1, 0, 0, 0), (28, .getfield 41, 3, 1, 8, 1160), (31, .getfield 58, 3, 2, 4, 1081), (34, .iload_n 1, 1, 0, 0, 0), (35, .iaload, 1, 0, 0, 0), (36, .iload_n 3, 1, 0, 0, 0), (37, .iadd, 1, 0, 0, 0), (38, .aload_n 0, 1, 0, 0, 0), (39, .getfield 37, 3, 0, 8, 1159), (42, .getfield 61, 3, 0, 2, 1032), (45, .iload_n 2, 1, 0, 0, 0), (46, .iaload, 1, 0, 0, 0), (47, .iadd, 1, 0, 0, 0), (48, .ireturn, 1, 0, 0, 0)])
set_option maxRecDepth 100000 in
theorem kX8_hourHeard : fz_okM mX8_hourHeard = true := fz_okM_in (by decide +kernel) (by decide +kernel)
set_option maxRecDepth 100000 in
theorem vX8_hourHeard : fz_vM mX8_hourHeard 2 false := fz_vI2 3165 1006 3163 3164 fz_pc_12 fz_pd_11 rfl rfl rfl rfl rfl
set_option maxRecDepth 100000 in
def mX8_isArrested : fz_M := (yX8_isArrested, prog_10_method_10_code, 1, (some .boolean), [(0, .aload_n 0, 1, 0, 0, 0), (1, .aload_n 0, 1, 0, 0, 0), (2, .getfield 15, 3, 4, 8, 1164), (5, .iconst 1, 1, 0, 0, 0), (6, .iaload, 1, 0, 0, 0), (7, .invokevirtual 104, 3, 3222, 251, 0), (10, .ireturn, 1, 0, 0, 0)])
set_option maxRecDepth 100000 in
theorem kX8_isArrested : fz_okM mX8_isArrested = true := fz_okM_in (by decide +kernel) (by decide +kernel)
set_option maxRecDepth 100000 in
theorem vX8_isArrested : fz_vM mX8_isArrested 0 false := fz_vI2 3221 1006 3219 3220 fz_pc_12 fz_pd_24 rfl rfl rfl rfl rfl
set_option maxRecDepth 100000 in
def mX8_listen : fz_M := (yX8_listen, prog_10_method_5_code, 7, none, [(0, .aload_n 0, 1, 0, 0, 0), (1, .getfield 15, 3, 4, 8, 1164), (4, .iconst 0, 1, 0, 0, 0), (5, .invokestatic 94, 3, 3209, 1, 0), (8, .iconst 0, 1, 0, 0, 0), (9, .istore 5, 2, 0, 0, 0), (11, .iload 5, 2, 0, 0, 0), (13, .aload_n 0, 1, 0, 0, 0), (14, .getfield 41, 3, 1, 8, 1160), (17, .getfield 79, 3, 5, 4, 1090), (20, .if_icmp .ge 57, 3, 0, 0, 0), (23, .aload_n 0, 1, 0, 0, 0), (24, .getfield 41, 3, 1, 8, 1160), (27, .getfield 82, 3, 0, 4, 1075), (30, .iload 5, 2, 0, 0, 0), (32, .iaload, 1, 0, 0, 0), (33, .istore 6, 2, 0, 0, 0), (35, .iload 6, 2, 0, 0, 0), (37, .iload_n 1, 1, 0, 0, 0), (38, .if_icmp .eq 9, 3, 0, 0, 0), (41, .iload 6, 2, 0, 0, 0), (43, .iload_n 2, 1, 0, 0, 0), (44, .if_icmp .ne 27, 3, 0, 0, 0), (47, .aload_n 0, 1, 0, 0, 0), (48, .aload_n 0, 1, 0, 0, 0), (49, .getfield 41, 3, 1, 8, 1160), (52, .getfield 70, 3, 3, 4, 1084), (55, .iload 5, 2, 0, 0, 0), (57, .iaload, 1, 0, 0, 0), (58, .aload_n 0, 1, 0, 0, 0), (59, .iload 5, 2, 0, 0, 0), (61, .iload_n 1, 1, 0, 0, 0), (62, .iload_n 3, 1, 0, 0, 0), (63, .iload 4, 2, 0, 0, 0), (65, .invokevirtual 85, 3, 3199, 260, 0), (68, .invokevirtual 100, 3, 3210, 263, 0), (71, .iinc 5 1, 3, 0, 0, 0), (74, .goto (-63), 3, 0, 0, 0), (77, .return_, 1, 0, 0, 0)])
set_option maxRecDepth 100000 in
theorem kX8_listen : fz_okM mX8_listen = true := fz_okM_in (by decide +kernel) (by decide +kernel)
set_option maxRecDepth 100000 in
theorem vX8_listen : fz_vM mX8_listen 4 false := fz_vI2 3208 1006 3206 3207 fz_pc_12 fz_pd_5 rfl rfl rfl rfl rfl
set_option maxRecDepth 100000 in
def mX8_listenToSet : fz_M := (yX8_listenToSet, prog_10_method_7_code, 3, none, [(0, .aload_n 0, 1, 0, 0, 0), (1, .getfield 15, 3, 4, 8, 1164), (4, .iconst 0, 1, 0, 0, 0), (5, .invokestatic 94, 3, 3209, 1, 0), (8, .iconst 0, 1, 0, 0, 0), (9, .istore_n 2, 1, 0, 0, 0), (10, .iload_n 2, 1, 0, 0, 0), (11, .aload_n 0, 1, 0, 0, 0), (12, .getfield 41, 3, 1, 8, 1160), (15, .getfield 79, 3, 5, 4, 1090), (18, .if_icmp .ge 37, 3, 0, 0, 0), (21, .iload_n 1, 1, 0, 0, 0), (22, .iload_n 2, 1, 0, 0, 0), (23, .ishr, 1, 0, 0, 0), (24, .iconst 1, 1, 0, 0, 0), (25, .iand, 1, 0, 0, 0), (26, .iconst 1, 1, 0, 0, 0), (27, .if_icmp .ne 22, 3, 0, 0, 0), (30, .aload_n 0, 1, 0, 0, 0), (31, .aload_n 0, 1, 0, 0, 0), (32, .getfield 41, 3, 1, 8, 1160), (35, .getfield 70, 3, 3, 4, 1084), (38, .iload_n 2, 1, 0, 0, 0), (39, .iaload, 1, 0, 0, 0), (40, .aload_n 0, 1, 0, 0, 0), (41, .getfield 23, 3, 6, 8, 1167), (44, .iload_n 2, 1, 0, 0, 0), (45, .iaload, 1, 0, 0, 0), (46, .invokevirtual 100, 3, 3210, 263, 0), (49, .iinc 2 1, 3, 0, 0, 0), (52, .goto (-42), 3, 0, 0, 0), (55, .return_, 1, 0, 0, 0)])
set_option maxRecDepth 100000 in
theorem kX8_listenToSet : fz_okM mX8_listenToSet = true := fz_okM_in (by decide +kernel) (by decide +kernel)
set_option maxRecDepth 100000 in
theorem vX8_listenToSet : fz_vM mX8_listenToSet 1 false := fz_vI2 4124 1006 4122 4123 fz_pc_12 fz_pd_22 rfl rfl rfl rfl rfl
set_option maxRecDepth 100000 in
def mX8_loudestMark : fz_M := (yX8_loudestMark, prog_10_method_13_code, 4, (some .int), [(0, .bipush (-2), 2, 0, 0, 0), (2, .istore_n 1, 1, 0, 0, 0), (3, .iconst 0, 1, 0, 0, 0), (4, .istore_n 2, 1, 0, 0, 0), (5, .iconst 0, 1, 0, 0, 0), (6, .istore_n 3, 1, 0, 0, 0), (7, .iload_n 3, 1, 0, 0, 0), (8, .iconst 5, 1, 0, 0, 0), (9, .if_icmp .ge 28, 3, 0, 0, 0), (12, .aload_n 0, 1, 0, 0, 0), (13, .getfield 15, 3, 4, 8, 1164), (16, .iload_n 3, 1, 0, 0, 0), (17, .iaload, 1, 0, 0, 0), (18, .iload_n 2, 1, 0, 0, 0), (19, .if_icmp .le 12, 3, 0, 0, 0), (22, .iload_n 3, 1, 0, 0, 0), (23, .istore_n 1, 1, 0, 0, 0), (24, .aload_n 0, 1, 0, 0, 0), (25, .getfield 15, 3, 4, 8, 1164), (28, .iload_n 3, 1, 0, 0, 0), (29, .iaload, 1, 0, 0, 0), (30, .istore_n 2, 1, 0, 0, 0), (31, .iinc 3 1, 3, 0, 0, 0), (34, .goto (-27), 3, 0, 0, 0), (37, .iload_n 1, 1, 0, 0, 0), (38, .ireturn, 1, 0, 0, 0)])
set_option maxRecDepth 100000 in
theorem kX8_loudestMark : fz_okM mX8_loudestMark = true := fz_okM_in (by decide +kernel) (by decide +kernel)
set_option maxRecDepth 100000 in
theorem vX8_loudestMark : fz_vM mX8_loudestMark 0 false := fz_vI2 3233 1006 3231 3232 fz_pc_12 fz_pd_7 rfl rfl rfl rfl rfl
set_option maxRecDepth 100000 in
def mX8_loudestOf : fz_M := (yX8_loudestOf, prog_10_method_4_code, 6, (some .int), [(0, .iconst 0, 1, 0, 0, 0), (1, .istore 4, 2, 0, 0, 0), (3, .iconst 0, 1, 0, 0, 0), (4, .istore 5, 2, 0, 0, 0), (6, .iload 5, 2, 0, 0, 0), (8, .aload_n 0, 1, 0, 0, 0), (9, .getfield 41, 3, 1, 8, 1160), (12, .getfield 79, 3, 5, 4, 1090), (15, .if_icmp .ge 56, 3, 0, 0, 0), (18, .aload_n 0, 1, 0, 0, 0), (19, .getfield 41, 3, 1, 8, 1160), (22, .getfield 82, 3, 0, 4, 1075), (25, .iload 5, 2, 0, 0, 0), (27, .iaload, 1, 0, 0, 0), (28, .bipush 10, 2, 0, 0, 0), (30, .imul, 1, 0, 0, 0), (31, .aload_n 0, 1, 0, 0, 0), (32, .getfield 41, 3, 1, 8, 1160), (35, .getfield 70, 3, 3, 4, 1084), (38, .iload 5, 2, 0, 0, 0), (40, .iaload, 1, 0, 0, 0), (41, .iadd, 1, 0, 0, 0), (42, .iload_n 1, 1, 0, 0, 0), (43, .if_icmp .ne 22, 3, 0, 0, 0), (46, .iload 4, 2, 0, 0, 0), (48, .aload_n 0, 1, 0, 0, 0), (49, .iload 5, 2, 0, 0, 0), (51, .iload_n 1, 1, 0, 0, 0), (52, .bipush 10, 2, 0, 0, 0), (54, .idiv, 1, 0, 0, 0), (55, .iload_n 2, 1, 0, 0, 0), (56, .iload_n 3, 1, 0, 0, 0), (57, .invokevirtual 85, 3, 3199, 260, 0), (60, .invokestatic 89, 3, 3200, 5, 0), (63, .istore 4, 2, 0, 0, 0), (65, .iinc 5 1, 3, 0, 0, 0), (68, .goto (-62), 3, 0, 0, 0), (71, .iload 4, 2, 0, 0, 0), (73, .ireturn, 1, 0, 0, 0)])
set_option maxRecDepth 100000 in
theorem kX8_loudestOf : fz_okM mX8_loudestOf = true := fz_okM_in (by decide +kernel) (by decide +kernel)
set_option maxRecDepth 100000 in
theorem vX8_loudestOf : fz_vM mX8_loudestOf 3 false := fz_vI2 3198 1006 3196 3197 fz_pc_12 fz_pd_8 rfl rfl rfl rfl rfl
set_option maxRecDepth 100000 in
def mX8_loudness : fz_M := (yX8_loudness, prog_10_method_3_code, 6, (some .int), [(0, .aload_n 0, 1, 0, 0, 0), (1, .iload_n 1, 1, 0, 0, 0), (2, .iload_n 3, 1, 0, 0, 0), (3, .invokevirtual 64, 3, 3175, 253, 0), (6, .istore 5, 2, 0, 0, 0), (8, .iload 5, 2, 0, 0, 0), (10, .ifCond .lt 10, 3, 0, 0, 0), (13, .iload 5, 2, 0, 0, 0), (15, .iload 4, 2, 0, 0, 0), (17, .if_icmp .le 5, 3, 0, 0, 0), (20, .iconst 0, 1, 0, 0, 0), (21, .ireturn, 1, 0, 0, 0), (22, .aload_n 0, 1, 0, 0, 0), (23, .getfield 45, 3, 2, 8, 1161), (26, .aload_n 0, 1, 0, 0, 0), (27, .getfield 41, 3, 1, 8, 1160), (30, .getfield 67, 3, 4, 4, 1087), (33, .iload_n 1, 1, 0, 0, 0), (34, .iaload, 1, 0, 0, 0), (35, .iload 4, 2, 0, 0, 0), (37, .iload 5, 2, 0, 0, 0), (39, .isub, 1, 0, 0, 0), (40, .iload 5, 2, 0, 0, 0), (42, .aload_n 0, 1, 0, 0, 0), (43, .getfield 41, 3, 1, 8, 1160), (46, .getfield 58, 3, 2, 4, 1081), (49, .iload_n 1, 1, 0, 0, 0), (50, .iaload, 1, 0, 0, 0), (51, .isub, 1, 0, 0, 0), (52, .aload_n 0, 1, 0, 0, 0), (53, .getfield 41, 3, 1, 8, 1160), (56, .getfield 70, 3, 3, 4, 1084), (59, .iload_n 1, 1, 0, 0, 0), (60, .iaload, 1, 0, 0, 0), (61, .iload_n 3, 1, 0, 0, 0), (62, .iload_n 2, 1, 0, 0, 0), (63, .invokevirtual 73, 3, 3176, 211, 0), (66, .ireturn, 1, 0, 0, 0)])
set_option maxRecDepth 100000 in
theorem kX8_loudness : fz_okM mX8_loudness = true := fz_okM_in (by decide +kernel) (by decide +kernel)
set_option maxRecDepth 100000 in
theorem vX8_loudness : fz_vM mX8_loudness 4 false := fz_vI2 3174 1006 3172 3173 fz_pc_12 fz_pd_13 rfl rfl rfl rfl rfl
set_option maxRecDepth 100000 in
def mX8_marksAlike : fz_M := (yX8_marksAlike, prog_10_method_14_code, 7, (some .int), [(0, .aload_n 0, 1, 0, 0, 0), (1, .iload_n 2, 1, 0, 0, 0), (2, .iload_n 2, 1, 0, 0, 0), (3, .iload_n 3, 1, 0, 0, 0), (4, .iload 4, 2, 0, 0, 0), (6, .invokevirtual 108, 3, 4091, 256, 0), (9, .aload_n 0, 1, 0, 0, 0), (10, .getfield 15, 3, 4, 8, 1164), (13, .iconst 0, 1, 0, 0, 0), (14, .aload_n 0, 1, 0, 0, 0), (15, .getfield 18, 3, 5, 8, 1166), (18, .iconst 0, 1, 0, 0, 0), (19, .iconst 5, 1, 0, 0, 0), (20, .invokestatic 112, 3, 4092, 276, 0), (23, .aload_n 0, 1, 0, 0, 0), (24, .iload_n 1, 1, 0, 0, 0), (25, .iload_n 1, 1, 0, 0, 0), (26, .iload_n 3, 1, 0, 0, 0), (27, .iload 4, 2, 0, 0, 0), (29, .invokevirtual 108, 3, 4091, 256, 0), (32, .iconst 0, 1, 0, 0, 0), (33, .istore 5, 2, 0, 0, 0), (35, .iconst 0, 1, 0, 0, 0), (36, .istore 6, 2, 0, 0, 0), (38, .iload 6, 2, 0, 0, 0), (40, .iconst 5, 1, 0, 0, 0), (41, .if_icmp .ge 36, 3, 0, 0, 0), (44, .iload 5, 2, 0, 0, 0), (46, .aload_n 0, 1, 0, 0, 0), (47, .getfield 15, 3, 4, 8, 1164), (50, .iload 6, 2, 0, 0, 0), (52, .iaload, 1, 0, 0, 0), (53, .aload_n 0, 1, 0, 0, 0), (54, .getfield 18, 3, 5, 8, 1166), (57, .iload 6, 2, 0, 0, 0), (59, .iaload, 1, 0, 0, 0), (60, .if_icmp .ne 7, 3, 0, 0, 0), (63, .iconst 1, 1, 0, 0, 0), (64, .goto 4, 3, 0, 0, 0), (67, .iconst 0, 1, 0, 0, 0), (68, .iadd, 1, 0, 0, 0), (69, .istore 5, 2, 0, 0, 0), (71, .iinc 6 1, 3, 0, 0, 0), (74, .goto (-36), 3, 0, 0, 0), (77, .iload 5, 2, 0, 0, 0), (79, .ireturn, 1, 0, 0, 0)])
set_option maxRecDepth 100000 in
theorem kX8_marksAlike : fz_okM mX8_marksAlike = true := fz_okM_in (by decide +kernel) (by decide +kernel)
set_option maxRecDepth 100000 in
theorem vX8_marksAlike : fz_vM mX8_marksAlike 4 false := fz_vI2 4090 1006 4088 4089 fz_pc_12 fz_pd_13 rfl rfl rfl rfl rfl
set_option maxRecDepth 100000 in
def mX8_marksSaid : fz_M := (yX8_marksSaid, prog_10_method_12_code, 3, (some .int), [(0, .iconst 0, 1, 0, 0, 0), (1, .istore_n 1, 1, 0, 0, 0), (2, .iconst 0, 1, 0, 0, 0), (3, .istore_n 2, 1, 0, 0, 0), (4, .iload_n 2, 1, 0, 0, 0), (5, .iconst 5, 1, 0, 0, 0), (6, .if_icmp .ge 26, 3, 0, 0, 0), (9, .iload_n 1, 1, 0, 0, 0), (10, .aload_n 0, 1, 0, 0, 0), (11, .getfield 15, 3, 4, 8, 1164), (14, .iload_n 2, 1, 0, 0, 0), (15, .iaload, 1, 0, 0, 0), (16, .ifCond .le 7, 3, 0, 0, 0), (19, .iconst 1, 1, 0, 0, 0), (20, .goto 4, 3, 0, 0, 0), (23, .iconst 0, 1, 0, 0, 0), (24, .iadd, 1, 0, 0, 0), (25, .istore_n 1, 1, 0, 0, 0), (26, .iinc 2 1, 3, 0, 0, 0), (29, .goto (-25), 3, 0, 0, 0), (32, .iload_n 1, 1, 0, 0, 0), (33, .ireturn, 1, 0, 0, 0)])
set_option maxRecDepth 100000 in
theorem kX8_marksSaid : fz_okM mX8_marksSaid = true := fz_okM_in (by decide +kernel) (by decide +kernel)
set_option maxRecDepth 100000 in
theorem vX8_marksSaid : fz_vM mX8_marksSaid 0 false := fz_vI2 3229 1006 3227 3228 fz_pc_12 fz_pd_7 rfl rfl rfl rfl rfl
set_option maxRecDepth 100000 in
def mX8_raise : fz_M := (yX8_raise, prog_10_method_8_code, 3, none, [(0, .aload_n 0, 1, 0, 0, 0), (1, .getfield 15, 3, 4, 8, 1164), (4, .iload_n 1, 1, 0, 0, 0), (5, .aload_n 0, 1, 0, 0, 0), (6, .getfield 15, 3, 4, 8, 1164), (9, .iload_n 1, 1, 0, 0, 0), (10, .iaload, 1, 0, 0, 0), (11, .iload_n 2, 1, 0, 0, 0), (12, .invokestatic 89, 3, 3200, 5, 0), (15, .iastore, 1, 0, 0, 0), (16, .return_, 1, 0, 0, 0)])
set_option maxRecDepth 100000 in
theorem kX8_raise : fz_okM mX8_raise = true := fz_okM_in (by decide +kernel) (by decide +kernel)
set_option maxRecDepth 100000 in
theorem vX8_raise : fz_vM mX8_raise 2 false := fz_vI2 3213 1006 3212 28 fz_pc_12 fz_pd_20 rfl rfl rfl rfl rfl
set_option maxRecDepth 100000 in
def mX8_reception : fz_M := (yX8_reception, prog_10_method_9_code, 3, (some .int), [(0, .iconst 0, 1, 0, 0, 0), (1, .istore_n 1, 1, 0, 0, 0), (2, .iconst 0, 1, 0, 0, 0), (3, .istore_n 2, 1, 0, 0, 0), (4, .iload_n 2, 1, 0, 0, 0), (5, .iconst 5, 1, 0, 0, 0), (6, .if_icmp .ge 25, 3, 0, 0, 0), (9, .iload_n 1, 1, 0, 0, 0), (10, .aload_n 0, 1, 0, 0, 0), (11, .getfield 15, 3, 4, 8, 1164), (14, .iload_n 2, 1, 0, 0, 0), (15, .iaload, 1, 0, 0, 0), (16, .aload_n 0, 1, 0, 0, 0), (17, .getfield 9, 3, 3, 8, 1162), (20, .iload_n 2, 1, 0, 0, 0), (21, .iaload, 1, 0, 0, 0), (22, .imul, 1, 0, 0, 0), (23, .iadd, 1, 0, 0, 0), (24, .istore_n 1, 1, 0, 0, 0), (25, .iinc 2 1, 3, 0, 0, 0), (28, .goto (-24), 3, 0, 0, 0), (31, .iload_n 1, 1, 0, 0, 0), (32, .ireturn, 1, 0, 0, 0)])
set_option maxRecDepth 100000 in
theorem kX8_reception : fz_okM mX8_reception = true := fz_okM_in (by decide +kernel) (by decide +kernel)
set_option maxRecDepth 100000 in
theorem vX8_reception : fz_vM mX8_reception 0 false := fz_vI2 3217 1006 3215 3216 fz_pc_12 fz_pd_7 rfl rfl rfl rfl rfl
set_option maxRecDepth 100000 in
def mX8_weigh : fz_M := (yX8_weigh, prog_10_method_6_code, 6, (some .int), [(0, .iconst 0, 1, 0, 0, 0), (1, .istore 4, 2, 0, 0, 0), (3, .iconst 0, 1, 0, 0, 0), (4, .istore 5, 2, 0, 0, 0), (6, .iload 5, 2, 0, 0, 0), (8, .aload_n 0, 1, 0, 0, 0), (9, .getfield 41, 3, 1, 8, 1160), (12, .getfield 79, 3, 5, 4, 1090), (15, .if_icmp .ge 48, 3, 0, 0, 0), (18, .aload_n 0, 1, 0, 0, 0), (19, .getfield 41, 3, 1, 8, 1160), (22, .getfield 82, 3, 0, 4, 1075), (25, .iload 5, 2, 0, 0, 0), (27, .iaload, 1, 0, 0, 0), (28, .iload_n 1, 1, 0, 0, 0), (29, .if_icmp .ne 28, 3, 0, 0, 0), (32, .iload 4, 2, 0, 0, 0), (34, .iconst 1, 1, 0, 0, 0), (35, .iload 5, 2, 0, 0, 0), (37, .ishl, 1, 0, 0, 0), (38, .ior, 1, 0, 0, 0), (39, .istore 4, 2, 0, 0, 0), (41, .aload_n 0, 1, 0, 0, 0), (42, .getfield 23, 3, 6, 8, 1167), (45, .iload 5, 2, 0, 0, 0), (47, .aload_n 0, 1, 0, 0, 0), (48, .iload 5, 2, 0, 0, 0), (50, .iload_n 1, 1, 0, 0, 0), (51, .iload_n 2, 1, 0, 0, 0), (52, .iload_n 3, 1, 0, 0, 0), (53, .invokevirtual 85, 3, 3199, 260, 0), (56, .iastore, 1, 0, 0, 0), (57, .iinc 5 1, 3, 0, 0, 0), (60, .goto (-54), 3, 0, 0, 0), (63, .iload 4, 2, 0, 0, 0), (65, .ireturn, 1, 0, 0, 0)])
set_option maxRecDepth 100000 in
theorem kX8_weigh : fz_okM mX8_weigh = true := fz_okM_in (by decide +kernel) (by decide +kernel)
set_option maxRecDepth 100000 in
theorem vX8_weigh : fz_vM mX8_weigh 3 false := fz_vI2 4116 1006 4114 4115 fz_pc_12 fz_pd_8 rfl rfl rfl rfl rfl
set_option maxRecDepth 100000 in
def mX9_add : fz_M := (yX9_add, prog_11_method_4_code, 2, (some .int), [(0, .aload_n 0, 1, 0, 0, 0), (1, .getfield 18, 3, 2, 9, 2068), (4, .bipush 50, 2, 0, 0, 0), (6, .if_icmp .lt 6, 3, 0, 0, 0), (9, .bipush (-3), 2, 0, 0, 0), (11, .ireturn, 1, 0, 0, 0), (12, .aload_n 0, 1, 0, 0, 0), (13, .getfield 11, 3, 0, 9, 2065), (16, .aload_n 0, 1, 0, 0, 0), (17, .getfield 18, 3, 2, 9, 2068), (20, .iload_n 1, 1, 0, 0, 0), (21, .iastore, 1, 0, 0, 0), (22, .aload_n 0, 1, 0, 0, 0), (23, .dup, 1, 0, 0, 0), (24, .getfield 18, 3, 2, 9, 2068), (27, .iconst 1, 1, 0, 0, 0), (28, .iadd, 1, 0, 0, 0), (29, .putfield 18, 3, 2, 9, 2068), (32, .aload_n 0, 1, 0, 0, 0), (33, .getfield 18, 3, 2, 9, 2068), (36, .iconst 1, 1, 0, 0, 0), (37, .isub, 1, 0, 0, 0), (38, .ireturn, 1, 0, 0, 0)])
set_option maxRecDepth 100000 in
theorem kX9_add : fz_okM mX9_add = true := fz_okM_in (by decide +kernel) (by decide +kernel)
set_option maxRecDepth 100000 in
theorem vX9_add : fz_vM mX9_add 1 false := fz_vI2 4219 1010 4217 4218 fz_pc_13 fz_pd_0 rfl rfl rfl rfl rfl
set_option maxRecDepth 100000 in
def mX9_isBody : fz_M := (yX9_isBody, prog_11_method_3_code, 2, (some .boolean), [(0, .iload_n 1, 1, 0, 0, 0), (1, .ifCond .lt 15, 3, 0, 0, 0), (4, .iload_n 1, 1, 0, 0, 0), (5, .aload_n 0, 1, 0, 0, 0), (6, .getfield 18, 3, 2, 9, 2068), (9, .if_icmp .ge 7, 3, 0, 0, 0), (12, .iconst 1, 1, 0, 0, 0), (13, .goto 4, 3, 0, 0, 0), (16, .iconst 0, 1, 0, 0, 0), (17, .ireturn, 1, 0, 0, 0)])
set_option maxRecDepth 100000 in
theorem kX9_isBody : fz_okM mX9_isBody = true := fz_okM_in (by decide +kernel) (by decide +kernel)
set_option maxRecDepth 100000 in
theorem vX9_isBody : fz_vM mX9_isBody 1 false := fz_vI2 4231 1010 4229 4230 fz_pc_13 fz_pd_9 rfl rfl rfl rfl rfl
set_option maxRecDepth 100000 in
def mX9_isKind : fz_M := (yX9_isKind, prog_11_method_2_code, 2, (some .boolean), [(0, .iload_n 1, 1, 0, 0, 0), (1, .ifCond .lt 13, 3, 0, 0, 0), (4, .iload_n 1, 1, 0, 0, 0), (5, .bipush 8, 2, 0, 0, 0), (7, .if_icmp .ge 7, 3, 0, 0, 0), (10, .iconst 1, 1, 0, 0, 0), (11, .goto 4, 3, 0, 0, 0), (14, .iconst 0, 1, 0, 0, 0), (15, .ireturn, 1, 0, 0, 0)])
set_option maxRecDepth 100000 in
theorem kX9_isKind : fz_okM mX9_isKind = true := fz_okM_in (by decide +kernel) (by decide +kernel)
set_option maxRecDepth 100000 in
theorem vX9_isKind : fz_vM mX9_isKind 1 false := fz_vI2 4215 1010 4213 4214 fz_pc_13 fz_pd_9 rfl rfl rfl rfl rfl
set_option maxRecDepth 100000 in
def mX9_isUnder : fz_M := (yX9_isUnder, prog_11_method_6_code, 5, (some .boolean), [(0, .iload_n 1, 1, 0, 0, 0), (1, .istore_n 3, 1, 0, 0, 0), (2, .iconst 0, 1, 0, 0, 0), (3, .istore 4, 2, 0, 0, 0), (5, .iload 4, 2, 0, 0, 0), (7, .bipush 8, 2, 0, 0, 0), (9, .if_icmp .ge 30, 3, 0, 0, 0), (12, .aload_n 0, 1, 0, 0, 0), (13, .iload_n 3, 1, 0, 0, 0), (14, .invokevirtual 26, 3, 4236, 269, 0), (17, .ifCond .eq 22, 3, 0, 0, 0), (20, .iload_n 3, 1, 0, 0, 0), (21, .iload_n 2, 1, 0, 0, 0), (22, .if_icmp .ne 5, 3, 0, 0, 0), (25, .iconst 1, 1, 0, 0, 0), (26, .ireturn, 1, 0, 0, 0), (27, .getstatic 29, 3, 204, 3, 5002), (30, .iload_n 3, 1, 0, 0, 0), (31, .iaload, 1, 0, 0, 0), (32, .istore_n 3, 1, 0, 0, 0), (33, .iinc 4 1, 3, 0, 0, 0), (36, .goto (-31), 3, 0, 0, 0), (39, .iconst 0, 1, 0, 0, 0), (40, .ireturn, 1, 0, 0, 0)])
set_option maxRecDepth 100000 in
theorem kX9_isUnder : fz_okM mX9_isUnder = true := fz_okM_in (by decide +kernel) (by decide +kernel)
set_option maxRecDepth 100000 in
theorem vX9_isUnder : fz_vM mX9_isUnder 2 false := fz_vI2 5076 1010 5074 5075 fz_pc_13 fz_pd_10 rfl rfl rfl rfl rfl
set_option maxRecDepth 100000 in
def mX9_kindOf : fz_M := (yX9_kindOf, prog_11_method_5_code, 2, (some .int), [(0, .aload_n 0, 1, 0, 0, 0), (1, .iload_n 1, 1, 0, 0, 0), (2, .invokevirtual 22, 3, 4228, 268, 0), (5, .ifCond .eq 12, 3, 0, 0, 0), (8, .aload_n 0, 1, 0, 0, 0), (9, .getfield 11, 3, 0, 9, 2065), (12, .iload_n 1, 1, 0, 0, 0), (13, .iaload, 1, 0, 0, 0), (14, .goto 5, 3, 0, 0, 0), (17, .bipush (-2), 2, 0, 0, 0), (19, .ireturn, 1, 0, 0, 0)])
set_option maxRecDepth 100000 in
theorem kX9_kindOf : fz_okM mX9_kindOf = true := fz_okM_in (by decide +kernel) (by decide +kernel)
set_option maxRecDepth 100000 in
theorem vX9_kindOf : fz_vM mX9_kindOf 1 false := fz_vI2 5072 1010 5070 5071 fz_pc_13 fz_pd_0 rfl rfl rfl rfl rfl
set_option maxRecDepth 100000 in
def mX9_note : fz_M := (yX9_note, prog_11_method_10_code, 2, none, [(0, .aload_n 0, 1, 0, 0, 0), (1, .getfield 32, 3, 3, 9, 2070), (4, .bipush 24, 2, 0, 0, 0), (6, .if_icmp .ge 13, 3, 0, 0, 0), (9, .aload_n 0, 1, 0, 0, 0), (10, .getfield 15, 3, 1, 9, 2066), (13, .aload_n 0, 1, 0, 0, 0), (14, .getfield 32, 3, 3, 9, 2070), (17, .iload_n 1, 1, 0, 0, 0), (18, .iastore, 1, 0, 0, 0), (19, .aload_n 0, 1, 0, 0, 0), (20, .dup, 1, 0, 0, 0), (21, .getfield 32, 3, 3, 9, 2070), (24, .iconst 1, 1, 0, 0, 0), (25, .iadd, 1, 0, 0, 0), (26, .putfield 32, 3, 3, 9, 2070), (29, .return_, 1, 0, 0, 0)])
set_option maxRecDepth 100000 in
theorem kX9_note : fz_okM mX9_note = true := fz_okM_in (by decide +kernel) (by decide +kernel)
set_option maxRecDepth 100000 in
theorem vX9_note : fz_vM mX9_note 1 false := fz_vI2 5007 1010 5006 41 fz_pc_13 fz_pd_22 rfl rfl rfl rfl rfl
set_option maxRecDepth 100000 in
def mX9_ownerFrom : fz_M := (yX9_ownerFrom, prog_11_method_8_code, 4, (some .int), [(0, .iload_n 0, 1, 0, 0, 0), (1, .istore_n 2, 1, 0, 0, 0), (2, .iconst 0, 1, 0, 0, 0), (3, .istore_n 3, 1, 0, 0, 0), (4, .iload_n 3, 1, 0, 0, 0), (5, .bipush 8, 2, 0, 0, 0), (7, .if_icmp .ge 31, 3, 0, 0, 0), (10, .iload_n 2, 1, 0, 0, 0), (11, .ifCond .le 27, 3, 0, 0, 0), (14, .getstatic 45, 3, 203, 2, 5000), (17, .iload_n 2, 1, 0, 0, 0), (18, .iconst 4, 1, 0, 0, 0), (19, .imul, 1, 0, 0, 0), (20, .iload_n 1, 1, 0, 0, 0), (21, .iadd, 1, 0, 0, 0), (22, .iaload, 1, 0, 0, 0), (23, .ifCond .ne 15, 3, 0, 0, 0), (26, .getstatic 29, 3, 204, 3, 5002), (29, .iload_n 2, 1, 0, 0, 0), (30, .iaload, 1, 0, 0, 0), (31, .istore_n 2, 1, 0, 0, 0), (32, .iinc 3 1, 3, 0, 0, 0), (35, .goto (-31), 3, 0, 0, 0), (38, .iload_n 2, 1, 0, 0, 0), (39, .ireturn, 1, 0, 0, 0)])
set_option maxRecDepth 100000 in
theorem kX9_ownerFrom : fz_okM mX9_ownerFrom = true := fz_okM_in (by decide +kernel) (by decide +kernel)
set_option maxRecDepth 100000 in
theorem vX9_ownerFrom : fz_vM mX9_ownerFrom 2 true := fz_vS2 4239 1010 4238 fz_pc_13 fz_pd_11 rfl rfl rfl rfl
set_option maxRecDepth 100000 in
def mX9_run : fz_M := (yX9_run, prog_11_method_9_code, 9, (some .int), [(0, .iload 4, 2, 0, 0, 0), (2, .bipush 40, 2, 0, 0, 0), (4, .if_icmp .gt 20, 3, 0, 0, 0), (7, .aload_n 0, 1, 0, 0, 0), (8, .iload_n 1, 1, 0, 0, 0), (9, .invokevirtual 26, 3, 4236, 269, 0), (12, .ifCond .eq 12, 3, 0, 0, 0), (15, .iload_n 2, 1, 0, 0, 0), (16, .ifCond .lt 8, 3, 0, 0, 0), (19, .iload_n 2, 1, 0, 0, 0), (20, .iconst 4, 1, 0, 0, 0), (21, .if_icmp .lt 5, 3, 0, 0, 0), (24, .iconst 0, 1, 0, 0, 0), (25, .ireturn, 1, 0, 0, 0), (26, .iload_n 1, 1, 0, 0, 0), (27, .iload_n 2, 1, 0, 0, 0), (28, .invokestatic 48, 3, 4237, 273, 0), (31, .istore 5, 2, 0, 0, 0), (33, .getstatic 29, 3, 204, 3, 5002), (36, .iload 5, 2, 0, 0, 0), (38, .iaload, 1, 0, 0, 0), (39, .istore 6, 2, 0, 0, 0), (41, .iload 4, 2, 0, 0, 0), (43, .iconst 1, 1, 0, 0, 0), (44, .iadd, 1, 0, 0, 0), (45, .istore 7, 2, 0, 0, 0), (47, .getstatic 45, 3, 203, 2, 5000), (50, .iload 5, 2, 0, 0, 0), (52, .iconst 4, 1, 0, 0, 0), (53, .imul, 1, 0, 0, 0), (54, .iload_n 2, 1, 0, 0, 0), (55, .iadd, 1, 0, 0, 0), (56, .iaload, 1, 0, 0, 0), (57, .istore 8, 2, 0, 0, 0), (59, .aload_n 0, 1, 0, 0, 0), (60, .iload 8, 2, 0, 0, 0), (62, .invokevirtual 52, 3, 5004, 272, 0), (65, .iload 8, 2, 0, 0, 0), (67, .lookupswitch 306 #[(1, 113), (2, 120), (10, 146), (11, 161), (20, 168), (30, 181), (40, 193), (41, 206), (50, 219), (60, 243), (70, 256), (80, 269), (81, 293)], 113, 0, 0, 0), (180, .iload_n 3, 1, 0, 0, 0), (181, .aload_n 0, 1, 0, 0, 0), (182, .getfield 35, 3, 4, 9, 2072), (185, .iadd, 1, 0, 0, 0), (186, .ireturn, 1, 0, 0, 0), (187, .aload_n 0, 1, 0, 0, 0), (188, .aload_n 0, 1, 0, 0, 0), (189, .getfield 38, 3, 5, 9, 2073), (192, .iconst 1, 1, 0, 0, 0), (193, .iload_n 3, 1, 0, 0, 0), (194, .iload 7, 2, 0, 0, 0), (196, .invokevirtual 41, 3, 4232, 274, 0), (199, .aload_n 0, 1, 0, 0, 0), (200, .aload_n 0, 1, 0, 0, 0), (201, .getfield 38, 3, 5, 9, 2073), (204, .iconst 2, 1, 0, 0, 0), (205, .iconst 1, 1, 0, 0, 0), (206, .iload 7, 2, 0, 0, 0), (208, .invokevirtual 41, 3, 4232, 274, 0), (211, .isub, 1, 0, 0, 0), (212, .ireturn, 1, 0, 0, 0), (213, .aload_n 0, 1, 0, 0, 0), (214, .aload_n 0, 1, 0, 0, 0), (215, .getfield 38, 3, 5, 9, 2073), (218, .iconst 0, 1, 0, 0, 0), (219, .iload_n 3, 1, 0, 0, 0), (220, .iload 7, 2, 0, 0, 0), (222, .invokevirtual 41, 3, 4232, 274, 0), (225, .iconst 2, 1, 0, 0, 0), (226, .imul, 1, 0, 0, 0), (227, .ireturn, 1, 0, 0, 0), (228, .iload_n 3, 1, 0, 0, 0), (229, .aload_n 0, 1, 0, 0, 0), (230, .getfield 35, 3, 4, 9, 2072), (233, .ixor, 1, 0, 0, 0), (234, .ireturn, 1, 0, 0, 0), (235, .aload_n 0, 1, 0, 0, 0), (236, .iload 6, 2, 0, 0, 0), (238, .iconst 0, 1, 0, 0, 0), (239, .iload_n 3, 1, 0, 0, 0), (240, .iload 7, 2, 0, 0, 0), (242, .invokevirtual 41, 3, 4232, 274, 0), (245, .iconst 3, 1, 0, 0, 0), (246, .iadd, 1, 0, 0, 0), (247, .ireturn, 1, 0, 0, 0), (248, .aload_n 0, 1, 0, 0, 0), (249, .iload 6, 2, 0, 0, 0), (251, .iconst 1, 1, 0, 0, 0), (252, .iload_n 3, 1, 0, 0, 0), (253, .iload 7, 2, 0, 0, 0), (255, .invokevirtual 41, 3, 4232, 274, 0), (258, .ineg, 1, 0, 0, 0), (259, .ireturn, 1, 0, 0, 0), (260, .aload_n 0, 1, 0, 0, 0), (261, .iload 6, 2, 0, 0, 0), (263, .iconst 2, 1, 0, 0, 0), (264, .iload_n 3, 1, 0, 0, 0), (265, .iload 7, 2, 0, 0, 0), (267, .invokevirtual 41, 3, 4232, 274, 0), (270, .iconst 3, 1, 0, 0, 0), (271, .imul, 1, 0, 0, 0), (272, .ireturn, 1, 0, 0, 0), (273, .aload_n 0, 1, 0, 0, 0), (274, .iload 6, 2, 0, 0, 0), (276, .iconst 1, 1, 0, 0, 0), (277, .iload_n 3, 1, 0, 0, 0), (278, .iconst 1, 1, 0, 0, 0), (279, .iadd, 1, 0, 0, 0), (280, .iload 7, 2, 0, 0, 0), (282, .invokevirtual 41, 3, 4232, 274, 0), (285, .ireturn, 1, 0, 0, 0), (286, .aload_n 0, 1, 0, 0, 0), (287, .iload 6, 2, 0, 0, 0), (289, .iconst 2, 1, 0, 0, 0), (290, .iload_n 3, 1, 0, 0, 0), (291, .iload 7, 2, 0, 0, 0), (293, .invokevirtual 41, 3, 4232, 274, 0), (296, .aload_n 0, 1, 0, 0, 0), (297, .aload_n 0, 1, 0, 0, 0), (298, .getfield 38, 3, 5, 9, 2073), (301, .iconst 0, 1, 0, 0, 0), (302, .iconst 2, 1, 0, 0, 0), (303, .iload 7, 2, 0, 0, 0), (305, .invokevirtual 41, 3, 4232, 274, 0), (308, .isub, 1, 0, 0, 0), (309, .ireturn, 1, 0, 0, 0), (310, .aload_n 0, 1, 0, 0, 0), (311, .iload 6, 2, 0, 0, 0), (313, .iconst 3, 1, 0, 0, 0), (314, .iload_n 3, 1, 0, 0, 0), (315, .iload 7, 2, 0, 0, 0), (317, .invokevirtual 41, 3, 4232, 274, 0), (320, .iconst 5, 1, 0, 0, 0), (321, .ixor, 1, 0, 0, 0), (322, .ireturn, 1, 0, 0, 0), (323, .aload_n 0, 1, 0, 0, 0), (324, .iload 6, 2, 0, 0, 0), (326, .iconst 0, 1, 0, 0, 0), (327, .iload_n 3, 1, 0, 0, 0), (328, .iload 7, 2, 0, 0, 0), (330, .invokevirtual 41, 3, 4232, 274, 0), (333, .iconst 2, 1, 0, 0, 0), (334, .imul, 1, 0, 0, 0), (335, .ireturn, 1, 0, 0, 0), (336, .aload_n 0, 1, 0, 0, 0), (337, .iload 6, 2, 0, 0, 0), (339, .iconst 1, 1, 0, 0, 0), (340, .iload_n 3, 1, 0, 0, 0), (341, .iload 7, 2, 0, 0, 0), (343, .invokevirtual 41, 3, 4232, 274, 0), (346, .aload_n 0, 1, 0, 0, 0), (347, .aload_n 0, 1, 0, 0, 0), (348, .getfield 38, 3, 5, 9, 2073), (351, .iconst 2, 1, 0, 0, 0), (352, .iconst 2, 1, 0, 0, 0), (353, .iload 7, 2, 0, 0, 0), (355, .invokevirtual 41, 3, 4232, 274, 0), (358, .iadd, 1, 0, 0, 0), (359, .ireturn, 1, 0, 0, 0), (360, .aload_n 0, 1, 0, 0, 0), (361, .iload 6, 2, 0, 0, 0), (363, .iconst 3, 1, 0, 0, 0), (364, .iload_n 3, 1, 0, 0, 0), (365, .iload 7, 2, 0, 0, 0), (367, .invokevirtual 41, 3, 4232, 274, 0), (370, .iconst 1, 1, 0, 0, 0), (371, .isub, 1, 0, 0, 0), (372, .ireturn, 1, 0, 0, 0), (373, .iconst 0, 1, 0, 0, 0), (374, .ireturn, 1, 0, 0, 0)])
set_option maxRecDepth 100000 in
theorem kX9_run : fz_okM mX9_run = true := fz_okM_in (by decide +kernel) (by decide +kernel)
set_option maxRecDepth 100000 in
theorem vX9_run : fz_vM mX9_run 4 false := fz_vI2 4235 1010 4234 40 fz_pc_13 fz_pd_13 rfl rfl rfl rfl rfl
set_option maxRecDepth 100000 in
def mX9_start : fz_M := (yX9_start, prog_11_method_7_code, 4, (some .int), [(0, .aload_n 0, 1, 0, 0, 0), (1, .iconst 0, 1, 0, 0, 0), (2, .putfield 32, 3, 3, 9, 2070), (5, .aload_n 0, 1, 0, 0, 0), (6, .iload_n 1, 1, 0, 0, 0), (7, .invokevirtual 22, 3, 4228, 268, 0), (10, .ifCond .eq 12, 3, 0, 0, 0), (13, .iload_n 2, 1, 0, 0, 0), (14, .ifCond .lt 8, 3, 0, 0, 0), (17, .iload_n 2, 1, 0, 0, 0), (18, .iconst 4, 1, 0, 0, 0), (19, .if_icmp .lt 5, 3, 0, 0, 0), (22, .iconst 0, 1, 0, 0, 0), (23, .ireturn, 1, 0, 0, 0), (24, .aload_n 0, 1, 0, 0, 0), (25, .iload_n 1, 1, 0, 0, 0), (26, .putfield 35, 3, 4, 9, 2072), (29, .aload_n 0, 1, 0, 0, 0), (30, .aload_n 0, 1, 0, 0, 0), (31, .getfield 11, 3, 0, 9, 2065), (34, .iload_n 1, 1, 0, 0, 0), (35, .iaload, 1, 0, 0, 0), (36, .putfield 38, 3, 5, 9, 2073), (39, .aload_n 0, 1, 0, 0, 0), (40, .aload_n 0, 1, 0, 0, 0), (41, .getfield 38, 3, 5, 9, 2073), (44, .iload_n 2, 1, 0, 0, 0), (45, .iload_n 3, 1, 0, 0, 0), (46, .iconst 0, 1, 0, 0, 0), (47, .invokevirtual 41, 3, 4232, 274, 0), (50, .ireturn, 1, 0, 0, 0)])
set_option maxRecDepth 100000 in
theorem kX9_start : fz_okM mX9_start = true := fz_okM_in (by decide +kernel) (by decide +kernel)
set_option maxRecDepth 100000 in
theorem vX9_start : fz_vM mX9_start 3 false := fz_vI2 4227 1010 4225 4226 fz_pc_13 fz_pd_8 rfl rfl rfl rfl rfl
