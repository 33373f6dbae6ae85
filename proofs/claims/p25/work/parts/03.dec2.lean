theorem dX6_reasonOf_23 : decode cX6_reasonOf 23 = .ok (.bipush 61, 2) := by decide +kernel
theorem dX6_reasonOf_25 : decode cX6_reasonOf 25 = .ok (.if_icmp .ne 7, 3) := by decide +kernel
theorem dX6_reasonOf_28 : decode cX6_reasonOf 28 = .ok (.iconst 0, 1) := by decide +kernel
theorem dX6_reasonOf_29 : decode cX6_reasonOf 29 = .ok (.goto 4, 3) := by decide +kernel
theorem dX6_reasonOf_32 : decode cX6_reasonOf 32 = .ok (.iconst 1, 1) := by decide +kernel
theorem dX6_reasonOf_33 : decode cX6_reasonOf 33 = .ok (.ireturn, 1) := by decide +kernel
theorem dX6_reasonOf_34 : decode cX6_reasonOf 34 = .ok (.iload_n 0, 1) := by decide +kernel
theorem dX6_reasonOf_35 : decode cX6_reasonOf 35 = .ok (.bipush 59, 2) := by decide +kernel
theorem dX6_reasonOf_37 : decode cX6_reasonOf 37 = .ok (.if_icmp .ne 5, 3) := by decide +kernel
theorem dX6_reasonOf_40 : decode cX6_reasonOf 40 = .ok (.iconst 0, 1) := by decide +kernel
theorem dX6_reasonOf_41 : decode cX6_reasonOf 41 = .ok (.ireturn, 1) := by decide +kernel
theorem dX6_reasonOf_42 : decode cX6_reasonOf 42 = .ok (.iload_n 0, 1) := by decide +kernel
theorem dX6_reasonOf_43 : decode cX6_reasonOf 43 = .ok (.invokestatic 37, 3) := by decide +kernel
theorem dX6_reasonOf_46 : decode cX6_reasonOf 46 = .ok (.ifCond .ne 5, 3) := by decide +kernel
theorem dX6_reasonOf_49 : decode cX6_reasonOf 49 = .ok (.iconst 1, 1) := by decide +kernel
theorem dX6_reasonOf_50 : decode cX6_reasonOf 50 = .ok (.ireturn, 1) := by decide +kernel
theorem dX6_reasonOf_51 : decode cX6_reasonOf 51 = .ok (.iload_n 0, 1) := by decide +kernel
theorem dX6_reasonOf_52 : decode cX6_reasonOf 52 = .ok (.bipush 97, 2) := by decide +kernel
theorem dX6_reasonOf_54 : decode cX6_reasonOf 54 = .ok (.isub, 1) := by decide +kernel
theorem dX6_reasonOf_55 : decode cX6_reasonOf 55 = .ok (.iload_n 2, 1) := by decide +kernel
theorem dX6_reasonOf_56 : decode cX6_reasonOf 56 = .ok (.if_icmp .lt 5, 3) := by decide +kernel
theorem dX6_reasonOf_59 : decode cX6_reasonOf 59 = .ok (.iconst 2, 1) := by decide +kernel
theorem dX6_reasonOf_60 : decode cX6_reasonOf 60 = .ok (.ireturn, 1) := by decide +kernel
theorem dX6_reasonOf_61 : decode cX6_reasonOf 61 = .ok (.iload_n 1, 1) := by decide +kernel
theorem dX6_reasonOf_62 : decode cX6_reasonOf 62 = .ok (.iconst 5, 1) := by decide +kernel
theorem dX6_reasonOf_63 : decode cX6_reasonOf 63 = .ok (.if_icmp .ne 7, 3) := by decide +kernel
theorem dX6_reasonOf_66 : decode cX6_reasonOf 66 = .ok (.iconst 3, 1) := by decide +kernel
theorem dX6_reasonOf_67 : decode cX6_reasonOf 67 = .ok (.goto 4, 3) := by decide +kernel
theorem dX6_reasonOf_70 : decode cX6_reasonOf 70 = .ok (.iconst 0, 1) := by decide +kernel
theorem dX6_reasonOf_71 : decode cX6_reasonOf 71 = .ok (.ireturn, 1) := by decide +kernel
theorem dX6_isFieldDigit_0 : decode cX6_isFieldDigit 0 = .ok (.iload_n 0, 1) := by decide +kernel
theorem dX6_isFieldDigit_1 : decode cX6_isFieldDigit 1 = .ok (.bipush 48, 2) := by decide +kernel
theorem dX6_isFieldDigit_3 : decode cX6_isFieldDigit 3 = .ok (.bipush 53, 2) := by decide +kernel
theorem dX6_isFieldDigit_5 : decode cX6_isFieldDigit 5 = .ok (.invokestatic 40, 3) := by decide +kernel
theorem dX6_isFieldDigit_8 : decode cX6_isFieldDigit 8 = .ok (.ireturn, 1) := by decide +kernel
theorem dX6_isLetter_0 : decode cX6_isLetter 0 = .ok (.iload_n 0, 1) := by decide +kernel
theorem dX6_isLetter_1 : decode cX6_isLetter 1 = .ok (.bipush 97, 2) := by decide +kernel
theorem dX6_isLetter_3 : decode cX6_isLetter 3 = .ok (.bipush 108, 2) := by decide +kernel
theorem dX6_isLetter_5 : decode cX6_isLetter 5 = .ok (.invokestatic 40, 3) := by decide +kernel
theorem dX6_isLetter_8 : decode cX6_isLetter 8 = .ok (.ireturn, 1) := by decide +kernel
theorem dX7_init_0 : decode cX7_init 0 = .ok (.aload_n 0, 1) := by decide +kernel
theorem dX7_init_1 : decode cX7_init 1 = .ok (.invokespecial 3, 3) := by decide +kernel
theorem dX7_init_4 : decode cX7_init 4 = .ok (.aload_n 0, 1) := by decide +kernel
theorem dX7_init_5 : decode cX7_init 5 = .ok (.bipush 6, 2) := by decide +kernel
theorem dX7_init_7 : decode cX7_init 7 = .ok (.newarray .int, 2) := by decide +kernel
theorem dX7_init_9 : decode cX7_init 9 = .ok (.putfield 9, 3) := by decide +kernel
theorem dX7_init_12 : decode cX7_init 12 = .ok (.aload_n 0, 1) := by decide +kernel
theorem dX7_init_13 : decode cX7_init 13 = .ok (.bipush 18, 2) := by decide +kernel
theorem dX7_init_15 : decode cX7_init 15 = .ok (.newarray .int, 2) := by decide +kernel
theorem dX7_init_17 : decode cX7_init 17 = .ok (.putfield 15, 3) := by decide +kernel
theorem dX7_init_20 : decode cX7_init 20 = .ok (.return_, 1) := by decide +kernel
theorem dX7_append_0 : decode cX7_append 0 = .ok (.aload_n 0, 1) := by decide +kernel
theorem dX7_append_1 : decode cX7_append 1 = .ok (.getfield 15, 3) := by decide +kernel
theorem dX7_append_4 : decode cX7_append 4 = .ok (.iload_n 1, 1) := by decide +kernel
theorem dX7_append_5 : decode cX7_append 5 = .ok (.aload_n 0, 1) := by decide +kernel
theorem dX7_append_6 : decode cX7_append 6 = .ok (.getfield 9, 3) := by decide +kernel
theorem dX7_append_9 : decode cX7_append 9 = .ok (.iload_n 1, 1) := by decide +kernel
theorem dX7_append_10 : decode cX7_append 10 = .ok (.iaload, 1) := by decide +kernel
theorem dX7_append_11 : decode cX7_append 11 = .ok (.invokestatic 18, 3) := by decide +kernel
theorem dX7_append_14 : decode cX7_append 14 = .ok (.iload_n 2, 1) := by decide +kernel
theorem dX7_append_15 : decode cX7_append 15 = .ok (.iastore, 1) := by decide +kernel
theorem dX7_append_16 : decode cX7_append 16 = .ok (.aload_n 0, 1) := by decide +kernel
theorem dX7_append_17 : decode cX7_append 17 = .ok (.getfield 9, 3) := by decide +kernel
theorem dX7_append_20 : decode cX7_append 20 = .ok (.iload_n 1, 1) := by decide +kernel
theorem dX7_append_21 : decode cX7_append 21 = .ok (.dup2, 1) := by decide +kernel
theorem dX7_append_22 : decode cX7_append 22 = .ok (.iaload, 1) := by decide +kernel
theorem dX7_append_23 : decode cX7_append 23 = .ok (.iconst 1, 1) := by decide +kernel
theorem dX7_append_24 : decode cX7_append 24 = .ok (.iadd, 1) := by decide +kernel
theorem dX7_append_25 : decode cX7_append 25 = .ok (.iastore, 1) := by decide +kernel
theorem dX7_append_26 : decode cX7_append 26 = .ok (.return_, 1) := by decide +kernel
theorem dX7_colorsTogether_0 : decode cX7_colorsTogether 0 = .ok (.iconst 0, 1) := by decide +kernel
theorem dX7_colorsTogether_1 : decode cX7_colorsTogether 1 = .ok (.istore_n 1, 1) := by decide +kernel
theorem dX7_colorsTogether_2 : decode cX7_colorsTogether 2 = .ok (.iconst 0, 1) := by decide +kernel
theorem dX7_colorsTogether_3 : decode cX7_colorsTogether 3 = .ok (.istore_n 2, 1) := by decide +kernel
theorem dX7_colorsTogether_4 : decode cX7_colorsTogether 4 = .ok (.iload_n 2, 1) := by decide +kernel
theorem dX7_colorsTogether_5 : decode cX7_colorsTogether 5 = .ok (.bipush 6, 2) := by decide +kernel
theorem dX7_colorsTogether_7 : decode cX7_colorsTogether 7 = .ok (.if_icmp .ge 18, 3) := by decide +kernel
theorem dX7_colorsTogether_10 : decode cX7_colorsTogether 10 = .ok (.iload_n 1, 1) := by decide +kernel
theorem dX7_colorsTogether_11 : decode cX7_colorsTogether 11 = .ok (.aload_n 0, 1) := by decide +kernel
theorem dX7_colorsTogether_12 : decode cX7_colorsTogether 12 = .ok (.getfield 9, 3) := by decide +kernel
theorem dX7_colorsTogether_15 : decode cX7_colorsTogether 15 = .ok (.iload_n 2, 1) := by decide +kernel
theorem dX7_colorsTogether_16 : decode cX7_colorsTogether 16 = .ok (.iaload, 1) := by decide +kernel
theorem dX7_colorsTogether_17 : decode cX7_colorsTogether 17 = .ok (.iadd, 1) := by decide +kernel
theorem dX7_colorsTogether_18 : decode cX7_colorsTogether 18 = .ok (.istore_n 1, 1) := by decide +kernel
theorem dX7_colorsTogether_19 : decode cX7_colorsTogether 19 = .ok (.iinc 2 1, 3) := by decide +kernel
theorem dX7_colorsTogether_22 : decode cX7_colorsTogether 22 = .ok (.goto (-18), 3) := by decide +kernel
theorem dX7_colorsTogether_25 : decode cX7_colorsTogether 25 = .ok (.iload_n 1, 1) := by decide +kernel
theorem dX7_colorsTogether_26 : decode cX7_colorsTogether 26 = .ok (.ireturn, 1) := by decide +kernel
theorem dX7_timesOfColor_0 : decode cX7_timesOfColor 0 = .ok (.iconst 0, 1) := by decide +kernel
theorem dX7_timesOfColor_1 : decode cX7_timesOfColor 1 = .ok (.istore_n 2, 1) := by decide +kernel
theorem dX7_timesOfColor_2 : decode cX7_timesOfColor 2 = .ok (.iconst 0, 1) := by decide +kernel
theorem dX7_timesOfColor_3 : decode cX7_timesOfColor 3 = .ok (.istore_n 3, 1) := by decide +kernel
theorem dX7_timesOfColor_4 : decode cX7_timesOfColor 4 = .ok (.iload_n 3, 1) := by decide +kernel
theorem dX7_timesOfColor_5 : decode cX7_timesOfColor 5 = .ok (.bipush 6, 2) := by decide +kernel
theorem dX7_timesOfColor_7 : decode cX7_timesOfColor 7 = .ok (.if_icmp .ge 47, 3) := by decide +kernel
theorem dX7_timesOfColor_10 : decode cX7_timesOfColor 10 = .ok (.iconst 0, 1) := by decide +kernel
theorem dX7_timesOfColor_11 : decode cX7_timesOfColor 11 = .ok (.istore 4, 2) := by decide +kernel
theorem dX7_timesOfColor_13 : decode cX7_timesOfColor 13 = .ok (.iload 4, 2) := by decide +kernel
theorem dX7_timesOfColor_15 : decode cX7_timesOfColor 15 = .ok (.aload_n 0, 1) := by decide +kernel
theorem dX7_timesOfColor_16 : decode cX7_timesOfColor 16 = .ok (.getfield 9, 3) := by decide +kernel
theorem dX7_timesOfColor_19 : decode cX7_timesOfColor 19 = .ok (.iload_n 3, 1) := by decide +kernel
theorem dX7_timesOfColor_20 : decode cX7_timesOfColor 20 = .ok (.iaload, 1) := by decide +kernel
theorem dX7_timesOfColor_21 : decode cX7_timesOfColor 21 = .ok (.if_icmp .ge 27, 3) := by decide +kernel
theorem dX7_timesOfColor_24 : decode cX7_timesOfColor 24 = .ok (.aload_n 0, 1) := by decide +kernel
theorem dX7_timesOfColor_25 : decode cX7_timesOfColor 25 = .ok (.getfield 15, 3) := by decide +kernel
theorem dX7_timesOfColor_28 : decode cX7_timesOfColor 28 = .ok (.iload_n 3, 1) := by decide +kernel
theorem dX7_timesOfColor_29 : decode cX7_timesOfColor 29 = .ok (.iload 4, 2) := by decide +kernel
theorem dX7_timesOfColor_31 : decode cX7_timesOfColor 31 = .ok (.invokestatic 18, 3) := by decide +kernel
theorem dX7_timesOfColor_34 : decode cX7_timesOfColor 34 = .ok (.iaload, 1) := by decide +kernel
theorem dX7_timesOfColor_35 : decode cX7_timesOfColor 35 = .ok (.iload_n 1, 1) := by decide +kernel
theorem dX7_timesOfColor_36 : decode cX7_timesOfColor 36 = .ok (.if_icmp .ne 6, 3) := by decide +kernel
theorem dX7_timesOfColor_39 : decode cX7_timesOfColor 39 = .ok (.iinc 2 1, 3) := by decide +kernel
theorem dX7_timesOfColor_42 : decode cX7_timesOfColor 42 = .ok (.iinc 4 1, 3) := by decide +kernel
theorem dX7_timesOfColor_45 : decode cX7_timesOfColor 45 = .ok (.goto (-32), 3) := by decide +kernel
theorem dX7_timesOfColor_48 : decode cX7_timesOfColor 48 = .ok (.iinc 3 1, 3) := by decide +kernel
theorem dX7_timesOfColor_51 : decode cX7_timesOfColor 51 = .ok (.goto (-47), 3) := by decide +kernel
theorem dX7_timesOfColor_54 : decode cX7_timesOfColor 54 = .ok (.iload_n 2, 1) := by decide +kernel
theorem dX7_timesOfColor_55 : decode cX7_timesOfColor 55 = .ok (.ireturn, 1) := by decide +kernel
theorem dX7_copyFrom_0 : decode cX7_copyFrom 0 = .ok (.aload_n 1, 1) := by decide +kernel
theorem dX7_copyFrom_1 : decode cX7_copyFrom 1 = .ok (.getfield 9, 3) := by decide +kernel
theorem dX7_copyFrom_4 : decode cX7_copyFrom 4 = .ok (.aload_n 0, 1) := by decide +kernel
theorem dX7_copyFrom_5 : decode cX7_copyFrom 5 = .ok (.getfield 9, 3) := by decide +kernel
theorem dX7_copyFrom_8 : decode cX7_copyFrom 8 = .ok (.invokestatic 22, 3) := by decide +kernel
theorem dX7_copyFrom_11 : decode cX7_copyFrom 11 = .ok (.aload_n 1, 1) := by decide +kernel
theorem dX7_copyFrom_12 : decode cX7_copyFrom 12 = .ok (.getfield 15, 3) := by decide +kernel
theorem dX7_copyFrom_15 : decode cX7_copyFrom 15 = .ok (.aload_n 0, 1) := by decide +kernel
theorem dX7_copyFrom_16 : decode cX7_copyFrom 16 = .ok (.getfield 15, 3) := by decide +kernel
theorem dX7_copyFrom_19 : decode cX7_copyFrom 19 = .ok (.invokestatic 22, 3) := by decide +kernel
theorem dX7_copyFrom_22 : decode cX7_copyFrom 22 = .ok (.return_, 1) := by decide +kernel
theorem dX8_init_0 : decode cX8_init 0 = .ok (.aload_n 0, 1) := by decide +kernel
theorem dX8_init_1 : decode cX8_init 1 = .ok (.invokespecial 1, 3) := by decide +kernel
theorem dX8_init_4 : decode cX8_init 4 = .ok (.aload_n 0, 1) := by decide +kernel
theorem dX8_init_5 : decode cX8_init 5 = .ok (.new 7, 3) := by decide +kernel
theorem dX8_init_8 : decode cX8_init 8 = .ok (.dup, 1) := by decide +kernel
theorem dX8_init_9 : decode cX8_init 9 = .ok (.invokespecial 9, 3) := by decide +kernel
theorem dX8_init_12 : decode cX8_init 12 = .ok (.putfield 10, 3) := by decide +kernel
theorem dX8_init_15 : decode cX8_init 15 = .ok (.aload_n 0, 1) := by decide +kernel
theorem dX8_init_16 : decode cX8_init 16 = .ok (.new 16, 3) := by decide +kernel
theorem dX8_init_19 : decode cX8_init 19 = .ok (.dup, 1) := by decide +kernel
theorem dX8_init_20 : decode cX8_init 20 = .ok (.invokespecial 18, 3) := by decide +kernel
theorem dX8_init_23 : decode cX8_init 23 = .ok (.putfield 19, 3) := by decide +kernel
theorem dX8_init_26 : decode cX8_init 26 = .ok (.aload_n 0, 1) := by decide +kernel
theorem dX8_init_27 : decode cX8_init 27 = .ok (.new 23, 3) := by decide +kernel
theorem dX8_init_30 : decode cX8_init 30 = .ok (.dup, 1) := by decide +kernel
theorem dX8_init_31 : decode cX8_init 31 = .ok (.invokespecial 25, 3) := by decide +kernel
theorem dX8_init_34 : decode cX8_init 34 = .ok (.putfield 26, 3) := by decide +kernel
theorem dX8_init_37 : decode cX8_init 37 = .ok (.aload_n 0, 1) := by decide +kernel
theorem dX8_init_38 : decode cX8_init 38 = .ok (.new 30, 3) := by decide +kernel
theorem dX8_init_41 : decode cX8_init 41 = .ok (.dup, 1) := by decide +kernel
theorem dX8_init_42 : decode cX8_init 42 = .ok (.invokespecial 32, 3) := by decide +kernel
theorem dX8_init_45 : decode cX8_init 45 = .ok (.putfield 33, 3) := by decide +kernel
theorem dX8_init_48 : decode cX8_init 48 = .ok (.aload_n 0, 1) := by decide +kernel
theorem dX8_init_49 : decode cX8_init 49 = .ok (.new 37, 3) := by decide +kernel
theorem dX8_init_52 : decode cX8_init 52 = .ok (.dup, 1) := by decide +kernel
theorem dX8_init_53 : decode cX8_init 53 = .ok (.invokespecial 39, 3) := by decide +kernel
theorem dX8_init_56 : decode cX8_init 56 = .ok (.putfield 40, 3) := by decide +kernel
theorem dX8_init_59 : decode cX8_init 59 = .ok (.aload_n 0, 1) := by decide +kernel
theorem dX8_init_60 : decode cX8_init 60 = .ok (.new 44, 3) := by decide +kernel
theorem dX8_init_63 : decode cX8_init 63 = .ok (.dup, 1) := by decide +kernel
theorem dX8_init_64 : decode cX8_init 64 = .ok (.invokespecial 46, 3) := by decide +kernel
theorem dX8_init_67 : decode cX8_init 67 = .ok (.putfield 47, 3) := by decide +kernel
theorem dX8_init_70 : decode cX8_init 70 = .ok (.aload_n 0, 1) := by decide +kernel
theorem dX8_init_71 : decode cX8_init 71 = .ok (.iconst 1, 1) := by decide +kernel
theorem dX8_init_72 : decode cX8_init 72 = .ok (.putfield 51, 3) := by decide +kernel
theorem dX8_init_75 : decode cX8_init 75 = .ok (.return_, 1) := by decide +kernel
theorem dX8_color_0 : decode cX8_color 0 = .ok (.iload_n 1, 1) := by decide +kernel
theorem dX8_color_1 : decode cX8_color 1 = .ok (.sipush 600, 3) := by decide +kernel
theorem dX8_color_4 : decode cX8_color 4 = .ok (.sipush 900, 3) := by decide +kernel
theorem dX8_color_7 : decode cX8_color 7 = .ok (.invokestatic 55, 3) := by decide +kernel
theorem dX8_color_10 : decode cX8_color 10 = .ok (.ifCond .eq 31, 3) := by decide +kernel
theorem dX8_color_13 : decode cX8_color 13 = .ok (.iload_n 2, 1) := by decide +kernel
theorem dX8_color_14 : decode cX8_color 14 = .ok (.iload_n 1, 1) := by decide +kernel
theorem dX8_color_15 : decode cX8_color 15 = .ok (.bipush 10, 2) := by decide +kernel
theorem dX8_color_17 : decode cX8_color 17 = .ok (.iadd, 1) := by decide +kernel
theorem dX8_color_18 : decode cX8_color 18 = .ok (.iload_n 1, 1) := by decide +kernel
theorem dX8_color_19 : decode cX8_color 19 = .ok (.sipush 200, 3) := by decide +kernel
theorem dX8_color_22 : decode cX8_color 22 = .ok (.iadd, 1) := by decide +kernel
theorem dX8_color_23 : decode cX8_color 23 = .ok (.invokestatic 55, 3) := by decide +kernel
theorem dX8_color_26 : decode cX8_color 26 = .ok (.ifCond .eq 15, 3) := by decide +kernel
theorem dX8_color_29 : decode cX8_color 29 = .ok (.iload_n 3, 1) := by decide +kernel
theorem dX8_color_30 : decode cX8_color 30 = .ok (.bipush 60, 2) := by decide +kernel
theorem dX8_color_32 : decode cX8_color 32 = .ok (.sipush 160, 3) := by decide +kernel
theorem dX8_color_35 : decode cX8_color 35 = .ok (.invokestatic 55, 3) := by decide +kernel
theorem dX8_color_38 : decode cX8_color 38 = .ok (.ifCond .ne 5, 3) := by decide +kernel
theorem dX8_color_41 : decode cX8_color 41 = .ok (.iconst (-1), 1) := by decide +kernel
theorem dX8_color_42 : decode cX8_color 42 = .ok (.ireturn, 1) := by decide +kernel
theorem dX8_color_43 : decode cX8_color 43 = .ok (.aload_n 0, 1) := by decide +kernel
theorem dX8_color_44 : decode cX8_color 44 = .ok (.getfield 10, 3) := by decide +kernel
theorem dX8_color_47 : decode cX8_color 47 = .ok (.getfield 59, 3) := by decide +kernel
theorem dX8_color_50 : decode cX8_color 50 = .ok (.getfield 63, 3) := by decide +kernel
theorem dX8_color_53 : decode cX8_color 53 = .ok (.bipush 12, 2) := by decide +kernel
theorem dX8_color_55 : decode cX8_color 55 = .ok (.if_icmp .lt 6, 3) := by decide +kernel
theorem dX8_color_58 : decode cX8_color 58 = .ok (.bipush (-3), 2) := by decide +kernel
theorem dX8_color_60 : decode cX8_color 60 = .ok (.ireturn, 1) := by decide +kernel
theorem dX8_color_61 : decode cX8_color 61 = .ok (.aload_n 0, 1) := by decide +kernel
theorem dX8_color_62 : decode cX8_color 62 = .ok (.getfield 19, 3) := by decide +kernel
theorem dX8_color_65 : decode cX8_color 65 = .ok (.aload_n 0, 1) := by decide +kernel
theorem dX8_color_66 : decode cX8_color 66 = .ok (.getfield 10, 3) := by decide +kernel
theorem dX8_color_69 : decode cX8_color 69 = .ok (.invokevirtual 69, 3) := by decide +kernel
theorem dX8_color_72 : decode cX8_color 72 = .ok (.aload_n 0, 1) := by decide +kernel
theorem dX8_color_73 : decode cX8_color 73 = .ok (.getfield 10, 3) := by decide +kernel
theorem dX8_color_76 : decode cX8_color 76 = .ok (.getfield 59, 3) := by decide +kernel
theorem dX8_color_79 : decode cX8_color 79 = .ok (.iload_n 1, 1) := by decide +kernel
theorem dX8_color_80 : decode cX8_color 80 = .ok (.iload_n 2, 1) := by decide +kernel
theorem dX8_color_81 : decode cX8_color 81 = .ok (.iload_n 3, 1) := by decide +kernel
theorem dX8_color_82 : decode cX8_color 82 = .ok (.invokevirtual 73, 3) := by decide +kernel
theorem dX8_color_85 : decode cX8_color 85 = .ok (.ireturn, 1) := by decide +kernel
theorem dX8_colorInfo_0 : decode cX8_colorInfo 0 = .ok (.aload_n 0, 1) := by decide +kernel
theorem dX8_colorInfo_1 : decode cX8_colorInfo 1 = .ok (.iload_n 1, 1) := by decide +kernel
theorem dX8_colorInfo_2 : decode cX8_colorInfo 2 = .ok (.invokevirtual 77, 3) := by decide +kernel
theorem dX8_colorInfo_5 : decode cX8_colorInfo 5 = .ok (.ifCond .ne 5, 3) := by decide +kernel
theorem dX8_colorInfo_8 : decode cX8_colorInfo 8 = .ok (.iconst (-1), 1) := by decide +kernel
theorem dX8_colorInfo_9 : decode cX8_colorInfo 9 = .ok (.ireturn, 1) := by decide +kernel
theorem dX8_colorInfo_10 : decode cX8_colorInfo 10 = .ok (.iload_n 2, 1) := by decide +kernel
theorem dX8_colorInfo_11 : decode cX8_colorInfo 11 = .ok (.tableswitch 112 0 5 #[37, 50, 63, 76, 88, 100], 37) := by decide +kernel
theorem dX8_colorInfo_48 : decode cX8_colorInfo 48 = .ok (.aload_n 0, 1) := by decide +kernel
theorem dX8_colorInfo_49 : decode cX8_colorInfo 49 = .ok (.getfield 10, 3) := by decide +kernel
theorem dX8_colorInfo_52 : decode cX8_colorInfo 52 = .ok (.getfield 59, 3) := by decide +kernel
theorem dX8_colorInfo_55 : decode cX8_colorInfo 55 = .ok (.getfield 81, 3) := by decide +kernel
theorem dX8_colorInfo_58 : decode cX8_colorInfo 58 = .ok (.iload_n 1, 1) := by decide +kernel
theorem dX8_colorInfo_59 : decode cX8_colorInfo 59 = .ok (.iaload, 1) := by decide +kernel
theorem dX8_colorInfo_60 : decode cX8_colorInfo 60 = .ok (.ireturn, 1) := by decide +kernel
theorem dX8_colorInfo_61 : decode cX8_colorInfo 61 = .ok (.aload_n 0, 1) := by decide +kernel
theorem dX8_colorInfo_62 : decode cX8_colorInfo 62 = .ok (.getfield 10, 3) := by decide +kernel
theorem dX8_colorInfo_65 : decode cX8_colorInfo 65 = .ok (.getfield 59, 3) := by decide +kernel
theorem dX8_colorInfo_68 : decode cX8_colorInfo 68 = .ok (.getfield 85, 3) := by decide +kernel
theorem dX8_colorInfo_71 : decode cX8_colorInfo 71 = .ok (.iload_n 1, 1) := by decide +kernel
theorem dX8_colorInfo_72 : decode cX8_colorInfo 72 = .ok (.iaload, 1) := by decide +kernel
theorem dX8_colorInfo_73 : decode cX8_colorInfo 73 = .ok (.ireturn, 1) := by decide +kernel
theorem dX8_colorInfo_74 : decode cX8_colorInfo 74 = .ok (.aload_n 0, 1) := by decide +kernel
theorem dX8_colorInfo_75 : decode cX8_colorInfo 75 = .ok (.getfield 10, 3) := by decide +kernel
theorem dX8_colorInfo_78 : decode cX8_colorInfo 78 = .ok (.getfield 59, 3) := by decide +kernel
theorem dX8_colorInfo_81 : decode cX8_colorInfo 81 = .ok (.getfield 88, 3) := by decide +kernel
theorem dX8_colorInfo_84 : decode cX8_colorInfo 84 = .ok (.iload_n 1, 1) := by decide +kernel
theorem dX8_colorInfo_85 : decode cX8_colorInfo 85 = .ok (.iaload, 1) := by decide +kernel
theorem dX8_colorInfo_86 : decode cX8_colorInfo 86 = .ok (.ireturn, 1) := by decide +kernel
theorem dX8_colorInfo_87 : decode cX8_colorInfo 87 = .ok (.aload_n 0, 1) := by decide +kernel
theorem dX8_colorInfo_88 : decode cX8_colorInfo 88 = .ok (.getfield 10, 3) := by decide +kernel
theorem dX8_colorInfo_91 : decode cX8_colorInfo 91 = .ok (.getfield 59, 3) := by decide +kernel
theorem dX8_colorInfo_94 : decode cX8_colorInfo 94 = .ok (.iload_n 1, 1) := by decide +kernel
theorem dX8_colorInfo_95 : decode cX8_colorInfo 95 = .ok (.invokevirtual 91, 3) := by decide +kernel
theorem dX8_colorInfo_98 : decode cX8_colorInfo 98 = .ok (.ireturn, 1) := by decide +kernel
theorem dX8_colorInfo_99 : decode cX8_colorInfo 99 = .ok (.aload_n 0, 1) := by decide +kernel
theorem dX8_colorInfo_100 : decode cX8_colorInfo 100 = .ok (.getfield 10, 3) := by decide +kernel
theorem dX8_colorInfo_103 : decode cX8_colorInfo 103 = .ok (.getfield 95, 3) := by decide +kernel
theorem dX8_colorInfo_106 : decode cX8_colorInfo 106 = .ok (.iload_n 1, 1) := by decide +kernel
theorem dX8_colorInfo_107 : decode cX8_colorInfo 107 = .ok (.invokevirtual 98, 3) := by decide +kernel
theorem dX8_colorInfo_110 : decode cX8_colorInfo 110 = .ok (.ireturn, 1) := by decide +kernel
theorem dX8_colorInfo_111 : decode cX8_colorInfo 111 = .ok (.aload_n 0, 1) := by decide +kernel
theorem dX8_colorInfo_112 : decode cX8_colorInfo 112 = .ok (.getfield 10, 3) := by decide +kernel
theorem dX8_colorInfo_115 : decode cX8_colorInfo 115 = .ok (.getfield 101, 3) := by decide +kernel
theorem dX8_colorInfo_118 : decode cX8_colorInfo 118 = .ok (.iload_n 1, 1) := by decide +kernel
theorem dX8_colorInfo_119 : decode cX8_colorInfo 119 = .ok (.invokevirtual 105, 3) := by decide +kernel
theorem dX8_colorInfo_122 : decode cX8_colorInfo 122 = .ok (.ireturn, 1) := by decide +kernel
theorem dX8_colorInfo_123 : decode cX8_colorInfo 123 = .ok (.iconst (-1), 1) := by decide +kernel
theorem dX8_colorInfo_124 : decode cX8_colorInfo 124 = .ok (.ireturn, 1) := by decide +kernel
theorem dX8_put_0 : decode cX8_put 0 = .ok (.iload_n 1, 1) := by decide +kernel
theorem dX8_put_1 : decode cX8_put 1 = .ok (.invokestatic 110, 3) := by decide +kernel
theorem dX8_put_4 : decode cX8_put 4 = .ok (.ifCond .eq 11, 3) := by decide +kernel
theorem dX8_put_7 : decode cX8_put 7 = .ok (.aload_n 0, 1) := by decide +kernel
theorem dX8_put_8 : decode cX8_put 8 = .ok (.iload_n 2, 1) := by decide +kernel
theorem dX8_put_9 : decode cX8_put 9 = .ok (.invokevirtual 77, 3) := by decide +kernel
theorem dX8_put_12 : decode cX8_put 12 = .ok (.ifCond .ne 5, 3) := by decide +kernel
theorem dX8_put_15 : decode cX8_put 15 = .ok (.iconst (-1), 1) := by decide +kernel
theorem dX8_put_16 : decode cX8_put 16 = .ok (.ireturn, 1) := by decide +kernel
theorem dX8_put_17 : decode cX8_put 17 = .ok (.aload_n 0, 1) := by decide +kernel
theorem dX8_put_18 : decode cX8_put 18 = .ok (.getfield 10, 3) := by decide +kernel
theorem dX8_put_21 : decode cX8_put 21 = .ok (.getfield 95, 3) := by decide +kernel
theorem dX8_put_24 : decode cX8_put 24 = .ok (.iload_n 1, 1) := by decide +kernel
theorem dX8_put_25 : decode cX8_put 25 = .ok (.invokevirtual 113, 3) := by decide +kernel
theorem dX8_put_28 : decode cX8_put 28 = .ok (.ifCond .eq 6, 3) := by decide +kernel
theorem dX8_put_31 : decode cX8_put 31 = .ok (.bipush (-2), 2) := by decide +kernel
theorem dX8_put_33 : decode cX8_put 33 = .ok (.ireturn, 1) := by decide +kernel
theorem dX8_put_34 : decode cX8_put 34 = .ok (.aload_n 0, 1) := by decide +kernel
theorem dX8_put_35 : decode cX8_put 35 = .ok (.getfield 10, 3) := by decide +kernel
theorem dX8_put_38 : decode cX8_put 38 = .ok (.getfield 95, 3) := by decide +kernel
theorem dX8_put_41 : decode cX8_put 41 = .ok (.getfield 116, 3) := by decide +kernel
theorem dX8_put_44 : decode cX8_put 44 = .ok (.iload_n 1, 1) := by decide +kernel
theorem dX8_put_45 : decode cX8_put 45 = .ok (.iaload, 1) := by decide +kernel
theorem dX8_put_46 : decode cX8_put 46 = .ok (.iconst 3, 1) := by decide +kernel
theorem dX8_put_47 : decode cX8_put 47 = .ok (.if_icmp .lt 6, 3) := by decide +kernel
theorem dX8_put_50 : decode cX8_put 50 = .ok (.bipush (-3), 2) := by decide +kernel
theorem dX8_put_52 : decode cX8_put 52 = .ok (.ireturn, 1) := by decide +kernel
theorem dX8_put_53 : decode cX8_put 53 = .ok (.aload_n 0, 1) := by decide +kernel
theorem dX8_put_54 : decode cX8_put 54 = .ok (.getfield 19, 3) := by decide +kernel
theorem dX8_put_57 : decode cX8_put 57 = .ok (.aload_n 0, 1) := by decide +kernel
theorem dX8_put_58 : decode cX8_put 58 = .ok (.getfield 10, 3) := by decide +kernel
theorem dX8_put_61 : decode cX8_put 61 = .ok (.invokevirtual 69, 3) := by decide +kernel
theorem dX8_put_64 : decode cX8_put 64 = .ok (.aload_n 0, 1) := by decide +kernel
theorem dX8_put_65 : decode cX8_put 65 = .ok (.getfield 10, 3) := by decide +kernel
theorem dX8_put_68 : decode cX8_put 68 = .ok (.getfield 119, 3) := by decide +kernel
theorem dX8_put_71 : decode cX8_put 71 = .ok (.iconst 2, 1) := by decide +kernel
theorem dX8_put_72 : decode cX8_put 72 = .ok (.dup2, 1) := by decide +kernel
theorem dX8_put_73 : decode cX8_put 73 = .ok (.iaload, 1) := by decide +kernel
theorem dX8_put_74 : decode cX8_put 74 = .ok (.iconst 1, 1) := by decide +kernel
theorem dX8_put_75 : decode cX8_put 75 = .ok (.iadd, 1) := by decide +kernel
theorem dX8_put_76 : decode cX8_put 76 = .ok (.iastore, 1) := by decide +kernel
theorem dX8_put_77 : decode cX8_put 77 = .ok (.aload_n 0, 1) := by decide +kernel
theorem dX8_put_78 : decode cX8_put 78 = .ok (.getfield 10, 3) := by decide +kernel
theorem dX8_put_81 : decode cX8_put 81 = .ok (.getfield 95, 3) := by decide +kernel
theorem dX8_put_84 : decode cX8_put 84 = .ok (.iload_n 1, 1) := by decide +kernel
theorem dX8_put_85 : decode cX8_put 85 = .ok (.iload_n 2, 1) := by decide +kernel
theorem dX8_put_86 : decode cX8_put 86 = .ok (.invokevirtual 122, 3) := by decide +kernel
theorem dX8_put_89 : decode cX8_put 89 = .ok (.ireturn, 1) := by decide +kernel
theorem dX8_takeOff_0 : decode cX8_takeOff 0 = .ok (.iload_n 1, 1) := by decide +kernel
theorem dX8_takeOff_1 : decode cX8_takeOff 1 = .ok (.invokestatic 110, 3) := by decide +kernel
theorem dX8_takeOff_4 : decode cX8_takeOff 4 = .ok (.ifCond .ne 5, 3) := by decide +kernel
theorem dX8_takeOff_7 : decode cX8_takeOff 7 = .ok (.iconst (-1), 1) := by decide +kernel
theorem dX8_takeOff_8 : decode cX8_takeOff 8 = .ok (.ireturn, 1) := by decide +kernel
theorem dX8_takeOff_9 : decode cX8_takeOff 9 = .ok (.aload_n 0, 1) := by decide +kernel
theorem dX8_takeOff_10 : decode cX8_takeOff 10 = .ok (.getfield 10, 3) := by decide +kernel
theorem dX8_takeOff_13 : decode cX8_takeOff 13 = .ok (.getfield 95, 3) := by decide +kernel
theorem dX8_takeOff_16 : decode cX8_takeOff 16 = .ok (.iload_n 1, 1) := by decide +kernel
theorem dX8_takeOff_17 : decode cX8_takeOff 17 = .ok (.invokevirtual 113, 3) := by decide +kernel
theorem dX8_takeOff_20 : decode cX8_takeOff 20 = .ok (.ifCond .ne 6, 3) := by decide +kernel
theorem dX8_takeOff_23 : decode cX8_takeOff 23 = .ok (.bipush (-2), 2) := by decide +kernel
theorem dX8_takeOff_25 : decode cX8_takeOff 25 = .ok (.ireturn, 1) := by decide +kernel
theorem dX8_takeOff_26 : decode cX8_takeOff 26 = .ok (.aload_n 0, 1) := by decide +kernel
theorem dX8_takeOff_27 : decode cX8_takeOff 27 = .ok (.getfield 19, 3) := by decide +kernel
theorem dX8_takeOff_30 : decode cX8_takeOff 30 = .ok (.aload_n 0, 1) := by decide +kernel
theorem dX8_takeOff_31 : decode cX8_takeOff 31 = .ok (.getfield 10, 3) := by decide +kernel
theorem dX8_takeOff_34 : decode cX8_takeOff 34 = .ok (.invokevirtual 69, 3) := by decide +kernel
theorem dX8_takeOff_37 : decode cX8_takeOff 37 = .ok (.aload_n 0, 1) := by decide +kernel
theorem dX8_takeOff_38 : decode cX8_takeOff 38 = .ok (.getfield 10, 3) := by decide +kernel
theorem dX8_takeOff_41 : decode cX8_takeOff 41 = .ok (.getfield 119, 3) := by decide +kernel
theorem dX8_takeOff_44 : decode cX8_takeOff 44 = .ok (.iconst 3, 1) := by decide +kernel
theorem dX8_takeOff_45 : decode cX8_takeOff 45 = .ok (.dup2, 1) := by decide +kernel
theorem dX8_takeOff_46 : decode cX8_takeOff 46 = .ok (.iaload, 1) := by decide +kernel
theorem dX8_takeOff_47 : decode cX8_takeOff 47 = .ok (.iconst 1, 1) := by decide +kernel
theorem dX8_takeOff_48 : decode cX8_takeOff 48 = .ok (.iadd, 1) := by decide +kernel
theorem dX8_takeOff_49 : decode cX8_takeOff 49 = .ok (.iastore, 1) := by decide +kernel
theorem dX8_takeOff_50 : decode cX8_takeOff 50 = .ok (.aload_n 0, 1) := by decide +kernel
theorem dX8_takeOff_51 : decode cX8_takeOff 51 = .ok (.getfield 10, 3) := by decide +kernel
theorem dX8_takeOff_54 : decode cX8_takeOff 54 = .ok (.getfield 95, 3) := by decide +kernel
theorem dX8_takeOff_57 : decode cX8_takeOff 57 = .ok (.iload_n 1, 1) := by decide +kernel
theorem dX8_takeOff_58 : decode cX8_takeOff 58 = .ok (.invokevirtual 125, 3) := by decide +kernel
theorem dX8_takeOff_61 : decode cX8_takeOff 61 = .ok (.ireturn, 1) := by decide +kernel
theorem dX8_clean_0 : decode cX8_clean 0 = .ok (.aload_n 0, 1) := by decide +kernel
theorem dX8_clean_1 : decode cX8_clean 1 = .ok (.getfield 10, 3) := by decide +kernel
theorem dX8_clean_4 : decode cX8_clean 4 = .ok (.getfield 95, 3) := by decide +kernel
theorem dX8_clean_7 : decode cX8_clean 7 = .ok (.invokevirtual 128, 3) := by decide +kernel
theorem dX8_clean_10 : decode cX8_clean 10 = .ok (.istore_n 1, 1) := by decide +kernel
theorem dX8_clean_11 : decode cX8_clean 11 = .ok (.aload_n 0, 1) := by decide +kernel
theorem dX8_clean_12 : decode cX8_clean 12 = .ok (.getfield 19, 3) := by decide +kernel
theorem dX8_clean_15 : decode cX8_clean 15 = .ok (.aload_n 0, 1) := by decide +kernel
theorem dX8_clean_16 : decode cX8_clean 16 = .ok (.getfield 10, 3) := by decide +kernel
theorem dX8_clean_19 : decode cX8_clean 19 = .ok (.invokevirtual 69, 3) := by decide +kernel
theorem dX8_clean_22 : decode cX8_clean 22 = .ok (.aload_n 0, 1) := by decide +kernel
theorem dX8_clean_23 : decode cX8_clean 23 = .ok (.getfield 10, 3) := by decide +kernel
theorem dX8_clean_26 : decode cX8_clean 26 = .ok (.getfield 95, 3) := by decide +kernel
theorem dX8_clean_29 : decode cX8_clean 29 = .ok (.invokevirtual 132, 3) := by decide +kernel
theorem dX8_clean_32 : decode cX8_clean 32 = .ok (.aload_n 0, 1) := by decide +kernel
theorem dX8_clean_33 : decode cX8_clean 33 = .ok (.getfield 10, 3) := by decide +kernel
theorem dX8_clean_36 : decode cX8_clean 36 = .ok (.getfield 119, 3) := by decide +kernel
theorem dX8_clean_39 : decode cX8_clean 39 = .ok (.iconst 2, 1) := by decide +kernel
theorem dX8_clean_40 : decode cX8_clean 40 = .ok (.iconst 0, 1) := by decide +kernel
theorem dX8_clean_41 : decode cX8_clean 41 = .ok (.iastore, 1) := by decide +kernel
theorem dX8_clean_42 : decode cX8_clean 42 = .ok (.aload_n 0, 1) := by decide +kernel
theorem dX8_clean_43 : decode cX8_clean 43 = .ok (.getfield 10, 3) := by decide +kernel
theorem dX8_clean_46 : decode cX8_clean 46 = .ok (.getfield 119, 3) := by decide +kernel
theorem dX8_clean_49 : decode cX8_clean 49 = .ok (.iconst 3, 1) := by decide +kernel
theorem dX8_clean_50 : decode cX8_clean 50 = .ok (.iconst 0, 1) := by decide +kernel
theorem dX8_clean_51 : decode cX8_clean 51 = .ok (.iastore, 1) := by decide +kernel
theorem dX8_clean_52 : decode cX8_clean 52 = .ok (.iload_n 1, 1) := by decide +kernel
theorem dX8_clean_53 : decode cX8_clean 53 = .ok (.ireturn, 1) := by decide +kernel
theorem dX8_layer_0 : decode cX8_layer 0 = .ok (.iload_n 1, 1) := by decide +kernel
theorem dX8_layer_1 : decode cX8_layer 1 = .ok (.invokestatic 110, 3) := by decide +kernel
theorem dX8_layer_4 : decode cX8_layer 4 = .ok (.ifCond .eq 16, 3) := by decide +kernel
theorem dX8_layer_7 : decode cX8_layer 7 = .ok (.iload_n 2, 1) := by decide +kernel
theorem dX8_layer_8 : decode cX8_layer 8 = .ok (.ifCond .lt 12, 3) := by decide +kernel
theorem dX8_layer_11 : decode cX8_layer 11 = .ok (.iload_n 3, 1) := by decide +kernel
theorem dX8_layer_12 : decode cX8_layer 12 = .ok (.iconst 0, 1) := by decide +kernel
theorem dX8_layer_13 : decode cX8_layer 13 = .ok (.iconst 2, 1) := by decide +kernel
theorem dX8_layer_14 : decode cX8_layer 14 = .ok (.invokestatic 55, 3) := by decide +kernel
theorem dX8_layer_17 : decode cX8_layer 17 = .ok (.ifCond .ne 5, 3) := by decide +kernel
theorem dX8_layer_20 : decode cX8_layer 20 = .ok (.iconst (-1), 1) := by decide +kernel
theorem dX8_layer_21 : decode cX8_layer 21 = .ok (.ireturn, 1) := by decide +kernel
theorem dX8_layer_22 : decode cX8_layer 22 = .ok (.iload_n 2, 1) := by decide +kernel
theorem dX8_layer_23 : decode cX8_layer 23 = .ok (.aload_n 0, 1) := by decide +kernel
theorem dX8_layer_24 : decode cX8_layer 24 = .ok (.getfield 10, 3) := by decide +kernel
theorem dX8_layer_27 : decode cX8_layer 27 = .ok (.getfield 95, 3) := by decide +kernel
theorem dX8_layer_30 : decode cX8_layer 30 = .ok (.getfield 116, 3) := by decide +kernel
theorem dX8_layer_33 : decode cX8_layer 33 = .ok (.iload_n 1, 1) := by decide +kernel
theorem dX8_layer_34 : decode cX8_layer 34 = .ok (.iaload, 1) := by decide +kernel
theorem dX8_layer_35 : decode cX8_layer 35 = .ok (.if_icmp .lt 6, 3) := by decide +kernel
theorem dX8_layer_38 : decode cX8_layer 38 = .ok (.bipush (-4), 2) := by decide +kernel
theorem dX8_layer_40 : decode cX8_layer 40 = .ok (.ireturn, 1) := by decide +kernel
theorem dX8_layer_41 : decode cX8_layer 41 = .ok (.iload_n 1, 1) := by decide +kernel
theorem dX8_layer_42 : decode cX8_layer 42 = .ok (.iload_n 2, 1) := by decide +kernel
theorem dX8_layer_43 : decode cX8_layer 43 = .ok (.invokestatic 135, 3) := by decide +kernel
theorem dX8_layer_46 : decode cX8_layer 46 = .ok (.istore 4, 2) := by decide +kernel
theorem dX8_layer_48 : decode cX8_layer 48 = .ok (.iload_n 3, 1) := by decide +kernel
theorem dX8_layer_49 : decode cX8_layer 49 = .ok (.ifCond .ne 17, 3) := by decide +kernel
theorem dX8_layer_52 : decode cX8_layer 52 = .ok (.aload_n 0, 1) := by decide +kernel
theorem dX8_layer_53 : decode cX8_layer 53 = .ok (.getfield 10, 3) := by decide +kernel
theorem dX8_layer_56 : decode cX8_layer 56 = .ok (.getfield 95, 3) := by decide +kernel
theorem dX8_layer_59 : decode cX8_layer 59 = .ok (.getfield 138, 3) := by decide +kernel
theorem dX8_layer_62 : decode cX8_layer 62 = .ok (.iload 4, 2) := by decide +kernel
theorem dX8_layer_64 : decode cX8_layer 64 = .ok (.iaload, 1) := by decide +kernel
theorem dX8_layer_65 : decode cX8_layer 65 = .ok (.ireturn, 1) := by decide +kernel
theorem dX8_layer_66 : decode cX8_layer 66 = .ok (.iload_n 3, 1) := by decide +kernel
theorem dX8_layer_67 : decode cX8_layer 67 = .ok (.iconst 1, 1) := by decide +kernel
theorem dX8_layer_68 : decode cX8_layer 68 = .ok (.if_icmp .ne 19, 3) := by decide +kernel
theorem dX8_layer_71 : decode cX8_layer 71 = .ok (.aload_n 0, 1) := by decide +kernel
theorem dX8_layer_72 : decode cX8_layer 72 = .ok (.getfield 10, 3) := by decide +kernel
theorem dX8_layer_75 : decode cX8_layer 75 = .ok (.getfield 95, 3) := by decide +kernel
theorem dX8_layer_78 : decode cX8_layer 78 = .ok (.getfield 141, 3) := by decide +kernel
theorem dX8_layer_81 : decode cX8_layer 81 = .ok (.iload 4, 2) := by decide +kernel
theorem dX8_layer_83 : decode cX8_layer 83 = .ok (.iaload, 1) := by decide +kernel
theorem dX8_layer_84 : decode cX8_layer 84 = .ok (.goto 16, 3) := by decide +kernel
theorem dX8_layer_87 : decode cX8_layer 87 = .ok (.aload_n 0, 1) := by decide +kernel
theorem dX8_layer_88 : decode cX8_layer 88 = .ok (.getfield 10, 3) := by decide +kernel
theorem dX8_layer_91 : decode cX8_layer 91 = .ok (.getfield 95, 3) := by decide +kernel
theorem dX8_layer_94 : decode cX8_layer 94 = .ok (.getfield 144, 3) := by decide +kernel
theorem dX8_layer_97 : decode cX8_layer 97 = .ok (.iload 4, 2) := by decide +kernel
theorem dX8_layer_99 : decode cX8_layer 99 = .ok (.iaload, 1) := by decide +kernel
theorem dX8_layer_100 : decode cX8_layer 100 = .ok (.ireturn, 1) := by decide +kernel
theorem dX8_field_0 : decode cX8_field 0 = .ok (.iload_n 1, 1) := by decide +kernel
theorem dX8_field_1 : decode cX8_field 1 = .ok (.invokestatic 110, 3) := by decide +kernel
theorem dX8_field_4 : decode cX8_field 4 = .ok (.ifCond .ne 5, 3) := by decide +kernel
theorem dX8_field_7 : decode cX8_field 7 = .ok (.iconst (-1), 1) := by decide +kernel
theorem dX8_field_8 : decode cX8_field 8 = .ok (.ireturn, 1) := by decide +kernel
theorem dX8_field_9 : decode cX8_field 9 = .ok (.iload_n 2, 1) := by decide +kernel
theorem dX8_field_10 : decode cX8_field 10 = .ok (.tableswitch 162 0 5 #[38, 51, 70, 100, 124, 143], 38) := by decide +kernel
theorem dX8_field_48 : decode cX8_field 48 = .ok (.aload_n 0, 1) := by decide +kernel
theorem dX8_field_49 : decode cX8_field 49 = .ok (.getfield 10, 3) := by decide +kernel
theorem dX8_field_52 : decode cX8_field 52 = .ok (.getfield 95, 3) := by decide +kernel
theorem dX8_field_55 : decode cX8_field 55 = .ok (.getfield 116, 3) := by decide +kernel
theorem dX8_field_58 : decode cX8_field 58 = .ok (.iload_n 1, 1) := by decide +kernel
theorem dX8_field_59 : decode cX8_field 59 = .ok (.iaload, 1) := by decide +kernel
theorem dX8_field_60 : decode cX8_field 60 = .ok (.ireturn, 1) := by decide +kernel
theorem dX8_field_61 : decode cX8_field 61 = .ok (.aload_n 0, 1) := by decide +kernel
theorem dX8_field_62 : decode cX8_field 62 = .ok (.getfield 10, 3) := by decide +kernel
theorem dX8_field_65 : decode cX8_field 65 = .ok (.getfield 95, 3) := by decide +kernel
theorem dX8_field_68 : decode cX8_field 68 = .ok (.iload_n 1, 1) := by decide +kernel
theorem dX8_field_69 : decode cX8_field 69 = .ok (.aload_n 0, 1) := by decide +kernel
theorem dX8_field_70 : decode cX8_field 70 = .ok (.getfield 10, 3) := by decide +kernel
theorem dX8_field_73 : decode cX8_field 73 = .ok (.getfield 59, 3) := by decide +kernel
theorem dX8_field_76 : decode cX8_field 76 = .ok (.invokevirtual 147, 3) := by decide +kernel
theorem dX8_field_79 : decode cX8_field 79 = .ok (.ireturn, 1) := by decide +kernel
theorem dX8_field_80 : decode cX8_field 80 = .ok (.iload_n 1, 1) := by decide +kernel
theorem dX8_field_81 : decode cX8_field 81 = .ok (.bipush 6, 2) := by decide +kernel
theorem dX8_field_83 : decode cX8_field 83 = .ok (.if_icmp .ne 8, 3) := by decide +kernel
theorem dX8_field_86 : decode cX8_field 86 = .ok (.bipush (-4), 2) := by decide +kernel
theorem dX8_field_88 : decode cX8_field 88 = .ok (.goto 21, 3) := by decide +kernel
theorem dX8_field_91 : decode cX8_field 91 = .ok (.aload_n 0, 1) := by decide +kernel
theorem dX8_field_92 : decode cX8_field 92 = .ok (.getfield 10, 3) := by decide +kernel
theorem dX8_field_95 : decode cX8_field 95 = .ok (.getfield 95, 3) := by decide +kernel
theorem dX8_field_98 : decode cX8_field 98 = .ok (.iload_n 1, 1) := by decide +kernel
theorem dX8_field_99 : decode cX8_field 99 = .ok (.aload_n 0, 1) := by decide +kernel
theorem dX8_field_100 : decode cX8_field 100 = .ok (.getfield 10, 3) := by decide +kernel
theorem dX8_field_103 : decode cX8_field 103 = .ok (.getfield 59, 3) := by decide +kernel
theorem dX8_field_106 : decode cX8_field 106 = .ok (.invokevirtual 150, 3) := by decide +kernel
theorem dX8_field_109 : decode cX8_field 109 = .ok (.ireturn, 1) := by decide +kernel
theorem dX8_field_110 : decode cX8_field 110 = .ok (.iload_n 1, 1) := by decide +kernel
theorem dX8_field_111 : decode cX8_field 111 = .ok (.bipush 6, 2) := by decide +kernel
theorem dX8_field_113 : decode cX8_field 113 = .ok (.if_icmp .ne 8, 3) := by decide +kernel
theorem dX8_field_116 : decode cX8_field 116 = .ok (.bipush (-4), 2) := by decide +kernel
theorem dX8_field_118 : decode cX8_field 118 = .ok (.goto 15, 3) := by decide +kernel
theorem dX8_field_121 : decode cX8_field 121 = .ok (.aload_n 0, 1) := by decide +kernel
theorem dX8_field_122 : decode cX8_field 122 = .ok (.getfield 10, 3) := by decide +kernel
theorem dX8_field_125 : decode cX8_field 125 = .ok (.getfield 95, 3) := by decide +kernel
theorem dX8_field_128 : decode cX8_field 128 = .ok (.getfield 153, 3) := by decide +kernel
theorem dX8_field_131 : decode cX8_field 131 = .ok (.iload_n 1, 1) := by decide +kernel
theorem dX8_field_132 : decode cX8_field 132 = .ok (.iaload, 1) := by decide +kernel
theorem dX8_field_133 : decode cX8_field 133 = .ok (.ireturn, 1) := by decide +kernel
theorem dX8_field_134 : decode cX8_field 134 = .ok (.aload_n 0, 1) := by decide +kernel
theorem dX8_field_135 : decode cX8_field 135 = .ok (.getfield 10, 3) := by decide +kernel
theorem dX8_field_138 : decode cX8_field 138 = .ok (.getfield 95, 3) := by decide +kernel
theorem dX8_field_141 : decode cX8_field 141 = .ok (.iload_n 1, 1) := by decide +kernel
theorem dX8_field_142 : decode cX8_field 142 = .ok (.aload_n 0, 1) := by decide +kernel
theorem dX8_field_143 : decode cX8_field 143 = .ok (.getfield 10, 3) := by decide +kernel
theorem dX8_field_146 : decode cX8_field 146 = .ok (.getfield 59, 3) := by decide +kernel
theorem dX8_field_149 : decode cX8_field 149 = .ok (.invokevirtual 156, 3) := by decide +kernel
theorem dX8_field_152 : decode cX8_field 152 = .ok (.ireturn, 1) := by decide +kernel
theorem dX8_field_153 : decode cX8_field 153 = .ok (.aload_n 0, 1) := by decide +kernel
theorem dX8_field_154 : decode cX8_field 154 = .ok (.getfield 10, 3) := by decide +kernel
theorem dX8_field_157 : decode cX8_field 157 = .ok (.getfield 95, 3) := by decide +kernel
theorem dX8_field_160 : decode cX8_field 160 = .ok (.iload_n 1, 1) := by decide +kernel
theorem dX8_field_161 : decode cX8_field 161 = .ok (.aload_n 0, 1) := by decide +kernel
theorem dX8_field_162 : decode cX8_field 162 = .ok (.getfield 10, 3) := by decide +kernel
theorem dX8_field_165 : decode cX8_field 165 = .ok (.getfield 59, 3) := by decide +kernel
theorem dX8_field_168 : decode cX8_field 168 = .ok (.invokevirtual 159, 3) := by decide +kernel
theorem dX8_field_171 : decode cX8_field 171 = .ok (.ireturn, 1) := by decide +kernel
theorem dX8_field_172 : decode cX8_field 172 = .ok (.iconst (-1), 1) := by decide +kernel
theorem dX8_field_173 : decode cX8_field 173 = .ok (.ireturn, 1) := by decide +kernel
theorem dX8_set_0 : decode cX8_set 0 = .ok (.iload_n 1, 1) := by decide +kernel
theorem dX8_set_1 : decode cX8_set 1 = .ok (.iconst 0, 1) := by decide +kernel
theorem dX8_set_2 : decode cX8_set 2 = .ok (.iconst 2, 1) := by decide +kernel
theorem dX8_set_3 : decode cX8_set 3 = .ok (.invokestatic 55, 3) := by decide +kernel
theorem dX8_set_6 : decode cX8_set 6 = .ok (.ifCond .eq 20, 3) := by decide +kernel
theorem dX8_set_9 : decode cX8_set 9 = .ok (.iload_n 2, 1) := by decide +kernel
theorem dX8_set_10 : decode cX8_set 10 = .ok (.getstatic 162, 3) := by decide +kernel
theorem dX8_set_13 : decode cX8_set 13 = .ok (.iload_n 1, 1) := by decide +kernel
theorem dX8_set_14 : decode cX8_set 14 = .ok (.iaload, 1) := by decide +kernel
theorem dX8_set_15 : decode cX8_set 15 = .ok (.getstatic 165, 3) := by decide +kernel
theorem dX8_set_18 : decode cX8_set 18 = .ok (.iload_n 1, 1) := by decide +kernel
theorem dX8_set_19 : decode cX8_set 19 = .ok (.iaload, 1) := by decide +kernel
theorem dX8_set_20 : decode cX8_set 20 = .ok (.invokestatic 55, 3) := by decide +kernel
theorem dX8_set_23 : decode cX8_set 23 = .ok (.ifCond .ne 5, 3) := by decide +kernel
theorem dX8_set_26 : decode cX8_set 26 = .ok (.iconst (-1), 1) := by decide +kernel
theorem dX8_set_27 : decode cX8_set 27 = .ok (.ireturn, 1) := by decide +kernel
theorem dX8_set_28 : decode cX8_set 28 = .ok (.aload_n 0, 1) := by decide +kernel
theorem dX8_set_29 : decode cX8_set 29 = .ok (.getfield 19, 3) := by decide +kernel
theorem dX8_set_32 : decode cX8_set 32 = .ok (.aload_n 0, 1) := by decide +kernel
theorem dX8_set_33 : decode cX8_set 33 = .ok (.getfield 10, 3) := by decide +kernel
theorem dX8_set_36 : decode cX8_set 36 = .ok (.invokevirtual 69, 3) := by decide +kernel
theorem dX8_set_39 : decode cX8_set 39 = .ok (.aload_n 0, 1) := by decide +kernel
theorem dX8_set_40 : decode cX8_set 40 = .ok (.getfield 10, 3) := by decide +kernel
theorem dX8_set_43 : decode cX8_set 43 = .ok (.getfield 168, 3) := by decide +kernel
theorem dX8_set_46 : decode cX8_set 46 = .ok (.iload_n 1, 1) := by decide +kernel
theorem dX8_set_47 : decode cX8_set 47 = .ok (.iaload, 1) := by decide +kernel
theorem dX8_set_48 : decode cX8_set 48 = .ok (.istore_n 3, 1) := by decide +kernel
theorem dX8_set_49 : decode cX8_set 49 = .ok (.aload_n 0, 1) := by decide +kernel
theorem dX8_set_50 : decode cX8_set 50 = .ok (.getfield 10, 3) := by decide +kernel
theorem dX8_set_53 : decode cX8_set 53 = .ok (.getfield 168, 3) := by decide +kernel
theorem dX8_set_56 : decode cX8_set 56 = .ok (.iload_n 1, 1) := by decide +kernel
theorem dX8_set_57 : decode cX8_set 57 = .ok (.iload_n 2, 1) := by decide +kernel
theorem dX8_set_58 : decode cX8_set 58 = .ok (.iastore, 1) := by decide +kernel
theorem dX8_set_59 : decode cX8_set 59 = .ok (.iload_n 3, 1) := by decide +kernel
theorem dX8_set_60 : decode cX8_set 60 = .ok (.ireturn, 1) := by decide +kernel
theorem dX8_count_0 : decode cX8_count 0 = .ok (.iload_n 1, 1) := by decide +kernel
theorem dX8_count_1 : decode cX8_count 1 = .ok (.iconst 2, 1) := by decide +kernel
theorem dX8_count_2 : decode cX8_count 2 = .ok (.bipush 6, 2) := by decide +kernel
theorem dX8_count_4 : decode cX8_count 4 = .ok (.invokestatic 55, 3) := by decide +kernel
theorem dX8_count_7 : decode cX8_count 7 = .ok (.ifCond .eq 17, 3) := by decide +kernel
theorem dX8_count_10 : decode cX8_count 10 = .ok (.aload_n 0, 1) := by decide +kernel
theorem dX8_count_11 : decode cX8_count 11 = .ok (.getfield 10, 3) := by decide +kernel
theorem dX8_count_14 : decode cX8_count 14 = .ok (.getfield 95, 3) := by decide +kernel
theorem dX8_count_17 : decode cX8_count 17 = .ok (.iload_n 1, 1) := by decide +kernel
theorem dX8_count_18 : decode cX8_count 18 = .ok (.iconst 2, 1) := by decide +kernel
theorem dX8_count_19 : decode cX8_count 19 = .ok (.isub, 1) := by decide +kernel
theorem dX8_count_20 : decode cX8_count 20 = .ok (.invokevirtual 171, 3) := by decide +kernel
theorem dX8_count_23 : decode cX8_count 23 = .ok (.ireturn, 1) := by decide +kernel
theorem dX8_count_24 : decode cX8_count 24 = .ok (.iload_n 1, 1) := by decide +kernel
theorem dX8_count_25 : decode cX8_count 25 = .ok (.bipush 8, 2) := by decide +kernel
theorem dX8_count_27 : decode cX8_count 27 = .ok (.bipush 10, 2) := by decide +kernel
theorem dX8_count_29 : decode cX8_count 29 = .ok (.invokestatic 55, 3) := by decide +kernel
theorem dX8_count_32 : decode cX8_count 32 = .ok (.ifCond .eq 16, 3) := by decide +kernel
theorem dX8_count_35 : decode cX8_count 35 = .ok (.aload_n 0, 1) := by decide +kernel
theorem dX8_count_36 : decode cX8_count 36 = .ok (.getfield 10, 3) := by decide +kernel
theorem dX8_count_39 : decode cX8_count 39 = .ok (.getfield 168, 3) := by decide +kernel
theorem dX8_count_42 : decode cX8_count 42 = .ok (.iload_n 1, 1) := by decide +kernel
theorem dX8_count_43 : decode cX8_count 43 = .ok (.bipush 8, 2) := by decide +kernel
theorem dX8_count_45 : decode cX8_count 45 = .ok (.isub, 1) := by decide +kernel
theorem dX8_count_46 : decode cX8_count 46 = .ok (.iaload, 1) := by decide +kernel
theorem dX8_count_47 : decode cX8_count 47 = .ok (.ireturn, 1) := by decide +kernel
theorem dX8_count_48 : decode cX8_count 48 = .ok (.iload_n 1, 1) := by decide +kernel
theorem dX8_count_49 : decode cX8_count 49 = .ok (.bipush 11, 2) := by decide +kernel
theorem dX8_count_51 : decode cX8_count 51 = .ok (.bipush 19, 2) := by decide +kernel
theorem dX8_count_53 : decode cX8_count 53 = .ok (.invokestatic 55, 3) := by decide +kernel
theorem dX8_count_56 : decode cX8_count 56 = .ok (.ifCond .eq 16, 3) := by decide +kernel
theorem dX8_count_59 : decode cX8_count 59 = .ok (.aload_n 0, 1) := by decide +kernel
theorem dX8_count_60 : decode cX8_count 60 = .ok (.getfield 10, 3) := by decide +kernel
theorem dX8_count_63 : decode cX8_count 63 = .ok (.getfield 119, 3) := by decide +kernel
theorem dX8_count_66 : decode cX8_count 66 = .ok (.iload_n 1, 1) := by decide +kernel
theorem dX8_count_67 : decode cX8_count 67 = .ok (.bipush 11, 2) := by decide +kernel
theorem dX8_count_69 : decode cX8_count 69 = .ok (.isub, 1) := by decide +kernel
theorem dX8_count_70 : decode cX8_count 70 = .ok (.iaload, 1) := by decide +kernel
theorem dX8_count_71 : decode cX8_count 71 = .ok (.ireturn, 1) := by decide +kernel
theorem dX8_count_72 : decode cX8_count 72 = .ok (.iload_n 1, 1) := by decide +kernel
theorem dX8_count_73 : decode cX8_count 73 = .ok (.lookupswitch 119 #[(0, 59), (1, 70), (7, 81), (20, 92), (21, 103), (22, 111)], 59) := by decide +kernel
theorem dX8_count_132 : decode cX8_count 132 = .ok (.aload_n 0, 1) := by decide +kernel
theorem dX8_count_133 : decode cX8_count 133 = .ok (.getfield 10, 3) := by decide +kernel
theorem dX8_count_136 : decode cX8_count 136 = .ok (.getfield 59, 3) := by decide +kernel
theorem dX8_count_139 : decode cX8_count 139 = .ok (.getfield 63, 3) := by decide +kernel
theorem dX8_count_142 : decode cX8_count 142 = .ok (.ireturn, 1) := by decide +kernel
theorem dX8_count_143 : decode cX8_count 143 = .ok (.aload_n 0, 1) := by decide +kernel
theorem dX8_count_144 : decode cX8_count 144 = .ok (.getfield 10, 3) := by decide +kernel
theorem dX8_count_147 : decode cX8_count 147 = .ok (.getfield 95, 3) := by decide +kernel
theorem dX8_count_150 : decode cX8_count 150 = .ok (.invokevirtual 128, 3) := by decide +kernel
theorem dX8_count_153 : decode cX8_count 153 = .ok (.ireturn, 1) := by decide +kernel
theorem dX8_count_154 : decode cX8_count 154 = .ok (.aload_n 0, 1) := by decide +kernel
theorem dX8_count_155 : decode cX8_count 155 = .ok (.getfield 10, 3) := by decide +kernel
theorem dX8_count_158 : decode cX8_count 158 = .ok (.getfield 95, 3) := by decide +kernel
theorem dX8_count_161 : decode cX8_count 161 = .ok (.invokevirtual 174, 3) := by decide +kernel
theorem dX8_count_164 : decode cX8_count 164 = .ok (.ireturn, 1) := by decide +kernel
theorem dX8_count_165 : decode cX8_count 165 = .ok (.aload_n 0, 1) := by decide +kernel
theorem dX8_count_166 : decode cX8_count 166 = .ok (.getfield 10, 3) := by decide +kernel
theorem dX8_count_169 : decode cX8_count 169 = .ok (.getfield 101, 3) := by decide +kernel
theorem dX8_count_172 : decode cX8_count 172 = .ok (.invokevirtual 177, 3) := by decide +kernel
theorem dX8_count_175 : decode cX8_count 175 = .ok (.ireturn, 1) := by decide +kernel
theorem dX8_count_176 : decode cX8_count 176 = .ok (.aload_n 0, 1) := by decide +kernel
theorem dX8_count_177 : decode cX8_count 177 = .ok (.getfield 19, 3) := by decide +kernel
theorem dX8_count_180 : decode cX8_count 180 = .ok (.getfield 180, 3) := by decide +kernel
theorem dX8_count_183 : decode cX8_count 183 = .ok (.ireturn, 1) := by decide +kernel
theorem dX8_count_184 : decode cX8_count 184 = .ok (.aload_n 0, 1) := by decide +kernel
theorem dX8_count_185 : decode cX8_count 185 = .ok (.getfield 47, 3) := by decide +kernel
theorem dX8_count_188 : decode cX8_count 188 = .ok (.getfield 181, 3) := by decide +kernel
theorem dX8_count_191 : decode cX8_count 191 = .ok (.ireturn, 1) := by decide +kernel
theorem dX8_count_192 : decode cX8_count 192 = .ok (.iconst (-1), 1) := by decide +kernel
theorem dX8_count_193 : decode cX8_count 193 = .ok (.ireturn, 1) := by decide +kernel
theorem dX8_fire_0 : decode cX8_fire 0 = .ok (.iload_n 1, 1) := by decide +kernel
theorem dX8_fire_1 : decode cX8_fire 1 = .ok (.sipush 500, 3) := by decide +kernel
theorem dX8_fire_4 : decode cX8_fire 4 = .ok (.sipush 1200, 3) := by decide +kernel
theorem dX8_fire_7 : decode cX8_fire 7 = .ok (.invokestatic 55, 3) := by decide +kernel
theorem dX8_fire_10 : decode cX8_fire 10 = .ok (.ifCond .eq 13, 3) := by decide +kernel
theorem dX8_fire_13 : decode cX8_fire 13 = .ok (.iload_n 2, 1) := by decide +kernel
theorem dX8_fire_14 : decode cX8_fire 14 = .ok (.iconst 1, 1) := by decide +kernel
theorem dX8_fire_15 : decode cX8_fire 15 = .ok (.bipush 20, 2) := by decide +kernel
theorem dX8_fire_17 : decode cX8_fire 17 = .ok (.invokestatic 55, 3) := by decide +kernel
theorem dX8_fire_20 : decode cX8_fire 20 = .ok (.ifCond .ne 5, 3) := by decide +kernel
theorem dX8_fire_23 : decode cX8_fire 23 = .ok (.iconst (-1), 1) := by decide +kernel
theorem dX8_fire_24 : decode cX8_fire 24 = .ok (.ireturn, 1) := by decide +kernel
theorem dX8_fire_25 : decode cX8_fire 25 = .ok (.aload_n 0, 1) := by decide +kernel
theorem dX8_fire_26 : decode cX8_fire 26 = .ok (.getfield 10, 3) := by decide +kernel
theorem dX8_fire_29 : decode cX8_fire 29 = .ok (.getfield 119, 3) := by decide +kernel
theorem dX8_fire_32 : decode cX8_fire 32 = .ok (.iconst 0, 1) := by decide +kernel
theorem dX8_fire_33 : decode cX8_fire 33 = .ok (.iaload, 1) := by decide +kernel
theorem dX8_fire_34 : decode cX8_fire 34 = .ok (.sipush 1000, 3) := by decide +kernel
theorem dX8_fire_37 : decode cX8_fire 37 = .ok (.if_icmp .lt 6, 3) := by decide +kernel
theorem dX8_fire_40 : decode cX8_fire 40 = .ok (.bipush (-3), 2) := by decide +kernel
theorem dX8_fire_42 : decode cX8_fire 42 = .ok (.ireturn, 1) := by decide +kernel
theorem dX8_fire_43 : decode cX8_fire 43 = .ok (.aload_n 0, 1) := by decide +kernel
theorem dX8_fire_44 : decode cX8_fire 44 = .ok (.getfield 19, 3) := by decide +kernel
theorem dX8_fire_47 : decode cX8_fire 47 = .ok (.aload_n 0, 1) := by decide +kernel
theorem dX8_fire_48 : decode cX8_fire 48 = .ok (.getfield 10, 3) := by decide +kernel
theorem dX8_fire_51 : decode cX8_fire 51 = .ok (.invokevirtual 69, 3) := by decide +kernel
theorem dX8_fire_54 : decode cX8_fire 54 = .ok (.aload_n 0, 1) := by decide +kernel
theorem dX8_fire_55 : decode cX8_fire 55 = .ok (.getfield 26, 3) := by decide +kernel
theorem dX8_fire_58 : decode cX8_fire 58 = .ok (.aload_n 0, 1) := by decide +kernel
theorem dX8_fire_59 : decode cX8_fire 59 = .ok (.getfield 10, 3) := by decide +kernel
theorem dX8_fire_62 : decode cX8_fire 62 = .ok (.aload_n 0, 1) := by decide +kernel
theorem dX8_fire_63 : decode cX8_fire 63 = .ok (.getfield 10, 3) := by decide +kernel
theorem dX8_fire_66 : decode cX8_fire 66 = .ok (.getfield 95, 3) := by decide +kernel
theorem dX8_fire_69 : decode cX8_fire 69 = .ok (.iload_n 1, 1) := by decide +kernel
theorem dX8_fire_70 : decode cX8_fire 70 = .ok (.iload_n 2, 1) := by decide +kernel
theorem dX8_fire_71 : decode cX8_fire 71 = .ok (.invokevirtual 184, 3) := by decide +kernel
theorem dX8_fire_74 : decode cX8_fire 74 = .ok (.aload_n 0, 1) := by decide +kernel
theorem dX8_fire_75 : decode cX8_fire 75 = .ok (.getfield 10, 3) := by decide +kernel
theorem dX8_fire_78 : decode cX8_fire 78 = .ok (.getfield 119, 3) := by decide +kernel
theorem dX8_fire_81 : decode cX8_fire 81 = .ok (.iconst 0, 1) := by decide +kernel
theorem dX8_fire_82 : decode cX8_fire 82 = .ok (.dup2, 1) := by decide +kernel
theorem dX8_fire_83 : decode cX8_fire 83 = .ok (.iaload, 1) := by decide +kernel
theorem dX8_fire_84 : decode cX8_fire 84 = .ok (.iconst 1, 1) := by decide +kernel
theorem dX8_fire_85 : decode cX8_fire 85 = .ok (.iadd, 1) := by decide +kernel
theorem dX8_fire_86 : decode cX8_fire 86 = .ok (.iastore, 1) := by decide +kernel
theorem dX8_fire_87 : decode cX8_fire 87 = .ok (.aload_n 0, 1) := by decide +kernel
theorem dX8_fire_88 : decode cX8_fire 88 = .ok (.getfield 10, 3) := by decide +kernel
theorem dX8_fire_91 : decode cX8_fire 91 = .ok (.getfield 119, 3) := by decide +kernel
theorem dX8_fire_94 : decode cX8_fire 94 = .ok (.iconst 1, 1) := by decide +kernel
theorem dX8_fire_95 : decode cX8_fire 95 = .ok (.dup2, 1) := by decide +kernel
theorem dX8_fire_96 : decode cX8_fire 96 = .ok (.iaload, 1) := by decide +kernel
theorem dX8_fire_97 : decode cX8_fire 97 = .ok (.iload_n 2, 1) := by decide +kernel
theorem dX8_fire_98 : decode cX8_fire 98 = .ok (.iadd, 1) := by decide +kernel
theorem dX8_fire_99 : decode cX8_fire 99 = .ok (.iastore, 1) := by decide +kernel
theorem dX8_fire_100 : decode cX8_fire 100 = .ok (.aload_n 0, 1) := by decide +kernel
theorem dX8_fire_101 : decode cX8_fire 101 = .ok (.getfield 10, 3) := by decide +kernel
theorem dX8_fire_104 : decode cX8_fire 104 = .ok (.getfield 119, 3) := by decide +kernel
theorem dX8_fire_107 : decode cX8_fire 107 = .ok (.iconst 4, 1) := by decide +kernel
theorem dX8_fire_108 : decode cX8_fire 108 = .ok (.dup2, 1) := by decide +kernel
theorem dX8_fire_109 : decode cX8_fire 109 = .ok (.iaload, 1) := by decide +kernel
theorem dX8_fire_110 : decode cX8_fire 110 = .ok (.aload_n 0, 1) := by decide +kernel
theorem dX8_fire_111 : decode cX8_fire 111 = .ok (.getfield 26, 3) := by decide +kernel
theorem dX8_fire_114 : decode cX8_fire 114 = .ok (.getfield 188, 3) := by decide +kernel
theorem dX8_fire_117 : decode cX8_fire 117 = .ok (.iadd, 1) := by decide +kernel
theorem dX8_fire_118 : decode cX8_fire 118 = .ok (.iastore, 1) := by decide +kernel
theorem dX8_fire_119 : decode cX8_fire 119 = .ok (.aload_n 0, 1) := by decide +kernel
theorem dX8_fire_120 : decode cX8_fire 120 = .ok (.getfield 10, 3) := by decide +kernel
theorem dX8_fire_123 : decode cX8_fire 123 = .ok (.getfield 119, 3) := by decide +kernel
theorem dX8_fire_126 : decode cX8_fire 126 = .ok (.iconst 5, 1) := by decide +kernel
theorem dX8_fire_127 : decode cX8_fire 127 = .ok (.dup2, 1) := by decide +kernel
theorem dX8_fire_128 : decode cX8_fire 128 = .ok (.iaload, 1) := by decide +kernel
theorem dX8_fire_129 : decode cX8_fire 129 = .ok (.aload_n 0, 1) := by decide +kernel
theorem dX8_fire_130 : decode cX8_fire 130 = .ok (.getfield 26, 3) := by decide +kernel
theorem dX8_fire_133 : decode cX8_fire 133 = .ok (.getfield 191, 3) := by decide +kernel
theorem dX8_fire_136 : decode cX8_fire 136 = .ok (.iadd, 1) := by decide +kernel
theorem dX8_fire_137 : decode cX8_fire 137 = .ok (.iastore, 1) := by decide +kernel
theorem dX8_fire_138 : decode cX8_fire 138 = .ok (.aload_n 0, 1) := by decide +kernel
theorem dX8_fire_139 : decode cX8_fire 139 = .ok (.getfield 10, 3) := by decide +kernel
theorem dX8_fire_142 : decode cX8_fire 142 = .ok (.getfield 119, 3) := by decide +kernel
theorem dX8_fire_145 : decode cX8_fire 145 = .ok (.bipush 6, 2) := by decide +kernel
theorem dX8_fire_147 : decode cX8_fire 147 = .ok (.dup2, 1) := by decide +kernel
theorem dX8_fire_148 : decode cX8_fire 148 = .ok (.iaload, 1) := by decide +kernel
theorem dX8_fire_149 : decode cX8_fire 149 = .ok (.aload_n 0, 1) := by decide +kernel
theorem dX8_fire_150 : decode cX8_fire 150 = .ok (.getfield 26, 3) := by decide +kernel
theorem dX8_fire_153 : decode cX8_fire 153 = .ok (.getfield 194, 3) := by decide +kernel
theorem dX8_fire_156 : decode cX8_fire 156 = .ok (.iadd, 1) := by decide +kernel
theorem dX8_fire_157 : decode cX8_fire 157 = .ok (.iastore, 1) := by decide +kernel
theorem dX8_fire_158 : decode cX8_fire 158 = .ok (.aload_n 0, 1) := by decide +kernel
theorem dX8_fire_159 : decode cX8_fire 159 = .ok (.getfield 10, 3) := by decide +kernel
theorem dX8_fire_162 : decode cX8_fire 162 = .ok (.getfield 119, 3) := by decide +kernel
theorem dX8_fire_165 : decode cX8_fire 165 = .ok (.bipush 7, 2) := by decide +kernel
theorem dX8_fire_167 : decode cX8_fire 167 = .ok (.dup2, 1) := by decide +kernel
theorem dX8_fire_168 : decode cX8_fire 168 = .ok (.iaload, 1) := by decide +kernel
theorem dX8_fire_169 : decode cX8_fire 169 = .ok (.aload_n 0, 1) := by decide +kernel
theorem dX8_fire_170 : decode cX8_fire 170 = .ok (.getfield 26, 3) := by decide +kernel
theorem dX8_fire_173 : decode cX8_fire 173 = .ok (.getfield 197, 3) := by decide +kernel
theorem dX8_fire_176 : decode cX8_fire 176 = .ok (.iadd, 1) := by decide +kernel
theorem dX8_fire_177 : decode cX8_fire 177 = .ok (.iastore, 1) := by decide +kernel
theorem dX8_fire_178 : decode cX8_fire 178 = .ok (.aload_n 0, 1) := by decide +kernel
theorem dX8_fire_179 : decode cX8_fire 179 = .ok (.getfield 10, 3) := by decide +kernel
theorem dX8_fire_182 : decode cX8_fire 182 = .ok (.getfield 119, 3) := by decide +kernel
theorem dX8_fire_185 : decode cX8_fire 185 = .ok (.bipush 8, 2) := by decide +kernel
theorem dX8_fire_187 : decode cX8_fire 187 = .ok (.dup2, 1) := by decide +kernel
theorem dX8_fire_188 : decode cX8_fire 188 = .ok (.iaload, 1) := by decide +kernel
theorem dX8_fire_189 : decode cX8_fire 189 = .ok (.aload_n 0, 1) := by decide +kernel
theorem dX8_fire_190 : decode cX8_fire 190 = .ok (.getfield 26, 3) := by decide +kernel
theorem dX8_fire_193 : decode cX8_fire 193 = .ok (.getfield 199, 3) := by decide +kernel
theorem dX8_fire_196 : decode cX8_fire 196 = .ok (.iadd, 1) := by decide +kernel
theorem dX8_fire_197 : decode cX8_fire 197 = .ok (.iastore, 1) := by decide +kernel
theorem dX8_fire_198 : decode cX8_fire 198 = .ok (.aload_n 0, 1) := by decide +kernel
theorem dX8_fire_199 : decode cX8_fire 199 = .ok (.getfield 26, 3) := by decide +kernel
theorem dX8_fire_202 : decode cX8_fire 202 = .ok (.getfield 188, 3) := by decide +kernel
theorem dX8_fire_205 : decode cX8_fire 205 = .ok (.ireturn, 1) := by decide +kernel
theorem dX8_ifFired_0 : decode cX8_ifFired 0 = .ok (.iload_n 1, 1) := by decide +kernel
theorem dX8_ifFired_1 : decode cX8_ifFired 1 = .ok (.sipush 500, 3) := by decide +kernel
theorem dX8_ifFired_4 : decode cX8_ifFired 4 = .ok (.sipush 1200, 3) := by decide +kernel
theorem dX8_ifFired_7 : decode cX8_ifFired 7 = .ok (.invokestatic 55, 3) := by decide +kernel
theorem dX8_ifFired_10 : decode cX8_ifFired 10 = .ok (.ifCond .eq 12, 3) := by decide +kernel
theorem dX8_ifFired_13 : decode cX8_ifFired 13 = .ok (.iload_n 2, 1) := by decide +kernel
theorem dX8_ifFired_14 : decode cX8_ifFired 14 = .ok (.iconst 0, 1) := by decide +kernel
theorem dX8_ifFired_15 : decode cX8_ifFired 15 = .ok (.iconst 4, 1) := by decide +kernel
theorem dX8_ifFired_16 : decode cX8_ifFired 16 = .ok (.invokestatic 55, 3) := by decide +kernel
theorem dX8_ifFired_19 : decode cX8_ifFired 19 = .ok (.ifCond .ne 5, 3) := by decide +kernel
theorem dX8_ifFired_22 : decode cX8_ifFired 22 = .ok (.iconst (-1), 1) := by decide +kernel
theorem dX8_ifFired_23 : decode cX8_ifFired 23 = .ok (.ireturn, 1) := by decide +kernel
theorem dX8_ifFired_24 : decode cX8_ifFired 24 = .ok (.aload_n 0, 1) := by decide +kernel
theorem dX8_ifFired_25 : decode cX8_ifFired 25 = .ok (.iload_n 1, 1) := by decide +kernel
theorem dX8_ifFired_26 : decode cX8_ifFired 26 = .ok (.invokevirtual 202, 3) := by decide +kernel
theorem dX8_ifFired_29 : decode cX8_ifFired 29 = .ok (.iload_n 2, 1) := by decide +kernel
theorem dX8_ifFired_30 : decode cX8_ifFired 30 = .ok (.tableswitch 62 0 3 #[30, 38, 46, 54], 30) := by decide +kernel
theorem dX8_ifFired_60 : decode cX8_ifFired 60 = .ok (.aload_n 0, 1) := by decide +kernel
theorem dX8_ifFired_61 : decode cX8_ifFired 61 = .ok (.getfield 26, 3) := by decide +kernel
theorem dX8_ifFired_64 : decode cX8_ifFired 64 = .ok (.getfield 188, 3) := by decide +kernel
theorem dX8_ifFired_67 : decode cX8_ifFired 67 = .ok (.ireturn, 1) := by decide +kernel
theorem dX8_ifFired_68 : decode cX8_ifFired 68 = .ok (.aload_n 0, 1) := by decide +kernel
theorem dX8_ifFired_69 : decode cX8_ifFired 69 = .ok (.getfield 26, 3) := by decide +kernel
theorem dX8_ifFired_72 : decode cX8_ifFired 72 = .ok (.getfield 194, 3) := by decide +kernel
theorem dX8_ifFired_75 : decode cX8_ifFired 75 = .ok (.ireturn, 1) := by decide +kernel
theorem dX8_ifFired_76 : decode cX8_ifFired 76 = .ok (.aload_n 0, 1) := by decide +kernel
theorem dX8_ifFired_77 : decode cX8_ifFired 77 = .ok (.getfield 26, 3) := by decide +kernel
theorem dX8_ifFired_80 : decode cX8_ifFired 80 = .ok (.getfield 191, 3) := by decide +kernel
theorem dX8_ifFired_83 : decode cX8_ifFired 83 = .ok (.ireturn, 1) := by decide +kernel
theorem dX8_ifFired_84 : decode cX8_ifFired 84 = .ok (.aload_n 0, 1) := by decide +kernel
theorem dX8_ifFired_85 : decode cX8_ifFired 85 = .ok (.getfield 26, 3) := by decide +kernel
theorem dX8_ifFired_88 : decode cX8_ifFired 88 = .ok (.getfield 197, 3) := by decide +kernel
theorem dX8_ifFired_91 : decode cX8_ifFired 91 = .ok (.ireturn, 1) := by decide +kernel
theorem dX8_ifFired_92 : decode cX8_ifFired 92 = .ok (.aload_n 0, 1) := by decide +kernel
theorem dX8_ifFired_93 : decode cX8_ifFired 93 = .ok (.getfield 26, 3) := by decide +kernel
theorem dX8_ifFired_96 : decode cX8_ifFired 96 = .ok (.getfield 199, 3) := by decide +kernel
theorem dX8_ifFired_99 : decode cX8_ifFired 99 = .ok (.ireturn, 1) := by decide +kernel
theorem dX8_bestHeat_0 : decode cX8_bestHeat 0 = .ok (.aload_n 0, 1) := by decide +kernel
theorem dX8_bestHeat_1 : decode cX8_bestHeat 1 = .ok (.sipush 500, 3) := by decide +kernel
theorem dX8_bestHeat_4 : decode cX8_bestHeat 4 = .ok (.invokevirtual 202, 3) := by decide +kernel
theorem dX8_bestHeat_7 : decode cX8_bestHeat 7 = .ok (.sipush 500, 3) := by decide +kernel
theorem dX8_bestHeat_10 : decode cX8_bestHeat 10 = .ok (.istore_n 1, 1) := by decide +kernel
theorem dX8_bestHeat_11 : decode cX8_bestHeat 11 = .ok (.aload_n 0, 1) := by decide +kernel
theorem dX8_bestHeat_12 : decode cX8_bestHeat 12 = .ok (.getfield 26, 3) := by decide +kernel
theorem dX8_bestHeat_15 : decode cX8_bestHeat 15 = .ok (.getfield 188, 3) := by decide +kernel
theorem dX8_bestHeat_18 : decode cX8_bestHeat 18 = .ok (.istore_n 2, 1) := by decide +kernel
theorem dX8_bestHeat_19 : decode cX8_bestHeat 19 = .ok (.iconst 0, 1) := by decide +kernel
theorem dX8_bestHeat_20 : decode cX8_bestHeat 20 = .ok (.istore_n 3, 1) := by decide +kernel
theorem dX8_bestHeat_21 : decode cX8_bestHeat 21 = .ok (.iload_n 3, 1) := by decide +kernel
theorem dX8_bestHeat_22 : decode cX8_bestHeat 22 = .ok (.aload_n 0, 1) := by decide +kernel
theorem dX8_bestHeat_23 : decode cX8_bestHeat 23 = .ok (.getfield 10, 3) := by decide +kernel
theorem dX8_bestHeat_26 : decode cX8_bestHeat 26 = .ok (.getfield 59, 3) := by decide +kernel
theorem dX8_bestHeat_29 : decode cX8_bestHeat 29 = .ok (.getfield 63, 3) := by decide +kernel
theorem dX8_bestHeat_32 : decode cX8_bestHeat 32 = .ok (.if_icmp .ge 78, 3) := by decide +kernel
theorem dX8_bestHeat_35 : decode cX8_bestHeat 35 = .ok (.aload_n 0, 1) := by decide +kernel
theorem dX8_bestHeat_36 : decode cX8_bestHeat 36 = .ok (.getfield 10, 3) := by decide +kernel
theorem dX8_bestHeat_39 : decode cX8_bestHeat 39 = .ok (.getfield 59, 3) := by decide +kernel
theorem dX8_bestHeat_42 : decode cX8_bestHeat 42 = .ok (.getfield 81, 3) := by decide +kernel
theorem dX8_bestHeat_45 : decode cX8_bestHeat 45 = .ok (.iload_n 3, 1) := by decide +kernel
theorem dX8_bestHeat_46 : decode cX8_bestHeat 46 = .ok (.iaload, 1) := by decide +kernel
theorem dX8_bestHeat_47 : decode cX8_bestHeat 47 = .ok (.istore 4, 2) := by decide +kernel
theorem dX8_bestHeat_49 : decode cX8_bestHeat 49 = .ok (.aload_n 0, 1) := by decide +kernel
theorem dX8_bestHeat_50 : decode cX8_bestHeat 50 = .ok (.iload 4, 2) := by decide +kernel
theorem dX8_bestHeat_52 : decode cX8_bestHeat 52 = .ok (.invokevirtual 202, 3) := by decide +kernel
theorem dX8_bestHeat_55 : decode cX8_bestHeat 55 = .ok (.aload_n 0, 1) := by decide +kernel
theorem dX8_bestHeat_56 : decode cX8_bestHeat 56 = .ok (.getfield 26, 3) := by decide +kernel
theorem dX8_bestHeat_59 : decode cX8_bestHeat 59 = .ok (.getfield 194, 3) := by decide +kernel
theorem dX8_bestHeat_62 : decode cX8_bestHeat 62 = .ok (.ifCond .ne 42, 3) := by decide +kernel
theorem dX8_bestHeat_65 : decode cX8_bestHeat 65 = .ok (.aload_n 0, 1) := by decide +kernel
theorem dX8_bestHeat_66 : decode cX8_bestHeat 66 = .ok (.getfield 26, 3) := by decide +kernel
theorem dX8_bestHeat_69 : decode cX8_bestHeat 69 = .ok (.getfield 188, 3) := by decide +kernel
theorem dX8_bestHeat_72 : decode cX8_bestHeat 72 = .ok (.iload_n 2, 1) := by decide +kernel
theorem dX8_bestHeat_73 : decode cX8_bestHeat 73 = .ok (.if_icmp .gt 20, 3) := by decide +kernel
theorem dX8_bestHeat_76 : decode cX8_bestHeat 76 = .ok (.aload_n 0, 1) := by decide +kernel
theorem dX8_bestHeat_77 : decode cX8_bestHeat 77 = .ok (.getfield 26, 3) := by decide +kernel
theorem dX8_bestHeat_80 : decode cX8_bestHeat 80 = .ok (.getfield 188, 3) := by decide +kernel
theorem dX8_bestHeat_83 : decode cX8_bestHeat 83 = .ok (.iload_n 2, 1) := by decide +kernel
theorem dX8_bestHeat_84 : decode cX8_bestHeat 84 = .ok (.if_icmp .ne 20, 3) := by decide +kernel
theorem dX8_bestHeat_87 : decode cX8_bestHeat 87 = .ok (.iload 4, 2) := by decide +kernel
theorem dX8_bestHeat_89 : decode cX8_bestHeat 89 = .ok (.iload_n 1, 1) := by decide +kernel
theorem dX8_bestHeat_90 : decode cX8_bestHeat 90 = .ok (.if_icmp .ge 14, 3) := by decide +kernel
theorem dX8_bestHeat_93 : decode cX8_bestHeat 93 = .ok (.iload 4, 2) := by decide +kernel
theorem dX8_bestHeat_95 : decode cX8_bestHeat 95 = .ok (.istore_n 1, 1) := by decide +kernel
theorem dX8_bestHeat_96 : decode cX8_bestHeat 96 = .ok (.aload_n 0, 1) := by decide +kernel
theorem dX8_bestHeat_97 : decode cX8_bestHeat 97 = .ok (.getfield 26, 3) := by decide +kernel
theorem dX8_bestHeat_100 : decode cX8_bestHeat 100 = .ok (.getfield 188, 3) := by decide +kernel
theorem dX8_bestHeat_103 : decode cX8_bestHeat 103 = .ok (.istore_n 2, 1) := by decide +kernel
theorem dX8_bestHeat_104 : decode cX8_bestHeat 104 = .ok (.iinc 3 1, 3) := by decide +kernel
theorem dX8_bestHeat_107 : decode cX8_bestHeat 107 = .ok (.goto (-86), 3) := by decide +kernel
theorem dX8_bestHeat_110 : decode cX8_bestHeat 110 = .ok (.iload_n 1, 1) := by decide +kernel
theorem dX8_bestHeat_111 : decode cX8_bestHeat 111 = .ok (.ireturn, 1) := by decide +kernel
theorem dX8_wish_0 : decode cX8_wish 0 = .ok (.iload_n 1, 1) := by decide +kernel
theorem dX8_wish_1 : decode cX8_wish 1 = .ok (.invokestatic 206, 3) := by decide +kernel
theorem dX8_wish_4 : decode cX8_wish 4 = .ok (.ifCond .eq 16, 3) := by decide +kernel
theorem dX8_wish_7 : decode cX8_wish 7 = .ok (.iload_n 2, 1) := by decide +kernel
theorem dX8_wish_8 : decode cX8_wish 8 = .ok (.iconst (-1), 1) := by decide +kernel
theorem dX8_wish_9 : decode cX8_wish 9 = .ok (.if_icmp .eq 13, 3) := by decide +kernel
theorem dX8_wish_12 : decode cX8_wish 12 = .ok (.aload_n 0, 1) := by decide +kernel
theorem dX8_wish_13 : decode cX8_wish 13 = .ok (.iload_n 2, 1) := by decide +kernel
theorem dX8_wish_14 : decode cX8_wish 14 = .ok (.invokevirtual 77, 3) := by decide +kernel
theorem dX8_wish_17 : decode cX8_wish 17 = .ok (.ifCond .ne 5, 3) := by decide +kernel
theorem dX8_wish_20 : decode cX8_wish 20 = .ok (.iconst (-1), 1) := by decide +kernel
theorem dX8_wish_21 : decode cX8_wish 21 = .ok (.ireturn, 1) := by decide +kernel
theorem dX8_wish_22 : decode cX8_wish 22 = .ok (.iload_n 2, 1) := by decide +kernel
theorem dX8_wish_23 : decode cX8_wish 23 = .ok (.iconst (-1), 1) := by decide +kernel
theorem dX8_wish_24 : decode cX8_wish 24 = .ok (.if_icmp .eq 22, 3) := by decide +kernel
theorem dX8_wish_27 : decode cX8_wish 27 = .ok (.aload_n 0, 1) := by decide +kernel
theorem dX8_wish_28 : decode cX8_wish 28 = .ok (.getfield 10, 3) := by decide +kernel
theorem dX8_wish_31 : decode cX8_wish 31 = .ok (.getfield 101, 3) := by decide +kernel
theorem dX8_wish_34 : decode cX8_wish 34 = .ok (.getfield 209, 3) := by decide +kernel
theorem dX8_wish_37 : decode cX8_wish 37 = .ok (.iload_n 1, 1) := by decide +kernel
theorem dX8_wish_38 : decode cX8_wish 38 = .ok (.iaload, 1) := by decide +kernel
theorem dX8_wish_39 : decode cX8_wish 39 = .ok (.iconst 3, 1) := by decide +kernel
theorem dX8_wish_40 : decode cX8_wish 40 = .ok (.if_icmp .lt 6, 3) := by decide +kernel
theorem dX8_wish_43 : decode cX8_wish 43 = .ok (.bipush (-3), 2) := by decide +kernel
theorem dX8_wish_45 : decode cX8_wish 45 = .ok (.ireturn, 1) := by decide +kernel
theorem dX8_wish_46 : decode cX8_wish 46 = .ok (.aload_n 0, 1) := by decide +kernel
theorem dX8_wish_47 : decode cX8_wish 47 = .ok (.getfield 19, 3) := by decide +kernel
theorem dX8_wish_50 : decode cX8_wish 50 = .ok (.aload_n 0, 1) := by decide +kernel
theorem dX8_wish_51 : decode cX8_wish 51 = .ok (.getfield 10, 3) := by decide +kernel
theorem dX8_wish_54 : decode cX8_wish 54 = .ok (.invokevirtual 69, 3) := by decide +kernel
theorem dX8_wish_57 : decode cX8_wish 57 = .ok (.aload_n 0, 1) := by decide +kernel
theorem dX8_wish_58 : decode cX8_wish 58 = .ok (.iconst 1, 1) := by decide +kernel
theorem dX8_wish_59 : decode cX8_wish 59 = .ok (.putfield 51, 3) := by decide +kernel
theorem dX8_wish_62 : decode cX8_wish 62 = .ok (.iload_n 2, 1) := by decide +kernel
theorem dX8_wish_63 : decode cX8_wish 63 = .ok (.iconst (-1), 1) := by decide +kernel
theorem dX8_wish_64 : decode cX8_wish 64 = .ok (.if_icmp .ne 19, 3) := by decide +kernel
theorem dX8_wish_67 : decode cX8_wish 67 = .ok (.aload_n 0, 1) := by decide +kernel
theorem dX8_wish_68 : decode cX8_wish 68 = .ok (.getfield 10, 3) := by decide +kernel
theorem dX8_wish_71 : decode cX8_wish 71 = .ok (.getfield 101, 3) := by decide +kernel
theorem dX8_wish_74 : decode cX8_wish 74 = .ok (.getfield 209, 3) := by decide +kernel
theorem dX8_wish_77 : decode cX8_wish 77 = .ok (.iload_n 1, 1) := by decide +kernel
theorem dX8_wish_78 : decode cX8_wish 78 = .ok (.iconst 0, 1) := by decide +kernel
theorem dX8_wish_79 : decode cX8_wish 79 = .ok (.iastore, 1) := by decide +kernel
theorem dX8_wish_80 : decode cX8_wish 80 = .ok (.goto 15, 3) := by decide +kernel
theorem dX8_wish_83 : decode cX8_wish 83 = .ok (.aload_n 0, 1) := by decide +kernel
theorem dX8_wish_84 : decode cX8_wish 84 = .ok (.getfield 10, 3) := by decide +kernel
theorem dX8_wish_87 : decode cX8_wish 87 = .ok (.getfield 101, 3) := by decide +kernel
theorem dX8_wish_90 : decode cX8_wish 90 = .ok (.iload_n 1, 1) := by decide +kernel
theorem dX8_wish_91 : decode cX8_wish 91 = .ok (.iload_n 2, 1) := by decide +kernel
theorem dX8_wish_92 : decode cX8_wish 92 = .ok (.invokevirtual 210, 3) := by decide +kernel
theorem dX8_wish_95 : decode cX8_wish 95 = .ok (.aload_n 0, 1) := by decide +kernel
theorem dX8_wish_96 : decode cX8_wish 96 = .ok (.getfield 10, 3) := by decide +kernel
theorem dX8_wish_99 : decode cX8_wish 99 = .ok (.getfield 101, 3) := by decide +kernel
theorem dX8_wish_102 : decode cX8_wish 102 = .ok (.getfield 209, 3) := by decide +kernel
theorem dX8_wish_105 : decode cX8_wish 105 = .ok (.iload_n 1, 1) := by decide +kernel
theorem dX8_wish_106 : decode cX8_wish 106 = .ok (.iaload, 1) := by decide +kernel
theorem dX8_wish_107 : decode cX8_wish 107 = .ok (.ireturn, 1) := by decide +kernel
theorem dX8_wished_0 : decode cX8_wished 0 = .ok (.iload_n 1, 1) := by decide +kernel
theorem dX8_wished_1 : decode cX8_wished 1 = .ok (.invokestatic 206, 3) := by decide +kernel
theorem dX8_wished_4 : decode cX8_wished 4 = .ok (.ifCond .eq 7, 3) := by decide +kernel
theorem dX8_wished_7 : decode cX8_wished 7 = .ok (.iload_n 2, 1) := by decide +kernel
theorem dX8_wished_8 : decode cX8_wished 8 = .ok (.ifCond .ge 5, 3) := by decide +kernel
theorem dX8_wished_11 : decode cX8_wished 11 = .ok (.iconst (-1), 1) := by decide +kernel
theorem dX8_wished_12 : decode cX8_wished 12 = .ok (.ireturn, 1) := by decide +kernel
theorem dX8_wished_13 : decode cX8_wished 13 = .ok (.iload_n 2, 1) := by decide +kernel
theorem dX8_wished_14 : decode cX8_wished 14 = .ok (.aload_n 0, 1) := by decide +kernel
theorem dX8_wished_15 : decode cX8_wished 15 = .ok (.getfield 10, 3) := by decide +kernel
theorem dX8_wished_18 : decode cX8_wished 18 = .ok (.getfield 101, 3) := by decide +kernel
theorem dX8_wished_21 : decode cX8_wished 21 = .ok (.getfield 209, 3) := by decide +kernel
theorem dX8_wished_24 : decode cX8_wished 24 = .ok (.iload_n 1, 1) := by decide +kernel
theorem dX8_wished_25 : decode cX8_wished 25 = .ok (.iaload, 1) := by decide +kernel
theorem dX8_wished_26 : decode cX8_wished 26 = .ok (.if_icmp .lt 6, 3) := by decide +kernel
theorem dX8_wished_29 : decode cX8_wished 29 = .ok (.bipush (-4), 2) := by decide +kernel
theorem dX8_wished_31 : decode cX8_wished 31 = .ok (.ireturn, 1) := by decide +kernel
theorem dX8_wished_32 : decode cX8_wished 32 = .ok (.aload_n 0, 1) := by decide +kernel
theorem dX8_wished_33 : decode cX8_wished 33 = .ok (.getfield 10, 3) := by decide +kernel
theorem dX8_wished_36 : decode cX8_wished 36 = .ok (.getfield 101, 3) := by decide +kernel
theorem dX8_wished_39 : decode cX8_wished 39 = .ok (.getfield 213, 3) := by decide +kernel
theorem dX8_wished_42 : decode cX8_wished 42 = .ok (.iload_n 1, 1) := by decide +kernel
theorem dX8_wished_43 : decode cX8_wished 43 = .ok (.iload_n 2, 1) := by decide +kernel
theorem dX8_wished_44 : decode cX8_wished 44 = .ok (.invokestatic 135, 3) := by decide +kernel
theorem dX8_wished_47 : decode cX8_wished 47 = .ok (.iaload, 1) := by decide +kernel
theorem dX8_wished_48 : decode cX8_wished 48 = .ok (.ireturn, 1) := by decide +kernel
theorem dX8_leastFirings_0 : decode cX8_leastFirings 0 = .ok (.aload_n 0, 1) := by decide +kernel
theorem dX8_leastFirings_1 : decode cX8_leastFirings 1 = .ok (.invokevirtual 214, 3) := by decide +kernel
theorem dX8_leastFirings_4 : decode cX8_leastFirings 4 = .ok (.aload_n 0, 1) := by decide +kernel
theorem dX8_leastFirings_5 : decode cX8_leastFirings 5 = .ok (.getfield 40, 3) := by decide +kernel
theorem dX8_leastFirings_8 : decode cX8_leastFirings 8 = .ok (.getfield 217, 3) := by decide +kernel
theorem dX8_leastFirings_11 : decode cX8_leastFirings 11 = .ok (.ifCond .eq 13, 3) := by decide +kernel
theorem dX8_leastFirings_14 : decode cX8_leastFirings 14 = .ok (.aload_n 0, 1) := by decide +kernel
theorem dX8_leastFirings_15 : decode cX8_leastFirings 15 = .ok (.getfield 40, 3) := by decide +kernel
theorem dX8_leastFirings_18 : decode cX8_leastFirings 18 = .ok (.getfield 220, 3) := by decide +kernel
theorem dX8_leastFirings_21 : decode cX8_leastFirings 21 = .ok (.goto 5, 3) := by decide +kernel
theorem dX8_leastFirings_24 : decode cX8_leastFirings 24 = .ok (.bipush (-4), 2) := by decide +kernel
theorem dX8_leastFirings_26 : decode cX8_leastFirings 26 = .ok (.ireturn, 1) := by decide +kernel
theorem dX8_planned_0 : decode cX8_planned 0 = .ok (.iload_n 1, 1) := by decide +kernel
theorem dX8_planned_1 : decode cX8_planned 1 = .ok (.ifCond .lt 12, 3) := by decide +kernel
theorem dX8_planned_4 : decode cX8_planned 4 = .ok (.iload_n 2, 1) := by decide +kernel
theorem dX8_planned_5 : decode cX8_planned 5 = .ok (.iconst 0, 1) := by decide +kernel
theorem dX8_planned_6 : decode cX8_planned 6 = .ok (.iconst 1, 1) := by decide +kernel
theorem dX8_planned_7 : decode cX8_planned 7 = .ok (.invokestatic 55, 3) := by decide +kernel
theorem dX8_planned_10 : decode cX8_planned 10 = .ok (.ifCond .ne 5, 3) := by decide +kernel
theorem dX8_planned_13 : decode cX8_planned 13 = .ok (.iconst (-1), 1) := by decide +kernel
theorem dX8_planned_14 : decode cX8_planned 14 = .ok (.ireturn, 1) := by decide +kernel
theorem dX8_planned_15 : decode cX8_planned 15 = .ok (.aload_n 0, 1) := by decide +kernel
theorem dX8_planned_16 : decode cX8_planned 16 = .ok (.invokevirtual 214, 3) := by decide +kernel
theorem dX8_planned_19 : decode cX8_planned 19 = .ok (.aload_n 0, 1) := by decide +kernel
theorem dX8_planned_20 : decode cX8_planned 20 = .ok (.getfield 40, 3) := by decide +kernel
theorem dX8_planned_23 : decode cX8_planned 23 = .ok (.getfield 217, 3) := by decide +kernel
theorem dX8_planned_26 : decode cX8_planned 26 = .ok (.ifCond .eq 14, 3) := by decide +kernel
theorem dX8_planned_29 : decode cX8_planned 29 = .ok (.iload_n 1, 1) := by decide +kernel
theorem dX8_planned_30 : decode cX8_planned 30 = .ok (.aload_n 0, 1) := by decide +kernel
theorem dX8_planned_31 : decode cX8_planned 31 = .ok (.getfield 40, 3) := by decide +kernel
theorem dX8_planned_34 : decode cX8_planned 34 = .ok (.getfield 220, 3) := by decide +kernel
theorem dX8_planned_37 : decode cX8_planned 37 = .ok (.if_icmp .lt 6, 3) := by decide +kernel
theorem dX8_planned_40 : decode cX8_planned 40 = .ok (.bipush (-4), 2) := by decide +kernel
theorem dX8_planned_42 : decode cX8_planned 42 = .ok (.ireturn, 1) := by decide +kernel
theorem dX8_planned_43 : decode cX8_planned 43 = .ok (.iload_n 2, 1) := by decide +kernel
theorem dX8_planned_44 : decode cX8_planned 44 = .ok (.ifCond .ne 15, 3) := by decide +kernel
theorem dX8_planned_47 : decode cX8_planned 47 = .ok (.aload_n 0, 1) := by decide +kernel
theorem dX8_planned_48 : decode cX8_planned 48 = .ok (.getfield 40, 3) := by decide +kernel
theorem dX8_planned_51 : decode cX8_planned 51 = .ok (.getfield 221, 3) := by decide +kernel
theorem dX8_planned_54 : decode cX8_planned 54 = .ok (.iload_n 1, 1) := by decide +kernel
theorem dX8_planned_55 : decode cX8_planned 55 = .ok (.iaload, 1) := by decide +kernel
theorem dX8_planned_56 : decode cX8_planned 56 = .ok (.goto 12, 3) := by decide +kernel
theorem dX8_planned_59 : decode cX8_planned 59 = .ok (.aload_n 0, 1) := by decide +kernel
theorem dX8_planned_60 : decode cX8_planned 60 = .ok (.getfield 40, 3) := by decide +kernel
theorem dX8_planned_63 : decode cX8_planned 63 = .ok (.getfield 224, 3) := by decide +kernel
theorem dX8_planned_66 : decode cX8_planned 66 = .ok (.iload_n 1, 1) := by decide +kernel
theorem dX8_planned_67 : decode cX8_planned 67 = .ok (.iaload, 1) := by decide +kernel
theorem dX8_planned_68 : decode cX8_planned 68 = .ok (.ireturn, 1) := by decide +kernel
theorem dX8_counter_0 : decode cX8_counter 0 = .ok (.bipush (-4), 2) := by decide +kernel
theorem dX8_counter_2 : decode cX8_counter 2 = .ok (.istore_n 1, 1) := by decide +kernel
theorem dX8_counter_3 : decode cX8_counter 3 = .ok (.iconst 0, 1) := by decide +kernel
theorem dX8_counter_4 : decode cX8_counter 4 = .ok (.istore_n 2, 1) := by decide +kernel
theorem dX8_counter_5 : decode cX8_counter 5 = .ok (.iconst 0, 1) := by decide +kernel
theorem dX8_counter_6 : decode cX8_counter 6 = .ok (.istore_n 3, 1) := by decide +kernel
theorem dX8_counter_7 : decode cX8_counter 7 = .ok (.iload_n 3, 1) := by decide +kernel
theorem dX8_counter_8 : decode cX8_counter 8 = .ok (.aload_n 0, 1) := by decide +kernel
theorem dX8_counter_9 : decode cX8_counter 9 = .ok (.getfield 10, 3) := by decide +kernel
theorem dX8_counter_12 : decode cX8_counter 12 = .ok (.getfield 59, 3) := by decide +kernel
theorem dX8_counter_15 : decode cX8_counter 15 = .ok (.getfield 63, 3) := by decide +kernel
theorem dX8_counter_18 : decode cX8_counter 18 = .ok (.if_icmp .ge 46, 3) := by decide +kernel
theorem dX8_counter_21 : decode cX8_counter 21 = .ok (.aload_n 0, 1) := by decide +kernel
theorem dX8_counter_22 : decode cX8_counter 22 = .ok (.getfield 10, 3) := by decide +kernel
theorem dX8_counter_25 : decode cX8_counter 25 = .ok (.getfield 95, 3) := by decide +kernel
theorem dX8_counter_28 : decode cX8_counter 28 = .ok (.iload_n 3, 1) := by decide +kernel
theorem dX8_counter_29 : decode cX8_counter 29 = .ok (.aload_n 0, 1) := by decide +kernel
theorem dX8_counter_30 : decode cX8_counter 30 = .ok (.getfield 10, 3) := by decide +kernel
theorem dX8_counter_33 : decode cX8_counter 33 = .ok (.getfield 59, 3) := by decide +kernel
theorem dX8_counter_36 : decode cX8_counter 36 = .ok (.invokevirtual 227, 3) := by decide +kernel
theorem dX8_counter_39 : decode cX8_counter 39 = .ok (.istore 4, 2) := by decide +kernel
theorem dX8_counter_41 : decode cX8_counter 41 = .ok (.iload_n 1, 1) := by decide +kernel
theorem dX8_counter_42 : decode cX8_counter 42 = .ok (.bipush (-4), 2) := by decide +kernel
theorem dX8_counter_44 : decode cX8_counter 44 = .ok (.if_icmp .eq 9, 3) := by decide +kernel
theorem dX8_counter_47 : decode cX8_counter 47 = .ok (.iload 4, 2) := by decide +kernel
theorem dX8_counter_49 : decode cX8_counter 49 = .ok (.iload_n 2, 1) := by decide +kernel
theorem dX8_counter_50 : decode cX8_counter 50 = .ok (.if_icmp .ge 8, 3) := by decide +kernel
theorem dX8_counter_53 : decode cX8_counter 53 = .ok (.iload_n 3, 1) := by decide +kernel
theorem dX8_counter_54 : decode cX8_counter 54 = .ok (.istore_n 1, 1) := by decide +kernel
theorem dX8_counter_55 : decode cX8_counter 55 = .ok (.iload 4, 2) := by decide +kernel
theorem dX8_counter_57 : decode cX8_counter 57 = .ok (.istore_n 2, 1) := by decide +kernel
theorem dX8_counter_58 : decode cX8_counter 58 = .ok (.iinc 3 1, 3) := by decide +kernel
theorem dX8_counter_61 : decode cX8_counter 61 = .ok (.goto (-54), 3) := by decide +kernel
theorem dX8_counter_64 : decode cX8_counter 64 = .ok (.iload_n 1, 1) := by decide +kernel
theorem dX8_counter_65 : decode cX8_counter 65 = .ok (.ireturn, 1) := by decide +kernel
theorem dX8_undo_0 : decode cX8_undo 0 = .ok (.aload_n 0, 1) := by decide +kernel
theorem dX8_undo_1 : decode cX8_undo 1 = .ok (.getfield 19, 3) := by decide +kernel
theorem dX8_undo_4 : decode cX8_undo 4 = .ok (.getfield 180, 3) := by decide +kernel
theorem dX8_undo_7 : decode cX8_undo 7 = .ok (.ifCond .ne 6, 3) := by decide +kernel
theorem dX8_undo_10 : decode cX8_undo 10 = .ok (.bipush (-2), 2) := by decide +kernel
theorem dX8_undo_12 : decode cX8_undo 12 = .ok (.ireturn, 1) := by decide +kernel
theorem dX8_undo_13 : decode cX8_undo 13 = .ok (.aload_n 0, 1) := by decide +kernel
theorem dX8_undo_14 : decode cX8_undo 14 = .ok (.getfield 19, 3) := by decide +kernel
theorem dX8_undo_17 : decode cX8_undo 17 = .ok (.aload_n 0, 1) := by decide +kernel
theorem dX8_undo_18 : decode cX8_undo 18 = .ok (.getfield 10, 3) := by decide +kernel
theorem dX8_undo_21 : decode cX8_undo 21 = .ok (.invokevirtual 230, 3) := by decide +kernel
theorem dX8_undo_24 : decode cX8_undo 24 = .ok (.aload_n 0, 1) := by decide +kernel
theorem dX8_undo_25 : decode cX8_undo 25 = .ok (.iconst 1, 1) := by decide +kernel
theorem dX8_undo_26 : decode cX8_undo 26 = .ok (.putfield 51, 3) := by decide +kernel
theorem dX8_undo_29 : decode cX8_undo 29 = .ok (.aload_n 0, 1) := by decide +kernel
theorem dX8_undo_30 : decode cX8_undo 30 = .ok (.getfield 19, 3) := by decide +kernel
theorem dX8_undo_33 : decode cX8_undo 33 = .ok (.getfield 180, 3) := by decide +kernel
theorem dX8_undo_36 : decode cX8_undo 36 = .ok (.ireturn, 1) := by decide +kernel
theorem dX8_type_0 : decode cX8_type 0 = .ok (.iload_n 1, 1) := by decide +kernel
theorem dX8_type_1 : decode cX8_type 1 = .ok (.bipush 32, 2) := by decide +kernel
theorem dX8_type_3 : decode cX8_type 3 = .ok (.bipush 126, 2) := by decide +kernel
theorem dX8_type_5 : decode cX8_type 5 = .ok (.invokestatic 55, 3) := by decide +kernel
theorem dX8_type_8 : decode cX8_type 8 = .ok (.ifCond .ne 5, 3) := by decide +kernel
theorem dX8_type_11 : decode cX8_type 11 = .ok (.iconst (-1), 1) := by decide +kernel
theorem dX8_type_12 : decode cX8_type 12 = .ok (.ireturn, 1) := by decide +kernel
theorem dX8_type_13 : decode cX8_type 13 = .ok (.aload_n 0, 1) := by decide +kernel
theorem dX8_type_14 : decode cX8_type 14 = .ok (.getfield 47, 3) := by decide +kernel
theorem dX8_type_17 : decode cX8_type 17 = .ok (.getfield 181, 3) := by decide +kernel
theorem dX8_type_20 : decode cX8_type 20 = .ok (.bipush 80, 2) := by decide +kernel
theorem dX8_type_22 : decode cX8_type 22 = .ok (.if_icmp .lt 6, 3) := by decide +kernel
theorem dX8_type_25 : decode cX8_type 25 = .ok (.bipush (-3), 2) := by decide +kernel
theorem dX8_type_27 : decode cX8_type 27 = .ok (.ireturn, 1) := by decide +kernel
theorem dX8_type_28 : decode cX8_type 28 = .ok (.aload_n 0, 1) := by decide +kernel
theorem dX8_type_29 : decode cX8_type 29 = .ok (.getfield 47, 3) := by decide +kernel
theorem dX8_type_32 : decode cX8_type 32 = .ok (.iload_n 1, 1) := by decide +kernel
theorem dX8_type_33 : decode cX8_type 33 = .ok (.i2c, 1) := by decide +kernel
theorem dX8_type_34 : decode cX8_type 34 = .ok (.invokevirtual 233, 3) := by decide +kernel
theorem dX8_type_37 : decode cX8_type 37 = .ok (.ireturn, 1) := by decide +kernel
theorem dX8_fault_0 : decode cX8_fault 0 = .ok (.iload_n 1, 1) := by decide +kernel
theorem dX8_fault_1 : decode cX8_fault 1 = .ok (.iconst 0, 1) := by decide +kernel
theorem dX8_fault_2 : decode cX8_fault 2 = .ok (.iconst 1, 1) := by decide +kernel
theorem dX8_fault_3 : decode cX8_fault 3 = .ok (.invokestatic 55, 3) := by decide +kernel
theorem dX8_fault_6 : decode cX8_fault 6 = .ok (.ifCond .ne 5, 3) := by decide +kernel
theorem dX8_fault_9 : decode cX8_fault 9 = .ok (.iconst (-1), 1) := by decide +kernel
theorem dX8_fault_10 : decode cX8_fault 10 = .ok (.ireturn, 1) := by decide +kernel
theorem dX8_fault_11 : decode cX8_fault 11 = .ok (.aload_n 0, 1) := by decide +kernel
theorem dX8_fault_12 : decode cX8_fault 12 = .ok (.getfield 47, 3) := by decide +kernel
theorem dX8_fault_15 : decode cX8_fault 15 = .ok (.aload_n 0, 1) := by decide +kernel
theorem dX8_fault_16 : decode cX8_fault 16 = .ok (.getfield 10, 3) := by decide +kernel
theorem dX8_fault_19 : decode cX8_fault 19 = .ok (.getfield 59, 3) := by decide +kernel
theorem dX8_fault_22 : decode cX8_fault 22 = .ok (.getfield 63, 3) := by decide +kernel
theorem dX8_fault_25 : decode cX8_fault 25 = .ok (.invokevirtual 236, 3) := by decide +kernel
theorem dX8_fault_28 : decode cX8_fault 28 = .ok (.aload_n 0, 1) := by decide +kernel
theorem dX8_fault_29 : decode cX8_fault 29 = .ok (.getfield 47, 3) := by decide +kernel
theorem dX8_fault_32 : decode cX8_fault 32 = .ok (.invokevirtual 239, 3) := by decide +kernel
theorem dX8_fault_35 : decode cX8_fault 35 = .ok (.ifCond .ne 6, 3) := by decide +kernel
theorem dX8_fault_38 : decode cX8_fault 38 = .ok (.bipush (-4), 2) := by decide +kernel
theorem dX8_fault_40 : decode cX8_fault 40 = .ok (.ireturn, 1) := by decide +kernel
theorem dX8_fault_41 : decode cX8_fault 41 = .ok (.iload_n 1, 1) := by decide +kernel
theorem dX8_fault_42 : decode cX8_fault 42 = .ok (.ifCond .ne 13, 3) := by decide +kernel
theorem dX8_fault_45 : decode cX8_fault 45 = .ok (.aload_n 0, 1) := by decide +kernel
theorem dX8_fault_46 : decode cX8_fault 46 = .ok (.getfield 47, 3) := by decide +kernel
theorem dX8_fault_49 : decode cX8_fault 49 = .ok (.getfield 243, 3) := by decide +kernel
theorem dX8_fault_52 : decode cX8_fault 52 = .ok (.goto 10, 3) := by decide +kernel
theorem dX8_fault_55 : decode cX8_fault 55 = .ok (.aload_n 0, 1) := by decide +kernel
theorem dX8_fault_56 : decode cX8_fault 56 = .ok (.getfield 47, 3) := by decide +kernel
theorem dX8_fault_59 : decode cX8_fault 59 = .ok (.getfield 246, 3) := by decide +kernel
theorem dX8_fault_62 : decode cX8_fault 62 = .ok (.ireturn, 1) := by decide +kernel
theorem dX8_within_0 : decode cX8_within 0 = .ok (.iload_n 0, 1) := by decide +kernel
theorem dX8_within_1 : decode cX8_within 1 = .ok (.iload_n 1, 1) := by decide +kernel
theorem dX8_within_2 : decode cX8_within 2 = .ok (.if_icmp .lt 12, 3) := by decide +kernel
theorem dX8_within_5 : decode cX8_within 5 = .ok (.iload_n 0, 1) := by decide +kernel
theorem dX8_within_6 : decode cX8_within 6 = .ok (.iload_n 2, 1) := by decide +kernel
theorem dX8_within_7 : decode cX8_within 7 = .ok (.if_icmp .gt 7, 3) := by decide +kernel
theorem dX8_within_10 : decode cX8_within 10 = .ok (.iconst 1, 1) := by decide +kernel
theorem dX8_within_11 : decode cX8_within 11 = .ok (.goto 4, 3) := by decide +kernel
theorem dX8_within_14 : decode cX8_within 14 = .ok (.iconst 0, 1) := by decide +kernel
theorem dX8_within_15 : decode cX8_within 15 = .ok (.ireturn, 1) := by decide +kernel
theorem dX8_placeOf_0 : decode cX8_placeOf 0 = .ok (.iload_n 0, 1) := by decide +kernel
theorem dX8_placeOf_1 : decode cX8_placeOf 1 = .ok (.iconst 3, 1) := by decide +kernel
theorem dX8_placeOf_2 : decode cX8_placeOf 2 = .ok (.imul, 1) := by decide +kernel
theorem dX8_placeOf_3 : decode cX8_placeOf 3 = .ok (.iload_n 1, 1) := by decide +kernel
theorem dX8_placeOf_4 : decode cX8_placeOf 4 = .ok (.iadd, 1) := by decide +kernel
theorem dX8_placeOf_5 : decode cX8_placeOf 5 = .ok (.ireturn, 1) := by decide +kernel
theorem dX8_isField_0 : decode cX8_isField 0 = .ok (.iload_n 0, 1) := by decide +kernel
theorem dX8_isField_1 : decode cX8_isField 1 = .ok (.iconst 0, 1) := by decide +kernel
theorem dX8_isField_2 : decode cX8_isField 2 = .ok (.bipush 6, 2) := by decide +kernel
theorem dX8_isField_4 : decode cX8_isField 4 = .ok (.invokestatic 55, 3) := by decide +kernel
theorem dX8_isField_7 : decode cX8_isField 7 = .ok (.ireturn, 1) := by decide +kernel
theorem dX8_isFrontField_0 : decode cX8_isFrontField 0 = .ok (.iload_n 0, 1) := by decide +kernel
theorem dX8_isFrontField_1 : decode cX8_isFrontField 1 = .ok (.iconst 0, 1) := by decide +kernel
theorem dX8_isFrontField_2 : decode cX8_isFrontField 2 = .ok (.iconst 5, 1) := by decide +kernel
theorem dX8_isFrontField_3 : decode cX8_isFrontField 3 = .ok (.invokestatic 55, 3) := by decide +kernel
theorem dX8_isFrontField_6 : decode cX8_isFrontField 6 = .ok (.ireturn, 1) := by decide +kernel
theorem dX8_isColor_0 : decode cX8_isColor 0 = .ok (.iload_n 1, 1) := by decide +kernel
theorem dX8_isColor_1 : decode cX8_isColor 1 = .ok (.iconst 0, 1) := by decide +kernel
theorem dX8_isColor_2 : decode cX8_isColor 2 = .ok (.aload_n 0, 1) := by decide +kernel
theorem dX8_isColor_3 : decode cX8_isColor 3 = .ok (.getfield 10, 3) := by decide +kernel
theorem dX8_isColor_6 : decode cX8_isColor 6 = .ok (.getfield 59, 3) := by decide +kernel
theorem dX8_isColor_9 : decode cX8_isColor 9 = .ok (.getfield 63, 3) := by decide +kernel
theorem dX8_isColor_12 : decode cX8_isColor 12 = .ok (.iconst 1, 1) := by decide +kernel
theorem dX8_isColor_13 : decode cX8_isColor 13 = .ok (.isub, 1) := by decide +kernel
theorem dX8_isColor_14 : decode cX8_isColor 14 = .ok (.invokestatic 55, 3) := by decide +kernel
theorem dX8_isColor_17 : decode cX8_isColor 17 = .ok (.ireturn, 1) := by decide +kernel
theorem dX8_tryHeat_0 : decode cX8_tryHeat 0 = .ok (.aload_n 0, 1) := by decide +kernel
theorem dX8_tryHeat_1 : decode cX8_tryHeat 1 = .ok (.getfield 33, 3) := by decide +kernel
theorem dX8_tryHeat_4 : decode cX8_tryHeat 4 = .ok (.aload_n 0, 1) := by decide +kernel
theorem dX8_tryHeat_5 : decode cX8_tryHeat 5 = .ok (.getfield 10, 3) := by decide +kernel
theorem dX8_tryHeat_8 : decode cX8_tryHeat 8 = .ok (.getfield 95, 3) := by decide +kernel
theorem dX8_tryHeat_11 : decode cX8_tryHeat 11 = .ok (.invokevirtual 253, 3) := by decide +kernel
theorem dX8_tryHeat_14 : decode cX8_tryHeat 14 = .ok (.aload_n 0, 1) := by decide +kernel
theorem dX8_tryHeat_15 : decode cX8_tryHeat 15 = .ok (.getfield 26, 3) := by decide +kernel
theorem dX8_tryHeat_18 : decode cX8_tryHeat 18 = .ok (.aload_n 0, 1) := by decide +kernel
theorem dX8_tryHeat_19 : decode cX8_tryHeat 19 = .ok (.getfield 10, 3) := by decide +kernel
theorem dX8_tryHeat_22 : decode cX8_tryHeat 22 = .ok (.aload_n 0, 1) := by decide +kernel
theorem dX8_tryHeat_23 : decode cX8_tryHeat 23 = .ok (.getfield 33, 3) := by decide +kernel
theorem dX8_tryHeat_26 : decode cX8_tryHeat 26 = .ok (.iload_n 1, 1) := by decide +kernel
theorem dX8_tryHeat_27 : decode cX8_tryHeat 27 = .ok (.aload_n 0, 1) := by decide +kernel
theorem dX8_tryHeat_28 : decode cX8_tryHeat 28 = .ok (.getfield 10, 3) := by decide +kernel
theorem dX8_tryHeat_31 : decode cX8_tryHeat 31 = .ok (.getfield 168, 3) := by decide +kernel
theorem dX8_tryHeat_34 : decode cX8_tryHeat 34 = .ok (.iconst 0, 1) := by decide +kernel
theorem dX8_tryHeat_35 : decode cX8_tryHeat 35 = .ok (.iaload, 1) := by decide +kernel
theorem dX8_tryHeat_36 : decode cX8_tryHeat 36 = .ok (.invokevirtual 184, 3) := by decide +kernel
theorem dX8_tryHeat_39 : decode cX8_tryHeat 39 = .ok (.return_, 1) := by decide +kernel
theorem dX8_bringPlanUpToDate_0 : decode cX8_bringPlanUpToDate 0 = .ok (.aload_n 0, 1) := by decide +kernel
theorem dX8_bringPlanUpToDate_1 : decode cX8_bringPlanUpToDate 1 = .ok (.getfield 51, 3) := by decide +kernel
theorem dX8_bringPlanUpToDate_4 : decode cX8_bringPlanUpToDate 4 = .ok (.ifCond .eq 29, 3) := by decide +kernel
theorem dX8_bringPlanUpToDate_7 : decode cX8_bringPlanUpToDate 7 = .ok (.aload_n 0, 1) := by decide +kernel
theorem dX8_bringPlanUpToDate_8 : decode cX8_bringPlanUpToDate 8 = .ok (.getfield 40, 3) := by decide +kernel
theorem dX8_bringPlanUpToDate_11 : decode cX8_bringPlanUpToDate 11 = .ok (.aload_n 0, 1) := by decide +kernel
theorem dX8_bringPlanUpToDate_12 : decode cX8_bringPlanUpToDate 12 = .ok (.getfield 10, 3) := by decide +kernel
theorem dX8_bringPlanUpToDate_15 : decode cX8_bringPlanUpToDate 15 = .ok (.getfield 101, 3) := by decide +kernel
theorem dX8_bringPlanUpToDate_18 : decode cX8_bringPlanUpToDate 18 = .ok (.aload_n 0, 1) := by decide +kernel
theorem dX8_bringPlanUpToDate_19 : decode cX8_bringPlanUpToDate 19 = .ok (.getfield 10, 3) := by decide +kernel
theorem dX8_bringPlanUpToDate_22 : decode cX8_bringPlanUpToDate 22 = .ok (.getfield 59, 3) := by decide +kernel
theorem dX8_bringPlanUpToDate_25 : decode cX8_bringPlanUpToDate 25 = .ok (.invokevirtual 257, 3) := by decide +kernel
theorem dX8_bringPlanUpToDate_28 : decode cX8_bringPlanUpToDate 28 = .ok (.aload_n 0, 1) := by decide +kernel
theorem dX8_bringPlanUpToDate_29 : decode cX8_bringPlanUpToDate 29 = .ok (.iconst 0, 1) := by decide +kernel
theorem dX8_bringPlanUpToDate_30 : decode cX8_bringPlanUpToDate 30 = .ok (.putfield 51, 3) := by decide +kernel
theorem dX8_bringPlanUpToDate_33 : decode cX8_bringPlanUpToDate 33 = .ok (.return_, 1) := by decide +kernel
theorem dX8_copyRow_0 : decode cX8_copyRow 0 = .ok (.aload_n 0, 1) := by decide +kernel
theorem dX8_copyRow_1 : decode cX8_copyRow 1 = .ok (.iconst 0, 1) := by decide +kernel
theorem dX8_copyRow_2 : decode cX8_copyRow 2 = .ok (.aload_n 1, 1) := by decide +kernel
theorem dX8_copyRow_3 : decode cX8_copyRow 3 = .ok (.iconst 0, 1) := by decide +kernel
theorem dX8_copyRow_4 : decode cX8_copyRow 4 = .ok (.aload_n 0, 1) := by decide +kernel
theorem dX8_copyRow_5 : decode cX8_copyRow 5 = .ok (.arraylength, 1) := by decide +kernel
theorem dX8_copyRow_6 : decode cX8_copyRow 6 = .ok (.aload_n 1, 1) := by decide +kernel
theorem dX8_copyRow_7 : decode cX8_copyRow 7 = .ok (.arraylength, 1) := by decide +kernel
theorem dX8_copyRow_8 : decode cX8_copyRow 8 = .ok (.invokestatic 261, 3) := by decide +kernel
theorem dX8_copyRow_11 : decode cX8_copyRow 11 = .ok (.invokestatic 266, 3) := by decide +kernel
theorem dX8_copyRow_14 : decode cX8_copyRow 14 = .ok (.return_, 1) := by decide +kernel
theorem dL_cell_0 : decode cL_cell 0 = .ok (.iload_n 1, 1) := by decide +kernel
theorem dL_cell_1 : decode cL_cell 1 = .ok (.aload_n 0, 1) := by decide +kernel
theorem dL_cell_2 : decode cL_cell 2 = .ok (.arraylength, 1) := by decide +kernel
theorem dL_cell_3 : decode cL_cell 3 = .ok (.if_icmp .ge 9, 3) := by decide +kernel
theorem dL_cell_6 : decode cL_cell 6 = .ok (.aload_n 0, 1) := by decide +kernel
theorem dL_cell_7 : decode cL_cell 7 = .ok (.iload_n 1, 1) := by decide +kernel
theorem dL_cell_8 : decode cL_cell 8 = .ok (.iaload, 1) := by decide +kernel
theorem dL_cell_9 : decode cL_cell 9 = .ok (.goto 9, 3) := by decide +kernel
theorem dL_cell_12 : decode cL_cell 12 = .ok (.ldc 7, 2) := by decide +kernel
theorem dL_cell_14 : decode cL_cell 14 = .ok (.iload_n 1, 1) := by decide +kernel
theorem dL_cell_15 : decode cL_cell 15 = .ok (.iconst 3, 1) := by decide +kernel
theorem dL_cell_16 : decode cL_cell 16 = .ok (.iadd, 1) := by decide +kernel
theorem dL_cell_17 : decode cL_cell 17 = .ok (.imul, 1) := by decide +kernel
theorem dL_cell_18 : decode cL_cell 18 = .ok (.istore_n 2, 1) := by decide +kernel
theorem dL_cell_19 : decode cL_cell 19 = .ok (.iload_n 2, 1) := by decide +kernel
theorem dL_cell_20 : decode cL_cell 20 = .ok (.iload_n 2, 1) := by decide +kernel
theorem dL_cell_21 : decode cL_cell 21 = .ok (.bipush 15, 2) := by decide +kernel
theorem dL_cell_23 : decode cL_cell 23 = .ok (.iushr, 1) := by decide +kernel
theorem dL_cell_24 : decode cL_cell 24 = .ok (.ixor, 1) := by decide +kernel
theorem dL_cell_25 : decode cL_cell 25 = .ok (.ireturn, 1) := by decide +kernel
theorem dL_low_0 : decode cL_low 0 = .ok (.iload_n 0, 1) := by decide +kernel
theorem dL_low_1 : decode cL_low 1 = .ok (.ldc 8, 2) := by decide +kernel
theorem dL_low_3 : decode cL_low 3 = .ok (.iand, 1) := by decide +kernel
theorem dL_low_4 : decode cL_low 4 = .ok (.iload_n 1, 1) := by decide +kernel
theorem dL_low_5 : decode cL_low 5 = .ok (.irem, 1) := by decide +kernel
theorem dL_low_6 : decode cL_low 6 = .ok (.ireturn, 1) := by decide +kernel
theorem dL_print_0 : decode cL_print 0 = .ok (.ldc2_w 9, 3) := by decide +kernel
theorem dL_print_3 : decode cL_print 3 = .ok (.lstore_n 1, 1) := by decide +kernel
theorem dL_print_4 : decode cL_print 4 = .ok (.iconst 0, 1) := by decide +kernel
theorem dL_print_5 : decode cL_print 5 = .ok (.istore_n 3, 1) := by decide +kernel
theorem dL_print_6 : decode cL_print 6 = .ok (.iload_n 3, 1) := by decide +kernel
theorem dL_print_7 : decode cL_print 7 = .ok (.bipush 21, 2) := by decide +kernel
theorem dL_print_9 : decode cL_print 9 = .ok (.if_icmp .ge 22, 3) := by decide +kernel
theorem dL_print_12 : decode cL_print 12 = .ok (.ldc2_w 11, 3) := by decide +kernel
theorem dL_print_15 : decode cL_print 15 = .ok (.lload_n 1, 1) := by decide +kernel
theorem dL_print_16 : decode cL_print 16 = .ok (.lmul, 1) := by decide +kernel
theorem dL_print_17 : decode cL_print 17 = .ok (.aload_n 0, 1) := by decide +kernel
theorem dL_print_18 : decode cL_print 18 = .ok (.iload_n 3, 1) := by decide +kernel
theorem dL_print_19 : decode cL_print 19 = .ok (.invokevirtual 13, 3) := by decide +kernel
theorem dL_print_22 : decode cL_print 22 = .ok (.i2l, 1) := by decide +kernel
theorem dL_print_23 : decode cL_print 23 = .ok (.ladd, 1) := by decide +kernel
theorem dL_print_24 : decode cL_print 24 = .ok (.lstore_n 1, 1) := by decide +kernel
theorem dL_print_25 : decode cL_print 25 = .ok (.iinc 3 1, 3) := by decide +kernel
theorem dL_print_28 : decode cL_print 28 = .ok (.goto (-22), 3) := by decide +kernel
theorem dL_print_31 : decode cL_print 31 = .ok (.iconst 0, 1) := by decide +kernel
theorem dL_print_32 : decode cL_print 32 = .ok (.istore_n 3, 1) := by decide +kernel
theorem dL_print_33 : decode cL_print 33 = .ok (.iload_n 3, 1) := by decide +kernel
theorem dL_print_34 : decode cL_print 34 = .ok (.bipush 7, 2) := by decide +kernel
theorem dL_print_36 : decode cL_print 36 = .ok (.if_icmp .ge 92, 3) := by decide +kernel
theorem dL_print_39 : decode cL_print 39 = .ok (.iconst 0, 1) := by decide +kernel
theorem dL_print_40 : decode cL_print 40 = .ok (.istore 4, 2) := by decide +kernel
theorem dL_print_42 : decode cL_print 42 = .ok (.iload 4, 2) := by decide +kernel
theorem dL_print_44 : decode cL_print 44 = .ok (.bipush 9, 2) := by decide +kernel
theorem dL_print_46 : decode cL_print 46 = .ok (.if_icmp .ge 30, 3) := by decide +kernel
theorem dL_print_49 : decode cL_print 49 = .ok (.ldc2_w 11, 3) := by decide +kernel
theorem dL_print_52 : decode cL_print 52 = .ok (.lload_n 1, 1) := by decide +kernel
theorem dL_print_53 : decode cL_print 53 = .ok (.lmul, 1) := by decide +kernel
theorem dL_print_54 : decode cL_print 54 = .ok (.aload_n 0, 1) := by decide +kernel
theorem dL_print_55 : decode cL_print 55 = .ok (.iload_n 3, 1) := by decide +kernel
theorem dL_print_56 : decode cL_print 56 = .ok (.iload 4, 2) := by decide +kernel
theorem dL_print_58 : decode cL_print 58 = .ok (.iconst 3, 1) := by decide +kernel
theorem dL_print_59 : decode cL_print 59 = .ok (.idiv, 1) := by decide +kernel
theorem dL_print_60 : decode cL_print 60 = .ok (.iload 4, 2) := by decide +kernel
theorem dL_print_62 : decode cL_print 62 = .ok (.iconst 3, 1) := by decide +kernel
theorem dL_print_63 : decode cL_print 63 = .ok (.irem, 1) := by decide +kernel
theorem dL_print_64 : decode cL_print 64 = .ok (.invokevirtual 19, 3) := by decide +kernel
theorem dL_print_67 : decode cL_print 67 = .ok (.i2l, 1) := by decide +kernel
theorem dL_print_68 : decode cL_print 68 = .ok (.ladd, 1) := by decide +kernel
theorem dL_print_69 : decode cL_print 69 = .ok (.lstore_n 1, 1) := by decide +kernel
theorem dL_print_70 : decode cL_print 70 = .ok (.iinc 4 1, 3) := by decide +kernel
theorem dL_print_73 : decode cL_print 73 = .ok (.goto (-31), 3) := by decide +kernel
theorem dL_print_76 : decode cL_print 76 = .ok (.iconst 0, 1) := by decide +kernel
theorem dL_print_77 : decode cL_print 77 = .ok (.istore 4, 2) := by decide +kernel
theorem dL_print_79 : decode cL_print 79 = .ok (.iload 4, 2) := by decide +kernel
theorem dL_print_81 : decode cL_print 81 = .ok (.bipush 6, 2) := by decide +kernel
theorem dL_print_83 : decode cL_print 83 = .ok (.if_icmp .ge 39, 3) := by decide +kernel
theorem dL_print_86 : decode cL_print 86 = .ok (.ldc2_w 11, 3) := by decide +kernel
theorem dL_print_89 : decode cL_print 89 = .ok (.ldc2_w 11, 3) := by decide +kernel
theorem dL_print_92 : decode cL_print 92 = .ok (.lload_n 1, 1) := by decide +kernel
theorem dL_print_93 : decode cL_print 93 = .ok (.lmul, 1) := by decide +kernel
theorem dL_print_94 : decode cL_print 94 = .ok (.aload_n 0, 1) := by decide +kernel
theorem dL_print_95 : decode cL_print 95 = .ok (.iload_n 3, 1) := by decide +kernel
theorem dL_print_96 : decode cL_print 96 = .ok (.iload 4, 2) := by decide +kernel
theorem dL_print_98 : decode cL_print 98 = .ok (.invokevirtual 23, 3) := by decide +kernel
theorem dL_print_101 : decode cL_print 101 = .ok (.i2l, 1) := by decide +kernel
theorem dL_print_102 : decode cL_print 102 = .ok (.ladd, 1) := by decide +kernel
theorem dL_print_103 : decode cL_print 103 = .ok (.lmul, 1) := by decide +kernel
theorem dL_print_104 : decode cL_print 104 = .ok (.aload_n 0, 1) := by decide +kernel
theorem dL_print_105 : decode cL_print 105 = .ok (.iload_n 3, 1) := by decide +kernel
theorem dL_print_106 : decode cL_print 106 = .ok (.iload 4, 2) := by decide +kernel
theorem dL_print_108 : decode cL_print 108 = .ok (.iconst 3, 1) := by decide +kernel
theorem dL_print_109 : decode cL_print 109 = .ok (.irem, 1) := by decide +kernel
theorem dL_print_110 : decode cL_print 110 = .ok (.invokevirtual 27, 3) := by decide +kernel
theorem dL_print_113 : decode cL_print 113 = .ok (.i2l, 1) := by decide +kernel
theorem dL_print_114 : decode cL_print 114 = .ok (.ladd, 1) := by decide +kernel
theorem dL_print_115 : decode cL_print 115 = .ok (.lstore_n 1, 1) := by decide +kernel
theorem dL_print_116 : decode cL_print 116 = .ok (.iinc 4 1, 3) := by decide +kernel
theorem dL_print_119 : decode cL_print 119 = .ok (.goto (-40), 3) := by decide +kernel
theorem dL_print_122 : decode cL_print 122 = .ok (.iinc 3 1, 3) := by decide +kernel
theorem dL_print_125 : decode cL_print 125 = .ok (.goto (-92), 3) := by decide +kernel
theorem dL_print_128 : decode cL_print 128 = .ok (.iconst 0, 1) := by decide +kernel
theorem dL_print_129 : decode cL_print 129 = .ok (.istore_n 3, 1) := by decide +kernel
theorem dL_print_130 : decode cL_print 130 = .ok (.iload_n 3, 1) := by decide +kernel
theorem dL_print_131 : decode cL_print 131 = .ok (.bipush 72, 2) := by decide +kernel
theorem dL_print_133 : decode cL_print 133 = .ok (.if_icmp .ge 29, 3) := by decide +kernel
theorem dL_print_136 : decode cL_print 136 = .ok (.ldc2_w 11, 3) := by decide +kernel
theorem dL_print_139 : decode cL_print 139 = .ok (.lload_n 1, 1) := by decide +kernel
theorem dL_print_140 : decode cL_print 140 = .ok (.lmul, 1) := by decide +kernel
theorem dL_print_141 : decode cL_print 141 = .ok (.aload_n 0, 1) := by decide +kernel
theorem dL_print_142 : decode cL_print 142 = .ok (.iload_n 3, 1) := by decide +kernel
theorem dL_print_143 : decode cL_print 143 = .ok (.bipush 6, 2) := by decide +kernel
theorem dL_print_145 : decode cL_print 145 = .ok (.idiv, 1) := by decide +kernel
theorem dL_print_146 : decode cL_print 146 = .ok (.iload_n 3, 1) := by decide +kernel
theorem dL_print_147 : decode cL_print 147 = .ok (.bipush 6, 2) := by decide +kernel
theorem dL_print_149 : decode cL_print 149 = .ok (.irem, 1) := by decide +kernel
theorem dL_print_150 : decode cL_print 150 = .ok (.invokevirtual 30, 3) := by decide +kernel
theorem dL_print_153 : decode cL_print 153 = .ok (.i2l, 1) := by decide +kernel
theorem dL_print_154 : decode cL_print 154 = .ok (.ladd, 1) := by decide +kernel
theorem dL_print_155 : decode cL_print 155 = .ok (.lstore_n 1, 1) := by decide +kernel
theorem dL_print_156 : decode cL_print 156 = .ok (.iinc 3 1, 3) := by decide +kernel
theorem dL_print_159 : decode cL_print 159 = .ok (.goto (-29), 3) := by decide +kernel
theorem dL_print_162 : decode cL_print 162 = .ok (.lload_n 1, 1) := by decide +kernel
theorem dL_print_163 : decode cL_print 163 = .ok (.lreturn, 1) := by decide +kernel
theorem dL_refused_0 : decode cL_refused 0 = .ok (.aload_n 0, 1) := by decide +kernel
theorem dL_refused_1 : decode cL_refused 1 = .ok (.invokestatic 33, 3) := by decide +kernel
theorem dL_refused_4 : decode cL_refused 4 = .ok (.lstore_n 1, 1) := by decide +kernel
theorem dL_refused_5 : decode cL_refused 5 = .ok (.aload_n 0, 1) := by decide +kernel
theorem dL_refused_6 : decode cL_refused 6 = .ok (.bipush 21, 2) := by decide +kernel
theorem dL_refused_8 : decode cL_refused 8 = .ok (.invokevirtual 13, 3) := by decide +kernel
theorem dL_refused_11 : decode cL_refused 11 = .ok (.istore_n 3, 1) := by decide +kernel
theorem dL_refused_12 : decode cL_refused 12 = .ok (.aload_n 0, 1) := by decide +kernel
theorem dL_refused_13 : decode cL_refused 13 = .ok (.iconst 0, 1) := by decide +kernel
theorem dL_refused_14 : decode cL_refused 14 = .ok (.invokevirtual 13, 3) := by decide +kernel
theorem dL_refused_17 : decode cL_refused 17 = .ok (.istore 4, 2) := by decide +kernel
theorem dL_refused_19 : decode cL_refused 19 = .ok (.aload_n 0, 1) := by decide +kernel
theorem dL_refused_20 : decode cL_refused 20 = .ok (.sipush 599, 3) := by decide +kernel
theorem dL_refused_23 : decode cL_refused 23 = .ok (.sipush 650, 3) := by decide +kernel
theorem dL_refused_26 : decode cL_refused 26 = .ok (.bipush 100, 2) := by decide +kernel
theorem dL_refused_28 : decode cL_refused 28 = .ok (.invokevirtual 39, 3) := by decide +kernel
theorem dL_refused_31 : decode cL_refused 31 = .ok (.iconst (-1), 1) := by decide +kernel
theorem dL_refused_32 : decode cL_refused 32 = .ok (.if_icmp .ne 184, 3) := by decide +kernel
theorem dL_refused_35 : decode cL_refused 35 = .ok (.aload_n 0, 1) := by decide +kernel
theorem dL_refused_36 : decode cL_refused 36 = .ok (.sipush 700, 3) := by decide +kernel
theorem dL_refused_39 : decode cL_refused 39 = .ok (.sipush 700, 3) := by decide +kernel
theorem dL_refused_42 : decode cL_refused 42 = .ok (.bipush 100, 2) := by decide +kernel
theorem dL_refused_44 : decode cL_refused 44 = .ok (.invokevirtual 39, 3) := by decide +kernel
theorem dL_refused_47 : decode cL_refused 47 = .ok (.iconst (-1), 1) := by decide +kernel
theorem dL_refused_48 : decode cL_refused 48 = .ok (.if_icmp .ne 168, 3) := by decide +kernel
theorem dL_refused_51 : decode cL_refused 51 = .ok (.aload_n 0, 1) := by decide +kernel
theorem dL_refused_52 : decode cL_refused 52 = .ok (.sipush 700, 3) := by decide +kernel
theorem dL_refused_55 : decode cL_refused 55 = .ok (.sipush 750, 3) := by decide +kernel
theorem dL_refused_58 : decode cL_refused 58 = .ok (.sipush 200, 3) := by decide +kernel
theorem dL_refused_61 : decode cL_refused 61 = .ok (.invokevirtual 39, 3) := by decide +kernel
theorem dL_refused_64 : decode cL_refused 64 = .ok (.iconst (-1), 1) := by decide +kernel
theorem dL_refused_65 : decode cL_refused 65 = .ok (.if_icmp .ne 151, 3) := by decide +kernel
theorem dL_refused_68 : decode cL_refused 68 = .ok (.aload_n 0, 1) := by decide +kernel
theorem dL_refused_69 : decode cL_refused 69 = .ok (.iload 4, 2) := by decide +kernel
theorem dL_refused_71 : decode cL_refused 71 = .ok (.iconst 0, 1) := by decide +kernel
theorem dL_refused_72 : decode cL_refused 72 = .ok (.invokevirtual 30, 3) := by decide +kernel
theorem dL_refused_75 : decode cL_refused 75 = .ok (.iconst (-1), 1) := by decide +kernel
theorem dL_refused_76 : decode cL_refused 76 = .ok (.if_icmp .ne 140, 3) := by decide +kernel
theorem dL_refused_79 : decode cL_refused 79 = .ok (.aload_n 0, 1) := by decide +kernel
theorem dL_refused_80 : decode cL_refused 80 = .ok (.iconst (-1), 1) := by decide +kernel
theorem dL_refused_81 : decode cL_refused 81 = .ok (.iconst 0, 1) := by decide +kernel
theorem dL_refused_82 : decode cL_refused 82 = .ok (.invokevirtual 42, 3) := by decide +kernel
theorem dL_refused_85 : decode cL_refused 85 = .ok (.iconst (-1), 1) := by decide +kernel
theorem dL_refused_86 : decode cL_refused 86 = .ok (.if_icmp .ne 130, 3) := by decide +kernel
theorem dL_refused_89 : decode cL_refused 89 = .ok (.aload_n 0, 1) := by decide +kernel
theorem dL_refused_90 : decode cL_refused 90 = .ok (.iconst 0, 1) := by decide +kernel
theorem dL_refused_91 : decode cL_refused 91 = .ok (.iload 4, 2) := by decide +kernel
theorem dL_refused_93 : decode cL_refused 93 = .ok (.invokevirtual 42, 3) := by decide +kernel
theorem dL_refused_96 : decode cL_refused 96 = .ok (.iconst (-1), 1) := by decide +kernel
theorem dL_refused_97 : decode cL_refused 97 = .ok (.if_icmp .ne 119, 3) := by decide +kernel
theorem dL_refused_100 : decode cL_refused 100 = .ok (.aload_n 0, 1) := by decide +kernel
theorem dL_refused_101 : decode cL_refused 101 = .ok (.bipush 7, 2) := by decide +kernel
theorem dL_refused_103 : decode cL_refused 103 = .ok (.invokevirtual 45, 3) := by decide +kernel
theorem dL_refused_106 : decode cL_refused 106 = .ok (.iconst (-1), 1) := by decide +kernel
theorem dL_refused_107 : decode cL_refused 107 = .ok (.if_icmp .ne 109, 3) := by decide +kernel
theorem dL_refused_110 : decode cL_refused 110 = .ok (.aload_n 0, 1) := by decide +kernel
theorem dL_refused_111 : decode cL_refused 111 = .ok (.iconst 0, 1) := by decide +kernel
theorem dL_refused_112 : decode cL_refused 112 = .ok (.iconst 0, 1) := by decide +kernel
theorem dL_refused_113 : decode cL_refused 113 = .ok (.iconst (-1), 1) := by decide +kernel
theorem dL_refused_114 : decode cL_refused 114 = .ok (.invokevirtual 19, 3) := by decide +kernel
theorem dL_refused_117 : decode cL_refused 117 = .ok (.iconst (-1), 1) := by decide +kernel
theorem dL_refused_118 : decode cL_refused 118 = .ok (.if_icmp .ne 98, 3) := by decide +kernel
theorem dL_refused_121 : decode cL_refused 121 = .ok (.aload_n 0, 1) := by decide +kernel
theorem dL_refused_122 : decode cL_refused 122 = .ok (.bipush 7, 2) := by decide +kernel
theorem dL_refused_124 : decode cL_refused 124 = .ok (.iconst 0, 1) := by decide +kernel
theorem dL_refused_125 : decode cL_refused 125 = .ok (.iconst 0, 1) := by decide +kernel
theorem dL_refused_126 : decode cL_refused 126 = .ok (.invokevirtual 19, 3) := by decide +kernel
theorem dL_refused_129 : decode cL_refused 129 = .ok (.iconst (-1), 1) := by decide +kernel
theorem dL_refused_130 : decode cL_refused 130 = .ok (.if_icmp .ne 86, 3) := by decide +kernel
theorem dL_refused_133 : decode cL_refused 133 = .ok (.aload_n 0, 1) := by decide +kernel
theorem dL_refused_134 : decode cL_refused 134 = .ok (.bipush 6, 2) := by decide +kernel
theorem dL_refused_136 : decode cL_refused 136 = .ok (.iconst 3, 1) := by decide +kernel
theorem dL_refused_137 : decode cL_refused 137 = .ok (.iconst 0, 1) := by decide +kernel
theorem dL_refused_138 : decode cL_refused 138 = .ok (.invokevirtual 19, 3) := by decide +kernel
theorem dL_refused_141 : decode cL_refused 141 = .ok (.bipush (-4), 2) := by decide +kernel
theorem dL_refused_143 : decode cL_refused 143 = .ok (.if_icmp .ne 73, 3) := by decide +kernel
theorem dL_refused_146 : decode cL_refused 146 = .ok (.aload_n 0, 1) := by decide +kernel
theorem dL_refused_147 : decode cL_refused 147 = .ok (.bipush 7, 2) := by decide +kernel
theorem dL_refused_149 : decode cL_refused 149 = .ok (.iconst 0, 1) := by decide +kernel
theorem dL_refused_150 : decode cL_refused 150 = .ok (.invokevirtual 23, 3) := by decide +kernel
theorem dL_refused_153 : decode cL_refused 153 = .ok (.iconst (-1), 1) := by decide +kernel
theorem dL_refused_154 : decode cL_refused 154 = .ok (.if_icmp .ne 62, 3) := by decide +kernel
theorem dL_refused_157 : decode cL_refused 157 = .ok (.aload_n 0, 1) := by decide +kernel
theorem dL_refused_158 : decode cL_refused 158 = .ok (.bipush 6, 2) := by decide +kernel
theorem dL_refused_160 : decode cL_refused 160 = .ok (.iconst 2, 1) := by decide +kernel
theorem dL_refused_161 : decode cL_refused 161 = .ok (.invokevirtual 23, 3) := by decide +kernel
theorem dL_refused_164 : decode cL_refused 164 = .ok (.bipush (-4), 2) := by decide +kernel
theorem dL_refused_166 : decode cL_refused 166 = .ok (.if_icmp .ne 50, 3) := by decide +kernel
theorem dL_refused_169 : decode cL_refused 169 = .ok (.aload_n 0, 1) := by decide +kernel
theorem dL_refused_170 : decode cL_refused 170 = .ok (.iconst (-1), 1) := by decide +kernel
theorem dL_refused_171 : decode cL_refused 171 = .ok (.iconst 2, 1) := by decide +kernel
theorem dL_refused_172 : decode cL_refused 172 = .ok (.invokevirtual 48, 3) := by decide +kernel
theorem dL_refused_175 : decode cL_refused 175 = .ok (.iconst (-1), 1) := by decide +kernel
theorem dL_refused_176 : decode cL_refused 176 = .ok (.if_icmp .ne 40, 3) := by decide +kernel
theorem dL_refused_179 : decode cL_refused 179 = .ok (.aload_n 0, 1) := by decide +kernel
theorem dL_refused_180 : decode cL_refused 180 = .ok (.iconst 2, 1) := by decide +kernel
theorem dL_refused_181 : decode cL_refused 181 = .ok (.sipush 401, 3) := by decide +kernel
theorem dL_refused_184 : decode cL_refused 184 = .ok (.invokevirtual 48, 3) := by decide +kernel
theorem dL_refused_187 : decode cL_refused 187 = .ok (.iconst (-1), 1) := by decide +kernel
theorem dL_refused_188 : decode cL_refused 188 = .ok (.if_icmp .ne 28, 3) := by decide +kernel
theorem dL_refused_191 : decode cL_refused 191 = .ok (.aload_n 0, 1) := by decide +kernel
theorem dL_refused_192 : decode cL_refused 192 = .ok (.iconst (-1), 1) := by decide +kernel
theorem dL_refused_193 : decode cL_refused 193 = .ok (.invokevirtual 13, 3) := by decide +kernel
theorem dL_refused_196 : decode cL_refused 196 = .ok (.iconst (-1), 1) := by decide +kernel
theorem dL_refused_197 : decode cL_refused 197 = .ok (.if_icmp .ne 19, 3) := by decide +kernel
theorem dL_refused_200 : decode cL_refused 200 = .ok (.aload_n 0, 1) := by decide +kernel
theorem dL_refused_201 : decode cL_refused 201 = .ok (.sipush 499, 3) := by decide +kernel
theorem dL_refused_204 : decode cL_refused 204 = .ok (.iconst 3, 1) := by decide +kernel
theorem dL_refused_205 : decode cL_refused 205 = .ok (.invokevirtual 51, 3) := by decide +kernel
theorem dL_refused_208 : decode cL_refused 208 = .ok (.iconst (-1), 1) := by decide +kernel
theorem dL_refused_209 : decode cL_refused 209 = .ok (.if_icmp .ne 7, 3) := by decide +kernel
theorem dL_refused_212 : decode cL_refused 212 = .ok (.iconst 1, 1) := by decide +kernel
theorem dL_refused_213 : decode cL_refused 213 = .ok (.goto 4, 3) := by decide +kernel
theorem dL_refused_216 : decode cL_refused 216 = .ok (.iconst 0, 1) := by decide +kernel
theorem dL_refused_217 : decode cL_refused 217 = .ok (.istore 5, 2) := by decide +kernel
theorem dL_refused_219 : decode cL_refused 219 = .ok (.iload 5, 2) := by decide +kernel
theorem dL_refused_221 : decode cL_refused 221 = .ok (.ifCond .eq 149, 3) := by decide +kernel
theorem dL_refused_224 : decode cL_refused 224 = .ok (.aload_n 0, 1) := by decide +kernel
theorem dL_refused_225 : decode cL_refused 225 = .ok (.sipush 700, 3) := by decide +kernel
theorem dL_refused_228 : decode cL_refused 228 = .ok (.iconst 0, 1) := by decide +kernel
theorem dL_refused_229 : decode cL_refused 229 = .ok (.invokevirtual 51, 3) := by decide +kernel
theorem dL_refused_232 : decode cL_refused 232 = .ok (.iconst (-1), 1) := by decide +kernel
theorem dL_refused_233 : decode cL_refused 233 = .ok (.if_icmp .ne 137, 3) := by decide +kernel
theorem dL_refused_236 : decode cL_refused 236 = .ok (.aload_n 0, 1) := by decide +kernel
theorem dL_refused_237 : decode cL_refused 237 = .ok (.sipush 1201, 3) := by decide +kernel
theorem dL_refused_240 : decode cL_refused 240 = .ok (.iconst 0, 1) := by decide +kernel
theorem dL_refused_241 : decode cL_refused 241 = .ok (.invokevirtual 54, 3) := by decide +kernel
theorem dL_refused_244 : decode cL_refused 244 = .ok (.iconst (-1), 1) := by decide +kernel
theorem dL_refused_245 : decode cL_refused 245 = .ok (.if_icmp .ne 125, 3) := by decide +kernel
theorem dL_refused_248 : decode cL_refused 248 = .ok (.aload_n 0, 1) := by decide +kernel
theorem dL_refused_249 : decode cL_refused 249 = .ok (.sipush 700, 3) := by decide +kernel
theorem dL_refused_252 : decode cL_refused 252 = .ok (.iconst 5, 1) := by decide +kernel
theorem dL_refused_253 : decode cL_refused 253 = .ok (.invokevirtual 54, 3) := by decide +kernel
theorem dL_refused_256 : decode cL_refused 256 = .ok (.iconst (-1), 1) := by decide +kernel
theorem dL_refused_257 : decode cL_refused 257 = .ok (.if_icmp .ne 113, 3) := by decide +kernel
theorem dL_refused_260 : decode cL_refused 260 = .ok (.aload_n 0, 1) := by decide +kernel
theorem dL_refused_261 : decode cL_refused 261 = .ok (.bipush 6, 2) := by decide +kernel
theorem dL_refused_263 : decode cL_refused 263 = .ok (.iconst 0, 1) := by decide +kernel
theorem dL_refused_264 : decode cL_refused 264 = .ok (.invokevirtual 57, 3) := by decide +kernel
theorem dL_refused_267 : decode cL_refused 267 = .ok (.iconst (-1), 1) := by decide +kernel
theorem dL_refused_268 : decode cL_refused 268 = .ok (.if_icmp .ne 102, 3) := by decide +kernel
theorem dL_refused_271 : decode cL_refused 271 = .ok (.aload_n 0, 1) := by decide +kernel
theorem dL_refused_272 : decode cL_refused 272 = .ok (.iconst 0, 1) := by decide +kernel
theorem dL_refused_273 : decode cL_refused 273 = .ok (.iload 4, 2) := by decide +kernel
theorem dL_refused_275 : decode cL_refused 275 = .ok (.invokevirtual 57, 3) := by decide +kernel
theorem dL_refused_278 : decode cL_refused 278 = .ok (.iconst (-1), 1) := by decide +kernel
theorem dL_refused_279 : decode cL_refused 279 = .ok (.if_icmp .ne 91, 3) := by decide +kernel
theorem dL_refused_282 : decode cL_refused 282 = .ok (.aload_n 0, 1) := by decide +kernel
theorem dL_refused_283 : decode cL_refused 283 = .ok (.iconst (-1), 1) := by decide +kernel
theorem dL_refused_284 : decode cL_refused 284 = .ok (.iconst 0, 1) := by decide +kernel
theorem dL_refused_285 : decode cL_refused 285 = .ok (.invokevirtual 27, 3) := by decide +kernel
theorem dL_refused_288 : decode cL_refused 288 = .ok (.iconst (-1), 1) := by decide +kernel
theorem dL_refused_289 : decode cL_refused 289 = .ok (.if_icmp .ne 81, 3) := by decide +kernel
theorem dL_refused_292 : decode cL_refused 292 = .ok (.aload_n 0, 1) := by decide +kernel
theorem dL_refused_293 : decode cL_refused 293 = .ok (.iconst 5, 1) := by decide +kernel
theorem dL_refused_294 : decode cL_refused 294 = .ok (.iconst 3, 1) := by decide +kernel
theorem dL_refused_295 : decode cL_refused 295 = .ok (.invokevirtual 27, 3) := by decide +kernel
theorem dL_refused_298 : decode cL_refused 298 = .ok (.bipush (-4), 2) := by decide +kernel
theorem dL_refused_300 : decode cL_refused 300 = .ok (.if_icmp .ne 70, 3) := by decide +kernel
theorem dL_refused_303 : decode cL_refused 303 = .ok (.aload_n 0, 1) := by decide +kernel
theorem dL_refused_304 : decode cL_refused 304 = .ok (.iconst (-1), 1) := by decide +kernel
theorem dL_refused_305 : decode cL_refused 305 = .ok (.iconst 0, 1) := by decide +kernel
theorem dL_refused_306 : decode cL_refused 306 = .ok (.invokevirtual 60, 3) := by decide +kernel
theorem dL_refused_309 : decode cL_refused 309 = .ok (.iconst (-1), 1) := by decide +kernel
theorem dL_refused_310 : decode cL_refused 310 = .ok (.if_icmp .ne 60, 3) := by decide +kernel
theorem dL_refused_313 : decode cL_refused 313 = .ok (.aload_n 0, 1) := by decide +kernel
theorem dL_refused_314 : decode cL_refused 314 = .ok (.iconst 0, 1) := by decide +kernel
theorem dL_refused_315 : decode cL_refused 315 = .ok (.iconst (-1), 1) := by decide +kernel
theorem dL_refused_316 : decode cL_refused 316 = .ok (.invokevirtual 60, 3) := by decide +kernel
theorem dL_refused_319 : decode cL_refused 319 = .ok (.iconst (-1), 1) := by decide +kernel
theorem dL_refused_320 : decode cL_refused 320 = .ok (.if_icmp .ne 50, 3) := by decide +kernel
theorem dL_refused_323 : decode cL_refused 323 = .ok (.aload_n 0, 1) := by decide +kernel
theorem dL_refused_324 : decode cL_refused 324 = .ok (.bipush 127, 2) := by decide +kernel
theorem dL_refused_326 : decode cL_refused 326 = .ok (.invokevirtual 63, 3) := by decide +kernel
theorem dL_refused_329 : decode cL_refused 329 = .ok (.iconst (-1), 1) := by decide +kernel
theorem dL_refused_330 : decode cL_refused 330 = .ok (.if_icmp .ne 40, 3) := by decide +kernel
theorem dL_refused_333 : decode cL_refused 333 = .ok (.aload_n 0, 1) := by decide +kernel
theorem dL_refused_334 : decode cL_refused 334 = .ok (.iconst 2, 1) := by decide +kernel
theorem dL_refused_335 : decode cL_refused 335 = .ok (.invokevirtual 66, 3) := by decide +kernel
theorem dL_refused_338 : decode cL_refused 338 = .ok (.iconst (-1), 1) := by decide +kernel
theorem dL_refused_339 : decode cL_refused 339 = .ok (.if_icmp .ne 31, 3) := by decide +kernel
theorem dL_refused_342 : decode cL_refused 342 = .ok (.iload 4, 2) := by decide +kernel
theorem dL_refused_344 : decode cL_refused 344 = .ok (.bipush 12, 2) := by decide +kernel
theorem dL_refused_346 : decode cL_refused 346 = .ok (.if_icmp .lt 20, 3) := by decide +kernel
theorem dL_refused_349 : decode cL_refused 349 = .ok (.aload_n 0, 1) := by decide +kernel
theorem dL_refused_350 : decode cL_refused 350 = .ok (.sipush 700, 3) := by decide +kernel
theorem dL_refused_353 : decode cL_refused 353 = .ok (.sipush 800, 3) := by decide +kernel
theorem dL_refused_356 : decode cL_refused 356 = .ok (.bipush 100, 2) := by decide +kernel
theorem dL_refused_358 : decode cL_refused 358 = .ok (.invokevirtual 39, 3) := by decide +kernel
theorem dL_refused_361 : decode cL_refused 361 = .ok (.bipush (-3), 2) := by decide +kernel
theorem dL_refused_363 : decode cL_refused 363 = .ok (.if_icmp .ne 7, 3) := by decide +kernel
theorem dL_refused_366 : decode cL_refused 366 = .ok (.iconst 1, 1) := by decide +kernel
