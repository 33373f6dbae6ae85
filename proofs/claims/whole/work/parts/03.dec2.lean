theorem dX8_put_76 : decode cX8_put 76 = .ok (.iastore, 1) := by decide +kernel
theorem dX8_put_77 : decode cX8_put 77 = .ok (.aload_n 0, 1) := by decide +kernel
theorem dX8_put_78 : decode cX8_put 78 = .ok (.getfield 10, 3) := by decide +kernel
theorem dX8_put_81 : decode cX8_put 81 = .ok (.getfield 95, 3) := by decide +kernel
theorem dX8_put_84 : decode cX8_put 84 = .ok (.iload_n 1, 1) := by decide +kernel
theorem dX8_put_85 : decode cX8_put 85 = .ok (.iload_n 2, 1) := by decide +kernel
theorem dX8_put_86 : decode cX8_put 86 = .ok (.invokevirtual 122, 3) := by decide +kernel
theorem dX8_put_89 : decode cX8_put 89 = .ok (.ireturn, 1) := by decide +kernel
theorem dX8_takeOff_0 : decode cX8_takeOff 0 = .ok (.iload_n 1, 1) := by decide +kernel
theorem dX8_takeOff_1 : decode cX8_takeOff 1 = .ok (.invokestatic 110, 3) := by decide +kernel
theorem dX8_takeOff_4 : decode cX8_takeOff 4 = .ok (.ifCond .ne 5, 3) := by decide +kernel
theorem dX8_takeOff_7 : decode cX8_takeOff 7 = .ok (.iconst (-1), 1) := by decide +kernel
theorem dX8_takeOff_8 : decode cX8_takeOff 8 = .ok (.ireturn, 1) := by decide +kernel
theorem dX8_takeOff_9 : decode cX8_takeOff 9 = .ok (.aload_n 0, 1) := by decide +kernel
theorem dX8_takeOff_10 : decode cX8_takeOff 10 = .ok (.getfield 10, 3) := by decide +kernel
theorem dX8_takeOff_13 : decode cX8_takeOff 13 = .ok (.getfield 95, 3) := by decide +kernel
theorem dX8_takeOff_16 : decode cX8_takeOff 16 = .ok (.iload_n 1, 1) := by decide +kernel
theorem dX8_takeOff_17 : decode cX8_takeOff 17 = .ok (.invokevirtual 113, 3) := by decide +kernel
theorem dX8_takeOff_20 : decode cX8_takeOff 20 = .ok (.ifCond .ne 6, 3) := by decide +kernel
theorem dX8_takeOff_23 : decode cX8_takeOff 23 = .ok (.bipush (-2), 2) := by decide +kernel
theorem dX8_takeOff_25 : decode cX8_takeOff 25 = .ok (.ireturn, 1) := by decide +kernel
theorem dX8_takeOff_26 : decode cX8_takeOff 26 = .ok (.aload_n 0, 1) := by decide +kernel
theorem dX8_takeOff_27 : decode cX8_takeOff 27 = .ok (.getfield 19, 3) := by decide +kernel
theorem dX8_takeOff_30 : decode cX8_takeOff 30 = .ok (.aload_n 0, 1) := by decide +kernel
theorem dX8_takeOff_31 : decode cX8_takeOff 31 = .ok (.getfield 10, 3) := by decide +kernel
theorem dX8_takeOff_34 : decode cX8_takeOff 34 = .ok (.invokevirtual 69, 3) := by decide +kernel
theorem dX8_takeOff_37 : decode cX8_takeOff 37 = .ok (.aload_n 0, 1) := by decide +kernel
theorem dX8_takeOff_38 : decode cX8_takeOff 38 = .ok (.getfield 10, 3) := by decide +kernel
theorem dX8_takeOff_41 : decode cX8_takeOff 41 = .ok (.getfield 119, 3) := by decide +kernel
theorem dX8_takeOff_44 : decode cX8_takeOff 44 = .ok (.iconst 3, 1) := by decide +kernel
theorem dX8_takeOff_45 : decode cX8_takeOff 45 = .ok (.dup2, 1) := by decide +kernel
theorem dX8_takeOff_46 : decode cX8_takeOff 46 = .ok (.iaload, 1) := by decide +kernel
theorem dX8_takeOff_47 : decode cX8_takeOff 47 = .ok (.iconst 1, 1) := by decide +kernel
theorem dX8_takeOff_48 : decode cX8_takeOff 48 = .ok (.iadd, 1) := by decide +kernel
theorem dX8_takeOff_49 : decode cX8_takeOff 49 = .ok (.iastore, 1) := by decide +kernel
theorem dX8_takeOff_50 : decode cX8_takeOff 50 = .ok (.aload_n 0, 1) := by decide +kernel
theorem dX8_takeOff_51 : decode cX8_takeOff 51 = .ok (.getfield 10, 3) := by decide +kernel
theorem dX8_takeOff_54 : decode cX8_takeOff 54 = .ok (.getfield 95, 3) := by decide +kernel
theorem dX8_takeOff_57 : decode cX8_takeOff 57 = .ok (.iload_n 1, 1) := by decide +kernel
theorem dX8_takeOff_58 : decode cX8_takeOff 58 = .ok (.invokevirtual 125, 3) := by decide +kernel
theorem dX8_takeOff_61 : decode cX8_takeOff 61 = .ok (.ireturn, 1) := by decide +kernel
theorem dX8_clean_0 : decode cX8_clean 0 = .ok (.aload_n 0, 1) := by decide +kernel
theorem dX8_clean_1 : decode cX8_clean 1 = .ok (.getfield 10, 3) := by decide +kernel
theorem dX8_clean_4 : decode cX8_clean 4 = .ok (.getfield 95, 3) := by decide +kernel
theorem dX8_clean_7 : decode cX8_clean 7 = .ok (.invokevirtual 128, 3) := by decide +kernel
theorem dX8_clean_10 : decode cX8_clean 10 = .ok (.istore_n 1, 1) := by decide +kernel
theorem dX8_clean_11 : decode cX8_clean 11 = .ok (.aload_n 0, 1) := by decide +kernel
theorem dX8_clean_12 : decode cX8_clean 12 = .ok (.getfield 19, 3) := by decide +kernel
theorem dX8_clean_15 : decode cX8_clean 15 = .ok (.aload_n 0, 1) := by decide +kernel
theorem dX8_clean_16 : decode cX8_clean 16 = .ok (.getfield 10, 3) := by decide +kernel
theorem dX8_clean_19 : decode cX8_clean 19 = .ok (.invokevirtual 69, 3) := by decide +kernel
theorem dX8_clean_22 : decode cX8_clean 22 = .ok (.aload_n 0, 1) := by decide +kernel
theorem dX8_clean_23 : decode cX8_clean 23 = .ok (.getfield 10, 3) := by decide +kernel
theorem dX8_clean_26 : decode cX8_clean 26 = .ok (.getfield 95, 3) := by decide +kernel
theorem dX8_clean_29 : decode cX8_clean 29 = .ok (.invokevirtual 132, 3) := by decide +kernel
theorem dX8_clean_32 : decode cX8_clean 32 = .ok (.aload_n 0, 1) := by decide +kernel
theorem dX8_clean_33 : decode cX8_clean 33 = .ok (.getfield 10, 3) := by decide +kernel
theorem dX8_clean_36 : decode cX8_clean 36 = .ok (.getfield 119, 3) := by decide +kernel
theorem dX8_clean_39 : decode cX8_clean 39 = .ok (.iconst 2, 1) := by decide +kernel
theorem dX8_clean_40 : decode cX8_clean 40 = .ok (.iconst 0, 1) := by decide +kernel
theorem dX8_clean_41 : decode cX8_clean 41 = .ok (.iastore, 1) := by decide +kernel
theorem dX8_clean_42 : decode cX8_clean 42 = .ok (.aload_n 0, 1) := by decide +kernel
theorem dX8_clean_43 : decode cX8_clean 43 = .ok (.getfield 10, 3) := by decide +kernel
theorem dX8_clean_46 : decode cX8_clean 46 = .ok (.getfield 119, 3) := by decide +kernel
theorem dX8_clean_49 : decode cX8_clean 49 = .ok (.iconst 3, 1) := by decide +kernel
theorem dX8_clean_50 : decode cX8_clean 50 = .ok (.iconst 0, 1) := by decide +kernel
theorem dX8_clean_51 : decode cX8_clean 51 = .ok (.iastore, 1) := by decide +kernel
theorem dX8_clean_52 : decode cX8_clean 52 = .ok (.iload_n 1, 1) := by decide +kernel
theorem dX8_clean_53 : decode cX8_clean 53 = .ok (.ireturn, 1) := by decide +kernel
theorem dX8_layer_0 : decode cX8_layer 0 = .ok (.iload_n 1, 1) := by decide +kernel
theorem dX8_layer_1 : decode cX8_layer 1 = .ok (.invokestatic 110, 3) := by decide +kernel
theorem dX8_layer_4 : decode cX8_layer 4 = .ok (.ifCond .eq 16, 3) := by decide +kernel
theorem dX8_layer_7 : decode cX8_layer 7 = .ok (.iload_n 2, 1) := by decide +kernel
theorem dX8_layer_8 : decode cX8_layer 8 = .ok (.ifCond .lt 12, 3) := by decide +kernel
theorem dX8_layer_11 : decode cX8_layer 11 = .ok (.iload_n 3, 1) := by decide +kernel
theorem dX8_layer_12 : decode cX8_layer 12 = .ok (.iconst 0, 1) := by decide +kernel
theorem dX8_layer_13 : decode cX8_layer 13 = .ok (.iconst 2, 1) := by decide +kernel
theorem dX8_layer_14 : decode cX8_layer 14 = .ok (.invokestatic 55, 3) := by decide +kernel
theorem dX8_layer_17 : decode cX8_layer 17 = .ok (.ifCond .ne 5, 3) := by decide +kernel
theorem dX8_layer_20 : decode cX8_layer 20 = .ok (.iconst (-1), 1) := by decide +kernel
theorem dX8_layer_21 : decode cX8_layer 21 = .ok (.ireturn, 1) := by decide +kernel
theorem dX8_layer_22 : decode cX8_layer 22 = .ok (.iload_n 2, 1) := by decide +kernel
theorem dX8_layer_23 : decode cX8_layer 23 = .ok (.aload_n 0, 1) := by decide +kernel
theorem dX8_layer_24 : decode cX8_layer 24 = .ok (.getfield 10, 3) := by decide +kernel
theorem dX8_layer_27 : decode cX8_layer 27 = .ok (.getfield 95, 3) := by decide +kernel
theorem dX8_layer_30 : decode cX8_layer 30 = .ok (.getfield 116, 3) := by decide +kernel
theorem dX8_layer_33 : decode cX8_layer 33 = .ok (.iload_n 1, 1) := by decide +kernel
theorem dX8_layer_34 : decode cX8_layer 34 = .ok (.iaload, 1) := by decide +kernel
theorem dX8_layer_35 : decode cX8_layer 35 = .ok (.if_icmp .lt 6, 3) := by decide +kernel
theorem dX8_layer_38 : decode cX8_layer 38 = .ok (.bipush (-4), 2) := by decide +kernel
theorem dX8_layer_40 : decode cX8_layer 40 = .ok (.ireturn, 1) := by decide +kernel
theorem dX8_layer_41 : decode cX8_layer 41 = .ok (.iload_n 1, 1) := by decide +kernel
theorem dX8_layer_42 : decode cX8_layer 42 = .ok (.iload_n 2, 1) := by decide +kernel
theorem dX8_layer_43 : decode cX8_layer 43 = .ok (.invokestatic 135, 3) := by decide +kernel
theorem dX8_layer_46 : decode cX8_layer 46 = .ok (.istore 4, 2) := by decide +kernel
theorem dX8_layer_48 : decode cX8_layer 48 = .ok (.iload_n 3, 1) := by decide +kernel
theorem dX8_layer_49 : decode cX8_layer 49 = .ok (.ifCond .ne 17, 3) := by decide +kernel
theorem dX8_layer_52 : decode cX8_layer 52 = .ok (.aload_n 0, 1) := by decide +kernel
theorem dX8_layer_53 : decode cX8_layer 53 = .ok (.getfield 10, 3) := by decide +kernel
theorem dX8_layer_56 : decode cX8_layer 56 = .ok (.getfield 95, 3) := by decide +kernel
theorem dX8_layer_59 : decode cX8_layer 59 = .ok (.getfield 138, 3) := by decide +kernel
theorem dX8_layer_62 : decode cX8_layer 62 = .ok (.iload 4, 2) := by decide +kernel
theorem dX8_layer_64 : decode cX8_layer 64 = .ok (.iaload, 1) := by decide +kernel
theorem dX8_layer_65 : decode cX8_layer 65 = .ok (.ireturn, 1) := by decide +kernel
theorem dX8_layer_66 : decode cX8_layer 66 = .ok (.iload_n 3, 1) := by decide +kernel
theorem dX8_layer_67 : decode cX8_layer 67 = .ok (.iconst 1, 1) := by decide +kernel
theorem dX8_layer_68 : decode cX8_layer 68 = .ok (.if_icmp .ne 19, 3) := by decide +kernel
theorem dX8_layer_71 : decode cX8_layer 71 = .ok (.aload_n 0, 1) := by decide +kernel
theorem dX8_layer_72 : decode cX8_layer 72 = .ok (.getfield 10, 3) := by decide +kernel
theorem dX8_layer_75 : decode cX8_layer 75 = .ok (.getfield 95, 3) := by decide +kernel
theorem dX8_layer_78 : decode cX8_layer 78 = .ok (.getfield 141, 3) := by decide +kernel
theorem dX8_layer_81 : decode cX8_layer 81 = .ok (.iload 4, 2) := by decide +kernel
theorem dX8_layer_83 : decode cX8_layer 83 = .ok (.iaload, 1) := by decide +kernel
theorem dX8_layer_84 : decode cX8_layer 84 = .ok (.goto 16, 3) := by decide +kernel
theorem dX8_layer_87 : decode cX8_layer 87 = .ok (.aload_n 0, 1) := by decide +kernel
theorem dX8_layer_88 : decode cX8_layer 88 = .ok (.getfield 10, 3) := by decide +kernel
theorem dX8_layer_91 : decode cX8_layer 91 = .ok (.getfield 95, 3) := by decide +kernel
theorem dX8_layer_94 : decode cX8_layer 94 = .ok (.getfield 144, 3) := by decide +kernel
theorem dX8_layer_97 : decode cX8_layer 97 = .ok (.iload 4, 2) := by decide +kernel
theorem dX8_layer_99 : decode cX8_layer 99 = .ok (.iaload, 1) := by decide +kernel
theorem dX8_layer_100 : decode cX8_layer 100 = .ok (.ireturn, 1) := by decide +kernel
theorem dX8_field_0 : decode cX8_field 0 = .ok (.iload_n 1, 1) := by decide +kernel
theorem dX8_field_1 : decode cX8_field 1 = .ok (.invokestatic 110, 3) := by decide +kernel
theorem dX8_field_4 : decode cX8_field 4 = .ok (.ifCond .ne 5, 3) := by decide +kernel
theorem dX8_field_7 : decode cX8_field 7 = .ok (.iconst (-1), 1) := by decide +kernel
theorem dX8_field_8 : decode cX8_field 8 = .ok (.ireturn, 1) := by decide +kernel
theorem dX8_field_9 : decode cX8_field 9 = .ok (.iload_n 2, 1) := by decide +kernel
theorem dX8_field_10 : decode cX8_field 10 = .ok (.tableswitch 162 0 5 #[38, 51, 70, 100, 124, 143], 38) := by decide +kernel
theorem dX8_field_48 : decode cX8_field 48 = .ok (.aload_n 0, 1) := by decide +kernel
theorem dX8_field_49 : decode cX8_field 49 = .ok (.getfield 10, 3) := by decide +kernel
theorem dX8_field_52 : decode cX8_field 52 = .ok (.getfield 95, 3) := by decide +kernel
theorem dX8_field_55 : decode cX8_field 55 = .ok (.getfield 116, 3) := by decide +kernel
theorem dX8_field_58 : decode cX8_field 58 = .ok (.iload_n 1, 1) := by decide +kernel
theorem dX8_field_59 : decode cX8_field 59 = .ok (.iaload, 1) := by decide +kernel
theorem dX8_field_60 : decode cX8_field 60 = .ok (.ireturn, 1) := by decide +kernel
theorem dX8_field_61 : decode cX8_field 61 = .ok (.aload_n 0, 1) := by decide +kernel
theorem dX8_field_62 : decode cX8_field 62 = .ok (.getfield 10, 3) := by decide +kernel
theorem dX8_field_65 : decode cX8_field 65 = .ok (.getfield 95, 3) := by decide +kernel
theorem dX8_field_68 : decode cX8_field 68 = .ok (.iload_n 1, 1) := by decide +kernel
theorem dX8_field_69 : decode cX8_field 69 = .ok (.aload_n 0, 1) := by decide +kernel
theorem dX8_field_70 : decode cX8_field 70 = .ok (.getfield 10, 3) := by decide +kernel
theorem dX8_field_73 : decode cX8_field 73 = .ok (.getfield 59, 3) := by decide +kernel
theorem dX8_field_76 : decode cX8_field 76 = .ok (.invokevirtual 147, 3) := by decide +kernel
theorem dX8_field_79 : decode cX8_field 79 = .ok (.ireturn, 1) := by decide +kernel
theorem dX8_field_80 : decode cX8_field 80 = .ok (.iload_n 1, 1) := by decide +kernel
theorem dX8_field_81 : decode cX8_field 81 = .ok (.bipush 6, 2) := by decide +kernel
theorem dX8_field_83 : decode cX8_field 83 = .ok (.if_icmp .ne 8, 3) := by decide +kernel
theorem dX8_field_86 : decode cX8_field 86 = .ok (.bipush (-4), 2) := by decide +kernel
theorem dX8_field_88 : decode cX8_field 88 = .ok (.goto 21, 3) := by decide +kernel
theorem dX8_field_91 : decode cX8_field 91 = .ok (.aload_n 0, 1) := by decide +kernel
theorem dX8_field_92 : decode cX8_field 92 = .ok (.getfield 10, 3) := by decide +kernel
theorem dX8_field_95 : decode cX8_field 95 = .ok (.getfield 95, 3) := by decide +kernel
theorem dX8_field_98 : decode cX8_field 98 = .ok (.iload_n 1, 1) := by decide +kernel
theorem dX8_field_99 : decode cX8_field 99 = .ok (.aload_n 0, 1) := by decide +kernel
theorem dX8_field_100 : decode cX8_field 100 = .ok (.getfield 10, 3) := by decide +kernel
theorem dX8_field_103 : decode cX8_field 103 = .ok (.getfield 59, 3) := by decide +kernel
theorem dX8_field_106 : decode cX8_field 106 = .ok (.invokevirtual 150, 3) := by decide +kernel
theorem dX8_field_109 : decode cX8_field 109 = .ok (.ireturn, 1) := by decide +kernel
theorem dX8_field_110 : decode cX8_field 110 = .ok (.iload_n 1, 1) := by decide +kernel
theorem dX8_field_111 : decode cX8_field 111 = .ok (.bipush 6, 2) := by decide +kernel
theorem dX8_field_113 : decode cX8_field 113 = .ok (.if_icmp .ne 8, 3) := by decide +kernel
theorem dX8_field_116 : decode cX8_field 116 = .ok (.bipush (-4), 2) := by decide +kernel
theorem dX8_field_118 : decode cX8_field 118 = .ok (.goto 15, 3) := by decide +kernel
theorem dX8_field_121 : decode cX8_field 121 = .ok (.aload_n 0, 1) := by decide +kernel
theorem dX8_field_122 : decode cX8_field 122 = .ok (.getfield 10, 3) := by decide +kernel
theorem dX8_field_125 : decode cX8_field 125 = .ok (.getfield 95, 3) := by decide +kernel
theorem dX8_field_128 : decode cX8_field 128 = .ok (.getfield 153, 3) := by decide +kernel
theorem dX8_field_131 : decode cX8_field 131 = .ok (.iload_n 1, 1) := by decide +kernel
theorem dX8_field_132 : decode cX8_field 132 = .ok (.iaload, 1) := by decide +kernel
theorem dX8_field_133 : decode cX8_field 133 = .ok (.ireturn, 1) := by decide +kernel
theorem dX8_field_134 : decode cX8_field 134 = .ok (.aload_n 0, 1) := by decide +kernel
theorem dX8_field_135 : decode cX8_field 135 = .ok (.getfield 10, 3) := by decide +kernel
theorem dX8_field_138 : decode cX8_field 138 = .ok (.getfield 95, 3) := by decide +kernel
theorem dX8_field_141 : decode cX8_field 141 = .ok (.iload_n 1, 1) := by decide +kernel
theorem dX8_field_142 : decode cX8_field 142 = .ok (.aload_n 0, 1) := by decide +kernel
theorem dX8_field_143 : decode cX8_field 143 = .ok (.getfield 10, 3) := by decide +kernel
theorem dX8_field_146 : decode cX8_field 146 = .ok (.getfield 59, 3) := by decide +kernel
theorem dX8_field_149 : decode cX8_field 149 = .ok (.invokevirtual 156, 3) := by decide +kernel
theorem dX8_field_152 : decode cX8_field 152 = .ok (.ireturn, 1) := by decide +kernel
theorem dX8_field_153 : decode cX8_field 153 = .ok (.aload_n 0, 1) := by decide +kernel
theorem dX8_field_154 : decode cX8_field 154 = .ok (.getfield 10, 3) := by decide +kernel
theorem dX8_field_157 : decode cX8_field 157 = .ok (.getfield 95, 3) := by decide +kernel
theorem dX8_field_160 : decode cX8_field 160 = .ok (.iload_n 1, 1) := by decide +kernel
theorem dX8_field_161 : decode cX8_field 161 = .ok (.aload_n 0, 1) := by decide +kernel
theorem dX8_field_162 : decode cX8_field 162 = .ok (.getfield 10, 3) := by decide +kernel
theorem dX8_field_165 : decode cX8_field 165 = .ok (.getfield 59, 3) := by decide +kernel
theorem dX8_field_168 : decode cX8_field 168 = .ok (.invokevirtual 159, 3) := by decide +kernel
theorem dX8_field_171 : decode cX8_field 171 = .ok (.ireturn, 1) := by decide +kernel
theorem dX8_field_172 : decode cX8_field 172 = .ok (.iconst (-1), 1) := by decide +kernel
theorem dX8_field_173 : decode cX8_field 173 = .ok (.ireturn, 1) := by decide +kernel
theorem dX8_set_0 : decode cX8_set 0 = .ok (.iload_n 1, 1) := by decide +kernel
theorem dX8_set_1 : decode cX8_set 1 = .ok (.iconst 0, 1) := by decide +kernel
theorem dX8_set_2 : decode cX8_set 2 = .ok (.iconst 2, 1) := by decide +kernel
theorem dX8_set_3 : decode cX8_set 3 = .ok (.invokestatic 55, 3) := by decide +kernel
theorem dX8_set_6 : decode cX8_set 6 = .ok (.ifCond .eq 20, 3) := by decide +kernel
theorem dX8_set_9 : decode cX8_set 9 = .ok (.iload_n 2, 1) := by decide +kernel
theorem dX8_set_10 : decode cX8_set 10 = .ok (.getstatic 162, 3) := by decide +kernel
theorem dX8_set_13 : decode cX8_set 13 = .ok (.iload_n 1, 1) := by decide +kernel
theorem dX8_set_14 : decode cX8_set 14 = .ok (.iaload, 1) := by decide +kernel
theorem dX8_set_15 : decode cX8_set 15 = .ok (.getstatic 165, 3) := by decide +kernel
theorem dX8_set_18 : decode cX8_set 18 = .ok (.iload_n 1, 1) := by decide +kernel
theorem dX8_set_19 : decode cX8_set 19 = .ok (.iaload, 1) := by decide +kernel
theorem dX8_set_20 : decode cX8_set 20 = .ok (.invokestatic 55, 3) := by decide +kernel
theorem dX8_set_23 : decode cX8_set 23 = .ok (.ifCond .ne 5, 3) := by decide +kernel
theorem dX8_set_26 : decode cX8_set 26 = .ok (.iconst (-1), 1) := by decide +kernel
theorem dX8_set_27 : decode cX8_set 27 = .ok (.ireturn, 1) := by decide +kernel
theorem dX8_set_28 : decode cX8_set 28 = .ok (.aload_n 0, 1) := by decide +kernel
theorem dX8_set_29 : decode cX8_set 29 = .ok (.getfield 19, 3) := by decide +kernel
theorem dX8_set_32 : decode cX8_set 32 = .ok (.aload_n 0, 1) := by decide +kernel
theorem dX8_set_33 : decode cX8_set 33 = .ok (.getfield 10, 3) := by decide +kernel
theorem dX8_set_36 : decode cX8_set 36 = .ok (.invokevirtual 69, 3) := by decide +kernel
theorem dX8_set_39 : decode cX8_set 39 = .ok (.aload_n 0, 1) := by decide +kernel
theorem dX8_set_40 : decode cX8_set 40 = .ok (.getfield 10, 3) := by decide +kernel
theorem dX8_set_43 : decode cX8_set 43 = .ok (.getfield 168, 3) := by decide +kernel
theorem dX8_set_46 : decode cX8_set 46 = .ok (.iload_n 1, 1) := by decide +kernel
theorem dX8_set_47 : decode cX8_set 47 = .ok (.iaload, 1) := by decide +kernel
theorem dX8_set_48 : decode cX8_set 48 = .ok (.istore_n 3, 1) := by decide +kernel
theorem dX8_set_49 : decode cX8_set 49 = .ok (.aload_n 0, 1) := by decide +kernel
theorem dX8_set_50 : decode cX8_set 50 = .ok (.getfield 10, 3) := by decide +kernel
theorem dX8_set_53 : decode cX8_set 53 = .ok (.getfield 168, 3) := by decide +kernel
theorem dX8_set_56 : decode cX8_set 56 = .ok (.iload_n 1, 1) := by decide +kernel
theorem dX8_set_57 : decode cX8_set 57 = .ok (.iload_n 2, 1) := by decide +kernel
theorem dX8_set_58 : decode cX8_set 58 = .ok (.iastore, 1) := by decide +kernel
theorem dX8_set_59 : decode cX8_set 59 = .ok (.iload_n 3, 1) := by decide +kernel
theorem dX8_set_60 : decode cX8_set 60 = .ok (.ireturn, 1) := by decide +kernel
theorem dX8_count_0 : decode cX8_count 0 = .ok (.iload_n 1, 1) := by decide +kernel
theorem dX8_count_1 : decode cX8_count 1 = .ok (.iconst 2, 1) := by decide +kernel
theorem dX8_count_2 : decode cX8_count 2 = .ok (.bipush 6, 2) := by decide +kernel
theorem dX8_count_4 : decode cX8_count 4 = .ok (.invokestatic 55, 3) := by decide +kernel
theorem dX8_count_7 : decode cX8_count 7 = .ok (.ifCond .eq 17, 3) := by decide +kernel
theorem dX8_count_10 : decode cX8_count 10 = .ok (.aload_n 0, 1) := by decide +kernel
theorem dX8_count_11 : decode cX8_count 11 = .ok (.getfield 10, 3) := by decide +kernel
theorem dX8_count_14 : decode cX8_count 14 = .ok (.getfield 95, 3) := by decide +kernel
theorem dX8_count_17 : decode cX8_count 17 = .ok (.iload_n 1, 1) := by decide +kernel
theorem dX8_count_18 : decode cX8_count 18 = .ok (.iconst 2, 1) := by decide +kernel
theorem dX8_count_19 : decode cX8_count 19 = .ok (.isub, 1) := by decide +kernel
theorem dX8_count_20 : decode cX8_count 20 = .ok (.invokevirtual 171, 3) := by decide +kernel
theorem dX8_count_23 : decode cX8_count 23 = .ok (.ireturn, 1) := by decide +kernel
theorem dX8_count_24 : decode cX8_count 24 = .ok (.iload_n 1, 1) := by decide +kernel
theorem dX8_count_25 : decode cX8_count 25 = .ok (.bipush 8, 2) := by decide +kernel
theorem dX8_count_27 : decode cX8_count 27 = .ok (.bipush 10, 2) := by decide +kernel
theorem dX8_count_29 : decode cX8_count 29 = .ok (.invokestatic 55, 3) := by decide +kernel
theorem dX8_count_32 : decode cX8_count 32 = .ok (.ifCond .eq 16, 3) := by decide +kernel
theorem dX8_count_35 : decode cX8_count 35 = .ok (.aload_n 0, 1) := by decide +kernel
theorem dX8_count_36 : decode cX8_count 36 = .ok (.getfield 10, 3) := by decide +kernel
theorem dX8_count_39 : decode cX8_count 39 = .ok (.getfield 168, 3) := by decide +kernel
theorem dX8_count_42 : decode cX8_count 42 = .ok (.iload_n 1, 1) := by decide +kernel
theorem dX8_count_43 : decode cX8_count 43 = .ok (.bipush 8, 2) := by decide +kernel
theorem dX8_count_45 : decode cX8_count 45 = .ok (.isub, 1) := by decide +kernel
theorem dX8_count_46 : decode cX8_count 46 = .ok (.iaload, 1) := by decide +kernel
theorem dX8_count_47 : decode cX8_count 47 = .ok (.ireturn, 1) := by decide +kernel
theorem dX8_count_48 : decode cX8_count 48 = .ok (.iload_n 1, 1) := by decide +kernel
theorem dX8_count_49 : decode cX8_count 49 = .ok (.bipush 11, 2) := by decide +kernel
theorem dX8_count_51 : decode cX8_count 51 = .ok (.bipush 19, 2) := by decide +kernel
theorem dX8_count_53 : decode cX8_count 53 = .ok (.invokestatic 55, 3) := by decide +kernel
theorem dX8_count_56 : decode cX8_count 56 = .ok (.ifCond .eq 16, 3) := by decide +kernel
theorem dX8_count_59 : decode cX8_count 59 = .ok (.aload_n 0, 1) := by decide +kernel
theorem dX8_count_60 : decode cX8_count 60 = .ok (.getfield 10, 3) := by decide +kernel
theorem dX8_count_63 : decode cX8_count 63 = .ok (.getfield 119, 3) := by decide +kernel
theorem dX8_count_66 : decode cX8_count 66 = .ok (.iload_n 1, 1) := by decide +kernel
theorem dX8_count_67 : decode cX8_count 67 = .ok (.bipush 11, 2) := by decide +kernel
theorem dX8_count_69 : decode cX8_count 69 = .ok (.isub, 1) := by decide +kernel
theorem dX8_count_70 : decode cX8_count 70 = .ok (.iaload, 1) := by decide +kernel
theorem dX8_count_71 : decode cX8_count 71 = .ok (.ireturn, 1) := by decide +kernel
theorem dX8_count_72 : decode cX8_count 72 = .ok (.iload_n 1, 1) := by decide +kernel
theorem dX8_count_73 : decode cX8_count 73 = .ok (.lookupswitch 119 #[(0, 59), (1, 70), (7, 81), (20, 92), (21, 103), (22, 111)], 59) := by decide +kernel
theorem dX8_count_132 : decode cX8_count 132 = .ok (.aload_n 0, 1) := by decide +kernel
theorem dX8_count_133 : decode cX8_count 133 = .ok (.getfield 10, 3) := by decide +kernel
theorem dX8_count_136 : decode cX8_count 136 = .ok (.getfield 59, 3) := by decide +kernel
theorem dX8_count_139 : decode cX8_count 139 = .ok (.getfield 63, 3) := by decide +kernel
theorem dX8_count_142 : decode cX8_count 142 = .ok (.ireturn, 1) := by decide +kernel
theorem dX8_count_143 : decode cX8_count 143 = .ok (.aload_n 0, 1) := by decide +kernel
theorem dX8_count_144 : decode cX8_count 144 = .ok (.getfield 10, 3) := by decide +kernel
theorem dX8_count_147 : decode cX8_count 147 = .ok (.getfield 95, 3) := by decide +kernel
theorem dX8_count_150 : decode cX8_count 150 = .ok (.invokevirtual 128, 3) := by decide +kernel
theorem dX8_count_153 : decode cX8_count 153 = .ok (.ireturn, 1) := by decide +kernel
theorem dX8_count_154 : decode cX8_count 154 = .ok (.aload_n 0, 1) := by decide +kernel
theorem dX8_count_155 : decode cX8_count 155 = .ok (.getfield 10, 3) := by decide +kernel
theorem dX8_count_158 : decode cX8_count 158 = .ok (.getfield 95, 3) := by decide +kernel
theorem dX8_count_161 : decode cX8_count 161 = .ok (.invokevirtual 174, 3) := by decide +kernel
theorem dX8_count_164 : decode cX8_count 164 = .ok (.ireturn, 1) := by decide +kernel
theorem dX8_count_165 : decode cX8_count 165 = .ok (.aload_n 0, 1) := by decide +kernel
theorem dX8_count_166 : decode cX8_count 166 = .ok (.getfield 10, 3) := by decide +kernel
theorem dX8_count_169 : decode cX8_count 169 = .ok (.getfield 101, 3) := by decide +kernel
theorem dX8_count_172 : decode cX8_count 172 = .ok (.invokevirtual 177, 3) := by decide +kernel
theorem dX8_count_175 : decode cX8_count 175 = .ok (.ireturn, 1) := by decide +kernel
theorem dX8_count_176 : decode cX8_count 176 = .ok (.aload_n 0, 1) := by decide +kernel
theorem dX8_count_177 : decode cX8_count 177 = .ok (.getfield 19, 3) := by decide +kernel
theorem dX8_count_180 : decode cX8_count 180 = .ok (.getfield 180, 3) := by decide +kernel
theorem dX8_count_183 : decode cX8_count 183 = .ok (.ireturn, 1) := by decide +kernel
theorem dX8_count_184 : decode cX8_count 184 = .ok (.aload_n 0, 1) := by decide +kernel
theorem dX8_count_185 : decode cX8_count 185 = .ok (.getfield 47, 3) := by decide +kernel
theorem dX8_count_188 : decode cX8_count 188 = .ok (.getfield 181, 3) := by decide +kernel
theorem dX8_count_191 : decode cX8_count 191 = .ok (.ireturn, 1) := by decide +kernel
theorem dX8_count_192 : decode cX8_count 192 = .ok (.iconst (-1), 1) := by decide +kernel
theorem dX8_count_193 : decode cX8_count 193 = .ok (.ireturn, 1) := by decide +kernel
theorem dX8_fire_0 : decode cX8_fire 0 = .ok (.iload_n 1, 1) := by decide +kernel
theorem dX8_fire_1 : decode cX8_fire 1 = .ok (.sipush 500, 3) := by decide +kernel
theorem dX8_fire_4 : decode cX8_fire 4 = .ok (.sipush 1200, 3) := by decide +kernel
theorem dX8_fire_7 : decode cX8_fire 7 = .ok (.invokestatic 55, 3) := by decide +kernel
theorem dX8_fire_10 : decode cX8_fire 10 = .ok (.ifCond .eq 13, 3) := by decide +kernel
theorem dX8_fire_13 : decode cX8_fire 13 = .ok (.iload_n 2, 1) := by decide +kernel
theorem dX8_fire_14 : decode cX8_fire 14 = .ok (.iconst 1, 1) := by decide +kernel
theorem dX8_fire_15 : decode cX8_fire 15 = .ok (.bipush 20, 2) := by decide +kernel
theorem dX8_fire_17 : decode cX8_fire 17 = .ok (.invokestatic 55, 3) := by decide +kernel
theorem dX8_fire_20 : decode cX8_fire 20 = .ok (.ifCond .ne 5, 3) := by decide +kernel
theorem dX8_fire_23 : decode cX8_fire 23 = .ok (.iconst (-1), 1) := by decide +kernel
theorem dX8_fire_24 : decode cX8_fire 24 = .ok (.ireturn, 1) := by decide +kernel
theorem dX8_fire_25 : decode cX8_fire 25 = .ok (.aload_n 0, 1) := by decide +kernel
theorem dX8_fire_26 : decode cX8_fire 26 = .ok (.getfield 10, 3) := by decide +kernel
theorem dX8_fire_29 : decode cX8_fire 29 = .ok (.getfield 119, 3) := by decide +kernel
theorem dX8_fire_32 : decode cX8_fire 32 = .ok (.iconst 0, 1) := by decide +kernel
theorem dX8_fire_33 : decode cX8_fire 33 = .ok (.iaload, 1) := by decide +kernel
theorem dX8_fire_34 : decode cX8_fire 34 = .ok (.sipush 1000, 3) := by decide +kernel
theorem dX8_fire_37 : decode cX8_fire 37 = .ok (.if_icmp .lt 6, 3) := by decide +kernel
theorem dX8_fire_40 : decode cX8_fire 40 = .ok (.bipush (-3), 2) := by decide +kernel
theorem dX8_fire_42 : decode cX8_fire 42 = .ok (.ireturn, 1) := by decide +kernel
theorem dX8_fire_43 : decode cX8_fire 43 = .ok (.aload_n 0, 1) := by decide +kernel
theorem dX8_fire_44 : decode cX8_fire 44 = .ok (.getfield 19, 3) := by decide +kernel
theorem dX8_fire_47 : decode cX8_fire 47 = .ok (.aload_n 0, 1) := by decide +kernel
theorem dX8_fire_48 : decode cX8_fire 48 = .ok (.getfield 10, 3) := by decide +kernel
theorem dX8_fire_51 : decode cX8_fire 51 = .ok (.invokevirtual 69, 3) := by decide +kernel
theorem dX8_fire_54 : decode cX8_fire 54 = .ok (.aload_n 0, 1) := by decide +kernel
theorem dX8_fire_55 : decode cX8_fire 55 = .ok (.getfield 26, 3) := by decide +kernel
theorem dX8_fire_58 : decode cX8_fire 58 = .ok (.aload_n 0, 1) := by decide +kernel
theorem dX8_fire_59 : decode cX8_fire 59 = .ok (.getfield 10, 3) := by decide +kernel
theorem dX8_fire_62 : decode cX8_fire 62 = .ok (.aload_n 0, 1) := by decide +kernel
theorem dX8_fire_63 : decode cX8_fire 63 = .ok (.getfield 10, 3) := by decide +kernel
theorem dX8_fire_66 : decode cX8_fire 66 = .ok (.getfield 95, 3) := by decide +kernel
theorem dX8_fire_69 : decode cX8_fire 69 = .ok (.iload_n 1, 1) := by decide +kernel
theorem dX8_fire_70 : decode cX8_fire 70 = .ok (.iload_n 2, 1) := by decide +kernel
theorem dX8_fire_71 : decode cX8_fire 71 = .ok (.invokevirtual 184, 3) := by decide +kernel
theorem dX8_fire_74 : decode cX8_fire 74 = .ok (.aload_n 0, 1) := by decide +kernel
theorem dX8_fire_75 : decode cX8_fire 75 = .ok (.getfield 10, 3) := by decide +kernel
theorem dX8_fire_78 : decode cX8_fire 78 = .ok (.getfield 119, 3) := by decide +kernel
theorem dX8_fire_81 : decode cX8_fire 81 = .ok (.iconst 0, 1) := by decide +kernel
theorem dX8_fire_82 : decode cX8_fire 82 = .ok (.dup2, 1) := by decide +kernel
theorem dX8_fire_83 : decode cX8_fire 83 = .ok (.iaload, 1) := by decide +kernel
theorem dX8_fire_84 : decode cX8_fire 84 = .ok (.iconst 1, 1) := by decide +kernel
theorem dX8_fire_85 : decode cX8_fire 85 = .ok (.iadd, 1) := by decide +kernel
theorem dX8_fire_86 : decode cX8_fire 86 = .ok (.iastore, 1) := by decide +kernel
theorem dX8_fire_87 : decode cX8_fire 87 = .ok (.aload_n 0, 1) := by decide +kernel
theorem dX8_fire_88 : decode cX8_fire 88 = .ok (.getfield 10, 3) := by decide +kernel
theorem dX8_fire_91 : decode cX8_fire 91 = .ok (.getfield 119, 3) := by decide +kernel
theorem dX8_fire_94 : decode cX8_fire 94 = .ok (.iconst 1, 1) := by decide +kernel
theorem dX8_fire_95 : decode cX8_fire 95 = .ok (.dup2, 1) := by decide +kernel
theorem dX8_fire_96 : decode cX8_fire 96 = .ok (.iaload, 1) := by decide +kernel
theorem dX8_fire_97 : decode cX8_fire 97 = .ok (.iload_n 2, 1) := by decide +kernel
theorem dX8_fire_98 : decode cX8_fire 98 = .ok (.iadd, 1) := by decide +kernel
theorem dX8_fire_99 : decode cX8_fire 99 = .ok (.iastore, 1) := by decide +kernel
theorem dX8_fire_100 : decode cX8_fire 100 = .ok (.aload_n 0, 1) := by decide +kernel
theorem dX8_fire_101 : decode cX8_fire 101 = .ok (.getfield 10, 3) := by decide +kernel
theorem dX8_fire_104 : decode cX8_fire 104 = .ok (.getfield 119, 3) := by decide +kernel
theorem dX8_fire_107 : decode cX8_fire 107 = .ok (.iconst 4, 1) := by decide +kernel
theorem dX8_fire_108 : decode cX8_fire 108 = .ok (.dup2, 1) := by decide +kernel
theorem dX8_fire_109 : decode cX8_fire 109 = .ok (.iaload, 1) := by decide +kernel
theorem dX8_fire_110 : decode cX8_fire 110 = .ok (.aload_n 0, 1) := by decide +kernel
theorem dX8_fire_111 : decode cX8_fire 111 = .ok (.getfield 26, 3) := by decide +kernel
theorem dX8_fire_114 : decode cX8_fire 114 = .ok (.getfield 188, 3) := by decide +kernel
theorem dX8_fire_117 : decode cX8_fire 117 = .ok (.iadd, 1) := by decide +kernel
theorem dX8_fire_118 : decode cX8_fire 118 = .ok (.iastore, 1) := by decide +kernel
theorem dX8_fire_119 : decode cX8_fire 119 = .ok (.aload_n 0, 1) := by decide +kernel
theorem dX8_fire_120 : decode cX8_fire 120 = .ok (.getfield 10, 3) := by decide +kernel
theorem dX8_fire_123 : decode cX8_fire 123 = .ok (.getfield 119, 3) := by decide +kernel
theorem dX8_fire_126 : decode cX8_fire 126 = .ok (.iconst 5, 1) := by decide +kernel
theorem dX8_fire_127 : decode cX8_fire 127 = .ok (.dup2, 1) := by decide +kernel
theorem dX8_fire_128 : decode cX8_fire 128 = .ok (.iaload, 1) := by decide +kernel
theorem dX8_fire_129 : decode cX8_fire 129 = .ok (.aload_n 0, 1) := by decide +kernel
theorem dX8_fire_130 : decode cX8_fire 130 = .ok (.getfield 26, 3) := by decide +kernel
theorem dX8_fire_133 : decode cX8_fire 133 = .ok (.getfield 191, 3) := by decide +kernel
theorem dX8_fire_136 : decode cX8_fire 136 = .ok (.iadd, 1) := by decide +kernel
theorem dX8_fire_137 : decode cX8_fire 137 = .ok (.iastore, 1) := by decide +kernel
theorem dX8_fire_138 : decode cX8_fire 138 = .ok (.aload_n 0, 1) := by decide +kernel
theorem dX8_fire_139 : decode cX8_fire 139 = .ok (.getfield 10, 3) := by decide +kernel
theorem dX8_fire_142 : decode cX8_fire 142 = .ok (.getfield 119, 3) := by decide +kernel
theorem dX8_fire_145 : decode cX8_fire 145 = .ok (.bipush 6, 2) := by decide +kernel
theorem dX8_fire_147 : decode cX8_fire 147 = .ok (.dup2, 1) := by decide +kernel
theorem dX8_fire_148 : decode cX8_fire 148 = .ok (.iaload, 1) := by decide +kernel
theorem dX8_fire_149 : decode cX8_fire 149 = .ok (.aload_n 0, 1) := by decide +kernel
theorem dX8_fire_150 : decode cX8_fire 150 = .ok (.getfield 26, 3) := by decide +kernel
theorem dX8_fire_153 : decode cX8_fire 153 = .ok (.getfield 194, 3) := by decide +kernel
theorem dX8_fire_156 : decode cX8_fire 156 = .ok (.iadd, 1) := by decide +kernel
theorem dX8_fire_157 : decode cX8_fire 157 = .ok (.iastore, 1) := by decide +kernel
theorem dX8_fire_158 : decode cX8_fire 158 = .ok (.aload_n 0, 1) := by decide +kernel
theorem dX8_fire_159 : decode cX8_fire 159 = .ok (.getfield 10, 3) := by decide +kernel
theorem dX8_fire_162 : decode cX8_fire 162 = .ok (.getfield 119, 3) := by decide +kernel
theorem dX8_fire_165 : decode cX8_fire 165 = .ok (.bipush 7, 2) := by decide +kernel
theorem dX8_fire_167 : decode cX8_fire 167 = .ok (.dup2, 1) := by decide +kernel
theorem dX8_fire_168 : decode cX8_fire 168 = .ok (.iaload, 1) := by decide +kernel
theorem dX8_fire_169 : decode cX8_fire 169 = .ok (.aload_n 0, 1) := by decide +kernel
theorem dX8_fire_170 : decode cX8_fire 170 = .ok (.getfield 26, 3) := by decide +kernel
theorem dX8_fire_173 : decode cX8_fire 173 = .ok (.getfield 197, 3) := by decide +kernel
theorem dX8_fire_176 : decode cX8_fire 176 = .ok (.iadd, 1) := by decide +kernel
theorem dX8_fire_177 : decode cX8_fire 177 = .ok (.iastore, 1) := by decide +kernel
theorem dX8_fire_178 : decode cX8_fire 178 = .ok (.aload_n 0, 1) := by decide +kernel
theorem dX8_fire_179 : decode cX8_fire 179 = .ok (.getfield 10, 3) := by decide +kernel
theorem dX8_fire_182 : decode cX8_fire 182 = .ok (.getfield 119, 3) := by decide +kernel
theorem dX8_fire_185 : decode cX8_fire 185 = .ok (.bipush 8, 2) := by decide +kernel
theorem dX8_fire_187 : decode cX8_fire 187 = .ok (.dup2, 1) := by decide +kernel
theorem dX8_fire_188 : decode cX8_fire 188 = .ok (.iaload, 1) := by decide +kernel
theorem dX8_fire_189 : decode cX8_fire 189 = .ok (.aload_n 0, 1) := by decide +kernel
theorem dX8_fire_190 : decode cX8_fire 190 = .ok (.getfield 26, 3) := by decide +kernel
theorem dX8_fire_193 : decode cX8_fire 193 = .ok (.getfield 199, 3) := by decide +kernel
theorem dX8_fire_196 : decode cX8_fire 196 = .ok (.iadd, 1) := by decide +kernel
theorem dX8_fire_197 : decode cX8_fire 197 = .ok (.iastore, 1) := by decide +kernel
theorem dX8_fire_198 : decode cX8_fire 198 = .ok (.aload_n 0, 1) := by decide +kernel
theorem dX8_fire_199 : decode cX8_fire 199 = .ok (.getfield 26, 3) := by decide +kernel
theorem dX8_fire_202 : decode cX8_fire 202 = .ok (.getfield 188, 3) := by decide +kernel
theorem dX8_fire_205 : decode cX8_fire 205 = .ok (.ireturn, 1) := by decide +kernel
theorem dX8_ifFired_0 : decode cX8_ifFired 0 = .ok (.iload_n 1, 1) := by decide +kernel
theorem dX8_ifFired_1 : decode cX8_ifFired 1 = .ok (.sipush 500, 3) := by decide +kernel
theorem dX8_ifFired_4 : decode cX8_ifFired 4 = .ok (.sipush 1200, 3) := by decide +kernel
theorem dX8_ifFired_7 : decode cX8_ifFired 7 = .ok (.invokestatic 55, 3) := by decide +kernel
theorem dX8_ifFired_10 : decode cX8_ifFired 10 = .ok (.ifCond .eq 12, 3) := by decide +kernel
theorem dX8_ifFired_13 : decode cX8_ifFired 13 = .ok (.iload_n 2, 1) := by decide +kernel
theorem dX8_ifFired_14 : decode cX8_ifFired 14 = .ok (.iconst 0, 1) := by decide +kernel
theorem dX8_ifFired_15 : decode cX8_ifFired 15 = .ok (.iconst 4, 1) := by decide +kernel
theorem dX8_ifFired_16 : decode cX8_ifFired 16 = .ok (.invokestatic 55, 3) := by decide +kernel
theorem dX8_ifFired_19 : decode cX8_ifFired 19 = .ok (.ifCond .ne 5, 3) := by decide +kernel
theorem dX8_ifFired_22 : decode cX8_ifFired 22 = .ok (.iconst (-1), 1) := by decide +kernel
theorem dX8_ifFired_23 : decode cX8_ifFired 23 = .ok (.ireturn, 1) := by decide +kernel
theorem dX8_ifFired_24 : decode cX8_ifFired 24 = .ok (.aload_n 0, 1) := by decide +kernel
theorem dX8_ifFired_25 : decode cX8_ifFired 25 = .ok (.iload_n 1, 1) := by decide +kernel
theorem dX8_ifFired_26 : decode cX8_ifFired 26 = .ok (.invokevirtual 202, 3) := by decide +kernel
theorem dX8_ifFired_29 : decode cX8_ifFired 29 = .ok (.iload_n 2, 1) := by decide +kernel
theorem dX8_ifFired_30 : decode cX8_ifFired 30 = .ok (.tableswitch 62 0 3 #[30, 38, 46, 54], 30) := by decide +kernel
theorem dX8_ifFired_60 : decode cX8_ifFired 60 = .ok (.aload_n 0, 1) := by decide +kernel
theorem dX8_ifFired_61 : decode cX8_ifFired 61 = .ok (.getfield 26, 3) := by decide +kernel
theorem dX8_ifFired_64 : decode cX8_ifFired 64 = .ok (.getfield 188, 3) := by decide +kernel
theorem dX8_ifFired_67 : decode cX8_ifFired 67 = .ok (.ireturn, 1) := by decide +kernel
theorem dX8_ifFired_68 : decode cX8_ifFired 68 = .ok (.aload_n 0, 1) := by decide +kernel
theorem dX8_ifFired_69 : decode cX8_ifFired 69 = .ok (.getfield 26, 3) := by decide +kernel
theorem dX8_ifFired_72 : decode cX8_ifFired 72 = .ok (.getfield 194, 3) := by decide +kernel
theorem dX8_ifFired_75 : decode cX8_ifFired 75 = .ok (.ireturn, 1) := by decide +kernel
theorem dX8_ifFired_76 : decode cX8_ifFired 76 = .ok (.aload_n 0, 1) := by decide +kernel
theorem dX8_ifFired_77 : decode cX8_ifFired 77 = .ok (.getfield 26, 3) := by decide +kernel
theorem dX8_ifFired_80 : decode cX8_ifFired 80 = .ok (.getfield 191, 3) := by decide +kernel
theorem dX8_ifFired_83 : decode cX8_ifFired 83 = .ok (.ireturn, 1) := by decide +kernel
theorem dX8_ifFired_84 : decode cX8_ifFired 84 = .ok (.aload_n 0, 1) := by decide +kernel
theorem dX8_ifFired_85 : decode cX8_ifFired 85 = .ok (.getfield 26, 3) := by decide +kernel
theorem dX8_ifFired_88 : decode cX8_ifFired 88 = .ok (.getfield 197, 3) := by decide +kernel
theorem dX8_ifFired_91 : decode cX8_ifFired 91 = .ok (.ireturn, 1) := by decide +kernel
theorem dX8_ifFired_92 : decode cX8_ifFired 92 = .ok (.aload_n 0, 1) := by decide +kernel
theorem dX8_ifFired_93 : decode cX8_ifFired 93 = .ok (.getfield 26, 3) := by decide +kernel
theorem dX8_ifFired_96 : decode cX8_ifFired 96 = .ok (.getfield 199, 3) := by decide +kernel
theorem dX8_ifFired_99 : decode cX8_ifFired 99 = .ok (.ireturn, 1) := by decide +kernel
theorem dX8_bestHeat_0 : decode cX8_bestHeat 0 = .ok (.aload_n 0, 1) := by decide +kernel
theorem dX8_bestHeat_1 : decode cX8_bestHeat 1 = .ok (.sipush 500, 3) := by decide +kernel
theorem dX8_bestHeat_4 : decode cX8_bestHeat 4 = .ok (.invokevirtual 202, 3) := by decide +kernel
theorem dX8_bestHeat_7 : decode cX8_bestHeat 7 = .ok (.sipush 500, 3) := by decide +kernel
theorem dX8_bestHeat_10 : decode cX8_bestHeat 10 = .ok (.istore_n 1, 1) := by decide +kernel
theorem dX8_bestHeat_11 : decode cX8_bestHeat 11 = .ok (.aload_n 0, 1) := by decide +kernel
theorem dX8_bestHeat_12 : decode cX8_bestHeat 12 = .ok (.getfield 26, 3) := by decide +kernel
theorem dX8_bestHeat_15 : decode cX8_bestHeat 15 = .ok (.getfield 188, 3) := by decide +kernel
theorem dX8_bestHeat_18 : decode cX8_bestHeat 18 = .ok (.istore_n 2, 1) := by decide +kernel
theorem dX8_bestHeat_19 : decode cX8_bestHeat 19 = .ok (.iconst 0, 1) := by decide +kernel
theorem dX8_bestHeat_20 : decode cX8_bestHeat 20 = .ok (.istore_n 3, 1) := by decide +kernel
theorem dX8_bestHeat_21 : decode cX8_bestHeat 21 = .ok (.iload_n 3, 1) := by decide +kernel
theorem dX8_bestHeat_22 : decode cX8_bestHeat 22 = .ok (.aload_n 0, 1) := by decide +kernel
theorem dX8_bestHeat_23 : decode cX8_bestHeat 23 = .ok (.getfield 10, 3) := by decide +kernel
theorem dX8_bestHeat_26 : decode cX8_bestHeat 26 = .ok (.getfield 59, 3) := by decide +kernel
theorem dX8_bestHeat_29 : decode cX8_bestHeat 29 = .ok (.getfield 63, 3) := by decide +kernel
theorem dX8_bestHeat_32 : decode cX8_bestHeat 32 = .ok (.if_icmp .ge 78, 3) := by decide +kernel
theorem dX8_bestHeat_35 : decode cX8_bestHeat 35 = .ok (.aload_n 0, 1) := by decide +kernel
theorem dX8_bestHeat_36 : decode cX8_bestHeat 36 = .ok (.getfield 10, 3) := by decide +kernel
theorem dX8_bestHeat_39 : decode cX8_bestHeat 39 = .ok (.getfield 59, 3) := by decide +kernel
theorem dX8_bestHeat_42 : decode cX8_bestHeat 42 = .ok (.getfield 81, 3) := by decide +kernel
theorem dX8_bestHeat_45 : decode cX8_bestHeat 45 = .ok (.iload_n 3, 1) := by decide +kernel
theorem dX8_bestHeat_46 : decode cX8_bestHeat 46 = .ok (.iaload, 1) := by decide +kernel
theorem dX8_bestHeat_47 : decode cX8_bestHeat 47 = .ok (.istore 4, 2) := by decide +kernel
theorem dX8_bestHeat_49 : decode cX8_bestHeat 49 = .ok (.aload_n 0, 1) := by decide +kernel
theorem dX8_bestHeat_50 : decode cX8_bestHeat 50 = .ok (.iload 4, 2) := by decide +kernel
theorem dX8_bestHeat_52 : decode cX8_bestHeat 52 = .ok (.invokevirtual 202, 3) := by decide +kernel
theorem dX8_bestHeat_55 : decode cX8_bestHeat 55 = .ok (.aload_n 0, 1) := by decide +kernel
theorem dX8_bestHeat_56 : decode cX8_bestHeat 56 = .ok (.getfield 26, 3) := by decide +kernel
theorem dX8_bestHeat_59 : decode cX8_bestHeat 59 = .ok (.getfield 194, 3) := by decide +kernel
theorem dX8_bestHeat_62 : decode cX8_bestHeat 62 = .ok (.ifCond .ne 42, 3) := by decide +kernel
theorem dX8_bestHeat_65 : decode cX8_bestHeat 65 = .ok (.aload_n 0, 1) := by decide +kernel
theorem dX8_bestHeat_66 : decode cX8_bestHeat 66 = .ok (.getfield 26, 3) := by decide +kernel
theorem dX8_bestHeat_69 : decode cX8_bestHeat 69 = .ok (.getfield 188, 3) := by decide +kernel
theorem dX8_bestHeat_72 : decode cX8_bestHeat 72 = .ok (.iload_n 2, 1) := by decide +kernel
theorem dX8_bestHeat_73 : decode cX8_bestHeat 73 = .ok (.if_icmp .gt 20, 3) := by decide +kernel
theorem dX8_bestHeat_76 : decode cX8_bestHeat 76 = .ok (.aload_n 0, 1) := by decide +kernel
theorem dX8_bestHeat_77 : decode cX8_bestHeat 77 = .ok (.getfield 26, 3) := by decide +kernel
theorem dX8_bestHeat_80 : decode cX8_bestHeat 80 = .ok (.getfield 188, 3) := by decide +kernel
theorem dX8_bestHeat_83 : decode cX8_bestHeat 83 = .ok (.iload_n 2, 1) := by decide +kernel
theorem dX8_bestHeat_84 : decode cX8_bestHeat 84 = .ok (.if_icmp .ne 20, 3) := by decide +kernel
theorem dX8_bestHeat_87 : decode cX8_bestHeat 87 = .ok (.iload 4, 2) := by decide +kernel
theorem dX8_bestHeat_89 : decode cX8_bestHeat 89 = .ok (.iload_n 1, 1) := by decide +kernel
theorem dX8_bestHeat_90 : decode cX8_bestHeat 90 = .ok (.if_icmp .ge 14, 3) := by decide +kernel
theorem dX8_bestHeat_93 : decode cX8_bestHeat 93 = .ok (.iload 4, 2) := by decide +kernel
theorem dX8_bestHeat_95 : decode cX8_bestHeat 95 = .ok (.istore_n 1, 1) := by decide +kernel
theorem dX8_bestHeat_96 : decode cX8_bestHeat 96 = .ok (.aload_n 0, 1) := by decide +kernel
theorem dX8_bestHeat_97 : decode cX8_bestHeat 97 = .ok (.getfield 26, 3) := by decide +kernel
theorem dX8_bestHeat_100 : decode cX8_bestHeat 100 = .ok (.getfield 188, 3) := by decide +kernel
theorem dX8_bestHeat_103 : decode cX8_bestHeat 103 = .ok (.istore_n 2, 1) := by decide +kernel
theorem dX8_bestHeat_104 : decode cX8_bestHeat 104 = .ok (.iinc 3 1, 3) := by decide +kernel
theorem dX8_bestHeat_107 : decode cX8_bestHeat 107 = .ok (.goto (-86), 3) := by decide +kernel
theorem dX8_bestHeat_110 : decode cX8_bestHeat 110 = .ok (.iload_n 1, 1) := by decide +kernel
theorem dX8_bestHeat_111 : decode cX8_bestHeat 111 = .ok (.ireturn, 1) := by decide +kernel
theorem dX8_wish_0 : decode cX8_wish 0 = .ok (.iload_n 1, 1) := by decide +kernel
theorem dX8_wish_1 : decode cX8_wish 1 = .ok (.invokestatic 206, 3) := by decide +kernel
theorem dX8_wish_4 : decode cX8_wish 4 = .ok (.ifCond .eq 16, 3) := by decide +kernel
theorem dX8_wish_7 : decode cX8_wish 7 = .ok (.iload_n 2, 1) := by decide +kernel
theorem dX8_wish_8 : decode cX8_wish 8 = .ok (.iconst (-1), 1) := by decide +kernel
theorem dX8_wish_9 : decode cX8_wish 9 = .ok (.if_icmp .eq 13, 3) := by decide +kernel
theorem dX8_wish_12 : decode cX8_wish 12 = .ok (.aload_n 0, 1) := by decide +kernel
theorem dX8_wish_13 : decode cX8_wish 13 = .ok (.iload_n 2, 1) := by decide +kernel
theorem dX8_wish_14 : decode cX8_wish 14 = .ok (.invokevirtual 77, 3) := by decide +kernel
theorem dX8_wish_17 : decode cX8_wish 17 = .ok (.ifCond .ne 5, 3) := by decide +kernel
theorem dX8_wish_20 : decode cX8_wish 20 = .ok (.iconst (-1), 1) := by decide +kernel
theorem dX8_wish_21 : decode cX8_wish 21 = .ok (.ireturn, 1) := by decide +kernel
theorem dX8_wish_22 : decode cX8_wish 22 = .ok (.iload_n 2, 1) := by decide +kernel
theorem dX8_wish_23 : decode cX8_wish 23 = .ok (.iconst (-1), 1) := by decide +kernel
theorem dX8_wish_24 : decode cX8_wish 24 = .ok (.if_icmp .eq 22, 3) := by decide +kernel
theorem dX8_wish_27 : decode cX8_wish 27 = .ok (.aload_n 0, 1) := by decide +kernel
theorem dX8_wish_28 : decode cX8_wish 28 = .ok (.getfield 10, 3) := by decide +kernel
theorem dX8_wish_31 : decode cX8_wish 31 = .ok (.getfield 101, 3) := by decide +kernel
theorem dX8_wish_34 : decode cX8_wish 34 = .ok (.getfield 209, 3) := by decide +kernel
theorem dX8_wish_37 : decode cX8_wish 37 = .ok (.iload_n 1, 1) := by decide +kernel
theorem dX8_wish_38 : decode cX8_wish 38 = .ok (.iaload, 1) := by decide +kernel
theorem dX8_wish_39 : decode cX8_wish 39 = .ok (.iconst 3, 1) := by decide +kernel
theorem dX8_wish_40 : decode cX8_wish 40 = .ok (.if_icmp .lt 6, 3) := by decide +kernel
theorem dX8_wish_43 : decode cX8_wish 43 = .ok (.bipush (-3), 2) := by decide +kernel
theorem dX8_wish_45 : decode cX8_wish 45 = .ok (.ireturn, 1) := by decide +kernel
theorem dX8_wish_46 : decode cX8_wish 46 = .ok (.aload_n 0, 1) := by decide +kernel
theorem dX8_wish_47 : decode cX8_wish 47 = .ok (.getfield 19, 3) := by decide +kernel
theorem dX8_wish_50 : decode cX8_wish 50 = .ok (.aload_n 0, 1) := by decide +kernel
theorem dX8_wish_51 : decode cX8_wish 51 = .ok (.getfield 10, 3) := by decide +kernel
theorem dX8_wish_54 : decode cX8_wish 54 = .ok (.invokevirtual 69, 3) := by decide +kernel
theorem dX8_wish_57 : decode cX8_wish 57 = .ok (.aload_n 0, 1) := by decide +kernel
theorem dX8_wish_58 : decode cX8_wish 58 = .ok (.iconst 1, 1) := by decide +kernel
theorem dX8_wish_59 : decode cX8_wish 59 = .ok (.putfield 51, 3) := by decide +kernel
theorem dX8_wish_62 : decode cX8_wish 62 = .ok (.iload_n 2, 1) := by decide +kernel
theorem dX8_wish_63 : decode cX8_wish 63 = .ok (.iconst (-1), 1) := by decide +kernel
theorem dX8_wish_64 : decode cX8_wish 64 = .ok (.if_icmp .ne 19, 3) := by decide +kernel
theorem dX8_wish_67 : decode cX8_wish 67 = .ok (.aload_n 0, 1) := by decide +kernel
theorem dX8_wish_68 : decode cX8_wish 68 = .ok (.getfield 10, 3) := by decide +kernel
theorem dX8_wish_71 : decode cX8_wish 71 = .ok (.getfield 101, 3) := by decide +kernel
theorem dX8_wish_74 : decode cX8_wish 74 = .ok (.getfield 209, 3) := by decide +kernel
theorem dX8_wish_77 : decode cX8_wish 77 = .ok (.iload_n 1, 1) := by decide +kernel
theorem dX8_wish_78 : decode cX8_wish 78 = .ok (.iconst 0, 1) := by decide +kernel
theorem dX8_wish_79 : decode cX8_wish 79 = .ok (.iastore, 1) := by decide +kernel
theorem dX8_wish_80 : decode cX8_wish 80 = .ok (.goto 15, 3) := by decide +kernel
theorem dX8_wish_83 : decode cX8_wish 83 = .ok (.aload_n 0, 1) := by decide +kernel
theorem dX8_wish_84 : decode cX8_wish 84 = .ok (.getfield 10, 3) := by decide +kernel
theorem dX8_wish_87 : decode cX8_wish 87 = .ok (.getfield 101, 3) := by decide +kernel
theorem dX8_wish_90 : decode cX8_wish 90 = .ok (.iload_n 1, 1) := by decide +kernel
theorem dX8_wish_91 : decode cX8_wish 91 = .ok (.iload_n 2, 1) := by decide +kernel
theorem dX8_wish_92 : decode cX8_wish 92 = .ok (.invokevirtual 210, 3) := by decide +kernel
theorem dX8_wish_95 : decode cX8_wish 95 = .ok (.aload_n 0, 1) := by decide +kernel
theorem dX8_wish_96 : decode cX8_wish 96 = .ok (.getfield 10, 3) := by decide +kernel
theorem dX8_wish_99 : decode cX8_wish 99 = .ok (.getfield 101, 3) := by decide +kernel
theorem dX8_wish_102 : decode cX8_wish 102 = .ok (.getfield 209, 3) := by decide +kernel
theorem dX8_wish_105 : decode cX8_wish 105 = .ok (.iload_n 1, 1) := by decide +kernel
theorem dX8_wish_106 : decode cX8_wish 106 = .ok (.iaload, 1) := by decide +kernel
theorem dX8_wish_107 : decode cX8_wish 107 = .ok (.ireturn, 1) := by decide +kernel
theorem dX8_wished_0 : decode cX8_wished 0 = .ok (.iload_n 1, 1) := by decide +kernel
theorem dX8_wished_1 : decode cX8_wished 1 = .ok (.invokestatic 206, 3) := by decide +kernel
theorem dX8_wished_4 : decode cX8_wished 4 = .ok (.ifCond .eq 7, 3) := by decide +kernel
theorem dX8_wished_7 : decode cX8_wished 7 = .ok (.iload_n 2, 1) := by decide +kernel
theorem dX8_wished_8 : decode cX8_wished 8 = .ok (.ifCond .ge 5, 3) := by decide +kernel
theorem dX8_wished_11 : decode cX8_wished 11 = .ok (.iconst (-1), 1) := by decide +kernel
theorem dX8_wished_12 : decode cX8_wished 12 = .ok (.ireturn, 1) := by decide +kernel
theorem dX8_wished_13 : decode cX8_wished 13 = .ok (.iload_n 2, 1) := by decide +kernel
theorem dX8_wished_14 : decode cX8_wished 14 = .ok (.aload_n 0, 1) := by decide +kernel
theorem dX8_wished_15 : decode cX8_wished 15 = .ok (.getfield 10, 3) := by decide +kernel
theorem dX8_wished_18 : decode cX8_wished 18 = .ok (.getfield 101, 3) := by decide +kernel
theorem dX8_wished_21 : decode cX8_wished 21 = .ok (.getfield 209, 3) := by decide +kernel
theorem dX8_wished_24 : decode cX8_wished 24 = .ok (.iload_n 1, 1) := by decide +kernel
theorem dX8_wished_25 : decode cX8_wished 25 = .ok (.iaload, 1) := by decide +kernel
theorem dX8_wished_26 : decode cX8_wished 26 = .ok (.if_icmp .lt 6, 3) := by decide +kernel
theorem dX8_wished_29 : decode cX8_wished 29 = .ok (.bipush (-4), 2) := by decide +kernel
theorem dX8_wished_31 : decode cX8_wished 31 = .ok (.ireturn, 1) := by decide +kernel
theorem dX8_wished_32 : decode cX8_wished 32 = .ok (.aload_n 0, 1) := by decide +kernel
theorem dX8_wished_33 : decode cX8_wished 33 = .ok (.getfield 10, 3) := by decide +kernel
theorem dX8_wished_36 : decode cX8_wished 36 = .ok (.getfield 101, 3) := by decide +kernel
theorem dX8_wished_39 : decode cX8_wished 39 = .ok (.getfield 213, 3) := by decide +kernel
theorem dX8_wished_42 : decode cX8_wished 42 = .ok (.iload_n 1, 1) := by decide +kernel
theorem dX8_wished_43 : decode cX8_wished 43 = .ok (.iload_n 2, 1) := by decide +kernel
theorem dX8_wished_44 : decode cX8_wished 44 = .ok (.invokestatic 135, 3) := by decide +kernel
theorem dX8_wished_47 : decode cX8_wished 47 = .ok (.iaload, 1) := by decide +kernel
theorem dX8_wished_48 : decode cX8_wished 48 = .ok (.ireturn, 1) := by decide +kernel
theorem dX8_leastFirings_0 : decode cX8_leastFirings 0 = .ok (.aload_n 0, 1) := by decide +kernel
theorem dX8_leastFirings_1 : decode cX8_leastFirings 1 = .ok (.invokevirtual 214, 3) := by decide +kernel
theorem dX8_leastFirings_4 : decode cX8_leastFirings 4 = .ok (.aload_n 0, 1) := by decide +kernel
theorem dX8_leastFirings_5 : decode cX8_leastFirings 5 = .ok (.getfield 40, 3) := by decide +kernel
theorem dX8_leastFirings_8 : decode cX8_leastFirings 8 = .ok (.getfield 217, 3) := by decide +kernel
theorem dX8_leastFirings_11 : decode cX8_leastFirings 11 = .ok (.ifCond .eq 13, 3) := by decide +kernel
theorem dX8_leastFirings_14 : decode cX8_leastFirings 14 = .ok (.aload_n 0, 1) := by decide +kernel
theorem dX8_leastFirings_15 : decode cX8_leastFirings 15 = .ok (.getfield 40, 3) := by decide +kernel
theorem dX8_leastFirings_18 : decode cX8_leastFirings 18 = .ok (.getfield 220, 3) := by decide +kernel
theorem dX8_leastFirings_21 : decode cX8_leastFirings 21 = .ok (.goto 5, 3) := by decide +kernel
theorem dX8_leastFirings_24 : decode cX8_leastFirings 24 = .ok (.bipush (-4), 2) := by decide +kernel
theorem dX8_leastFirings_26 : decode cX8_leastFirings 26 = .ok (.ireturn, 1) := by decide +kernel
theorem dX8_planned_0 : decode cX8_planned 0 = .ok (.iload_n 1, 1) := by decide +kernel
theorem dX8_planned_1 : decode cX8_planned 1 = .ok (.ifCond .lt 12, 3) := by decide +kernel
theorem dX8_planned_4 : decode cX8_planned 4 = .ok (.iload_n 2, 1) := by decide +kernel
theorem dX8_planned_5 : decode cX8_planned 5 = .ok (.iconst 0, 1) := by decide +kernel
theorem dX8_planned_6 : decode cX8_planned 6 = .ok (.iconst 1, 1) := by decide +kernel
theorem dX8_planned_7 : decode cX8_planned 7 = .ok (.invokestatic 55, 3) := by decide +kernel
theorem dX8_planned_10 : decode cX8_planned 10 = .ok (.ifCond .ne 5, 3) := by decide +kernel
theorem dX8_planned_13 : decode cX8_planned 13 = .ok (.iconst (-1), 1) := by decide +kernel
theorem dX8_planned_14 : decode cX8_planned 14 = .ok (.ireturn, 1) := by decide +kernel
theorem dX8_planned_15 : decode cX8_planned 15 = .ok (.aload_n 0, 1) := by decide +kernel
theorem dX8_planned_16 : decode cX8_planned 16 = .ok (.invokevirtual 214, 3) := by decide +kernel
theorem dX8_planned_19 : decode cX8_planned 19 = .ok (.aload_n 0, 1) := by decide +kernel
theorem dX8_planned_20 : decode cX8_planned 20 = .ok (.getfield 40, 3) := by decide +kernel
theorem dX8_planned_23 : decode cX8_planned 23 = .ok (.getfield 217, 3) := by decide +kernel
theorem dX8_planned_26 : decode cX8_planned 26 = .ok (.ifCond .eq 14, 3) := by decide +kernel
theorem dX8_planned_29 : decode cX8_planned 29 = .ok (.iload_n 1, 1) := by decide +kernel
theorem dX8_planned_30 : decode cX8_planned 30 = .ok (.aload_n 0, 1) := by decide +kernel
theorem dX8_planned_31 : decode cX8_planned 31 = .ok (.getfield 40, 3) := by decide +kernel
theorem dX8_planned_34 : decode cX8_planned 34 = .ok (.getfield 220, 3) := by decide +kernel
theorem dX8_planned_37 : decode cX8_planned 37 = .ok (.if_icmp .lt 6, 3) := by decide +kernel
theorem dX8_planned_40 : decode cX8_planned 40 = .ok (.bipush (-4), 2) := by decide +kernel
theorem dX8_planned_42 : decode cX8_planned 42 = .ok (.ireturn, 1) := by decide +kernel
theorem dX8_planned_43 : decode cX8_planned 43 = .ok (.iload_n 2, 1) := by decide +kernel
theorem dX8_planned_44 : decode cX8_planned 44 = .ok (.ifCond .ne 15, 3) := by decide +kernel
theorem dX8_planned_47 : decode cX8_planned 47 = .ok (.aload_n 0, 1) := by decide +kernel
theorem dX8_planned_48 : decode cX8_planned 48 = .ok (.getfield 40, 3) := by decide +kernel
theorem dX8_planned_51 : decode cX8_planned 51 = .ok (.getfield 221, 3) := by decide +kernel
theorem dX8_planned_54 : decode cX8_planned 54 = .ok (.iload_n 1, 1) := by decide +kernel
theorem dX8_planned_55 : decode cX8_planned 55 = .ok (.iaload, 1) := by decide +kernel
theorem dX8_planned_56 : decode cX8_planned 56 = .ok (.goto 12, 3) := by decide +kernel
theorem dX8_planned_59 : decode cX8_planned 59 = .ok (.aload_n 0, 1) := by decide +kernel
theorem dX8_planned_60 : decode cX8_planned 60 = .ok (.getfield 40, 3) := by decide +kernel
theorem dX8_planned_63 : decode cX8_planned 63 = .ok (.getfield 224, 3) := by decide +kernel
theorem dX8_planned_66 : decode cX8_planned 66 = .ok (.iload_n 1, 1) := by decide +kernel
theorem dX8_planned_67 : decode cX8_planned 67 = .ok (.iaload, 1) := by decide +kernel
theorem dX8_planned_68 : decode cX8_planned 68 = .ok (.ireturn, 1) := by decide +kernel
theorem dX8_counter_0 : decode cX8_counter 0 = .ok (.bipush (-4), 2) := by decide +kernel
theorem dX8_counter_2 : decode cX8_counter 2 = .ok (.istore_n 1, 1) := by decide +kernel
theorem dX8_counter_3 : decode cX8_counter 3 = .ok (.iconst 0, 1) := by decide +kernel
theorem dX8_counter_4 : decode cX8_counter 4 = .ok (.istore_n 2, 1) := by decide +kernel
theorem dX8_counter_5 : decode cX8_counter 5 = .ok (.iconst 0, 1) := by decide +kernel
theorem dX8_counter_6 : decode cX8_counter 6 = .ok (.istore_n 3, 1) := by decide +kernel
theorem dX8_counter_7 : decode cX8_counter 7 = .ok (.iload_n 3, 1) := by decide +kernel
theorem dX8_counter_8 : decode cX8_counter 8 = .ok (.aload_n 0, 1) := by decide +kernel
theorem dX8_counter_9 : decode cX8_counter 9 = .ok (.getfield 10, 3) := by decide +kernel
theorem dX8_counter_12 : decode cX8_counter 12 = .ok (.getfield 59, 3) := by decide +kernel
theorem dX8_counter_15 : decode cX8_counter 15 = .ok (.getfield 63, 3) := by decide +kernel
theorem dX8_counter_18 : decode cX8_counter 18 = .ok (.if_icmp .ge 46, 3) := by decide +kernel
theorem dX8_counter_21 : decode cX8_counter 21 = .ok (.aload_n 0, 1) := by decide +kernel
theorem dX8_counter_22 : decode cX8_counter 22 = .ok (.getfield 10, 3) := by decide +kernel
theorem dX8_counter_25 : decode cX8_counter 25 = .ok (.getfield 95, 3) := by decide +kernel
theorem dX8_counter_28 : decode cX8_counter 28 = .ok (.iload_n 3, 1) := by decide +kernel
theorem dX8_counter_29 : decode cX8_counter 29 = .ok (.aload_n 0, 1) := by decide +kernel
theorem dX8_counter_30 : decode cX8_counter 30 = .ok (.getfield 10, 3) := by decide +kernel
theorem dX8_counter_33 : decode cX8_counter 33 = .ok (.getfield 59, 3) := by decide +kernel
theorem dX8_counter_36 : decode cX8_counter 36 = .ok (.invokevirtual 227, 3) := by decide +kernel
theorem dX8_counter_39 : decode cX8_counter 39 = .ok (.istore 4, 2) := by decide +kernel
theorem dX8_counter_41 : decode cX8_counter 41 = .ok (.iload_n 1, 1) := by decide +kernel
theorem dX8_counter_42 : decode cX8_counter 42 = .ok (.bipush (-4), 2) := by decide +kernel
theorem dX8_counter_44 : decode cX8_counter 44 = .ok (.if_icmp .eq 9, 3) := by decide +kernel
theorem dX8_counter_47 : decode cX8_counter 47 = .ok (.iload 4, 2) := by decide +kernel
theorem dX8_counter_49 : decode cX8_counter 49 = .ok (.iload_n 2, 1) := by decide +kernel
theorem dX8_counter_50 : decode cX8_counter 50 = .ok (.if_icmp .ge 8, 3) := by decide +kernel
theorem dX8_counter_53 : decode cX8_counter 53 = .ok (.iload_n 3, 1) := by decide +kernel
theorem dX8_counter_54 : decode cX8_counter 54 = .ok (.istore_n 1, 1) := by decide +kernel
theorem dX8_counter_55 : decode cX8_counter 55 = .ok (.iload 4, 2) := by decide +kernel
theorem dX8_counter_57 : decode cX8_counter 57 = .ok (.istore_n 2, 1) := by decide +kernel
theorem dX8_counter_58 : decode cX8_counter 58 = .ok (.iinc 3 1, 3) := by decide +kernel
theorem dX8_counter_61 : decode cX8_counter 61 = .ok (.goto (-54), 3) := by decide +kernel
theorem dX8_counter_64 : decode cX8_counter 64 = .ok (.iload_n 1, 1) := by decide +kernel
theorem dX8_counter_65 : decode cX8_counter 65 = .ok (.ireturn, 1) := by decide +kernel
theorem dX8_undo_0 : decode cX8_undo 0 = .ok (.aload_n 0, 1) := by decide +kernel
theorem dX8_undo_1 : decode cX8_undo 1 = .ok (.getfield 19, 3) := by decide +kernel
theorem dX8_undo_4 : decode cX8_undo 4 = .ok (.getfield 180, 3) := by decide +kernel
theorem dX8_undo_7 : decode cX8_undo 7 = .ok (.ifCond .ne 6, 3) := by decide +kernel
theorem dX8_undo_10 : decode cX8_undo 10 = .ok (.bipush (-2), 2) := by decide +kernel
theorem dX8_undo_12 : decode cX8_undo 12 = .ok (.ireturn, 1) := by decide +kernel
theorem dX8_undo_13 : decode cX8_undo 13 = .ok (.aload_n 0, 1) := by decide +kernel
theorem dX8_undo_14 : decode cX8_undo 14 = .ok (.getfield 19, 3) := by decide +kernel
theorem dX8_undo_17 : decode cX8_undo 17 = .ok (.aload_n 0, 1) := by decide +kernel
theorem dX8_undo_18 : decode cX8_undo 18 = .ok (.getfield 10, 3) := by decide +kernel
theorem dX8_undo_21 : decode cX8_undo 21 = .ok (.invokevirtual 230, 3) := by decide +kernel
theorem dX8_undo_24 : decode cX8_undo 24 = .ok (.aload_n 0, 1) := by decide +kernel
theorem dX8_undo_25 : decode cX8_undo 25 = .ok (.iconst 1, 1) := by decide +kernel
theorem dX8_undo_26 : decode cX8_undo 26 = .ok (.putfield 51, 3) := by decide +kernel
theorem dX8_undo_29 : decode cX8_undo 29 = .ok (.aload_n 0, 1) := by decide +kernel
theorem dX8_undo_30 : decode cX8_undo 30 = .ok (.getfield 19, 3) := by decide +kernel
theorem dX8_undo_33 : decode cX8_undo 33 = .ok (.getfield 180, 3) := by decide +kernel
theorem dX8_undo_36 : decode cX8_undo 36 = .ok (.ireturn, 1) := by decide +kernel
theorem dX8_type_0 : decode cX8_type 0 = .ok (.iload_n 1, 1) := by decide +kernel
theorem dX8_type_1 : decode cX8_type 1 = .ok (.bipush 32, 2) := by decide +kernel
theorem dX8_type_3 : decode cX8_type 3 = .ok (.bipush 126, 2) := by decide +kernel
theorem dX8_type_5 : decode cX8_type 5 = .ok (.invokestatic 55, 3) := by decide +kernel
theorem dX8_type_8 : decode cX8_type 8 = .ok (.ifCond .ne 5, 3) := by decide +kernel
theorem dX8_type_11 : decode cX8_type 11 = .ok (.iconst (-1), 1) := by decide +kernel
theorem dX8_type_12 : decode cX8_type 12 = .ok (.ireturn, 1) := by decide +kernel
theorem dX8_type_13 : decode cX8_type 13 = .ok (.aload_n 0, 1) := by decide +kernel
theorem dX8_type_14 : decode cX8_type 14 = .ok (.getfield 47, 3) := by decide +kernel
theorem dX8_type_17 : decode cX8_type 17 = .ok (.getfield 181, 3) := by decide +kernel
theorem dX8_type_20 : decode cX8_type 20 = .ok (.bipush 80, 2) := by decide +kernel
theorem dX8_type_22 : decode cX8_type 22 = .ok (.if_icmp .lt 6, 3) := by decide +kernel
theorem dX8_type_25 : decode cX8_type 25 = .ok (.bipush (-3), 2) := by decide +kernel
theorem dX8_type_27 : decode cX8_type 27 = .ok (.ireturn, 1) := by decide +kernel
theorem dX8_type_28 : decode cX8_type 28 = .ok (.aload_n 0, 1) := by decide +kernel
theorem dX8_type_29 : decode cX8_type 29 = .ok (.getfield 47, 3) := by decide +kernel
theorem dX8_type_32 : decode cX8_type 32 = .ok (.iload_n 1, 1) := by decide +kernel
theorem dX8_type_33 : decode cX8_type 33 = .ok (.i2c, 1) := by decide +kernel
theorem dX8_type_34 : decode cX8_type 34 = .ok (.invokevirtual 233, 3) := by decide +kernel
theorem dX8_type_37 : decode cX8_type 37 = .ok (.ireturn, 1) := by decide +kernel
theorem dX8_clearText_0 : decode cX8_clearText 0 = .ok (.aload_n 0, 1) := by decide +kernel
theorem dX8_clearText_1 : decode cX8_clearText 1 = .ok (.getfield 47, 3) := by decide +kernel
theorem dX8_clearText_4 : decode cX8_clearText 4 = .ok (.getfield 181, 3) := by decide +kernel
theorem dX8_clearText_7 : decode cX8_clearText 7 = .ok (.istore_n 1, 1) := by decide +kernel
theorem dX8_clearText_8 : decode cX8_clearText 8 = .ok (.aload_n 0, 1) := by decide +kernel
theorem dX8_clearText_9 : decode cX8_clearText 9 = .ok (.getfield 47, 3) := by decide +kernel
theorem dX8_clearText_12 : decode cX8_clearText 12 = .ok (.iconst 0, 1) := by decide +kernel
theorem dX8_clearText_13 : decode cX8_clearText 13 = .ok (.putfield 181, 3) := by decide +kernel
theorem dX8_clearText_16 : decode cX8_clearText 16 = .ok (.iload_n 1, 1) := by decide +kernel
theorem dX8_clearText_17 : decode cX8_clearText 17 = .ok (.ireturn, 1) := by decide +kernel
theorem dX8_fault_0 : decode cX8_fault 0 = .ok (.iload_n 1, 1) := by decide +kernel
theorem dX8_fault_1 : decode cX8_fault 1 = .ok (.iconst 0, 1) := by decide +kernel
theorem dX8_fault_2 : decode cX8_fault 2 = .ok (.iconst 1, 1) := by decide +kernel
theorem dX8_fault_3 : decode cX8_fault 3 = .ok (.invokestatic 55, 3) := by decide +kernel
theorem dX8_fault_6 : decode cX8_fault 6 = .ok (.ifCond .ne 5, 3) := by decide +kernel
theorem dX8_fault_9 : decode cX8_fault 9 = .ok (.iconst (-1), 1) := by decide +kernel
theorem dX8_fault_10 : decode cX8_fault 10 = .ok (.ireturn, 1) := by decide +kernel
theorem dX8_fault_11 : decode cX8_fault 11 = .ok (.aload_n 0, 1) := by decide +kernel
theorem dX8_fault_12 : decode cX8_fault 12 = .ok (.getfield 47, 3) := by decide +kernel
theorem dX8_fault_15 : decode cX8_fault 15 = .ok (.aload_n 0, 1) := by decide +kernel
theorem dX8_fault_16 : decode cX8_fault 16 = .ok (.getfield 10, 3) := by decide +kernel
theorem dX8_fault_19 : decode cX8_fault 19 = .ok (.getfield 59, 3) := by decide +kernel
theorem dX8_fault_22 : decode cX8_fault 22 = .ok (.getfield 63, 3) := by decide +kernel
theorem dX8_fault_25 : decode cX8_fault 25 = .ok (.invokevirtual 236, 3) := by decide +kernel
theorem dX8_fault_28 : decode cX8_fault 28 = .ok (.aload_n 0, 1) := by decide +kernel
theorem dX8_fault_29 : decode cX8_fault 29 = .ok (.getfield 47, 3) := by decide +kernel
theorem dX8_fault_32 : decode cX8_fault 32 = .ok (.invokevirtual 239, 3) := by decide +kernel
theorem dX8_fault_35 : decode cX8_fault 35 = .ok (.ifCond .ne 6, 3) := by decide +kernel
theorem dX8_fault_38 : decode cX8_fault 38 = .ok (.bipush (-4), 2) := by decide +kernel
theorem dX8_fault_40 : decode cX8_fault 40 = .ok (.ireturn, 1) := by decide +kernel
theorem dX8_fault_41 : decode cX8_fault 41 = .ok (.iload_n 1, 1) := by decide +kernel
theorem dX8_fault_42 : decode cX8_fault 42 = .ok (.ifCond .ne 13, 3) := by decide +kernel
theorem dX8_fault_45 : decode cX8_fault 45 = .ok (.aload_n 0, 1) := by decide +kernel
theorem dX8_fault_46 : decode cX8_fault 46 = .ok (.getfield 47, 3) := by decide +kernel
theorem dX8_fault_49 : decode cX8_fault 49 = .ok (.getfield 243, 3) := by decide +kernel
theorem dX8_fault_52 : decode cX8_fault 52 = .ok (.goto 10, 3) := by decide +kernel
theorem dX8_fault_55 : decode cX8_fault 55 = .ok (.aload_n 0, 1) := by decide +kernel
theorem dX8_fault_56 : decode cX8_fault 56 = .ok (.getfield 47, 3) := by decide +kernel
theorem dX8_fault_59 : decode cX8_fault 59 = .ok (.getfield 246, 3) := by decide +kernel
theorem dX8_fault_62 : decode cX8_fault 62 = .ok (.ireturn, 1) := by decide +kernel
theorem dX8_read_0 : decode cX8_read 0 = .ok (.aload_n 0, 1) := by decide +kernel
theorem dX8_read_1 : decode cX8_read 1 = .ok (.getfield 47, 3) := by decide +kernel
theorem dX8_read_4 : decode cX8_read 4 = .ok (.aload_n 0, 1) := by decide +kernel
theorem dX8_read_5 : decode cX8_read 5 = .ok (.getfield 10, 3) := by decide +kernel
theorem dX8_read_8 : decode cX8_read 8 = .ok (.getfield 59, 3) := by decide +kernel
theorem dX8_read_11 : decode cX8_read 11 = .ok (.getfield 63, 3) := by decide +kernel
theorem dX8_read_14 : decode cX8_read 14 = .ok (.invokevirtual 236, 3) := by decide +kernel
theorem dX8_read_17 : decode cX8_read 17 = .ok (.aload_n 0, 1) := by decide +kernel
theorem dX8_read_18 : decode cX8_read 18 = .ok (.getfield 47, 3) := by decide +kernel
theorem dX8_read_21 : decode cX8_read 21 = .ok (.invokevirtual 239, 3) := by decide +kernel
theorem dX8_read_24 : decode cX8_read 24 = .ok (.ifCond .eq 6, 3) := by decide +kernel
theorem dX8_read_27 : decode cX8_read 27 = .ok (.bipush (-2), 2) := by decide +kernel
theorem dX8_read_29 : decode cX8_read 29 = .ok (.ireturn, 1) := by decide +kernel
theorem dX8_read_30 : decode cX8_read 30 = .ok (.aload_n 0, 1) := by decide +kernel
theorem dX8_read_31 : decode cX8_read 31 = .ok (.getfield 19, 3) := by decide +kernel
theorem dX8_read_34 : decode cX8_read 34 = .ok (.aload_n 0, 1) := by decide +kernel
theorem dX8_read_35 : decode cX8_read 35 = .ok (.getfield 10, 3) := by decide +kernel
theorem dX8_read_38 : decode cX8_read 38 = .ok (.invokevirtual 69, 3) := by decide +kernel
theorem dX8_read_41 : decode cX8_read 41 = .ok (.aload_n 0, 1) := by decide +kernel
theorem dX8_read_42 : decode cX8_read 42 = .ok (.iconst 1, 1) := by decide +kernel
theorem dX8_read_43 : decode cX8_read 43 = .ok (.putfield 51, 3) := by decide +kernel
theorem dX8_read_46 : decode cX8_read 46 = .ok (.aload_n 0, 1) := by decide +kernel
theorem dX8_read_47 : decode cX8_read 47 = .ok (.getfield 47, 3) := by decide +kernel
theorem dX8_read_50 : decode cX8_read 50 = .ok (.aload_n 0, 1) := by decide +kernel
theorem dX8_read_51 : decode cX8_read 51 = .ok (.getfield 10, 3) := by decide +kernel
theorem dX8_read_54 : decode cX8_read 54 = .ok (.getfield 101, 3) := by decide +kernel
theorem dX8_read_57 : decode cX8_read 57 = .ok (.invokevirtual 249, 3) := by decide +kernel
theorem dX8_read_60 : decode cX8_read 60 = .ok (.ireturn, 1) := by decide +kernel
theorem dX8_within_0 : decode cX8_within 0 = .ok (.iload_n 0, 1) := by decide +kernel
theorem dX8_within_1 : decode cX8_within 1 = .ok (.iload_n 1, 1) := by decide +kernel
theorem dX8_within_2 : decode cX8_within 2 = .ok (.if_icmp .lt 12, 3) := by decide +kernel
theorem dX8_within_5 : decode cX8_within 5 = .ok (.iload_n 0, 1) := by decide +kernel
theorem dX8_within_6 : decode cX8_within 6 = .ok (.iload_n 2, 1) := by decide +kernel
theorem dX8_within_7 : decode cX8_within 7 = .ok (.if_icmp .gt 7, 3) := by decide +kernel
theorem dX8_within_10 : decode cX8_within 10 = .ok (.iconst 1, 1) := by decide +kernel
theorem dX8_within_11 : decode cX8_within 11 = .ok (.goto 4, 3) := by decide +kernel
theorem dX8_within_14 : decode cX8_within 14 = .ok (.iconst 0, 1) := by decide +kernel
theorem dX8_within_15 : decode cX8_within 15 = .ok (.ireturn, 1) := by decide +kernel
theorem dX8_placeOf_0 : decode cX8_placeOf 0 = .ok (.iload_n 0, 1) := by decide +kernel
theorem dX8_placeOf_1 : decode cX8_placeOf 1 = .ok (.iconst 3, 1) := by decide +kernel
theorem dX8_placeOf_2 : decode cX8_placeOf 2 = .ok (.imul, 1) := by decide +kernel
theorem dX8_placeOf_3 : decode cX8_placeOf 3 = .ok (.iload_n 1, 1) := by decide +kernel
theorem dX8_placeOf_4 : decode cX8_placeOf 4 = .ok (.iadd, 1) := by decide +kernel
theorem dX8_placeOf_5 : decode cX8_placeOf 5 = .ok (.ireturn, 1) := by decide +kernel
theorem dX8_isField_0 : decode cX8_isField 0 = .ok (.iload_n 0, 1) := by decide +kernel
theorem dX8_isField_1 : decode cX8_isField 1 = .ok (.iconst 0, 1) := by decide +kernel
theorem dX8_isField_2 : decode cX8_isField 2 = .ok (.bipush 6, 2) := by decide +kernel
theorem dX8_isField_4 : decode cX8_isField 4 = .ok (.invokestatic 55, 3) := by decide +kernel
theorem dX8_isField_7 : decode cX8_isField 7 = .ok (.ireturn, 1) := by decide +kernel
theorem dX8_isFrontField_0 : decode cX8_isFrontField 0 = .ok (.iload_n 0, 1) := by decide +kernel
theorem dX8_isFrontField_1 : decode cX8_isFrontField 1 = .ok (.iconst 0, 1) := by decide +kernel
theorem dX8_isFrontField_2 : decode cX8_isFrontField 2 = .ok (.iconst 5, 1) := by decide +kernel
theorem dX8_isFrontField_3 : decode cX8_isFrontField 3 = .ok (.invokestatic 55, 3) := by decide +kernel
theorem dX8_isFrontField_6 : decode cX8_isFrontField 6 = .ok (.ireturn, 1) := by decide +kernel
theorem dX8_isColor_0 : decode cX8_isColor 0 = .ok (.iload_n 1, 1) := by decide +kernel
theorem dX8_isColor_1 : decode cX8_isColor 1 = .ok (.iconst 0, 1) := by decide +kernel
theorem dX8_isColor_2 : decode cX8_isColor 2 = .ok (.aload_n 0, 1) := by decide +kernel
theorem dX8_isColor_3 : decode cX8_isColor 3 = .ok (.getfield 10, 3) := by decide +kernel
theorem dX8_isColor_6 : decode cX8_isColor 6 = .ok (.getfield 59, 3) := by decide +kernel
theorem dX8_isColor_9 : decode cX8_isColor 9 = .ok (.getfield 63, 3) := by decide +kernel
theorem dX8_isColor_12 : decode cX8_isColor 12 = .ok (.iconst 1, 1) := by decide +kernel
theorem dX8_isColor_13 : decode cX8_isColor 13 = .ok (.isub, 1) := by decide +kernel
theorem dX8_isColor_14 : decode cX8_isColor 14 = .ok (.invokestatic 55, 3) := by decide +kernel
theorem dX8_isColor_17 : decode cX8_isColor 17 = .ok (.ireturn, 1) := by decide +kernel
theorem dX8_tryHeat_0 : decode cX8_tryHeat 0 = .ok (.aload_n 0, 1) := by decide +kernel
theorem dX8_tryHeat_1 : decode cX8_tryHeat 1 = .ok (.getfield 33, 3) := by decide +kernel
theorem dX8_tryHeat_4 : decode cX8_tryHeat 4 = .ok (.aload_n 0, 1) := by decide +kernel
theorem dX8_tryHeat_5 : decode cX8_tryHeat 5 = .ok (.getfield 10, 3) := by decide +kernel
theorem dX8_tryHeat_8 : decode cX8_tryHeat 8 = .ok (.getfield 95, 3) := by decide +kernel
theorem dX8_tryHeat_11 : decode cX8_tryHeat 11 = .ok (.invokevirtual 253, 3) := by decide +kernel
theorem dX8_tryHeat_14 : decode cX8_tryHeat 14 = .ok (.aload_n 0, 1) := by decide +kernel
theorem dX8_tryHeat_15 : decode cX8_tryHeat 15 = .ok (.getfield 26, 3) := by decide +kernel
theorem dX8_tryHeat_18 : decode cX8_tryHeat 18 = .ok (.aload_n 0, 1) := by decide +kernel
theorem dX8_tryHeat_19 : decode cX8_tryHeat 19 = .ok (.getfield 10, 3) := by decide +kernel
theorem dX8_tryHeat_22 : decode cX8_tryHeat 22 = .ok (.aload_n 0, 1) := by decide +kernel
theorem dX8_tryHeat_23 : decode cX8_tryHeat 23 = .ok (.getfield 33, 3) := by decide +kernel
theorem dX8_tryHeat_26 : decode cX8_tryHeat 26 = .ok (.iload_n 1, 1) := by decide +kernel
theorem dX8_tryHeat_27 : decode cX8_tryHeat 27 = .ok (.aload_n 0, 1) := by decide +kernel
theorem dX8_tryHeat_28 : decode cX8_tryHeat 28 = .ok (.getfield 10, 3) := by decide +kernel
theorem dX8_tryHeat_31 : decode cX8_tryHeat 31 = .ok (.getfield 168, 3) := by decide +kernel
theorem dX8_tryHeat_34 : decode cX8_tryHeat 34 = .ok (.iconst 0, 1) := by decide +kernel
theorem dX8_tryHeat_35 : decode cX8_tryHeat 35 = .ok (.iaload, 1) := by decide +kernel
theorem dX8_tryHeat_36 : decode cX8_tryHeat 36 = .ok (.invokevirtual 184, 3) := by decide +kernel
theorem dX8_tryHeat_39 : decode cX8_tryHeat 39 = .ok (.return_, 1) := by decide +kernel
theorem dX8_bringPlanUpToDate_0 : decode cX8_bringPlanUpToDate 0 = .ok (.aload_n 0, 1) := by decide +kernel
theorem dX8_bringPlanUpToDate_1 : decode cX8_bringPlanUpToDate 1 = .ok (.getfield 51, 3) := by decide +kernel
theorem dX8_bringPlanUpToDate_4 : decode cX8_bringPlanUpToDate 4 = .ok (.ifCond .eq 29, 3) := by decide +kernel
theorem dX8_bringPlanUpToDate_7 : decode cX8_bringPlanUpToDate 7 = .ok (.aload_n 0, 1) := by decide +kernel
theorem dX8_bringPlanUpToDate_8 : decode cX8_bringPlanUpToDate 8 = .ok (.getfield 40, 3) := by decide +kernel
theorem dX8_bringPlanUpToDate_11 : decode cX8_bringPlanUpToDate 11 = .ok (.aload_n 0, 1) := by decide +kernel
theorem dX8_bringPlanUpToDate_12 : decode cX8_bringPlanUpToDate 12 = .ok (.getfield 10, 3) := by decide +kernel
theorem dX8_bringPlanUpToDate_15 : decode cX8_bringPlanUpToDate 15 = .ok (.getfield 101, 3) := by decide +kernel
theorem dX8_bringPlanUpToDate_18 : decode cX8_bringPlanUpToDate 18 = .ok (.aload_n 0, 1) := by decide +kernel
theorem dX8_bringPlanUpToDate_19 : decode cX8_bringPlanUpToDate 19 = .ok (.getfield 10, 3) := by decide +kernel
theorem dX8_bringPlanUpToDate_22 : decode cX8_bringPlanUpToDate 22 = .ok (.getfield 59, 3) := by decide +kernel
theorem dX8_bringPlanUpToDate_25 : decode cX8_bringPlanUpToDate 25 = .ok (.invokevirtual 257, 3) := by decide +kernel
theorem dX8_bringPlanUpToDate_28 : decode cX8_bringPlanUpToDate 28 = .ok (.aload_n 0, 1) := by decide +kernel
theorem dX8_bringPlanUpToDate_29 : decode cX8_bringPlanUpToDate 29 = .ok (.iconst 0, 1) := by decide +kernel
theorem dX8_bringPlanUpToDate_30 : decode cX8_bringPlanUpToDate 30 = .ok (.putfield 51, 3) := by decide +kernel
theorem dX8_bringPlanUpToDate_33 : decode cX8_bringPlanUpToDate 33 = .ok (.return_, 1) := by decide +kernel
theorem dX8_copyRow_0 : decode cX8_copyRow 0 = .ok (.aload_n 0, 1) := by decide +kernel
theorem dX8_copyRow_1 : decode cX8_copyRow 1 = .ok (.iconst 0, 1) := by decide +kernel
theorem dX8_copyRow_2 : decode cX8_copyRow 2 = .ok (.aload_n 1, 1) := by decide +kernel
theorem dX8_copyRow_3 : decode cX8_copyRow 3 = .ok (.iconst 0, 1) := by decide +kernel
theorem dX8_copyRow_4 : decode cX8_copyRow 4 = .ok (.aload_n 0, 1) := by decide +kernel
theorem dX8_copyRow_5 : decode cX8_copyRow 5 = .ok (.arraylength, 1) := by decide +kernel
theorem dX8_copyRow_6 : decode cX8_copyRow 6 = .ok (.aload_n 1, 1) := by decide +kernel
theorem dX8_copyRow_7 : decode cX8_copyRow 7 = .ok (.arraylength, 1) := by decide +kernel
theorem dX8_copyRow_8 : decode cX8_copyRow 8 = .ok (.invokestatic 261, 3) := by decide +kernel
theorem dX8_copyRow_11 : decode cX8_copyRow 11 = .ok (.invokestatic 266, 3) := by decide +kernel
theorem dX8_copyRow_14 : decode cX8_copyRow 14 = .ok (.return_, 1) := by decide +kernel
theorem dX9_init_0 : decode cX9_init 0 = .ok (.aload_n 0, 1) := by decide +kernel
theorem dX9_init_1 : decode cX9_init 1 = .ok (.invokespecial 1, 3) := by decide +kernel
theorem dX9_init_4 : decode cX9_init 4 = .ok (.aload_n 0, 1) := by decide +kernel
theorem dX9_init_5 : decode cX9_init 5 = .ok (.sipush 150, 3) := by decide +kernel
theorem dX9_init_8 : decode cX9_init 8 = .ok (.newarray .int, 2) := by decide +kernel
theorem dX9_init_10 : decode cX9_init 10 = .ok (.putfield 7, 3) := by decide +kernel
theorem dX9_init_13 : decode cX9_init 13 = .ok (.aload_n 0, 1) := by decide +kernel
theorem dX9_init_14 : decode cX9_init 14 = .ok (.sipush 600, 3) := by decide +kernel
theorem dX9_init_17 : decode cX9_init 17 = .ok (.newarray .int, 2) := by decide +kernel
theorem dX9_init_19 : decode cX9_init 19 = .ok (.putfield 13, 3) := by decide +kernel
theorem dX9_init_22 : decode cX9_init 22 = .ok (.aload_n 0, 1) := by decide +kernel
theorem dX9_init_23 : decode cX9_init 23 = .ok (.sipush 150, 3) := by decide +kernel
theorem dX9_init_26 : decode cX9_init 26 = .ok (.newarray .int, 2) := by decide +kernel
theorem dX9_init_28 : decode cX9_init 28 = .ok (.putfield 16, 3) := by decide +kernel
theorem dX9_init_31 : decode cX9_init 31 = .ok (.aload_n 0, 1) := by decide +kernel
theorem dX9_init_32 : decode cX9_init 32 = .ok (.bipush 80, 2) := by decide +kernel
theorem dX9_init_34 : decode cX9_init 34 = .ok (.newarray .int, 2) := by decide +kernel
theorem dX9_init_36 : decode cX9_init 36 = .ok (.putfield 19, 3) := by decide +kernel
theorem dX9_init_39 : decode cX9_init 39 = .ok (.aload_n 0, 1) := by decide +kernel
theorem dX9_init_40 : decode cX9_init 40 = .ok (.iconst 5, 1) := by decide +kernel
theorem dX9_init_41 : decode cX9_init 41 = .ok (.newarray .int, 2) := by decide +kernel
theorem dX9_init_43 : decode cX9_init 43 = .ok (.putfield 22, 3) := by decide +kernel
theorem dX9_init_46 : decode cX9_init 46 = .ok (.aload_n 0, 1) := by decide +kernel
theorem dX9_init_47 : decode cX9_init 47 = .ok (.sipush 4096, 3) := by decide +kernel
theorem dX9_init_50 : decode cX9_init 50 = .ok (.newarray .int, 2) := by decide +kernel
theorem dX9_init_52 : decode cX9_init 52 = .ok (.putfield 25, 3) := by decide +kernel
theorem dX9_init_55 : decode cX9_init 55 = .ok (.aload_n 0, 1) := by decide +kernel
theorem dX9_init_56 : decode cX9_init 56 = .ok (.getfield 7, 3) := by decide +kernel
theorem dX9_init_59 : decode cX9_init 59 = .ok (.bipush 114, 2) := by decide +kernel
theorem dX9_init_61 : decode cX9_init 61 = .ok (.iconst 3, 1) := by decide +kernel
theorem dX9_init_62 : decode cX9_init 62 = .ok (.iastore, 1) := by decide +kernel
theorem dX9_init_63 : decode cX9_init 63 = .ok (.aload_n 0, 1) := by decide +kernel
theorem dX9_init_64 : decode cX9_init 64 = .ok (.getfield 7, 3) := by decide +kernel
theorem dX9_init_67 : decode cX9_init 67 = .ok (.bipush 115, 2) := by decide +kernel
theorem dX9_init_69 : decode cX9_init 69 = .ok (.iconst 2, 1) := by decide +kernel
theorem dX9_init_70 : decode cX9_init 70 = .ok (.iastore, 1) := by decide +kernel
theorem dX9_init_71 : decode cX9_init 71 = .ok (.aload_n 0, 1) := by decide +kernel
theorem dX9_init_72 : decode cX9_init 72 = .ok (.getfield 7, 3) := by decide +kernel
theorem dX9_init_75 : decode cX9_init 75 = .ok (.bipush 116, 2) := by decide +kernel
theorem dX9_init_77 : decode cX9_init 77 = .ok (.bipush 120, 2) := by decide +kernel
theorem dX9_init_79 : decode cX9_init 79 = .ok (.iastore, 1) := by decide +kernel
theorem dX9_init_80 : decode cX9_init 80 = .ok (.return_, 1) := by decide +kernel
theorem dX9_in_0 : decode cX9_in 0 = .ok (.iload_n 0, 1) := by decide +kernel
theorem dX9_in_1 : decode cX9_in 1 = .ok (.iload_n 1, 1) := by decide +kernel
theorem dX9_in_2 : decode cX9_in 2 = .ok (.if_icmp .lt 12, 3) := by decide +kernel
theorem dX9_in_5 : decode cX9_in 5 = .ok (.iload_n 0, 1) := by decide +kernel
theorem dX9_in_6 : decode cX9_in 6 = .ok (.iload_n 2, 1) := by decide +kernel
theorem dX9_in_7 : decode cX9_in 7 = .ok (.if_icmp .gt 7, 3) := by decide +kernel
theorem dX9_in_10 : decode cX9_in 10 = .ok (.iconst 1, 1) := by decide +kernel
theorem dX9_in_11 : decode cX9_in 11 = .ok (.goto 4, 3) := by decide +kernel
theorem dX9_in_14 : decode cX9_in 14 = .ok (.iconst 0, 1) := by decide +kernel
theorem dX9_in_15 : decode cX9_in 15 = .ok (.ireturn, 1) := by decide +kernel
theorem dX9_records_0 : decode cX9_records 0 = .ok (.aload_n 0, 1) := by decide +kernel
theorem dX9_records_1 : decode cX9_records 1 = .ok (.getfield 28, 3) := by decide +kernel
theorem dX9_records_4 : decode cX9_records 4 = .ok (.iconst 4, 1) := by decide +kernel
theorem dX9_records_5 : decode cX9_records 5 = .ok (.if_icmp .ne 44, 3) := by decide +kernel
theorem dX9_records_8 : decode cX9_records 8 = .ok (.iconst 0, 1) := by decide +kernel
theorem dX9_records_9 : decode cX9_records 9 = .ok (.istore_n 1, 1) := by decide +kernel
theorem dX9_records_10 : decode cX9_records 10 = .ok (.iload_n 1, 1) := by decide +kernel
theorem dX9_records_11 : decode cX9_records 11 = .ok (.sipush 450, 3) := by decide +kernel
theorem dX9_records_14 : decode cX9_records 14 = .ok (.if_icmp .ge 25, 3) := by decide +kernel
theorem dX9_records_17 : decode cX9_records 17 = .ok (.aload_n 0, 1) := by decide +kernel
theorem dX9_records_18 : decode cX9_records 18 = .ok (.getfield 13, 3) := by decide +kernel
theorem dX9_records_21 : decode cX9_records 21 = .ok (.iload_n 1, 1) := by decide +kernel
theorem dX9_records_22 : decode cX9_records 22 = .ok (.aload_n 0, 1) := by decide +kernel
theorem dX9_records_23 : decode cX9_records 23 = .ok (.getfield 13, 3) := by decide +kernel
theorem dX9_records_26 : decode cX9_records 26 = .ok (.iload_n 1, 1) := by decide +kernel
theorem dX9_records_27 : decode cX9_records 27 = .ok (.sipush 150, 3) := by decide +kernel
theorem dX9_records_30 : decode cX9_records 30 = .ok (.iadd, 1) := by decide +kernel
theorem dX9_records_31 : decode cX9_records 31 = .ok (.iaload, 1) := by decide +kernel
theorem dX9_records_32 : decode cX9_records 32 = .ok (.iastore, 1) := by decide +kernel
theorem dX9_records_33 : decode cX9_records 33 = .ok (.iinc 1 1, 3) := by decide +kernel
theorem dX9_records_36 : decode cX9_records 36 = .ok (.goto (-26), 3) := by decide +kernel
theorem dX9_records_39 : decode cX9_records 39 = .ok (.aload_n 0, 1) := by decide +kernel
theorem dX9_records_40 : decode cX9_records 40 = .ok (.dup, 1) := by decide +kernel
theorem dX9_records_41 : decode cX9_records 41 = .ok (.getfield 28, 3) := by decide +kernel
theorem dX9_records_44 : decode cX9_records 44 = .ok (.iconst 1, 1) := by decide +kernel
theorem dX9_records_45 : decode cX9_records 45 = .ok (.isub, 1) := by decide +kernel
theorem dX9_records_46 : decode cX9_records 46 = .ok (.putfield 28, 3) := by decide +kernel
theorem dX9_records_49 : decode cX9_records 49 = .ok (.iconst 0, 1) := by decide +kernel
theorem dX9_records_50 : decode cX9_records 50 = .ok (.istore_n 1, 1) := by decide +kernel
theorem dX9_records_51 : decode cX9_records 51 = .ok (.iload_n 1, 1) := by decide +kernel
theorem dX9_records_52 : decode cX9_records 52 = .ok (.sipush 150, 3) := by decide +kernel
theorem dX9_records_55 : decode cX9_records 55 = .ok (.if_icmp .ge 30, 3) := by decide +kernel
theorem dX9_records_58 : decode cX9_records 58 = .ok (.aload_n 0, 1) := by decide +kernel
theorem dX9_records_59 : decode cX9_records 59 = .ok (.getfield 13, 3) := by decide +kernel
theorem dX9_records_62 : decode cX9_records 62 = .ok (.sipush 150, 3) := by decide +kernel
theorem dX9_records_65 : decode cX9_records 65 = .ok (.aload_n 0, 1) := by decide +kernel
theorem dX9_records_66 : decode cX9_records 66 = .ok (.getfield 28, 3) := by decide +kernel
theorem dX9_records_69 : decode cX9_records 69 = .ok (.imul, 1) := by decide +kernel
theorem dX9_records_70 : decode cX9_records 70 = .ok (.iload_n 1, 1) := by decide +kernel
theorem dX9_records_71 : decode cX9_records 71 = .ok (.iadd, 1) := by decide +kernel
theorem dX9_records_72 : decode cX9_records 72 = .ok (.aload_n 0, 1) := by decide +kernel
theorem dX9_records_73 : decode cX9_records 73 = .ok (.getfield 7, 3) := by decide +kernel
theorem dX9_records_76 : decode cX9_records 76 = .ok (.iload_n 1, 1) := by decide +kernel
theorem dX9_records_77 : decode cX9_records 77 = .ok (.iaload, 1) := by decide +kernel
theorem dX9_records_78 : decode cX9_records 78 = .ok (.iastore, 1) := by decide +kernel
theorem dX9_records_79 : decode cX9_records 79 = .ok (.iinc 1 1, 3) := by decide +kernel
theorem dX9_records_82 : decode cX9_records 82 = .ok (.goto (-31), 3) := by decide +kernel
theorem dX9_records_85 : decode cX9_records 85 = .ok (.aload_n 0, 1) := by decide +kernel
theorem dX9_records_86 : decode cX9_records 86 = .ok (.dup, 1) := by decide +kernel
theorem dX9_records_87 : decode cX9_records 87 = .ok (.getfield 28, 3) := by decide +kernel
theorem dX9_records_90 : decode cX9_records 90 = .ok (.iconst 1, 1) := by decide +kernel
theorem dX9_records_91 : decode cX9_records 91 = .ok (.iadd, 1) := by decide +kernel
theorem dX9_records_92 : decode cX9_records 92 = .ok (.putfield 28, 3) := by decide +kernel
theorem dX9_records_95 : decode cX9_records 95 = .ok (.return_, 1) := by decide +kernel
theorem dX9_undo_0 : decode cX9_undo 0 = .ok (.aload_n 0, 1) := by decide +kernel
theorem dX9_undo_1 : decode cX9_undo 1 = .ok (.getfield 28, 3) := by decide +kernel
theorem dX9_undo_4 : decode cX9_undo 4 = .ok (.ifCond .ne 6, 3) := by decide +kernel
theorem dX9_undo_7 : decode cX9_undo 7 = .ok (.bipush (-2), 2) := by decide +kernel
theorem dX9_undo_9 : decode cX9_undo 9 = .ok (.ireturn, 1) := by decide +kernel
theorem dX9_undo_10 : decode cX9_undo 10 = .ok (.aload_n 0, 1) := by decide +kernel
theorem dX9_undo_11 : decode cX9_undo 11 = .ok (.dup, 1) := by decide +kernel
theorem dX9_undo_12 : decode cX9_undo 12 = .ok (.getfield 28, 3) := by decide +kernel
theorem dX9_undo_15 : decode cX9_undo 15 = .ok (.iconst 1, 1) := by decide +kernel
theorem dX9_undo_16 : decode cX9_undo 16 = .ok (.isub, 1) := by decide +kernel
theorem dX9_undo_17 : decode cX9_undo 17 = .ok (.putfield 28, 3) := by decide +kernel
theorem dX9_undo_20 : decode cX9_undo 20 = .ok (.iconst 0, 1) := by decide +kernel
theorem dX9_undo_21 : decode cX9_undo 21 = .ok (.istore_n 1, 1) := by decide +kernel
theorem dX9_undo_22 : decode cX9_undo 22 = .ok (.iload_n 1, 1) := by decide +kernel
theorem dX9_undo_23 : decode cX9_undo 23 = .ok (.sipush 150, 3) := by decide +kernel
theorem dX9_undo_26 : decode cX9_undo 26 = .ok (.if_icmp .ge 30, 3) := by decide +kernel
theorem dX9_undo_29 : decode cX9_undo 29 = .ok (.aload_n 0, 1) := by decide +kernel
theorem dX9_undo_30 : decode cX9_undo 30 = .ok (.getfield 7, 3) := by decide +kernel
theorem dX9_undo_33 : decode cX9_undo 33 = .ok (.iload_n 1, 1) := by decide +kernel
theorem dX9_undo_34 : decode cX9_undo 34 = .ok (.aload_n 0, 1) := by decide +kernel
theorem dX9_undo_35 : decode cX9_undo 35 = .ok (.getfield 13, 3) := by decide +kernel
theorem dX9_undo_38 : decode cX9_undo 38 = .ok (.sipush 150, 3) := by decide +kernel
theorem dX9_undo_41 : decode cX9_undo 41 = .ok (.aload_n 0, 1) := by decide +kernel
theorem dX9_undo_42 : decode cX9_undo 42 = .ok (.getfield 28, 3) := by decide +kernel
theorem dX9_undo_45 : decode cX9_undo 45 = .ok (.imul, 1) := by decide +kernel
theorem dX9_undo_46 : decode cX9_undo 46 = .ok (.iload_n 1, 1) := by decide +kernel
theorem dX9_undo_47 : decode cX9_undo 47 = .ok (.iadd, 1) := by decide +kernel
theorem dX9_undo_48 : decode cX9_undo 48 = .ok (.iaload, 1) := by decide +kernel
theorem dX9_undo_49 : decode cX9_undo 49 = .ok (.iastore, 1) := by decide +kernel
theorem dX9_undo_50 : decode cX9_undo 50 = .ok (.iinc 1 1, 3) := by decide +kernel
theorem dX9_undo_53 : decode cX9_undo 53 = .ok (.goto (-31), 3) := by decide +kernel
theorem dX9_undo_56 : decode cX9_undo 56 = .ok (.aload_n 0, 1) := by decide +kernel
theorem dX9_undo_57 : decode cX9_undo 57 = .ok (.getfield 28, 3) := by decide +kernel
theorem dX9_undo_60 : decode cX9_undo 60 = .ok (.ireturn, 1) := by decide +kernel
theorem dX9_color_0 : decode cX9_color 0 = .ok (.iload_n 1, 1) := by decide +kernel
theorem dX9_color_1 : decode cX9_color 1 = .ok (.sipush 600, 3) := by decide +kernel
theorem dX9_color_4 : decode cX9_color 4 = .ok (.sipush 900, 3) := by decide +kernel
theorem dX9_color_7 : decode cX9_color 7 = .ok (.invokestatic 32, 3) := by decide +kernel
theorem dX9_color_10 : decode cX9_color 10 = .ok (.ifCond .eq 31, 3) := by decide +kernel
theorem dX9_color_13 : decode cX9_color 13 = .ok (.iload_n 2, 1) := by decide +kernel
theorem dX9_color_14 : decode cX9_color 14 = .ok (.iload_n 1, 1) := by decide +kernel
theorem dX9_color_15 : decode cX9_color 15 = .ok (.bipush 10, 2) := by decide +kernel
theorem dX9_color_17 : decode cX9_color 17 = .ok (.iadd, 1) := by decide +kernel
theorem dX9_color_18 : decode cX9_color 18 = .ok (.iload_n 1, 1) := by decide +kernel
theorem dX9_color_19 : decode cX9_color 19 = .ok (.sipush 200, 3) := by decide +kernel
theorem dX9_color_22 : decode cX9_color 22 = .ok (.iadd, 1) := by decide +kernel
theorem dX9_color_23 : decode cX9_color 23 = .ok (.invokestatic 32, 3) := by decide +kernel
theorem dX9_color_26 : decode cX9_color 26 = .ok (.ifCond .eq 15, 3) := by decide +kernel
theorem dX9_color_29 : decode cX9_color 29 = .ok (.iload_n 3, 1) := by decide +kernel
theorem dX9_color_30 : decode cX9_color 30 = .ok (.bipush 60, 2) := by decide +kernel
theorem dX9_color_32 : decode cX9_color 32 = .ok (.sipush 160, 3) := by decide +kernel
theorem dX9_color_35 : decode cX9_color 35 = .ok (.invokestatic 32, 3) := by decide +kernel
theorem dX9_color_38 : decode cX9_color 38 = .ok (.ifCond .ne 5, 3) := by decide +kernel
theorem dX9_color_41 : decode cX9_color 41 = .ok (.iconst (-1), 1) := by decide +kernel
theorem dX9_color_42 : decode cX9_color 42 = .ok (.ireturn, 1) := by decide +kernel
theorem dX9_color_43 : decode cX9_color 43 = .ok (.aload_n 0, 1) := by decide +kernel
theorem dX9_color_44 : decode cX9_color 44 = .ok (.getfield 7, 3) := by decide +kernel
theorem dX9_color_47 : decode cX9_color 47 = .ok (.iconst 0, 1) := by decide +kernel
theorem dX9_color_48 : decode cX9_color 48 = .ok (.iaload, 1) := by decide +kernel
theorem dX9_color_49 : decode cX9_color 49 = .ok (.bipush 12, 2) := by decide +kernel
theorem dX9_color_51 : decode cX9_color 51 = .ok (.if_icmp .ne 6, 3) := by decide +kernel
theorem dX9_color_54 : decode cX9_color 54 = .ok (.bipush (-3), 2) := by decide +kernel
theorem dX9_color_56 : decode cX9_color 56 = .ok (.ireturn, 1) := by decide +kernel
theorem dX9_color_57 : decode cX9_color 57 = .ok (.aload_n 0, 1) := by decide +kernel
theorem dX9_color_58 : decode cX9_color 58 = .ok (.invokevirtual 36, 3) := by decide +kernel
theorem dX9_color_61 : decode cX9_color 61 = .ok (.iconst 1, 1) := by decide +kernel
theorem dX9_color_62 : decode cX9_color 62 = .ok (.iconst 3, 1) := by decide +kernel
theorem dX9_color_63 : decode cX9_color 63 = .ok (.aload_n 0, 1) := by decide +kernel
theorem dX9_color_64 : decode cX9_color 64 = .ok (.getfield 7, 3) := by decide +kernel
theorem dX9_color_67 : decode cX9_color 67 = .ok (.iconst 0, 1) := by decide +kernel
theorem dX9_color_68 : decode cX9_color 68 = .ok (.iaload, 1) := by decide +kernel
theorem dX9_color_69 : decode cX9_color 69 = .ok (.imul, 1) := by decide +kernel
theorem dX9_color_70 : decode cX9_color 70 = .ok (.iadd, 1) := by decide +kernel
theorem dX9_color_71 : decode cX9_color 71 = .ok (.istore 4, 2) := by decide +kernel
theorem dX9_color_73 : decode cX9_color 73 = .ok (.aload_n 0, 1) := by decide +kernel
theorem dX9_color_74 : decode cX9_color 74 = .ok (.getfield 7, 3) := by decide +kernel
theorem dX9_color_77 : decode cX9_color 77 = .ok (.iload 4, 2) := by decide +kernel
theorem dX9_color_79 : decode cX9_color 79 = .ok (.iload_n 1, 1) := by decide +kernel
theorem dX9_color_80 : decode cX9_color 80 = .ok (.iastore, 1) := by decide +kernel
theorem dX9_color_81 : decode cX9_color 81 = .ok (.aload_n 0, 1) := by decide +kernel
theorem dX9_color_82 : decode cX9_color 82 = .ok (.getfield 7, 3) := by decide +kernel
theorem dX9_color_85 : decode cX9_color 85 = .ok (.iload 4, 2) := by decide +kernel
theorem dX9_color_87 : decode cX9_color 87 = .ok (.iconst 1, 1) := by decide +kernel
theorem dX9_color_88 : decode cX9_color 88 = .ok (.iadd, 1) := by decide +kernel
theorem dX9_color_89 : decode cX9_color 89 = .ok (.iload_n 2, 1) := by decide +kernel
theorem dX9_color_90 : decode cX9_color 90 = .ok (.iastore, 1) := by decide +kernel
theorem dX9_color_91 : decode cX9_color 91 = .ok (.aload_n 0, 1) := by decide +kernel
theorem dX9_color_92 : decode cX9_color 92 = .ok (.getfield 7, 3) := by decide +kernel
theorem dX9_color_95 : decode cX9_color 95 = .ok (.iload 4, 2) := by decide +kernel
theorem dX9_color_97 : decode cX9_color 97 = .ok (.iconst 2, 1) := by decide +kernel
theorem dX9_color_98 : decode cX9_color 98 = .ok (.iadd, 1) := by decide +kernel
theorem dX9_color_99 : decode cX9_color 99 = .ok (.iload_n 3, 1) := by decide +kernel
theorem dX9_color_100 : decode cX9_color 100 = .ok (.iastore, 1) := by decide +kernel
theorem dX9_color_101 : decode cX9_color 101 = .ok (.aload_n 0, 1) := by decide +kernel
theorem dX9_color_102 : decode cX9_color 102 = .ok (.getfield 7, 3) := by decide +kernel
theorem dX9_color_105 : decode cX9_color 105 = .ok (.iconst 0, 1) := by decide +kernel
theorem dX9_color_106 : decode cX9_color 106 = .ok (.dup2, 1) := by decide +kernel
theorem dX9_color_107 : decode cX9_color 107 = .ok (.iaload, 1) := by decide +kernel
theorem dX9_color_108 : decode cX9_color 108 = .ok (.iconst 1, 1) := by decide +kernel
theorem dX9_color_109 : decode cX9_color 109 = .ok (.iadd, 1) := by decide +kernel
theorem dX9_color_110 : decode cX9_color 110 = .ok (.iastore, 1) := by decide +kernel
theorem dX9_color_111 : decode cX9_color 111 = .ok (.aload_n 0, 1) := by decide +kernel
theorem dX9_color_112 : decode cX9_color 112 = .ok (.getfield 7, 3) := by decide +kernel
theorem dX9_color_115 : decode cX9_color 115 = .ok (.iconst 0, 1) := by decide +kernel
theorem dX9_color_116 : decode cX9_color 116 = .ok (.iaload, 1) := by decide +kernel
theorem dX9_color_117 : decode cX9_color 117 = .ok (.iconst 1, 1) := by decide +kernel
theorem dX9_color_118 : decode cX9_color 118 = .ok (.isub, 1) := by decide +kernel
theorem dX9_color_119 : decode cX9_color 119 = .ok (.ireturn, 1) := by decide +kernel
theorem dX9_isColor_0 : decode cX9_isColor 0 = .ok (.iload_n 1, 1) := by decide +kernel
theorem dX9_isColor_1 : decode cX9_isColor 1 = .ok (.iconst 0, 1) := by decide +kernel
theorem dX9_isColor_2 : decode cX9_isColor 2 = .ok (.aload_n 0, 1) := by decide +kernel
theorem dX9_isColor_3 : decode cX9_isColor 3 = .ok (.getfield 7, 3) := by decide +kernel
theorem dX9_isColor_6 : decode cX9_isColor 6 = .ok (.iconst 0, 1) := by decide +kernel
theorem dX9_isColor_7 : decode cX9_isColor 7 = .ok (.iaload, 1) := by decide +kernel
theorem dX9_isColor_8 : decode cX9_isColor 8 = .ok (.iconst 1, 1) := by decide +kernel
theorem dX9_isColor_9 : decode cX9_isColor 9 = .ok (.isub, 1) := by decide +kernel
theorem dX9_isColor_10 : decode cX9_isColor 10 = .ok (.invokestatic 32, 3) := by decide +kernel
theorem dX9_isColor_13 : decode cX9_isColor 13 = .ok (.ireturn, 1) := by decide +kernel
theorem dX9_melting_0 : decode cX9_melting 0 = .ok (.aload_n 0, 1) := by decide +kernel
theorem dX9_melting_1 : decode cX9_melting 1 = .ok (.getfield 7, 3) := by decide +kernel
theorem dX9_melting_4 : decode cX9_melting 4 = .ok (.iconst 1, 1) := by decide +kernel
theorem dX9_melting_5 : decode cX9_melting 5 = .ok (.iconst 3, 1) := by decide +kernel
theorem dX9_melting_6 : decode cX9_melting 6 = .ok (.iload_n 1, 1) := by decide +kernel
theorem dX9_melting_7 : decode cX9_melting 7 = .ok (.imul, 1) := by decide +kernel
theorem dX9_melting_8 : decode cX9_melting 8 = .ok (.iadd, 1) := by decide +kernel
theorem dX9_melting_9 : decode cX9_melting 9 = .ok (.iaload, 1) := by decide +kernel
theorem dX9_melting_10 : decode cX9_melting 10 = .ok (.ireturn, 1) := by decide +kernel
theorem dX9_burning_0 : decode cX9_burning 0 = .ok (.aload_n 0, 1) := by decide +kernel
theorem dX9_burning_1 : decode cX9_burning 1 = .ok (.getfield 7, 3) := by decide +kernel
theorem dX9_burning_4 : decode cX9_burning 4 = .ok (.iconst 1, 1) := by decide +kernel
theorem dX9_burning_5 : decode cX9_burning 5 = .ok (.iconst 3, 1) := by decide +kernel
theorem dX9_burning_6 : decode cX9_burning 6 = .ok (.iload_n 1, 1) := by decide +kernel
theorem dX9_burning_7 : decode cX9_burning 7 = .ok (.imul, 1) := by decide +kernel
theorem dX9_burning_8 : decode cX9_burning 8 = .ok (.iadd, 1) := by decide +kernel
theorem dX9_burning_9 : decode cX9_burning 9 = .ok (.iconst 1, 1) := by decide +kernel
theorem dX9_burning_10 : decode cX9_burning 10 = .ok (.iadd, 1) := by decide +kernel
theorem dX9_burning_11 : decode cX9_burning 11 = .ok (.iaload, 1) := by decide +kernel
theorem dX9_burning_12 : decode cX9_burning 12 = .ok (.ireturn, 1) := by decide +kernel
theorem dX9_pullOf_0 : decode cX9_pullOf 0 = .ok (.sipush 170, 3) := by decide +kernel
theorem dX9_pullOf_3 : decode cX9_pullOf 3 = .ok (.aload_n 0, 1) := by decide +kernel
theorem dX9_pullOf_4 : decode cX9_pullOf 4 = .ok (.getfield 7, 3) := by decide +kernel
theorem dX9_pullOf_7 : decode cX9_pullOf 7 = .ok (.iconst 1, 1) := by decide +kernel
theorem dX9_pullOf_8 : decode cX9_pullOf 8 = .ok (.iconst 3, 1) := by decide +kernel
theorem dX9_pullOf_9 : decode cX9_pullOf 9 = .ok (.iload_n 1, 1) := by decide +kernel
theorem dX9_pullOf_10 : decode cX9_pullOf 10 = .ok (.imul, 1) := by decide +kernel
theorem dX9_pullOf_11 : decode cX9_pullOf 11 = .ok (.iadd, 1) := by decide +kernel
theorem dX9_pullOf_12 : decode cX9_pullOf 12 = .ok (.iconst 2, 1) := by decide +kernel
theorem dX9_pullOf_13 : decode cX9_pullOf 13 = .ok (.iadd, 1) := by decide +kernel
theorem dX9_pullOf_14 : decode cX9_pullOf 14 = .ok (.iaload, 1) := by decide +kernel
theorem dX9_pullOf_15 : decode cX9_pullOf 15 = .ok (.isub, 1) := by decide +kernel
theorem dX9_pullOf_16 : decode cX9_pullOf 16 = .ok (.ireturn, 1) := by decide +kernel
theorem dX9_onPlate_0 : decode cX9_onPlate 0 = .ok (.iconst 0, 1) := by decide +kernel
theorem dX9_onPlate_1 : decode cX9_onPlate 1 = .ok (.istore_n 2, 1) := by decide +kernel
theorem dX9_onPlate_2 : decode cX9_onPlate 2 = .ok (.iconst 0, 1) := by decide +kernel
theorem dX9_onPlate_3 : decode cX9_onPlate 3 = .ok (.istore_n 3, 1) := by decide +kernel
theorem dX9_onPlate_4 : decode cX9_onPlate 4 = .ok (.iload_n 3, 1) := by decide +kernel
theorem dX9_onPlate_5 : decode cX9_onPlate 5 = .ok (.bipush 7, 2) := by decide +kernel
theorem dX9_onPlate_7 : decode cX9_onPlate 7 = .ok (.if_icmp .ge 48, 3) := by decide +kernel
theorem dX9_onPlate_10 : decode cX9_onPlate 10 = .ok (.iconst 0, 1) := by decide +kernel
theorem dX9_onPlate_11 : decode cX9_onPlate 11 = .ok (.istore 4, 2) := by decide +kernel
theorem dX9_onPlate_13 : decode cX9_onPlate 13 = .ok (.iload 4, 2) := by decide +kernel
theorem dX9_onPlate_15 : decode cX9_onPlate 15 = .ok (.aload_n 0, 1) := by decide +kernel
theorem dX9_onPlate_16 : decode cX9_onPlate 16 = .ok (.iload_n 3, 1) := by decide +kernel
theorem dX9_onPlate_17 : decode cX9_onPlate 17 = .ok (.invokevirtual 39, 3) := by decide +kernel
theorem dX9_onPlate_20 : decode cX9_onPlate 20 = .ok (.if_icmp .ge 29, 3) := by decide +kernel
theorem dX9_onPlate_23 : decode cX9_onPlate 23 = .ok (.iload_n 2, 1) := by decide +kernel
theorem dX9_onPlate_24 : decode cX9_onPlate 24 = .ok (.aload_n 0, 1) := by decide +kernel
theorem dX9_onPlate_25 : decode cX9_onPlate 25 = .ok (.iload_n 3, 1) := by decide +kernel
theorem dX9_onPlate_26 : decode cX9_onPlate 26 = .ok (.iload 4, 2) := by decide +kernel
theorem dX9_onPlate_28 : decode cX9_onPlate 28 = .ok (.iconst 0, 1) := by decide +kernel
theorem dX9_onPlate_29 : decode cX9_onPlate 29 = .ok (.invokevirtual 43, 3) := by decide +kernel
theorem dX9_onPlate_32 : decode cX9_onPlate 32 = .ok (.iload_n 1, 1) := by decide +kernel
theorem dX9_onPlate_33 : decode cX9_onPlate 33 = .ok (.if_icmp .ne 7, 3) := by decide +kernel
theorem dX9_onPlate_36 : decode cX9_onPlate 36 = .ok (.iconst 1, 1) := by decide +kernel
theorem dX9_onPlate_37 : decode cX9_onPlate 37 = .ok (.goto 4, 3) := by decide +kernel
theorem dX9_onPlate_40 : decode cX9_onPlate 40 = .ok (.iconst 0, 1) := by decide +kernel
theorem dX9_onPlate_41 : decode cX9_onPlate 41 = .ok (.iadd, 1) := by decide +kernel
theorem dX9_onPlate_42 : decode cX9_onPlate 42 = .ok (.istore_n 2, 1) := by decide +kernel
theorem dX9_onPlate_43 : decode cX9_onPlate 43 = .ok (.iinc 4 1, 3) := by decide +kernel
theorem dX9_onPlate_46 : decode cX9_onPlate 46 = .ok (.goto (-33), 3) := by decide +kernel
theorem dX9_onPlate_49 : decode cX9_onPlate 49 = .ok (.iinc 3 1, 3) := by decide +kernel
theorem dX9_onPlate_52 : decode cX9_onPlate 52 = .ok (.goto (-48), 3) := by decide +kernel
theorem dX9_onPlate_55 : decode cX9_onPlate 55 = .ok (.iload_n 2, 1) := by decide +kernel
theorem dX9_onPlate_56 : decode cX9_onPlate 56 = .ok (.ireturn, 1) := by decide +kernel
theorem dX9_inWishes_0 : decode cX9_inWishes 0 = .ok (.iconst 0, 1) := by decide +kernel
theorem dX9_inWishes_1 : decode cX9_inWishes 1 = .ok (.istore_n 2, 1) := by decide +kernel
theorem dX9_inWishes_2 : decode cX9_inWishes 2 = .ok (.iconst 0, 1) := by decide +kernel
theorem dX9_inWishes_3 : decode cX9_inWishes 3 = .ok (.istore_n 3, 1) := by decide +kernel
theorem dX9_inWishes_4 : decode cX9_inWishes 4 = .ok (.iload_n 3, 1) := by decide +kernel
theorem dX9_inWishes_5 : decode cX9_inWishes 5 = .ok (.bipush 6, 2) := by decide +kernel
theorem dX9_inWishes_7 : decode cX9_inWishes 7 = .ok (.if_icmp .ge 62, 3) := by decide +kernel
theorem dX9_inWishes_10 : decode cX9_inWishes 10 = .ok (.iconst 0, 1) := by decide +kernel
theorem dX9_inWishes_11 : decode cX9_inWishes 11 = .ok (.istore 4, 2) := by decide +kernel
theorem dX9_inWishes_13 : decode cX9_inWishes 13 = .ok (.iload 4, 2) := by decide +kernel
theorem dX9_inWishes_15 : decode cX9_inWishes 15 = .ok (.aload_n 0, 1) := by decide +kernel
theorem dX9_inWishes_16 : decode cX9_inWishes 16 = .ok (.getfield 7, 3) := by decide +kernel
theorem dX9_inWishes_19 : decode cX9_inWishes 19 = .ok (.bipush 126, 2) := by decide +kernel
theorem dX9_inWishes_21 : decode cX9_inWishes 21 = .ok (.iconst 4, 1) := by decide +kernel
theorem dX9_inWishes_22 : decode cX9_inWishes 22 = .ok (.iload_n 3, 1) := by decide +kernel
theorem dX9_inWishes_23 : decode cX9_inWishes 23 = .ok (.imul, 1) := by decide +kernel
theorem dX9_inWishes_24 : decode cX9_inWishes 24 = .ok (.iadd, 1) := by decide +kernel
theorem dX9_inWishes_25 : decode cX9_inWishes 25 = .ok (.iaload, 1) := by decide +kernel
theorem dX9_inWishes_26 : decode cX9_inWishes 26 = .ok (.if_icmp .ge 37, 3) := by decide +kernel
theorem dX9_inWishes_29 : decode cX9_inWishes 29 = .ok (.iload_n 2, 1) := by decide +kernel
theorem dX9_inWishes_30 : decode cX9_inWishes 30 = .ok (.aload_n 0, 1) := by decide +kernel
theorem dX9_inWishes_31 : decode cX9_inWishes 31 = .ok (.getfield 7, 3) := by decide +kernel
theorem dX9_inWishes_34 : decode cX9_inWishes 34 = .ok (.bipush 126, 2) := by decide +kernel
theorem dX9_inWishes_36 : decode cX9_inWishes 36 = .ok (.iconst 4, 1) := by decide +kernel
theorem dX9_inWishes_37 : decode cX9_inWishes 37 = .ok (.iload_n 3, 1) := by decide +kernel
theorem dX9_inWishes_38 : decode cX9_inWishes 38 = .ok (.imul, 1) := by decide +kernel
theorem dX9_inWishes_39 : decode cX9_inWishes 39 = .ok (.iadd, 1) := by decide +kernel
theorem dX9_inWishes_40 : decode cX9_inWishes 40 = .ok (.iconst 1, 1) := by decide +kernel
theorem dX9_inWishes_41 : decode cX9_inWishes 41 = .ok (.iadd, 1) := by decide +kernel
theorem dX9_inWishes_42 : decode cX9_inWishes 42 = .ok (.iload 4, 2) := by decide +kernel
theorem dX9_inWishes_44 : decode cX9_inWishes 44 = .ok (.iadd, 1) := by decide +kernel
theorem dX9_inWishes_45 : decode cX9_inWishes 45 = .ok (.iaload, 1) := by decide +kernel
theorem dX9_inWishes_46 : decode cX9_inWishes 46 = .ok (.iload_n 1, 1) := by decide +kernel
theorem dX9_inWishes_47 : decode cX9_inWishes 47 = .ok (.if_icmp .ne 7, 3) := by decide +kernel
theorem dX9_inWishes_50 : decode cX9_inWishes 50 = .ok (.iconst 1, 1) := by decide +kernel
theorem dX9_inWishes_51 : decode cX9_inWishes 51 = .ok (.goto 4, 3) := by decide +kernel
theorem dX9_inWishes_54 : decode cX9_inWishes 54 = .ok (.iconst 0, 1) := by decide +kernel
theorem dX9_inWishes_55 : decode cX9_inWishes 55 = .ok (.iadd, 1) := by decide +kernel
theorem dX9_inWishes_56 : decode cX9_inWishes 56 = .ok (.istore_n 2, 1) := by decide +kernel
theorem dX9_inWishes_57 : decode cX9_inWishes 57 = .ok (.iinc 4 1, 3) := by decide +kernel
theorem dX9_inWishes_60 : decode cX9_inWishes 60 = .ok (.goto (-47), 3) := by decide +kernel
theorem dX9_inWishes_63 : decode cX9_inWishes 63 = .ok (.iinc 3 1, 3) := by decide +kernel
theorem dX9_inWishes_66 : decode cX9_inWishes 66 = .ok (.goto (-62), 3) := by decide +kernel
theorem dX9_inWishes_69 : decode cX9_inWishes 69 = .ok (.iload_n 2, 1) := by decide +kernel
theorem dX9_inWishes_70 : decode cX9_inWishes 70 = .ok (.ireturn, 1) := by decide +kernel
theorem dX9_colorInfo_0 : decode cX9_colorInfo 0 = .ok (.aload_n 0, 1) := by decide +kernel
theorem dX9_colorInfo_1 : decode cX9_colorInfo 1 = .ok (.iload_n 1, 1) := by decide +kernel
theorem dX9_colorInfo_2 : decode cX9_colorInfo 2 = .ok (.invokevirtual 47, 3) := by decide +kernel
theorem dX9_colorInfo_5 : decode cX9_colorInfo 5 = .ok (.ifCond .eq 12, 3) := by decide +kernel
theorem dX9_colorInfo_8 : decode cX9_colorInfo 8 = .ok (.iload_n 2, 1) := by decide +kernel
theorem dX9_colorInfo_9 : decode cX9_colorInfo 9 = .ok (.iconst 0, 1) := by decide +kernel
theorem dX9_colorInfo_10 : decode cX9_colorInfo 10 = .ok (.iconst 5, 1) := by decide +kernel
theorem dX9_colorInfo_11 : decode cX9_colorInfo 11 = .ok (.invokestatic 32, 3) := by decide +kernel
theorem dX9_colorInfo_14 : decode cX9_colorInfo 14 = .ok (.ifCond .ne 5, 3) := by decide +kernel
theorem dX9_colorInfo_17 : decode cX9_colorInfo 17 = .ok (.iconst (-1), 1) := by decide +kernel
theorem dX9_colorInfo_18 : decode cX9_colorInfo 18 = .ok (.ireturn, 1) := by decide +kernel
theorem dX9_colorInfo_19 : decode cX9_colorInfo 19 = .ok (.iload_n 2, 1) := by decide +kernel
theorem dX9_colorInfo_20 : decode cX9_colorInfo 20 = .ok (.iconst 3, 1) := by decide +kernel
theorem dX9_colorInfo_21 : decode cX9_colorInfo 21 = .ok (.if_icmp .ge 18, 3) := by decide +kernel
theorem dX9_colorInfo_24 : decode cX9_colorInfo 24 = .ok (.aload_n 0, 1) := by decide +kernel
theorem dX9_colorInfo_25 : decode cX9_colorInfo 25 = .ok (.getfield 7, 3) := by decide +kernel
theorem dX9_colorInfo_28 : decode cX9_colorInfo 28 = .ok (.iconst 1, 1) := by decide +kernel
theorem dX9_colorInfo_29 : decode cX9_colorInfo 29 = .ok (.iconst 3, 1) := by decide +kernel
theorem dX9_colorInfo_30 : decode cX9_colorInfo 30 = .ok (.iload_n 1, 1) := by decide +kernel
theorem dX9_colorInfo_31 : decode cX9_colorInfo 31 = .ok (.imul, 1) := by decide +kernel
theorem dX9_colorInfo_32 : decode cX9_colorInfo 32 = .ok (.iadd, 1) := by decide +kernel
theorem dX9_colorInfo_33 : decode cX9_colorInfo 33 = .ok (.iload_n 2, 1) := by decide +kernel
theorem dX9_colorInfo_34 : decode cX9_colorInfo 34 = .ok (.iadd, 1) := by decide +kernel
theorem dX9_colorInfo_35 : decode cX9_colorInfo 35 = .ok (.iaload, 1) := by decide +kernel
theorem dX9_colorInfo_36 : decode cX9_colorInfo 36 = .ok (.goto 34, 3) := by decide +kernel
theorem dX9_colorInfo_39 : decode cX9_colorInfo 39 = .ok (.iload_n 2, 1) := by decide +kernel
theorem dX9_colorInfo_40 : decode cX9_colorInfo 40 = .ok (.iconst 3, 1) := by decide +kernel
theorem dX9_colorInfo_41 : decode cX9_colorInfo 41 = .ok (.if_icmp .ne 11, 3) := by decide +kernel
theorem dX9_colorInfo_44 : decode cX9_colorInfo 44 = .ok (.aload_n 0, 1) := by decide +kernel
theorem dX9_colorInfo_45 : decode cX9_colorInfo 45 = .ok (.iload_n 1, 1) := by decide +kernel
theorem dX9_colorInfo_46 : decode cX9_colorInfo 46 = .ok (.invokevirtual 51, 3) := by decide +kernel
theorem dX9_colorInfo_49 : decode cX9_colorInfo 49 = .ok (.goto 21, 3) := by decide +kernel
theorem dX9_colorInfo_52 : decode cX9_colorInfo 52 = .ok (.iload_n 2, 1) := by decide +kernel
theorem dX9_colorInfo_53 : decode cX9_colorInfo 53 = .ok (.iconst 4, 1) := by decide +kernel
theorem dX9_colorInfo_54 : decode cX9_colorInfo 54 = .ok (.if_icmp .ne 11, 3) := by decide +kernel
theorem dX9_colorInfo_57 : decode cX9_colorInfo 57 = .ok (.aload_n 0, 1) := by decide +kernel
theorem dX9_colorInfo_58 : decode cX9_colorInfo 58 = .ok (.iload_n 1, 1) := by decide +kernel
theorem dX9_colorInfo_59 : decode cX9_colorInfo 59 = .ok (.invokevirtual 54, 3) := by decide +kernel
theorem dX9_colorInfo_62 : decode cX9_colorInfo 62 = .ok (.goto 8, 3) := by decide +kernel
theorem dX9_colorInfo_65 : decode cX9_colorInfo 65 = .ok (.aload_n 0, 1) := by decide +kernel
theorem dX9_colorInfo_66 : decode cX9_colorInfo 66 = .ok (.iload_n 1, 1) := by decide +kernel
theorem dX9_colorInfo_67 : decode cX9_colorInfo 67 = .ok (.invokevirtual 57, 3) := by decide +kernel
theorem dX9_colorInfo_70 : decode cX9_colorInfo 70 = .ok (.ireturn, 1) := by decide +kernel
theorem dX9_isField_0 : decode cX9_isField 0 = .ok (.iload_n 0, 1) := by decide +kernel
theorem dX9_isField_1 : decode cX9_isField 1 = .ok (.iconst 0, 1) := by decide +kernel
theorem dX9_isField_2 : decode cX9_isField 2 = .ok (.bipush 6, 2) := by decide +kernel
theorem dX9_isField_4 : decode cX9_isField 4 = .ok (.invokestatic 32, 3) := by decide +kernel
theorem dX9_isField_7 : decode cX9_isField 7 = .ok (.ireturn, 1) := by decide +kernel
theorem dX9_fieldAt_0 : decode cX9_fieldAt 0 = .ok (.bipush 37, 2) := by decide +kernel
theorem dX9_fieldAt_2 : decode cX9_fieldAt 2 = .ok (.bipush 11, 2) := by decide +kernel
theorem dX9_fieldAt_4 : decode cX9_fieldAt 4 = .ok (.iload_n 0, 1) := by decide +kernel
theorem dX9_fieldAt_5 : decode cX9_fieldAt 5 = .ok (.imul, 1) := by decide +kernel
theorem dX9_fieldAt_6 : decode cX9_fieldAt 6 = .ok (.iadd, 1) := by decide +kernel
theorem dX9_fieldAt_7 : decode cX9_fieldAt 7 = .ok (.ireturn, 1) := by decide +kernel
theorem dX9_layers_0 : decode cX9_layers 0 = .ok (.aload_n 0, 1) := by decide +kernel
theorem dX9_layers_1 : decode cX9_layers 1 = .ok (.getfield 7, 3) := by decide +kernel
theorem dX9_layers_4 : decode cX9_layers 4 = .ok (.iload_n 1, 1) := by decide +kernel
theorem dX9_layers_5 : decode cX9_layers 5 = .ok (.invokestatic 60, 3) := by decide +kernel
theorem dX9_layers_8 : decode cX9_layers 8 = .ok (.iaload, 1) := by decide +kernel
theorem dX9_layers_9 : decode cX9_layers 9 = .ok (.ireturn, 1) := by decide +kernel
theorem dX9_layerAt_0 : decode cX9_layerAt 0 = .ok (.iload_n 0, 1) := by decide +kernel
theorem dX9_layerAt_1 : decode cX9_layerAt 1 = .ok (.invokestatic 60, 3) := by decide +kernel
theorem dX9_layerAt_4 : decode cX9_layerAt 4 = .ok (.iconst 2, 1) := by decide +kernel
theorem dX9_layerAt_5 : decode cX9_layerAt 5 = .ok (.iadd, 1) := by decide +kernel
theorem dX9_layerAt_6 : decode cX9_layerAt 6 = .ok (.iconst 3, 1) := by decide +kernel
theorem dX9_layerAt_7 : decode cX9_layerAt 7 = .ok (.iload_n 1, 1) := by decide +kernel
theorem dX9_layerAt_8 : decode cX9_layerAt 8 = .ok (.imul, 1) := by decide +kernel
theorem dX9_layerAt_9 : decode cX9_layerAt 9 = .ok (.iadd, 1) := by decide +kernel
theorem dX9_layerAt_10 : decode cX9_layerAt 10 = .ok (.ireturn, 1) := by decide +kernel
theorem dX9_of_0 : decode cX9_of 0 = .ok (.aload_n 0, 1) := by decide +kernel
theorem dX9_of_1 : decode cX9_of 1 = .ok (.getfield 7, 3) := by decide +kernel
theorem dX9_of_4 : decode cX9_of 4 = .ok (.iload_n 1, 1) := by decide +kernel
theorem dX9_of_5 : decode cX9_of 5 = .ok (.iload_n 2, 1) := by decide +kernel
theorem dX9_of_6 : decode cX9_of 6 = .ok (.invokestatic 63, 3) := by decide +kernel
theorem dX9_of_9 : decode cX9_of 9 = .ok (.iload_n 3, 1) := by decide +kernel
theorem dX9_of_10 : decode cX9_of 10 = .ok (.iadd, 1) := by decide +kernel
theorem dX9_of_11 : decode cX9_of 11 = .ok (.iaload, 1) := by decide +kernel
theorem dX9_of_12 : decode cX9_of 12 = .ok (.ireturn, 1) := by decide +kernel
theorem dX9_layersWith_0 : decode cX9_layersWith 0 = .ok (.iconst 0, 1) := by decide +kernel
theorem dX9_layersWith_1 : decode cX9_layersWith 1 = .ok (.istore 4, 2) := by decide +kernel
theorem dX9_layersWith_3 : decode cX9_layersWith 3 = .ok (.iconst 0, 1) := by decide +kernel
theorem dX9_layersWith_4 : decode cX9_layersWith 4 = .ok (.istore 5, 2) := by decide +kernel
theorem dX9_layersWith_6 : decode cX9_layersWith 6 = .ok (.iload 5, 2) := by decide +kernel
theorem dX9_layersWith_8 : decode cX9_layersWith 8 = .ok (.aload_n 0, 1) := by decide +kernel
theorem dX9_layersWith_9 : decode cX9_layersWith 9 = .ok (.iload_n 1, 1) := by decide +kernel
theorem dX9_layersWith_10 : decode cX9_layersWith 10 = .ok (.invokevirtual 39, 3) := by decide +kernel
theorem dX9_layersWith_13 : decode cX9_layersWith 13 = .ok (.if_icmp .ge 35, 3) := by decide +kernel
theorem dX9_layersWith_16 : decode cX9_layersWith 16 = .ok (.iload 4, 2) := by decide +kernel
theorem dX9_layersWith_18 : decode cX9_layersWith 18 = .ok (.aload_n 0, 1) := by decide +kernel
theorem dX9_layersWith_19 : decode cX9_layersWith 19 = .ok (.iload_n 1, 1) := by decide +kernel
theorem dX9_layersWith_20 : decode cX9_layersWith 20 = .ok (.iload 5, 2) := by decide +kernel
theorem dX9_layersWith_22 : decode cX9_layersWith 22 = .ok (.iconst 1, 1) := by decide +kernel
theorem dX9_layersWith_23 : decode cX9_layersWith 23 = .ok (.invokevirtual 43, 3) := by decide +kernel
theorem dX9_layersWith_26 : decode cX9_layersWith 26 = .ok (.iload_n 2, 1) := by decide +kernel
theorem dX9_layersWith_27 : decode cX9_layersWith 27 = .ok (.iload_n 3, 1) := by decide +kernel
theorem dX9_layersWith_28 : decode cX9_layersWith 28 = .ok (.invokestatic 32, 3) := by decide +kernel
theorem dX9_layersWith_31 : decode cX9_layersWith 31 = .ok (.ifCond .eq 7, 3) := by decide +kernel
theorem dX9_layersWith_34 : decode cX9_layersWith 34 = .ok (.iconst 1, 1) := by decide +kernel
theorem dX9_layersWith_35 : decode cX9_layersWith 35 = .ok (.goto 4, 3) := by decide +kernel
theorem dX9_layersWith_38 : decode cX9_layersWith 38 = .ok (.iconst 0, 1) := by decide +kernel
theorem dX9_layersWith_39 : decode cX9_layersWith 39 = .ok (.iadd, 1) := by decide +kernel
theorem dX9_layersWith_40 : decode cX9_layersWith 40 = .ok (.istore 4, 2) := by decide +kernel
theorem dX9_layersWith_42 : decode cX9_layersWith 42 = .ok (.iinc 5 1, 3) := by decide +kernel
theorem dX9_layersWith_45 : decode cX9_layersWith 45 = .ok (.goto (-39), 3) := by decide +kernel
theorem dX9_layersWith_48 : decode cX9_layersWith 48 = .ok (.iload 4, 2) := by decide +kernel
theorem dX9_layersWith_50 : decode cX9_layersWith 50 = .ok (.ireturn, 1) := by decide +kernel
theorem dX9_put_0 : decode cX9_put 0 = .ok (.iload_n 1, 1) := by decide +kernel
theorem dX9_put_1 : decode cX9_put 1 = .ok (.invokestatic 67, 3) := by decide +kernel
theorem dX9_put_4 : decode cX9_put 4 = .ok (.ifCond .eq 11, 3) := by decide +kernel
theorem dX9_put_7 : decode cX9_put 7 = .ok (.aload_n 0, 1) := by decide +kernel
theorem dX9_put_8 : decode cX9_put 8 = .ok (.iload_n 2, 1) := by decide +kernel
theorem dX9_put_9 : decode cX9_put 9 = .ok (.invokevirtual 47, 3) := by decide +kernel
theorem dX9_put_12 : decode cX9_put 12 = .ok (.ifCond .ne 5, 3) := by decide +kernel
theorem dX9_put_15 : decode cX9_put 15 = .ok (.iconst (-1), 1) := by decide +kernel
theorem dX9_put_16 : decode cX9_put 16 = .ok (.ireturn, 1) := by decide +kernel
theorem dX9_put_17 : decode cX9_put 17 = .ok (.aload_n 0, 1) := by decide +kernel
theorem dX9_put_18 : decode cX9_put 18 = .ok (.iload_n 1, 1) := by decide +kernel
theorem dX9_put_19 : decode cX9_put 19 = .ok (.iconst 0, 1) := by decide +kernel
theorem dX9_put_20 : decode cX9_put 20 = .ok (.iconst 0, 1) := by decide +kernel
theorem dX9_put_21 : decode cX9_put 21 = .ok (.invokevirtual 70, 3) := by decide +kernel
theorem dX9_put_24 : decode cX9_put 24 = .ok (.ifCond .le 6, 3) := by decide +kernel
theorem dX9_put_27 : decode cX9_put 27 = .ok (.bipush (-2), 2) := by decide +kernel
theorem dX9_put_29 : decode cX9_put 29 = .ok (.ireturn, 1) := by decide +kernel
theorem dX9_put_30 : decode cX9_put 30 = .ok (.aload_n 0, 1) := by decide +kernel
theorem dX9_put_31 : decode cX9_put 31 = .ok (.iload_n 1, 1) := by decide +kernel
theorem dX9_put_32 : decode cX9_put 32 = .ok (.invokevirtual 39, 3) := by decide +kernel
theorem dX9_put_35 : decode cX9_put 35 = .ok (.iconst 3, 1) := by decide +kernel
theorem dX9_put_36 : decode cX9_put 36 = .ok (.if_icmp .ne 6, 3) := by decide +kernel
theorem dX9_put_39 : decode cX9_put 39 = .ok (.bipush (-3), 2) := by decide +kernel
theorem dX9_put_41 : decode cX9_put 41 = .ok (.ireturn, 1) := by decide +kernel
theorem dX9_put_42 : decode cX9_put 42 = .ok (.aload_n 0, 1) := by decide +kernel
theorem dX9_put_43 : decode cX9_put 43 = .ok (.invokevirtual 36, 3) := by decide +kernel
theorem dX9_put_46 : decode cX9_put 46 = .ok (.iload_n 1, 1) := by decide +kernel
theorem dX9_put_47 : decode cX9_put 47 = .ok (.aload_n 0, 1) := by decide +kernel
theorem dX9_put_48 : decode cX9_put 48 = .ok (.iload_n 1, 1) := by decide +kernel
theorem dX9_put_49 : decode cX9_put 49 = .ok (.invokevirtual 39, 3) := by decide +kernel
theorem dX9_put_52 : decode cX9_put 52 = .ok (.invokestatic 63, 3) := by decide +kernel
theorem dX9_put_55 : decode cX9_put 55 = .ok (.istore_n 3, 1) := by decide +kernel
theorem dX9_put_56 : decode cX9_put 56 = .ok (.aload_n 0, 1) := by decide +kernel
theorem dX9_put_57 : decode cX9_put 57 = .ok (.getfield 7, 3) := by decide +kernel
theorem dX9_put_60 : decode cX9_put 60 = .ok (.iload_n 3, 1) := by decide +kernel
theorem dX9_put_61 : decode cX9_put 61 = .ok (.iload_n 2, 1) := by decide +kernel
theorem dX9_put_62 : decode cX9_put 62 = .ok (.iastore, 1) := by decide +kernel
theorem dX9_put_63 : decode cX9_put 63 = .ok (.aload_n 0, 1) := by decide +kernel
theorem dX9_put_64 : decode cX9_put 64 = .ok (.getfield 7, 3) := by decide +kernel
theorem dX9_put_67 : decode cX9_put 67 = .ok (.iload_n 3, 1) := by decide +kernel
theorem dX9_put_68 : decode cX9_put 68 = .ok (.iconst 1, 1) := by decide +kernel
theorem dX9_put_69 : decode cX9_put 69 = .ok (.iadd, 1) := by decide +kernel
theorem dX9_put_70 : decode cX9_put 70 = .ok (.iconst 0, 1) := by decide +kernel
theorem dX9_put_71 : decode cX9_put 71 = .ok (.iastore, 1) := by decide +kernel
theorem dX9_put_72 : decode cX9_put 72 = .ok (.aload_n 0, 1) := by decide +kernel
theorem dX9_put_73 : decode cX9_put 73 = .ok (.getfield 7, 3) := by decide +kernel
theorem dX9_put_76 : decode cX9_put 76 = .ok (.iload_n 3, 1) := by decide +kernel
theorem dX9_put_77 : decode cX9_put 77 = .ok (.iconst 2, 1) := by decide +kernel
theorem dX9_put_78 : decode cX9_put 78 = .ok (.iadd, 1) := by decide +kernel
theorem dX9_put_79 : decode cX9_put 79 = .ok (.iconst 0, 1) := by decide +kernel
theorem dX9_put_80 : decode cX9_put 80 = .ok (.iastore, 1) := by decide +kernel
theorem dX9_put_81 : decode cX9_put 81 = .ok (.aload_n 0, 1) := by decide +kernel
theorem dX9_put_82 : decode cX9_put 82 = .ok (.getfield 7, 3) := by decide +kernel
theorem dX9_put_85 : decode cX9_put 85 = .ok (.iload_n 1, 1) := by decide +kernel
theorem dX9_put_86 : decode cX9_put 86 = .ok (.invokestatic 60, 3) := by decide +kernel
theorem dX9_put_89 : decode cX9_put 89 = .ok (.dup2, 1) := by decide +kernel
theorem dX9_put_90 : decode cX9_put 90 = .ok (.iaload, 1) := by decide +kernel
theorem dX9_put_91 : decode cX9_put 91 = .ok (.iconst 1, 1) := by decide +kernel
theorem dX9_put_92 : decode cX9_put 92 = .ok (.iadd, 1) := by decide +kernel
theorem dX9_put_93 : decode cX9_put 93 = .ok (.iastore, 1) := by decide +kernel
theorem dX9_put_94 : decode cX9_put 94 = .ok (.aload_n 0, 1) := by decide +kernel
theorem dX9_put_95 : decode cX9_put 95 = .ok (.getfield 7, 3) := by decide +kernel
theorem dX9_put_98 : decode cX9_put 98 = .ok (.bipush 119, 2) := by decide +kernel
theorem dX9_put_100 : decode cX9_put 100 = .ok (.dup2, 1) := by decide +kernel
theorem dX9_put_101 : decode cX9_put 101 = .ok (.iaload, 1) := by decide +kernel
theorem dX9_put_102 : decode cX9_put 102 = .ok (.iconst 1, 1) := by decide +kernel
theorem dX9_put_103 : decode cX9_put 103 = .ok (.iadd, 1) := by decide +kernel
theorem dX9_put_104 : decode cX9_put 104 = .ok (.iastore, 1) := by decide +kernel
theorem dX9_put_105 : decode cX9_put 105 = .ok (.aload_n 0, 1) := by decide +kernel
theorem dX9_put_106 : decode cX9_put 106 = .ok (.iload_n 1, 1) := by decide +kernel
theorem dX9_put_107 : decode cX9_put 107 = .ok (.invokevirtual 39, 3) := by decide +kernel
theorem dX9_put_110 : decode cX9_put 110 = .ok (.iconst 1, 1) := by decide +kernel
theorem dX9_put_111 : decode cX9_put 111 = .ok (.isub, 1) := by decide +kernel
theorem dX9_put_112 : decode cX9_put 112 = .ok (.ireturn, 1) := by decide +kernel
theorem dX9_takeOff_0 : decode cX9_takeOff 0 = .ok (.iload_n 1, 1) := by decide +kernel
theorem dX9_takeOff_1 : decode cX9_takeOff 1 = .ok (.invokestatic 67, 3) := by decide +kernel
theorem dX9_takeOff_4 : decode cX9_takeOff 4 = .ok (.ifCond .ne 5, 3) := by decide +kernel
theorem dX9_takeOff_7 : decode cX9_takeOff 7 = .ok (.iconst (-1), 1) := by decide +kernel
theorem dX9_takeOff_8 : decode cX9_takeOff 8 = .ok (.ireturn, 1) := by decide +kernel
theorem dX9_takeOff_9 : decode cX9_takeOff 9 = .ok (.aload_n 0, 1) := by decide +kernel
theorem dX9_takeOff_10 : decode cX9_takeOff 10 = .ok (.iload_n 1, 1) := by decide +kernel
theorem dX9_takeOff_11 : decode cX9_takeOff 11 = .ok (.invokevirtual 39, 3) := by decide +kernel
theorem dX9_takeOff_14 : decode cX9_takeOff 14 = .ok (.iconst 1, 1) := by decide +kernel
theorem dX9_takeOff_15 : decode cX9_takeOff 15 = .ok (.isub, 1) := by decide +kernel
theorem dX9_takeOff_16 : decode cX9_takeOff 16 = .ok (.istore_n 2, 1) := by decide +kernel
theorem dX9_takeOff_17 : decode cX9_takeOff 17 = .ok (.iload_n 2, 1) := by decide +kernel
theorem dX9_takeOff_18 : decode cX9_takeOff 18 = .ok (.ifCond .lt 13, 3) := by decide +kernel
theorem dX9_takeOff_21 : decode cX9_takeOff 21 = .ok (.aload_n 0, 1) := by decide +kernel
theorem dX9_takeOff_22 : decode cX9_takeOff 22 = .ok (.iload_n 1, 1) := by decide +kernel
theorem dX9_takeOff_23 : decode cX9_takeOff 23 = .ok (.iload_n 2, 1) := by decide +kernel
theorem dX9_takeOff_24 : decode cX9_takeOff 24 = .ok (.iconst 1, 1) := by decide +kernel
theorem dX9_takeOff_25 : decode cX9_takeOff 25 = .ok (.invokevirtual 43, 3) := by decide +kernel
theorem dX9_takeOff_28 : decode cX9_takeOff 28 = .ok (.ifCond .eq 6, 3) := by decide +kernel
theorem dX9_takeOff_31 : decode cX9_takeOff 31 = .ok (.bipush (-2), 2) := by decide +kernel
theorem dX9_takeOff_33 : decode cX9_takeOff 33 = .ok (.ireturn, 1) := by decide +kernel
theorem dX9_takeOff_34 : decode cX9_takeOff 34 = .ok (.aload_n 0, 1) := by decide +kernel
theorem dX9_takeOff_35 : decode cX9_takeOff 35 = .ok (.invokevirtual 36, 3) := by decide +kernel
theorem dX9_takeOff_38 : decode cX9_takeOff 38 = .ok (.aload_n 0, 1) := by decide +kernel
theorem dX9_takeOff_39 : decode cX9_takeOff 39 = .ok (.getfield 7, 3) := by decide +kernel
theorem dX9_takeOff_42 : decode cX9_takeOff 42 = .ok (.iload_n 1, 1) := by decide +kernel
theorem dX9_takeOff_43 : decode cX9_takeOff 43 = .ok (.invokestatic 60, 3) := by decide +kernel
theorem dX9_takeOff_46 : decode cX9_takeOff 46 = .ok (.dup2, 1) := by decide +kernel
theorem dX9_takeOff_47 : decode cX9_takeOff 47 = .ok (.iaload, 1) := by decide +kernel
theorem dX9_takeOff_48 : decode cX9_takeOff 48 = .ok (.iconst 1, 1) := by decide +kernel
theorem dX9_takeOff_49 : decode cX9_takeOff 49 = .ok (.isub, 1) := by decide +kernel
theorem dX9_takeOff_50 : decode cX9_takeOff 50 = .ok (.iastore, 1) := by decide +kernel
theorem dX9_takeOff_51 : decode cX9_takeOff 51 = .ok (.aload_n 0, 1) := by decide +kernel
theorem dX9_takeOff_52 : decode cX9_takeOff 52 = .ok (.getfield 7, 3) := by decide +kernel
theorem dX9_takeOff_55 : decode cX9_takeOff 55 = .ok (.bipush 120, 2) := by decide +kernel
theorem dX9_takeOff_57 : decode cX9_takeOff 57 = .ok (.dup2, 1) := by decide +kernel
theorem dX9_takeOff_58 : decode cX9_takeOff 58 = .ok (.iaload, 1) := by decide +kernel
theorem dX9_takeOff_59 : decode cX9_takeOff 59 = .ok (.iconst 1, 1) := by decide +kernel
theorem dX9_takeOff_60 : decode cX9_takeOff 60 = .ok (.iadd, 1) := by decide +kernel
theorem dX9_takeOff_61 : decode cX9_takeOff 61 = .ok (.iastore, 1) := by decide +kernel
theorem dX9_takeOff_62 : decode cX9_takeOff 62 = .ok (.aload_n 0, 1) := by decide +kernel
theorem dX9_takeOff_63 : decode cX9_takeOff 63 = .ok (.iload_n 1, 1) := by decide +kernel
theorem dX9_takeOff_64 : decode cX9_takeOff 64 = .ok (.iload_n 2, 1) := by decide +kernel
theorem dX9_takeOff_65 : decode cX9_takeOff 65 = .ok (.iconst 0, 1) := by decide +kernel
theorem dX9_takeOff_66 : decode cX9_takeOff 66 = .ok (.invokevirtual 43, 3) := by decide +kernel
theorem dX9_takeOff_69 : decode cX9_takeOff 69 = .ok (.ireturn, 1) := by decide +kernel
theorem dX9_allLayers_0 : decode cX9_allLayers 0 = .ok (.iconst 0, 1) := by decide +kernel
theorem dX9_allLayers_1 : decode cX9_allLayers 1 = .ok (.istore_n 3, 1) := by decide +kernel
theorem dX9_allLayers_2 : decode cX9_allLayers 2 = .ok (.iconst 0, 1) := by decide +kernel
theorem dX9_allLayers_3 : decode cX9_allLayers 3 = .ok (.istore 4, 2) := by decide +kernel
theorem dX9_allLayers_5 : decode cX9_allLayers 5 = .ok (.iload 4, 2) := by decide +kernel
theorem dX9_allLayers_7 : decode cX9_allLayers 7 = .ok (.bipush 7, 2) := by decide +kernel
theorem dX9_allLayers_9 : decode cX9_allLayers 9 = .ok (.if_icmp .ge 20, 3) := by decide +kernel
theorem dX9_allLayers_12 : decode cX9_allLayers 12 = .ok (.iload_n 3, 1) := by decide +kernel
theorem dX9_allLayers_13 : decode cX9_allLayers 13 = .ok (.aload_n 0, 1) := by decide +kernel
theorem dX9_allLayers_14 : decode cX9_allLayers 14 = .ok (.iload 4, 2) := by decide +kernel
theorem dX9_allLayers_16 : decode cX9_allLayers 16 = .ok (.iload_n 1, 1) := by decide +kernel
theorem dX9_allLayers_17 : decode cX9_allLayers 17 = .ok (.iload_n 2, 1) := by decide +kernel
theorem dX9_allLayers_18 : decode cX9_allLayers 18 = .ok (.invokevirtual 70, 3) := by decide +kernel
theorem dX9_allLayers_21 : decode cX9_allLayers 21 = .ok (.iadd, 1) := by decide +kernel
theorem dX9_allLayers_22 : decode cX9_allLayers 22 = .ok (.istore_n 3, 1) := by decide +kernel
theorem dX9_allLayers_23 : decode cX9_allLayers 23 = .ok (.iinc 4 1, 3) := by decide +kernel
theorem dX9_allLayers_26 : decode cX9_allLayers 26 = .ok (.goto (-21), 3) := by decide +kernel
theorem dX9_allLayers_29 : decode cX9_allLayers 29 = .ok (.iload_n 3, 1) := by decide +kernel
theorem dX9_allLayers_30 : decode cX9_allLayers 30 = .ok (.ireturn, 1) := by decide +kernel
theorem dX9_clean_0 : decode cX9_clean 0 = .ok (.aload_n 0, 1) := by decide +kernel
theorem dX9_clean_1 : decode cX9_clean 1 = .ok (.invokevirtual 36, 3) := by decide +kernel
theorem dX9_clean_4 : decode cX9_clean 4 = .ok (.aload_n 0, 1) := by decide +kernel
theorem dX9_clean_5 : decode cX9_clean 5 = .ok (.iconst 0, 1) := by decide +kernel
theorem dX9_clean_6 : decode cX9_clean 6 = .ok (.iconst 4, 1) := by decide +kernel
theorem dX9_clean_7 : decode cX9_clean 7 = .ok (.invokevirtual 73, 3) := by decide +kernel
theorem dX9_clean_10 : decode cX9_clean 10 = .ok (.istore_n 1, 1) := by decide +kernel
theorem dX9_clean_11 : decode cX9_clean 11 = .ok (.iconst 0, 1) := by decide +kernel
theorem dX9_clean_12 : decode cX9_clean 12 = .ok (.istore_n 2, 1) := by decide +kernel
theorem dX9_clean_13 : decode cX9_clean 13 = .ok (.iload_n 2, 1) := by decide +kernel
theorem dX9_clean_14 : decode cX9_clean 14 = .ok (.bipush 7, 2) := by decide +kernel
theorem dX9_clean_16 : decode cX9_clean 16 = .ok (.if_icmp .ge 31, 3) := by decide +kernel
theorem dX9_clean_19 : decode cX9_clean 19 = .ok (.aload_n 0, 1) := by decide +kernel
theorem dX9_clean_20 : decode cX9_clean 20 = .ok (.getfield 7, 3) := by decide +kernel
theorem dX9_clean_23 : decode cX9_clean 23 = .ok (.iload_n 2, 1) := by decide +kernel
theorem dX9_clean_24 : decode cX9_clean 24 = .ok (.invokestatic 60, 3) := by decide +kernel
theorem dX9_clean_27 : decode cX9_clean 27 = .ok (.iconst 0, 1) := by decide +kernel
theorem dX9_clean_28 : decode cX9_clean 28 = .ok (.iastore, 1) := by decide +kernel
theorem dX9_clean_29 : decode cX9_clean 29 = .ok (.aload_n 0, 1) := by decide +kernel
theorem dX9_clean_30 : decode cX9_clean 30 = .ok (.getfield 7, 3) := by decide +kernel
theorem dX9_clean_33 : decode cX9_clean 33 = .ok (.iload_n 2, 1) := by decide +kernel
theorem dX9_clean_34 : decode cX9_clean 34 = .ok (.invokestatic 60, 3) := by decide +kernel
theorem dX9_clean_37 : decode cX9_clean 37 = .ok (.iconst 1, 1) := by decide +kernel
theorem dX9_clean_38 : decode cX9_clean 38 = .ok (.iadd, 1) := by decide +kernel
theorem dX9_clean_39 : decode cX9_clean 39 = .ok (.iconst 0, 1) := by decide +kernel
theorem dX9_clean_40 : decode cX9_clean 40 = .ok (.iastore, 1) := by decide +kernel
theorem dX9_clean_41 : decode cX9_clean 41 = .ok (.iinc 2 1, 3) := by decide +kernel
theorem dX9_clean_44 : decode cX9_clean 44 = .ok (.goto (-31), 3) := by decide +kernel
theorem dX9_clean_47 : decode cX9_clean 47 = .ok (.aload_n 0, 1) := by decide +kernel
theorem dX9_clean_48 : decode cX9_clean 48 = .ok (.getfield 7, 3) := by decide +kernel
theorem dX9_clean_51 : decode cX9_clean 51 = .ok (.bipush 119, 2) := by decide +kernel
theorem dX9_clean_53 : decode cX9_clean 53 = .ok (.iconst 0, 1) := by decide +kernel
theorem dX9_clean_54 : decode cX9_clean 54 = .ok (.iastore, 1) := by decide +kernel
theorem dX9_clean_55 : decode cX9_clean 55 = .ok (.aload_n 0, 1) := by decide +kernel
theorem dX9_clean_56 : decode cX9_clean 56 = .ok (.getfield 7, 3) := by decide +kernel
theorem dX9_clean_59 : decode cX9_clean 59 = .ok (.bipush 120, 2) := by decide +kernel
theorem dX9_clean_61 : decode cX9_clean 61 = .ok (.iconst 0, 1) := by decide +kernel
theorem dX9_clean_62 : decode cX9_clean 62 = .ok (.iastore, 1) := by decide +kernel
theorem dX9_clean_63 : decode cX9_clean 63 = .ok (.iload_n 1, 1) := by decide +kernel
theorem dX9_clean_64 : decode cX9_clean 64 = .ok (.ireturn, 1) := by decide +kernel
theorem dX9_layer_0 : decode cX9_layer 0 = .ok (.iload_n 1, 1) := by decide +kernel
theorem dX9_layer_1 : decode cX9_layer 1 = .ok (.invokestatic 67, 3) := by decide +kernel
theorem dX9_layer_4 : decode cX9_layer 4 = .ok (.ifCond .eq 16, 3) := by decide +kernel
theorem dX9_layer_7 : decode cX9_layer 7 = .ok (.iload_n 2, 1) := by decide +kernel
theorem dX9_layer_8 : decode cX9_layer 8 = .ok (.ifCond .lt 12, 3) := by decide +kernel
theorem dX9_layer_11 : decode cX9_layer 11 = .ok (.iload_n 3, 1) := by decide +kernel
theorem dX9_layer_12 : decode cX9_layer 12 = .ok (.iconst 0, 1) := by decide +kernel
theorem dX9_layer_13 : decode cX9_layer 13 = .ok (.iconst 2, 1) := by decide +kernel
theorem dX9_layer_14 : decode cX9_layer 14 = .ok (.invokestatic 32, 3) := by decide +kernel
theorem dX9_layer_17 : decode cX9_layer 17 = .ok (.ifCond .ne 5, 3) := by decide +kernel
theorem dX9_layer_20 : decode cX9_layer 20 = .ok (.iconst (-1), 1) := by decide +kernel
theorem dX9_layer_21 : decode cX9_layer 21 = .ok (.ireturn, 1) := by decide +kernel
theorem dX9_layer_22 : decode cX9_layer 22 = .ok (.iload_n 2, 1) := by decide +kernel
theorem dX9_layer_23 : decode cX9_layer 23 = .ok (.aload_n 0, 1) := by decide +kernel
theorem dX9_layer_24 : decode cX9_layer 24 = .ok (.iload_n 1, 1) := by decide +kernel
theorem dX9_layer_25 : decode cX9_layer 25 = .ok (.invokevirtual 39, 3) := by decide +kernel
theorem dX9_layer_28 : decode cX9_layer 28 = .ok (.if_icmp .lt 8, 3) := by decide +kernel
theorem dX9_layer_31 : decode cX9_layer 31 = .ok (.bipush (-4), 2) := by decide +kernel
theorem dX9_layer_33 : decode cX9_layer 33 = .ok (.goto 10, 3) := by decide +kernel
theorem dX9_layer_36 : decode cX9_layer 36 = .ok (.aload_n 0, 1) := by decide +kernel
theorem dX9_layer_37 : decode cX9_layer 37 = .ok (.iload_n 1, 1) := by decide +kernel
theorem dX9_layer_38 : decode cX9_layer 38 = .ok (.iload_n 2, 1) := by decide +kernel
theorem dX9_layer_39 : decode cX9_layer 39 = .ok (.iload_n 3, 1) := by decide +kernel
theorem dX9_layer_40 : decode cX9_layer 40 = .ok (.invokevirtual 43, 3) := by decide +kernel
theorem dX9_layer_43 : decode cX9_layer 43 = .ok (.ireturn, 1) := by decide +kernel
theorem dX9_pull_0 : decode cX9_pull 0 = .ok (.iconst 0, 1) := by decide +kernel
theorem dX9_pull_1 : decode cX9_pull 1 = .ok (.istore_n 2, 1) := by decide +kernel
theorem dX9_pull_2 : decode cX9_pull 2 = .ok (.iconst 0, 1) := by decide +kernel
theorem dX9_pull_3 : decode cX9_pull 3 = .ok (.istore_n 3, 1) := by decide +kernel
theorem dX9_pull_4 : decode cX9_pull 4 = .ok (.iload_n 3, 1) := by decide +kernel
theorem dX9_pull_5 : decode cX9_pull 5 = .ok (.aload_n 0, 1) := by decide +kernel
theorem dX9_pull_6 : decode cX9_pull 6 = .ok (.iload_n 1, 1) := by decide +kernel
theorem dX9_pull_7 : decode cX9_pull 7 = .ok (.invokevirtual 39, 3) := by decide +kernel
theorem dX9_pull_10 : decode cX9_pull 10 = .ok (.if_icmp .ge 42, 3) := by decide +kernel
theorem dX9_pull_13 : decode cX9_pull 13 = .ok (.iload_n 2, 1) := by decide +kernel
theorem dX9_pull_14 : decode cX9_pull 14 = .ok (.aload_n 0, 1) := by decide +kernel
theorem dX9_pull_15 : decode cX9_pull 15 = .ok (.iload_n 1, 1) := by decide +kernel
theorem dX9_pull_16 : decode cX9_pull 16 = .ok (.iload_n 3, 1) := by decide +kernel
theorem dX9_pull_17 : decode cX9_pull 17 = .ok (.iconst 1, 1) := by decide +kernel
theorem dX9_pull_18 : decode cX9_pull 18 = .ok (.invokevirtual 43, 3) := by decide +kernel
theorem dX9_pull_21 : decode cX9_pull 21 = .ok (.iconst 2, 1) := by decide +kernel
theorem dX9_pull_22 : decode cX9_pull 22 = .ok (.iconst 3, 1) := by decide +kernel
theorem dX9_pull_23 : decode cX9_pull 23 = .ok (.invokestatic 32, 3) := by decide +kernel
theorem dX9_pull_26 : decode cX9_pull 26 = .ok (.ifCond .eq 17, 3) := by decide +kernel
theorem dX9_pull_29 : decode cX9_pull 29 = .ok (.aload_n 0, 1) := by decide +kernel
theorem dX9_pull_30 : decode cX9_pull 30 = .ok (.aload_n 0, 1) := by decide +kernel
theorem dX9_pull_31 : decode cX9_pull 31 = .ok (.iload_n 1, 1) := by decide +kernel
theorem dX9_pull_32 : decode cX9_pull 32 = .ok (.iload_n 3, 1) := by decide +kernel
theorem dX9_pull_33 : decode cX9_pull 33 = .ok (.iconst 0, 1) := by decide +kernel
theorem dX9_pull_34 : decode cX9_pull 34 = .ok (.invokevirtual 43, 3) := by decide +kernel
theorem dX9_pull_37 : decode cX9_pull 37 = .ok (.invokevirtual 51, 3) := by decide +kernel
theorem dX9_pull_40 : decode cX9_pull 40 = .ok (.goto 4, 3) := by decide +kernel
theorem dX9_pull_43 : decode cX9_pull 43 = .ok (.iconst 0, 1) := by decide +kernel
theorem dX9_pull_44 : decode cX9_pull 44 = .ok (.iadd, 1) := by decide +kernel
theorem dX9_pull_45 : decode cX9_pull 45 = .ok (.istore_n 2, 1) := by decide +kernel
theorem dX9_pull_46 : decode cX9_pull 46 = .ok (.iinc 3 1, 3) := by decide +kernel
theorem dX9_pull_49 : decode cX9_pull 49 = .ok (.goto (-45), 3) := by decide +kernel
theorem dX9_pull_52 : decode cX9_pull 52 = .ok (.iload_n 2, 1) := by decide +kernel
theorem dX9_pull_53 : decode cX9_pull 53 = .ok (.ireturn, 1) := by decide +kernel
theorem dX9_strain_0 : decode cX9_strain 0 = .ok (.aload_n 0, 1) := by decide +kernel
theorem dX9_strain_1 : decode cX9_strain 1 = .ok (.iload_n 1, 1) := by decide +kernel
theorem dX9_strain_2 : decode cX9_strain 2 = .ok (.invokevirtual 76, 3) := by decide +kernel
theorem dX9_strain_5 : decode cX9_strain 5 = .ok (.iload_n 2, 1) := by decide +kernel
theorem dX9_strain_6 : decode cX9_strain 6 = .ok (.isub, 1) := by decide +kernel
theorem dX9_strain_7 : decode cX9_strain 7 = .ok (.istore_n 3, 1) := by decide +kernel
theorem dX9_strain_8 : decode cX9_strain 8 = .ok (.iload_n 3, 1) := by decide +kernel
theorem dX9_strain_9 : decode cX9_strain 9 = .ok (.ifCond .ge 8, 3) := by decide +kernel
theorem dX9_strain_12 : decode cX9_strain 12 = .ok (.iload_n 3, 1) := by decide +kernel
theorem dX9_strain_13 : decode cX9_strain 13 = .ok (.ineg, 1) := by decide +kernel
theorem dX9_strain_14 : decode cX9_strain 14 = .ok (.goto 4, 3) := by decide +kernel
theorem dX9_strain_17 : decode cX9_strain 17 = .ok (.iload_n 3, 1) := by decide +kernel
theorem dX9_strain_18 : decode cX9_strain 18 = .ok (.ireturn, 1) := by decide +kernel
theorem dX9_greatestMelting_0 : decode cX9_greatestMelting 0 = .ok (.bipush (-4), 2) := by decide +kernel
theorem dX9_greatestMelting_2 : decode cX9_greatestMelting 2 = .ok (.istore_n 2, 1) := by decide +kernel
theorem dX9_greatestMelting_3 : decode cX9_greatestMelting 3 = .ok (.iconst 0, 1) := by decide +kernel
theorem dX9_greatestMelting_4 : decode cX9_greatestMelting 4 = .ok (.istore_n 3, 1) := by decide +kernel
theorem dX9_greatestMelting_5 : decode cX9_greatestMelting 5 = .ok (.iload_n 3, 1) := by decide +kernel
theorem dX9_greatestMelting_6 : decode cX9_greatestMelting 6 = .ok (.aload_n 0, 1) := by decide +kernel
theorem dX9_greatestMelting_7 : decode cX9_greatestMelting 7 = .ok (.iload_n 1, 1) := by decide +kernel
theorem dX9_greatestMelting_8 : decode cX9_greatestMelting 8 = .ok (.invokevirtual 39, 3) := by decide +kernel
theorem dX9_greatestMelting_11 : decode cX9_greatestMelting 11 = .ok (.if_icmp .ge 35, 3) := by decide +kernel
theorem dX9_greatestMelting_14 : decode cX9_greatestMelting 14 = .ok (.aload_n 0, 1) := by decide +kernel
theorem dX9_greatestMelting_15 : decode cX9_greatestMelting 15 = .ok (.aload_n 0, 1) := by decide +kernel
theorem dX9_greatestMelting_16 : decode cX9_greatestMelting 16 = .ok (.iload_n 1, 1) := by decide +kernel
theorem dX9_greatestMelting_17 : decode cX9_greatestMelting 17 = .ok (.iload_n 3, 1) := by decide +kernel
theorem dX9_greatestMelting_18 : decode cX9_greatestMelting 18 = .ok (.iconst 0, 1) := by decide +kernel
theorem dX9_greatestMelting_19 : decode cX9_greatestMelting 19 = .ok (.invokevirtual 43, 3) := by decide +kernel
theorem dX9_greatestMelting_22 : decode cX9_greatestMelting 22 = .ok (.invokevirtual 79, 3) := by decide +kernel
theorem dX9_greatestMelting_25 : decode cX9_greatestMelting 25 = .ok (.istore 4, 2) := by decide +kernel
theorem dX9_greatestMelting_27 : decode cX9_greatestMelting 27 = .ok (.iload 4, 2) := by decide +kernel
theorem dX9_greatestMelting_29 : decode cX9_greatestMelting 29 = .ok (.iload_n 2, 1) := by decide +kernel
theorem dX9_greatestMelting_30 : decode cX9_greatestMelting 30 = .ok (.if_icmp .le 8, 3) := by decide +kernel
theorem dX9_greatestMelting_33 : decode cX9_greatestMelting 33 = .ok (.iload 4, 2) := by decide +kernel
theorem dX9_greatestMelting_35 : decode cX9_greatestMelting 35 = .ok (.goto 4, 3) := by decide +kernel
theorem dX9_greatestMelting_38 : decode cX9_greatestMelting 38 = .ok (.iload_n 2, 1) := by decide +kernel
theorem dX9_greatestMelting_39 : decode cX9_greatestMelting 39 = .ok (.istore_n 2, 1) := by decide +kernel
theorem dX9_greatestMelting_40 : decode cX9_greatestMelting 40 = .ok (.iinc 3 1, 3) := by decide +kernel
theorem dX9_greatestMelting_43 : decode cX9_greatestMelting 43 = .ok (.goto (-38), 3) := by decide +kernel
theorem dX9_greatestMelting_46 : decode cX9_greatestMelting 46 = .ok (.iload_n 2, 1) := by decide +kernel
theorem dX9_greatestMelting_47 : decode cX9_greatestMelting 47 = .ok (.ireturn, 1) := by decide +kernel
theorem dX9_leastBurning_0 : decode cX9_leastBurning 0 = .ok (.bipush (-4), 2) := by decide +kernel
theorem dX9_leastBurning_2 : decode cX9_leastBurning 2 = .ok (.istore_n 2, 1) := by decide +kernel
theorem dX9_leastBurning_3 : decode cX9_leastBurning 3 = .ok (.iconst 0, 1) := by decide +kernel
theorem dX9_leastBurning_4 : decode cX9_leastBurning 4 = .ok (.istore_n 3, 1) := by decide +kernel
theorem dX9_leastBurning_5 : decode cX9_leastBurning 5 = .ok (.iload_n 3, 1) := by decide +kernel
theorem dX9_leastBurning_6 : decode cX9_leastBurning 6 = .ok (.aload_n 0, 1) := by decide +kernel
theorem dX9_leastBurning_7 : decode cX9_leastBurning 7 = .ok (.iload_n 1, 1) := by decide +kernel
theorem dX9_leastBurning_8 : decode cX9_leastBurning 8 = .ok (.invokevirtual 39, 3) := by decide +kernel
theorem dX9_leastBurning_11 : decode cX9_leastBurning 11 = .ok (.if_icmp .ge 52, 3) := by decide +kernel
theorem dX9_leastBurning_14 : decode cX9_leastBurning 14 = .ok (.aload_n 0, 1) := by decide +kernel
theorem dX9_leastBurning_15 : decode cX9_leastBurning 15 = .ok (.aload_n 0, 1) := by decide +kernel
theorem dX9_leastBurning_16 : decode cX9_leastBurning 16 = .ok (.iload_n 1, 1) := by decide +kernel
theorem dX9_leastBurning_17 : decode cX9_leastBurning 17 = .ok (.iload_n 3, 1) := by decide +kernel
theorem dX9_leastBurning_18 : decode cX9_leastBurning 18 = .ok (.iconst 0, 1) := by decide +kernel
theorem dX9_leastBurning_19 : decode cX9_leastBurning 19 = .ok (.invokevirtual 43, 3) := by decide +kernel
theorem dX9_leastBurning_22 : decode cX9_leastBurning 22 = .ok (.invokevirtual 82, 3) := by decide +kernel
theorem dX9_leastBurning_25 : decode cX9_leastBurning 25 = .ok (.istore 4, 2) := by decide +kernel
theorem dX9_leastBurning_27 : decode cX9_leastBurning 27 = .ok (.aload_n 0, 1) := by decide +kernel
theorem dX9_leastBurning_28 : decode cX9_leastBurning 28 = .ok (.iload_n 1, 1) := by decide +kernel
theorem dX9_leastBurning_29 : decode cX9_leastBurning 29 = .ok (.iload_n 3, 1) := by decide +kernel
theorem dX9_leastBurning_30 : decode cX9_leastBurning 30 = .ok (.iconst 1, 1) := by decide +kernel
theorem dX9_leastBurning_31 : decode cX9_leastBurning 31 = .ok (.invokevirtual 43, 3) := by decide +kernel
theorem dX9_leastBurning_34 : decode cX9_leastBurning 34 = .ok (.iconst 4, 1) := by decide +kernel
theorem dX9_leastBurning_35 : decode cX9_leastBurning 35 = .ok (.if_icmp .eq 20, 3) := by decide +kernel
theorem dX9_leastBurning_38 : decode cX9_leastBurning 38 = .ok (.iload_n 2, 1) := by decide +kernel
theorem dX9_leastBurning_39 : decode cX9_leastBurning 39 = .ok (.bipush (-4), 2) := by decide +kernel
theorem dX9_leastBurning_41 : decode cX9_leastBurning 41 = .ok (.if_icmp .eq 9, 3) := by decide +kernel
theorem dX9_leastBurning_44 : decode cX9_leastBurning 44 = .ok (.iload 4, 2) := by decide +kernel
theorem dX9_leastBurning_46 : decode cX9_leastBurning 46 = .ok (.iload_n 2, 1) := by decide +kernel
theorem dX9_leastBurning_47 : decode cX9_leastBurning 47 = .ok (.if_icmp .ge 8, 3) := by decide +kernel
theorem dX9_leastBurning_50 : decode cX9_leastBurning 50 = .ok (.iload 4, 2) := by decide +kernel
theorem dX9_leastBurning_52 : decode cX9_leastBurning 52 = .ok (.goto 4, 3) := by decide +kernel
theorem dX9_leastBurning_55 : decode cX9_leastBurning 55 = .ok (.iload_n 2, 1) := by decide +kernel
theorem dX9_leastBurning_56 : decode cX9_leastBurning 56 = .ok (.istore_n 2, 1) := by decide +kernel
theorem dX9_leastBurning_57 : decode cX9_leastBurning 57 = .ok (.iinc 3 1, 3) := by decide +kernel
theorem dX9_leastBurning_60 : decode cX9_leastBurning 60 = .ok (.goto (-55), 3) := by decide +kernel
theorem dX9_leastBurning_63 : decode cX9_leastBurning 63 = .ok (.iload_n 2, 1) := by decide +kernel
theorem dX9_leastBurning_64 : decode cX9_leastBurning 64 = .ok (.ireturn, 1) := by decide +kernel
theorem dX9_field_0 : decode cX9_field 0 = .ok (.iload_n 1, 1) := by decide +kernel
theorem dX9_field_1 : decode cX9_field 1 = .ok (.invokestatic 67, 3) := by decide +kernel
theorem dX9_field_4 : decode cX9_field 4 = .ok (.ifCond .eq 12, 3) := by decide +kernel
theorem dX9_field_7 : decode cX9_field 7 = .ok (.iload_n 2, 1) := by decide +kernel
theorem dX9_field_8 : decode cX9_field 8 = .ok (.iconst 0, 1) := by decide +kernel
theorem dX9_field_9 : decode cX9_field 9 = .ok (.iconst 5, 1) := by decide +kernel
theorem dX9_field_10 : decode cX9_field 10 = .ok (.invokestatic 32, 3) := by decide +kernel
theorem dX9_field_13 : decode cX9_field 13 = .ok (.ifCond .ne 5, 3) := by decide +kernel
theorem dX9_field_16 : decode cX9_field 16 = .ok (.iconst (-1), 1) := by decide +kernel
theorem dX9_field_17 : decode cX9_field 17 = .ok (.ireturn, 1) := by decide +kernel
theorem dX9_field_18 : decode cX9_field 18 = .ok (.iload_n 2, 1) := by decide +kernel
theorem dX9_field_19 : decode cX9_field 19 = .ok (.tableswitch 97 0 4 #[33, 39, 45, 68, 91], 33) := by decide +kernel
theorem dX9_field_52 : decode cX9_field 52 = .ok (.aload_n 0, 1) := by decide +kernel
theorem dX9_field_53 : decode cX9_field 53 = .ok (.iload_n 1, 1) := by decide +kernel
theorem dX9_field_54 : decode cX9_field 54 = .ok (.invokevirtual 39, 3) := by decide +kernel
theorem dX9_field_57 : decode cX9_field 57 = .ok (.ireturn, 1) := by decide +kernel
theorem dX9_field_58 : decode cX9_field 58 = .ok (.aload_n 0, 1) := by decide +kernel
theorem dX9_field_59 : decode cX9_field 59 = .ok (.iload_n 1, 1) := by decide +kernel
theorem dX9_field_60 : decode cX9_field 60 = .ok (.invokevirtual 76, 3) := by decide +kernel
theorem dX9_field_63 : decode cX9_field 63 = .ok (.ireturn, 1) := by decide +kernel
theorem dX9_field_64 : decode cX9_field 64 = .ok (.iload_n 1, 1) := by decide +kernel
theorem dX9_field_65 : decode cX9_field 65 = .ok (.bipush 6, 2) := by decide +kernel
theorem dX9_field_67 : decode cX9_field 67 = .ok (.if_icmp .ne 8, 3) := by decide +kernel
theorem dX9_field_70 : decode cX9_field 70 = .ok (.bipush (-4), 2) := by decide +kernel
theorem dX9_field_72 : decode cX9_field 72 = .ok (.goto 14, 3) := by decide +kernel
theorem dX9_field_75 : decode cX9_field 75 = .ok (.aload_n 0, 1) := by decide +kernel
theorem dX9_field_76 : decode cX9_field 76 = .ok (.iload_n 1, 1) := by decide +kernel
theorem dX9_field_77 : decode cX9_field 77 = .ok (.aload_n 0, 1) := by decide +kernel
theorem dX9_field_78 : decode cX9_field 78 = .ok (.bipush 6, 2) := by decide +kernel
theorem dX9_field_80 : decode cX9_field 80 = .ok (.invokevirtual 76, 3) := by decide +kernel
theorem dX9_field_83 : decode cX9_field 83 = .ok (.invokevirtual 85, 3) := by decide +kernel
theorem dX9_field_86 : decode cX9_field 86 = .ok (.ireturn, 1) := by decide +kernel
theorem dX9_field_87 : decode cX9_field 87 = .ok (.iload_n 1, 1) := by decide +kernel
theorem dX9_field_88 : decode cX9_field 88 = .ok (.bipush 6, 2) := by decide +kernel
theorem dX9_field_90 : decode cX9_field 90 = .ok (.if_icmp .ne 8, 3) := by decide +kernel
theorem dX9_field_93 : decode cX9_field 93 = .ok (.bipush (-4), 2) := by decide +kernel
theorem dX9_field_95 : decode cX9_field 95 = .ok (.goto 14, 3) := by decide +kernel
theorem dX9_field_98 : decode cX9_field 98 = .ok (.aload_n 0, 1) := by decide +kernel
theorem dX9_field_99 : decode cX9_field 99 = .ok (.getfield 7, 3) := by decide +kernel
theorem dX9_field_102 : decode cX9_field 102 = .ok (.iload_n 1, 1) := by decide +kernel
theorem dX9_field_103 : decode cX9_field 103 = .ok (.invokestatic 60, 3) := by decide +kernel
theorem dX9_field_106 : decode cX9_field 106 = .ok (.iconst 1, 1) := by decide +kernel
theorem dX9_field_107 : decode cX9_field 107 = .ok (.iadd, 1) := by decide +kernel
theorem dX9_field_108 : decode cX9_field 108 = .ok (.iaload, 1) := by decide +kernel
theorem dX9_field_109 : decode cX9_field 109 = .ok (.ireturn, 1) := by decide +kernel
theorem dX9_field_110 : decode cX9_field 110 = .ok (.aload_n 0, 1) := by decide +kernel
theorem dX9_field_111 : decode cX9_field 111 = .ok (.iload_n 1, 1) := by decide +kernel
theorem dX9_field_112 : decode cX9_field 112 = .ok (.invokevirtual 88, 3) := by decide +kernel
theorem dX9_field_115 : decode cX9_field 115 = .ok (.ireturn, 1) := by decide +kernel
theorem dX9_field_116 : decode cX9_field 116 = .ok (.aload_n 0, 1) := by decide +kernel
theorem dX9_field_117 : decode cX9_field 117 = .ok (.iload_n 1, 1) := by decide +kernel
theorem dX9_field_118 : decode cX9_field 118 = .ok (.invokevirtual 91, 3) := by decide +kernel
theorem dX9_field_121 : decode cX9_field 121 = .ok (.ireturn, 1) := by decide +kernel
theorem dX9_isSetting_0 : decode cX9_isSetting 0 = .ok (.iload_n 0, 1) := by decide +kernel
theorem dX9_isSetting_1 : decode cX9_isSetting 1 = .ok (.lookupswitch 42 #[(0, 27), (1, 35)], 27) := by decide +kernel
theorem dX9_isSetting_28 : decode cX9_isSetting 28 = .ok (.iload_n 1, 1) := by decide +kernel
theorem dX9_isSetting_29 : decode cX9_isSetting 29 = .ok (.iconst 1, 1) := by decide +kernel
theorem dX9_isSetting_30 : decode cX9_isSetting 30 = .ok (.bipush 10, 2) := by decide +kernel
theorem dX9_isSetting_32 : decode cX9_isSetting 32 = .ok (.invokestatic 32, 3) := by decide +kernel
theorem dX9_isSetting_35 : decode cX9_isSetting 35 = .ok (.ireturn, 1) := by decide +kernel
theorem dX9_isSetting_36 : decode cX9_isSetting 36 = .ok (.iload_n 1, 1) := by decide +kernel
theorem dX9_isSetting_37 : decode cX9_isSetting 37 = .ok (.iconst 0, 1) := by decide +kernel
theorem dX9_isSetting_38 : decode cX9_isSetting 38 = .ok (.iconst 5, 1) := by decide +kernel
theorem dX9_isSetting_39 : decode cX9_isSetting 39 = .ok (.invokestatic 32, 3) := by decide +kernel
theorem dX9_isSetting_42 : decode cX9_isSetting 42 = .ok (.ireturn, 1) := by decide +kernel
theorem dX9_isSetting_43 : decode cX9_isSetting 43 = .ok (.iload_n 0, 1) := by decide +kernel
theorem dX9_isSetting_44 : decode cX9_isSetting 44 = .ok (.iconst 2, 1) := by decide +kernel
theorem dX9_isSetting_45 : decode cX9_isSetting 45 = .ok (.if_icmp .ne 18, 3) := by decide +kernel
theorem dX9_isSetting_48 : decode cX9_isSetting 48 = .ok (.iload_n 1, 1) := by decide +kernel
theorem dX9_isSetting_49 : decode cX9_isSetting 49 = .ok (.iconst 0, 1) := by decide +kernel
theorem dX9_isSetting_50 : decode cX9_isSetting 50 = .ok (.sipush 400, 3) := by decide +kernel
theorem dX9_isSetting_53 : decode cX9_isSetting 53 = .ok (.invokestatic 32, 3) := by decide +kernel
theorem dX9_isSetting_56 : decode cX9_isSetting 56 = .ok (.ifCond .eq 7, 3) := by decide +kernel
theorem dX9_isSetting_59 : decode cX9_isSetting 59 = .ok (.iconst 1, 1) := by decide +kernel
theorem dX9_isSetting_60 : decode cX9_isSetting 60 = .ok (.goto 4, 3) := by decide +kernel
theorem dX9_isSetting_63 : decode cX9_isSetting 63 = .ok (.iconst 0, 1) := by decide +kernel
theorem dX9_isSetting_64 : decode cX9_isSetting 64 = .ok (.ireturn, 1) := by decide +kernel
theorem dX9_set_0 : decode cX9_set 0 = .ok (.iload_n 1, 1) := by decide +kernel
theorem dX9_set_1 : decode cX9_set 1 = .ok (.iload_n 2, 1) := by decide +kernel
theorem dX9_set_2 : decode cX9_set 2 = .ok (.invokestatic 94, 3) := by decide +kernel
theorem dX9_set_5 : decode cX9_set 5 = .ok (.ifCond .ne 5, 3) := by decide +kernel
theorem dX9_set_8 : decode cX9_set 8 = .ok (.iconst (-1), 1) := by decide +kernel
theorem dX9_set_9 : decode cX9_set 9 = .ok (.ireturn, 1) := by decide +kernel
theorem dX9_set_10 : decode cX9_set 10 = .ok (.aload_n 0, 1) := by decide +kernel
theorem dX9_set_11 : decode cX9_set 11 = .ok (.invokevirtual 36, 3) := by decide +kernel
theorem dX9_set_14 : decode cX9_set 14 = .ok (.aload_n 0, 1) := by decide +kernel
theorem dX9_set_15 : decode cX9_set 15 = .ok (.getfield 7, 3) := by decide +kernel
theorem dX9_set_18 : decode cX9_set 18 = .ok (.bipush 114, 2) := by decide +kernel
theorem dX9_set_20 : decode cX9_set 20 = .ok (.iload_n 1, 1) := by decide +kernel
theorem dX9_set_21 : decode cX9_set 21 = .ok (.iadd, 1) := by decide +kernel
theorem dX9_set_22 : decode cX9_set 22 = .ok (.iaload, 1) := by decide +kernel
theorem dX9_set_23 : decode cX9_set 23 = .ok (.istore_n 3, 1) := by decide +kernel
theorem dX9_set_24 : decode cX9_set 24 = .ok (.aload_n 0, 1) := by decide +kernel
theorem dX9_set_25 : decode cX9_set 25 = .ok (.getfield 7, 3) := by decide +kernel
theorem dX9_set_28 : decode cX9_set 28 = .ok (.bipush 114, 2) := by decide +kernel
theorem dX9_set_30 : decode cX9_set 30 = .ok (.iload_n 1, 1) := by decide +kernel
theorem dX9_set_31 : decode cX9_set 31 = .ok (.iadd, 1) := by decide +kernel
theorem dX9_set_32 : decode cX9_set 32 = .ok (.iload_n 2, 1) := by decide +kernel
theorem dX9_set_33 : decode cX9_set 33 = .ok (.iastore, 1) := by decide +kernel
theorem dX9_set_34 : decode cX9_set 34 = .ok (.iload_n 3, 1) := by decide +kernel
theorem dX9_set_35 : decode cX9_set 35 = .ok (.ireturn, 1) := by decide +kernel
theorem dX9_crackedOnes_0 : decode cX9_crackedOnes 0 = .ok (.iconst 0, 1) := by decide +kernel
theorem dX9_crackedOnes_1 : decode cX9_crackedOnes 1 = .ok (.istore_n 1, 1) := by decide +kernel
theorem dX9_crackedOnes_2 : decode cX9_crackedOnes 2 = .ok (.iconst 0, 1) := by decide +kernel
theorem dX9_crackedOnes_3 : decode cX9_crackedOnes 3 = .ok (.istore_n 2, 1) := by decide +kernel
theorem dX9_crackedOnes_4 : decode cX9_crackedOnes 4 = .ok (.iload_n 2, 1) := by decide +kernel
theorem dX9_crackedOnes_5 : decode cX9_crackedOnes 5 = .ok (.bipush 6, 2) := by decide +kernel
theorem dX9_crackedOnes_7 : decode cX9_crackedOnes 7 = .ok (.if_icmp .ge 23, 3) := by decide +kernel
theorem dX9_crackedOnes_10 : decode cX9_crackedOnes 10 = .ok (.iload_n 1, 1) := by decide +kernel
theorem dX9_crackedOnes_11 : decode cX9_crackedOnes 11 = .ok (.aload_n 0, 1) := by decide +kernel
theorem dX9_crackedOnes_12 : decode cX9_crackedOnes 12 = .ok (.getfield 7, 3) := by decide +kernel
theorem dX9_crackedOnes_15 : decode cX9_crackedOnes 15 = .ok (.iload_n 2, 1) := by decide +kernel
theorem dX9_crackedOnes_16 : decode cX9_crackedOnes 16 = .ok (.invokestatic 60, 3) := by decide +kernel
theorem dX9_crackedOnes_19 : decode cX9_crackedOnes 19 = .ok (.iconst 1, 1) := by decide +kernel
theorem dX9_crackedOnes_20 : decode cX9_crackedOnes 20 = .ok (.iadd, 1) := by decide +kernel
theorem dX9_crackedOnes_21 : decode cX9_crackedOnes 21 = .ok (.iaload, 1) := by decide +kernel
theorem dX9_crackedOnes_22 : decode cX9_crackedOnes 22 = .ok (.iadd, 1) := by decide +kernel
theorem dX9_crackedOnes_23 : decode cX9_crackedOnes 23 = .ok (.istore_n 1, 1) := by decide +kernel
theorem dX9_crackedOnes_24 : decode cX9_crackedOnes 24 = .ok (.iinc 2 1, 3) := by decide +kernel
theorem dX9_crackedOnes_27 : decode cX9_crackedOnes 27 = .ok (.goto (-23), 3) := by decide +kernel
theorem dX9_crackedOnes_30 : decode cX9_crackedOnes 30 = .ok (.iload_n 1, 1) := by decide +kernel
theorem dX9_crackedOnes_31 : decode cX9_crackedOnes 31 = .ok (.ireturn, 1) := by decide +kernel
theorem dX9_wishedOnes_0 : decode cX9_wishedOnes 0 = .ok (.iconst 0, 1) := by decide +kernel
theorem dX9_wishedOnes_1 : decode cX9_wishedOnes 1 = .ok (.istore_n 1, 1) := by decide +kernel
theorem dX9_wishedOnes_2 : decode cX9_wishedOnes 2 = .ok (.iconst 0, 1) := by decide +kernel
theorem dX9_wishedOnes_3 : decode cX9_wishedOnes 3 = .ok (.istore_n 2, 1) := by decide +kernel
theorem dX9_wishedOnes_4 : decode cX9_wishedOnes 4 = .ok (.iload_n 2, 1) := by decide +kernel
theorem dX9_wishedOnes_5 : decode cX9_wishedOnes 5 = .ok (.bipush 6, 2) := by decide +kernel
theorem dX9_wishedOnes_7 : decode cX9_wishedOnes 7 = .ok (.if_icmp .ge 23, 3) := by decide +kernel
theorem dX9_wishedOnes_10 : decode cX9_wishedOnes 10 = .ok (.iload_n 1, 1) := by decide +kernel
theorem dX9_wishedOnes_11 : decode cX9_wishedOnes 11 = .ok (.aload_n 0, 1) := by decide +kernel
theorem dX9_wishedOnes_12 : decode cX9_wishedOnes 12 = .ok (.getfield 7, 3) := by decide +kernel
theorem dX9_wishedOnes_15 : decode cX9_wishedOnes 15 = .ok (.bipush 126, 2) := by decide +kernel
theorem dX9_wishedOnes_17 : decode cX9_wishedOnes 17 = .ok (.iconst 4, 1) := by decide +kernel
theorem dX9_wishedOnes_18 : decode cX9_wishedOnes 18 = .ok (.iload_n 2, 1) := by decide +kernel
theorem dX9_wishedOnes_19 : decode cX9_wishedOnes 19 = .ok (.imul, 1) := by decide +kernel
theorem dX9_wishedOnes_20 : decode cX9_wishedOnes 20 = .ok (.iadd, 1) := by decide +kernel
theorem dX9_wishedOnes_21 : decode cX9_wishedOnes 21 = .ok (.iaload, 1) := by decide +kernel
theorem dX9_wishedOnes_22 : decode cX9_wishedOnes 22 = .ok (.iadd, 1) := by decide +kernel
theorem dX9_wishedOnes_23 : decode cX9_wishedOnes 23 = .ok (.istore_n 1, 1) := by decide +kernel
theorem dX9_wishedOnes_24 : decode cX9_wishedOnes 24 = .ok (.iinc 2 1, 3) := by decide +kernel
theorem dX9_wishedOnes_27 : decode cX9_wishedOnes 27 = .ok (.goto (-23), 3) := by decide +kernel
theorem dX9_wishedOnes_30 : decode cX9_wishedOnes 30 = .ok (.iload_n 1, 1) := by decide +kernel
theorem dX9_wishedOnes_31 : decode cX9_wishedOnes 31 = .ok (.ireturn, 1) := by decide +kernel
theorem dX9_count_0 : decode cX9_count 0 = .ok (.iload_n 1, 1) := by decide +kernel
theorem dX9_count_1 : decode cX9_count 1 = .ok (.iconst 2, 1) := by decide +kernel
theorem dX9_count_2 : decode cX9_count 2 = .ok (.bipush 6, 2) := by decide +kernel
theorem dX9_count_4 : decode cX9_count 4 = .ok (.invokestatic 32, 3) := by decide +kernel
theorem dX9_count_7 : decode cX9_count 7 = .ok (.ifCond .eq 14, 3) := by decide +kernel
theorem dX9_count_10 : decode cX9_count 10 = .ok (.aload_n 0, 1) := by decide +kernel
theorem dX9_count_11 : decode cX9_count 11 = .ok (.iload_n 1, 1) := by decide +kernel
theorem dX9_count_12 : decode cX9_count 12 = .ok (.iconst 2, 1) := by decide +kernel
theorem dX9_count_13 : decode cX9_count 13 = .ok (.isub, 1) := by decide +kernel
