theorem dX0_init_0 : decode cX0_init 0 = .ok (.aload_n 0, 1) := by decide +kernel
theorem dX0_init_1 : decode cX0_init 1 = .ok (.invokespecial 3, 3) := by decide +kernel
theorem dX0_init_4 : decode cX0_init 4 = .ok (.aload_n 0, 1) := by decide +kernel
theorem dX0_init_5 : decode cX0_init 5 = .ok (.new 9, 3) := by decide +kernel
theorem dX0_init_8 : decode cX0_init 8 = .ok (.dup, 1) := by decide +kernel
theorem dX0_init_9 : decode cX0_init 9 = .ok (.invokespecial 11, 3) := by decide +kernel
theorem dX0_init_12 : decode cX0_init 12 = .ok (.putfield 12, 3) := by decide +kernel
theorem dX0_init_15 : decode cX0_init 15 = .ok (.aload_n 0, 1) := by decide +kernel
theorem dX0_init_16 : decode cX0_init 16 = .ok (.new 18, 3) := by decide +kernel
theorem dX0_init_19 : decode cX0_init 19 = .ok (.dup, 1) := by decide +kernel
theorem dX0_init_20 : decode cX0_init 20 = .ok (.invokespecial 20, 3) := by decide +kernel
theorem dX0_init_23 : decode cX0_init 23 = .ok (.putfield 21, 3) := by decide +kernel
theorem dX0_init_26 : decode cX0_init 26 = .ok (.aload_n 0, 1) := by decide +kernel
theorem dX0_init_27 : decode cX0_init 27 = .ok (.new 25, 3) := by decide +kernel
theorem dX0_init_30 : decode cX0_init 30 = .ok (.dup, 1) := by decide +kernel
theorem dX0_init_31 : decode cX0_init 31 = .ok (.invokespecial 27, 3) := by decide +kernel
theorem dX0_init_34 : decode cX0_init 34 = .ok (.putfield 28, 3) := by decide +kernel
theorem dX0_init_37 : decode cX0_init 37 = .ok (.aload_n 0, 1) := by decide +kernel
theorem dX0_init_38 : decode cX0_init 38 = .ok (.iconst 3, 1) := by decide +kernel
theorem dX0_init_39 : decode cX0_init 39 = .ok (.newarray .int, 2) := by decide +kernel
theorem dX0_init_41 : decode cX0_init 41 = .ok (.dup, 1) := by decide +kernel
theorem dX0_init_42 : decode cX0_init 42 = .ok (.iconst 0, 1) := by decide +kernel
theorem dX0_init_43 : decode cX0_init 43 = .ok (.iconst 3, 1) := by decide +kernel
theorem dX0_init_44 : decode cX0_init 44 = .ok (.iastore, 1) := by decide +kernel
theorem dX0_init_45 : decode cX0_init 45 = .ok (.dup, 1) := by decide +kernel
theorem dX0_init_46 : decode cX0_init 46 = .ok (.iconst 1, 1) := by decide +kernel
theorem dX0_init_47 : decode cX0_init 47 = .ok (.iconst 2, 1) := by decide +kernel
theorem dX0_init_48 : decode cX0_init 48 = .ok (.iastore, 1) := by decide +kernel
theorem dX0_init_49 : decode cX0_init 49 = .ok (.dup, 1) := by decide +kernel
theorem dX0_init_50 : decode cX0_init 50 = .ok (.iconst 2, 1) := by decide +kernel
theorem dX0_init_51 : decode cX0_init 51 = .ok (.bipush 120, 2) := by decide +kernel
theorem dX0_init_53 : decode cX0_init 53 = .ok (.iastore, 1) := by decide +kernel
theorem dX0_init_54 : decode cX0_init 54 = .ok (.putfield 32, 3) := by decide +kernel
theorem dX0_init_57 : decode cX0_init 57 = .ok (.aload_n 0, 1) := by decide +kernel
theorem dX0_init_58 : decode cX0_init 58 = .ok (.bipush 9, 2) := by decide +kernel
theorem dX0_init_60 : decode cX0_init 60 = .ok (.newarray .int, 2) := by decide +kernel
theorem dX0_init_62 : decode cX0_init 62 = .ok (.putfield 36, 3) := by decide +kernel
theorem dX0_init_65 : decode cX0_init 65 = .ok (.return_, 1) := by decide +kernel
theorem dX0_copyFrom_0 : decode cX0_copyFrom 0 = .ok (.aload_n 0, 1) := by decide +kernel
theorem dX0_copyFrom_1 : decode cX0_copyFrom 1 = .ok (.getfield 12, 3) := by decide +kernel
theorem dX0_copyFrom_4 : decode cX0_copyFrom 4 = .ok (.aload_n 1, 1) := by decide +kernel
theorem dX0_copyFrom_5 : decode cX0_copyFrom 5 = .ok (.getfield 12, 3) := by decide +kernel
theorem dX0_copyFrom_8 : decode cX0_copyFrom 8 = .ok (.invokevirtual 39, 3) := by decide +kernel
theorem dX0_copyFrom_11 : decode cX0_copyFrom 11 = .ok (.aload_n 0, 1) := by decide +kernel
theorem dX0_copyFrom_12 : decode cX0_copyFrom 12 = .ok (.getfield 21, 3) := by decide +kernel
theorem dX0_copyFrom_15 : decode cX0_copyFrom 15 = .ok (.aload_n 1, 1) := by decide +kernel
theorem dX0_copyFrom_16 : decode cX0_copyFrom 16 = .ok (.getfield 21, 3) := by decide +kernel
theorem dX0_copyFrom_19 : decode cX0_copyFrom 19 = .ok (.invokevirtual 43, 3) := by decide +kernel
theorem dX0_copyFrom_22 : decode cX0_copyFrom 22 = .ok (.aload_n 0, 1) := by decide +kernel
theorem dX0_copyFrom_23 : decode cX0_copyFrom 23 = .ok (.getfield 28, 3) := by decide +kernel
theorem dX0_copyFrom_26 : decode cX0_copyFrom 26 = .ok (.aload_n 1, 1) := by decide +kernel
theorem dX0_copyFrom_27 : decode cX0_copyFrom 27 = .ok (.getfield 28, 3) := by decide +kernel
theorem dX0_copyFrom_30 : decode cX0_copyFrom 30 = .ok (.invokevirtual 46, 3) := by decide +kernel
theorem dX0_copyFrom_33 : decode cX0_copyFrom 33 = .ok (.aload_n 1, 1) := by decide +kernel
theorem dX0_copyFrom_34 : decode cX0_copyFrom 34 = .ok (.getfield 32, 3) := by decide +kernel
theorem dX0_copyFrom_37 : decode cX0_copyFrom 37 = .ok (.aload_n 0, 1) := by decide +kernel
theorem dX0_copyFrom_38 : decode cX0_copyFrom 38 = .ok (.getfield 32, 3) := by decide +kernel
theorem dX0_copyFrom_41 : decode cX0_copyFrom 41 = .ok (.invokestatic 49, 3) := by decide +kernel
theorem dX0_copyFrom_44 : decode cX0_copyFrom 44 = .ok (.aload_n 1, 1) := by decide +kernel
theorem dX0_copyFrom_45 : decode cX0_copyFrom 45 = .ok (.getfield 36, 3) := by decide +kernel
theorem dX0_copyFrom_48 : decode cX0_copyFrom 48 = .ok (.aload_n 0, 1) := by decide +kernel
theorem dX0_copyFrom_49 : decode cX0_copyFrom 49 = .ok (.getfield 36, 3) := by decide +kernel
theorem dX0_copyFrom_52 : decode cX0_copyFrom 52 = .ok (.invokestatic 49, 3) := by decide +kernel
theorem dX0_copyFrom_55 : decode cX0_copyFrom 55 = .ok (.return_, 1) := by decide +kernel
theorem dX1_init_0 : decode cX1_init 0 = .ok (.aload_n 0, 1) := by decide +kernel
theorem dX1_init_1 : decode cX1_init 1 = .ok (.invokespecial 3, 3) := by decide +kernel
theorem dX1_init_4 : decode cX1_init 4 = .ok (.aload_n 0, 1) := by decide +kernel
theorem dX1_init_5 : decode cX1_init 5 = .ok (.bipush 21, 2) := by decide +kernel
theorem dX1_init_7 : decode cX1_init 7 = .ok (.newarray .boolean, 2) := by decide +kernel
theorem dX1_init_9 : decode cX1_init 9 = .ok (.putfield 9, 3) := by decide +kernel
theorem dX1_init_12 : decode cX1_init 12 = .ok (.aload_n 0, 1) := by decide +kernel
theorem dX1_init_13 : decode cX1_init 13 = .ok (.iconst 0, 1) := by decide +kernel
theorem dX1_init_14 : decode cX1_init 14 = .ok (.putfield 15, 3) := by decide +kernel
theorem dX1_init_17 : decode cX1_init 17 = .ok (.aload_n 0, 1) := by decide +kernel
theorem dX1_init_18 : decode cX1_init 18 = .ok (.iconst 0, 1) := by decide +kernel
theorem dX1_init_19 : decode cX1_init 19 = .ok (.putfield 19, 3) := by decide +kernel
theorem dX1_init_22 : decode cX1_init 22 = .ok (.aload_n 0, 1) := by decide +kernel
theorem dX1_init_23 : decode cX1_init 23 = .ok (.iconst 0, 1) := by decide +kernel
theorem dX1_init_24 : decode cX1_init 24 = .ok (.putfield 22, 3) := by decide +kernel
theorem dX1_init_27 : decode cX1_init 27 = .ok (.aload_n 0, 1) := by decide +kernel
theorem dX1_init_28 : decode cX1_init 28 = .ok (.iconst 0, 1) := by decide +kernel
theorem dX1_init_29 : decode cX1_init 29 = .ok (.putfield 25, 3) := by decide +kernel
theorem dX1_init_32 : decode cX1_init 32 = .ok (.aload_n 0, 1) := by decide +kernel
theorem dX1_init_33 : decode cX1_init 33 = .ok (.iconst 0, 1) := by decide +kernel
theorem dX1_init_34 : decode cX1_init 34 = .ok (.putfield 28, 3) := by decide +kernel
theorem dX1_init_37 : decode cX1_init 37 = .ok (.return_, 1) := by decide +kernel
theorem dX1_happen_0 : decode cX1_happen 0 = .ok (.aload_n 0, 1) := by decide +kernel
theorem dX1_happen_1 : decode cX1_happen 1 = .ok (.iconst 0, 1) := by decide +kernel
theorem dX1_happen_2 : decode cX1_happen 2 = .ok (.putfield 15, 3) := by decide +kernel
theorem dX1_happen_5 : decode cX1_happen 5 = .ok (.aload_n 0, 1) := by decide +kernel
theorem dX1_happen_6 : decode cX1_happen 6 = .ok (.iconst 0, 1) := by decide +kernel
theorem dX1_happen_7 : decode cX1_happen 7 = .ok (.putfield 19, 3) := by decide +kernel
theorem dX1_happen_10 : decode cX1_happen 10 = .ok (.aload_n 0, 1) := by decide +kernel
theorem dX1_happen_11 : decode cX1_happen 11 = .ok (.iconst 0, 1) := by decide +kernel
theorem dX1_happen_12 : decode cX1_happen 12 = .ok (.putfield 22, 3) := by decide +kernel
theorem dX1_happen_15 : decode cX1_happen 15 = .ok (.aload_n 0, 1) := by decide +kernel
theorem dX1_happen_16 : decode cX1_happen 16 = .ok (.iconst 0, 1) := by decide +kernel
theorem dX1_happen_17 : decode cX1_happen 17 = .ok (.putfield 25, 3) := by decide +kernel
theorem dX1_happen_20 : decode cX1_happen 20 = .ok (.aload_n 0, 1) := by decide +kernel
theorem dX1_happen_21 : decode cX1_happen 21 = .ok (.iconst 0, 1) := by decide +kernel
theorem dX1_happen_22 : decode cX1_happen 22 = .ok (.putfield 28, 3) := by decide +kernel
theorem dX1_happen_25 : decode cX1_happen 25 = .ok (.iload 4, 2) := by decide +kernel
theorem dX1_happen_27 : decode cX1_happen 27 = .ok (.aload_n 1, 1) := by decide +kernel
theorem dX1_happen_28 : decode cX1_happen 28 = .ok (.getfield 31, 3) := by decide +kernel
theorem dX1_happen_31 : decode cX1_happen 31 = .ok (.iconst 0, 1) := by decide +kernel
theorem dX1_happen_32 : decode cX1_happen 32 = .ok (.iaload, 1) := by decide +kernel
theorem dX1_happen_33 : decode cX1_happen 33 = .ok (.if_icmp .lt 7, 3) := by decide +kernel
theorem dX1_happen_36 : decode cX1_happen 36 = .ok (.iconst 1, 1) := by decide +kernel
theorem dX1_happen_37 : decode cX1_happen 37 = .ok (.goto 4, 3) := by decide +kernel
theorem dX1_happen_40 : decode cX1_happen 40 = .ok (.iconst 0, 1) := by decide +kernel
theorem dX1_happen_41 : decode cX1_happen 41 = .ok (.istore 5, 2) := by decide +kernel
theorem dX1_happen_43 : decode cX1_happen 43 = .ok (.iconst 0, 1) := by decide +kernel
theorem dX1_happen_44 : decode cX1_happen 44 = .ok (.istore 6, 2) := by decide +kernel
theorem dX1_happen_46 : decode cX1_happen 46 = .ok (.iload 6, 2) := by decide +kernel
theorem dX1_happen_48 : decode cX1_happen 48 = .ok (.bipush 7, 2) := by decide +kernel
theorem dX1_happen_50 : decode cX1_happen 50 = .ok (.if_icmp .ge 46, 3) := by decide +kernel
theorem dX1_happen_53 : decode cX1_happen 53 = .ok (.iconst 0, 1) := by decide +kernel
theorem dX1_happen_54 : decode cX1_happen 54 = .ok (.istore 7, 2) := by decide +kernel
theorem dX1_happen_56 : decode cX1_happen 56 = .ok (.iload 7, 2) := by decide +kernel
theorem dX1_happen_58 : decode cX1_happen 58 = .ok (.aload_n 2, 1) := by decide +kernel
theorem dX1_happen_59 : decode cX1_happen 59 = .ok (.getfield 37, 3) := by decide +kernel
theorem dX1_happen_62 : decode cX1_happen 62 = .ok (.iload 6, 2) := by decide +kernel
theorem dX1_happen_64 : decode cX1_happen 64 = .ok (.iaload, 1) := by decide +kernel
theorem dX1_happen_65 : decode cX1_happen 65 = .ok (.if_icmp .ge 25, 3) := by decide +kernel
theorem dX1_happen_68 : decode cX1_happen 68 = .ok (.aload_n 0, 1) := by decide +kernel
theorem dX1_happen_69 : decode cX1_happen 69 = .ok (.aload_n 1, 1) := by decide +kernel
theorem dX1_happen_70 : decode cX1_happen 70 = .ok (.aload_n 2, 1) := by decide +kernel
theorem dX1_happen_71 : decode cX1_happen 71 = .ok (.iload 6, 2) := by decide +kernel
theorem dX1_happen_73 : decode cX1_happen 73 = .ok (.iload 7, 2) := by decide +kernel
theorem dX1_happen_75 : decode cX1_happen 75 = .ok (.invokestatic 42, 3) := by decide +kernel
theorem dX1_happen_78 : decode cX1_happen 78 = .ok (.iload_n 3, 1) := by decide +kernel
theorem dX1_happen_79 : decode cX1_happen 79 = .ok (.iload 5, 2) := by decide +kernel
theorem dX1_happen_81 : decode cX1_happen 81 = .ok (.invokevirtual 46, 3) := by decide +kernel
theorem dX1_happen_84 : decode cX1_happen 84 = .ok (.iinc 7 1, 3) := by decide +kernel
theorem dX1_happen_87 : decode cX1_happen 87 = .ok (.goto (-31), 3) := by decide +kernel
theorem dX1_happen_90 : decode cX1_happen 90 = .ok (.iinc 6 1, 3) := by decide +kernel
theorem dX1_happen_93 : decode cX1_happen 93 = .ok (.goto (-47), 3) := by decide +kernel
theorem dX1_happen_96 : decode cX1_happen 96 = .ok (.iconst 0, 1) := by decide +kernel
theorem dX1_happen_97 : decode cX1_happen 97 = .ok (.istore 6, 2) := by decide +kernel
theorem dX1_happen_99 : decode cX1_happen 99 = .ok (.iload 6, 2) := by decide +kernel
theorem dX1_happen_101 : decode cX1_happen 101 = .ok (.bipush 6, 2) := by decide +kernel
theorem dX1_happen_103 : decode cX1_happen 103 = .ok (.if_icmp .ge 24, 3) := by decide +kernel
theorem dX1_happen_106 : decode cX1_happen 106 = .ok (.aload_n 0, 1) := by decide +kernel
theorem dX1_happen_107 : decode cX1_happen 107 = .ok (.aload_n 2, 1) := by decide +kernel
theorem dX1_happen_108 : decode cX1_happen 108 = .ok (.iload 6, 2) := by decide +kernel
theorem dX1_happen_110 : decode cX1_happen 110 = .ok (.invokevirtual 50, 3) := by decide +kernel
theorem dX1_happen_113 : decode cX1_happen 113 = .ok (.aload_n 0, 1) := by decide +kernel
theorem dX1_happen_114 : decode cX1_happen 114 = .ok (.aload_n 1, 1) := by decide +kernel
theorem dX1_happen_115 : decode cX1_happen 115 = .ok (.aload_n 2, 1) := by decide +kernel
theorem dX1_happen_116 : decode cX1_happen 116 = .ok (.iload 6, 2) := by decide +kernel
theorem dX1_happen_118 : decode cX1_happen 118 = .ok (.invokevirtual 54, 3) := by decide +kernel
theorem dX1_happen_121 : decode cX1_happen 121 = .ok (.iinc 6 1, 3) := by decide +kernel
theorem dX1_happen_124 : decode cX1_happen 124 = .ok (.goto (-25), 3) := by decide +kernel
theorem dX1_happen_127 : decode cX1_happen 127 = .ok (.return_, 1) := by decide +kernel
theorem dX1_heatLayer_0 : decode cX1_heatLayer 0 = .ok (.aload_n 2, 1) := by decide +kernel
theorem dX1_heatLayer_1 : decode cX1_heatLayer 1 = .ok (.getfield 58, 3) := by decide +kernel
theorem dX1_heatLayer_4 : decode cX1_heatLayer 4 = .ok (.iload_n 3, 1) := by decide +kernel
theorem dX1_heatLayer_5 : decode cX1_heatLayer 5 = .ok (.iaload, 1) := by decide +kernel
theorem dX1_heatLayer_6 : decode cX1_heatLayer 6 = .ok (.istore 6, 2) := by decide +kernel
theorem dX1_heatLayer_8 : decode cX1_heatLayer 8 = .ok (.aload_n 1, 1) := by decide +kernel
theorem dX1_heatLayer_9 : decode cX1_heatLayer 9 = .ok (.getfield 61, 3) := by decide +kernel
theorem dX1_heatLayer_12 : decode cX1_heatLayer 12 = .ok (.getfield 65, 3) := by decide +kernel
theorem dX1_heatLayer_15 : decode cX1_heatLayer 15 = .ok (.iload 6, 2) := by decide +kernel
theorem dX1_heatLayer_17 : decode cX1_heatLayer 17 = .ok (.iaload, 1) := by decide +kernel
theorem dX1_heatLayer_18 : decode cX1_heatLayer 18 = .ok (.istore 7, 2) := by decide +kernel
theorem dX1_heatLayer_20 : decode cX1_heatLayer 20 = .ok (.aload_n 0, 1) := by decide +kernel
theorem dX1_heatLayer_21 : decode cX1_heatLayer 21 = .ok (.getfield 9, 3) := by decide +kernel
theorem dX1_heatLayer_24 : decode cX1_heatLayer 24 = .ok (.iload_n 3, 1) := by decide +kernel
theorem dX1_heatLayer_25 : decode cX1_heatLayer 25 = .ok (.iconst 0, 1) := by decide +kernel
theorem dX1_heatLayer_26 : decode cX1_heatLayer 26 = .ok (.bastore, 1) := by decide +kernel
theorem dX1_heatLayer_27 : decode cX1_heatLayer 27 = .ok (.aload_n 2, 1) := by decide +kernel
theorem dX1_heatLayer_28 : decode cX1_heatLayer 28 = .ok (.getfield 70, 3) := by decide +kernel
theorem dX1_heatLayer_31 : decode cX1_heatLayer 31 = .ok (.iload_n 3, 1) := by decide +kernel
theorem dX1_heatLayer_32 : decode cX1_heatLayer 32 = .ok (.iaload, 1) := by decide +kernel
theorem dX1_heatLayer_33 : decode cX1_heatLayer 33 = .ok (.iconst 4, 1) := by decide +kernel
theorem dX1_heatLayer_34 : decode cX1_heatLayer 34 = .ok (.if_icmp .ne 4, 3) := by decide +kernel
theorem dX1_heatLayer_37 : decode cX1_heatLayer 37 = .ok (.return_, 1) := by decide +kernel
theorem dX1_heatLayer_38 : decode cX1_heatLayer 38 = .ok (.iload 4, 2) := by decide +kernel
theorem dX1_heatLayer_40 : decode cX1_heatLayer 40 = .ok (.aload_n 1, 1) := by decide +kernel
theorem dX1_heatLayer_41 : decode cX1_heatLayer 41 = .ok (.getfield 61, 3) := by decide +kernel
theorem dX1_heatLayer_44 : decode cX1_heatLayer 44 = .ok (.getfield 73, 3) := by decide +kernel
theorem dX1_heatLayer_47 : decode cX1_heatLayer 47 = .ok (.iload 6, 2) := by decide +kernel
theorem dX1_heatLayer_49 : decode cX1_heatLayer 49 = .ok (.iaload, 1) := by decide +kernel
theorem dX1_heatLayer_50 : decode cX1_heatLayer 50 = .ok (.if_icmp .le 23, 3) := by decide +kernel
theorem dX1_heatLayer_53 : decode cX1_heatLayer 53 = .ok (.aload_n 2, 1) := by decide +kernel
theorem dX1_heatLayer_54 : decode cX1_heatLayer 54 = .ok (.getfield 70, 3) := by decide +kernel
theorem dX1_heatLayer_57 : decode cX1_heatLayer 57 = .ok (.iload_n 3, 1) := by decide +kernel
theorem dX1_heatLayer_58 : decode cX1_heatLayer 58 = .ok (.iconst 4, 1) := by decide +kernel
theorem dX1_heatLayer_59 : decode cX1_heatLayer 59 = .ok (.iastore, 1) := by decide +kernel
theorem dX1_heatLayer_60 : decode cX1_heatLayer 60 = .ok (.aload_n 0, 1) := by decide +kernel
theorem dX1_heatLayer_61 : decode cX1_heatLayer 61 = .ok (.dup, 1) := by decide +kernel
theorem dX1_heatLayer_62 : decode cX1_heatLayer 62 = .ok (.getfield 19, 3) := by decide +kernel
theorem dX1_heatLayer_65 : decode cX1_heatLayer 65 = .ok (.iconst 1, 1) := by decide +kernel
theorem dX1_heatLayer_66 : decode cX1_heatLayer 66 = .ok (.iadd, 1) := by decide +kernel
theorem dX1_heatLayer_67 : decode cX1_heatLayer 67 = .ok (.putfield 19, 3) := by decide +kernel
theorem dX1_heatLayer_70 : decode cX1_heatLayer 70 = .ok (.goto 92, 3) := by decide +kernel
theorem dX1_heatLayer_73 : decode cX1_heatLayer 73 = .ok (.aload_n 2, 1) := by decide +kernel
theorem dX1_heatLayer_74 : decode cX1_heatLayer 74 = .ok (.iload_n 3, 1) := by decide +kernel
theorem dX1_heatLayer_75 : decode cX1_heatLayer 75 = .ok (.invokevirtual 76, 3) := by decide +kernel
theorem dX1_heatLayer_78 : decode cX1_heatLayer 78 = .ok (.ifCond .eq 28, 3) := by decide +kernel
theorem dX1_heatLayer_81 : decode cX1_heatLayer 81 = .ok (.iload 4, 2) := by decide +kernel
theorem dX1_heatLayer_83 : decode cX1_heatLayer 83 = .ok (.iload 7, 2) := by decide +kernel
theorem dX1_heatLayer_85 : decode cX1_heatLayer 85 = .ok (.bipush 20, 2) := by decide +kernel
theorem dX1_heatLayer_87 : decode cX1_heatLayer 87 = .ok (.isub, 1) := by decide +kernel
theorem dX1_heatLayer_88 : decode cX1_heatLayer 88 = .ok (.if_icmp .lt 74, 3) := by decide +kernel
theorem dX1_heatLayer_91 : decode cX1_heatLayer 91 = .ok (.aload_n 0, 1) := by decide +kernel
theorem dX1_heatLayer_92 : decode cX1_heatLayer 92 = .ok (.aload_n 2, 1) := by decide +kernel
theorem dX1_heatLayer_93 : decode cX1_heatLayer 93 = .ok (.iload_n 3, 1) := by decide +kernel
theorem dX1_heatLayer_94 : decode cX1_heatLayer 94 = .ok (.aload_n 1, 1) := by decide +kernel
theorem dX1_heatLayer_95 : decode cX1_heatLayer 95 = .ok (.getfield 31, 3) := by decide +kernel
theorem dX1_heatLayer_98 : decode cX1_heatLayer 98 = .ok (.iconst 1, 1) := by decide +kernel
theorem dX1_heatLayer_99 : decode cX1_heatLayer 99 = .ok (.iaload, 1) := by decide +kernel
theorem dX1_heatLayer_100 : decode cX1_heatLayer 100 = .ok (.invokevirtual 80, 3) := by decide +kernel
theorem dX1_heatLayer_103 : decode cX1_heatLayer 103 = .ok (.goto 59, 3) := by decide +kernel
theorem dX1_heatLayer_106 : decode cX1_heatLayer 106 = .ok (.iload 4, 2) := by decide +kernel
theorem dX1_heatLayer_108 : decode cX1_heatLayer 108 = .ok (.iload 7, 2) := by decide +kernel
theorem dX1_heatLayer_110 : decode cX1_heatLayer 110 = .ok (.if_icmp .lt 35, 3) := by decide +kernel
theorem dX1_heatLayer_113 : decode cX1_heatLayer 113 = .ok (.iload 5, 2) := by decide +kernel
theorem dX1_heatLayer_115 : decode cX1_heatLayer 115 = .ok (.ifCond .eq 30, 3) := by decide +kernel
theorem dX1_heatLayer_118 : decode cX1_heatLayer 118 = .ok (.aload_n 2, 1) := by decide +kernel
theorem dX1_heatLayer_119 : decode cX1_heatLayer 119 = .ok (.getfield 70, 3) := by decide +kernel
theorem dX1_heatLayer_122 : decode cX1_heatLayer 122 = .ok (.iload_n 3, 1) := by decide +kernel
theorem dX1_heatLayer_123 : decode cX1_heatLayer 123 = .ok (.iconst 2, 1) := by decide +kernel
theorem dX1_heatLayer_124 : decode cX1_heatLayer 124 = .ok (.iastore, 1) := by decide +kernel
theorem dX1_heatLayer_125 : decode cX1_heatLayer 125 = .ok (.aload_n 0, 1) := by decide +kernel
theorem dX1_heatLayer_126 : decode cX1_heatLayer 126 = .ok (.getfield 9, 3) := by decide +kernel
theorem dX1_heatLayer_129 : decode cX1_heatLayer 129 = .ok (.iload_n 3, 1) := by decide +kernel
theorem dX1_heatLayer_130 : decode cX1_heatLayer 130 = .ok (.iconst 1, 1) := by decide +kernel
theorem dX1_heatLayer_131 : decode cX1_heatLayer 131 = .ok (.bastore, 1) := by decide +kernel
theorem dX1_heatLayer_132 : decode cX1_heatLayer 132 = .ok (.aload_n 0, 1) := by decide +kernel
theorem dX1_heatLayer_133 : decode cX1_heatLayer 133 = .ok (.dup, 1) := by decide +kernel
theorem dX1_heatLayer_134 : decode cX1_heatLayer 134 = .ok (.getfield 15, 3) := by decide +kernel
theorem dX1_heatLayer_137 : decode cX1_heatLayer 137 = .ok (.iconst 1, 1) := by decide +kernel
theorem dX1_heatLayer_138 : decode cX1_heatLayer 138 = .ok (.iadd, 1) := by decide +kernel
theorem dX1_heatLayer_139 : decode cX1_heatLayer 139 = .ok (.putfield 15, 3) := by decide +kernel
theorem dX1_heatLayer_142 : decode cX1_heatLayer 142 = .ok (.goto 20, 3) := by decide +kernel
theorem dX1_heatLayer_145 : decode cX1_heatLayer 145 = .ok (.iload 4, 2) := by decide +kernel
theorem dX1_heatLayer_147 : decode cX1_heatLayer 147 = .ok (.iload 7, 2) := by decide +kernel
theorem dX1_heatLayer_149 : decode cX1_heatLayer 149 = .ok (.bipush 40, 2) := by decide +kernel
theorem dX1_heatLayer_151 : decode cX1_heatLayer 151 = .ok (.isub, 1) := by decide +kernel
theorem dX1_heatLayer_152 : decode cX1_heatLayer 152 = .ok (.if_icmp .lt 10, 3) := by decide +kernel
theorem dX1_heatLayer_155 : decode cX1_heatLayer 155 = .ok (.aload_n 2, 1) := by decide +kernel
theorem dX1_heatLayer_156 : decode cX1_heatLayer 156 = .ok (.getfield 70, 3) := by decide +kernel
theorem dX1_heatLayer_159 : decode cX1_heatLayer 159 = .ok (.iload_n 3, 1) := by decide +kernel
theorem dX1_heatLayer_160 : decode cX1_heatLayer 160 = .ok (.iconst 1, 1) := by decide +kernel
theorem dX1_heatLayer_161 : decode cX1_heatLayer 161 = .ok (.iastore, 1) := by decide +kernel
theorem dX1_heatLayer_162 : decode cX1_heatLayer 162 = .ok (.return_, 1) := by decide +kernel
theorem dX1_soften_0 : decode cX1_soften 0 = .ok (.aload_n 0, 1) := by decide +kernel
theorem dX1_soften_1 : decode cX1_soften 1 = .ok (.getfield 9, 3) := by decide +kernel
theorem dX1_soften_4 : decode cX1_soften 4 = .ok (.iload_n 2, 1) := by decide +kernel
theorem dX1_soften_5 : decode cX1_soften 5 = .ok (.iconst 1, 1) := by decide +kernel
theorem dX1_soften_6 : decode cX1_soften 6 = .ok (.bastore, 1) := by decide +kernel
theorem dX1_soften_7 : decode cX1_soften 7 = .ok (.aload_n 1, 1) := by decide +kernel
theorem dX1_soften_8 : decode cX1_soften 8 = .ok (.getfield 84, 3) := by decide +kernel
theorem dX1_soften_11 : decode cX1_soften 11 = .ok (.iload_n 2, 1) := by decide +kernel
theorem dX1_soften_12 : decode cX1_soften 12 = .ok (.dup2, 1) := by decide +kernel
theorem dX1_soften_13 : decode cX1_soften 13 = .ok (.iaload, 1) := by decide +kernel
theorem dX1_soften_14 : decode cX1_soften 14 = .ok (.iconst 1, 1) := by decide +kernel
theorem dX1_soften_15 : decode cX1_soften 15 = .ok (.iadd, 1) := by decide +kernel
theorem dX1_soften_16 : decode cX1_soften 16 = .ok (.iastore, 1) := by decide +kernel
theorem dX1_soften_17 : decode cX1_soften 17 = .ok (.aload_n 1, 1) := by decide +kernel
theorem dX1_soften_18 : decode cX1_soften 18 = .ok (.getfield 84, 3) := by decide +kernel
theorem dX1_soften_21 : decode cX1_soften 21 = .ok (.iload_n 2, 1) := by decide +kernel
theorem dX1_soften_22 : decode cX1_soften 22 = .ok (.iaload, 1) := by decide +kernel
theorem dX1_soften_23 : decode cX1_soften 23 = .ok (.iload_n 3, 1) := by decide +kernel
theorem dX1_soften_24 : decode cX1_soften 24 = .ok (.if_icmp .le 30, 3) := by decide +kernel
theorem dX1_soften_27 : decode cX1_soften 27 = .ok (.aload_n 1, 1) := by decide +kernel
theorem dX1_soften_28 : decode cX1_soften 28 = .ok (.getfield 70, 3) := by decide +kernel
theorem dX1_soften_31 : decode cX1_soften 31 = .ok (.iload_n 2, 1) := by decide +kernel
theorem dX1_soften_32 : decode cX1_soften 32 = .ok (.iaload, 1) := by decide +kernel
theorem dX1_soften_33 : decode cX1_soften 33 = .ok (.iconst 3, 1) := by decide +kernel
theorem dX1_soften_34 : decode cX1_soften 34 = .ok (.if_icmp .eq 20, 3) := by decide +kernel
theorem dX1_soften_37 : decode cX1_soften 37 = .ok (.aload_n 1, 1) := by decide +kernel
theorem dX1_soften_38 : decode cX1_soften 38 = .ok (.getfield 70, 3) := by decide +kernel
theorem dX1_soften_41 : decode cX1_soften 41 = .ok (.iload_n 2, 1) := by decide +kernel
theorem dX1_soften_42 : decode cX1_soften 42 = .ok (.iconst 3, 1) := by decide +kernel
theorem dX1_soften_43 : decode cX1_soften 43 = .ok (.iastore, 1) := by decide +kernel
theorem dX1_soften_44 : decode cX1_soften 44 = .ok (.aload_n 0, 1) := by decide +kernel
theorem dX1_soften_45 : decode cX1_soften 45 = .ok (.dup, 1) := by decide +kernel
theorem dX1_soften_46 : decode cX1_soften 46 = .ok (.getfield 22, 3) := by decide +kernel
theorem dX1_soften_49 : decode cX1_soften 49 = .ok (.iconst 1, 1) := by decide +kernel
theorem dX1_soften_50 : decode cX1_soften 50 = .ok (.iadd, 1) := by decide +kernel
theorem dX1_soften_51 : decode cX1_soften 51 = .ok (.putfield 22, 3) := by decide +kernel
theorem dX1_soften_54 : decode cX1_soften 54 = .ok (.return_, 1) := by decide +kernel
theorem dX1_mendField_0 : decode cX1_mendField 0 = .ok (.aload_n 1, 1) := by decide +kernel
theorem dX1_mendField_1 : decode cX1_mendField 1 = .ok (.getfield 87, 3) := by decide +kernel
theorem dX1_mendField_4 : decode cX1_mendField 4 = .ok (.iload_n 2, 1) := by decide +kernel
theorem dX1_mendField_5 : decode cX1_mendField 5 = .ok (.iaload, 1) := by decide +kernel
theorem dX1_mendField_6 : decode cX1_mendField 6 = .ok (.ifCond .ne 4, 3) := by decide +kernel
theorem dX1_mendField_9 : decode cX1_mendField 9 = .ok (.return_, 1) := by decide +kernel
theorem dX1_mendField_10 : decode cX1_mendField 10 = .ok (.iconst 0, 1) := by decide +kernel
theorem dX1_mendField_11 : decode cX1_mendField 11 = .ok (.istore_n 3, 1) := by decide +kernel
theorem dX1_mendField_12 : decode cX1_mendField 12 = .ok (.iload_n 3, 1) := by decide +kernel
theorem dX1_mendField_13 : decode cX1_mendField 13 = .ok (.aload_n 1, 1) := by decide +kernel
theorem dX1_mendField_14 : decode cX1_mendField 14 = .ok (.getfield 37, 3) := by decide +kernel
theorem dX1_mendField_17 : decode cX1_mendField 17 = .ok (.iload_n 2, 1) := by decide +kernel
theorem dX1_mendField_18 : decode cX1_mendField 18 = .ok (.iaload, 1) := by decide +kernel
theorem dX1_mendField_19 : decode cX1_mendField 19 = .ok (.if_icmp .ge 23, 3) := by decide +kernel
theorem dX1_mendField_22 : decode cX1_mendField 22 = .ok (.aload_n 0, 1) := by decide +kernel
theorem dX1_mendField_23 : decode cX1_mendField 23 = .ok (.getfield 9, 3) := by decide +kernel
theorem dX1_mendField_26 : decode cX1_mendField 26 = .ok (.iload_n 2, 1) := by decide +kernel
theorem dX1_mendField_27 : decode cX1_mendField 27 = .ok (.iload_n 3, 1) := by decide +kernel
theorem dX1_mendField_28 : decode cX1_mendField 28 = .ok (.invokestatic 42, 3) := by decide +kernel
theorem dX1_mendField_31 : decode cX1_mendField 31 = .ok (.baload, 1) := by decide +kernel
theorem dX1_mendField_32 : decode cX1_mendField 32 = .ok (.ifCond .ne 4, 3) := by decide +kernel
theorem dX1_mendField_35 : decode cX1_mendField 35 = .ok (.return_, 1) := by decide +kernel
theorem dX1_mendField_36 : decode cX1_mendField 36 = .ok (.iinc 3 1, 3) := by decide +kernel
theorem dX1_mendField_39 : decode cX1_mendField 39 = .ok (.goto (-27), 3) := by decide +kernel
theorem dX1_mendField_42 : decode cX1_mendField 42 = .ok (.aload_n 1, 1) := by decide +kernel
theorem dX1_mendField_43 : decode cX1_mendField 43 = .ok (.getfield 87, 3) := by decide +kernel
theorem dX1_mendField_46 : decode cX1_mendField 46 = .ok (.iload_n 2, 1) := by decide +kernel
theorem dX1_mendField_47 : decode cX1_mendField 47 = .ok (.iconst 0, 1) := by decide +kernel
theorem dX1_mendField_48 : decode cX1_mendField 48 = .ok (.iastore, 1) := by decide +kernel
theorem dX1_mendField_49 : decode cX1_mendField 49 = .ok (.aload_n 0, 1) := by decide +kernel
theorem dX1_mendField_50 : decode cX1_mendField 50 = .ok (.dup, 1) := by decide +kernel
theorem dX1_mendField_51 : decode cX1_mendField 51 = .ok (.getfield 28, 3) := by decide +kernel
theorem dX1_mendField_54 : decode cX1_mendField 54 = .ok (.iconst 1, 1) := by decide +kernel
theorem dX1_mendField_55 : decode cX1_mendField 55 = .ok (.iadd, 1) := by decide +kernel
theorem dX1_mendField_56 : decode cX1_mendField 56 = .ok (.putfield 28, 3) := by decide +kernel
theorem dX1_mendField_59 : decode cX1_mendField 59 = .ok (.return_, 1) := by decide +kernel
theorem dX1_coolField_0 : decode cX1_coolField 0 = .ok (.aload_n 2, 1) := by decide +kernel
theorem dX1_coolField_1 : decode cX1_coolField 1 = .ok (.getfield 87, 3) := by decide +kernel
theorem dX1_coolField_4 : decode cX1_coolField 4 = .ok (.iload_n 3, 1) := by decide +kernel
theorem dX1_coolField_5 : decode cX1_coolField 5 = .ok (.iaload, 1) := by decide +kernel
theorem dX1_coolField_6 : decode cX1_coolField 6 = .ok (.ifCond .ne 46, 3) := by decide +kernel
theorem dX1_coolField_9 : decode cX1_coolField 9 = .ok (.aload_n 2, 1) := by decide +kernel
theorem dX1_coolField_10 : decode cX1_coolField 10 = .ok (.iload_n 3, 1) := by decide +kernel
theorem dX1_coolField_11 : decode cX1_coolField 11 = .ok (.invokevirtual 89, 3) := by decide +kernel
theorem dX1_coolField_14 : decode cX1_coolField 14 = .ok (.ifCond .eq 38, 3) := by decide +kernel
theorem dX1_coolField_17 : decode cX1_coolField 17 = .ok (.aload_n 2, 1) := by decide +kernel
theorem dX1_coolField_18 : decode cX1_coolField 18 = .ok (.iload_n 3, 1) := by decide +kernel
theorem dX1_coolField_19 : decode cX1_coolField 19 = .ok (.aload_n 1, 1) := by decide +kernel
theorem dX1_coolField_20 : decode cX1_coolField 20 = .ok (.getfield 61, 3) := by decide +kernel
theorem dX1_coolField_23 : decode cX1_coolField 23 = .ok (.invokevirtual 92, 3) := by decide +kernel
theorem dX1_coolField_26 : decode cX1_coolField 26 = .ok (.aload_n 1, 1) := by decide +kernel
theorem dX1_coolField_27 : decode cX1_coolField 27 = .ok (.getfield 31, 3) := by decide +kernel
theorem dX1_coolField_30 : decode cX1_coolField 30 = .ok (.iconst 2, 1) := by decide +kernel
theorem dX1_coolField_31 : decode cX1_coolField 31 = .ok (.iaload, 1) := by decide +kernel
theorem dX1_coolField_32 : decode cX1_coolField 32 = .ok (.if_icmp .le 20, 3) := by decide +kernel
theorem dX1_coolField_35 : decode cX1_coolField 35 = .ok (.aload_n 2, 1) := by decide +kernel
theorem dX1_coolField_36 : decode cX1_coolField 36 = .ok (.getfield 87, 3) := by decide +kernel
theorem dX1_coolField_39 : decode cX1_coolField 39 = .ok (.iload_n 3, 1) := by decide +kernel
theorem dX1_coolField_40 : decode cX1_coolField 40 = .ok (.iconst 1, 1) := by decide +kernel
theorem dX1_coolField_41 : decode cX1_coolField 41 = .ok (.iastore, 1) := by decide +kernel
theorem dX1_coolField_42 : decode cX1_coolField 42 = .ok (.aload_n 0, 1) := by decide +kernel
theorem dX1_coolField_43 : decode cX1_coolField 43 = .ok (.dup, 1) := by decide +kernel
theorem dX1_coolField_44 : decode cX1_coolField 44 = .ok (.getfield 25, 3) := by decide +kernel
theorem dX1_coolField_47 : decode cX1_coolField 47 = .ok (.iconst 1, 1) := by decide +kernel
theorem dX1_coolField_48 : decode cX1_coolField 48 = .ok (.iadd, 1) := by decide +kernel
theorem dX1_coolField_49 : decode cX1_coolField 49 = .ok (.putfield 25, 3) := by decide +kernel
theorem dX1_coolField_52 : decode cX1_coolField 52 = .ok (.return_, 1) := by decide +kernel
theorem dX2_init_0 : decode cX2_init 0 = .ok (.aload_n 0, 1) := by decide +kernel
theorem dX2_init_1 : decode cX2_init 1 = .ok (.invokespecial 3, 3) := by decide +kernel
theorem dX2_init_4 : decode cX2_init 4 = .ok (.aload_n 0, 1) := by decide +kernel
theorem dX2_init_5 : decode cX2_init 5 = .ok (.iconst 4, 1) := by decide +kernel
theorem dX2_init_6 : decode cX2_init 6 = .ok (.anewarray 9, 3) := by decide +kernel
theorem dX2_init_9 : decode cX2_init 9 = .ok (.dup, 1) := by decide +kernel
theorem dX2_init_10 : decode cX2_init 10 = .ok (.iconst 0, 1) := by decide +kernel
theorem dX2_init_11 : decode cX2_init 11 = .ok (.new 9, 3) := by decide +kernel
theorem dX2_init_14 : decode cX2_init 14 = .ok (.dup, 1) := by decide +kernel
theorem dX2_init_15 : decode cX2_init 15 = .ok (.invokespecial 11, 3) := by decide +kernel
theorem dX2_init_18 : decode cX2_init 18 = .ok (.aastore, 1) := by decide +kernel
theorem dX2_init_19 : decode cX2_init 19 = .ok (.dup, 1) := by decide +kernel
theorem dX2_init_20 : decode cX2_init 20 = .ok (.iconst 1, 1) := by decide +kernel
theorem dX2_init_21 : decode cX2_init 21 = .ok (.new 9, 3) := by decide +kernel
theorem dX2_init_24 : decode cX2_init 24 = .ok (.dup, 1) := by decide +kernel
theorem dX2_init_25 : decode cX2_init 25 = .ok (.invokespecial 11, 3) := by decide +kernel
theorem dX2_init_28 : decode cX2_init 28 = .ok (.aastore, 1) := by decide +kernel
theorem dX2_init_29 : decode cX2_init 29 = .ok (.dup, 1) := by decide +kernel
theorem dX2_init_30 : decode cX2_init 30 = .ok (.iconst 2, 1) := by decide +kernel
theorem dX2_init_31 : decode cX2_init 31 = .ok (.new 9, 3) := by decide +kernel
theorem dX2_init_34 : decode cX2_init 34 = .ok (.dup, 1) := by decide +kernel
theorem dX2_init_35 : decode cX2_init 35 = .ok (.invokespecial 11, 3) := by decide +kernel
theorem dX2_init_38 : decode cX2_init 38 = .ok (.aastore, 1) := by decide +kernel
theorem dX2_init_39 : decode cX2_init 39 = .ok (.dup, 1) := by decide +kernel
theorem dX2_init_40 : decode cX2_init 40 = .ok (.iconst 3, 1) := by decide +kernel
theorem dX2_init_41 : decode cX2_init 41 = .ok (.new 9, 3) := by decide +kernel
theorem dX2_init_44 : decode cX2_init 44 = .ok (.dup, 1) := by decide +kernel
theorem dX2_init_45 : decode cX2_init 45 = .ok (.invokespecial 11, 3) := by decide +kernel
theorem dX2_init_48 : decode cX2_init 48 = .ok (.aastore, 1) := by decide +kernel
theorem dX2_init_49 : decode cX2_init 49 = .ok (.putfield 12, 3) := by decide +kernel
theorem dX2_init_52 : decode cX2_init 52 = .ok (.aload_n 0, 1) := by decide +kernel
theorem dX2_init_53 : decode cX2_init 53 = .ok (.iconst 0, 1) := by decide +kernel
theorem dX2_init_54 : decode cX2_init 54 = .ok (.putfield 18, 3) := by decide +kernel
theorem dX2_init_57 : decode cX2_init 57 = .ok (.aload_n 0, 1) := by decide +kernel
theorem dX2_init_58 : decode cX2_init 58 = .ok (.iconst 0, 1) := by decide +kernel
theorem dX2_init_59 : decode cX2_init 59 = .ok (.putfield 22, 3) := by decide +kernel
theorem dX2_init_62 : decode cX2_init 62 = .ok (.return_, 1) := by decide +kernel
theorem dX2_keep_0 : decode cX2_keep 0 = .ok (.aload_n 0, 1) := by decide +kernel
theorem dX2_keep_1 : decode cX2_keep 1 = .ok (.getfield 12, 3) := by decide +kernel
theorem dX2_keep_4 : decode cX2_keep 4 = .ok (.aload_n 0, 1) := by decide +kernel
theorem dX2_keep_5 : decode cX2_keep 5 = .ok (.getfield 18, 3) := by decide +kernel
theorem dX2_keep_8 : decode cX2_keep 8 = .ok (.aaload, 1) := by decide +kernel
theorem dX2_keep_9 : decode cX2_keep 9 = .ok (.aload_n 1, 1) := by decide +kernel
theorem dX2_keep_10 : decode cX2_keep 10 = .ok (.invokevirtual 25, 3) := by decide +kernel
theorem dX2_keep_13 : decode cX2_keep 13 = .ok (.aload_n 0, 1) := by decide +kernel
theorem dX2_keep_14 : decode cX2_keep 14 = .ok (.aload_n 0, 1) := by decide +kernel
theorem dX2_keep_15 : decode cX2_keep 15 = .ok (.getfield 18, 3) := by decide +kernel
theorem dX2_keep_18 : decode cX2_keep 18 = .ok (.iconst 1, 1) := by decide +kernel
theorem dX2_keep_19 : decode cX2_keep 19 = .ok (.iadd, 1) := by decide +kernel
theorem dX2_keep_20 : decode cX2_keep 20 = .ok (.iconst 4, 1) := by decide +kernel
theorem dX2_keep_21 : decode cX2_keep 21 = .ok (.irem, 1) := by decide +kernel
theorem dX2_keep_22 : decode cX2_keep 22 = .ok (.putfield 18, 3) := by decide +kernel
theorem dX2_keep_25 : decode cX2_keep 25 = .ok (.aload_n 0, 1) := by decide +kernel
theorem dX2_keep_26 : decode cX2_keep 26 = .ok (.aload_n 0, 1) := by decide +kernel
theorem dX2_keep_27 : decode cX2_keep 27 = .ok (.getfield 22, 3) := by decide +kernel
theorem dX2_keep_30 : decode cX2_keep 30 = .ok (.iconst 1, 1) := by decide +kernel
theorem dX2_keep_31 : decode cX2_keep 31 = .ok (.iadd, 1) := by decide +kernel
theorem dX2_keep_32 : decode cX2_keep 32 = .ok (.iconst 4, 1) := by decide +kernel
theorem dX2_keep_33 : decode cX2_keep 33 = .ok (.invokestatic 29, 3) := by decide +kernel
theorem dX2_keep_36 : decode cX2_keep 36 = .ok (.putfield 22, 3) := by decide +kernel
theorem dX2_keep_39 : decode cX2_keep 39 = .ok (.return_, 1) := by decide +kernel
theorem dX2_restore_0 : decode cX2_restore 0 = .ok (.aload_n 0, 1) := by decide +kernel
theorem dX2_restore_1 : decode cX2_restore 1 = .ok (.aload_n 0, 1) := by decide +kernel
theorem dX2_restore_2 : decode cX2_restore 2 = .ok (.getfield 18, 3) := by decide +kernel
theorem dX2_restore_5 : decode cX2_restore 5 = .ok (.iconst 4, 1) := by decide +kernel
theorem dX2_restore_6 : decode cX2_restore 6 = .ok (.iadd, 1) := by decide +kernel
theorem dX2_restore_7 : decode cX2_restore 7 = .ok (.iconst 1, 1) := by decide +kernel
theorem dX2_restore_8 : decode cX2_restore 8 = .ok (.isub, 1) := by decide +kernel
theorem dX2_restore_9 : decode cX2_restore 9 = .ok (.iconst 4, 1) := by decide +kernel
theorem dX2_restore_10 : decode cX2_restore 10 = .ok (.irem, 1) := by decide +kernel
theorem dX2_restore_11 : decode cX2_restore 11 = .ok (.putfield 18, 3) := by decide +kernel
theorem dX2_restore_14 : decode cX2_restore 14 = .ok (.aload_n 0, 1) := by decide +kernel
theorem dX2_restore_15 : decode cX2_restore 15 = .ok (.dup, 1) := by decide +kernel
theorem dX2_restore_16 : decode cX2_restore 16 = .ok (.getfield 22, 3) := by decide +kernel
theorem dX2_restore_19 : decode cX2_restore 19 = .ok (.iconst 1, 1) := by decide +kernel
theorem dX2_restore_20 : decode cX2_restore 20 = .ok (.isub, 1) := by decide +kernel
theorem dX2_restore_21 : decode cX2_restore 21 = .ok (.putfield 22, 3) := by decide +kernel
theorem dX2_restore_24 : decode cX2_restore 24 = .ok (.aload_n 1, 1) := by decide +kernel
theorem dX2_restore_25 : decode cX2_restore 25 = .ok (.aload_n 0, 1) := by decide +kernel
theorem dX2_restore_26 : decode cX2_restore 26 = .ok (.getfield 12, 3) := by decide +kernel
theorem dX2_restore_29 : decode cX2_restore 29 = .ok (.aload_n 0, 1) := by decide +kernel
theorem dX2_restore_30 : decode cX2_restore 30 = .ok (.getfield 18, 3) := by decide +kernel
theorem dX2_restore_33 : decode cX2_restore 33 = .ok (.aaload, 1) := by decide +kernel
theorem dX2_restore_34 : decode cX2_restore 34 = .ok (.invokevirtual 25, 3) := by decide +kernel
theorem dX2_restore_37 : decode cX2_restore 37 = .ok (.return_, 1) := by decide +kernel
theorem dX3_init_0 : decode cX3_init 0 = .ok (.aload_n 0, 1) := by decide +kernel
theorem dX3_init_1 : decode cX3_init 1 = .ok (.invokespecial 3, 3) := by decide +kernel
theorem dX3_init_4 : decode cX3_init 4 = .ok (.aload_n 0, 1) := by decide +kernel
theorem dX3_init_5 : decode cX3_init 5 = .ok (.bipush 12, 2) := by decide +kernel
theorem dX3_init_7 : decode cX3_init 7 = .ok (.newarray .int, 2) := by decide +kernel
theorem dX3_init_9 : decode cX3_init 9 = .ok (.putfield 9, 3) := by decide +kernel
theorem dX3_init_12 : decode cX3_init 12 = .ok (.aload_n 0, 1) := by decide +kernel
theorem dX3_init_13 : decode cX3_init 13 = .ok (.bipush 12, 2) := by decide +kernel
theorem dX3_init_15 : decode cX3_init 15 = .ok (.newarray .int, 2) := by decide +kernel
theorem dX3_init_17 : decode cX3_init 17 = .ok (.putfield 15, 3) := by decide +kernel
theorem dX3_init_20 : decode cX3_init 20 = .ok (.aload_n 0, 1) := by decide +kernel
theorem dX3_init_21 : decode cX3_init 21 = .ok (.bipush 12, 2) := by decide +kernel
theorem dX3_init_23 : decode cX3_init 23 = .ok (.newarray .int, 2) := by decide +kernel
theorem dX3_init_25 : decode cX3_init 25 = .ok (.putfield 18, 3) := by decide +kernel
theorem dX3_init_28 : decode cX3_init 28 = .ok (.aload_n 0, 1) := by decide +kernel
theorem dX3_init_29 : decode cX3_init 29 = .ok (.iconst 0, 1) := by decide +kernel
theorem dX3_init_30 : decode cX3_init 30 = .ok (.putfield 21, 3) := by decide +kernel
theorem dX3_init_33 : decode cX3_init 33 = .ok (.return_, 1) := by decide +kernel
theorem dX3_append_0 : decode cX3_append 0 = .ok (.aload_n 0, 1) := by decide +kernel
theorem dX3_append_1 : decode cX3_append 1 = .ok (.getfield 9, 3) := by decide +kernel
theorem dX3_append_4 : decode cX3_append 4 = .ok (.aload_n 0, 1) := by decide +kernel
theorem dX3_append_5 : decode cX3_append 5 = .ok (.getfield 21, 3) := by decide +kernel
theorem dX3_append_8 : decode cX3_append 8 = .ok (.iload_n 1, 1) := by decide +kernel
theorem dX3_append_9 : decode cX3_append 9 = .ok (.iastore, 1) := by decide +kernel
theorem dX3_append_10 : decode cX3_append 10 = .ok (.aload_n 0, 1) := by decide +kernel
theorem dX3_append_11 : decode cX3_append 11 = .ok (.getfield 15, 3) := by decide +kernel
theorem dX3_append_14 : decode cX3_append 14 = .ok (.aload_n 0, 1) := by decide +kernel
theorem dX3_append_15 : decode cX3_append 15 = .ok (.getfield 21, 3) := by decide +kernel
theorem dX3_append_18 : decode cX3_append 18 = .ok (.iload_n 2, 1) := by decide +kernel
theorem dX3_append_19 : decode cX3_append 19 = .ok (.iastore, 1) := by decide +kernel
theorem dX3_append_20 : decode cX3_append 20 = .ok (.aload_n 0, 1) := by decide +kernel
theorem dX3_append_21 : decode cX3_append 21 = .ok (.getfield 18, 3) := by decide +kernel
theorem dX3_append_24 : decode cX3_append 24 = .ok (.aload_n 0, 1) := by decide +kernel
theorem dX3_append_25 : decode cX3_append 25 = .ok (.getfield 21, 3) := by decide +kernel
theorem dX3_append_28 : decode cX3_append 28 = .ok (.iload_n 3, 1) := by decide +kernel
theorem dX3_append_29 : decode cX3_append 29 = .ok (.iastore, 1) := by decide +kernel
theorem dX3_append_30 : decode cX3_append 30 = .ok (.aload_n 0, 1) := by decide +kernel
theorem dX3_append_31 : decode cX3_append 31 = .ok (.dup, 1) := by decide +kernel
theorem dX3_append_32 : decode cX3_append 32 = .ok (.getfield 21, 3) := by decide +kernel
theorem dX3_append_35 : decode cX3_append 35 = .ok (.iconst 1, 1) := by decide +kernel
theorem dX3_append_36 : decode cX3_append 36 = .ok (.iadd, 1) := by decide +kernel
theorem dX3_append_37 : decode cX3_append 37 = .ok (.putfield 21, 3) := by decide +kernel
theorem dX3_append_40 : decode cX3_append 40 = .ok (.aload_n 0, 1) := by decide +kernel
theorem dX3_append_41 : decode cX3_append 41 = .ok (.getfield 21, 3) := by decide +kernel
theorem dX3_append_44 : decode cX3_append 44 = .ok (.iconst 1, 1) := by decide +kernel
theorem dX3_append_45 : decode cX3_append 45 = .ok (.isub, 1) := by decide +kernel
theorem dX3_append_46 : decode cX3_append 46 = .ok (.ireturn, 1) := by decide +kernel
theorem dX3_pullOf_0 : decode cX3_pullOf 0 = .ok (.sipush 170, 3) := by decide +kernel
theorem dX3_pullOf_3 : decode cX3_pullOf 3 = .ok (.aload_n 0, 1) := by decide +kernel
theorem dX3_pullOf_4 : decode cX3_pullOf 4 = .ok (.getfield 18, 3) := by decide +kernel
theorem dX3_pullOf_7 : decode cX3_pullOf 7 = .ok (.iload_n 1, 1) := by decide +kernel
theorem dX3_pullOf_8 : decode cX3_pullOf 8 = .ok (.iaload, 1) := by decide +kernel
theorem dX3_pullOf_9 : decode cX3_pullOf 9 = .ok (.isub, 1) := by decide +kernel
theorem dX3_pullOf_10 : decode cX3_pullOf 10 = .ok (.ireturn, 1) := by decide +kernel
theorem dX3_copyFrom_0 : decode cX3_copyFrom 0 = .ok (.aload_n 1, 1) := by decide +kernel
theorem dX3_copyFrom_1 : decode cX3_copyFrom 1 = .ok (.getfield 9, 3) := by decide +kernel
theorem dX3_copyFrom_4 : decode cX3_copyFrom 4 = .ok (.aload_n 0, 1) := by decide +kernel
theorem dX3_copyFrom_5 : decode cX3_copyFrom 5 = .ok (.getfield 9, 3) := by decide +kernel
theorem dX3_copyFrom_8 : decode cX3_copyFrom 8 = .ok (.invokestatic 25, 3) := by decide +kernel
theorem dX3_copyFrom_11 : decode cX3_copyFrom 11 = .ok (.aload_n 1, 1) := by decide +kernel
theorem dX3_copyFrom_12 : decode cX3_copyFrom 12 = .ok (.getfield 15, 3) := by decide +kernel
theorem dX3_copyFrom_15 : decode cX3_copyFrom 15 = .ok (.aload_n 0, 1) := by decide +kernel
theorem dX3_copyFrom_16 : decode cX3_copyFrom 16 = .ok (.getfield 15, 3) := by decide +kernel
theorem dX3_copyFrom_19 : decode cX3_copyFrom 19 = .ok (.invokestatic 25, 3) := by decide +kernel
theorem dX3_copyFrom_22 : decode cX3_copyFrom 22 = .ok (.aload_n 1, 1) := by decide +kernel
theorem dX3_copyFrom_23 : decode cX3_copyFrom 23 = .ok (.getfield 18, 3) := by decide +kernel
theorem dX3_copyFrom_26 : decode cX3_copyFrom 26 = .ok (.aload_n 0, 1) := by decide +kernel
theorem dX3_copyFrom_27 : decode cX3_copyFrom 27 = .ok (.getfield 18, 3) := by decide +kernel
theorem dX3_copyFrom_30 : decode cX3_copyFrom 30 = .ok (.invokestatic 25, 3) := by decide +kernel
theorem dX3_copyFrom_33 : decode cX3_copyFrom 33 = .ok (.aload_n 0, 1) := by decide +kernel
theorem dX3_copyFrom_34 : decode cX3_copyFrom 34 = .ok (.aload_n 1, 1) := by decide +kernel
theorem dX3_copyFrom_35 : decode cX3_copyFrom 35 = .ok (.getfield 21, 3) := by decide +kernel
theorem dX3_copyFrom_38 : decode cX3_copyFrom 38 = .ok (.putfield 21, 3) := by decide +kernel
theorem dX3_copyFrom_41 : decode cX3_copyFrom 41 = .ok (.return_, 1) := by decide +kernel
theorem dX4_init_0 : decode cX4_init 0 = .ok (.aload_n 0, 1) := by decide +kernel
theorem dX4_init_1 : decode cX4_init 1 = .ok (.invokespecial 5, 3) := by decide +kernel
theorem dX4_init_4 : decode cX4_init 4 = .ok (.aload_n 0, 1) := by decide +kernel
theorem dX4_init_5 : decode cX4_init 5 = .ok (.sipush 4096, 3) := by decide +kernel
theorem dX4_init_8 : decode cX4_init 8 = .ok (.newarray .int, 2) := by decide +kernel
theorem dX4_init_10 : decode cX4_init 10 = .ok (.putfield 11, 3) := by decide +kernel
theorem dX4_init_13 : decode cX4_init 13 = .ok (.aload_n 0, 1) := by decide +kernel
theorem dX4_init_14 : decode cX4_init 14 = .ok (.bipush 64, 2) := by decide +kernel
theorem dX4_init_16 : decode cX4_init 16 = .ok (.newarray .int, 2) := by decide +kernel
theorem dX4_init_18 : decode cX4_init 18 = .ok (.putfield 15, 3) := by decide +kernel
theorem dX4_init_21 : decode cX4_init 21 = .ok (.aload_n 0, 1) := by decide +kernel
theorem dX4_init_22 : decode cX4_init 22 = .ok (.bipush 64, 2) := by decide +kernel
theorem dX4_init_24 : decode cX4_init 24 = .ok (.newarray .int, 2) := by decide +kernel
theorem dX4_init_26 : decode cX4_init 26 = .ok (.putfield 18, 3) := by decide +kernel
theorem dX4_init_29 : decode cX4_init 29 = .ok (.aload_n 0, 1) := by decide +kernel
theorem dX4_init_30 : decode cX4_init 30 = .ok (.bipush 64, 2) := by decide +kernel
theorem dX4_init_32 : decode cX4_init 32 = .ok (.newarray .int, 2) := by decide +kernel
theorem dX4_init_34 : decode cX4_init 34 = .ok (.putfield 21, 3) := by decide +kernel
theorem dX4_init_37 : decode cX4_init 37 = .ok (.aload_n 0, 1) := by decide +kernel
theorem dX4_init_38 : decode cX4_init 38 = .ok (.bipush 18, 2) := by decide +kernel
theorem dX4_init_40 : decode cX4_init 40 = .ok (.newarray .int, 2) := by decide +kernel
theorem dX4_init_42 : decode cX4_init 42 = .ok (.putfield 24, 3) := by decide +kernel
theorem dX4_init_45 : decode cX4_init 45 = .ok (.aload_n 0, 1) := by decide +kernel
theorem dX4_init_46 : decode cX4_init 46 = .ok (.bipush 18, 2) := by decide +kernel
theorem dX4_init_48 : decode cX4_init 48 = .ok (.newarray .int, 2) := by decide +kernel
theorem dX4_init_50 : decode cX4_init 50 = .ok (.putfield 27, 3) := by decide +kernel
theorem dX4_init_53 : decode cX4_init 53 = .ok (.aload_n 0, 1) := by decide +kernel
theorem dX4_init_54 : decode cX4_init 54 = .ok (.iconst 0, 1) := by decide +kernel
theorem dX4_init_55 : decode cX4_init 55 = .ok (.putfield 30, 3) := by decide +kernel
theorem dX4_init_58 : decode cX4_init 58 = .ok (.aload_n 0, 1) := by decide +kernel
theorem dX4_init_59 : decode cX4_init 59 = .ok (.iconst 0, 1) := by decide +kernel
theorem dX4_init_60 : decode cX4_init 60 = .ok (.putfield 34, 3) := by decide +kernel
theorem dX4_init_63 : decode cX4_init 63 = .ok (.iconst 1, 1) := by decide +kernel
theorem dX4_init_64 : decode cX4_init 64 = .ok (.istore_n 1, 1) := by decide +kernel
theorem dX4_init_65 : decode cX4_init 65 = .ok (.iload_n 1, 1) := by decide +kernel
theorem dX4_init_66 : decode cX4_init 66 = .ok (.bipush 64, 2) := by decide +kernel
theorem dX4_init_68 : decode cX4_init 68 = .ok (.if_icmp .ge 45, 3) := by decide +kernel
theorem dX4_init_71 : decode cX4_init 71 = .ok (.iconst 0, 1) := by decide +kernel
theorem dX4_init_72 : decode cX4_init 72 = .ok (.istore_n 2, 1) := by decide +kernel
theorem dX4_init_73 : decode cX4_init 73 = .ok (.iload_n 2, 1) := by decide +kernel
theorem dX4_init_74 : decode cX4_init 74 = .ok (.bipush 6, 2) := by decide +kernel
theorem dX4_init_76 : decode cX4_init 76 = .ok (.if_icmp .ge 31, 3) := by decide +kernel
theorem dX4_init_79 : decode cX4_init 79 = .ok (.iload_n 1, 1) := by decide +kernel
theorem dX4_init_80 : decode cX4_init 80 = .ok (.iconst 1, 1) := by decide +kernel
theorem dX4_init_81 : decode cX4_init 81 = .ok (.iload_n 2, 1) := by decide +kernel
theorem dX4_init_82 : decode cX4_init 82 = .ok (.ishl, 1) := by decide +kernel
theorem dX4_init_83 : decode cX4_init 83 = .ok (.iand, 1) := by decide +kernel
theorem dX4_init_84 : decode cX4_init 84 = .ok (.ifCond .eq 17, 3) := by decide +kernel
theorem dX4_init_87 : decode cX4_init 87 = .ok (.aload_n 0, 1) := by decide +kernel
theorem dX4_init_88 : decode cX4_init 88 = .ok (.getfield 15, 3) := by decide +kernel
theorem dX4_init_91 : decode cX4_init 91 = .ok (.iload_n 1, 1) := by decide +kernel
theorem dX4_init_92 : decode cX4_init 92 = .ok (.dup2, 1) := by decide +kernel
theorem dX4_init_93 : decode cX4_init 93 = .ok (.iaload, 1) := by decide +kernel
theorem dX4_init_94 : decode cX4_init 94 = .ok (.iconst 1, 1) := by decide +kernel
theorem dX4_init_95 : decode cX4_init 95 = .ok (.iconst 2, 1) := by decide +kernel
theorem dX4_init_96 : decode cX4_init 96 = .ok (.iload_n 2, 1) := by decide +kernel
theorem dX4_init_97 : decode cX4_init 97 = .ok (.imul, 1) := by decide +kernel
theorem dX4_init_98 : decode cX4_init 98 = .ok (.ishl, 1) := by decide +kernel
theorem dX4_init_99 : decode cX4_init 99 = .ok (.iadd, 1) := by decide +kernel
theorem dX4_init_100 : decode cX4_init 100 = .ok (.iastore, 1) := by decide +kernel
theorem dX4_init_101 : decode cX4_init 101 = .ok (.iinc 2 1, 3) := by decide +kernel
theorem dX4_init_104 : decode cX4_init 104 = .ok (.goto (-31), 3) := by decide +kernel
theorem dX4_init_107 : decode cX4_init 107 = .ok (.iinc 1 1, 3) := by decide +kernel
theorem dX4_init_110 : decode cX4_init 110 = .ok (.goto (-45), 3) := by decide +kernel
theorem dX4_init_113 : decode cX4_init 113 = .ok (.return_, 1) := by decide +kernel
theorem dX4_search_0 : decode cX4_search 0 = .ok (.aload_n 1, 1) := by decide +kernel
theorem dX4_search_1 : decode cX4_search 1 = .ok (.invokestatic 38, 3) := by decide +kernel
theorem dX4_search_4 : decode cX4_search 4 = .ok (.istore_n 3, 1) := by decide +kernel
theorem dX4_search_5 : decode cX4_search 5 = .ok (.aload_n 0, 1) := by decide +kernel
theorem dX4_search_6 : decode cX4_search 6 = .ok (.getfield 11, 3) := by decide +kernel
theorem dX4_search_9 : decode cX4_search 9 = .ok (.iload_n 3, 1) := by decide +kernel
theorem dX4_search_10 : decode cX4_search 10 = .ok (.iconst 0, 1) := by decide +kernel
theorem dX4_search_11 : decode cX4_search 11 = .ok (.iastore, 1) := by decide +kernel
theorem dX4_search_12 : decode cX4_search 12 = .ok (.iload_n 3, 1) := by decide +kernel
theorem dX4_search_13 : decode cX4_search 13 = .ok (.iconst 1, 1) := by decide +kernel
theorem dX4_search_14 : decode cX4_search 14 = .ok (.isub, 1) := by decide +kernel
theorem dX4_search_15 : decode cX4_search 15 = .ok (.istore 4, 2) := by decide +kernel
theorem dX4_search_17 : decode cX4_search 17 = .ok (.iload 4, 2) := by decide +kernel
theorem dX4_search_19 : decode cX4_search 19 = .ok (.ifCond .lt 66, 3) := by decide +kernel
theorem dX4_search_22 : decode cX4_search 22 = .ok (.iload 4, 2) := by decide +kernel
theorem dX4_search_24 : decode cX4_search 24 = .ok (.aload_n 1, 1) := by decide +kernel
theorem dX4_search_25 : decode cX4_search 25 = .ok (.invokestatic 42, 3) := by decide +kernel
theorem dX4_search_28 : decode cX4_search 28 = .ok (.ifCond .eq 14, 3) := by decide +kernel
theorem dX4_search_31 : decode cX4_search 31 = .ok (.aload_n 0, 1) := by decide +kernel
theorem dX4_search_32 : decode cX4_search 32 = .ok (.iload 4, 2) := by decide +kernel
theorem dX4_search_34 : decode cX4_search 34 = .ok (.aload_n 1, 1) := by decide +kernel
theorem dX4_search_35 : decode cX4_search 35 = .ok (.aload_n 2, 1) := by decide +kernel
theorem dX4_search_36 : decode cX4_search 36 = .ok (.invokevirtual 46, 3) := by decide +kernel
theorem dX4_search_39 : decode cX4_search 39 = .ok (.goto 4, 3) := by decide +kernel
theorem dX4_search_42 : decode cX4_search 42 = .ok (.iconst 0, 1) := by decide +kernel
theorem dX4_search_43 : decode cX4_search 43 = .ok (.istore 5, 2) := by decide +kernel
theorem dX4_search_45 : decode cX4_search 45 = .ok (.aload_n 0, 1) := by decide +kernel
theorem dX4_search_46 : decode cX4_search 46 = .ok (.getfield 11, 3) := by decide +kernel
theorem dX4_search_49 : decode cX4_search 49 = .ok (.iload 4, 2) := by decide +kernel
theorem dX4_search_51 : decode cX4_search 51 = .ok (.iload 5, 2) := by decide +kernel
theorem dX4_search_53 : decode cX4_search 53 = .ok (.ifCond .ne 8, 3) := by decide +kernel
theorem dX4_search_56 : decode cX4_search 56 = .ok (.bipush 19, 2) := by decide +kernel
theorem dX4_search_58 : decode cX4_search 58 = .ok (.goto 20, 3) := by decide +kernel
theorem dX4_search_61 : decode cX4_search 61 = .ok (.aload_n 0, 1) := by decide +kernel
theorem dX4_search_62 : decode cX4_search 62 = .ok (.getfield 11, 3) := by decide +kernel
theorem dX4_search_65 : decode cX4_search 65 = .ok (.iload 4, 2) := by decide +kernel
theorem dX4_search_67 : decode cX4_search 67 = .ok (.aload_n 0, 1) := by decide +kernel
theorem dX4_search_68 : decode cX4_search 68 = .ok (.getfield 15, 3) := by decide +kernel
theorem dX4_search_71 : decode cX4_search 71 = .ok (.iload 5, 2) := by decide +kernel
theorem dX4_search_73 : decode cX4_search 73 = .ok (.iaload, 1) := by decide +kernel
theorem dX4_search_74 : decode cX4_search 74 = .ok (.iadd, 1) := by decide +kernel
theorem dX4_search_75 : decode cX4_search 75 = .ok (.iaload, 1) := by decide +kernel
theorem dX4_search_76 : decode cX4_search 76 = .ok (.iconst 1, 1) := by decide +kernel
theorem dX4_search_77 : decode cX4_search 77 = .ok (.iadd, 1) := by decide +kernel
theorem dX4_search_78 : decode cX4_search 78 = .ok (.iastore, 1) := by decide +kernel
theorem dX4_search_79 : decode cX4_search 79 = .ok (.iinc 4 (-1), 3) := by decide +kernel
theorem dX4_search_82 : decode cX4_search 82 = .ok (.goto (-65), 3) := by decide +kernel
theorem dX4_search_85 : decode cX4_search 85 = .ok (.aload_n 0, 1) := by decide +kernel
theorem dX4_search_86 : decode cX4_search 86 = .ok (.aload_n 0, 1) := by decide +kernel
theorem dX4_search_87 : decode cX4_search 87 = .ok (.getfield 11, 3) := by decide +kernel
theorem dX4_search_90 : decode cX4_search 90 = .ok (.iconst 0, 1) := by decide +kernel
theorem dX4_search_91 : decode cX4_search 91 = .ok (.iaload, 1) := by decide +kernel
theorem dX4_search_92 : decode cX4_search 92 = .ok (.bipush 19, 2) := by decide +kernel
theorem dX4_search_94 : decode cX4_search 94 = .ok (.if_icmp .ge 7, 3) := by decide +kernel
theorem dX4_search_97 : decode cX4_search 97 = .ok (.iconst 1, 1) := by decide +kernel
theorem dX4_search_98 : decode cX4_search 98 = .ok (.goto 4, 3) := by decide +kernel
theorem dX4_search_101 : decode cX4_search 101 = .ok (.iconst 0, 1) := by decide +kernel
theorem dX4_search_102 : decode cX4_search 102 = .ok (.putfield 34, 3) := by decide +kernel
theorem dX4_search_105 : decode cX4_search 105 = .ok (.aload_n 0, 1) := by decide +kernel
theorem dX4_search_106 : decode cX4_search 106 = .ok (.aload_n 0, 1) := by decide +kernel
theorem dX4_search_107 : decode cX4_search 107 = .ok (.getfield 34, 3) := by decide +kernel
theorem dX4_search_110 : decode cX4_search 110 = .ok (.ifCond .eq 12, 3) := by decide +kernel
theorem dX4_search_113 : decode cX4_search 113 = .ok (.aload_n 0, 1) := by decide +kernel
theorem dX4_search_114 : decode cX4_search 114 = .ok (.getfield 11, 3) := by decide +kernel
theorem dX4_search_117 : decode cX4_search 117 = .ok (.iconst 0, 1) := by decide +kernel
theorem dX4_search_118 : decode cX4_search 118 = .ok (.iaload, 1) := by decide +kernel
theorem dX4_search_119 : decode cX4_search 119 = .ok (.goto 4, 3) := by decide +kernel
theorem dX4_search_122 : decode cX4_search 122 = .ok (.iconst 0, 1) := by decide +kernel
theorem dX4_search_123 : decode cX4_search 123 = .ok (.putfield 30, 3) := by decide +kernel
theorem dX4_search_126 : decode cX4_search 126 = .ok (.iconst 0, 1) := by decide +kernel
theorem dX4_search_127 : decode cX4_search 127 = .ok (.istore 4, 2) := by decide +kernel
theorem dX4_search_129 : decode cX4_search 129 = .ok (.iconst 0, 1) := by decide +kernel
theorem dX4_search_130 : decode cX4_search 130 = .ok (.istore 5, 2) := by decide +kernel
theorem dX4_search_132 : decode cX4_search 132 = .ok (.iload 5, 2) := by decide +kernel
theorem dX4_search_134 : decode cX4_search 134 = .ok (.aload_n 0, 1) := by decide +kernel
theorem dX4_search_135 : decode cX4_search 135 = .ok (.getfield 30, 3) := by decide +kernel
theorem dX4_search_138 : decode cX4_search 138 = .ok (.if_icmp .ge 60, 3) := by decide +kernel
theorem dX4_search_141 : decode cX4_search 141 = .ok (.aload_n 0, 1) := by decide +kernel
theorem dX4_search_142 : decode cX4_search 142 = .ok (.getfield 24, 3) := by decide +kernel
theorem dX4_search_145 : decode cX4_search 145 = .ok (.iload 5, 2) := by decide +kernel
theorem dX4_search_147 : decode cX4_search 147 = .ok (.aload_n 0, 1) := by decide +kernel
theorem dX4_search_148 : decode cX4_search 148 = .ok (.iload 4, 2) := by decide +kernel
theorem dX4_search_150 : decode cX4_search 150 = .ok (.aload_n 1, 1) := by decide +kernel
theorem dX4_search_151 : decode cX4_search 151 = .ok (.aload_n 2, 1) := by decide +kernel
theorem dX4_search_152 : decode cX4_search 152 = .ok (.invokevirtual 46, 3) := by decide +kernel
theorem dX4_search_155 : decode cX4_search 155 = .ok (.iastore, 1) := by decide +kernel
theorem dX4_search_156 : decode cX4_search 156 = .ok (.aload_n 0, 1) := by decide +kernel
theorem dX4_search_157 : decode cX4_search 157 = .ok (.getfield 27, 3) := by decide +kernel
theorem dX4_search_160 : decode cX4_search 160 = .ok (.iload 5, 2) := by decide +kernel
theorem dX4_search_162 : decode cX4_search 162 = .ok (.aload_n 0, 1) := by decide +kernel
theorem dX4_search_163 : decode cX4_search 163 = .ok (.getfield 18, 3) := by decide +kernel
theorem dX4_search_166 : decode cX4_search 166 = .ok (.aload_n 0, 1) := by decide +kernel
theorem dX4_search_167 : decode cX4_search 167 = .ok (.getfield 24, 3) := by decide +kernel
theorem dX4_search_170 : decode cX4_search 170 = .ok (.iload 5, 2) := by decide +kernel
theorem dX4_search_172 : decode cX4_search 172 = .ok (.iaload, 1) := by decide +kernel
theorem dX4_search_173 : decode cX4_search 173 = .ok (.iaload, 1) := by decide +kernel
theorem dX4_search_174 : decode cX4_search 174 = .ok (.iastore, 1) := by decide +kernel
theorem dX4_search_175 : decode cX4_search 175 = .ok (.iload 4, 2) := by decide +kernel
theorem dX4_search_177 : decode cX4_search 177 = .ok (.aload_n 0, 1) := by decide +kernel
theorem dX4_search_178 : decode cX4_search 178 = .ok (.getfield 15, 3) := by decide +kernel
theorem dX4_search_181 : decode cX4_search 181 = .ok (.aload_n 0, 1) := by decide +kernel
theorem dX4_search_182 : decode cX4_search 182 = .ok (.getfield 24, 3) := by decide +kernel
theorem dX4_search_185 : decode cX4_search 185 = .ok (.iload 5, 2) := by decide +kernel
theorem dX4_search_187 : decode cX4_search 187 = .ok (.iaload, 1) := by decide +kernel
theorem dX4_search_188 : decode cX4_search 188 = .ok (.iaload, 1) := by decide +kernel
theorem dX4_search_189 : decode cX4_search 189 = .ok (.iadd, 1) := by decide +kernel
theorem dX4_search_190 : decode cX4_search 190 = .ok (.istore 4, 2) := by decide +kernel
theorem dX4_search_192 : decode cX4_search 192 = .ok (.iinc 5 1, 3) := by decide +kernel
theorem dX4_search_195 : decode cX4_search 195 = .ok (.goto (-63), 3) := by decide +kernel
theorem dX4_search_198 : decode cX4_search 198 = .ok (.return_, 1) := by decide +kernel
theorem dX4_layersAt_0 : decode cX4_layersAt 0 = .ok (.iload_n 0, 1) := by decide +kernel
theorem dX4_layersAt_1 : decode cX4_layersAt 1 = .ok (.iconst 2, 1) := by decide +kernel
theorem dX4_layersAt_2 : decode cX4_layersAt 2 = .ok (.iload_n 1, 1) := by decide +kernel
theorem dX4_layersAt_3 : decode cX4_layersAt 3 = .ok (.imul, 1) := by decide +kernel
theorem dX4_layersAt_4 : decode cX4_layersAt 4 = .ok (.ishr, 1) := by decide +kernel
theorem dX4_layersAt_5 : decode cX4_layersAt 5 = .ok (.iconst 3, 1) := by decide +kernel
theorem dX4_layersAt_6 : decode cX4_layersAt 6 = .ok (.iand, 1) := by decide +kernel
theorem dX4_layersAt_7 : decode cX4_layersAt 7 = .ok (.ireturn, 1) := by decide +kernel
theorem dX4_lastStage_0 : decode cX4_lastStage 0 = .ok (.iconst 0, 1) := by decide +kernel
theorem dX4_lastStage_1 : decode cX4_lastStage 1 = .ok (.istore_n 1, 1) := by decide +kernel
theorem dX4_lastStage_2 : decode cX4_lastStage 2 = .ok (.iconst 0, 1) := by decide +kernel
theorem dX4_lastStage_3 : decode cX4_lastStage 3 = .ok (.istore_n 2, 1) := by decide +kernel
theorem dX4_lastStage_4 : decode cX4_lastStage 4 = .ok (.iload_n 2, 1) := by decide +kernel
theorem dX4_lastStage_5 : decode cX4_lastStage 5 = .ok (.bipush 6, 2) := by decide +kernel
theorem dX4_lastStage_7 : decode cX4_lastStage 7 = .ok (.if_icmp .ge 22, 3) := by decide +kernel
theorem dX4_lastStage_10 : decode cX4_lastStage 10 = .ok (.iload_n 1, 1) := by decide +kernel
theorem dX4_lastStage_11 : decode cX4_lastStage 11 = .ok (.aload_n 0, 1) := by decide +kernel
theorem dX4_lastStage_12 : decode cX4_lastStage 12 = .ok (.getfield 50, 3) := by decide +kernel
theorem dX4_lastStage_15 : decode cX4_lastStage 15 = .ok (.iload_n 2, 1) := by decide +kernel
theorem dX4_lastStage_16 : decode cX4_lastStage 16 = .ok (.iaload, 1) := by decide +kernel
theorem dX4_lastStage_17 : decode cX4_lastStage 17 = .ok (.iconst 2, 1) := by decide +kernel
theorem dX4_lastStage_18 : decode cX4_lastStage 18 = .ok (.iload_n 2, 1) := by decide +kernel
theorem dX4_lastStage_19 : decode cX4_lastStage 19 = .ok (.imul, 1) := by decide +kernel
theorem dX4_lastStage_20 : decode cX4_lastStage 20 = .ok (.ishl, 1) := by decide +kernel
theorem dX4_lastStage_21 : decode cX4_lastStage 21 = .ok (.ior, 1) := by decide +kernel
theorem dX4_lastStage_22 : decode cX4_lastStage 22 = .ok (.istore_n 1, 1) := by decide +kernel
theorem dX4_lastStage_23 : decode cX4_lastStage 23 = .ok (.iinc 2 1, 3) := by decide +kernel
theorem dX4_lastStage_26 : decode cX4_lastStage 26 = .ok (.goto (-22), 3) := by decide +kernel
theorem dX4_lastStage_29 : decode cX4_lastStage 29 = .ok (.iload_n 1, 1) := by decide +kernel
theorem dX4_lastStage_30 : decode cX4_lastStage 30 = .ok (.ireturn, 1) := by decide +kernel
theorem dX4_isStage_0 : decode cX4_isStage 0 = .ok (.iconst 0, 1) := by decide +kernel
theorem dX4_isStage_1 : decode cX4_isStage 1 = .ok (.istore_n 2, 1) := by decide +kernel
theorem dX4_isStage_2 : decode cX4_isStage 2 = .ok (.iload_n 2, 1) := by decide +kernel
theorem dX4_isStage_3 : decode cX4_isStage 3 = .ok (.bipush 6, 2) := by decide +kernel
theorem dX4_isStage_5 : decode cX4_isStage 5 = .ok (.if_icmp .ge 25, 3) := by decide +kernel
theorem dX4_isStage_8 : decode cX4_isStage 8 = .ok (.iload_n 0, 1) := by decide +kernel
theorem dX4_isStage_9 : decode cX4_isStage 9 = .ok (.iload_n 2, 1) := by decide +kernel
theorem dX4_isStage_10 : decode cX4_isStage 10 = .ok (.invokestatic 55, 3) := by decide +kernel
theorem dX4_isStage_13 : decode cX4_isStage 13 = .ok (.aload_n 1, 1) := by decide +kernel
theorem dX4_isStage_14 : decode cX4_isStage 14 = .ok (.getfield 50, 3) := by decide +kernel
theorem dX4_isStage_17 : decode cX4_isStage 17 = .ok (.iload_n 2, 1) := by decide +kernel
theorem dX4_isStage_18 : decode cX4_isStage 18 = .ok (.iaload, 1) := by decide +kernel
theorem dX4_isStage_19 : decode cX4_isStage 19 = .ok (.if_icmp .le 5, 3) := by decide +kernel
theorem dX4_isStage_22 : decode cX4_isStage 22 = .ok (.iconst 0, 1) := by decide +kernel
theorem dX4_isStage_23 : decode cX4_isStage 23 = .ok (.ireturn, 1) := by decide +kernel
theorem dX4_isStage_24 : decode cX4_isStage 24 = .ok (.iinc 2 1, 3) := by decide +kernel
theorem dX4_isStage_27 : decode cX4_isStage 27 = .ok (.goto (-25), 3) := by decide +kernel
theorem dX4_isStage_30 : decode cX4_isStage 30 = .ok (.iconst 1, 1) := by decide +kernel
theorem dX4_isStage_31 : decode cX4_isStage 31 = .ok (.ireturn, 1) := by decide +kernel
theorem dX4_bestSet_0 : decode cX4_bestSet 0 = .ok (.aload_n 0, 1) := by decide +kernel
theorem dX4_bestSet_1 : decode cX4_bestSet 1 = .ok (.iload_n 1, 1) := by decide +kernel
theorem dX4_bestSet_2 : decode cX4_bestSet 2 = .ok (.aload_n 2, 1) := by decide +kernel
theorem dX4_bestSet_3 : decode cX4_bestSet 3 = .ok (.aload_n 3, 1) := by decide +kernel
theorem dX4_bestSet_4 : decode cX4_bestSet 4 = .ok (.invokevirtual 59, 3) := by decide +kernel
theorem dX4_bestSet_7 : decode cX4_bestSet 7 = .ok (.istore 4, 2) := by decide +kernel
theorem dX4_bestSet_9 : decode cX4_bestSet 9 = .ok (.aload_n 0, 1) := by decide +kernel
theorem dX4_bestSet_10 : decode cX4_bestSet 10 = .ok (.getfield 18, 3) := by decide +kernel
theorem dX4_bestSet_13 : decode cX4_bestSet 13 = .ok (.iconst 0, 1) := by decide +kernel
theorem dX4_bestSet_14 : decode cX4_bestSet 14 = .ok (.iconst 0, 1) := by decide +kernel
theorem dX4_bestSet_15 : decode cX4_bestSet 15 = .ok (.iastore, 1) := by decide +kernel
theorem dX4_bestSet_16 : decode cX4_bestSet 16 = .ok (.aload_n 0, 1) := by decide +kernel
theorem dX4_bestSet_17 : decode cX4_bestSet 17 = .ok (.getfield 21, 3) := by decide +kernel
theorem dX4_bestSet_20 : decode cX4_bestSet 20 = .ok (.iconst 0, 1) := by decide +kernel
theorem dX4_bestSet_21 : decode cX4_bestSet 21 = .ok (.iload_n 1, 1) := by decide +kernel
theorem dX4_bestSet_22 : decode cX4_bestSet 22 = .ok (.aload_n 2, 1) := by decide +kernel
theorem dX4_bestSet_23 : decode cX4_bestSet 23 = .ok (.aload_n 3, 1) := by decide +kernel
theorem dX4_bestSet_24 : decode cX4_bestSet 24 = .ok (.invokestatic 62, 3) := by decide +kernel
theorem dX4_bestSet_27 : decode cX4_bestSet 27 = .ok (.iastore, 1) := by decide +kernel
theorem dX4_bestSet_28 : decode cX4_bestSet 28 = .ok (.iconst 0, 1) := by decide +kernel
theorem dX4_bestSet_29 : decode cX4_bestSet 29 = .ok (.istore 5, 2) := by decide +kernel
theorem dX4_bestSet_31 : decode cX4_bestSet 31 = .ok (.bipush 19, 2) := by decide +kernel
theorem dX4_bestSet_33 : decode cX4_bestSet 33 = .ok (.istore 6, 2) := by decide +kernel
theorem dX4_bestSet_35 : decode cX4_bestSet 35 = .ok (.iconst 1, 1) := by decide +kernel
theorem dX4_bestSet_36 : decode cX4_bestSet 36 = .ok (.istore 7, 2) := by decide +kernel
theorem dX4_bestSet_38 : decode cX4_bestSet 38 = .ok (.iload 7, 2) := by decide +kernel
theorem dX4_bestSet_40 : decode cX4_bestSet 40 = .ok (.bipush 64, 2) := by decide +kernel
theorem dX4_bestSet_42 : decode cX4_bestSet 42 = .ok (.if_icmp .ge 142, 3) := by decide +kernel
theorem dX4_bestSet_45 : decode cX4_bestSet 45 = .ok (.iload 7, 2) := by decide +kernel
theorem dX4_bestSet_47 : decode cX4_bestSet 47 = .ok (.iload 4, 2) := by decide +kernel
theorem dX4_bestSet_49 : decode cX4_bestSet 49 = .ok (.iconst (-1), 1) := by decide +kernel
theorem dX4_bestSet_50 : decode cX4_bestSet 50 = .ok (.ixor, 1) := by decide +kernel
theorem dX4_bestSet_51 : decode cX4_bestSet 51 = .ok (.iand, 1) := by decide +kernel
theorem dX4_bestSet_52 : decode cX4_bestSet 52 = .ok (.ifCond .eq 6, 3) := by decide +kernel
theorem dX4_bestSet_55 : decode cX4_bestSet 55 = .ok (.goto 123, 3) := by decide +kernel
theorem dX4_bestSet_58 : decode cX4_bestSet 58 = .ok (.iload 7, 2) := by decide +kernel
theorem dX4_bestSet_60 : decode cX4_bestSet 60 = .ok (.iload 7, 2) := by decide +kernel
theorem dX4_bestSet_62 : decode cX4_bestSet 62 = .ok (.iconst 1, 1) := by decide +kernel
theorem dX4_bestSet_63 : decode cX4_bestSet 63 = .ok (.isub, 1) := by decide +kernel
theorem dX4_bestSet_64 : decode cX4_bestSet 64 = .ok (.iand, 1) := by decide +kernel
theorem dX4_bestSet_65 : decode cX4_bestSet 65 = .ok (.istore 8, 2) := by decide +kernel
theorem dX4_bestSet_67 : decode cX4_bestSet 67 = .ok (.iload 7, 2) := by decide +kernel
theorem dX4_bestSet_69 : decode cX4_bestSet 69 = .ok (.iload 8, 2) := by decide +kernel
theorem dX4_bestSet_71 : decode cX4_bestSet 71 = .ok (.ixor, 1) := by decide +kernel
theorem dX4_bestSet_72 : decode cX4_bestSet 72 = .ok (.istore 9, 2) := by decide +kernel
theorem dX4_bestSet_74 : decode cX4_bestSet 74 = .ok (.aload_n 0, 1) := by decide +kernel
theorem dX4_bestSet_75 : decode cX4_bestSet 75 = .ok (.getfield 18, 3) := by decide +kernel
theorem dX4_bestSet_78 : decode cX4_bestSet 78 = .ok (.iload 7, 2) := by decide +kernel
theorem dX4_bestSet_80 : decode cX4_bestSet 80 = .ok (.aload_n 0, 1) := by decide +kernel
theorem dX4_bestSet_81 : decode cX4_bestSet 81 = .ok (.getfield 18, 3) := by decide +kernel
theorem dX4_bestSet_84 : decode cX4_bestSet 84 = .ok (.iload 8, 2) := by decide +kernel
theorem dX4_bestSet_86 : decode cX4_bestSet 86 = .ok (.iaload, 1) := by decide +kernel
theorem dX4_bestSet_87 : decode cX4_bestSet 87 = .ok (.aload_n 0, 1) := by decide +kernel
theorem dX4_bestSet_88 : decode cX4_bestSet 88 = .ok (.getfield 18, 3) := by decide +kernel
theorem dX4_bestSet_91 : decode cX4_bestSet 91 = .ok (.iload 9, 2) := by decide +kernel
theorem dX4_bestSet_93 : decode cX4_bestSet 93 = .ok (.iaload, 1) := by decide +kernel
theorem dX4_bestSet_94 : decode cX4_bestSet 94 = .ok (.invokestatic 65, 3) := by decide +kernel
theorem dX4_bestSet_97 : decode cX4_bestSet 97 = .ok (.iastore, 1) := by decide +kernel
theorem dX4_bestSet_98 : decode cX4_bestSet 98 = .ok (.aload_n 0, 1) := by decide +kernel
theorem dX4_bestSet_99 : decode cX4_bestSet 99 = .ok (.getfield 21, 3) := by decide +kernel
theorem dX4_bestSet_102 : decode cX4_bestSet 102 = .ok (.iload 7, 2) := by decide +kernel
theorem dX4_bestSet_104 : decode cX4_bestSet 104 = .ok (.aload_n 0, 1) := by decide +kernel
theorem dX4_bestSet_105 : decode cX4_bestSet 105 = .ok (.getfield 21, 3) := by decide +kernel
theorem dX4_bestSet_108 : decode cX4_bestSet 108 = .ok (.iload 8, 2) := by decide +kernel
theorem dX4_bestSet_110 : decode cX4_bestSet 110 = .ok (.iaload, 1) := by decide +kernel
theorem dX4_bestSet_111 : decode cX4_bestSet 111 = .ok (.aload_n 0, 1) := by decide +kernel
theorem dX4_bestSet_112 : decode cX4_bestSet 112 = .ok (.getfield 21, 3) := by decide +kernel
theorem dX4_bestSet_115 : decode cX4_bestSet 115 = .ok (.iload 9, 2) := by decide +kernel
theorem dX4_bestSet_117 : decode cX4_bestSet 117 = .ok (.iaload, 1) := by decide +kernel
theorem dX4_bestSet_118 : decode cX4_bestSet 118 = .ok (.invokestatic 70, 3) := by decide +kernel
theorem dX4_bestSet_121 : decode cX4_bestSet 121 = .ok (.iastore, 1) := by decide +kernel
theorem dX4_bestSet_122 : decode cX4_bestSet 122 = .ok (.aload_n 0, 1) := by decide +kernel
theorem dX4_bestSet_123 : decode cX4_bestSet 123 = .ok (.getfield 18, 3) := by decide +kernel
theorem dX4_bestSet_126 : decode cX4_bestSet 126 = .ok (.iload 7, 2) := by decide +kernel
theorem dX4_bestSet_128 : decode cX4_bestSet 128 = .ok (.iaload, 1) := by decide +kernel
theorem dX4_bestSet_129 : decode cX4_bestSet 129 = .ok (.aload_n 0, 1) := by decide +kernel
theorem dX4_bestSet_130 : decode cX4_bestSet 130 = .ok (.getfield 21, 3) := by decide +kernel
theorem dX4_bestSet_133 : decode cX4_bestSet 133 = .ok (.iload 7, 2) := by decide +kernel
theorem dX4_bestSet_135 : decode cX4_bestSet 135 = .ok (.iaload, 1) := by decide +kernel
theorem dX4_bestSet_136 : decode cX4_bestSet 136 = .ok (.if_icmp .gt 42, 3) := by decide +kernel
theorem dX4_bestSet_139 : decode cX4_bestSet 139 = .ok (.aload_n 0, 1) := by decide +kernel
theorem dX4_bestSet_140 : decode cX4_bestSet 140 = .ok (.getfield 11, 3) := by decide +kernel
theorem dX4_bestSet_143 : decode cX4_bestSet 143 = .ok (.iload_n 1, 1) := by decide +kernel
theorem dX4_bestSet_144 : decode cX4_bestSet 144 = .ok (.aload_n 0, 1) := by decide +kernel
theorem dX4_bestSet_145 : decode cX4_bestSet 145 = .ok (.getfield 15, 3) := by decide +kernel
theorem dX4_bestSet_148 : decode cX4_bestSet 148 = .ok (.iload 7, 2) := by decide +kernel
theorem dX4_bestSet_150 : decode cX4_bestSet 150 = .ok (.iaload, 1) := by decide +kernel
theorem dX4_bestSet_151 : decode cX4_bestSet 151 = .ok (.iadd, 1) := by decide +kernel
theorem dX4_bestSet_152 : decode cX4_bestSet 152 = .ok (.iaload, 1) := by decide +kernel
theorem dX4_bestSet_153 : decode cX4_bestSet 153 = .ok (.iload 6, 2) := by decide +kernel
theorem dX4_bestSet_155 : decode cX4_bestSet 155 = .ok (.if_icmp .ge 23, 3) := by decide +kernel
theorem dX4_bestSet_158 : decode cX4_bestSet 158 = .ok (.iload 7, 2) := by decide +kernel
theorem dX4_bestSet_160 : decode cX4_bestSet 160 = .ok (.istore 5, 2) := by decide +kernel
theorem dX4_bestSet_162 : decode cX4_bestSet 162 = .ok (.aload_n 0, 1) := by decide +kernel
theorem dX4_bestSet_163 : decode cX4_bestSet 163 = .ok (.getfield 11, 3) := by decide +kernel
theorem dX4_bestSet_166 : decode cX4_bestSet 166 = .ok (.iload_n 1, 1) := by decide +kernel
theorem dX4_bestSet_167 : decode cX4_bestSet 167 = .ok (.aload_n 0, 1) := by decide +kernel
theorem dX4_bestSet_168 : decode cX4_bestSet 168 = .ok (.getfield 15, 3) := by decide +kernel
theorem dX4_bestSet_171 : decode cX4_bestSet 171 = .ok (.iload 7, 2) := by decide +kernel
theorem dX4_bestSet_173 : decode cX4_bestSet 173 = .ok (.iaload, 1) := by decide +kernel
theorem dX4_bestSet_174 : decode cX4_bestSet 174 = .ok (.iadd, 1) := by decide +kernel
theorem dX4_bestSet_175 : decode cX4_bestSet 175 = .ok (.iaload, 1) := by decide +kernel
theorem dX4_bestSet_176 : decode cX4_bestSet 176 = .ok (.istore 6, 2) := by decide +kernel
theorem dX4_bestSet_178 : decode cX4_bestSet 178 = .ok (.iinc 7 1, 3) := by decide +kernel
theorem dX4_bestSet_181 : decode cX4_bestSet 181 = .ok (.goto (-143), 3) := by decide +kernel
theorem dX4_bestSet_184 : decode cX4_bestSet 184 = .ok (.iload 5, 2) := by decide +kernel
theorem dX4_bestSet_186 : decode cX4_bestSet 186 = .ok (.ireturn, 1) := by decide +kernel
theorem dX4_lookAtNext_0 : decode cX4_lookAtNext 0 = .ok (.iconst 0, 1) := by decide +kernel
theorem dX4_lookAtNext_1 : decode cX4_lookAtNext 1 = .ok (.istore 4, 2) := by decide +kernel
theorem dX4_lookAtNext_3 : decode cX4_lookAtNext 3 = .ok (.iconst 0, 1) := by decide +kernel
theorem dX4_lookAtNext_4 : decode cX4_lookAtNext 4 = .ok (.istore 5, 2) := by decide +kernel
theorem dX4_lookAtNext_6 : decode cX4_lookAtNext 6 = .ok (.iload 5, 2) := by decide +kernel
theorem dX4_lookAtNext_8 : decode cX4_lookAtNext 8 = .ok (.bipush 6, 2) := by decide +kernel
theorem dX4_lookAtNext_10 : decode cX4_lookAtNext 10 = .ok (.if_icmp .ge 84, 3) := by decide +kernel
theorem dX4_lookAtNext_13 : decode cX4_lookAtNext 13 = .ok (.iload_n 1, 1) := by decide +kernel
theorem dX4_lookAtNext_14 : decode cX4_lookAtNext 14 = .ok (.iload 5, 2) := by decide +kernel
theorem dX4_lookAtNext_16 : decode cX4_lookAtNext 16 = .ok (.invokestatic 55, 3) := by decide +kernel
theorem dX4_lookAtNext_19 : decode cX4_lookAtNext 19 = .ok (.istore 6, 2) := by decide +kernel
theorem dX4_lookAtNext_21 : decode cX4_lookAtNext 21 = .ok (.iload 6, 2) := by decide +kernel
theorem dX4_lookAtNext_23 : decode cX4_lookAtNext 23 = .ok (.aload_n 2, 1) := by decide +kernel
theorem dX4_lookAtNext_24 : decode cX4_lookAtNext 24 = .ok (.getfield 50, 3) := by decide +kernel
theorem dX4_lookAtNext_27 : decode cX4_lookAtNext 27 = .ok (.iload 5, 2) := by decide +kernel
theorem dX4_lookAtNext_29 : decode cX4_lookAtNext 29 = .ok (.iaload, 1) := by decide +kernel
theorem dX4_lookAtNext_30 : decode cX4_lookAtNext 30 = .ok (.if_icmp .ge 58, 3) := by decide +kernel
theorem dX4_lookAtNext_33 : decode cX4_lookAtNext 33 = .ok (.aload_n 2, 1) := by decide +kernel
theorem dX4_lookAtNext_34 : decode cX4_lookAtNext 34 = .ok (.getfield 73, 3) := by decide +kernel
theorem dX4_lookAtNext_37 : decode cX4_lookAtNext 37 = .ok (.iload 5, 2) := by decide +kernel
theorem dX4_lookAtNext_39 : decode cX4_lookAtNext 39 = .ok (.iload 6, 2) := by decide +kernel
theorem dX4_lookAtNext_41 : decode cX4_lookAtNext 41 = .ok (.invokestatic 76, 3) := by decide +kernel
theorem dX4_lookAtNext_44 : decode cX4_lookAtNext 44 = .ok (.iaload, 1) := by decide +kernel
theorem dX4_lookAtNext_45 : decode cX4_lookAtNext 45 = .ok (.istore 7, 2) := by decide +kernel
theorem dX4_lookAtNext_47 : decode cX4_lookAtNext 47 = .ok (.aload_n 0, 1) := by decide +kernel
theorem dX4_lookAtNext_48 : decode cX4_lookAtNext 48 = .ok (.getfield 18, 3) := by decide +kernel
theorem dX4_lookAtNext_51 : decode cX4_lookAtNext 51 = .ok (.iconst 1, 1) := by decide +kernel
theorem dX4_lookAtNext_52 : decode cX4_lookAtNext 52 = .ok (.iload 5, 2) := by decide +kernel
theorem dX4_lookAtNext_54 : decode cX4_lookAtNext 54 = .ok (.ishl, 1) := by decide +kernel
theorem dX4_lookAtNext_55 : decode cX4_lookAtNext 55 = .ok (.aload_n 3, 1) := by decide +kernel
theorem dX4_lookAtNext_56 : decode cX4_lookAtNext 56 = .ok (.getfield 79, 3) := by decide +kernel
theorem dX4_lookAtNext_59 : decode cX4_lookAtNext 59 = .ok (.iload 7, 2) := by decide +kernel
theorem dX4_lookAtNext_61 : decode cX4_lookAtNext 61 = .ok (.iaload, 1) := by decide +kernel
theorem dX4_lookAtNext_62 : decode cX4_lookAtNext 62 = .ok (.iastore, 1) := by decide +kernel
theorem dX4_lookAtNext_63 : decode cX4_lookAtNext 63 = .ok (.aload_n 0, 1) := by decide +kernel
theorem dX4_lookAtNext_64 : decode cX4_lookAtNext 64 = .ok (.getfield 21, 3) := by decide +kernel
theorem dX4_lookAtNext_67 : decode cX4_lookAtNext 67 = .ok (.iconst 1, 1) := by decide +kernel
theorem dX4_lookAtNext_68 : decode cX4_lookAtNext 68 = .ok (.iload 5, 2) := by decide +kernel
theorem dX4_lookAtNext_70 : decode cX4_lookAtNext 70 = .ok (.ishl, 1) := by decide +kernel
theorem dX4_lookAtNext_71 : decode cX4_lookAtNext 71 = .ok (.aload_n 3, 1) := by decide +kernel
theorem dX4_lookAtNext_72 : decode cX4_lookAtNext 72 = .ok (.getfield 84, 3) := by decide +kernel
theorem dX4_lookAtNext_75 : decode cX4_lookAtNext 75 = .ok (.iload 7, 2) := by decide +kernel
theorem dX4_lookAtNext_77 : decode cX4_lookAtNext 77 = .ok (.iaload, 1) := by decide +kernel
theorem dX4_lookAtNext_78 : decode cX4_lookAtNext 78 = .ok (.iastore, 1) := by decide +kernel
theorem dX4_lookAtNext_79 : decode cX4_lookAtNext 79 = .ok (.iload 4, 2) := by decide +kernel
theorem dX4_lookAtNext_81 : decode cX4_lookAtNext 81 = .ok (.iconst 1, 1) := by decide +kernel
theorem dX4_lookAtNext_82 : decode cX4_lookAtNext 82 = .ok (.iload 5, 2) := by decide +kernel
theorem dX4_lookAtNext_84 : decode cX4_lookAtNext 84 = .ok (.ishl, 1) := by decide +kernel
theorem dX4_lookAtNext_85 : decode cX4_lookAtNext 85 = .ok (.ior, 1) := by decide +kernel
theorem dX4_lookAtNext_86 : decode cX4_lookAtNext 86 = .ok (.istore 4, 2) := by decide +kernel
theorem dX4_lookAtNext_88 : decode cX4_lookAtNext 88 = .ok (.iinc 5 1, 3) := by decide +kernel
theorem dX4_lookAtNext_91 : decode cX4_lookAtNext 91 = .ok (.goto (-85), 3) := by decide +kernel
theorem dX4_lookAtNext_94 : decode cX4_lookAtNext 94 = .ok (.iload 4, 2) := by decide +kernel
theorem dX4_lookAtNext_96 : decode cX4_lookAtNext 96 = .ok (.ireturn, 1) := by decide +kernel
theorem dX4_burningOfPut_0 : decode cX4_burningOfPut 0 = .ok (.sipush 1200, 3) := by decide +kernel
theorem dX4_burningOfPut_3 : decode cX4_burningOfPut 3 = .ok (.istore_n 3, 1) := by decide +kernel
theorem dX4_burningOfPut_4 : decode cX4_burningOfPut 4 = .ok (.iconst 0, 1) := by decide +kernel
theorem dX4_burningOfPut_5 : decode cX4_burningOfPut 5 = .ok (.istore 4, 2) := by decide +kernel
theorem dX4_burningOfPut_7 : decode cX4_burningOfPut 7 = .ok (.iload 4, 2) := by decide +kernel
theorem dX4_burningOfPut_9 : decode cX4_burningOfPut 9 = .ok (.bipush 6, 2) := by decide +kernel
theorem dX4_burningOfPut_11 : decode cX4_burningOfPut 11 = .ok (.if_icmp .ge 55, 3) := by decide +kernel
theorem dX4_burningOfPut_14 : decode cX4_burningOfPut 14 = .ok (.iconst 0, 1) := by decide +kernel
theorem dX4_burningOfPut_15 : decode cX4_burningOfPut 15 = .ok (.istore 5, 2) := by decide +kernel
theorem dX4_burningOfPut_17 : decode cX4_burningOfPut 17 = .ok (.iload 5, 2) := by decide +kernel
theorem dX4_burningOfPut_19 : decode cX4_burningOfPut 19 = .ok (.iload_n 0, 1) := by decide +kernel
theorem dX4_burningOfPut_20 : decode cX4_burningOfPut 20 = .ok (.iload 4, 2) := by decide +kernel
theorem dX4_burningOfPut_22 : decode cX4_burningOfPut 22 = .ok (.invokestatic 55, 3) := by decide +kernel
theorem dX4_burningOfPut_25 : decode cX4_burningOfPut 25 = .ok (.if_icmp .ge 35, 3) := by decide +kernel
theorem dX4_burningOfPut_28 : decode cX4_burningOfPut 28 = .ok (.aload_n 1, 1) := by decide +kernel
theorem dX4_burningOfPut_29 : decode cX4_burningOfPut 29 = .ok (.getfield 73, 3) := by decide +kernel
theorem dX4_burningOfPut_32 : decode cX4_burningOfPut 32 = .ok (.iload 4, 2) := by decide +kernel
theorem dX4_burningOfPut_34 : decode cX4_burningOfPut 34 = .ok (.iload 5, 2) := by decide +kernel
theorem dX4_burningOfPut_36 : decode cX4_burningOfPut 36 = .ok (.invokestatic 76, 3) := by decide +kernel
theorem dX4_burningOfPut_39 : decode cX4_burningOfPut 39 = .ok (.iaload, 1) := by decide +kernel
theorem dX4_burningOfPut_40 : decode cX4_burningOfPut 40 = .ok (.istore 6, 2) := by decide +kernel
theorem dX4_burningOfPut_42 : decode cX4_burningOfPut 42 = .ok (.iload_n 3, 1) := by decide +kernel
theorem dX4_burningOfPut_43 : decode cX4_burningOfPut 43 = .ok (.aload_n 2, 1) := by decide +kernel
theorem dX4_burningOfPut_44 : decode cX4_burningOfPut 44 = .ok (.getfield 84, 3) := by decide +kernel
theorem dX4_burningOfPut_47 : decode cX4_burningOfPut 47 = .ok (.iload 6, 2) := by decide +kernel
theorem dX4_burningOfPut_49 : decode cX4_burningOfPut 49 = .ok (.iaload, 1) := by decide +kernel
theorem dX4_burningOfPut_50 : decode cX4_burningOfPut 50 = .ok (.invokestatic 70, 3) := by decide +kernel
theorem dX4_burningOfPut_53 : decode cX4_burningOfPut 53 = .ok (.istore_n 3, 1) := by decide +kernel
theorem dX4_burningOfPut_54 : decode cX4_burningOfPut 54 = .ok (.iinc 5 1, 3) := by decide +kernel
theorem dX4_burningOfPut_57 : decode cX4_burningOfPut 57 = .ok (.goto (-40), 3) := by decide +kernel
theorem dX4_burningOfPut_60 : decode cX4_burningOfPut 60 = .ok (.iinc 4 1, 3) := by decide +kernel
theorem dX4_burningOfPut_63 : decode cX4_burningOfPut 63 = .ok (.goto (-56), 3) := by decide +kernel
theorem dX4_burningOfPut_66 : decode cX4_burningOfPut 66 = .ok (.iload_n 3, 1) := by decide +kernel
theorem dX4_burningOfPut_67 : decode cX4_burningOfPut 67 = .ok (.ireturn, 1) := by decide +kernel
theorem dX5_init_0 : decode cX5_init 0 = .ok (.aload_n 0, 1) := by decide +kernel
theorem dX5_init_1 : decode cX5_init 1 = .ok (.invokespecial 3, 3) := by decide +kernel
theorem dX5_init_4 : decode cX5_init 4 = .ok (.aload_n 0, 1) := by decide +kernel
theorem dX5_init_5 : decode cX5_init 5 = .ok (.bipush 7, 2) := by decide +kernel
theorem dX5_init_7 : decode cX5_init 7 = .ok (.newarray .int, 2) := by decide +kernel
theorem dX5_init_9 : decode cX5_init 9 = .ok (.putfield 9, 3) := by decide +kernel
theorem dX5_init_12 : decode cX5_init 12 = .ok (.aload_n 0, 1) := by decide +kernel
theorem dX5_init_13 : decode cX5_init 13 = .ok (.bipush 21, 2) := by decide +kernel
theorem dX5_init_15 : decode cX5_init 15 = .ok (.newarray .int, 2) := by decide +kernel
theorem dX5_init_17 : decode cX5_init 17 = .ok (.putfield 15, 3) := by decide +kernel
theorem dX5_init_20 : decode cX5_init 20 = .ok (.aload_n 0, 1) := by decide +kernel
theorem dX5_init_21 : decode cX5_init 21 = .ok (.bipush 21, 2) := by decide +kernel
theorem dX5_init_23 : decode cX5_init 23 = .ok (.newarray .int, 2) := by decide +kernel
theorem dX5_init_25 : decode cX5_init 25 = .ok (.putfield 18, 3) := by decide +kernel
theorem dX5_init_28 : decode cX5_init 28 = .ok (.aload_n 0, 1) := by decide +kernel
theorem dX5_init_29 : decode cX5_init 29 = .ok (.bipush 21, 2) := by decide +kernel
theorem dX5_init_31 : decode cX5_init 31 = .ok (.newarray .int, 2) := by decide +kernel
theorem dX5_init_33 : decode cX5_init 33 = .ok (.putfield 21, 3) := by decide +kernel
theorem dX5_init_36 : decode cX5_init 36 = .ok (.aload_n 0, 1) := by decide +kernel
theorem dX5_init_37 : decode cX5_init 37 = .ok (.bipush 6, 2) := by decide +kernel
theorem dX5_init_39 : decode cX5_init 39 = .ok (.newarray .int, 2) := by decide +kernel
theorem dX5_init_41 : decode cX5_init 41 = .ok (.putfield 24, 3) := by decide +kernel
theorem dX5_init_44 : decode cX5_init 44 = .ok (.return_, 1) := by decide +kernel
theorem dX5_append_0 : decode cX5_append 0 = .ok (.aload_n 0, 1) := by decide +kernel
theorem dX5_append_1 : decode cX5_append 1 = .ok (.getfield 9, 3) := by decide +kernel
theorem dX5_append_4 : decode cX5_append 4 = .ok (.iload_n 1, 1) := by decide +kernel
theorem dX5_append_5 : decode cX5_append 5 = .ok (.iaload, 1) := by decide +kernel
theorem dX5_append_6 : decode cX5_append 6 = .ok (.istore_n 3, 1) := by decide +kernel
theorem dX5_append_7 : decode cX5_append 7 = .ok (.iload_n 1, 1) := by decide +kernel
theorem dX5_append_8 : decode cX5_append 8 = .ok (.iload_n 3, 1) := by decide +kernel
theorem dX5_append_9 : decode cX5_append 9 = .ok (.invokestatic 27, 3) := by decide +kernel
theorem dX5_append_12 : decode cX5_append 12 = .ok (.istore 4, 2) := by decide +kernel
theorem dX5_append_14 : decode cX5_append 14 = .ok (.aload_n 0, 1) := by decide +kernel
theorem dX5_append_15 : decode cX5_append 15 = .ok (.getfield 15, 3) := by decide +kernel
theorem dX5_append_18 : decode cX5_append 18 = .ok (.iload 4, 2) := by decide +kernel
theorem dX5_append_20 : decode cX5_append 20 = .ok (.iload_n 2, 1) := by decide +kernel
theorem dX5_append_21 : decode cX5_append 21 = .ok (.iastore, 1) := by decide +kernel
theorem dX5_append_22 : decode cX5_append 22 = .ok (.aload_n 0, 1) := by decide +kernel
theorem dX5_append_23 : decode cX5_append 23 = .ok (.getfield 18, 3) := by decide +kernel
theorem dX5_append_26 : decode cX5_append 26 = .ok (.iload 4, 2) := by decide +kernel
theorem dX5_append_28 : decode cX5_append 28 = .ok (.iconst 0, 1) := by decide +kernel
theorem dX5_append_29 : decode cX5_append 29 = .ok (.iastore, 1) := by decide +kernel
theorem dX5_append_30 : decode cX5_append 30 = .ok (.aload_n 0, 1) := by decide +kernel
theorem dX5_append_31 : decode cX5_append 31 = .ok (.getfield 21, 3) := by decide +kernel
theorem dX5_append_34 : decode cX5_append 34 = .ok (.iload 4, 2) := by decide +kernel
theorem dX5_append_36 : decode cX5_append 36 = .ok (.iconst 0, 1) := by decide +kernel
theorem dX5_append_37 : decode cX5_append 37 = .ok (.iastore, 1) := by decide +kernel
theorem dX5_append_38 : decode cX5_append 38 = .ok (.aload_n 0, 1) := by decide +kernel
theorem dX5_append_39 : decode cX5_append 39 = .ok (.getfield 9, 3) := by decide +kernel
theorem dX5_append_42 : decode cX5_append 42 = .ok (.iload_n 1, 1) := by decide +kernel
theorem dX5_append_43 : decode cX5_append 43 = .ok (.dup2, 1) := by decide +kernel
theorem dX5_append_44 : decode cX5_append 44 = .ok (.iaload, 1) := by decide +kernel
theorem dX5_append_45 : decode cX5_append 45 = .ok (.iconst 1, 1) := by decide +kernel
theorem dX5_append_46 : decode cX5_append 46 = .ok (.iadd, 1) := by decide +kernel
theorem dX5_append_47 : decode cX5_append 47 = .ok (.iastore, 1) := by decide +kernel
theorem dX5_append_48 : decode cX5_append 48 = .ok (.iload_n 3, 1) := by decide +kernel
theorem dX5_append_49 : decode cX5_append 49 = .ok (.ireturn, 1) := by decide +kernel
theorem dX5_removeOutermost_0 : decode cX5_removeOutermost 0 = .ok (.aload_n 0, 1) := by decide +kernel
theorem dX5_removeOutermost_1 : decode cX5_removeOutermost 1 = .ok (.getfield 9, 3) := by decide +kernel
theorem dX5_removeOutermost_4 : decode cX5_removeOutermost 4 = .ok (.iload_n 1, 1) := by decide +kernel
theorem dX5_removeOutermost_5 : decode cX5_removeOutermost 5 = .ok (.dup2, 1) := by decide +kernel
theorem dX5_removeOutermost_6 : decode cX5_removeOutermost 6 = .ok (.iaload, 1) := by decide +kernel
theorem dX5_removeOutermost_7 : decode cX5_removeOutermost 7 = .ok (.iconst 1, 1) := by decide +kernel
theorem dX5_removeOutermost_8 : decode cX5_removeOutermost 8 = .ok (.isub, 1) := by decide +kernel
theorem dX5_removeOutermost_9 : decode cX5_removeOutermost 9 = .ok (.iastore, 1) := by decide +kernel
theorem dX5_removeOutermost_10 : decode cX5_removeOutermost 10 = .ok (.aload_n 0, 1) := by decide +kernel
theorem dX5_removeOutermost_11 : decode cX5_removeOutermost 11 = .ok (.getfield 15, 3) := by decide +kernel
theorem dX5_removeOutermost_14 : decode cX5_removeOutermost 14 = .ok (.iload_n 1, 1) := by decide +kernel
theorem dX5_removeOutermost_15 : decode cX5_removeOutermost 15 = .ok (.aload_n 0, 1) := by decide +kernel
theorem dX5_removeOutermost_16 : decode cX5_removeOutermost 16 = .ok (.getfield 9, 3) := by decide +kernel
theorem dX5_removeOutermost_19 : decode cX5_removeOutermost 19 = .ok (.iload_n 1, 1) := by decide +kernel
theorem dX5_removeOutermost_20 : decode cX5_removeOutermost 20 = .ok (.iaload, 1) := by decide +kernel
theorem dX5_removeOutermost_21 : decode cX5_removeOutermost 21 = .ok (.invokestatic 27, 3) := by decide +kernel
theorem dX5_removeOutermost_24 : decode cX5_removeOutermost 24 = .ok (.iaload, 1) := by decide +kernel
theorem dX5_removeOutermost_25 : decode cX5_removeOutermost 25 = .ok (.ireturn, 1) := by decide +kernel
theorem dX5_outermostIsRaw_0 : decode cX5_outermostIsRaw 0 = .ok (.aload_n 0, 1) := by decide +kernel
theorem dX5_outermostIsRaw_1 : decode cX5_outermostIsRaw 1 = .ok (.getfield 9, 3) := by decide +kernel
theorem dX5_outermostIsRaw_4 : decode cX5_outermostIsRaw 4 = .ok (.iload_n 1, 1) := by decide +kernel
theorem dX5_outermostIsRaw_5 : decode cX5_outermostIsRaw 5 = .ok (.iaload, 1) := by decide +kernel
theorem dX5_outermostIsRaw_6 : decode cX5_outermostIsRaw 6 = .ok (.ifCond .le 27, 3) := by decide +kernel
theorem dX5_outermostIsRaw_9 : decode cX5_outermostIsRaw 9 = .ok (.aload_n 0, 1) := by decide +kernel
theorem dX5_outermostIsRaw_10 : decode cX5_outermostIsRaw 10 = .ok (.getfield 18, 3) := by decide +kernel
theorem dX5_outermostIsRaw_13 : decode cX5_outermostIsRaw 13 = .ok (.iload_n 1, 1) := by decide +kernel
theorem dX5_outermostIsRaw_14 : decode cX5_outermostIsRaw 14 = .ok (.aload_n 0, 1) := by decide +kernel
theorem dX5_outermostIsRaw_15 : decode cX5_outermostIsRaw 15 = .ok (.getfield 9, 3) := by decide +kernel
theorem dX5_outermostIsRaw_18 : decode cX5_outermostIsRaw 18 = .ok (.iload_n 1, 1) := by decide +kernel
theorem dX5_outermostIsRaw_19 : decode cX5_outermostIsRaw 19 = .ok (.iaload, 1) := by decide +kernel
theorem dX5_outermostIsRaw_20 : decode cX5_outermostIsRaw 20 = .ok (.iconst 1, 1) := by decide +kernel
theorem dX5_outermostIsRaw_21 : decode cX5_outermostIsRaw 21 = .ok (.isub, 1) := by decide +kernel
theorem dX5_outermostIsRaw_22 : decode cX5_outermostIsRaw 22 = .ok (.invokestatic 27, 3) := by decide +kernel
theorem dX5_outermostIsRaw_25 : decode cX5_outermostIsRaw 25 = .ok (.iaload, 1) := by decide +kernel
theorem dX5_outermostIsRaw_26 : decode cX5_outermostIsRaw 26 = .ok (.ifCond .ne 7, 3) := by decide +kernel
theorem dX5_outermostIsRaw_29 : decode cX5_outermostIsRaw 29 = .ok (.iconst 1, 1) := by decide +kernel
theorem dX5_outermostIsRaw_30 : decode cX5_outermostIsRaw 30 = .ok (.goto 4, 3) := by decide +kernel
theorem dX5_outermostIsRaw_33 : decode cX5_outermostIsRaw 33 = .ok (.iconst 0, 1) := by decide +kernel
theorem dX5_outermostIsRaw_34 : decode cX5_outermostIsRaw 34 = .ok (.ireturn, 1) := by decide +kernel
theorem dX5_makeBare_0 : decode cX5_makeBare 0 = .ok (.iconst 0, 1) := by decide +kernel
theorem dX5_makeBare_1 : decode cX5_makeBare 1 = .ok (.istore_n 1, 1) := by decide +kernel
theorem dX5_makeBare_2 : decode cX5_makeBare 2 = .ok (.iload_n 1, 1) := by decide +kernel
theorem dX5_makeBare_3 : decode cX5_makeBare 3 = .ok (.bipush 7, 2) := by decide +kernel
theorem dX5_makeBare_5 : decode cX5_makeBare 5 = .ok (.if_icmp .ge 16, 3) := by decide +kernel
theorem dX5_makeBare_8 : decode cX5_makeBare 8 = .ok (.aload_n 0, 1) := by decide +kernel
theorem dX5_makeBare_9 : decode cX5_makeBare 9 = .ok (.getfield 9, 3) := by decide +kernel
theorem dX5_makeBare_12 : decode cX5_makeBare 12 = .ok (.iload_n 1, 1) := by decide +kernel
theorem dX5_makeBare_13 : decode cX5_makeBare 13 = .ok (.iconst 0, 1) := by decide +kernel
theorem dX5_makeBare_14 : decode cX5_makeBare 14 = .ok (.iastore, 1) := by decide +kernel
theorem dX5_makeBare_15 : decode cX5_makeBare 15 = .ok (.iinc 1 1, 3) := by decide +kernel
theorem dX5_makeBare_18 : decode cX5_makeBare 18 = .ok (.goto (-16), 3) := by decide +kernel
theorem dX5_makeBare_21 : decode cX5_makeBare 21 = .ok (.iconst 0, 1) := by decide +kernel
theorem dX5_makeBare_22 : decode cX5_makeBare 22 = .ok (.istore_n 1, 1) := by decide +kernel
theorem dX5_makeBare_23 : decode cX5_makeBare 23 = .ok (.iload_n 1, 1) := by decide +kernel
theorem dX5_makeBare_24 : decode cX5_makeBare 24 = .ok (.bipush 6, 2) := by decide +kernel
theorem dX5_makeBare_26 : decode cX5_makeBare 26 = .ok (.if_icmp .ge 16, 3) := by decide +kernel
theorem dX5_makeBare_29 : decode cX5_makeBare 29 = .ok (.aload_n 0, 1) := by decide +kernel
theorem dX5_makeBare_30 : decode cX5_makeBare 30 = .ok (.getfield 24, 3) := by decide +kernel
theorem dX5_makeBare_33 : decode cX5_makeBare 33 = .ok (.iload_n 1, 1) := by decide +kernel
theorem dX5_makeBare_34 : decode cX5_makeBare 34 = .ok (.iconst 0, 1) := by decide +kernel
theorem dX5_makeBare_35 : decode cX5_makeBare 35 = .ok (.iastore, 1) := by decide +kernel
theorem dX5_makeBare_36 : decode cX5_makeBare 36 = .ok (.iinc 1 1, 3) := by decide +kernel
theorem dX5_makeBare_39 : decode cX5_makeBare 39 = .ok (.goto (-16), 3) := by decide +kernel
theorem dX5_makeBare_42 : decode cX5_makeBare 42 = .ok (.return_, 1) := by decide +kernel
theorem dX5_layers_0 : decode cX5_layers 0 = .ok (.iconst 0, 1) := by decide +kernel
theorem dX5_layers_1 : decode cX5_layers 1 = .ok (.istore_n 1, 1) := by decide +kernel
theorem dX5_layers_2 : decode cX5_layers 2 = .ok (.iconst 0, 1) := by decide +kernel
theorem dX5_layers_3 : decode cX5_layers 3 = .ok (.istore_n 2, 1) := by decide +kernel
theorem dX5_layers_4 : decode cX5_layers 4 = .ok (.iload_n 2, 1) := by decide +kernel
theorem dX5_layers_5 : decode cX5_layers 5 = .ok (.bipush 7, 2) := by decide +kernel
theorem dX5_layers_7 : decode cX5_layers 7 = .ok (.if_icmp .ge 18, 3) := by decide +kernel
theorem dX5_layers_10 : decode cX5_layers 10 = .ok (.iload_n 1, 1) := by decide +kernel
theorem dX5_layers_11 : decode cX5_layers 11 = .ok (.aload_n 0, 1) := by decide +kernel
theorem dX5_layers_12 : decode cX5_layers 12 = .ok (.getfield 9, 3) := by decide +kernel
theorem dX5_layers_15 : decode cX5_layers 15 = .ok (.iload_n 2, 1) := by decide +kernel
theorem dX5_layers_16 : decode cX5_layers 16 = .ok (.iaload, 1) := by decide +kernel
theorem dX5_layers_17 : decode cX5_layers 17 = .ok (.iadd, 1) := by decide +kernel
theorem dX5_layers_18 : decode cX5_layers 18 = .ok (.istore_n 1, 1) := by decide +kernel
theorem dX5_layers_19 : decode cX5_layers 19 = .ok (.iinc 2 1, 3) := by decide +kernel
theorem dX5_layers_22 : decode cX5_layers 22 = .ok (.goto (-18), 3) := by decide +kernel
theorem dX5_layers_25 : decode cX5_layers 25 = .ok (.iload_n 1, 1) := by decide +kernel
theorem dX5_layers_26 : decode cX5_layers 26 = .ok (.ireturn, 1) := by decide +kernel
theorem dX5_layersOfColor_0 : decode cX5_layersOfColor 0 = .ok (.aload_n 0, 1) := by decide +kernel
theorem dX5_layersOfColor_1 : decode cX5_layersOfColor 1 = .ok (.aload_n 0, 1) := by decide +kernel
theorem dX5_layersOfColor_2 : decode cX5_layersOfColor 2 = .ok (.getfield 15, 3) := by decide +kernel
theorem dX5_layersOfColor_5 : decode cX5_layersOfColor 5 = .ok (.iload_n 1, 1) := by decide +kernel
theorem dX5_layersOfColor_6 : decode cX5_layersOfColor 6 = .ok (.invokevirtual 31, 3) := by decide +kernel
theorem dX5_layersOfColor_9 : decode cX5_layersOfColor 9 = .ok (.ireturn, 1) := by decide +kernel
theorem dX5_layersOfState_0 : decode cX5_layersOfState 0 = .ok (.aload_n 0, 1) := by decide +kernel
theorem dX5_layersOfState_1 : decode cX5_layersOfState 1 = .ok (.aload_n 0, 1) := by decide +kernel
theorem dX5_layersOfState_2 : decode cX5_layersOfState 2 = .ok (.getfield 18, 3) := by decide +kernel
theorem dX5_layersOfState_5 : decode cX5_layersOfState 5 = .ok (.iload_n 1, 1) := by decide +kernel
theorem dX5_layersOfState_6 : decode cX5_layersOfState 6 = .ok (.invokevirtual 31, 3) := by decide +kernel
theorem dX5_layersOfState_9 : decode cX5_layersOfState 9 = .ok (.ireturn, 1) := by decide +kernel
theorem dX5_layersWith_0 : decode cX5_layersWith 0 = .ok (.iconst 0, 1) := by decide +kernel
theorem dX5_layersWith_1 : decode cX5_layersWith 1 = .ok (.istore_n 3, 1) := by decide +kernel
theorem dX5_layersWith_2 : decode cX5_layersWith 2 = .ok (.iconst 0, 1) := by decide +kernel
theorem dX5_layersWith_3 : decode cX5_layersWith 3 = .ok (.istore 4, 2) := by decide +kernel
theorem dX5_layersWith_5 : decode cX5_layersWith 5 = .ok (.iload 4, 2) := by decide +kernel
theorem dX5_layersWith_7 : decode cX5_layersWith 7 = .ok (.bipush 7, 2) := by decide +kernel
theorem dX5_layersWith_9 : decode cX5_layersWith 9 = .ok (.if_icmp .ge 46, 3) := by decide +kernel
theorem dX5_layersWith_12 : decode cX5_layersWith 12 = .ok (.iconst 0, 1) := by decide +kernel
theorem dX5_layersWith_13 : decode cX5_layersWith 13 = .ok (.istore 5, 2) := by decide +kernel
theorem dX5_layersWith_15 : decode cX5_layersWith 15 = .ok (.iload 5, 2) := by decide +kernel
theorem dX5_layersWith_17 : decode cX5_layersWith 17 = .ok (.aload_n 0, 1) := by decide +kernel
theorem dX5_layersWith_18 : decode cX5_layersWith 18 = .ok (.getfield 9, 3) := by decide +kernel
theorem dX5_layersWith_21 : decode cX5_layersWith 21 = .ok (.iload 4, 2) := by decide +kernel
theorem dX5_layersWith_23 : decode cX5_layersWith 23 = .ok (.iaload, 1) := by decide +kernel
theorem dX5_layersWith_24 : decode cX5_layersWith 24 = .ok (.if_icmp .ge 25, 3) := by decide +kernel
theorem dX5_layersWith_27 : decode cX5_layersWith 27 = .ok (.aload_n 1, 1) := by decide +kernel
theorem dX5_layersWith_28 : decode cX5_layersWith 28 = .ok (.iload 4, 2) := by decide +kernel
theorem dX5_layersWith_30 : decode cX5_layersWith 30 = .ok (.iload 5, 2) := by decide +kernel
theorem dX5_layersWith_32 : decode cX5_layersWith 32 = .ok (.invokestatic 27, 3) := by decide +kernel
theorem dX5_layersWith_35 : decode cX5_layersWith 35 = .ok (.iaload, 1) := by decide +kernel
theorem dX5_layersWith_36 : decode cX5_layersWith 36 = .ok (.iload_n 2, 1) := by decide +kernel
theorem dX5_layersWith_37 : decode cX5_layersWith 37 = .ok (.if_icmp .ne 6, 3) := by decide +kernel
theorem dX5_layersWith_40 : decode cX5_layersWith 40 = .ok (.iinc 3 1, 3) := by decide +kernel
theorem dX5_layersWith_43 : decode cX5_layersWith 43 = .ok (.iinc 5 1, 3) := by decide +kernel
theorem dX5_layersWith_46 : decode cX5_layersWith 46 = .ok (.goto (-31), 3) := by decide +kernel
theorem dX5_layersWith_49 : decode cX5_layersWith 49 = .ok (.iinc 4 1, 3) := by decide +kernel
theorem dX5_layersWith_52 : decode cX5_layersWith 52 = .ok (.goto (-47), 3) := by decide +kernel
theorem dX5_layersWith_55 : decode cX5_layersWith 55 = .ok (.iload_n 3, 1) := by decide +kernel
theorem dX5_layersWith_56 : decode cX5_layersWith 56 = .ok (.ireturn, 1) := by decide +kernel
theorem dX5_crackedFields_0 : decode cX5_crackedFields 0 = .ok (.iconst 0, 1) := by decide +kernel
theorem dX5_crackedFields_1 : decode cX5_crackedFields 1 = .ok (.istore_n 1, 1) := by decide +kernel
theorem dX5_crackedFields_2 : decode cX5_crackedFields 2 = .ok (.iconst 0, 1) := by decide +kernel
theorem dX5_crackedFields_3 : decode cX5_crackedFields 3 = .ok (.istore_n 2, 1) := by decide +kernel
theorem dX5_crackedFields_4 : decode cX5_crackedFields 4 = .ok (.iload_n 2, 1) := by decide +kernel
theorem dX5_crackedFields_5 : decode cX5_crackedFields 5 = .ok (.bipush 6, 2) := by decide +kernel
theorem dX5_crackedFields_7 : decode cX5_crackedFields 7 = .ok (.if_icmp .ge 18, 3) := by decide +kernel
theorem dX5_crackedFields_10 : decode cX5_crackedFields 10 = .ok (.iload_n 1, 1) := by decide +kernel
theorem dX5_crackedFields_11 : decode cX5_crackedFields 11 = .ok (.aload_n 0, 1) := by decide +kernel
theorem dX5_crackedFields_12 : decode cX5_crackedFields 12 = .ok (.getfield 24, 3) := by decide +kernel
theorem dX5_crackedFields_15 : decode cX5_crackedFields 15 = .ok (.iload_n 2, 1) := by decide +kernel
theorem dX5_crackedFields_16 : decode cX5_crackedFields 16 = .ok (.iaload, 1) := by decide +kernel
theorem dX5_crackedFields_17 : decode cX5_crackedFields 17 = .ok (.iadd, 1) := by decide +kernel
theorem dX5_crackedFields_18 : decode cX5_crackedFields 18 = .ok (.istore_n 1, 1) := by decide +kernel
theorem dX5_crackedFields_19 : decode cX5_crackedFields 19 = .ok (.iinc 2 1, 3) := by decide +kernel
theorem dX5_crackedFields_22 : decode cX5_crackedFields 22 = .ok (.goto (-18), 3) := by decide +kernel
theorem dX5_crackedFields_25 : decode cX5_crackedFields 25 = .ok (.iload_n 1, 1) := by decide +kernel
theorem dX5_crackedFields_26 : decode cX5_crackedFields 26 = .ok (.ireturn, 1) := by decide +kernel
theorem dX5_holdsOn_0 : decode cX5_holdsOn 0 = .ok (.aload_n 0, 1) := by decide +kernel
theorem dX5_holdsOn_1 : decode cX5_holdsOn 1 = .ok (.getfield 18, 3) := by decide +kernel
theorem dX5_holdsOn_4 : decode cX5_holdsOn 4 = .ok (.iload_n 1, 1) := by decide +kernel
theorem dX5_holdsOn_5 : decode cX5_holdsOn 5 = .ok (.iaload, 1) := by decide +kernel
theorem dX5_holdsOn_6 : decode cX5_holdsOn 6 = .ok (.iconst 2, 1) := by decide +kernel
theorem dX5_holdsOn_7 : decode cX5_holdsOn 7 = .ok (.if_icmp .eq 13, 3) := by decide +kernel
theorem dX5_holdsOn_10 : decode cX5_holdsOn 10 = .ok (.aload_n 0, 1) := by decide +kernel
theorem dX5_holdsOn_11 : decode cX5_holdsOn 11 = .ok (.getfield 18, 3) := by decide +kernel
theorem dX5_holdsOn_14 : decode cX5_holdsOn 14 = .ok (.iload_n 1, 1) := by decide +kernel
theorem dX5_holdsOn_15 : decode cX5_holdsOn 15 = .ok (.iaload, 1) := by decide +kernel
theorem dX5_holdsOn_16 : decode cX5_holdsOn 16 = .ok (.iconst 3, 1) := by decide +kernel
theorem dX5_holdsOn_17 : decode cX5_holdsOn 17 = .ok (.if_icmp .ne 7, 3) := by decide +kernel
theorem dX5_holdsOn_20 : decode cX5_holdsOn 20 = .ok (.iconst 1, 1) := by decide +kernel
theorem dX5_holdsOn_21 : decode cX5_holdsOn 21 = .ok (.goto 4, 3) := by decide +kernel
theorem dX5_holdsOn_24 : decode cX5_holdsOn 24 = .ok (.iconst 0, 1) := by decide +kernel
theorem dX5_holdsOn_25 : decode cX5_holdsOn 25 = .ok (.ireturn, 1) := by decide +kernel
theorem dX5_hasHold_0 : decode cX5_hasHold 0 = .ok (.iconst 0, 1) := by decide +kernel
theorem dX5_hasHold_1 : decode cX5_hasHold 1 = .ok (.istore_n 2, 1) := by decide +kernel
theorem dX5_hasHold_2 : decode cX5_hasHold 2 = .ok (.iload_n 2, 1) := by decide +kernel
theorem dX5_hasHold_3 : decode cX5_hasHold 3 = .ok (.aload_n 0, 1) := by decide +kernel
theorem dX5_hasHold_4 : decode cX5_hasHold 4 = .ok (.getfield 9, 3) := by decide +kernel
theorem dX5_hasHold_7 : decode cX5_hasHold 7 = .ok (.iload_n 1, 1) := by decide +kernel
theorem dX5_hasHold_8 : decode cX5_hasHold 8 = .ok (.iaload, 1) := by decide +kernel
theorem dX5_hasHold_9 : decode cX5_hasHold 9 = .ok (.if_icmp .ge 23, 3) := by decide +kernel
theorem dX5_hasHold_12 : decode cX5_hasHold 12 = .ok (.aload_n 0, 1) := by decide +kernel
theorem dX5_hasHold_13 : decode cX5_hasHold 13 = .ok (.iload_n 1, 1) := by decide +kernel
theorem dX5_hasHold_14 : decode cX5_hasHold 14 = .ok (.iload_n 2, 1) := by decide +kernel
theorem dX5_hasHold_15 : decode cX5_hasHold 15 = .ok (.invokestatic 27, 3) := by decide +kernel
theorem dX5_hasHold_18 : decode cX5_hasHold 18 = .ok (.invokevirtual 35, 3) := by decide +kernel
theorem dX5_hasHold_21 : decode cX5_hasHold 21 = .ok (.ifCond .eq 5, 3) := by decide +kernel
theorem dX5_hasHold_24 : decode cX5_hasHold 24 = .ok (.iconst 1, 1) := by decide +kernel
theorem dX5_hasHold_25 : decode cX5_hasHold 25 = .ok (.ireturn, 1) := by decide +kernel
theorem dX5_hasHold_26 : decode cX5_hasHold 26 = .ok (.iinc 2 1, 3) := by decide +kernel
theorem dX5_hasHold_29 : decode cX5_hasHold 29 = .ok (.goto (-27), 3) := by decide +kernel
theorem dX5_hasHold_32 : decode cX5_hasHold 32 = .ok (.iconst 0, 1) := by decide +kernel
theorem dX5_hasHold_33 : decode cX5_hasHold 33 = .ok (.ireturn, 1) := by decide +kernel
theorem dX5_pullOf_0 : decode cX5_pullOf 0 = .ok (.iconst 0, 1) := by decide +kernel
theorem dX5_pullOf_1 : decode cX5_pullOf 1 = .ok (.istore_n 3, 1) := by decide +kernel
theorem dX5_pullOf_2 : decode cX5_pullOf 2 = .ok (.iconst 0, 1) := by decide +kernel
theorem dX5_pullOf_3 : decode cX5_pullOf 3 = .ok (.istore 4, 2) := by decide +kernel
theorem dX5_pullOf_5 : decode cX5_pullOf 5 = .ok (.iload 4, 2) := by decide +kernel
theorem dX5_pullOf_7 : decode cX5_pullOf 7 = .ok (.aload_n 0, 1) := by decide +kernel
theorem dX5_pullOf_8 : decode cX5_pullOf 8 = .ok (.getfield 9, 3) := by decide +kernel
theorem dX5_pullOf_11 : decode cX5_pullOf 11 = .ok (.iload_n 1, 1) := by decide +kernel
theorem dX5_pullOf_12 : decode cX5_pullOf 12 = .ok (.iaload, 1) := by decide +kernel
theorem dX5_pullOf_13 : decode cX5_pullOf 13 = .ok (.if_icmp .ge 40, 3) := by decide +kernel
theorem dX5_pullOf_16 : decode cX5_pullOf 16 = .ok (.iload_n 1, 1) := by decide +kernel
theorem dX5_pullOf_17 : decode cX5_pullOf 17 = .ok (.iload 4, 2) := by decide +kernel
theorem dX5_pullOf_19 : decode cX5_pullOf 19 = .ok (.invokestatic 27, 3) := by decide +kernel
theorem dX5_pullOf_22 : decode cX5_pullOf 22 = .ok (.istore 5, 2) := by decide +kernel
theorem dX5_pullOf_24 : decode cX5_pullOf 24 = .ok (.aload_n 0, 1) := by decide +kernel
theorem dX5_pullOf_25 : decode cX5_pullOf 25 = .ok (.iload 5, 2) := by decide +kernel
theorem dX5_pullOf_27 : decode cX5_pullOf 27 = .ok (.invokevirtual 35, 3) := by decide +kernel
theorem dX5_pullOf_30 : decode cX5_pullOf 30 = .ok (.ifCond .eq 17, 3) := by decide +kernel
theorem dX5_pullOf_33 : decode cX5_pullOf 33 = .ok (.iload_n 3, 1) := by decide +kernel
theorem dX5_pullOf_34 : decode cX5_pullOf 34 = .ok (.aload_n 2, 1) := by decide +kernel
theorem dX5_pullOf_35 : decode cX5_pullOf 35 = .ok (.aload_n 0, 1) := by decide +kernel
theorem dX5_pullOf_36 : decode cX5_pullOf 36 = .ok (.getfield 15, 3) := by decide +kernel
theorem dX5_pullOf_39 : decode cX5_pullOf 39 = .ok (.iload 5, 2) := by decide +kernel
theorem dX5_pullOf_41 : decode cX5_pullOf 41 = .ok (.iaload, 1) := by decide +kernel
theorem dX5_pullOf_42 : decode cX5_pullOf 42 = .ok (.invokevirtual 39, 3) := by decide +kernel
theorem dX5_pullOf_45 : decode cX5_pullOf 45 = .ok (.iadd, 1) := by decide +kernel
theorem dX5_pullOf_46 : decode cX5_pullOf 46 = .ok (.istore_n 3, 1) := by decide +kernel
theorem dX5_pullOf_47 : decode cX5_pullOf 47 = .ok (.iinc 4 1, 3) := by decide +kernel
theorem dX5_pullOf_50 : decode cX5_pullOf 50 = .ok (.goto (-45), 3) := by decide +kernel
theorem dX5_pullOf_53 : decode cX5_pullOf 53 = .ok (.iload_n 3, 1) := by decide +kernel
theorem dX5_pullOf_54 : decode cX5_pullOf 54 = .ok (.ireturn, 1) := by decide +kernel
theorem dX5_strainOf_0 : decode cX5_strainOf 0 = .ok (.aload_n 0, 1) := by decide +kernel
theorem dX5_strainOf_1 : decode cX5_strainOf 1 = .ok (.iload_n 1, 1) := by decide +kernel
theorem dX5_strainOf_2 : decode cX5_strainOf 2 = .ok (.aload_n 2, 1) := by decide +kernel
theorem dX5_strainOf_3 : decode cX5_strainOf 3 = .ok (.invokevirtual 45, 3) := by decide +kernel
theorem dX5_strainOf_6 : decode cX5_strainOf 6 = .ok (.aload_n 0, 1) := by decide +kernel
theorem dX5_strainOf_7 : decode cX5_strainOf 7 = .ok (.bipush 6, 2) := by decide +kernel
theorem dX5_strainOf_9 : decode cX5_strainOf 9 = .ok (.aload_n 2, 1) := by decide +kernel
theorem dX5_strainOf_10 : decode cX5_strainOf 10 = .ok (.invokevirtual 45, 3) := by decide +kernel
theorem dX5_strainOf_13 : decode cX5_strainOf 13 = .ok (.isub, 1) := by decide +kernel
theorem dX5_strainOf_14 : decode cX5_strainOf 14 = .ok (.invokestatic 48, 3) := by decide +kernel
theorem dX5_strainOf_17 : decode cX5_strainOf 17 = .ok (.ireturn, 1) := by decide +kernel
theorem dX5_greatestStrainWith_0 : decode cX5_greatestStrainWith 0 = .ok (.aload_n 0, 1) := by decide +kernel
theorem dX5_greatestStrainWith_1 : decode cX5_greatestStrainWith 1 = .ok (.bipush 6, 2) := by decide +kernel
theorem dX5_greatestStrainWith_3 : decode cX5_greatestStrainWith 3 = .ok (.aload_n 2, 1) := by decide +kernel
theorem dX5_greatestStrainWith_4 : decode cX5_greatestStrainWith 4 = .ok (.invokevirtual 45, 3) := by decide +kernel
theorem dX5_greatestStrainWith_7 : decode cX5_greatestStrainWith 7 = .ok (.aload_n 2, 1) := by decide +kernel
theorem dX5_greatestStrainWith_8 : decode cX5_greatestStrainWith 8 = .ok (.iload_n 1, 1) := by decide +kernel
theorem dX5_greatestStrainWith_9 : decode cX5_greatestStrainWith 9 = .ok (.invokevirtual 39, 3) := by decide +kernel
theorem dX5_greatestStrainWith_12 : decode cX5_greatestStrainWith 12 = .ok (.iadd, 1) := by decide +kernel
theorem dX5_greatestStrainWith_13 : decode cX5_greatestStrainWith 13 = .ok (.istore_n 3, 1) := by decide +kernel
theorem dX5_greatestStrainWith_14 : decode cX5_greatestStrainWith 14 = .ok (.iconst 0, 1) := by decide +kernel
theorem dX5_greatestStrainWith_15 : decode cX5_greatestStrainWith 15 = .ok (.istore 4, 2) := by decide +kernel
theorem dX5_greatestStrainWith_17 : decode cX5_greatestStrainWith 17 = .ok (.iconst 0, 1) := by decide +kernel
theorem dX5_greatestStrainWith_18 : decode cX5_greatestStrainWith 18 = .ok (.istore 5, 2) := by decide +kernel
theorem dX5_greatestStrainWith_20 : decode cX5_greatestStrainWith 20 = .ok (.iload 5, 2) := by decide +kernel
theorem dX5_greatestStrainWith_22 : decode cX5_greatestStrainWith 22 = .ok (.bipush 6, 2) := by decide +kernel
theorem dX5_greatestStrainWith_24 : decode cX5_greatestStrainWith 24 = .ok (.if_icmp .ge 28, 3) := by decide +kernel
theorem dX5_greatestStrainWith_27 : decode cX5_greatestStrainWith 27 = .ok (.iload 4, 2) := by decide +kernel
theorem dX5_greatestStrainWith_29 : decode cX5_greatestStrainWith 29 = .ok (.aload_n 0, 1) := by decide +kernel
theorem dX5_greatestStrainWith_30 : decode cX5_greatestStrainWith 30 = .ok (.iload 5, 2) := by decide +kernel
theorem dX5_greatestStrainWith_32 : decode cX5_greatestStrainWith 32 = .ok (.aload_n 2, 1) := by decide +kernel
theorem dX5_greatestStrainWith_33 : decode cX5_greatestStrainWith 33 = .ok (.invokevirtual 45, 3) := by decide +kernel
theorem dX5_greatestStrainWith_36 : decode cX5_greatestStrainWith 36 = .ok (.iload_n 3, 1) := by decide +kernel
theorem dX5_greatestStrainWith_37 : decode cX5_greatestStrainWith 37 = .ok (.isub, 1) := by decide +kernel
theorem dX5_greatestStrainWith_38 : decode cX5_greatestStrainWith 38 = .ok (.invokestatic 48, 3) := by decide +kernel
theorem dX5_greatestStrainWith_41 : decode cX5_greatestStrainWith 41 = .ok (.invokestatic 53, 3) := by decide +kernel
theorem dX5_greatestStrainWith_44 : decode cX5_greatestStrainWith 44 = .ok (.istore 4, 2) := by decide +kernel
theorem dX5_greatestStrainWith_46 : decode cX5_greatestStrainWith 46 = .ok (.iinc 5 1, 3) := by decide +kernel
theorem dX5_greatestStrainWith_49 : decode cX5_greatestStrainWith 49 = .ok (.goto (-29), 3) := by decide +kernel
theorem dX5_greatestStrainWith_52 : decode cX5_greatestStrainWith 52 = .ok (.iload 4, 2) := by decide +kernel
theorem dX5_greatestStrainWith_54 : decode cX5_greatestStrainWith 54 = .ok (.ireturn, 1) := by decide +kernel
theorem dX5_heatThatMelts_0 : decode cX5_heatThatMelts 0 = .ok (.bipush (-4), 2) := by decide +kernel
theorem dX5_heatThatMelts_2 : decode cX5_heatThatMelts 2 = .ok (.istore_n 3, 1) := by decide +kernel
theorem dX5_heatThatMelts_3 : decode cX5_heatThatMelts 3 = .ok (.iconst 0, 1) := by decide +kernel
theorem dX5_heatThatMelts_4 : decode cX5_heatThatMelts 4 = .ok (.istore 4, 2) := by decide +kernel
theorem dX5_heatThatMelts_6 : decode cX5_heatThatMelts 6 = .ok (.iload 4, 2) := by decide +kernel
theorem dX5_heatThatMelts_8 : decode cX5_heatThatMelts 8 = .ok (.aload_n 0, 1) := by decide +kernel
theorem dX5_heatThatMelts_9 : decode cX5_heatThatMelts 9 = .ok (.getfield 9, 3) := by decide +kernel
theorem dX5_heatThatMelts_12 : decode cX5_heatThatMelts 12 = .ok (.iload_n 1, 1) := by decide +kernel
theorem dX5_heatThatMelts_13 : decode cX5_heatThatMelts 13 = .ok (.iaload, 1) := by decide +kernel
theorem dX5_heatThatMelts_14 : decode cX5_heatThatMelts 14 = .ok (.if_icmp .ge 30, 3) := by decide +kernel
theorem dX5_heatThatMelts_17 : decode cX5_heatThatMelts 17 = .ok (.iload_n 3, 1) := by decide +kernel
theorem dX5_heatThatMelts_18 : decode cX5_heatThatMelts 18 = .ok (.aload_n 2, 1) := by decide +kernel
theorem dX5_heatThatMelts_19 : decode cX5_heatThatMelts 19 = .ok (.getfield 56, 3) := by decide +kernel
theorem dX5_heatThatMelts_22 : decode cX5_heatThatMelts 22 = .ok (.aload_n 0, 1) := by decide +kernel
theorem dX5_heatThatMelts_23 : decode cX5_heatThatMelts 23 = .ok (.getfield 15, 3) := by decide +kernel
theorem dX5_heatThatMelts_26 : decode cX5_heatThatMelts 26 = .ok (.iload_n 1, 1) := by decide +kernel
theorem dX5_heatThatMelts_27 : decode cX5_heatThatMelts 27 = .ok (.iload 4, 2) := by decide +kernel
theorem dX5_heatThatMelts_29 : decode cX5_heatThatMelts 29 = .ok (.invokestatic 27, 3) := by decide +kernel
theorem dX5_heatThatMelts_32 : decode cX5_heatThatMelts 32 = .ok (.iaload, 1) := by decide +kernel
theorem dX5_heatThatMelts_33 : decode cX5_heatThatMelts 33 = .ok (.iaload, 1) := by decide +kernel
theorem dX5_heatThatMelts_34 : decode cX5_heatThatMelts 34 = .ok (.invokestatic 53, 3) := by decide +kernel
theorem dX5_heatThatMelts_37 : decode cX5_heatThatMelts 37 = .ok (.istore_n 3, 1) := by decide +kernel
theorem dX5_heatThatMelts_38 : decode cX5_heatThatMelts 38 = .ok (.iinc 4 1, 3) := by decide +kernel
theorem dX5_heatThatMelts_41 : decode cX5_heatThatMelts 41 = .ok (.goto (-35), 3) := by decide +kernel
theorem dX5_heatThatMelts_44 : decode cX5_heatThatMelts 44 = .ok (.iload_n 3, 1) := by decide +kernel
theorem dX5_heatThatMelts_45 : decode cX5_heatThatMelts 45 = .ok (.ireturn, 1) := by decide +kernel
theorem dX5_heatThatSpares_0 : decode cX5_heatThatSpares 0 = .ok (.bipush (-4), 2) := by decide +kernel
theorem dX5_heatThatSpares_2 : decode cX5_heatThatSpares 2 = .ok (.istore_n 3, 1) := by decide +kernel
theorem dX5_heatThatSpares_3 : decode cX5_heatThatSpares 3 = .ok (.iconst 0, 1) := by decide +kernel
theorem dX5_heatThatSpares_4 : decode cX5_heatThatSpares 4 = .ok (.istore 4, 2) := by decide +kernel
theorem dX5_heatThatSpares_6 : decode cX5_heatThatSpares 6 = .ok (.iload 4, 2) := by decide +kernel
theorem dX5_heatThatSpares_8 : decode cX5_heatThatSpares 8 = .ok (.aload_n 0, 1) := by decide +kernel
theorem dX5_heatThatSpares_9 : decode cX5_heatThatSpares 9 = .ok (.getfield 9, 3) := by decide +kernel
theorem dX5_heatThatSpares_12 : decode cX5_heatThatSpares 12 = .ok (.iload_n 1, 1) := by decide +kernel
theorem dX5_heatThatSpares_13 : decode cX5_heatThatSpares 13 = .ok (.iaload, 1) := by decide +kernel
theorem dX5_heatThatSpares_14 : decode cX5_heatThatSpares 14 = .ok (.if_icmp .ge 60, 3) := by decide +kernel
theorem dX5_heatThatSpares_17 : decode cX5_heatThatSpares 17 = .ok (.iload_n 1, 1) := by decide +kernel
theorem dX5_heatThatSpares_18 : decode cX5_heatThatSpares 18 = .ok (.iload 4, 2) := by decide +kernel
theorem dX5_heatThatSpares_20 : decode cX5_heatThatSpares 20 = .ok (.invokestatic 27, 3) := by decide +kernel
theorem dX5_heatThatSpares_23 : decode cX5_heatThatSpares 23 = .ok (.istore 5, 2) := by decide +kernel
theorem dX5_heatThatSpares_25 : decode cX5_heatThatSpares 25 = .ok (.aload_n 0, 1) := by decide +kernel
theorem dX5_heatThatSpares_26 : decode cX5_heatThatSpares 26 = .ok (.getfield 18, 3) := by decide +kernel
theorem dX5_heatThatSpares_29 : decode cX5_heatThatSpares 29 = .ok (.iload 5, 2) := by decide +kernel
theorem dX5_heatThatSpares_31 : decode cX5_heatThatSpares 31 = .ok (.iaload, 1) := by decide +kernel
theorem dX5_heatThatSpares_32 : decode cX5_heatThatSpares 32 = .ok (.iconst 4, 1) := by decide +kernel
theorem dX5_heatThatSpares_33 : decode cX5_heatThatSpares 33 = .ok (.if_icmp .eq 35, 3) := by decide +kernel
theorem dX5_heatThatSpares_36 : decode cX5_heatThatSpares 36 = .ok (.aload_n 2, 1) := by decide +kernel
theorem dX5_heatThatSpares_37 : decode cX5_heatThatSpares 37 = .ok (.getfield 59, 3) := by decide +kernel
theorem dX5_heatThatSpares_40 : decode cX5_heatThatSpares 40 = .ok (.aload_n 0, 1) := by decide +kernel
theorem dX5_heatThatSpares_41 : decode cX5_heatThatSpares 41 = .ok (.getfield 15, 3) := by decide +kernel
theorem dX5_heatThatSpares_44 : decode cX5_heatThatSpares 44 = .ok (.iload 5, 2) := by decide +kernel
theorem dX5_heatThatSpares_46 : decode cX5_heatThatSpares 46 = .ok (.iaload, 1) := by decide +kernel
theorem dX5_heatThatSpares_47 : decode cX5_heatThatSpares 47 = .ok (.iaload, 1) := by decide +kernel
theorem dX5_heatThatSpares_48 : decode cX5_heatThatSpares 48 = .ok (.istore 6, 2) := by decide +kernel
theorem dX5_heatThatSpares_50 : decode cX5_heatThatSpares 50 = .ok (.iload_n 3, 1) := by decide +kernel
theorem dX5_heatThatSpares_51 : decode cX5_heatThatSpares 51 = .ok (.bipush (-4), 2) := by decide +kernel
theorem dX5_heatThatSpares_53 : decode cX5_heatThatSpares 53 = .ok (.if_icmp .ne 8, 3) := by decide +kernel
theorem dX5_heatThatSpares_56 : decode cX5_heatThatSpares 56 = .ok (.iload 6, 2) := by decide +kernel
theorem dX5_heatThatSpares_58 : decode cX5_heatThatSpares 58 = .ok (.goto 9, 3) := by decide +kernel
theorem dX5_heatThatSpares_61 : decode cX5_heatThatSpares 61 = .ok (.iload_n 3, 1) := by decide +kernel
theorem dX5_heatThatSpares_62 : decode cX5_heatThatSpares 62 = .ok (.iload 6, 2) := by decide +kernel
theorem dX5_heatThatSpares_64 : decode cX5_heatThatSpares 64 = .ok (.invokestatic 62, 3) := by decide +kernel
theorem dX5_heatThatSpares_67 : decode cX5_heatThatSpares 67 = .ok (.istore_n 3, 1) := by decide +kernel
theorem dX5_heatThatSpares_68 : decode cX5_heatThatSpares 68 = .ok (.iinc 4 1, 3) := by decide +kernel
theorem dX5_heatThatSpares_71 : decode cX5_heatThatSpares 71 = .ok (.goto (-65), 3) := by decide +kernel
theorem dX5_heatThatSpares_74 : decode cX5_heatThatSpares 74 = .ok (.iload_n 3, 1) := by decide +kernel
theorem dX5_heatThatSpares_75 : decode cX5_heatThatSpares 75 = .ok (.ireturn, 1) := by decide +kernel
theorem dX5_copyFrom_0 : decode cX5_copyFrom 0 = .ok (.aload_n 1, 1) := by decide +kernel
theorem dX5_copyFrom_1 : decode cX5_copyFrom 1 = .ok (.getfield 9, 3) := by decide +kernel
theorem dX5_copyFrom_4 : decode cX5_copyFrom 4 = .ok (.aload_n 0, 1) := by decide +kernel
theorem dX5_copyFrom_5 : decode cX5_copyFrom 5 = .ok (.getfield 9, 3) := by decide +kernel
theorem dX5_copyFrom_8 : decode cX5_copyFrom 8 = .ok (.invokestatic 65, 3) := by decide +kernel
theorem dX5_copyFrom_11 : decode cX5_copyFrom 11 = .ok (.aload_n 1, 1) := by decide +kernel
theorem dX5_copyFrom_12 : decode cX5_copyFrom 12 = .ok (.getfield 15, 3) := by decide +kernel
theorem dX5_copyFrom_15 : decode cX5_copyFrom 15 = .ok (.aload_n 0, 1) := by decide +kernel
theorem dX5_copyFrom_16 : decode cX5_copyFrom 16 = .ok (.getfield 15, 3) := by decide +kernel
theorem dX5_copyFrom_19 : decode cX5_copyFrom 19 = .ok (.invokestatic 65, 3) := by decide +kernel
theorem dX5_copyFrom_22 : decode cX5_copyFrom 22 = .ok (.aload_n 1, 1) := by decide +kernel
theorem dX5_copyFrom_23 : decode cX5_copyFrom 23 = .ok (.getfield 18, 3) := by decide +kernel
theorem dX5_copyFrom_26 : decode cX5_copyFrom 26 = .ok (.aload_n 0, 1) := by decide +kernel
theorem dX5_copyFrom_27 : decode cX5_copyFrom 27 = .ok (.getfield 18, 3) := by decide +kernel
theorem dX5_copyFrom_30 : decode cX5_copyFrom 30 = .ok (.invokestatic 65, 3) := by decide +kernel
theorem dX5_copyFrom_33 : decode cX5_copyFrom 33 = .ok (.aload_n 1, 1) := by decide +kernel
theorem dX5_copyFrom_34 : decode cX5_copyFrom 34 = .ok (.getfield 21, 3) := by decide +kernel
theorem dX5_copyFrom_37 : decode cX5_copyFrom 37 = .ok (.aload_n 0, 1) := by decide +kernel
theorem dX5_copyFrom_38 : decode cX5_copyFrom 38 = .ok (.getfield 21, 3) := by decide +kernel
theorem dX5_copyFrom_41 : decode cX5_copyFrom 41 = .ok (.invokestatic 65, 3) := by decide +kernel
theorem dX5_copyFrom_44 : decode cX5_copyFrom 44 = .ok (.aload_n 1, 1) := by decide +kernel
theorem dX5_copyFrom_45 : decode cX5_copyFrom 45 = .ok (.getfield 24, 3) := by decide +kernel
theorem dX5_copyFrom_48 : decode cX5_copyFrom 48 = .ok (.aload_n 0, 1) := by decide +kernel
theorem dX5_copyFrom_49 : decode cX5_copyFrom 49 = .ok (.getfield 24, 3) := by decide +kernel
theorem dX5_copyFrom_52 : decode cX5_copyFrom 52 = .ok (.invokestatic 65, 3) := by decide +kernel
theorem dX5_copyFrom_55 : decode cX5_copyFrom 55 = .ok (.return_, 1) := by decide +kernel
theorem dX6_init_0 : decode cX6_init 0 = .ok (.aload_n 0, 1) := by decide +kernel
theorem dX6_init_1 : decode cX6_init 1 = .ok (.invokespecial 3, 3) := by decide +kernel
theorem dX6_init_4 : decode cX6_init 4 = .ok (.aload_n 0, 1) := by decide +kernel
theorem dX6_init_5 : decode cX6_init 5 = .ok (.bipush 80, 2) := by decide +kernel
theorem dX6_init_7 : decode cX6_init 7 = .ok (.newarray .char, 2) := by decide +kernel
theorem dX6_init_9 : decode cX6_init 9 = .ok (.putfield 9, 3) := by decide +kernel
theorem dX6_init_12 : decode cX6_init 12 = .ok (.aload_n 0, 1) := by decide +kernel
theorem dX6_init_13 : decode cX6_init 13 = .ok (.iconst 0, 1) := by decide +kernel
theorem dX6_init_14 : decode cX6_init 14 = .ok (.putfield 15, 3) := by decide +kernel
theorem dX6_init_17 : decode cX6_init 17 = .ok (.aload_n 0, 1) := by decide +kernel
theorem dX6_init_18 : decode cX6_init 18 = .ok (.iconst 0, 1) := by decide +kernel
theorem dX6_init_19 : decode cX6_init 19 = .ok (.putfield 19, 3) := by decide +kernel
theorem dX6_init_22 : decode cX6_init 22 = .ok (.aload_n 0, 1) := by decide +kernel
theorem dX6_init_23 : decode cX6_init 23 = .ok (.iconst 0, 1) := by decide +kernel
theorem dX6_init_24 : decode cX6_init 24 = .ok (.putfield 22, 3) := by decide +kernel
theorem dX6_init_27 : decode cX6_init 27 = .ok (.return_, 1) := by decide +kernel
theorem dX6_append_0 : decode cX6_append 0 = .ok (.aload_n 0, 1) := by decide +kernel
theorem dX6_append_1 : decode cX6_append 1 = .ok (.getfield 9, 3) := by decide +kernel
theorem dX6_append_4 : decode cX6_append 4 = .ok (.aload_n 0, 1) := by decide +kernel
theorem dX6_append_5 : decode cX6_append 5 = .ok (.getfield 15, 3) := by decide +kernel
theorem dX6_append_8 : decode cX6_append 8 = .ok (.iload_n 1, 1) := by decide +kernel
theorem dX6_append_9 : decode cX6_append 9 = .ok (.castore, 1) := by decide +kernel
theorem dX6_append_10 : decode cX6_append 10 = .ok (.aload_n 0, 1) := by decide +kernel
theorem dX6_append_11 : decode cX6_append 11 = .ok (.dup, 1) := by decide +kernel
theorem dX6_append_12 : decode cX6_append 12 = .ok (.getfield 15, 3) := by decide +kernel
theorem dX6_append_15 : decode cX6_append 15 = .ok (.iconst 1, 1) := by decide +kernel
theorem dX6_append_16 : decode cX6_append 16 = .ok (.iadd, 1) := by decide +kernel
theorem dX6_append_17 : decode cX6_append 17 = .ok (.putfield 15, 3) := by decide +kernel
theorem dX6_append_20 : decode cX6_append 20 = .ok (.aload_n 0, 1) := by decide +kernel
theorem dX6_append_21 : decode cX6_append 21 = .ok (.getfield 15, 3) := by decide +kernel
theorem dX6_append_24 : decode cX6_append 24 = .ok (.ireturn, 1) := by decide +kernel
theorem dX6_hasFault_0 : decode cX6_hasFault 0 = .ok (.aload_n 0, 1) := by decide +kernel
theorem dX6_hasFault_1 : decode cX6_hasFault 1 = .ok (.getfield 22, 3) := by decide +kernel
theorem dX6_hasFault_4 : decode cX6_hasFault 4 = .ok (.ifCond .eq 7, 3) := by decide +kernel
theorem dX6_hasFault_7 : decode cX6_hasFault 7 = .ok (.iconst 1, 1) := by decide +kernel
theorem dX6_hasFault_8 : decode cX6_hasFault 8 = .ok (.goto 4, 3) := by decide +kernel
theorem dX6_hasFault_11 : decode cX6_hasFault 11 = .ok (.iconst 0, 1) := by decide +kernel
theorem dX6_hasFault_12 : decode cX6_hasFault 12 = .ok (.ireturn, 1) := by decide +kernel
theorem dX6_lookForFault_0 : decode cX6_lookForFault 0 = .ok (.iconst 0, 1) := by decide +kernel
theorem dX6_lookForFault_1 : decode cX6_lookForFault 1 = .ok (.istore_n 2, 1) := by decide +kernel
theorem dX6_lookForFault_2 : decode cX6_lookForFault 2 = .ok (.iconst 0, 1) := by decide +kernel
theorem dX6_lookForFault_3 : decode cX6_lookForFault 3 = .ok (.istore_n 3, 1) := by decide +kernel
theorem dX6_lookForFault_4 : decode cX6_lookForFault 4 = .ok (.iload_n 3, 1) := by decide +kernel
theorem dX6_lookForFault_5 : decode cX6_lookForFault 5 = .ok (.aload_n 0, 1) := by decide +kernel
theorem dX6_lookForFault_6 : decode cX6_lookForFault 6 = .ok (.getfield 15, 3) := by decide +kernel
theorem dX6_lookForFault_9 : decode cX6_lookForFault 9 = .ok (.if_icmp .ge 56, 3) := by decide +kernel
theorem dX6_lookForFault_12 : decode cX6_lookForFault 12 = .ok (.aload_n 0, 1) := by decide +kernel
theorem dX6_lookForFault_13 : decode cX6_lookForFault 13 = .ok (.getfield 9, 3) := by decide +kernel
theorem dX6_lookForFault_16 : decode cX6_lookForFault 16 = .ok (.iload_n 3, 1) := by decide +kernel
theorem dX6_lookForFault_17 : decode cX6_lookForFault 17 = .ok (.caload, 1) := by decide +kernel
theorem dX6_lookForFault_18 : decode cX6_lookForFault 18 = .ok (.istore 4, 2) := by decide +kernel
theorem dX6_lookForFault_20 : decode cX6_lookForFault 20 = .ok (.aload_n 0, 1) := by decide +kernel
theorem dX6_lookForFault_21 : decode cX6_lookForFault 21 = .ok (.iload 4, 2) := by decide +kernel
theorem dX6_lookForFault_23 : decode cX6_lookForFault 23 = .ok (.iload_n 2, 1) := by decide +kernel
theorem dX6_lookForFault_24 : decode cX6_lookForFault 24 = .ok (.iload_n 1, 1) := by decide +kernel
theorem dX6_lookForFault_25 : decode cX6_lookForFault 25 = .ok (.invokestatic 25, 3) := by decide +kernel
theorem dX6_lookForFault_28 : decode cX6_lookForFault 28 = .ok (.putfield 22, 3) := by decide +kernel
theorem dX6_lookForFault_31 : decode cX6_lookForFault 31 = .ok (.aload_n 0, 1) := by decide +kernel
theorem dX6_lookForFault_32 : decode cX6_lookForFault 32 = .ok (.invokevirtual 29, 3) := by decide +kernel
theorem dX6_lookForFault_35 : decode cX6_lookForFault 35 = .ok (.ifCond .eq 9, 3) := by decide +kernel
theorem dX6_lookForFault_38 : decode cX6_lookForFault 38 = .ok (.aload_n 0, 1) := by decide +kernel
theorem dX6_lookForFault_39 : decode cX6_lookForFault 39 = .ok (.iload_n 3, 1) := by decide +kernel
theorem dX6_lookForFault_40 : decode cX6_lookForFault 40 = .ok (.putfield 19, 3) := by decide +kernel
theorem dX6_lookForFault_43 : decode cX6_lookForFault 43 = .ok (.return_, 1) := by decide +kernel
theorem dX6_lookForFault_44 : decode cX6_lookForFault 44 = .ok (.iload 4, 2) := by decide +kernel
theorem dX6_lookForFault_46 : decode cX6_lookForFault 46 = .ok (.bipush 59, 2) := by decide +kernel
theorem dX6_lookForFault_48 : decode cX6_lookForFault 48 = .ok (.if_icmp .ne 7, 3) := by decide +kernel
theorem dX6_lookForFault_51 : decode cX6_lookForFault 51 = .ok (.iconst 0, 1) := by decide +kernel
theorem dX6_lookForFault_52 : decode cX6_lookForFault 52 = .ok (.goto 6, 3) := by decide +kernel
theorem dX6_lookForFault_55 : decode cX6_lookForFault 55 = .ok (.iload_n 2, 1) := by decide +kernel
theorem dX6_lookForFault_56 : decode cX6_lookForFault 56 = .ok (.iconst 1, 1) := by decide +kernel
theorem dX6_lookForFault_57 : decode cX6_lookForFault 57 = .ok (.iadd, 1) := by decide +kernel
theorem dX6_lookForFault_58 : decode cX6_lookForFault 58 = .ok (.istore_n 2, 1) := by decide +kernel
theorem dX6_lookForFault_59 : decode cX6_lookForFault 59 = .ok (.iinc 3 1, 3) := by decide +kernel
theorem dX6_lookForFault_62 : decode cX6_lookForFault 62 = .ok (.goto (-58), 3) := by decide +kernel
theorem dX6_lookForFault_65 : decode cX6_lookForFault 65 = .ok (.aload_n 0, 1) := by decide +kernel
theorem dX6_lookForFault_66 : decode cX6_lookForFault 66 = .ok (.iload_n 2, 1) := by decide +kernel
theorem dX6_lookForFault_67 : decode cX6_lookForFault 67 = .ok (.ifCond .ne 7, 3) := by decide +kernel
theorem dX6_lookForFault_70 : decode cX6_lookForFault 70 = .ok (.iconst 0, 1) := by decide +kernel
theorem dX6_lookForFault_71 : decode cX6_lookForFault 71 = .ok (.goto 4, 3) := by decide +kernel
theorem dX6_lookForFault_74 : decode cX6_lookForFault 74 = .ok (.iconst 4, 1) := by decide +kernel
theorem dX6_lookForFault_75 : decode cX6_lookForFault 75 = .ok (.putfield 22, 3) := by decide +kernel
theorem dX6_lookForFault_78 : decode cX6_lookForFault 78 = .ok (.aload_n 0, 1) := by decide +kernel
theorem dX6_lookForFault_79 : decode cX6_lookForFault 79 = .ok (.aload_n 0, 1) := by decide +kernel
theorem dX6_lookForFault_80 : decode cX6_lookForFault 80 = .ok (.getfield 15, 3) := by decide +kernel
theorem dX6_lookForFault_83 : decode cX6_lookForFault 83 = .ok (.putfield 19, 3) := by decide +kernel
theorem dX6_lookForFault_86 : decode cX6_lookForFault 86 = .ok (.return_, 1) := by decide +kernel
theorem dX6_reasonOf_0 : decode cX6_reasonOf 0 = .ok (.iload_n 1, 1) := by decide +kernel
theorem dX6_reasonOf_1 : decode cX6_reasonOf 1 = .ok (.ifCond .ne 16, 3) := by decide +kernel
theorem dX6_reasonOf_4 : decode cX6_reasonOf 4 = .ok (.iload_n 0, 1) := by decide +kernel
theorem dX6_reasonOf_5 : decode cX6_reasonOf 5 = .ok (.invokestatic 33, 3) := by decide +kernel
theorem dX6_reasonOf_8 : decode cX6_reasonOf 8 = .ok (.ifCond .eq 7, 3) := by decide +kernel
theorem dX6_reasonOf_11 : decode cX6_reasonOf 11 = .ok (.iconst 0, 1) := by decide +kernel
theorem dX6_reasonOf_12 : decode cX6_reasonOf 12 = .ok (.goto 4, 3) := by decide +kernel
theorem dX6_reasonOf_15 : decode cX6_reasonOf 15 = .ok (.iconst 1, 1) := by decide +kernel
theorem dX6_reasonOf_16 : decode cX6_reasonOf 16 = .ok (.ireturn, 1) := by decide +kernel
theorem dX6_reasonOf_17 : decode cX6_reasonOf 17 = .ok (.iload_n 1, 1) := by decide +kernel
theorem dX6_reasonOf_18 : decode cX6_reasonOf 18 = .ok (.iconst 1, 1) := by decide +kernel
theorem dX6_reasonOf_19 : decode cX6_reasonOf 19 = .ok (.if_icmp .ne 15, 3) := by decide +kernel
theorem dX6_reasonOf_22 : decode cX6_reasonOf 22 = .ok (.iload_n 0, 1) := by decide +kernel
