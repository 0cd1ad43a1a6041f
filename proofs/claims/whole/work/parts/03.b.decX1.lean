theorem dX1_init_0 : decode cX1_init 0 = .ok (.aload_n 0, 1) := by decide +kernel
theorem dX1_init_1 : decode cX1_init 1 = .ok (.invokespecial 1, 3) := by decide +kernel
theorem dX1_init_4 : decode cX1_init 4 = .ok (.aload_n 0, 1) := by decide +kernel
theorem dX1_init_5 : decode cX1_init 5 = .ok (.iconst 4, 1) := by decide +kernel
theorem dX1_init_6 : decode cX1_init 6 = .ok (.anewarray 9, 3) := by decide +kernel
theorem dX1_init_9 : decode cX1_init 9 = .ok (.putfield 11, 3) := by decide +kernel
theorem dX1_init_12 : decode cX1_init 12 = .ok (.aload_n 0, 1) := by decide +kernel
theorem dX1_init_13 : decode cX1_init 13 = .ok (.new 9, 3) := by decide +kernel
theorem dX1_init_16 : decode cX1_init 16 = .ok (.dup, 1) := by decide +kernel
theorem dX1_init_17 : decode cX1_init 17 = .ok (.invokespecial 15, 3) := by decide +kernel
theorem dX1_init_20 : decode cX1_init 20 = .ok (.putfield 16, 3) := by decide +kernel
theorem dX1_init_23 : decode cX1_init 23 = .ok (.aload_n 0, 1) := by decide +kernel
theorem dX1_init_24 : decode cX1_init 24 = .ok (.iconst (-1), 1) := by decide +kernel
theorem dX1_init_25 : decode cX1_init 25 = .ok (.putfield 20, 3) := by decide +kernel
theorem dX1_init_28 : decode cX1_init 28 = .ok (.aload_n 0, 1) := by decide +kernel
theorem dX1_init_29 : decode cX1_init 29 = .ok (.iconst 0, 1) := by decide +kernel
theorem dX1_init_30 : decode cX1_init 30 = .ok (.putfield 24, 3) := by decide +kernel
theorem dX1_init_33 : decode cX1_init 33 = .ok (.aload_n 0, 1) := by decide +kernel
theorem dX1_init_34 : decode cX1_init 34 = .ok (.iconst 0, 1) := by decide +kernel
theorem dX1_init_35 : decode cX1_init 35 = .ok (.putfield 28, 3) := by decide +kernel
theorem dX1_init_38 : decode cX1_init 38 = .ok (.aload_n 0, 1) := by decide +kernel
theorem dX1_init_39 : decode cX1_init 39 = .ok (.iconst 1, 1) := by decide +kernel
theorem dX1_init_40 : decode cX1_init 40 = .ok (.bipush 16, 2) := by decide +kernel
theorem dX1_init_42 : decode cX1_init 42 = .ok (.iload_n 1, 1) := by decide +kernel
theorem dX1_init_43 : decode cX1_init 43 = .ok (.invokestatic 31, 3) := by decide +kernel
theorem dX1_init_46 : decode cX1_init 46 = .ok (.invokestatic 37, 3) := by decide +kernel
theorem dX1_init_49 : decode cX1_init 49 = .ok (.putfield 40, 3) := by decide +kernel
theorem dX1_init_52 : decode cX1_init 52 = .ok (.aload_n 0, 1) := by decide +kernel
theorem dX1_init_53 : decode cX1_init 53 = .ok (.bipush 16, 2) := by decide +kernel
theorem dX1_init_55 : decode cX1_init 55 = .ok (.sipush 256, 3) := by decide +kernel
theorem dX1_init_58 : decode cX1_init 58 = .ok (.iload_n 2, 1) := by decide +kernel
theorem dX1_init_59 : decode cX1_init 59 = .ok (.invokestatic 31, 3) := by decide +kernel
theorem dX1_init_62 : decode cX1_init 62 = .ok (.invokestatic 37, 3) := by decide +kernel
theorem dX1_init_65 : decode cX1_init 65 = .ok (.newarray .int, 2) := by decide +kernel
theorem dX1_init_67 : decode cX1_init 67 = .ok (.putfield 43, 3) := by decide +kernel
theorem dX1_init_70 : decode cX1_init 70 = .ok (.iconst 0, 1) := by decide +kernel
theorem dX1_init_71 : decode cX1_init 71 = .ok (.istore_n 3, 1) := by decide +kernel
theorem dX1_init_72 : decode cX1_init 72 = .ok (.iload_n 3, 1) := by decide +kernel
theorem dX1_init_73 : decode cX1_init 73 = .ok (.aload_n 0, 1) := by decide +kernel
theorem dX1_init_74 : decode cX1_init 74 = .ok (.getfield 11, 3) := by decide +kernel
theorem dX1_init_77 : decode cX1_init 77 = .ok (.arraylength, 1) := by decide +kernel
theorem dX1_init_78 : decode cX1_init 78 = .ok (.if_icmp .ge 22, 3) := by decide +kernel
theorem dX1_init_81 : decode cX1_init 81 = .ok (.aload_n 0, 1) := by decide +kernel
theorem dX1_init_82 : decode cX1_init 82 = .ok (.getfield 11, 3) := by decide +kernel
theorem dX1_init_85 : decode cX1_init 85 = .ok (.iload_n 3, 1) := by decide +kernel
theorem dX1_init_86 : decode cX1_init 86 = .ok (.new 9, 3) := by decide +kernel
theorem dX1_init_89 : decode cX1_init 89 = .ok (.dup, 1) := by decide +kernel
theorem dX1_init_90 : decode cX1_init 90 = .ok (.invokespecial 15, 3) := by decide +kernel
theorem dX1_init_93 : decode cX1_init 93 = .ok (.aastore, 1) := by decide +kernel
theorem dX1_init_94 : decode cX1_init 94 = .ok (.iinc 3 1, 3) := by decide +kernel
theorem dX1_init_97 : decode cX1_init 97 = .ok (.goto (-25), 3) := by decide +kernel
theorem dX1_init_100 : decode cX1_init 100 = .ok (.return_, 1) := by decide +kernel
theorem dX1_append_0 : decode cX1_append 0 = .ok (.aload_n 0, 1) := by decide +kernel
theorem dX1_append_1 : decode cX1_append 1 = .ok (.iload_n 1, 1) := by decide +kernel
theorem dX1_append_2 : decode cX1_append 2 = .ok (.invokevirtual 47, 3) := by decide +kernel
theorem dX1_append_5 : decode cX1_append 5 = .ok (.astore 4, 2) := by decide +kernel
theorem dX1_append_7 : decode cX1_append 7 = .ok (.iload_n 2, 1) := by decide +kernel
theorem dX1_append_8 : decode cX1_append 8 = .ok (.iconst 1, 1) := by decide +kernel
theorem dX1_append_9 : decode cX1_append 9 = .ok (.sipush 20000, 3) := by decide +kernel
theorem dX1_append_12 : decode cX1_append 12 = .ok (.invokestatic 51, 3) := by decide +kernel
theorem dX1_append_15 : decode cX1_append 15 = .ok (.aload_n 0, 1) := by decide +kernel
theorem dX1_append_16 : decode cX1_append 16 = .ok (.invokevirtual 55, 3) := by decide +kernel
theorem dX1_append_19 : decode cX1_append 19 = .ok (.iload_n 2, 1) := by decide +kernel
theorem dX1_append_20 : decode cX1_append 20 = .ok (.iconst 4, 1) := by decide +kernel
theorem dX1_append_21 : decode cX1_append 21 = .ok (.iadd, 1) := by decide +kernel
theorem dX1_append_22 : decode cX1_append 22 = .ok (.istore 5, 2) := by decide +kernel
theorem dX1_append_24 : decode cX1_append 24 = .ok (.iload 5, 2) := by decide +kernel
theorem dX1_append_26 : decode cX1_append 26 = .ok (.aload_n 0, 1) := by decide +kernel
theorem dX1_append_27 : decode cX1_append 27 = .ok (.invokevirtual 58, 3) := by decide +kernel
theorem dX1_append_30 : decode cX1_append 30 = .ok (.if_icmp .le 6, 3) := by decide +kernel
theorem dX1_append_33 : decode cX1_append 33 = .ok (.bipush (-5), 2) := by decide +kernel
theorem dX1_append_35 : decode cX1_append 35 = .ok (.ireturn, 1) := by decide +kernel
theorem dX1_append_36 : decode cX1_append 36 = .ok (.aload 4, 2) := by decide +kernel
theorem dX1_append_38 : decode cX1_append 38 = .ok (.iload 5, 2) := by decide +kernel
theorem dX1_append_40 : decode cX1_append 40 = .ok (.aload_n 0, 1) := by decide +kernel
theorem dX1_append_41 : decode cX1_append 41 = .ok (.invokevirtual 58, 3) := by decide +kernel
theorem dX1_append_44 : decode cX1_append 44 = .ok (.invokevirtual 62, 3) := by decide +kernel
theorem dX1_append_47 : decode cX1_append 47 = .ok (.istore 6, 2) := by decide +kernel
theorem dX1_append_49 : decode cX1_append 49 = .ok (.iload 6, 2) := by decide +kernel
theorem dX1_append_51 : decode cX1_append 51 = .ok (.ifCond .eq 11, 3) := by decide +kernel
theorem dX1_append_54 : decode cX1_append 54 = .ok (.aload 4, 2) := by decide +kernel
theorem dX1_append_56 : decode cX1_append 56 = .ok (.invokevirtual 66, 3) := by decide +kernel
theorem dX1_append_59 : decode cX1_append 59 = .ok (.goto 9, 3) := by decide +kernel
theorem dX1_append_62 : decode cX1_append 62 = .ok (.aload_n 0, 1) := by decide +kernel
theorem dX1_append_63 : decode cX1_append 63 = .ok (.aload 4, 2) := by decide +kernel
theorem dX1_append_65 : decode cX1_append 65 = .ok (.invokevirtual 69, 3) := by decide +kernel
theorem dX1_append_68 : decode cX1_append 68 = .ok (.istore 7, 2) := by decide +kernel
theorem dX1_append_70 : decode cX1_append 70 = .ok (.iload 7, 2) := by decide +kernel
theorem dX1_append_72 : decode cX1_append 72 = .ok (.iconst (-1), 1) := by decide +kernel
theorem dX1_append_73 : decode cX1_append 73 = .ok (.if_icmp .eq 11, 3) := by decide +kernel
theorem dX1_append_76 : decode cX1_append 76 = .ok (.aload 4, 2) := by decide +kernel
theorem dX1_append_78 : decode cX1_append 78 = .ok (.invokevirtual 73, 3) := by decide +kernel
theorem dX1_append_81 : decode cX1_append 81 = .ok (.ifCond .ne 6, 3) := by decide +kernel
theorem dX1_append_84 : decode cX1_append 84 = .ok (.bipush (-2), 2) := by decide +kernel
theorem dX1_append_86 : decode cX1_append 86 = .ok (.ireturn, 1) := by decide +kernel
theorem dX1_append_87 : decode cX1_append 87 = .ok (.iload 6, 2) := by decide +kernel
theorem dX1_append_89 : decode cX1_append 89 = .ok (.ifCond .eq 11, 3) := by decide +kernel
theorem dX1_append_92 : decode cX1_append 92 = .ok (.aload 4, 2) := by decide +kernel
theorem dX1_append_94 : decode cX1_append 94 = .ok (.invokevirtual 77, 3) := by decide +kernel
theorem dX1_append_97 : decode cX1_append 97 = .ok (.goto 4, 3) := by decide +kernel
theorem dX1_append_100 : decode cX1_append 100 = .ok (.iconst 0, 1) := by decide +kernel
theorem dX1_append_101 : decode cX1_append 101 = .ok (.istore 8, 2) := by decide +kernel
theorem dX1_append_103 : decode cX1_append 103 = .ok (.iload 8, 2) := by decide +kernel
theorem dX1_append_105 : decode cX1_append 105 = .ok (.iload 5, 2) := by decide +kernel
theorem dX1_append_107 : decode cX1_append 107 = .ok (.invokestatic 80, 3) := by decide +kernel
theorem dX1_append_110 : decode cX1_append 110 = .ok (.iconst 1, 1) := by decide +kernel
theorem dX1_append_111 : decode cX1_append 111 = .ok (.iadd, 1) := by decide +kernel
theorem dX1_append_112 : decode cX1_append 112 = .ok (.istore 9, 2) := by decide +kernel
theorem dX1_append_114 : decode cX1_append 114 = .ok (.aload_n 0, 1) := by decide +kernel
theorem dX1_append_115 : decode cX1_append 115 = .ok (.iload 9, 2) := by decide +kernel
theorem dX1_append_117 : decode cX1_append 117 = .ok (.invokevirtual 83, 3) := by decide +kernel
theorem dX1_append_120 : decode cX1_append 120 = .ok (.ifCond .eq 33, 3) := by decide +kernel
theorem dX1_append_123 : decode cX1_append 123 = .ok (.iload 6, 2) := by decide +kernel
theorem dX1_append_125 : decode cX1_append 125 = .ok (.ifCond .ne 10, 3) := by decide +kernel
theorem dX1_append_128 : decode cX1_append 128 = .ok (.aload 4, 2) := by decide +kernel
theorem dX1_append_130 : decode cX1_append 130 = .ok (.iload 7, 2) := by decide +kernel
theorem dX1_append_132 : decode cX1_append 132 = .ok (.invokevirtual 87, 3) := by decide +kernel
theorem dX1_append_135 : decode cX1_append 135 = .ok (.aload 4, 2) := by decide +kernel
theorem dX1_append_137 : decode cX1_append 137 = .ok (.iload_n 2, 1) := by decide +kernel
theorem dX1_append_138 : decode cX1_append 138 = .ok (.iload_n 3, 1) := by decide +kernel
theorem dX1_append_139 : decode cX1_append 139 = .ok (.invokevirtual 91, 3) := by decide +kernel
theorem dX1_append_142 : decode cX1_append 142 = .ok (.aload 4, 2) := by decide +kernel
theorem dX1_append_144 : decode cX1_append 144 = .ok (.dup, 1) := by decide +kernel
theorem dX1_append_145 : decode cX1_append 145 = .ok (.getfield 95, 3) := by decide +kernel
theorem dX1_append_148 : decode cX1_append 148 = .ok (.iconst 1, 1) := by decide +kernel
theorem dX1_append_149 : decode cX1_append 149 = .ok (.iadd, 1) := by decide +kernel
theorem dX1_append_150 : decode cX1_append 150 = .ok (.putfield 95, 3) := by decide +kernel
theorem dX1_append_153 : decode cX1_append 153 = .ok (.aload_n 0, 1) := by decide +kernel
theorem dX1_append_154 : decode cX1_append 154 = .ok (.getfield 24, 3) := by decide +kernel
theorem dX1_append_157 : decode cX1_append 157 = .ok (.ifCond .eq 8, 3) := by decide +kernel
theorem dX1_append_160 : decode cX1_append 160 = .ok (.bipush (-3), 2) := by decide +kernel
theorem dX1_append_162 : decode cX1_append 162 = .ok (.goto 5, 3) := by decide +kernel
theorem dX1_append_165 : decode cX1_append 165 = .ok (.iload 9, 2) := by decide +kernel
theorem dX1_append_167 : decode cX1_append 167 = .ok (.ireturn, 1) := by decide +kernel
theorem dX1_retain_0 : decode cX1_retain 0 = .ok (.aload_n 0, 1) := by decide +kernel
theorem dX1_retain_1 : decode cX1_retain 1 = .ok (.iload_n 1, 1) := by decide +kernel
theorem dX1_retain_2 : decode cX1_retain 2 = .ok (.invokevirtual 47, 3) := by decide +kernel
theorem dX1_retain_5 : decode cX1_retain 5 = .ok (.astore_n 3, 1) := by decide +kernel
theorem dX1_retain_6 : decode cX1_retain 6 = .ok (.iload_n 2, 1) := by decide +kernel
theorem dX1_retain_7 : decode cX1_retain 7 = .ok (.iconst 0, 1) := by decide +kernel
theorem dX1_retain_8 : decode cX1_retain 8 = .ok (.ldc 100, 2) := by decide +kernel
theorem dX1_retain_10 : decode cX1_retain 10 = .ok (.invokestatic 51, 3) := by decide +kernel
theorem dX1_retain_13 : decode cX1_retain 13 = .ok (.aload_n 0, 1) := by decide +kernel
theorem dX1_retain_14 : decode cX1_retain 14 = .ok (.invokevirtual 55, 3) := by decide +kernel
theorem dX1_retain_17 : decode cX1_retain 17 = .ok (.aload_n 3, 1) := by decide +kernel
theorem dX1_retain_18 : decode cX1_retain 18 = .ok (.iload_n 2, 1) := by decide +kernel
theorem dX1_retain_19 : decode cX1_retain 19 = .ok (.invokevirtual 101, 3) := by decide +kernel
theorem dX1_retain_22 : decode cX1_retain 22 = .ok (.istore 4, 2) := by decide +kernel
theorem dX1_retain_24 : decode cX1_retain 24 = .ok (.iload 4, 2) := by decide +kernel
theorem dX1_retain_26 : decode cX1_retain 26 = .ok (.ifCond .ne 5, 3) := by decide +kernel
theorem dX1_retain_29 : decode cX1_retain 29 = .ok (.iconst 0, 1) := by decide +kernel
theorem dX1_retain_30 : decode cX1_retain 30 = .ok (.ireturn, 1) := by decide +kernel
theorem dX1_retain_31 : decode cX1_retain 31 = .ok (.aload_n 0, 1) := by decide +kernel
theorem dX1_retain_32 : decode cX1_retain 32 = .ok (.getfield 16, 3) := by decide +kernel
theorem dX1_retain_35 : decode cX1_retain 35 = .ok (.aload_n 3, 1) := by decide +kernel
theorem dX1_retain_36 : decode cX1_retain 36 = .ok (.invokevirtual 105, 3) := by decide +kernel
theorem dX1_retain_39 : decode cX1_retain 39 = .ok (.aload_n 0, 1) := by decide +kernel
theorem dX1_retain_40 : decode cX1_retain 40 = .ok (.getfield 16, 3) := by decide +kernel
theorem dX1_retain_43 : decode cX1_retain 43 = .ok (.aload_n 3, 1) := by decide +kernel
theorem dX1_retain_44 : decode cX1_retain 44 = .ok (.iload 4, 2) := by decide +kernel
theorem dX1_retain_46 : decode cX1_retain 46 = .ok (.invokevirtual 109, 3) := by decide +kernel
theorem dX1_retain_49 : decode cX1_retain 49 = .ok (.aload_n 0, 1) := by decide +kernel
theorem dX1_retain_50 : decode cX1_retain 50 = .ok (.iconst 1, 1) := by decide +kernel
theorem dX1_retain_51 : decode cX1_retain 51 = .ok (.invokevirtual 83, 3) := by decide +kernel
theorem dX1_retain_54 : decode cX1_retain 54 = .ok (.ifCond .eq 8, 3) := by decide +kernel
theorem dX1_retain_57 : decode cX1_retain 57 = .ok (.aload_n 0, 1) := by decide +kernel
theorem dX1_retain_58 : decode cX1_retain 58 = .ok (.iload_n 1, 1) := by decide +kernel
theorem dX1_retain_59 : decode cX1_retain 59 = .ok (.invokevirtual 113, 3) := by decide +kernel
theorem dX1_retain_62 : decode cX1_retain 62 = .ok (.aload_n 0, 1) := by decide +kernel
theorem dX1_retain_63 : decode cX1_retain 63 = .ok (.getfield 24, 3) := by decide +kernel
theorem dX1_retain_66 : decode cX1_retain 66 = .ok (.ifCond .eq 8, 3) := by decide +kernel
theorem dX1_retain_69 : decode cX1_retain 69 = .ok (.bipush (-3), 2) := by decide +kernel
theorem dX1_retain_71 : decode cX1_retain 71 = .ok (.goto 5, 3) := by decide +kernel
theorem dX1_retain_74 : decode cX1_retain 74 = .ok (.iload 4, 2) := by decide +kernel
theorem dX1_retain_76 : decode cX1_retain 76 = .ok (.ireturn, 1) := by decide +kernel
theorem dX1_thin_0 : decode cX1_thin 0 = .ok (.aload_n 0, 1) := by decide +kernel
theorem dX1_thin_1 : decode cX1_thin 1 = .ok (.iload_n 1, 1) := by decide +kernel
theorem dX1_thin_2 : decode cX1_thin 2 = .ok (.invokevirtual 47, 3) := by decide +kernel
theorem dX1_thin_5 : decode cX1_thin 5 = .ok (.astore_n 3, 1) := by decide +kernel
theorem dX1_thin_6 : decode cX1_thin 6 = .ok (.iload_n 2, 1) := by decide +kernel
theorem dX1_thin_7 : decode cX1_thin 7 = .ok (.iconst 1, 1) := by decide +kernel
theorem dX1_thin_8 : decode cX1_thin 8 = .ok (.sipush 1000, 3) := by decide +kernel
theorem dX1_thin_11 : decode cX1_thin 11 = .ok (.invokestatic 51, 3) := by decide +kernel
theorem dX1_thin_14 : decode cX1_thin 14 = .ok (.aload_n 0, 1) := by decide +kernel
theorem dX1_thin_15 : decode cX1_thin 15 = .ok (.invokevirtual 55, 3) := by decide +kernel
theorem dX1_thin_18 : decode cX1_thin 18 = .ok (.aload_n 3, 1) := by decide +kernel
theorem dX1_thin_19 : decode cX1_thin 19 = .ok (.invokevirtual 116, 3) := by decide +kernel
theorem dX1_thin_22 : decode cX1_thin 22 = .ok (.istore 4, 2) := by decide +kernel
theorem dX1_thin_24 : decode cX1_thin 24 = .ok (.iload 4, 2) := by decide +kernel
theorem dX1_thin_26 : decode cX1_thin 26 = .ok (.ifCond .ne 5, 3) := by decide +kernel
theorem dX1_thin_29 : decode cX1_thin 29 = .ok (.iconst 0, 1) := by decide +kernel
theorem dX1_thin_30 : decode cX1_thin 30 = .ok (.ireturn, 1) := by decide +kernel
theorem dX1_thin_31 : decode cX1_thin 31 = .ok (.aload_n 0, 1) := by decide +kernel
theorem dX1_thin_32 : decode cX1_thin 32 = .ok (.aload_n 3, 1) := by decide +kernel
theorem dX1_thin_33 : decode cX1_thin 33 = .ok (.iload 4, 2) := by decide +kernel
theorem dX1_thin_35 : decode cX1_thin 35 = .ok (.iload_n 2, 1) := by decide +kernel
theorem dX1_thin_36 : decode cX1_thin 36 = .ok (.invokevirtual 119, 3) := by decide +kernel
theorem dX1_thin_39 : decode cX1_thin 39 = .ok (.ifCond .ne 6, 3) := by decide +kernel
theorem dX1_thin_42 : decode cX1_thin 42 = .ok (.bipush (-2), 2) := by decide +kernel
theorem dX1_thin_44 : decode cX1_thin 44 = .ok (.ireturn, 1) := by decide +kernel
theorem dX1_thin_45 : decode cX1_thin 45 = .ok (.iload 4, 2) := by decide +kernel
theorem dX1_thin_47 : decode cX1_thin 47 = .ok (.aload_n 0, 1) := by decide +kernel
theorem dX1_thin_48 : decode cX1_thin 48 = .ok (.getfield 16, 3) := by decide +kernel
theorem dX1_thin_51 : decode cX1_thin 51 = .ok (.getfield 123, 3) := by decide +kernel
theorem dX1_thin_54 : decode cX1_thin 54 = .ok (.isub, 1) := by decide +kernel
theorem dX1_thin_55 : decode cX1_thin 55 = .ok (.istore 5, 2) := by decide +kernel
theorem dX1_thin_57 : decode cX1_thin 57 = .ok (.aload_n 0, 1) := by decide +kernel
theorem dX1_thin_58 : decode cX1_thin 58 = .ok (.getfield 16, 3) := by decide +kernel
theorem dX1_thin_61 : decode cX1_thin 61 = .ok (.invokevirtual 126, 3) := by decide +kernel
theorem dX1_thin_64 : decode cX1_thin 64 = .ok (.iconst 1, 1) := by decide +kernel
theorem dX1_thin_65 : decode cX1_thin 65 = .ok (.iadd, 1) := by decide +kernel
theorem dX1_thin_66 : decode cX1_thin 66 = .ok (.istore 6, 2) := by decide +kernel
theorem dX1_thin_68 : decode cX1_thin 68 = .ok (.aload_n 0, 1) := by decide +kernel
theorem dX1_thin_69 : decode cX1_thin 69 = .ok (.getfield 16, 3) := by decide +kernel
theorem dX1_thin_72 : decode cX1_thin 72 = .ok (.aload_n 3, 1) := by decide +kernel
theorem dX1_thin_73 : decode cX1_thin 73 = .ok (.aload_n 3, 1) := by decide +kernel
theorem dX1_thin_74 : decode cX1_thin 74 = .ok (.getfield 129, 3) := by decide +kernel
theorem dX1_thin_77 : decode cX1_thin 77 = .ok (.iconst 1, 1) := by decide +kernel
theorem dX1_thin_78 : decode cX1_thin 78 = .ok (.isub, 1) := by decide +kernel
theorem dX1_thin_79 : decode cX1_thin 79 = .ok (.invokevirtual 109, 3) := by decide +kernel
theorem dX1_thin_82 : decode cX1_thin 82 = .ok (.aload_n 0, 1) := by decide +kernel
theorem dX1_thin_83 : decode cX1_thin 83 = .ok (.iload 6, 2) := by decide +kernel
theorem dX1_thin_85 : decode cX1_thin 85 = .ok (.invokevirtual 83, 3) := by decide +kernel
theorem dX1_thin_88 : decode cX1_thin 88 = .ok (.ifCond .eq 8, 3) := by decide +kernel
theorem dX1_thin_91 : decode cX1_thin 91 = .ok (.aload_n 0, 1) := by decide +kernel
theorem dX1_thin_92 : decode cX1_thin 92 = .ok (.iload_n 1, 1) := by decide +kernel
theorem dX1_thin_93 : decode cX1_thin 93 = .ok (.invokevirtual 113, 3) := by decide +kernel
theorem dX1_thin_96 : decode cX1_thin 96 = .ok (.aload_n 0, 1) := by decide +kernel
theorem dX1_thin_97 : decode cX1_thin 97 = .ok (.getfield 24, 3) := by decide +kernel
theorem dX1_thin_100 : decode cX1_thin 100 = .ok (.ifCond .eq 8, 3) := by decide +kernel
theorem dX1_thin_103 : decode cX1_thin 103 = .ok (.bipush (-3), 2) := by decide +kernel
theorem dX1_thin_105 : decode cX1_thin 105 = .ok (.goto 5, 3) := by decide +kernel
theorem dX1_thin_108 : decode cX1_thin 108 = .ok (.iload 5, 2) := by decide +kernel
theorem dX1_thin_110 : decode cX1_thin 110 = .ok (.ireturn, 1) := by decide +kernel
theorem dX1_log_0 : decode cX1_log 0 = .ok (.aload_n 0, 1) := by decide +kernel
theorem dX1_log_1 : decode cX1_log 1 = .ok (.iload_n 1, 1) := by decide +kernel
theorem dX1_log_2 : decode cX1_log 2 = .ok (.invokevirtual 47, 3) := by decide +kernel
theorem dX1_log_5 : decode cX1_log 5 = .ok (.astore_n 3, 1) := by decide +kernel
theorem dX1_log_6 : decode cX1_log 6 = .ok (.iload_n 2, 1) := by decide +kernel
theorem dX1_log_7 : decode cX1_log 7 = .ok (.iconst 0, 1) := by decide +kernel
theorem dX1_log_8 : decode cX1_log 8 = .ok (.iconst 3, 1) := by decide +kernel
theorem dX1_log_9 : decode cX1_log 9 = .ok (.invokestatic 51, 3) := by decide +kernel
theorem dX1_log_12 : decode cX1_log 12 = .ok (.aload_n 0, 1) := by decide +kernel
theorem dX1_log_13 : decode cX1_log 13 = .ok (.invokevirtual 55, 3) := by decide +kernel
theorem dX1_log_16 : decode cX1_log 16 = .ok (.iload_n 2, 1) := by decide +kernel
theorem dX1_log_17 : decode cX1_log 17 = .ok (.tableswitch 43 0 2 #[27, 32, 37], 27) := by decide +kernel
theorem dX1_log_44 : decode cX1_log 44 = .ok (.aload_n 3, 1) := by decide +kernel
theorem dX1_log_45 : decode cX1_log 45 = .ok (.getfield 123, 3) := by decide +kernel
theorem dX1_log_48 : decode cX1_log 48 = .ok (.ireturn, 1) := by decide +kernel
theorem dX1_log_49 : decode cX1_log 49 = .ok (.aload_n 3, 1) := by decide +kernel
theorem dX1_log_50 : decode cX1_log 50 = .ok (.getfield 129, 3) := by decide +kernel
theorem dX1_log_53 : decode cX1_log 53 = .ok (.ireturn, 1) := by decide +kernel
theorem dX1_log_54 : decode cX1_log 54 = .ok (.aload_n 3, 1) := by decide +kernel
theorem dX1_log_55 : decode cX1_log 55 = .ok (.iconst 0, 1) := by decide +kernel
theorem dX1_log_56 : decode cX1_log 56 = .ok (.invokevirtual 132, 3) := by decide +kernel
theorem dX1_log_59 : decode cX1_log 59 = .ok (.ireturn, 1) := by decide +kernel
theorem dX1_log_60 : decode cX1_log 60 = .ok (.aload_n 3, 1) := by decide +kernel
theorem dX1_log_61 : decode cX1_log 61 = .ok (.getfield 95, 3) := by decide +kernel
theorem dX1_log_64 : decode cX1_log 64 = .ok (.ireturn, 1) := by decide +kernel
theorem dX1_entry_0 : decode cX1_entry 0 = .ok (.aload_n 0, 1) := by decide +kernel
theorem dX1_entry_1 : decode cX1_entry 1 = .ok (.iload_n 1, 1) := by decide +kernel
theorem dX1_entry_2 : decode cX1_entry 2 = .ok (.invokevirtual 47, 3) := by decide +kernel
theorem dX1_entry_5 : decode cX1_entry 5 = .ok (.astore 4, 2) := by decide +kernel
theorem dX1_entry_7 : decode cX1_entry 7 = .ok (.iload_n 3, 1) := by decide +kernel
theorem dX1_entry_8 : decode cX1_entry 8 = .ok (.iconst 0, 1) := by decide +kernel
theorem dX1_entry_9 : decode cX1_entry 9 = .ok (.iconst 2, 1) := by decide +kernel
theorem dX1_entry_10 : decode cX1_entry 10 = .ok (.invokestatic 51, 3) := by decide +kernel
theorem dX1_entry_13 : decode cX1_entry 13 = .ok (.aload_n 0, 1) := by decide +kernel
theorem dX1_entry_14 : decode cX1_entry 14 = .ok (.invokevirtual 55, 3) := by decide +kernel
theorem dX1_entry_17 : decode cX1_entry 17 = .ok (.iload_n 2, 1) := by decide +kernel
theorem dX1_entry_18 : decode cX1_entry 18 = .ok (.iconst 0, 1) := by decide +kernel
theorem dX1_entry_19 : decode cX1_entry 19 = .ok (.aload 4, 2) := by decide +kernel
theorem dX1_entry_21 : decode cX1_entry 21 = .ok (.getfield 123, 3) := by decide +kernel
theorem dX1_entry_24 : decode cX1_entry 24 = .ok (.iconst 1, 1) := by decide +kernel
theorem dX1_entry_25 : decode cX1_entry 25 = .ok (.isub, 1) := by decide +kernel
theorem dX1_entry_26 : decode cX1_entry 26 = .ok (.invokestatic 51, 3) := by decide +kernel
theorem dX1_entry_29 : decode cX1_entry 29 = .ok (.iload_n 3, 1) := by decide +kernel
theorem dX1_entry_30 : decode cX1_entry 30 = .ok (.lookupswitch 43 #[(0, 26), (1, 36)], 26) := by decide +kernel
theorem dX1_entry_56 : decode cX1_entry 56 = .ok (.aload 4, 2) := by decide +kernel
theorem dX1_entry_58 : decode cX1_entry 58 = .ok (.getfield 135, 3) := by decide +kernel
theorem dX1_entry_61 : decode cX1_entry 61 = .ok (.iload_n 2, 1) := by decide +kernel
theorem dX1_entry_62 : decode cX1_entry 62 = .ok (.invokestatic 138, 3) := by decide +kernel
theorem dX1_entry_65 : decode cX1_entry 65 = .ok (.ireturn, 1) := by decide +kernel
theorem dX1_entry_66 : decode cX1_entry 66 = .ok (.aload 4, 2) := by decide +kernel
theorem dX1_entry_68 : decode cX1_entry 68 = .ok (.iload_n 2, 1) := by decide +kernel
theorem dX1_entry_69 : decode cX1_entry 69 = .ok (.invokevirtual 142, 3) := by decide +kernel
theorem dX1_entry_72 : decode cX1_entry 72 = .ok (.ireturn, 1) := by decide +kernel
theorem dX1_entry_73 : decode cX1_entry 73 = .ok (.aload 4, 2) := by decide +kernel
theorem dX1_entry_75 : decode cX1_entry 75 = .ok (.getfield 145, 3) := by decide +kernel
theorem dX1_entry_78 : decode cX1_entry 78 = .ok (.iload_n 2, 1) := by decide +kernel
theorem dX1_entry_79 : decode cX1_entry 79 = .ok (.invokestatic 138, 3) := by decide +kernel
theorem dX1_entry_82 : decode cX1_entry 82 = .ok (.ireturn, 1) := by decide +kernel
theorem dX1_byteAt_0 : decode cX1_byteAt 0 = .ok (.aload_n 0, 1) := by decide +kernel
theorem dX1_byteAt_1 : decode cX1_byteAt 1 = .ok (.iload_n 1, 1) := by decide +kernel
theorem dX1_byteAt_2 : decode cX1_byteAt 2 = .ok (.invokevirtual 47, 3) := by decide +kernel
theorem dX1_byteAt_5 : decode cX1_byteAt 5 = .ok (.astore 4, 2) := by decide +kernel
theorem dX1_byteAt_7 : decode cX1_byteAt 7 = .ok (.aload_n 0, 1) := by decide +kernel
theorem dX1_byteAt_8 : decode cX1_byteAt 8 = .ok (.invokevirtual 55, 3) := by decide +kernel
theorem dX1_byteAt_11 : decode cX1_byteAt 11 = .ok (.iload_n 2, 1) := by decide +kernel
theorem dX1_byteAt_12 : decode cX1_byteAt 12 = .ok (.iconst 0, 1) := by decide +kernel
theorem dX1_byteAt_13 : decode cX1_byteAt 13 = .ok (.aload 4, 2) := by decide +kernel
theorem dX1_byteAt_15 : decode cX1_byteAt 15 = .ok (.getfield 123, 3) := by decide +kernel
theorem dX1_byteAt_18 : decode cX1_byteAt 18 = .ok (.iconst 1, 1) := by decide +kernel
theorem dX1_byteAt_19 : decode cX1_byteAt 19 = .ok (.isub, 1) := by decide +kernel
theorem dX1_byteAt_20 : decode cX1_byteAt 20 = .ok (.invokestatic 51, 3) := by decide +kernel
theorem dX1_byteAt_23 : decode cX1_byteAt 23 = .ok (.iload_n 3, 1) := by decide +kernel
theorem dX1_byteAt_24 : decode cX1_byteAt 24 = .ok (.iconst 0, 1) := by decide +kernel
theorem dX1_byteAt_25 : decode cX1_byteAt 25 = .ok (.aload 4, 2) := by decide +kernel
theorem dX1_byteAt_27 : decode cX1_byteAt 27 = .ok (.getfield 135, 3) := by decide +kernel
theorem dX1_byteAt_30 : decode cX1_byteAt 30 = .ok (.iload_n 2, 1) := by decide +kernel
theorem dX1_byteAt_31 : decode cX1_byteAt 31 = .ok (.invokestatic 138, 3) := by decide +kernel
theorem dX1_byteAt_34 : decode cX1_byteAt 34 = .ok (.iconst 1, 1) := by decide +kernel
theorem dX1_byteAt_35 : decode cX1_byteAt 35 = .ok (.isub, 1) := by decide +kernel
theorem dX1_byteAt_36 : decode cX1_byteAt 36 = .ok (.invokestatic 51, 3) := by decide +kernel
theorem dX1_byteAt_39 : decode cX1_byteAt 39 = .ok (.aload 4, 2) := by decide +kernel
theorem dX1_byteAt_41 : decode cX1_byteAt 41 = .ok (.getfield 148, 3) := by decide +kernel
theorem dX1_byteAt_44 : decode cX1_byteAt 44 = .ok (.iload_n 2, 1) := by decide +kernel
theorem dX1_byteAt_45 : decode cX1_byteAt 45 = .ok (.invokestatic 138, 3) := by decide +kernel
theorem dX1_byteAt_48 : decode cX1_byteAt 48 = .ok (.iload_n 3, 1) := by decide +kernel
theorem dX1_byteAt_49 : decode cX1_byteAt 49 = .ok (.iadd, 1) := by decide +kernel
theorem dX1_byteAt_50 : decode cX1_byteAt 50 = .ok (.sipush 255, 3) := by decide +kernel
theorem dX1_byteAt_53 : decode cX1_byteAt 53 = .ok (.iand, 1) := by decide +kernel
theorem dX1_byteAt_54 : decode cX1_byteAt 54 = .ok (.ireturn, 1) := by decide +kernel
theorem dX1_crash_0 : decode cX1_crash 0 = .ok (.iload_n 1, 1) := by decide +kernel
theorem dX1_crash_1 : decode cX1_crash 1 = .ok (.iconst (-1), 1) := by decide +kernel
theorem dX1_crash_2 : decode cX1_crash 2 = .ok (.sipush 1000, 3) := by decide +kernel
theorem dX1_crash_5 : decode cX1_crash 5 = .ok (.invokestatic 51, 3) := by decide +kernel
theorem dX1_crash_8 : decode cX1_crash 8 = .ok (.aload_n 0, 1) := by decide +kernel
theorem dX1_crash_9 : decode cX1_crash 9 = .ok (.invokevirtual 55, 3) := by decide +kernel
theorem dX1_crash_12 : decode cX1_crash 12 = .ok (.aload_n 0, 1) := by decide +kernel
theorem dX1_crash_13 : decode cX1_crash 13 = .ok (.iload_n 1, 1) := by decide +kernel
theorem dX1_crash_14 : decode cX1_crash 14 = .ok (.putfield 20, 3) := by decide +kernel
theorem dX1_crash_17 : decode cX1_crash 17 = .ok (.aload_n 0, 1) := by decide +kernel
theorem dX1_crash_18 : decode cX1_crash 18 = .ok (.iload_n 1, 1) := by decide +kernel
theorem dX1_crash_19 : decode cX1_crash 19 = .ok (.ifCond .ne 7, 3) := by decide +kernel
theorem dX1_crash_22 : decode cX1_crash 22 = .ok (.iconst 1, 1) := by decide +kernel
theorem dX1_crash_23 : decode cX1_crash 23 = .ok (.goto 4, 3) := by decide +kernel
theorem dX1_crash_26 : decode cX1_crash 26 = .ok (.iconst 0, 1) := by decide +kernel
theorem dX1_crash_27 : decode cX1_crash 27 = .ok (.putfield 24, 3) := by decide +kernel
theorem dX1_crash_30 : decode cX1_crash 30 = .ok (.return_, 1) := by decide +kernel
theorem dX1_recover_0 : decode cX1_recover 0 = .ok (.aload_n 0, 1) := by decide +kernel
theorem dX1_recover_1 : decode cX1_recover 1 = .ok (.iconst (-1), 1) := by decide +kernel
theorem dX1_recover_2 : decode cX1_recover 2 = .ok (.putfield 20, 3) := by decide +kernel
theorem dX1_recover_5 : decode cX1_recover 5 = .ok (.aload_n 0, 1) := by decide +kernel
theorem dX1_recover_6 : decode cX1_recover 6 = .ok (.iconst 0, 1) := by decide +kernel
theorem dX1_recover_7 : decode cX1_recover 7 = .ok (.putfield 24, 3) := by decide +kernel
theorem dX1_recover_10 : decode cX1_recover 10 = .ok (.iconst 0, 1) := by decide +kernel
theorem dX1_recover_11 : decode cX1_recover 11 = .ok (.istore_n 1, 1) := by decide +kernel
theorem dX1_recover_12 : decode cX1_recover 12 = .ok (.aload_n 0, 1) := by decide +kernel
theorem dX1_recover_13 : decode cX1_recover 13 = .ok (.getfield 11, 3) := by decide +kernel
theorem dX1_recover_16 : decode cX1_recover 16 = .ok (.astore_n 2, 1) := by decide +kernel
theorem dX1_recover_17 : decode cX1_recover 17 = .ok (.aload_n 2, 1) := by decide +kernel
theorem dX1_recover_18 : decode cX1_recover 18 = .ok (.arraylength, 1) := by decide +kernel
theorem dX1_recover_19 : decode cX1_recover 19 = .ok (.istore_n 3, 1) := by decide +kernel
theorem dX1_recover_20 : decode cX1_recover 20 = .ok (.iconst 0, 1) := by decide +kernel
theorem dX1_recover_21 : decode cX1_recover 21 = .ok (.istore 4, 2) := by decide +kernel
theorem dX1_recover_23 : decode cX1_recover 23 = .ok (.iload 4, 2) := by decide +kernel
theorem dX1_recover_25 : decode cX1_recover 25 = .ok (.iload_n 3, 1) := by decide +kernel
theorem dX1_recover_26 : decode cX1_recover 26 = .ok (.if_icmp .ge 28, 3) := by decide +kernel
theorem dX1_recover_29 : decode cX1_recover 29 = .ok (.aload_n 2, 1) := by decide +kernel
theorem dX1_recover_30 : decode cX1_recover 30 = .ok (.iload 4, 2) := by decide +kernel
theorem dX1_recover_32 : decode cX1_recover 32 = .ok (.aaload, 1) := by decide +kernel
theorem dX1_recover_33 : decode cX1_recover 33 = .ok (.astore 5, 2) := by decide +kernel
theorem dX1_recover_35 : decode cX1_recover 35 = .ok (.aload 5, 2) := by decide +kernel
theorem dX1_recover_37 : decode cX1_recover 37 = .ok (.ifnull 11, 3) := by decide +kernel
theorem dX1_recover_40 : decode cX1_recover 40 = .ok (.iload_n 1, 1) := by decide +kernel
theorem dX1_recover_41 : decode cX1_recover 41 = .ok (.aload 5, 2) := by decide +kernel
theorem dX1_recover_43 : decode cX1_recover 43 = .ok (.getfield 123, 3) := by decide +kernel
theorem dX1_recover_46 : decode cX1_recover 46 = .ok (.iadd, 1) := by decide +kernel
theorem dX1_recover_47 : decode cX1_recover 47 = .ok (.istore_n 1, 1) := by decide +kernel
theorem dX1_recover_48 : decode cX1_recover 48 = .ok (.iinc 4 1, 3) := by decide +kernel
theorem dX1_recover_51 : decode cX1_recover 51 = .ok (.goto (-28), 3) := by decide +kernel
theorem dX1_recover_54 : decode cX1_recover 54 = .ok (.iload_n 1, 1) := by decide +kernel
theorem dX1_recover_55 : decode cX1_recover 55 = .ok (.ireturn, 1) := by decide +kernel
theorem dX1_isDown_0 : decode cX1_isDown 0 = .ok (.aload_n 0, 1) := by decide +kernel
theorem dX1_isDown_1 : decode cX1_isDown 1 = .ok (.getfield 24, 3) := by decide +kernel
theorem dX1_isDown_4 : decode cX1_isDown 4 = .ok (.ireturn, 1) := by decide +kernel
theorem dX1_writes_0 : decode cX1_writes 0 = .ok (.aload_n 0, 1) := by decide +kernel
theorem dX1_writes_1 : decode cX1_writes 1 = .ok (.getfield 28, 3) := by decide +kernel
theorem dX1_writes_4 : decode cX1_writes 4 = .ok (.ireturn, 1) := by decide +kernel
theorem dX1_free_0 : decode cX1_free 0 = .ok (.aload_n 0, 1) := by decide +kernel
theorem dX1_free_1 : decode cX1_free 1 = .ok (.invokevirtual 55, 3) := by decide +kernel
theorem dX1_free_4 : decode cX1_free 4 = .ok (.aload_n 0, 1) := by decide +kernel
theorem dX1_free_5 : decode cX1_free 5 = .ok (.invokevirtual 151, 3) := by decide +kernel
theorem dX1_free_8 : decode cX1_free 8 = .ok (.iconst 0, 1) := by decide +kernel
theorem dX1_free_9 : decode cX1_free 9 = .ok (.istore_n 1, 1) := by decide +kernel
theorem dX1_free_10 : decode cX1_free 10 = .ok (.aload_n 0, 1) := by decide +kernel
theorem dX1_free_11 : decode cX1_free 11 = .ok (.getfield 43, 3) := by decide +kernel
theorem dX1_free_14 : decode cX1_free 14 = .ok (.astore_n 2, 1) := by decide +kernel
theorem dX1_free_15 : decode cX1_free 15 = .ok (.aload_n 2, 1) := by decide +kernel
theorem dX1_free_16 : decode cX1_free 16 = .ok (.arraylength, 1) := by decide +kernel
theorem dX1_free_17 : decode cX1_free 17 = .ok (.istore_n 3, 1) := by decide +kernel
theorem dX1_free_18 : decode cX1_free 18 = .ok (.iconst 0, 1) := by decide +kernel
theorem dX1_free_19 : decode cX1_free 19 = .ok (.istore 4, 2) := by decide +kernel
theorem dX1_free_21 : decode cX1_free 21 = .ok (.iload 4, 2) := by decide +kernel
theorem dX1_free_23 : decode cX1_free 23 = .ok (.iload_n 3, 1) := by decide +kernel
theorem dX1_free_24 : decode cX1_free 24 = .ok (.if_icmp .ge 23, 3) := by decide +kernel
theorem dX1_free_27 : decode cX1_free 27 = .ok (.aload_n 2, 1) := by decide +kernel
theorem dX1_free_28 : decode cX1_free 28 = .ok (.iload 4, 2) := by decide +kernel
theorem dX1_free_30 : decode cX1_free 30 = .ok (.iaload, 1) := by decide +kernel
theorem dX1_free_31 : decode cX1_free 31 = .ok (.istore 5, 2) := by decide +kernel
theorem dX1_free_33 : decode cX1_free 33 = .ok (.iload 5, 2) := by decide +kernel
theorem dX1_free_35 : decode cX1_free 35 = .ok (.ifCond .ne 6, 3) := by decide +kernel
theorem dX1_free_38 : decode cX1_free 38 = .ok (.iinc 1 1, 3) := by decide +kernel
theorem dX1_free_41 : decode cX1_free 41 = .ok (.iinc 4 1, 3) := by decide +kernel
theorem dX1_free_44 : decode cX1_free 44 = .ok (.goto (-23), 3) := by decide +kernel
theorem dX1_free_47 : decode cX1_free 47 = .ok (.iload_n 1, 1) := by decide +kernel
theorem dX1_free_48 : decode cX1_free 48 = .ok (.ireturn, 1) := by decide +kernel
theorem dX1_existingLog_0 : decode cX1_existingLog 0 = .ok (.iload_n 1, 1) := by decide +kernel
theorem dX1_existingLog_1 : decode cX1_existingLog 1 = .ok (.ifCond .lt 21, 3) := by decide +kernel
theorem dX1_existingLog_4 : decode cX1_existingLog 4 = .ok (.iload_n 1, 1) := by decide +kernel
theorem dX1_existingLog_5 : decode cX1_existingLog 5 = .ok (.aload_n 0, 1) := by decide +kernel
theorem dX1_existingLog_6 : decode cX1_existingLog 6 = .ok (.getfield 11, 3) := by decide +kernel
theorem dX1_existingLog_9 : decode cX1_existingLog 9 = .ok (.arraylength, 1) := by decide +kernel
theorem dX1_existingLog_10 : decode cX1_existingLog 10 = .ok (.if_icmp .ge 12, 3) := by decide +kernel
theorem dX1_existingLog_13 : decode cX1_existingLog 13 = .ok (.aload_n 0, 1) := by decide +kernel
theorem dX1_existingLog_14 : decode cX1_existingLog 14 = .ok (.getfield 11, 3) := by decide +kernel
theorem dX1_existingLog_17 : decode cX1_existingLog 17 = .ok (.iload_n 1, 1) := by decide +kernel
theorem dX1_existingLog_18 : decode cX1_existingLog 18 = .ok (.aaload, 1) := by decide +kernel
theorem dX1_existingLog_19 : decode cX1_existingLog 19 = .ok (.goto 4, 3) := by decide +kernel
theorem dX1_existingLog_22 : decode cX1_existingLog 22 = .ok (.aconst_null, 1) := by decide +kernel
theorem dX1_existingLog_23 : decode cX1_existingLog 23 = .ok (.astore_n 2, 1) := by decide +kernel
theorem dX1_existingLog_24 : decode cX1_existingLog 24 = .ok (.aload_n 2, 1) := by decide +kernel
theorem dX1_existingLog_25 : decode cX1_existingLog 25 = .ok (.ifnonnull 13, 3) := by decide +kernel
theorem dX1_existingLog_28 : decode cX1_existingLog 28 = .ok (.new 154, 3) := by decide +kernel
theorem dX1_existingLog_31 : decode cX1_existingLog 31 = .ok (.dup, 1) := by decide +kernel
theorem dX1_existingLog_32 : decode cX1_existingLog 32 = .ok (.ldc 156, 2) := by decide +kernel
theorem dX1_existingLog_34 : decode cX1_existingLog 34 = .ok (.invokespecial 158, 3) := by decide +kernel
theorem dX1_existingLog_37 : decode cX1_existingLog 37 = .ok (.athrow, 1) := by decide +kernel
theorem dX1_existingLog_38 : decode cX1_existingLog 38 = .ok (.aload_n 2, 1) := by decide +kernel
theorem dX1_existingLog_39 : decode cX1_existingLog 39 = .ok (.areturn, 1) := by decide +kernel
theorem dX1_requirePower_0 : decode cX1_requirePower 0 = .ok (.aload_n 0, 1) := by decide +kernel
theorem dX1_requirePower_1 : decode cX1_requirePower 1 = .ok (.getfield 24, 3) := by decide +kernel
theorem dX1_requirePower_4 : decode cX1_requirePower 4 = .ok (.ifCond .eq 13, 3) := by decide +kernel
theorem dX1_requirePower_7 : decode cX1_requirePower 7 = .ok (.new 161, 3) := by decide +kernel
theorem dX1_requirePower_10 : decode cX1_requirePower 10 = .ok (.dup, 1) := by decide +kernel
theorem dX1_requirePower_11 : decode cX1_requirePower 11 = .ok (.ldc 163, 2) := by decide +kernel
theorem dX1_requirePower_13 : decode cX1_requirePower 13 = .ok (.invokespecial 165, 3) := by decide +kernel
theorem dX1_requirePower_16 : decode cX1_requirePower 16 = .ok (.athrow, 1) := by decide +kernel
theorem dX1_requirePower_17 : decode cX1_requirePower 17 = .ok (.return_, 1) := by decide +kernel
theorem dX1_requireWithin_0 : decode cX1_requireWithin 0 = .ok (.iload_n 0, 1) := by decide +kernel
theorem dX1_requireWithin_1 : decode cX1_requireWithin 1 = .ok (.iload_n 1, 1) := by decide +kernel
theorem dX1_requireWithin_2 : decode cX1_requireWithin 2 = .ok (.if_icmp .lt 8, 3) := by decide +kernel
theorem dX1_requireWithin_5 : decode cX1_requireWithin 5 = .ok (.iload_n 0, 1) := by decide +kernel
theorem dX1_requireWithin_6 : decode cX1_requireWithin 6 = .ok (.iload_n 2, 1) := by decide +kernel
theorem dX1_requireWithin_7 : decode cX1_requireWithin 7 = .ok (.if_icmp .le 13, 3) := by decide +kernel
theorem dX1_requireWithin_10 : decode cX1_requireWithin 10 = .ok (.new 154, 3) := by decide +kernel
theorem dX1_requireWithin_13 : decode cX1_requireWithin 13 = .ok (.dup, 1) := by decide +kernel
theorem dX1_requireWithin_14 : decode cX1_requireWithin 14 = .ok (.ldc 166, 2) := by decide +kernel
theorem dX1_requireWithin_16 : decode cX1_requireWithin 16 = .ok (.invokespecial 158, 3) := by decide +kernel
theorem dX1_requireWithin_19 : decode cX1_requireWithin 19 = .ok (.athrow, 1) := by decide +kernel
theorem dX1_requireWithin_20 : decode cX1_requireWithin 20 = .ok (.return_, 1) := by decide +kernel
theorem dX1_segmentBytes_0 : decode cX1_segmentBytes 0 = .ok (.aload_n 0, 1) := by decide +kernel
theorem dX1_segmentBytes_1 : decode cX1_segmentBytes 1 = .ok (.getfield 40, 3) := by decide +kernel
theorem dX1_segmentBytes_4 : decode cX1_segmentBytes 4 = .ok (.sipush 1024, 3) := by decide +kernel
theorem dX1_segmentBytes_7 : decode cX1_segmentBytes 7 = .ok (.imul, 1) := by decide +kernel
theorem dX1_segmentBytes_8 : decode cX1_segmentBytes 8 = .ok (.ireturn, 1) := by decide +kernel
theorem dX1_blocksTouched_0 : decode cX1_blocksTouched 0 = .ok (.iload_n 0, 1) := by decide +kernel
theorem dX1_blocksTouched_1 : decode cX1_blocksTouched 1 = .ok (.iload_n 1, 1) := by decide +kernel
theorem dX1_blocksTouched_2 : decode cX1_blocksTouched 2 = .ok (.iadd, 1) := by decide +kernel
theorem dX1_blocksTouched_3 : decode cX1_blocksTouched 3 = .ok (.iconst 1, 1) := by decide +kernel
theorem dX1_blocksTouched_4 : decode cX1_blocksTouched 4 = .ok (.isub, 1) := by decide +kernel
theorem dX1_blocksTouched_5 : decode cX1_blocksTouched 5 = .ok (.sipush 1024, 3) := by decide +kernel
theorem dX1_blocksTouched_8 : decode cX1_blocksTouched 8 = .ok (.idiv, 1) := by decide +kernel
theorem dX1_blocksTouched_9 : decode cX1_blocksTouched 9 = .ok (.iload_n 0, 1) := by decide +kernel
theorem dX1_blocksTouched_10 : decode cX1_blocksTouched 10 = .ok (.sipush 1024, 3) := by decide +kernel
theorem dX1_blocksTouched_13 : decode cX1_blocksTouched 13 = .ok (.idiv, 1) := by decide +kernel
theorem dX1_blocksTouched_14 : decode cX1_blocksTouched 14 = .ok (.isub, 1) := by decide +kernel
theorem dX1_blocksTouched_15 : decode cX1_blocksTouched 15 = .ok (.iconst 1, 1) := by decide +kernel
theorem dX1_blocksTouched_16 : decode cX1_blocksTouched 16 = .ok (.iadd, 1) := by decide +kernel
theorem dX1_blocksTouched_17 : decode cX1_blocksTouched 17 = .ok (.ireturn, 1) := by decide +kernel
theorem dX1_writeThroughHead_0 : decode cX1_writeThroughHead 0 = .ok (.aload_n 0, 1) := by decide +kernel
theorem dX1_writeThroughHead_1 : decode cX1_writeThroughHead 1 = .ok (.getfield 20, 3) := by decide +kernel
theorem dX1_writeThroughHead_4 : decode cX1_writeThroughHead 4 = .ok (.iconst (-1), 1) := by decide +kernel
theorem dX1_writeThroughHead_5 : decode cX1_writeThroughHead 5 = .ok (.if_icmp .ne 15, 3) := by decide +kernel
theorem dX1_writeThroughHead_8 : decode cX1_writeThroughHead 8 = .ok (.aload_n 0, 1) := by decide +kernel
theorem dX1_writeThroughHead_9 : decode cX1_writeThroughHead 9 = .ok (.dup, 1) := by decide +kernel
theorem dX1_writeThroughHead_10 : decode cX1_writeThroughHead 10 = .ok (.getfield 28, 3) := by decide +kernel
theorem dX1_writeThroughHead_13 : decode cX1_writeThroughHead 13 = .ok (.iload_n 1, 1) := by decide +kernel
theorem dX1_writeThroughHead_14 : decode cX1_writeThroughHead 14 = .ok (.iadd, 1) := by decide +kernel
theorem dX1_writeThroughHead_15 : decode cX1_writeThroughHead 15 = .ok (.putfield 28, 3) := by decide +kernel
theorem dX1_writeThroughHead_18 : decode cX1_writeThroughHead 18 = .ok (.iconst 1, 1) := by decide +kernel
theorem dX1_writeThroughHead_19 : decode cX1_writeThroughHead 19 = .ok (.ireturn, 1) := by decide +kernel
theorem dX1_writeThroughHead_20 : decode cX1_writeThroughHead 20 = .ok (.iload_n 1, 1) := by decide +kernel
theorem dX1_writeThroughHead_21 : decode cX1_writeThroughHead 21 = .ok (.aload_n 0, 1) := by decide +kernel
theorem dX1_writeThroughHead_22 : decode cX1_writeThroughHead 22 = .ok (.getfield 20, 3) := by decide +kernel
theorem dX1_writeThroughHead_25 : decode cX1_writeThroughHead 25 = .ok (.invokestatic 31, 3) := by decide +kernel
theorem dX1_writeThroughHead_28 : decode cX1_writeThroughHead 28 = .ok (.istore_n 2, 1) := by decide +kernel
theorem dX1_writeThroughHead_29 : decode cX1_writeThroughHead 29 = .ok (.aload_n 0, 1) := by decide +kernel
theorem dX1_writeThroughHead_30 : decode cX1_writeThroughHead 30 = .ok (.dup, 1) := by decide +kernel
theorem dX1_writeThroughHead_31 : decode cX1_writeThroughHead 31 = .ok (.getfield 28, 3) := by decide +kernel
theorem dX1_writeThroughHead_34 : decode cX1_writeThroughHead 34 = .ok (.iload_n 2, 1) := by decide +kernel
theorem dX1_writeThroughHead_35 : decode cX1_writeThroughHead 35 = .ok (.iadd, 1) := by decide +kernel
theorem dX1_writeThroughHead_36 : decode cX1_writeThroughHead 36 = .ok (.putfield 28, 3) := by decide +kernel
theorem dX1_writeThroughHead_39 : decode cX1_writeThroughHead 39 = .ok (.aload_n 0, 1) := by decide +kernel
theorem dX1_writeThroughHead_40 : decode cX1_writeThroughHead 40 = .ok (.dup, 1) := by decide +kernel
theorem dX1_writeThroughHead_41 : decode cX1_writeThroughHead 41 = .ok (.getfield 20, 3) := by decide +kernel
theorem dX1_writeThroughHead_44 : decode cX1_writeThroughHead 44 = .ok (.iload_n 2, 1) := by decide +kernel
theorem dX1_writeThroughHead_45 : decode cX1_writeThroughHead 45 = .ok (.isub, 1) := by decide +kernel
theorem dX1_writeThroughHead_46 : decode cX1_writeThroughHead 46 = .ok (.putfield 20, 3) := by decide +kernel
theorem dX1_writeThroughHead_49 : decode cX1_writeThroughHead 49 = .ok (.aload_n 0, 1) := by decide +kernel
theorem dX1_writeThroughHead_50 : decode cX1_writeThroughHead 50 = .ok (.aload_n 0, 1) := by decide +kernel
theorem dX1_writeThroughHead_51 : decode cX1_writeThroughHead 51 = .ok (.getfield 20, 3) := by decide +kernel
theorem dX1_writeThroughHead_54 : decode cX1_writeThroughHead 54 = .ok (.ifCond .ne 7, 3) := by decide +kernel
theorem dX1_writeThroughHead_57 : decode cX1_writeThroughHead 57 = .ok (.iconst 1, 1) := by decide +kernel
theorem dX1_writeThroughHead_58 : decode cX1_writeThroughHead 58 = .ok (.goto 4, 3) := by decide +kernel
theorem dX1_writeThroughHead_61 : decode cX1_writeThroughHead 61 = .ok (.iconst 0, 1) := by decide +kernel
theorem dX1_writeThroughHead_62 : decode cX1_writeThroughHead 62 = .ok (.putfield 24, 3) := by decide +kernel
theorem dX1_writeThroughHead_65 : decode cX1_writeThroughHead 65 = .ok (.iload_n 2, 1) := by decide +kernel
theorem dX1_writeThroughHead_66 : decode cX1_writeThroughHead 66 = .ok (.iload_n 1, 1) := by decide +kernel
theorem dX1_writeThroughHead_67 : decode cX1_writeThroughHead 67 = .ok (.if_icmp .ne 7, 3) := by decide +kernel
theorem dX1_writeThroughHead_70 : decode cX1_writeThroughHead 70 = .ok (.iconst 1, 1) := by decide +kernel
theorem dX1_writeThroughHead_71 : decode cX1_writeThroughHead 71 = .ok (.goto 4, 3) := by decide +kernel
theorem dX1_writeThroughHead_74 : decode cX1_writeThroughHead 74 = .ok (.iconst 0, 1) := by decide +kernel
theorem dX1_writeThroughHead_75 : decode cX1_writeThroughHead 75 = .ok (.ireturn, 1) := by decide +kernel
theorem dX1_putDraftInPlaceOf_0 : decode cX1_putDraftInPlaceOf 0 = .ok (.iload_n 1, 1) := by decide +kernel
theorem dX1_putDraftInPlaceOf_1 : decode cX1_putDraftInPlaceOf 1 = .ok (.ifCond .lt 43, 3) := by decide +kernel
theorem dX1_putDraftInPlaceOf_4 : decode cX1_putDraftInPlaceOf 4 = .ok (.iload_n 1, 1) := by decide +kernel
theorem dX1_putDraftInPlaceOf_5 : decode cX1_putDraftInPlaceOf 5 = .ok (.aload_n 0, 1) := by decide +kernel
theorem dX1_putDraftInPlaceOf_6 : decode cX1_putDraftInPlaceOf 6 = .ok (.getfield 11, 3) := by decide +kernel
theorem dX1_putDraftInPlaceOf_9 : decode cX1_putDraftInPlaceOf 9 = .ok (.arraylength, 1) := by decide +kernel
theorem dX1_putDraftInPlaceOf_10 : decode cX1_putDraftInPlaceOf 10 = .ok (.if_icmp .ge 34, 3) := by decide +kernel
theorem dX1_putDraftInPlaceOf_13 : decode cX1_putDraftInPlaceOf 13 = .ok (.aload_n 0, 1) := by decide +kernel
theorem dX1_putDraftInPlaceOf_14 : decode cX1_putDraftInPlaceOf 14 = .ok (.getfield 11, 3) := by decide +kernel
theorem dX1_putDraftInPlaceOf_17 : decode cX1_putDraftInPlaceOf 17 = .ok (.iload_n 1, 1) := by decide +kernel
theorem dX1_putDraftInPlaceOf_18 : decode cX1_putDraftInPlaceOf 18 = .ok (.aaload, 1) := by decide +kernel
theorem dX1_putDraftInPlaceOf_19 : decode cX1_putDraftInPlaceOf 19 = .ok (.ifnull 25, 3) := by decide +kernel
theorem dX1_putDraftInPlaceOf_22 : decode cX1_putDraftInPlaceOf 22 = .ok (.aload_n 0, 1) := by decide +kernel
theorem dX1_putDraftInPlaceOf_23 : decode cX1_putDraftInPlaceOf 23 = .ok (.getfield 11, 3) := by decide +kernel
theorem dX1_putDraftInPlaceOf_26 : decode cX1_putDraftInPlaceOf 26 = .ok (.iload_n 1, 1) := by decide +kernel
theorem dX1_putDraftInPlaceOf_27 : decode cX1_putDraftInPlaceOf 27 = .ok (.aaload, 1) := by decide +kernel
theorem dX1_putDraftInPlaceOf_28 : decode cX1_putDraftInPlaceOf 28 = .ok (.astore_n 2, 1) := by decide +kernel
theorem dX1_putDraftInPlaceOf_29 : decode cX1_putDraftInPlaceOf 29 = .ok (.aload_n 0, 1) := by decide +kernel
theorem dX1_putDraftInPlaceOf_30 : decode cX1_putDraftInPlaceOf 30 = .ok (.getfield 11, 3) := by decide +kernel
theorem dX1_putDraftInPlaceOf_33 : decode cX1_putDraftInPlaceOf 33 = .ok (.iload_n 1, 1) := by decide +kernel
theorem dX1_putDraftInPlaceOf_34 : decode cX1_putDraftInPlaceOf 34 = .ok (.aload_n 0, 1) := by decide +kernel
theorem dX1_putDraftInPlaceOf_35 : decode cX1_putDraftInPlaceOf 35 = .ok (.getfield 16, 3) := by decide +kernel
theorem dX1_putDraftInPlaceOf_38 : decode cX1_putDraftInPlaceOf 38 = .ok (.aastore, 1) := by decide +kernel
theorem dX1_putDraftInPlaceOf_39 : decode cX1_putDraftInPlaceOf 39 = .ok (.aload_n 0, 1) := by decide +kernel
theorem dX1_putDraftInPlaceOf_40 : decode cX1_putDraftInPlaceOf 40 = .ok (.aload_n 2, 1) := by decide +kernel
theorem dX1_putDraftInPlaceOf_41 : decode cX1_putDraftInPlaceOf 41 = .ok (.putfield 16, 3) := by decide +kernel
theorem dX1_putDraftInPlaceOf_44 : decode cX1_putDraftInPlaceOf 44 = .ok (.return_, 1) := by decide +kernel
theorem dX1_packThinned_0 : decode cX1_packThinned 0 = .ok (.aload_n 0, 1) := by decide +kernel
theorem dX1_packThinned_1 : decode cX1_packThinned 1 = .ok (.getfield 16, 3) := by decide +kernel
theorem dX1_packThinned_4 : decode cX1_packThinned 4 = .ok (.aload_n 1, 1) := by decide +kernel
theorem dX1_packThinned_5 : decode cX1_packThinned 5 = .ok (.invokevirtual 105, 3) := by decide +kernel
theorem dX1_packThinned_8 : decode cX1_packThinned 8 = .ok (.aload_n 0, 1) := by decide +kernel
theorem dX1_packThinned_9 : decode cX1_packThinned 9 = .ok (.invokevirtual 151, 3) := by decide +kernel
theorem dX1_packThinned_12 : decode cX1_packThinned 12 = .ok (.iconst 0, 1) := by decide +kernel
theorem dX1_packThinned_13 : decode cX1_packThinned 13 = .ok (.istore 4, 2) := by decide +kernel
theorem dX1_packThinned_15 : decode cX1_packThinned 15 = .ok (.iload 4, 2) := by decide +kernel
theorem dX1_packThinned_17 : decode cX1_packThinned 17 = .ok (.iload_n 2, 1) := by decide +kernel
theorem dX1_packThinned_18 : decode cX1_packThinned 18 = .ok (.if_icmp .ge 30, 3) := by decide +kernel
theorem dX1_packThinned_21 : decode cX1_packThinned 21 = .ok (.iload 4, 2) := by decide +kernel
theorem dX1_packThinned_23 : decode cX1_packThinned 23 = .ok (.iload_n 3, 1) := by decide +kernel
theorem dX1_packThinned_24 : decode cX1_packThinned 24 = .ok (.invokestatic 168, 3) := by decide +kernel
theorem dX1_packThinned_27 : decode cX1_packThinned 27 = .ok (.ifCond .ne 15, 3) := by decide +kernel
theorem dX1_packThinned_30 : decode cX1_packThinned 30 = .ok (.aload_n 0, 1) := by decide +kernel
theorem dX1_packThinned_31 : decode cX1_packThinned 31 = .ok (.aload_n 1, 1) := by decide +kernel
theorem dX1_packThinned_32 : decode cX1_packThinned 32 = .ok (.iload 4, 2) := by decide +kernel
theorem dX1_packThinned_34 : decode cX1_packThinned 34 = .ok (.invokevirtual 171, 3) := by decide +kernel
theorem dX1_packThinned_37 : decode cX1_packThinned 37 = .ok (.ifCond .ne 5, 3) := by decide +kernel
theorem dX1_packThinned_40 : decode cX1_packThinned 40 = .ok (.iconst 0, 1) := by decide +kernel
theorem dX1_packThinned_41 : decode cX1_packThinned 41 = .ok (.ireturn, 1) := by decide +kernel
theorem dX1_packThinned_42 : decode cX1_packThinned 42 = .ok (.iinc 4 1, 3) := by decide +kernel
theorem dX1_packThinned_45 : decode cX1_packThinned 45 = .ok (.goto (-30), 3) := by decide +kernel
theorem dX1_packThinned_48 : decode cX1_packThinned 48 = .ok (.iconst 1, 1) := by decide +kernel
theorem dX1_packThinned_49 : decode cX1_packThinned 49 = .ok (.ireturn, 1) := by decide +kernel
theorem dX1_goes_0 : decode cX1_goes 0 = .ok (.iload_n 1, 1) := by decide +kernel
theorem dX1_goes_1 : decode cX1_goes 1 = .ok (.ifCond .le 13, 3) := by decide +kernel
theorem dX1_goes_4 : decode cX1_goes 4 = .ok (.iload_n 0, 1) := by decide +kernel
theorem dX1_goes_5 : decode cX1_goes 5 = .ok (.iload_n 1, 1) := by decide +kernel
theorem dX1_goes_6 : decode cX1_goes 6 = .ok (.irem, 1) := by decide +kernel
theorem dX1_goes_7 : decode cX1_goes 7 = .ok (.ifCond .ne 7, 3) := by decide +kernel
theorem dX1_goes_10 : decode cX1_goes 10 = .ok (.iconst 1, 1) := by decide +kernel
theorem dX1_goes_11 : decode cX1_goes 11 = .ok (.goto 4, 3) := by decide +kernel
theorem dX1_goes_14 : decode cX1_goes 14 = .ok (.iconst 0, 1) := by decide +kernel
theorem dX1_goes_15 : decode cX1_goes 15 = .ok (.ireturn, 1) := by decide +kernel
theorem dX1_packEntry_0 : decode cX1_packEntry 0 = .ok (.aload_n 1, 1) := by decide +kernel
theorem dX1_packEntry_1 : decode cX1_packEntry 1 = .ok (.getfield 135, 3) := by decide +kernel
theorem dX1_packEntry_4 : decode cX1_packEntry 4 = .ok (.iload_n 2, 1) := by decide +kernel
theorem dX1_packEntry_5 : decode cX1_packEntry 5 = .ok (.invokestatic 138, 3) := by decide +kernel
theorem dX1_packEntry_8 : decode cX1_packEntry 8 = .ok (.istore_n 3, 1) := by decide +kernel
theorem dX1_packEntry_9 : decode cX1_packEntry 9 = .ok (.aload_n 0, 1) := by decide +kernel
theorem dX1_packEntry_10 : decode cX1_packEntry 10 = .ok (.getfield 16, 3) := by decide +kernel
theorem dX1_packEntry_13 : decode cX1_packEntry 13 = .ok (.iload_n 3, 1) := by decide +kernel
theorem dX1_packEntry_14 : decode cX1_packEntry 14 = .ok (.iconst 4, 1) := by decide +kernel
theorem dX1_packEntry_15 : decode cX1_packEntry 15 = .ok (.iadd, 1) := by decide +kernel
theorem dX1_packEntry_16 : decode cX1_packEntry 16 = .ok (.aload_n 0, 1) := by decide +kernel
theorem dX1_packEntry_17 : decode cX1_packEntry 17 = .ok (.invokevirtual 58, 3) := by decide +kernel
theorem dX1_packEntry_20 : decode cX1_packEntry 20 = .ok (.invokevirtual 62, 3) := by decide +kernel
theorem dX1_packEntry_23 : decode cX1_packEntry 23 = .ok (.ifCond .ne 42, 3) := by decide +kernel
theorem dX1_packEntry_26 : decode cX1_packEntry 26 = .ok (.aload_n 0, 1) := by decide +kernel
theorem dX1_packEntry_27 : decode cX1_packEntry 27 = .ok (.invokevirtual 175, 3) := by decide +kernel
theorem dX1_packEntry_30 : decode cX1_packEntry 30 = .ok (.istore 4, 2) := by decide +kernel
theorem dX1_packEntry_32 : decode cX1_packEntry 32 = .ok (.iload 4, 2) := by decide +kernel
theorem dX1_packEntry_34 : decode cX1_packEntry 34 = .ok (.iconst (-1), 1) := by decide +kernel
theorem dX1_packEntry_35 : decode cX1_packEntry 35 = .ok (.if_icmp .eq 13, 3) := by decide +kernel
theorem dX1_packEntry_38 : decode cX1_packEntry 38 = .ok (.aload_n 0, 1) := by decide +kernel
theorem dX1_packEntry_39 : decode cX1_packEntry 39 = .ok (.getfield 16, 3) := by decide +kernel
theorem dX1_packEntry_42 : decode cX1_packEntry 42 = .ok (.invokevirtual 178, 3) := by decide +kernel
theorem dX1_packEntry_45 : decode cX1_packEntry 45 = .ok (.ifCond .ne 5, 3) := by decide +kernel
theorem dX1_packEntry_48 : decode cX1_packEntry 48 = .ok (.iconst 0, 1) := by decide +kernel
theorem dX1_packEntry_49 : decode cX1_packEntry 49 = .ok (.ireturn, 1) := by decide +kernel
theorem dX1_packEntry_50 : decode cX1_packEntry 50 = .ok (.aload_n 0, 1) := by decide +kernel
theorem dX1_packEntry_51 : decode cX1_packEntry 51 = .ok (.getfield 16, 3) := by decide +kernel
theorem dX1_packEntry_54 : decode cX1_packEntry 54 = .ok (.iload 4, 2) := by decide +kernel
theorem dX1_packEntry_56 : decode cX1_packEntry 56 = .ok (.invokevirtual 87, 3) := by decide +kernel
theorem dX1_packEntry_59 : decode cX1_packEntry 59 = .ok (.aload_n 0, 1) := by decide +kernel
theorem dX1_packEntry_60 : decode cX1_packEntry 60 = .ok (.iload 4, 2) := by decide +kernel
theorem dX1_packEntry_62 : decode cX1_packEntry 62 = .ok (.invokevirtual 181, 3) := by decide +kernel
theorem dX1_packEntry_65 : decode cX1_packEntry 65 = .ok (.aload_n 0, 1) := by decide +kernel
theorem dX1_packEntry_66 : decode cX1_packEntry 66 = .ok (.getfield 16, 3) := by decide +kernel
theorem dX1_packEntry_69 : decode cX1_packEntry 69 = .ok (.iload_n 3, 1) := by decide +kernel
theorem dX1_packEntry_70 : decode cX1_packEntry 70 = .ok (.aload_n 1, 1) := by decide +kernel
theorem dX1_packEntry_71 : decode cX1_packEntry 71 = .ok (.getfield 148, 3) := by decide +kernel
theorem dX1_packEntry_74 : decode cX1_packEntry 74 = .ok (.iload_n 2, 1) := by decide +kernel
theorem dX1_packEntry_75 : decode cX1_packEntry 75 = .ok (.invokestatic 138, 3) := by decide +kernel
theorem dX1_packEntry_78 : decode cX1_packEntry 78 = .ok (.invokevirtual 91, 3) := by decide +kernel
theorem dX1_packEntry_81 : decode cX1_packEntry 81 = .ok (.iconst 1, 1) := by decide +kernel
theorem dX1_packEntry_82 : decode cX1_packEntry 82 = .ok (.ireturn, 1) := by decide +kernel
theorem dX1_startOfNewSegment_0 : decode cX1_startOfNewSegment 0 = .ok (.aload_n 1, 1) := by decide +kernel
theorem dX1_startOfNewSegment_1 : decode cX1_startOfNewSegment 1 = .ok (.invokevirtual 178, 3) := by decide +kernel
theorem dX1_startOfNewSegment_4 : decode cX1_startOfNewSegment 4 = .ok (.ifCond .ne 5, 3) := by decide +kernel
theorem dX1_startOfNewSegment_7 : decode cX1_startOfNewSegment 7 = .ok (.iconst (-1), 1) := by decide +kernel
theorem dX1_startOfNewSegment_8 : decode cX1_startOfNewSegment 8 = .ok (.ireturn, 1) := by decide +kernel
theorem dX1_startOfNewSegment_9 : decode cX1_startOfNewSegment 9 = .ok (.aload_n 0, 1) := by decide +kernel
theorem dX1_startOfNewSegment_10 : decode cX1_startOfNewSegment 10 = .ok (.invokevirtual 151, 3) := by decide +kernel
theorem dX1_startOfNewSegment_13 : decode cX1_startOfNewSegment 13 = .ok (.aload_n 0, 1) := by decide +kernel
theorem dX1_startOfNewSegment_14 : decode cX1_startOfNewSegment 14 = .ok (.invokevirtual 175, 3) := by decide +kernel
theorem dX1_startOfNewSegment_17 : decode cX1_startOfNewSegment 17 = .ok (.ireturn, 1) := by decide +kernel
theorem dX1_firstFreeRun_0 : decode cX1_firstFreeRun 0 = .ok (.iconst 0, 1) := by decide +kernel
theorem dX1_firstFreeRun_1 : decode cX1_firstFreeRun 1 = .ok (.istore_n 1, 1) := by decide +kernel
theorem dX1_firstFreeRun_2 : decode cX1_firstFreeRun 2 = .ok (.iconst 0, 1) := by decide +kernel
theorem dX1_firstFreeRun_3 : decode cX1_firstFreeRun 3 = .ok (.istore_n 2, 1) := by decide +kernel
theorem dX1_firstFreeRun_4 : decode cX1_firstFreeRun 4 = .ok (.iload_n 2, 1) := by decide +kernel
theorem dX1_firstFreeRun_5 : decode cX1_firstFreeRun 5 = .ok (.aload_n 0, 1) := by decide +kernel
theorem dX1_firstFreeRun_6 : decode cX1_firstFreeRun 6 = .ok (.getfield 43, 3) := by decide +kernel
theorem dX1_firstFreeRun_9 : decode cX1_firstFreeRun 9 = .ok (.arraylength, 1) := by decide +kernel
theorem dX1_firstFreeRun_10 : decode cX1_firstFreeRun 10 = .ok (.if_icmp .ge 43, 3) := by decide +kernel
theorem dX1_firstFreeRun_13 : decode cX1_firstFreeRun 13 = .ok (.aload_n 0, 1) := by decide +kernel
theorem dX1_firstFreeRun_14 : decode cX1_firstFreeRun 14 = .ok (.getfield 43, 3) := by decide +kernel
theorem dX1_firstFreeRun_17 : decode cX1_firstFreeRun 17 = .ok (.iload_n 2, 1) := by decide +kernel
theorem dX1_firstFreeRun_18 : decode cX1_firstFreeRun 18 = .ok (.iaload, 1) := by decide +kernel
theorem dX1_firstFreeRun_19 : decode cX1_firstFreeRun 19 = .ok (.ifCond .ne 9, 3) := by decide +kernel
theorem dX1_firstFreeRun_22 : decode cX1_firstFreeRun 22 = .ok (.iload_n 1, 1) := by decide +kernel
theorem dX1_firstFreeRun_23 : decode cX1_firstFreeRun 23 = .ok (.iconst 1, 1) := by decide +kernel
theorem dX1_firstFreeRun_24 : decode cX1_firstFreeRun 24 = .ok (.iadd, 1) := by decide +kernel
theorem dX1_firstFreeRun_25 : decode cX1_firstFreeRun 25 = .ok (.goto 4, 3) := by decide +kernel
theorem dX1_firstFreeRun_28 : decode cX1_firstFreeRun 28 = .ok (.iconst 0, 1) := by decide +kernel
theorem dX1_firstFreeRun_29 : decode cX1_firstFreeRun 29 = .ok (.istore_n 1, 1) := by decide +kernel
theorem dX1_firstFreeRun_30 : decode cX1_firstFreeRun 30 = .ok (.iload_n 1, 1) := by decide +kernel
theorem dX1_firstFreeRun_31 : decode cX1_firstFreeRun 31 = .ok (.aload_n 0, 1) := by decide +kernel
theorem dX1_firstFreeRun_32 : decode cX1_firstFreeRun 32 = .ok (.getfield 40, 3) := by decide +kernel
theorem dX1_firstFreeRun_35 : decode cX1_firstFreeRun 35 = .ok (.if_icmp .ne 12, 3) := by decide +kernel
theorem dX1_firstFreeRun_38 : decode cX1_firstFreeRun 38 = .ok (.iload_n 2, 1) := by decide +kernel
theorem dX1_firstFreeRun_39 : decode cX1_firstFreeRun 39 = .ok (.aload_n 0, 1) := by decide +kernel
theorem dX1_firstFreeRun_40 : decode cX1_firstFreeRun 40 = .ok (.getfield 40, 3) := by decide +kernel
theorem dX1_firstFreeRun_43 : decode cX1_firstFreeRun 43 = .ok (.isub, 1) := by decide +kernel
theorem dX1_firstFreeRun_44 : decode cX1_firstFreeRun 44 = .ok (.iconst 1, 1) := by decide +kernel
theorem dX1_firstFreeRun_45 : decode cX1_firstFreeRun 45 = .ok (.iadd, 1) := by decide +kernel
theorem dX1_firstFreeRun_46 : decode cX1_firstFreeRun 46 = .ok (.ireturn, 1) := by decide +kernel
theorem dX1_firstFreeRun_47 : decode cX1_firstFreeRun 47 = .ok (.iinc 2 1, 3) := by decide +kernel
theorem dX1_firstFreeRun_50 : decode cX1_firstFreeRun 50 = .ok (.goto (-46), 3) := by decide +kernel
theorem dX1_firstFreeRun_53 : decode cX1_firstFreeRun 53 = .ok (.iconst (-1), 1) := by decide +kernel
theorem dX1_firstFreeRun_54 : decode cX1_firstFreeRun 54 = .ok (.ireturn, 1) := by decide +kernel
theorem dX1_markBlockUse_0 : decode cX1_markBlockUse 0 = .ok (.aload_n 0, 1) := by decide +kernel
theorem dX1_markBlockUse_1 : decode cX1_markBlockUse 1 = .ok (.getfield 43, 3) := by decide +kernel
theorem dX1_markBlockUse_4 : decode cX1_markBlockUse 4 = .ok (.iconst 0, 1) := by decide +kernel
theorem dX1_markBlockUse_5 : decode cX1_markBlockUse 5 = .ok (.invokestatic 184, 3) := by decide +kernel
theorem dX1_markBlockUse_8 : decode cX1_markBlockUse 8 = .ok (.iconst 0, 1) := by decide +kernel
theorem dX1_markBlockUse_9 : decode cX1_markBlockUse 9 = .ok (.istore_n 1, 1) := by decide +kernel
theorem dX1_markBlockUse_10 : decode cX1_markBlockUse 10 = .ok (.iload_n 1, 1) := by decide +kernel
theorem dX1_markBlockUse_11 : decode cX1_markBlockUse 11 = .ok (.iconst 4, 1) := by decide +kernel
theorem dX1_markBlockUse_12 : decode cX1_markBlockUse 12 = .ok (.if_icmp .ge 18, 3) := by decide +kernel
theorem dX1_markBlockUse_15 : decode cX1_markBlockUse 15 = .ok (.aload_n 0, 1) := by decide +kernel
theorem dX1_markBlockUse_16 : decode cX1_markBlockUse 16 = .ok (.getfield 43, 3) := by decide +kernel
theorem dX1_markBlockUse_19 : decode cX1_markBlockUse 19 = .ok (.iload_n 1, 1) := by decide +kernel
theorem dX1_markBlockUse_20 : decode cX1_markBlockUse 20 = .ok (.iconst 1, 1) := by decide +kernel
theorem dX1_markBlockUse_21 : decode cX1_markBlockUse 21 = .ok (.invokestatic 190, 3) := by decide +kernel
theorem dX1_markBlockUse_24 : decode cX1_markBlockUse 24 = .ok (.iinc 1 1, 3) := by decide +kernel
theorem dX1_markBlockUse_27 : decode cX1_markBlockUse 27 = .ok (.goto (-17), 3) := by decide +kernel
theorem dX1_markBlockUse_30 : decode cX1_markBlockUse 30 = .ok (.aload_n 0, 1) := by decide +kernel
theorem dX1_markBlockUse_31 : decode cX1_markBlockUse 31 = .ok (.getfield 11, 3) := by decide +kernel
theorem dX1_markBlockUse_34 : decode cX1_markBlockUse 34 = .ok (.astore_n 1, 1) := by decide +kernel
theorem dX1_markBlockUse_35 : decode cX1_markBlockUse 35 = .ok (.aload_n 1, 1) := by decide +kernel
theorem dX1_markBlockUse_36 : decode cX1_markBlockUse 36 = .ok (.arraylength, 1) := by decide +kernel
theorem dX1_markBlockUse_37 : decode cX1_markBlockUse 37 = .ok (.istore_n 2, 1) := by decide +kernel
theorem dX1_markBlockUse_38 : decode cX1_markBlockUse 38 = .ok (.iconst 0, 1) := by decide +kernel
theorem dX1_markBlockUse_39 : decode cX1_markBlockUse 39 = .ok (.istore_n 3, 1) := by decide +kernel
theorem dX1_markBlockUse_40 : decode cX1_markBlockUse 40 = .ok (.iload_n 3, 1) := by decide +kernel
theorem dX1_markBlockUse_41 : decode cX1_markBlockUse 41 = .ok (.iload_n 2, 1) := by decide +kernel
theorem dX1_markBlockUse_42 : decode cX1_markBlockUse 42 = .ok (.if_icmp .ge 25, 3) := by decide +kernel
theorem dX1_markBlockUse_45 : decode cX1_markBlockUse 45 = .ok (.aload_n 1, 1) := by decide +kernel
theorem dX1_markBlockUse_46 : decode cX1_markBlockUse 46 = .ok (.iload_n 3, 1) := by decide +kernel
theorem dX1_markBlockUse_47 : decode cX1_markBlockUse 47 = .ok (.aaload, 1) := by decide +kernel
theorem dX1_markBlockUse_48 : decode cX1_markBlockUse 48 = .ok (.astore 4, 2) := by decide +kernel
theorem dX1_markBlockUse_50 : decode cX1_markBlockUse 50 = .ok (.aload 4, 2) := by decide +kernel
theorem dX1_markBlockUse_52 : decode cX1_markBlockUse 52 = .ok (.ifnull 9, 3) := by decide +kernel
theorem dX1_markBlockUse_55 : decode cX1_markBlockUse 55 = .ok (.aload_n 0, 1) := by decide +kernel
theorem dX1_markBlockUse_56 : decode cX1_markBlockUse 56 = .ok (.aload 4, 2) := by decide +kernel
theorem dX1_markBlockUse_58 : decode cX1_markBlockUse 58 = .ok (.invokevirtual 194, 3) := by decide +kernel
theorem dX1_markBlockUse_61 : decode cX1_markBlockUse 61 = .ok (.iinc 3 1, 3) := by decide +kernel
theorem dX1_markBlockUse_64 : decode cX1_markBlockUse 64 = .ok (.goto (-24), 3) := by decide +kernel
theorem dX1_markBlockUse_67 : decode cX1_markBlockUse 67 = .ok (.return_, 1) := by decide +kernel
theorem dX1_markSegmentsOf_0 : decode cX1_markSegmentsOf 0 = .ok (.iconst 0, 1) := by decide +kernel
theorem dX1_markSegmentsOf_1 : decode cX1_markSegmentsOf 1 = .ok (.istore_n 2, 1) := by decide +kernel
theorem dX1_markSegmentsOf_2 : decode cX1_markSegmentsOf 2 = .ok (.iload_n 2, 1) := by decide +kernel
theorem dX1_markSegmentsOf_3 : decode cX1_markSegmentsOf 3 = .ok (.aload_n 1, 1) := by decide +kernel
theorem dX1_markSegmentsOf_4 : decode cX1_markSegmentsOf 4 = .ok (.getfield 129, 3) := by decide +kernel
theorem dX1_markSegmentsOf_7 : decode cX1_markSegmentsOf 7 = .ok (.if_icmp .ge 21, 3) := by decide +kernel
theorem dX1_markSegmentsOf_10 : decode cX1_markSegmentsOf 10 = .ok (.aload_n 0, 1) := by decide +kernel
theorem dX1_markSegmentsOf_11 : decode cX1_markSegmentsOf 11 = .ok (.aload_n 1, 1) := by decide +kernel
theorem dX1_markSegmentsOf_12 : decode cX1_markSegmentsOf 12 = .ok (.getfield 197, 3) := by decide +kernel
theorem dX1_markSegmentsOf_15 : decode cX1_markSegmentsOf 15 = .ok (.iload_n 2, 1) := by decide +kernel
theorem dX1_markSegmentsOf_16 : decode cX1_markSegmentsOf 16 = .ok (.invokestatic 138, 3) := by decide +kernel
theorem dX1_markSegmentsOf_19 : decode cX1_markSegmentsOf 19 = .ok (.invokevirtual 181, 3) := by decide +kernel
theorem dX1_markSegmentsOf_22 : decode cX1_markSegmentsOf 22 = .ok (.iinc 2 1, 3) := by decide +kernel
theorem dX1_markSegmentsOf_25 : decode cX1_markSegmentsOf 25 = .ok (.goto (-23), 3) := by decide +kernel
theorem dX1_markSegmentsOf_28 : decode cX1_markSegmentsOf 28 = .ok (.return_, 1) := by decide +kernel
theorem dX1_markSegment_0 : decode cX1_markSegment 0 = .ok (.iconst 0, 1) := by decide +kernel
theorem dX1_markSegment_1 : decode cX1_markSegment 1 = .ok (.istore_n 2, 1) := by decide +kernel
theorem dX1_markSegment_2 : decode cX1_markSegment 2 = .ok (.iload_n 2, 1) := by decide +kernel
theorem dX1_markSegment_3 : decode cX1_markSegment 3 = .ok (.aload_n 0, 1) := by decide +kernel
theorem dX1_markSegment_4 : decode cX1_markSegment 4 = .ok (.getfield 40, 3) := by decide +kernel
theorem dX1_markSegment_7 : decode cX1_markSegment 7 = .ok (.if_icmp .ge 20, 3) := by decide +kernel
theorem dX1_markSegment_10 : decode cX1_markSegment 10 = .ok (.aload_n 0, 1) := by decide +kernel
theorem dX1_markSegment_11 : decode cX1_markSegment 11 = .ok (.getfield 43, 3) := by decide +kernel
theorem dX1_markSegment_14 : decode cX1_markSegment 14 = .ok (.iload_n 1, 1) := by decide +kernel
theorem dX1_markSegment_15 : decode cX1_markSegment 15 = .ok (.iload_n 2, 1) := by decide +kernel
theorem dX1_markSegment_16 : decode cX1_markSegment 16 = .ok (.iadd, 1) := by decide +kernel
theorem dX1_markSegment_17 : decode cX1_markSegment 17 = .ok (.iconst 1, 1) := by decide +kernel
theorem dX1_markSegment_18 : decode cX1_markSegment 18 = .ok (.invokestatic 190, 3) := by decide +kernel
theorem dX1_markSegment_21 : decode cX1_markSegment 21 = .ok (.iinc 2 1, 3) := by decide +kernel
theorem dX1_markSegment_24 : decode cX1_markSegment 24 = .ok (.goto (-22), 3) := by decide +kernel
theorem dX1_markSegment_27 : decode cX1_markSegment 27 = .ok (.return_, 1) := by decide +kernel
theorem dX1_at_0 : decode cX1_at 0 = .ok (.iload_n 1, 1) := by decide +kernel
theorem dX1_at_1 : decode cX1_at 1 = .ok (.ifCond .lt 15, 3) := by decide +kernel
theorem dX1_at_4 : decode cX1_at 4 = .ok (.iload_n 1, 1) := by decide +kernel
theorem dX1_at_5 : decode cX1_at 5 = .ok (.aload_n 0, 1) := by decide +kernel
theorem dX1_at_6 : decode cX1_at 6 = .ok (.arraylength, 1) := by decide +kernel
theorem dX1_at_7 : decode cX1_at 7 = .ok (.if_icmp .ge 9, 3) := by decide +kernel
theorem dX1_at_10 : decode cX1_at 10 = .ok (.aload_n 0, 1) := by decide +kernel
theorem dX1_at_11 : decode cX1_at 11 = .ok (.iload_n 1, 1) := by decide +kernel
theorem dX1_at_12 : decode cX1_at 12 = .ok (.iaload, 1) := by decide +kernel
theorem dX1_at_13 : decode cX1_at 13 = .ok (.goto 4, 3) := by decide +kernel
theorem dX1_at_16 : decode cX1_at 16 = .ok (.iconst 0, 1) := by decide +kernel
theorem dX1_at_17 : decode cX1_at 17 = .ok (.ireturn, 1) := by decide +kernel
theorem dX1_set_0 : decode cX1_set 0 = .ok (.iload_n 1, 1) := by decide +kernel
theorem dX1_set_1 : decode cX1_set 1 = .ok (.ifCond .lt 13, 3) := by decide +kernel
theorem dX1_set_4 : decode cX1_set 4 = .ok (.iload_n 1, 1) := by decide +kernel
theorem dX1_set_5 : decode cX1_set 5 = .ok (.aload_n 0, 1) := by decide +kernel
theorem dX1_set_6 : decode cX1_set 6 = .ok (.arraylength, 1) := by decide +kernel
theorem dX1_set_7 : decode cX1_set 7 = .ok (.if_icmp .ge 7, 3) := by decide +kernel
theorem dX1_set_10 : decode cX1_set 10 = .ok (.aload_n 0, 1) := by decide +kernel
theorem dX1_set_11 : decode cX1_set 11 = .ok (.iload_n 1, 1) := by decide +kernel
theorem dX1_set_12 : decode cX1_set 12 = .ok (.iload_n 2, 1) := by decide +kernel
theorem dX1_set_13 : decode cX1_set 13 = .ok (.iastore, 1) := by decide +kernel
theorem dX1_set_14 : decode cX1_set 14 = .ok (.return_, 1) := by decide +kernel
