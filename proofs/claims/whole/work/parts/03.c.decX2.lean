theorem dX2_init_0 : decode cX2_init 0 = .ok (.aload_n 0, 1) := by decide +kernel
theorem dX2_init_1 : decode cX2_init 1 = .ok (.invokespecial 1, 3) := by decide +kernel
theorem dX2_init_4 : decode cX2_init 4 = .ok (.aload_n 0, 1) := by decide +kernel
theorem dX2_init_5 : decode cX2_init 5 = .ok (.iconst (-1), 1) := by decide +kernel
theorem dX2_init_6 : decode cX2_init 6 = .ok (.putfield 7, 3) := by decide +kernel
theorem dX2_init_9 : decode cX2_init 9 = .ok (.aload_n 0, 1) := by decide +kernel
theorem dX2_init_10 : decode cX2_init 10 = .ok (.iconst 4, 1) := by decide +kernel
theorem dX2_init_11 : decode cX2_init 11 = .ok (.newarray .int, 2) := by decide +kernel
theorem dX2_init_13 : decode cX2_init 13 = .ok (.putfield 13, 3) := by decide +kernel
theorem dX2_init_16 : decode cX2_init 16 = .ok (.aload_n 0, 1) := by decide +kernel
theorem dX2_init_17 : decode cX2_init 17 = .ok (.sipush 240, 3) := by decide +kernel
theorem dX2_init_20 : decode cX2_init 20 = .ok (.newarray .int, 2) := by decide +kernel
theorem dX2_init_22 : decode cX2_init 22 = .ok (.putfield 17, 3) := by decide +kernel
theorem dX2_init_25 : decode cX2_init 25 = .ok (.aload_n 0, 1) := by decide +kernel
theorem dX2_init_26 : decode cX2_init 26 = .ok (.sipush 240, 3) := by decide +kernel
theorem dX2_init_29 : decode cX2_init 29 = .ok (.newarray .int, 2) := by decide +kernel
theorem dX2_init_31 : decode cX2_init 31 = .ok (.putfield 20, 3) := by decide +kernel
theorem dX2_init_34 : decode cX2_init 34 = .ok (.aload_n 0, 1) := by decide +kernel
theorem dX2_init_35 : decode cX2_init 35 = .ok (.iconst 4, 1) := by decide +kernel
theorem dX2_init_36 : decode cX2_init 36 = .ok (.newarray .int, 2) := by decide +kernel
theorem dX2_init_38 : decode cX2_init 38 = .ok (.putfield 23, 3) := by decide +kernel
theorem dX2_init_41 : decode cX2_init 41 = .ok (.aload_n 0, 1) := by decide +kernel
theorem dX2_init_42 : decode cX2_init 42 = .ok (.sipush 256, 3) := by decide +kernel
theorem dX2_init_45 : decode cX2_init 45 = .ok (.newarray .boolean, 2) := by decide +kernel
theorem dX2_init_47 : decode cX2_init 47 = .ok (.putfield 26, 3) := by decide +kernel
theorem dX2_init_50 : decode cX2_init 50 = .ok (.aload_n 0, 1) := by decide +kernel
theorem dX2_init_51 : decode cX2_init 51 = .ok (.bipush 64, 2) := by decide +kernel
theorem dX2_init_53 : decode cX2_init 53 = .ok (.newarray .int, 2) := by decide +kernel
theorem dX2_init_55 : decode cX2_init 55 = .ok (.putfield 30, 3) := by decide +kernel
theorem dX2_init_58 : decode cX2_init 58 = .ok (.aload_n 0, 1) := by decide +kernel
theorem dX2_init_59 : decode cX2_init 59 = .ok (.bipush 64, 2) := by decide +kernel
theorem dX2_init_61 : decode cX2_init 61 = .ok (.newarray .int, 2) := by decide +kernel
theorem dX2_init_63 : decode cX2_init 63 = .ok (.putfield 33, 3) := by decide +kernel
theorem dX2_init_66 : decode cX2_init 66 = .ok (.aload_n 0, 1) := by decide +kernel
theorem dX2_init_67 : decode cX2_init 67 = .ok (.bipush 64, 2) := by decide +kernel
theorem dX2_init_69 : decode cX2_init 69 = .ok (.newarray .int, 2) := by decide +kernel
theorem dX2_init_71 : decode cX2_init 71 = .ok (.putfield 36, 3) := by decide +kernel
theorem dX2_init_74 : decode cX2_init 74 = .ok (.aload_n 0, 1) := by decide +kernel
theorem dX2_init_75 : decode cX2_init 75 = .ok (.bipush 64, 2) := by decide +kernel
theorem dX2_init_77 : decode cX2_init 77 = .ok (.newarray .int, 2) := by decide +kernel
theorem dX2_init_79 : decode cX2_init 79 = .ok (.putfield 39, 3) := by decide +kernel
theorem dX2_init_82 : decode cX2_init 82 = .ok (.aload_n 0, 1) := by decide +kernel
theorem dX2_init_83 : decode cX2_init 83 = .ok (.bipush 64, 2) := by decide +kernel
theorem dX2_init_85 : decode cX2_init 85 = .ok (.newarray .int, 2) := by decide +kernel
theorem dX2_init_87 : decode cX2_init 87 = .ok (.putfield 42, 3) := by decide +kernel
theorem dX2_init_90 : decode cX2_init 90 = .ok (.aload_n 0, 1) := by decide +kernel
theorem dX2_init_91 : decode cX2_init 91 = .ok (.bipush 60, 2) := by decide +kernel
theorem dX2_init_93 : decode cX2_init 93 = .ok (.newarray .int, 2) := by decide +kernel
theorem dX2_init_95 : decode cX2_init 95 = .ok (.putfield 45, 3) := by decide +kernel
theorem dX2_init_98 : decode cX2_init 98 = .ok (.aload_n 0, 1) := by decide +kernel
theorem dX2_init_99 : decode cX2_init 99 = .ok (.bipush 60, 2) := by decide +kernel
theorem dX2_init_101 : decode cX2_init 101 = .ok (.newarray .int, 2) := by decide +kernel
theorem dX2_init_103 : decode cX2_init 103 = .ok (.putfield 48, 3) := by decide +kernel
theorem dX2_init_106 : decode cX2_init 106 = .ok (.aload_n 0, 1) := by decide +kernel
theorem dX2_init_107 : decode cX2_init 107 = .ok (.iload_n 1, 1) := by decide +kernel
theorem dX2_init_108 : decode cX2_init 108 = .ok (.iconst 1, 1) := by decide +kernel
theorem dX2_init_109 : decode cX2_init 109 = .ok (.if_icmp .ge 7, 3) := by decide +kernel
theorem dX2_init_112 : decode cX2_init 112 = .ok (.iconst 1, 1) := by decide +kernel
theorem dX2_init_113 : decode cX2_init 113 = .ok (.goto 15, 3) := by decide +kernel
theorem dX2_init_116 : decode cX2_init 116 = .ok (.iload_n 1, 1) := by decide +kernel
theorem dX2_init_117 : decode cX2_init 117 = .ok (.bipush 16, 2) := by decide +kernel
theorem dX2_init_119 : decode cX2_init 119 = .ok (.if_icmp .le 8, 3) := by decide +kernel
theorem dX2_init_122 : decode cX2_init 122 = .ok (.bipush 16, 2) := by decide +kernel
theorem dX2_init_124 : decode cX2_init 124 = .ok (.goto 4, 3) := by decide +kernel
theorem dX2_init_127 : decode cX2_init 127 = .ok (.iload_n 1, 1) := by decide +kernel
theorem dX2_init_128 : decode cX2_init 128 = .ok (.putfield 51, 3) := by decide +kernel
theorem dX2_init_131 : decode cX2_init 131 = .ok (.aload_n 0, 1) := by decide +kernel
theorem dX2_init_132 : decode cX2_init 132 = .ok (.iload_n 2, 1) := by decide +kernel
theorem dX2_init_133 : decode cX2_init 133 = .ok (.bipush 16, 2) := by decide +kernel
theorem dX2_init_135 : decode cX2_init 135 = .ok (.if_icmp .ge 8, 3) := by decide +kernel
theorem dX2_init_138 : decode cX2_init 138 = .ok (.bipush 16, 2) := by decide +kernel
theorem dX2_init_140 : decode cX2_init 140 = .ok (.goto 17, 3) := by decide +kernel
theorem dX2_init_143 : decode cX2_init 143 = .ok (.iload_n 2, 1) := by decide +kernel
theorem dX2_init_144 : decode cX2_init 144 = .ok (.sipush 256, 3) := by decide +kernel
theorem dX2_init_147 : decode cX2_init 147 = .ok (.if_icmp .le 9, 3) := by decide +kernel
theorem dX2_init_150 : decode cX2_init 150 = .ok (.sipush 256, 3) := by decide +kernel
theorem dX2_init_153 : decode cX2_init 153 = .ok (.goto 4, 3) := by decide +kernel
theorem dX2_init_156 : decode cX2_init 156 = .ok (.iload_n 2, 1) := by decide +kernel
theorem dX2_init_157 : decode cX2_init 157 = .ok (.putfield 54, 3) := by decide +kernel
theorem dX2_init_160 : decode cX2_init 160 = .ok (.return_, 1) := by decide +kernel
theorem dX2_thrown_0 : decode cX2_thrown 0 = .ok (.aload_n 0, 1) := by decide +kernel
theorem dX2_thrown_1 : decode cX2_thrown 1 = .ok (.getfield 57, 3) := by decide +kernel
theorem dX2_thrown_4 : decode cX2_thrown 4 = .ok (.ireturn, 1) := by decide +kernel
theorem dX2_isLog_0 : decode cX2_isLog 0 = .ok (.iload_n 0, 1) := by decide +kernel
theorem dX2_isLog_1 : decode cX2_isLog 1 = .ok (.ifCond .lt 12, 3) := by decide +kernel
theorem dX2_isLog_4 : decode cX2_isLog 4 = .ok (.iload_n 0, 1) := by decide +kernel
theorem dX2_isLog_5 : decode cX2_isLog 5 = .ok (.iconst 4, 1) := by decide +kernel
theorem dX2_isLog_6 : decode cX2_isLog 6 = .ok (.if_icmp .ge 7, 3) := by decide +kernel
theorem dX2_isLog_9 : decode cX2_isLog 9 = .ok (.iconst 1, 1) := by decide +kernel
theorem dX2_isLog_10 : decode cX2_isLog 10 = .ok (.goto 4, 3) := by decide +kernel
theorem dX2_isLog_13 : decode cX2_isLog 13 = .ok (.iconst 0, 1) := by decide +kernel
theorem dX2_isLog_14 : decode cX2_isLog 14 = .ok (.ireturn, 1) := by decide +kernel
theorem dX2_goes_0 : decode cX2_goes 0 = .ok (.aload_n 0, 1) := by decide +kernel
theorem dX2_goes_1 : decode cX2_goes 1 = .ok (.iload_n 1, 1) := by decide +kernel
theorem dX2_goes_2 : decode cX2_goes 2 = .ok (.ifCond .ne 7, 3) := by decide +kernel
theorem dX2_goes_5 : decode cX2_goes 5 = .ok (.iconst 1, 1) := by decide +kernel
theorem dX2_goes_6 : decode cX2_goes 6 = .ok (.goto 15, 3) := by decide +kernel
theorem dX2_goes_9 : decode cX2_goes 9 = .ok (.aload_n 0, 1) := by decide +kernel
theorem dX2_goes_10 : decode cX2_goes 10 = .ok (.getfield 60, 3) := by decide +kernel
theorem dX2_goes_13 : decode cX2_goes 13 = .ok (.ifCond .eq 7, 3) := by decide +kernel
theorem dX2_goes_16 : decode cX2_goes 16 = .ok (.iconst 2, 1) := by decide +kernel
theorem dX2_goes_17 : decode cX2_goes 17 = .ok (.goto 4, 3) := by decide +kernel
theorem dX2_goes_20 : decode cX2_goes 20 = .ok (.iconst 0, 1) := by decide +kernel
theorem dX2_goes_21 : decode cX2_goes 21 = .ok (.putfield 57, 3) := by decide +kernel
theorem dX2_goes_24 : decode cX2_goes 24 = .ok (.aload_n 0, 1) := by decide +kernel
theorem dX2_goes_25 : decode cX2_goes 25 = .ok (.getfield 57, 3) := by decide +kernel
theorem dX2_goes_28 : decode cX2_goes 28 = .ok (.ifCond .ne 7, 3) := by decide +kernel
theorem dX2_goes_31 : decode cX2_goes 31 = .ok (.iconst 1, 1) := by decide +kernel
theorem dX2_goes_32 : decode cX2_goes 32 = .ok (.goto 4, 3) := by decide +kernel
theorem dX2_goes_35 : decode cX2_goes 35 = .ok (.iconst 0, 1) := by decide +kernel
theorem dX2_goes_36 : decode cX2_goes 36 = .ok (.ireturn, 1) := by decide +kernel
theorem dX2_mark_0 : decode cX2_mark 0 = .ok (.iconst 0, 1) := by decide +kernel
theorem dX2_mark_1 : decode cX2_mark 1 = .ok (.istore_n 1, 1) := by decide +kernel
theorem dX2_mark_2 : decode cX2_mark 2 = .ok (.iload_n 1, 1) := by decide +kernel
theorem dX2_mark_3 : decode cX2_mark 3 = .ok (.aload_n 0, 1) := by decide +kernel
theorem dX2_mark_4 : decode cX2_mark 4 = .ok (.getfield 54, 3) := by decide +kernel
theorem dX2_mark_7 : decode cX2_mark 7 = .ok (.if_icmp .ge 25, 3) := by decide +kernel
theorem dX2_mark_10 : decode cX2_mark 10 = .ok (.aload_n 0, 1) := by decide +kernel
theorem dX2_mark_11 : decode cX2_mark 11 = .ok (.getfield 26, 3) := by decide +kernel
theorem dX2_mark_14 : decode cX2_mark 14 = .ok (.iload_n 1, 1) := by decide +kernel
theorem dX2_mark_15 : decode cX2_mark 15 = .ok (.iload_n 1, 1) := by decide +kernel
theorem dX2_mark_16 : decode cX2_mark 16 = .ok (.iconst 4, 1) := by decide +kernel
theorem dX2_mark_17 : decode cX2_mark 17 = .ok (.if_icmp .ge 7, 3) := by decide +kernel
theorem dX2_mark_20 : decode cX2_mark 20 = .ok (.iconst 1, 1) := by decide +kernel
theorem dX2_mark_21 : decode cX2_mark 21 = .ok (.goto 4, 3) := by decide +kernel
theorem dX2_mark_24 : decode cX2_mark 24 = .ok (.iconst 0, 1) := by decide +kernel
theorem dX2_mark_25 : decode cX2_mark 25 = .ok (.bastore, 1) := by decide +kernel
theorem dX2_mark_26 : decode cX2_mark 26 = .ok (.iinc 1 1, 3) := by decide +kernel
theorem dX2_mark_29 : decode cX2_mark 29 = .ok (.goto (-27), 3) := by decide +kernel
theorem dX2_mark_32 : decode cX2_mark 32 = .ok (.iconst 0, 1) := by decide +kernel
theorem dX2_mark_33 : decode cX2_mark 33 = .ok (.istore_n 1, 1) := by decide +kernel
theorem dX2_mark_34 : decode cX2_mark 34 = .ok (.iload_n 1, 1) := by decide +kernel
theorem dX2_mark_35 : decode cX2_mark 35 = .ok (.iconst 4, 1) := by decide +kernel
theorem dX2_mark_36 : decode cX2_mark 36 = .ok (.if_icmp .ge 42, 3) := by decide +kernel
theorem dX2_mark_39 : decode cX2_mark 39 = .ok (.iconst 0, 1) := by decide +kernel
theorem dX2_mark_40 : decode cX2_mark 40 = .ok (.istore_n 2, 1) := by decide +kernel
theorem dX2_mark_41 : decode cX2_mark 41 = .ok (.iload_n 2, 1) := by decide +kernel
theorem dX2_mark_42 : decode cX2_mark 42 = .ok (.aload_n 0, 1) := by decide +kernel
theorem dX2_mark_43 : decode cX2_mark 43 = .ok (.getfield 13, 3) := by decide +kernel
theorem dX2_mark_46 : decode cX2_mark 46 = .ok (.iload_n 1, 1) := by decide +kernel
theorem dX2_mark_47 : decode cX2_mark 47 = .ok (.iaload, 1) := by decide +kernel
theorem dX2_mark_48 : decode cX2_mark 48 = .ok (.if_icmp .ge 24, 3) := by decide +kernel
theorem dX2_mark_51 : decode cX2_mark 51 = .ok (.aload_n 0, 1) := by decide +kernel
theorem dX2_mark_52 : decode cX2_mark 52 = .ok (.aload_n 0, 1) := by decide +kernel
theorem dX2_mark_53 : decode cX2_mark 53 = .ok (.getfield 17, 3) := by decide +kernel
theorem dX2_mark_56 : decode cX2_mark 56 = .ok (.bipush 60, 2) := by decide +kernel
theorem dX2_mark_58 : decode cX2_mark 58 = .ok (.iload_n 1, 1) := by decide +kernel
theorem dX2_mark_59 : decode cX2_mark 59 = .ok (.imul, 1) := by decide +kernel
theorem dX2_mark_60 : decode cX2_mark 60 = .ok (.iload_n 2, 1) := by decide +kernel
theorem dX2_mark_61 : decode cX2_mark 61 = .ok (.iadd, 1) := by decide +kernel
theorem dX2_mark_62 : decode cX2_mark 62 = .ok (.iaload, 1) := by decide +kernel
theorem dX2_mark_63 : decode cX2_mark 63 = .ok (.invokevirtual 64, 3) := by decide +kernel
theorem dX2_mark_66 : decode cX2_mark 66 = .ok (.iinc 2 1, 3) := by decide +kernel
theorem dX2_mark_69 : decode cX2_mark 69 = .ok (.goto (-28), 3) := by decide +kernel
theorem dX2_mark_72 : decode cX2_mark 72 = .ok (.iinc 1 1, 3) := by decide +kernel
theorem dX2_mark_75 : decode cX2_mark 75 = .ok (.goto (-41), 3) := by decide +kernel
theorem dX2_mark_78 : decode cX2_mark 78 = .ok (.return_, 1) := by decide +kernel
theorem dX2_hold_0 : decode cX2_hold 0 = .ok (.iconst 0, 1) := by decide +kernel
theorem dX2_hold_1 : decode cX2_hold 1 = .ok (.istore_n 2, 1) := by decide +kernel
theorem dX2_hold_2 : decode cX2_hold 2 = .ok (.iload_n 2, 1) := by decide +kernel
theorem dX2_hold_3 : decode cX2_hold 3 = .ok (.aload_n 0, 1) := by decide +kernel
theorem dX2_hold_4 : decode cX2_hold 4 = .ok (.getfield 51, 3) := by decide +kernel
theorem dX2_hold_7 : decode cX2_hold 7 = .ok (.if_icmp .ge 18, 3) := by decide +kernel
theorem dX2_hold_10 : decode cX2_hold 10 = .ok (.aload_n 0, 1) := by decide +kernel
theorem dX2_hold_11 : decode cX2_hold 11 = .ok (.getfield 26, 3) := by decide +kernel
theorem dX2_hold_14 : decode cX2_hold 14 = .ok (.iload_n 1, 1) := by decide +kernel
theorem dX2_hold_15 : decode cX2_hold 15 = .ok (.iload_n 2, 1) := by decide +kernel
theorem dX2_hold_16 : decode cX2_hold 16 = .ok (.iadd, 1) := by decide +kernel
theorem dX2_hold_17 : decode cX2_hold 17 = .ok (.iconst 1, 1) := by decide +kernel
theorem dX2_hold_18 : decode cX2_hold 18 = .ok (.bastore, 1) := by decide +kernel
theorem dX2_hold_19 : decode cX2_hold 19 = .ok (.iinc 2 1, 3) := by decide +kernel
theorem dX2_hold_22 : decode cX2_hold 22 = .ok (.goto (-20), 3) := by decide +kernel
theorem dX2_hold_25 : decode cX2_hold 25 = .ok (.return_, 1) := by decide +kernel
theorem dX2_place_0 : decode cX2_place 0 = .ok (.iconst 4, 1) := by decide +kernel
theorem dX2_place_1 : decode cX2_place 1 = .ok (.istore_n 1, 1) := by decide +kernel
theorem dX2_place_2 : decode cX2_place 2 = .ok (.iload_n 1, 1) := by decide +kernel
theorem dX2_place_3 : decode cX2_place 3 = .ok (.aload_n 0, 1) := by decide +kernel
theorem dX2_place_4 : decode cX2_place 4 = .ok (.getfield 51, 3) := by decide +kernel
theorem dX2_place_7 : decode cX2_place 7 = .ok (.iadd, 1) := by decide +kernel
theorem dX2_place_8 : decode cX2_place 8 = .ok (.aload_n 0, 1) := by decide +kernel
theorem dX2_place_9 : decode cX2_place 9 = .ok (.getfield 54, 3) := by decide +kernel
theorem dX2_place_12 : decode cX2_place 12 = .ok (.if_icmp .gt 54, 3) := by decide +kernel
theorem dX2_place_15 : decode cX2_place 15 = .ok (.iconst 1, 1) := by decide +kernel
theorem dX2_place_16 : decode cX2_place 16 = .ok (.istore_n 2, 1) := by decide +kernel
theorem dX2_place_17 : decode cX2_place 17 = .ok (.iload_n 1, 1) := by decide +kernel
theorem dX2_place_18 : decode cX2_place 18 = .ok (.istore_n 3, 1) := by decide +kernel
theorem dX2_place_19 : decode cX2_place 19 = .ok (.iload_n 3, 1) := by decide +kernel
theorem dX2_place_20 : decode cX2_place 20 = .ok (.iload_n 1, 1) := by decide +kernel
theorem dX2_place_21 : decode cX2_place 21 = .ok (.aload_n 0, 1) := by decide +kernel
theorem dX2_place_22 : decode cX2_place 22 = .ok (.getfield 51, 3) := by decide +kernel
theorem dX2_place_25 : decode cX2_place 25 = .ok (.iadd, 1) := by decide +kernel
theorem dX2_place_26 : decode cX2_place 26 = .ok (.if_icmp .ge 28, 3) := by decide +kernel
theorem dX2_place_29 : decode cX2_place 29 = .ok (.iload_n 2, 1) := by decide +kernel
theorem dX2_place_30 : decode cX2_place 30 = .ok (.ifCond .eq 16, 3) := by decide +kernel
theorem dX2_place_33 : decode cX2_place 33 = .ok (.aload_n 0, 1) := by decide +kernel
theorem dX2_place_34 : decode cX2_place 34 = .ok (.getfield 26, 3) := by decide +kernel
theorem dX2_place_37 : decode cX2_place 37 = .ok (.iload_n 3, 1) := by decide +kernel
theorem dX2_place_38 : decode cX2_place 38 = .ok (.baload, 1) := by decide +kernel
theorem dX2_place_39 : decode cX2_place 39 = .ok (.ifCond .ne 7, 3) := by decide +kernel
theorem dX2_place_42 : decode cX2_place 42 = .ok (.iconst 1, 1) := by decide +kernel
theorem dX2_place_43 : decode cX2_place 43 = .ok (.goto 4, 3) := by decide +kernel
theorem dX2_place_46 : decode cX2_place 46 = .ok (.iconst 0, 1) := by decide +kernel
theorem dX2_place_47 : decode cX2_place 47 = .ok (.istore_n 2, 1) := by decide +kernel
theorem dX2_place_48 : decode cX2_place 48 = .ok (.iinc 3 1, 3) := by decide +kernel
theorem dX2_place_51 : decode cX2_place 51 = .ok (.goto (-32), 3) := by decide +kernel
theorem dX2_place_54 : decode cX2_place 54 = .ok (.iload_n 2, 1) := by decide +kernel
theorem dX2_place_55 : decode cX2_place 55 = .ok (.ifCond .eq 5, 3) := by decide +kernel
theorem dX2_place_58 : decode cX2_place 58 = .ok (.iload_n 1, 1) := by decide +kernel
theorem dX2_place_59 : decode cX2_place 59 = .ok (.ireturn, 1) := by decide +kernel
theorem dX2_place_60 : decode cX2_place 60 = .ok (.iinc 1 1, 3) := by decide +kernel
theorem dX2_place_63 : decode cX2_place 63 = .ok (.goto (-61), 3) := by decide +kernel
theorem dX2_place_66 : decode cX2_place 66 = .ok (.iconst (-1), 1) := by decide +kernel
theorem dX2_place_67 : decode cX2_place 67 = .ok (.ireturn, 1) := by decide +kernel
theorem dX2_spend_0 : decode cX2_spend 0 = .ok (.aload_n 0, 1) := by decide +kernel
theorem dX2_spend_1 : decode cX2_spend 1 = .ok (.getfield 7, 3) := by decide +kernel
theorem dX2_spend_4 : decode cX2_spend 4 = .ok (.ifCond .lt 15, 3) := by decide +kernel
theorem dX2_spend_7 : decode cX2_spend 7 = .ok (.aload_n 0, 1) := by decide +kernel
theorem dX2_spend_8 : decode cX2_spend 8 = .ok (.getfield 7, 3) := by decide +kernel
theorem dX2_spend_11 : decode cX2_spend 11 = .ok (.iload_n 1, 1) := by decide +kernel
theorem dX2_spend_12 : decode cX2_spend 12 = .ok (.if_icmp .gt 7, 3) := by decide +kernel
theorem dX2_spend_15 : decode cX2_spend 15 = .ok (.iconst 1, 1) := by decide +kernel
theorem dX2_spend_16 : decode cX2_spend 16 = .ok (.goto 4, 3) := by decide +kernel
theorem dX2_spend_19 : decode cX2_spend 19 = .ok (.iconst 0, 1) := by decide +kernel
theorem dX2_spend_20 : decode cX2_spend 20 = .ok (.istore_n 2, 1) := by decide +kernel
theorem dX2_spend_21 : decode cX2_spend 21 = .ok (.iload_n 2, 1) := by decide +kernel
theorem dX2_spend_22 : decode cX2_spend 22 = .ok (.ifCond .eq 10, 3) := by decide +kernel
theorem dX2_spend_25 : decode cX2_spend 25 = .ok (.aload_n 0, 1) := by decide +kernel
theorem dX2_spend_26 : decode cX2_spend 26 = .ok (.getfield 7, 3) := by decide +kernel
theorem dX2_spend_29 : decode cX2_spend 29 = .ok (.goto 4, 3) := by decide +kernel
theorem dX2_spend_32 : decode cX2_spend 32 = .ok (.iload_n 1, 1) := by decide +kernel
theorem dX2_spend_33 : decode cX2_spend 33 = .ok (.istore_n 3, 1) := by decide +kernel
theorem dX2_spend_34 : decode cX2_spend 34 = .ok (.aload_n 0, 1) := by decide +kernel
theorem dX2_spend_35 : decode cX2_spend 35 = .ok (.dup, 1) := by decide +kernel
theorem dX2_spend_36 : decode cX2_spend 36 = .ok (.getfield 68, 3) := by decide +kernel
theorem dX2_spend_39 : decode cX2_spend 39 = .ok (.iload_n 3, 1) := by decide +kernel
theorem dX2_spend_40 : decode cX2_spend 40 = .ok (.iadd, 1) := by decide +kernel
theorem dX2_spend_41 : decode cX2_spend 41 = .ok (.putfield 68, 3) := by decide +kernel
theorem dX2_spend_44 : decode cX2_spend 44 = .ok (.aload_n 0, 1) := by decide +kernel
theorem dX2_spend_45 : decode cX2_spend 45 = .ok (.dup, 1) := by decide +kernel
theorem dX2_spend_46 : decode cX2_spend 46 = .ok (.getfield 7, 3) := by decide +kernel
theorem dX2_spend_49 : decode cX2_spend 49 = .ok (.aload_n 0, 1) := by decide +kernel
theorem dX2_spend_50 : decode cX2_spend 50 = .ok (.getfield 7, 3) := by decide +kernel
theorem dX2_spend_53 : decode cX2_spend 53 = .ok (.ifCond .ge 7, 3) := by decide +kernel
theorem dX2_spend_56 : decode cX2_spend 56 = .ok (.iconst 0, 1) := by decide +kernel
theorem dX2_spend_57 : decode cX2_spend 57 = .ok (.goto 4, 3) := by decide +kernel
theorem dX2_spend_60 : decode cX2_spend 60 = .ok (.iload_n 3, 1) := by decide +kernel
theorem dX2_spend_61 : decode cX2_spend 61 = .ok (.isub, 1) := by decide +kernel
theorem dX2_spend_62 : decode cX2_spend 62 = .ok (.putfield 7, 3) := by decide +kernel
theorem dX2_spend_65 : decode cX2_spend 65 = .ok (.aload_n 0, 1) := by decide +kernel
theorem dX2_spend_66 : decode cX2_spend 66 = .ok (.iload_n 2, 1) := by decide +kernel
theorem dX2_spend_67 : decode cX2_spend 67 = .ok (.putfield 60, 3) := by decide +kernel
theorem dX2_spend_70 : decode cX2_spend 70 = .ok (.iload_n 3, 1) := by decide +kernel
theorem dX2_spend_71 : decode cX2_spend 71 = .ok (.iload_n 1, 1) := by decide +kernel
theorem dX2_spend_72 : decode cX2_spend 72 = .ok (.if_icmp .ne 7, 3) := by decide +kernel
theorem dX2_spend_75 : decode cX2_spend 75 = .ok (.iconst 1, 1) := by decide +kernel
theorem dX2_spend_76 : decode cX2_spend 76 = .ok (.goto 4, 3) := by decide +kernel
theorem dX2_spend_79 : decode cX2_spend 79 = .ok (.iconst 0, 1) := by decide +kernel
theorem dX2_spend_80 : decode cX2_spend 80 = .ok (.ireturn, 1) := by decide +kernel
theorem dX2_touched_0 : decode cX2_touched 0 = .ok (.iload_n 1, 1) := by decide +kernel
theorem dX2_touched_1 : decode cX2_touched 1 = .ok (.ifCond .ne 7, 3) := by decide +kernel
theorem dX2_touched_4 : decode cX2_touched 4 = .ok (.iconst 0, 1) := by decide +kernel
theorem dX2_touched_5 : decode cX2_touched 5 = .ok (.goto 20, 3) := by decide +kernel
theorem dX2_touched_8 : decode cX2_touched 8 = .ok (.iload_n 0, 1) := by decide +kernel
theorem dX2_touched_9 : decode cX2_touched 9 = .ok (.iload_n 1, 1) := by decide +kernel
theorem dX2_touched_10 : decode cX2_touched 10 = .ok (.iadd, 1) := by decide +kernel
theorem dX2_touched_11 : decode cX2_touched 11 = .ok (.iconst 1, 1) := by decide +kernel
theorem dX2_touched_12 : decode cX2_touched 12 = .ok (.isub, 1) := by decide +kernel
theorem dX2_touched_13 : decode cX2_touched 13 = .ok (.sipush 1024, 3) := by decide +kernel
theorem dX2_touched_16 : decode cX2_touched 16 = .ok (.idiv, 1) := by decide +kernel
theorem dX2_touched_17 : decode cX2_touched 17 = .ok (.iload_n 0, 1) := by decide +kernel
theorem dX2_touched_18 : decode cX2_touched 18 = .ok (.sipush 1024, 3) := by decide +kernel
theorem dX2_touched_21 : decode cX2_touched 21 = .ok (.idiv, 1) := by decide +kernel
theorem dX2_touched_22 : decode cX2_touched 22 = .ok (.isub, 1) := by decide +kernel
theorem dX2_touched_23 : decode cX2_touched 23 = .ok (.iconst 1, 1) := by decide +kernel
theorem dX2_touched_24 : decode cX2_touched 24 = .ok (.iadd, 1) := by decide +kernel
theorem dX2_touched_25 : decode cX2_touched 25 = .ok (.ireturn, 1) := by decide +kernel
theorem dX2_longer_0 : decode cX2_longer 0 = .ok (.iconst 2, 1) := by decide +kernel
theorem dX2_longer_1 : decode cX2_longer 1 = .ok (.aload_n 0, 1) := by decide +kernel
theorem dX2_longer_2 : decode cX2_longer 2 = .ok (.arraylength, 1) := by decide +kernel
theorem dX2_longer_3 : decode cX2_longer 3 = .ok (.imul, 1) := by decide +kernel
theorem dX2_longer_4 : decode cX2_longer 4 = .ok (.newarray .int, 2) := by decide +kernel
theorem dX2_longer_6 : decode cX2_longer 6 = .ok (.astore_n 1, 1) := by decide +kernel
theorem dX2_longer_7 : decode cX2_longer 7 = .ok (.iconst 0, 1) := by decide +kernel
theorem dX2_longer_8 : decode cX2_longer 8 = .ok (.istore_n 2, 1) := by decide +kernel
theorem dX2_longer_9 : decode cX2_longer 9 = .ok (.iload_n 2, 1) := by decide +kernel
theorem dX2_longer_10 : decode cX2_longer 10 = .ok (.aload_n 0, 1) := by decide +kernel
theorem dX2_longer_11 : decode cX2_longer 11 = .ok (.arraylength, 1) := by decide +kernel
theorem dX2_longer_12 : decode cX2_longer 12 = .ok (.if_icmp .ge 15, 3) := by decide +kernel
theorem dX2_longer_15 : decode cX2_longer 15 = .ok (.aload_n 1, 1) := by decide +kernel
theorem dX2_longer_16 : decode cX2_longer 16 = .ok (.iload_n 2, 1) := by decide +kernel
theorem dX2_longer_17 : decode cX2_longer 17 = .ok (.aload_n 0, 1) := by decide +kernel
theorem dX2_longer_18 : decode cX2_longer 18 = .ok (.iload_n 2, 1) := by decide +kernel
theorem dX2_longer_19 : decode cX2_longer 19 = .ok (.iaload, 1) := by decide +kernel
theorem dX2_longer_20 : decode cX2_longer 20 = .ok (.iastore, 1) := by decide +kernel
theorem dX2_longer_21 : decode cX2_longer 21 = .ok (.iinc 2 1, 3) := by decide +kernel
theorem dX2_longer_24 : decode cX2_longer 24 = .ok (.goto (-15), 3) := by decide +kernel
theorem dX2_longer_27 : decode cX2_longer 27 = .ok (.aload_n 1, 1) := by decide +kernel
theorem dX2_longer_28 : decode cX2_longer 28 = .ok (.areturn, 1) := by decide +kernel
theorem dX2_add_0 : decode cX2_add 0 = .ok (.aload_n 0, 1) := by decide +kernel
theorem dX2_add_1 : decode cX2_add 1 = .ok (.getfield 71, 3) := by decide +kernel
theorem dX2_add_4 : decode cX2_add 4 = .ok (.aload_n 0, 1) := by decide +kernel
theorem dX2_add_5 : decode cX2_add 5 = .ok (.getfield 33, 3) := by decide +kernel
theorem dX2_add_8 : decode cX2_add 8 = .ok (.arraylength, 1) := by decide +kernel
theorem dX2_add_9 : decode cX2_add 9 = .ok (.if_icmp .ne 58, 3) := by decide +kernel
theorem dX2_add_12 : decode cX2_add 12 = .ok (.aload_n 0, 1) := by decide +kernel
theorem dX2_add_13 : decode cX2_add 13 = .ok (.aload_n 0, 1) := by decide +kernel
theorem dX2_add_14 : decode cX2_add 14 = .ok (.getfield 30, 3) := by decide +kernel
theorem dX2_add_17 : decode cX2_add 17 = .ok (.invokestatic 74, 3) := by decide +kernel
theorem dX2_add_20 : decode cX2_add 20 = .ok (.putfield 30, 3) := by decide +kernel
theorem dX2_add_23 : decode cX2_add 23 = .ok (.aload_n 0, 1) := by decide +kernel
theorem dX2_add_24 : decode cX2_add 24 = .ok (.aload_n 0, 1) := by decide +kernel
theorem dX2_add_25 : decode cX2_add 25 = .ok (.getfield 33, 3) := by decide +kernel
theorem dX2_add_28 : decode cX2_add 28 = .ok (.invokestatic 74, 3) := by decide +kernel
theorem dX2_add_31 : decode cX2_add 31 = .ok (.putfield 33, 3) := by decide +kernel
theorem dX2_add_34 : decode cX2_add 34 = .ok (.aload_n 0, 1) := by decide +kernel
theorem dX2_add_35 : decode cX2_add 35 = .ok (.aload_n 0, 1) := by decide +kernel
theorem dX2_add_36 : decode cX2_add 36 = .ok (.getfield 36, 3) := by decide +kernel
theorem dX2_add_39 : decode cX2_add 39 = .ok (.invokestatic 74, 3) := by decide +kernel
theorem dX2_add_42 : decode cX2_add 42 = .ok (.putfield 36, 3) := by decide +kernel
theorem dX2_add_45 : decode cX2_add 45 = .ok (.aload_n 0, 1) := by decide +kernel
theorem dX2_add_46 : decode cX2_add 46 = .ok (.aload_n 0, 1) := by decide +kernel
theorem dX2_add_47 : decode cX2_add 47 = .ok (.getfield 39, 3) := by decide +kernel
theorem dX2_add_50 : decode cX2_add 50 = .ok (.invokestatic 74, 3) := by decide +kernel
theorem dX2_add_53 : decode cX2_add 53 = .ok (.putfield 39, 3) := by decide +kernel
theorem dX2_add_56 : decode cX2_add 56 = .ok (.aload_n 0, 1) := by decide +kernel
theorem dX2_add_57 : decode cX2_add 57 = .ok (.aload_n 0, 1) := by decide +kernel
theorem dX2_add_58 : decode cX2_add 58 = .ok (.getfield 42, 3) := by decide +kernel
theorem dX2_add_61 : decode cX2_add 61 = .ok (.invokestatic 74, 3) := by decide +kernel
theorem dX2_add_64 : decode cX2_add 64 = .ok (.putfield 42, 3) := by decide +kernel
theorem dX2_add_67 : decode cX2_add 67 = .ok (.aload_n 0, 1) := by decide +kernel
theorem dX2_add_68 : decode cX2_add 68 = .ok (.getfield 30, 3) := by decide +kernel
theorem dX2_add_71 : decode cX2_add 71 = .ok (.aload_n 0, 1) := by decide +kernel
theorem dX2_add_72 : decode cX2_add 72 = .ok (.getfield 71, 3) := by decide +kernel
theorem dX2_add_75 : decode cX2_add 75 = .ok (.iload_n 1, 1) := by decide +kernel
theorem dX2_add_76 : decode cX2_add 76 = .ok (.iastore, 1) := by decide +kernel
theorem dX2_add_77 : decode cX2_add 77 = .ok (.aload_n 0, 1) := by decide +kernel
theorem dX2_add_78 : decode cX2_add 78 = .ok (.getfield 33, 3) := by decide +kernel
theorem dX2_add_81 : decode cX2_add 81 = .ok (.aload_n 0, 1) := by decide +kernel
theorem dX2_add_82 : decode cX2_add 82 = .ok (.getfield 71, 3) := by decide +kernel
theorem dX2_add_85 : decode cX2_add 85 = .ok (.iload_n 2, 1) := by decide +kernel
theorem dX2_add_86 : decode cX2_add 86 = .ok (.iastore, 1) := by decide +kernel
theorem dX2_add_87 : decode cX2_add 87 = .ok (.aload_n 0, 1) := by decide +kernel
theorem dX2_add_88 : decode cX2_add 88 = .ok (.getfield 36, 3) := by decide +kernel
theorem dX2_add_91 : decode cX2_add 91 = .ok (.aload_n 0, 1) := by decide +kernel
theorem dX2_add_92 : decode cX2_add 92 = .ok (.getfield 71, 3) := by decide +kernel
theorem dX2_add_95 : decode cX2_add 95 = .ok (.iload_n 3, 1) := by decide +kernel
theorem dX2_add_96 : decode cX2_add 96 = .ok (.iastore, 1) := by decide +kernel
theorem dX2_add_97 : decode cX2_add 97 = .ok (.aload_n 0, 1) := by decide +kernel
theorem dX2_add_98 : decode cX2_add 98 = .ok (.getfield 39, 3) := by decide +kernel
theorem dX2_add_101 : decode cX2_add 101 = .ok (.aload_n 0, 1) := by decide +kernel
theorem dX2_add_102 : decode cX2_add 102 = .ok (.getfield 71, 3) := by decide +kernel
theorem dX2_add_105 : decode cX2_add 105 = .ok (.iload 4, 2) := by decide +kernel
theorem dX2_add_107 : decode cX2_add 107 = .ok (.iastore, 1) := by decide +kernel
theorem dX2_add_108 : decode cX2_add 108 = .ok (.aload_n 0, 1) := by decide +kernel
theorem dX2_add_109 : decode cX2_add 109 = .ok (.getfield 42, 3) := by decide +kernel
theorem dX2_add_112 : decode cX2_add 112 = .ok (.aload_n 0, 1) := by decide +kernel
theorem dX2_add_113 : decode cX2_add 113 = .ok (.getfield 71, 3) := by decide +kernel
theorem dX2_add_116 : decode cX2_add 116 = .ok (.iload 5, 2) := by decide +kernel
theorem dX2_add_118 : decode cX2_add 118 = .ok (.iastore, 1) := by decide +kernel
theorem dX2_add_119 : decode cX2_add 119 = .ok (.aload_n 0, 1) := by decide +kernel
theorem dX2_add_120 : decode cX2_add 120 = .ok (.dup, 1) := by decide +kernel
theorem dX2_add_121 : decode cX2_add 121 = .ok (.getfield 71, 3) := by decide +kernel
theorem dX2_add_124 : decode cX2_add 124 = .ok (.iconst 1, 1) := by decide +kernel
theorem dX2_add_125 : decode cX2_add 125 = .ok (.iadd, 1) := by decide +kernel
theorem dX2_add_126 : decode cX2_add 126 = .ok (.putfield 71, 3) := by decide +kernel
theorem dX2_add_129 : decode cX2_add 129 = .ok (.return_, 1) := by decide +kernel
theorem dX2_copy_0 : decode cX2_copy 0 = .ok (.aload_n 0, 1) := by decide +kernel
theorem dX2_copy_1 : decode cX2_copy 1 = .ok (.getfield 30, 3) := by decide +kernel
theorem dX2_copy_4 : decode cX2_copy 4 = .ok (.iload_n 2, 1) := by decide +kernel
theorem dX2_copy_5 : decode cX2_copy 5 = .ok (.aload_n 0, 1) := by decide +kernel
theorem dX2_copy_6 : decode cX2_copy 6 = .ok (.getfield 30, 3) := by decide +kernel
theorem dX2_copy_9 : decode cX2_copy 9 = .ok (.iload_n 1, 1) := by decide +kernel
theorem dX2_copy_10 : decode cX2_copy 10 = .ok (.iaload, 1) := by decide +kernel
theorem dX2_copy_11 : decode cX2_copy 11 = .ok (.iastore, 1) := by decide +kernel
theorem dX2_copy_12 : decode cX2_copy 12 = .ok (.aload_n 0, 1) := by decide +kernel
theorem dX2_copy_13 : decode cX2_copy 13 = .ok (.getfield 33, 3) := by decide +kernel
theorem dX2_copy_16 : decode cX2_copy 16 = .ok (.iload_n 2, 1) := by decide +kernel
theorem dX2_copy_17 : decode cX2_copy 17 = .ok (.aload_n 0, 1) := by decide +kernel
theorem dX2_copy_18 : decode cX2_copy 18 = .ok (.getfield 33, 3) := by decide +kernel
theorem dX2_copy_21 : decode cX2_copy 21 = .ok (.iload_n 1, 1) := by decide +kernel
theorem dX2_copy_22 : decode cX2_copy 22 = .ok (.iaload, 1) := by decide +kernel
theorem dX2_copy_23 : decode cX2_copy 23 = .ok (.iastore, 1) := by decide +kernel
theorem dX2_copy_24 : decode cX2_copy 24 = .ok (.aload_n 0, 1) := by decide +kernel
theorem dX2_copy_25 : decode cX2_copy 25 = .ok (.getfield 36, 3) := by decide +kernel
theorem dX2_copy_28 : decode cX2_copy 28 = .ok (.iload_n 2, 1) := by decide +kernel
theorem dX2_copy_29 : decode cX2_copy 29 = .ok (.aload_n 0, 1) := by decide +kernel
theorem dX2_copy_30 : decode cX2_copy 30 = .ok (.getfield 36, 3) := by decide +kernel
theorem dX2_copy_33 : decode cX2_copy 33 = .ok (.iload_n 1, 1) := by decide +kernel
theorem dX2_copy_34 : decode cX2_copy 34 = .ok (.iaload, 1) := by decide +kernel
theorem dX2_copy_35 : decode cX2_copy 35 = .ok (.iastore, 1) := by decide +kernel
theorem dX2_copy_36 : decode cX2_copy 36 = .ok (.aload_n 0, 1) := by decide +kernel
theorem dX2_copy_37 : decode cX2_copy 37 = .ok (.getfield 39, 3) := by decide +kernel
theorem dX2_copy_40 : decode cX2_copy 40 = .ok (.iload_n 2, 1) := by decide +kernel
theorem dX2_copy_41 : decode cX2_copy 41 = .ok (.aload_n 0, 1) := by decide +kernel
theorem dX2_copy_42 : decode cX2_copy 42 = .ok (.getfield 39, 3) := by decide +kernel
theorem dX2_copy_45 : decode cX2_copy 45 = .ok (.iload_n 1, 1) := by decide +kernel
theorem dX2_copy_46 : decode cX2_copy 46 = .ok (.iaload, 1) := by decide +kernel
theorem dX2_copy_47 : decode cX2_copy 47 = .ok (.iastore, 1) := by decide +kernel
theorem dX2_copy_48 : decode cX2_copy 48 = .ok (.aload_n 0, 1) := by decide +kernel
theorem dX2_copy_49 : decode cX2_copy 49 = .ok (.getfield 42, 3) := by decide +kernel
theorem dX2_copy_52 : decode cX2_copy 52 = .ok (.iload_n 2, 1) := by decide +kernel
theorem dX2_copy_53 : decode cX2_copy 53 = .ok (.aload_n 0, 1) := by decide +kernel
theorem dX2_copy_54 : decode cX2_copy 54 = .ok (.getfield 42, 3) := by decide +kernel
theorem dX2_copy_57 : decode cX2_copy 57 = .ok (.iload_n 1, 1) := by decide +kernel
theorem dX2_copy_58 : decode cX2_copy 58 = .ok (.iaload, 1) := by decide +kernel
theorem dX2_copy_59 : decode cX2_copy 59 = .ok (.iastore, 1) := by decide +kernel
theorem dX2_copy_60 : decode cX2_copy 60 = .ok (.return_, 1) := by decide +kernel
theorem dX2_count_0 : decode cX2_count 0 = .ok (.iconst 0, 1) := by decide +kernel
theorem dX2_count_1 : decode cX2_count 1 = .ok (.istore_n 2, 1) := by decide +kernel
theorem dX2_count_2 : decode cX2_count 2 = .ok (.iconst 0, 1) := by decide +kernel
theorem dX2_count_3 : decode cX2_count 3 = .ok (.istore_n 3, 1) := by decide +kernel
theorem dX2_count_4 : decode cX2_count 4 = .ok (.iload_n 3, 1) := by decide +kernel
theorem dX2_count_5 : decode cX2_count 5 = .ok (.aload_n 0, 1) := by decide +kernel
theorem dX2_count_6 : decode cX2_count 6 = .ok (.getfield 71, 3) := by decide +kernel
theorem dX2_count_9 : decode cX2_count 9 = .ok (.if_icmp .ge 27, 3) := by decide +kernel
theorem dX2_count_12 : decode cX2_count 12 = .ok (.iload_n 2, 1) := by decide +kernel
theorem dX2_count_13 : decode cX2_count 13 = .ok (.aload_n 0, 1) := by decide +kernel
theorem dX2_count_14 : decode cX2_count 14 = .ok (.getfield 30, 3) := by decide +kernel
theorem dX2_count_17 : decode cX2_count 17 = .ok (.iload_n 3, 1) := by decide +kernel
theorem dX2_count_18 : decode cX2_count 18 = .ok (.iaload, 1) := by decide +kernel
theorem dX2_count_19 : decode cX2_count 19 = .ok (.iload_n 1, 1) := by decide +kernel
theorem dX2_count_20 : decode cX2_count 20 = .ok (.if_icmp .ne 7, 3) := by decide +kernel
theorem dX2_count_23 : decode cX2_count 23 = .ok (.iconst 1, 1) := by decide +kernel
theorem dX2_count_24 : decode cX2_count 24 = .ok (.goto 4, 3) := by decide +kernel
theorem dX2_count_27 : decode cX2_count 27 = .ok (.iconst 0, 1) := by decide +kernel
theorem dX2_count_28 : decode cX2_count 28 = .ok (.iadd, 1) := by decide +kernel
theorem dX2_count_29 : decode cX2_count 29 = .ok (.istore_n 2, 1) := by decide +kernel
theorem dX2_count_30 : decode cX2_count 30 = .ok (.iinc 3 1, 3) := by decide +kernel
theorem dX2_count_33 : decode cX2_count 33 = .ok (.goto (-29), 3) := by decide +kernel
theorem dX2_count_36 : decode cX2_count 36 = .ok (.iload_n 2, 1) := by decide +kernel
theorem dX2_count_37 : decode cX2_count 37 = .ok (.ireturn, 1) := by decide +kernel
theorem dX2_entryOf_0 : decode cX2_entryOf 0 = .ok (.iload_n 2, 1) := by decide +kernel
theorem dX2_entryOf_1 : decode cX2_entryOf 1 = .ok (.istore_n 3, 1) := by decide +kernel
theorem dX2_entryOf_2 : decode cX2_entryOf 2 = .ok (.iconst 0, 1) := by decide +kernel
theorem dX2_entryOf_3 : decode cX2_entryOf 3 = .ok (.istore 4, 2) := by decide +kernel
theorem dX2_entryOf_5 : decode cX2_entryOf 5 = .ok (.aload_n 0, 1) := by decide +kernel
theorem dX2_entryOf_6 : decode cX2_entryOf 6 = .ok (.getfield 30, 3) := by decide +kernel
theorem dX2_entryOf_9 : decode cX2_entryOf 9 = .ok (.iload 4, 2) := by decide +kernel
theorem dX2_entryOf_11 : decode cX2_entryOf 11 = .ok (.iaload, 1) := by decide +kernel
theorem dX2_entryOf_12 : decode cX2_entryOf 12 = .ok (.iload_n 1, 1) := by decide +kernel
theorem dX2_entryOf_13 : decode cX2_entryOf 13 = .ok (.if_icmp .ne 7, 3) := by decide +kernel
theorem dX2_entryOf_16 : decode cX2_entryOf 16 = .ok (.iload_n 3, 1) := by decide +kernel
theorem dX2_entryOf_17 : decode cX2_entryOf 17 = .ok (.ifCond .le 28, 3) := by decide +kernel
theorem dX2_entryOf_20 : decode cX2_entryOf 20 = .ok (.iload_n 3, 1) := by decide +kernel
theorem dX2_entryOf_21 : decode cX2_entryOf 21 = .ok (.aload_n 0, 1) := by decide +kernel
theorem dX2_entryOf_22 : decode cX2_entryOf 22 = .ok (.getfield 30, 3) := by decide +kernel
theorem dX2_entryOf_25 : decode cX2_entryOf 25 = .ok (.iload 4, 2) := by decide +kernel
theorem dX2_entryOf_27 : decode cX2_entryOf 27 = .ok (.iaload, 1) := by decide +kernel
theorem dX2_entryOf_28 : decode cX2_entryOf 28 = .ok (.iload_n 1, 1) := by decide +kernel
theorem dX2_entryOf_29 : decode cX2_entryOf 29 = .ok (.if_icmp .ne 7, 3) := by decide +kernel
theorem dX2_entryOf_32 : decode cX2_entryOf 32 = .ok (.iconst 1, 1) := by decide +kernel
theorem dX2_entryOf_33 : decode cX2_entryOf 33 = .ok (.goto 4, 3) := by decide +kernel
theorem dX2_entryOf_36 : decode cX2_entryOf 36 = .ok (.iconst 0, 1) := by decide +kernel
theorem dX2_entryOf_37 : decode cX2_entryOf 37 = .ok (.isub, 1) := by decide +kernel
theorem dX2_entryOf_38 : decode cX2_entryOf 38 = .ok (.istore_n 3, 1) := by decide +kernel
theorem dX2_entryOf_39 : decode cX2_entryOf 39 = .ok (.iinc 4 1, 3) := by decide +kernel
theorem dX2_entryOf_42 : decode cX2_entryOf 42 = .ok (.goto (-37), 3) := by decide +kernel
theorem dX2_entryOf_45 : decode cX2_entryOf 45 = .ok (.iload 4, 2) := by decide +kernel
theorem dX2_entryOf_47 : decode cX2_entryOf 47 = .ok (.ireturn, 1) := by decide +kernel
theorem dX2_append_0 : decode cX2_append 0 = .ok (.aload_n 0, 1) := by decide +kernel
theorem dX2_append_1 : decode cX2_append 1 = .ok (.iload_n 1, 1) := by decide +kernel
theorem dX2_append_2 : decode cX2_append 2 = .ok (.invokestatic 78, 3) := by decide +kernel
theorem dX2_append_5 : decode cX2_append 5 = .ok (.ifCond .eq 19, 3) := by decide +kernel
theorem dX2_append_8 : decode cX2_append 8 = .ok (.iload_n 2, 1) := by decide +kernel
theorem dX2_append_9 : decode cX2_append 9 = .ok (.iconst 1, 1) := by decide +kernel
theorem dX2_append_10 : decode cX2_append 10 = .ok (.if_icmp .lt 14, 3) := by decide +kernel
theorem dX2_append_13 : decode cX2_append 13 = .ok (.iload_n 2, 1) := by decide +kernel
theorem dX2_append_14 : decode cX2_append 14 = .ok (.sipush 20000, 3) := by decide +kernel
theorem dX2_append_17 : decode cX2_append 17 = .ok (.if_icmp .gt 7, 3) := by decide +kernel
theorem dX2_append_20 : decode cX2_append 20 = .ok (.iconst 1, 1) := by decide +kernel
theorem dX2_append_21 : decode cX2_append 21 = .ok (.goto 4, 3) := by decide +kernel
theorem dX2_append_24 : decode cX2_append 24 = .ok (.iconst 0, 1) := by decide +kernel
theorem dX2_append_25 : decode cX2_append 25 = .ok (.invokevirtual 82, 3) := by decide +kernel
theorem dX2_append_28 : decode cX2_append 28 = .ok (.ifCond .ne 5, 3) := by decide +kernel
theorem dX2_append_31 : decode cX2_append 31 = .ok (.iconst 0, 1) := by decide +kernel
theorem dX2_append_32 : decode cX2_append 32 = .ok (.ireturn, 1) := by decide +kernel
theorem dX2_append_33 : decode cX2_append 33 = .ok (.iload_n 2, 1) := by decide +kernel
theorem dX2_append_34 : decode cX2_append 34 = .ok (.iconst 4, 1) := by decide +kernel
theorem dX2_append_35 : decode cX2_append 35 = .ok (.iadd, 1) := by decide +kernel
theorem dX2_append_36 : decode cX2_append 36 = .ok (.istore 4, 2) := by decide +kernel
theorem dX2_append_38 : decode cX2_append 38 = .ok (.iload 4, 2) := by decide +kernel
theorem dX2_append_40 : decode cX2_append 40 = .ok (.sipush 1024, 3) := by decide +kernel
theorem dX2_append_43 : decode cX2_append 43 = .ok (.aload_n 0, 1) := by decide +kernel
theorem dX2_append_44 : decode cX2_append 44 = .ok (.getfield 51, 3) := by decide +kernel
theorem dX2_append_47 : decode cX2_append 47 = .ok (.imul, 1) := by decide +kernel
theorem dX2_append_48 : decode cX2_append 48 = .ok (.if_icmp .le 6, 3) := by decide +kernel
theorem dX2_append_51 : decode cX2_append 51 = .ok (.bipush (-5), 2) := by decide +kernel
theorem dX2_append_53 : decode cX2_append 53 = .ok (.ireturn, 1) := by decide +kernel
theorem dX2_append_54 : decode cX2_append 54 = .ok (.bipush 60, 2) := by decide +kernel
theorem dX2_append_56 : decode cX2_append 56 = .ok (.iload_n 1, 1) := by decide +kernel
theorem dX2_append_57 : decode cX2_append 57 = .ok (.imul, 1) := by decide +kernel
theorem dX2_append_58 : decode cX2_append 58 = .ok (.aload_n 0, 1) := by decide +kernel
theorem dX2_append_59 : decode cX2_append 59 = .ok (.getfield 13, 3) := by decide +kernel
theorem dX2_append_62 : decode cX2_append 62 = .ok (.iload_n 1, 1) := by decide +kernel
theorem dX2_append_63 : decode cX2_append 63 = .ok (.iaload, 1) := by decide +kernel
theorem dX2_append_64 : decode cX2_append 64 = .ok (.iadd, 1) := by decide +kernel
theorem dX2_append_65 : decode cX2_append 65 = .ok (.iconst 1, 1) := by decide +kernel
theorem dX2_append_66 : decode cX2_append 66 = .ok (.isub, 1) := by decide +kernel
theorem dX2_append_67 : decode cX2_append 67 = .ok (.istore 5, 2) := by decide +kernel
theorem dX2_append_69 : decode cX2_append 69 = .ok (.aload_n 0, 1) := by decide +kernel
theorem dX2_append_70 : decode cX2_append 70 = .ok (.getfield 13, 3) := by decide +kernel
theorem dX2_append_73 : decode cX2_append 73 = .ok (.iload_n 1, 1) := by decide +kernel
theorem dX2_append_74 : decode cX2_append 74 = .ok (.iaload, 1) := by decide +kernel
theorem dX2_append_75 : decode cX2_append 75 = .ok (.ifCond .le 28, 3) := by decide +kernel
theorem dX2_append_78 : decode cX2_append 78 = .ok (.aload_n 0, 1) := by decide +kernel
theorem dX2_append_79 : decode cX2_append 79 = .ok (.getfield 20, 3) := by decide +kernel
theorem dX2_append_82 : decode cX2_append 82 = .ok (.iload 5, 2) := by decide +kernel
theorem dX2_append_84 : decode cX2_append 84 = .ok (.iaload, 1) := by decide +kernel
theorem dX2_append_85 : decode cX2_append 85 = .ok (.iload 4, 2) := by decide +kernel
theorem dX2_append_87 : decode cX2_append 87 = .ok (.iadd, 1) := by decide +kernel
theorem dX2_append_88 : decode cX2_append 88 = .ok (.sipush 1024, 3) := by decide +kernel
theorem dX2_append_91 : decode cX2_append 91 = .ok (.aload_n 0, 1) := by decide +kernel
theorem dX2_append_92 : decode cX2_append 92 = .ok (.getfield 51, 3) := by decide +kernel
theorem dX2_append_95 : decode cX2_append 95 = .ok (.imul, 1) := by decide +kernel
theorem dX2_append_96 : decode cX2_append 96 = .ok (.if_icmp .gt 7, 3) := by decide +kernel
theorem dX2_append_99 : decode cX2_append 99 = .ok (.iconst 1, 1) := by decide +kernel
theorem dX2_append_100 : decode cX2_append 100 = .ok (.goto 4, 3) := by decide +kernel
theorem dX2_append_103 : decode cX2_append 103 = .ok (.iconst 0, 1) := by decide +kernel
theorem dX2_append_104 : decode cX2_append 104 = .ok (.istore 6, 2) := by decide +kernel
theorem dX2_append_106 : decode cX2_append 106 = .ok (.aload_n 0, 1) := by decide +kernel
theorem dX2_append_107 : decode cX2_append 107 = .ok (.invokevirtual 86, 3) := by decide +kernel
theorem dX2_append_110 : decode cX2_append 110 = .ok (.iload 6, 2) := by decide +kernel
theorem dX2_append_112 : decode cX2_append 112 = .ok (.ifCond .eq 13, 3) := by decide +kernel
theorem dX2_append_115 : decode cX2_append 115 = .ok (.aload_n 0, 1) := by decide +kernel
theorem dX2_append_116 : decode cX2_append 116 = .ok (.getfield 17, 3) := by decide +kernel
theorem dX2_append_119 : decode cX2_append 119 = .ok (.iload 5, 2) := by decide +kernel
theorem dX2_append_121 : decode cX2_append 121 = .ok (.iaload, 1) := by decide +kernel
theorem dX2_append_122 : decode cX2_append 122 = .ok (.goto 22, 3) := by decide +kernel
theorem dX2_append_125 : decode cX2_append 125 = .ok (.aload_n 0, 1) := by decide +kernel
theorem dX2_append_126 : decode cX2_append 126 = .ok (.getfield 13, 3) := by decide +kernel
theorem dX2_append_129 : decode cX2_append 129 = .ok (.iload_n 1, 1) := by decide +kernel
theorem dX2_append_130 : decode cX2_append 130 = .ok (.iaload, 1) := by decide +kernel
theorem dX2_append_131 : decode cX2_append 131 = .ok (.bipush 60, 2) := by decide +kernel
theorem dX2_append_133 : decode cX2_append 133 = .ok (.if_icmp .ne 7, 3) := by decide +kernel
theorem dX2_append_136 : decode cX2_append 136 = .ok (.iconst (-1), 1) := by decide +kernel
theorem dX2_append_137 : decode cX2_append 137 = .ok (.goto 7, 3) := by decide +kernel
theorem dX2_append_140 : decode cX2_append 140 = .ok (.aload_n 0, 1) := by decide +kernel
theorem dX2_append_141 : decode cX2_append 141 = .ok (.invokevirtual 89, 3) := by decide +kernel
theorem dX2_append_144 : decode cX2_append 144 = .ok (.istore 7, 2) := by decide +kernel
theorem dX2_append_146 : decode cX2_append 146 = .ok (.iload 7, 2) := by decide +kernel
theorem dX2_append_148 : decode cX2_append 148 = .ok (.ifCond .ge 6, 3) := by decide +kernel
theorem dX2_append_151 : decode cX2_append 151 = .ok (.bipush (-2), 2) := by decide +kernel
theorem dX2_append_153 : decode cX2_append 153 = .ok (.ireturn, 1) := by decide +kernel
theorem dX2_append_154 : decode cX2_append 154 = .ok (.iload 6, 2) := by decide +kernel
theorem dX2_append_156 : decode cX2_append 156 = .ok (.ifCond .eq 13, 3) := by decide +kernel
theorem dX2_append_159 : decode cX2_append 159 = .ok (.aload_n 0, 1) := by decide +kernel
theorem dX2_append_160 : decode cX2_append 160 = .ok (.getfield 20, 3) := by decide +kernel
theorem dX2_append_163 : decode cX2_append 163 = .ok (.iload 5, 2) := by decide +kernel
theorem dX2_append_165 : decode cX2_append 165 = .ok (.iaload, 1) := by decide +kernel
theorem dX2_append_166 : decode cX2_append 166 = .ok (.goto 4, 3) := by decide +kernel
theorem dX2_append_169 : decode cX2_append 169 = .ok (.iconst 0, 1) := by decide +kernel
theorem dX2_append_170 : decode cX2_append 170 = .ok (.istore 8, 2) := by decide +kernel
theorem dX2_append_172 : decode cX2_append 172 = .ok (.iload 8, 2) := by decide +kernel
theorem dX2_append_174 : decode cX2_append 174 = .ok (.iload 4, 2) := by decide +kernel
theorem dX2_append_176 : decode cX2_append 176 = .ok (.invokestatic 93, 3) := by decide +kernel
theorem dX2_append_179 : decode cX2_append 179 = .ok (.iconst 1, 1) := by decide +kernel
theorem dX2_append_180 : decode cX2_append 180 = .ok (.iadd, 1) := by decide +kernel
theorem dX2_append_181 : decode cX2_append 181 = .ok (.istore 9, 2) := by decide +kernel
theorem dX2_append_183 : decode cX2_append 183 = .ok (.aload_n 0, 1) := by decide +kernel
theorem dX2_append_184 : decode cX2_append 184 = .ok (.iload 9, 2) := by decide +kernel
theorem dX2_append_186 : decode cX2_append 186 = .ok (.invokevirtual 97, 3) := by decide +kernel
theorem dX2_append_189 : decode cX2_append 189 = .ok (.ifCond .eq 81, 3) := by decide +kernel
theorem dX2_append_192 : decode cX2_append 192 = .ok (.iload 6, 2) := by decide +kernel
theorem dX2_append_194 : decode cX2_append 194 = .ok (.ifCond .ne 43, 3) := by decide +kernel
theorem dX2_append_197 : decode cX2_append 197 = .ok (.bipush 60, 2) := by decide +kernel
theorem dX2_append_199 : decode cX2_append 199 = .ok (.iload_n 1, 1) := by decide +kernel
theorem dX2_append_200 : decode cX2_append 200 = .ok (.imul, 1) := by decide +kernel
theorem dX2_append_201 : decode cX2_append 201 = .ok (.aload_n 0, 1) := by decide +kernel
theorem dX2_append_202 : decode cX2_append 202 = .ok (.getfield 13, 3) := by decide +kernel
theorem dX2_append_205 : decode cX2_append 205 = .ok (.iload_n 1, 1) := by decide +kernel
theorem dX2_append_206 : decode cX2_append 206 = .ok (.iaload, 1) := by decide +kernel
theorem dX2_append_207 : decode cX2_append 207 = .ok (.iadd, 1) := by decide +kernel
theorem dX2_append_208 : decode cX2_append 208 = .ok (.istore 5, 2) := by decide +kernel
theorem dX2_append_210 : decode cX2_append 210 = .ok (.aload_n 0, 1) := by decide +kernel
theorem dX2_append_211 : decode cX2_append 211 = .ok (.getfield 17, 3) := by decide +kernel
theorem dX2_append_214 : decode cX2_append 214 = .ok (.iload 5, 2) := by decide +kernel
theorem dX2_append_216 : decode cX2_append 216 = .ok (.iload 7, 2) := by decide +kernel
theorem dX2_append_218 : decode cX2_append 218 = .ok (.iastore, 1) := by decide +kernel
theorem dX2_append_219 : decode cX2_append 219 = .ok (.aload_n 0, 1) := by decide +kernel
theorem dX2_append_220 : decode cX2_append 220 = .ok (.getfield 20, 3) := by decide +kernel
theorem dX2_append_223 : decode cX2_append 223 = .ok (.iload 5, 2) := by decide +kernel
theorem dX2_append_225 : decode cX2_append 225 = .ok (.iconst 0, 1) := by decide +kernel
theorem dX2_append_226 : decode cX2_append 226 = .ok (.iastore, 1) := by decide +kernel
theorem dX2_append_227 : decode cX2_append 227 = .ok (.aload_n 0, 1) := by decide +kernel
theorem dX2_append_228 : decode cX2_append 228 = .ok (.getfield 13, 3) := by decide +kernel
theorem dX2_append_231 : decode cX2_append 231 = .ok (.iload_n 1, 1) := by decide +kernel
theorem dX2_append_232 : decode cX2_append 232 = .ok (.dup2, 1) := by decide +kernel
theorem dX2_append_233 : decode cX2_append 233 = .ok (.iaload, 1) := by decide +kernel
theorem dX2_append_234 : decode cX2_append 234 = .ok (.iconst 1, 1) := by decide +kernel
theorem dX2_append_235 : decode cX2_append 235 = .ok (.iadd, 1) := by decide +kernel
theorem dX2_append_236 : decode cX2_append 236 = .ok (.iastore, 1) := by decide +kernel
theorem dX2_append_237 : decode cX2_append 237 = .ok (.aload_n 0, 1) := by decide +kernel
theorem dX2_append_238 : decode cX2_append 238 = .ok (.getfield 20, 3) := by decide +kernel
theorem dX2_append_241 : decode cX2_append 241 = .ok (.iload 5, 2) := by decide +kernel
theorem dX2_append_243 : decode cX2_append 243 = .ok (.dup2, 1) := by decide +kernel
theorem dX2_append_244 : decode cX2_append 244 = .ok (.iaload, 1) := by decide +kernel
theorem dX2_append_245 : decode cX2_append 245 = .ok (.iload 4, 2) := by decide +kernel
theorem dX2_append_247 : decode cX2_append 247 = .ok (.iadd, 1) := by decide +kernel
theorem dX2_append_248 : decode cX2_append 248 = .ok (.iastore, 1) := by decide +kernel
theorem dX2_append_249 : decode cX2_append 249 = .ok (.aload_n 0, 1) := by decide +kernel
theorem dX2_append_250 : decode cX2_append 250 = .ok (.getfield 23, 3) := by decide +kernel
theorem dX2_append_253 : decode cX2_append 253 = .ok (.iload_n 1, 1) := by decide +kernel
theorem dX2_append_254 : decode cX2_append 254 = .ok (.dup2, 1) := by decide +kernel
theorem dX2_append_255 : decode cX2_append 255 = .ok (.iaload, 1) := by decide +kernel
theorem dX2_append_256 : decode cX2_append 256 = .ok (.iconst 1, 1) := by decide +kernel
theorem dX2_append_257 : decode cX2_append 257 = .ok (.iadd, 1) := by decide +kernel
theorem dX2_append_258 : decode cX2_append 258 = .ok (.iastore, 1) := by decide +kernel
theorem dX2_append_259 : decode cX2_append 259 = .ok (.aload_n 0, 1) := by decide +kernel
theorem dX2_append_260 : decode cX2_append 260 = .ok (.iload_n 1, 1) := by decide +kernel
theorem dX2_append_261 : decode cX2_append 261 = .ok (.iload_n 2, 1) := by decide +kernel
theorem dX2_append_262 : decode cX2_append 262 = .ok (.iload_n 3, 1) := by decide +kernel
theorem dX2_append_263 : decode cX2_append 263 = .ok (.iload 7, 2) := by decide +kernel
theorem dX2_append_265 : decode cX2_append 265 = .ok (.iload 8, 2) := by decide +kernel
theorem dX2_append_267 : decode cX2_append 267 = .ok (.invokevirtual 100, 3) := by decide +kernel
theorem dX2_append_270 : decode cX2_append 270 = .ok (.aload_n 0, 1) := by decide +kernel
theorem dX2_append_271 : decode cX2_append 271 = .ok (.getfield 60, 3) := by decide +kernel
theorem dX2_append_274 : decode cX2_append 274 = .ok (.ifCond .eq 8, 3) := by decide +kernel
theorem dX2_append_277 : decode cX2_append 277 = .ok (.bipush (-3), 2) := by decide +kernel
theorem dX2_append_279 : decode cX2_append 279 = .ok (.goto 5, 3) := by decide +kernel
theorem dX2_append_282 : decode cX2_append 282 = .ok (.iload 9, 2) := by decide +kernel
theorem dX2_append_284 : decode cX2_append 284 = .ok (.ireturn, 1) := by decide +kernel
theorem dX2_sum_0 : decode cX2_sum 0 = .ok (.iconst 0, 1) := by decide +kernel
theorem dX2_sum_1 : decode cX2_sum 1 = .ok (.istore_n 2, 1) := by decide +kernel
theorem dX2_sum_2 : decode cX2_sum 2 = .ok (.iconst 0, 1) := by decide +kernel
theorem dX2_sum_3 : decode cX2_sum 3 = .ok (.istore_n 3, 1) := by decide +kernel
theorem dX2_sum_4 : decode cX2_sum 4 = .ok (.iload_n 3, 1) := by decide +kernel
theorem dX2_sum_5 : decode cX2_sum 5 = .ok (.aload_n 0, 1) := by decide +kernel
theorem dX2_sum_6 : decode cX2_sum 6 = .ok (.getfield 13, 3) := by decide +kernel
theorem dX2_sum_9 : decode cX2_sum 9 = .ok (.iload_n 1, 1) := by decide +kernel
theorem dX2_sum_10 : decode cX2_sum 10 = .ok (.iaload, 1) := by decide +kernel
theorem dX2_sum_11 : decode cX2_sum 11 = .ok (.if_icmp .ge 23, 3) := by decide +kernel
theorem dX2_sum_14 : decode cX2_sum 14 = .ok (.iload_n 2, 1) := by decide +kernel
theorem dX2_sum_15 : decode cX2_sum 15 = .ok (.aload_n 0, 1) := by decide +kernel
theorem dX2_sum_16 : decode cX2_sum 16 = .ok (.getfield 20, 3) := by decide +kernel
theorem dX2_sum_19 : decode cX2_sum 19 = .ok (.bipush 60, 2) := by decide +kernel
theorem dX2_sum_21 : decode cX2_sum 21 = .ok (.iload_n 1, 1) := by decide +kernel
theorem dX2_sum_22 : decode cX2_sum 22 = .ok (.imul, 1) := by decide +kernel
theorem dX2_sum_23 : decode cX2_sum 23 = .ok (.iload_n 3, 1) := by decide +kernel
theorem dX2_sum_24 : decode cX2_sum 24 = .ok (.iadd, 1) := by decide +kernel
theorem dX2_sum_25 : decode cX2_sum 25 = .ok (.iaload, 1) := by decide +kernel
theorem dX2_sum_26 : decode cX2_sum 26 = .ok (.iadd, 1) := by decide +kernel
theorem dX2_sum_27 : decode cX2_sum 27 = .ok (.istore_n 2, 1) := by decide +kernel
theorem dX2_sum_28 : decode cX2_sum 28 = .ok (.iinc 3 1, 3) := by decide +kernel
theorem dX2_sum_31 : decode cX2_sum 31 = .ok (.goto (-27), 3) := by decide +kernel
theorem dX2_sum_34 : decode cX2_sum 34 = .ok (.iload_n 2, 1) := by decide +kernel
theorem dX2_sum_35 : decode cX2_sum 35 = .ok (.ireturn, 1) := by decide +kernel
theorem dX2_inSegment_0 : decode cX2_inSegment 0 = .ok (.iconst 0, 1) := by decide +kernel
theorem dX2_inSegment_1 : decode cX2_inSegment 1 = .ok (.istore_n 3, 1) := by decide +kernel
theorem dX2_inSegment_2 : decode cX2_inSegment 2 = .ok (.iconst 0, 1) := by decide +kernel
theorem dX2_inSegment_3 : decode cX2_inSegment 3 = .ok (.istore 4, 2) := by decide +kernel
theorem dX2_inSegment_5 : decode cX2_inSegment 5 = .ok (.iload 4, 2) := by decide +kernel
theorem dX2_inSegment_7 : decode cX2_inSegment 7 = .ok (.aload_n 0, 1) := by decide +kernel
theorem dX2_inSegment_8 : decode cX2_inSegment 8 = .ok (.getfield 71, 3) := by decide +kernel
theorem dX2_inSegment_11 : decode cX2_inSegment 11 = .ok (.if_icmp .ge 49, 3) := by decide +kernel
theorem dX2_inSegment_14 : decode cX2_inSegment 14 = .ok (.iload_n 3, 1) := by decide +kernel
theorem dX2_inSegment_15 : decode cX2_inSegment 15 = .ok (.aload_n 0, 1) := by decide +kernel
theorem dX2_inSegment_16 : decode cX2_inSegment 16 = .ok (.getfield 30, 3) := by decide +kernel
theorem dX2_inSegment_19 : decode cX2_inSegment 19 = .ok (.iload 4, 2) := by decide +kernel
theorem dX2_inSegment_21 : decode cX2_inSegment 21 = .ok (.iaload, 1) := by decide +kernel
theorem dX2_inSegment_22 : decode cX2_inSegment 22 = .ok (.iload_n 1, 1) := by decide +kernel
theorem dX2_inSegment_23 : decode cX2_inSegment 23 = .ok (.if_icmp .ne 28, 3) := by decide +kernel
theorem dX2_inSegment_26 : decode cX2_inSegment 26 = .ok (.aload_n 0, 1) := by decide +kernel
theorem dX2_inSegment_27 : decode cX2_inSegment 27 = .ok (.getfield 39, 3) := by decide +kernel
theorem dX2_inSegment_30 : decode cX2_inSegment 30 = .ok (.iload 4, 2) := by decide +kernel
theorem dX2_inSegment_32 : decode cX2_inSegment 32 = .ok (.iaload, 1) := by decide +kernel
theorem dX2_inSegment_33 : decode cX2_inSegment 33 = .ok (.aload_n 0, 1) := by decide +kernel
theorem dX2_inSegment_34 : decode cX2_inSegment 34 = .ok (.getfield 17, 3) := by decide +kernel
theorem dX2_inSegment_37 : decode cX2_inSegment 37 = .ok (.bipush 60, 2) := by decide +kernel
theorem dX2_inSegment_39 : decode cX2_inSegment 39 = .ok (.iload_n 1, 1) := by decide +kernel
theorem dX2_inSegment_40 : decode cX2_inSegment 40 = .ok (.imul, 1) := by decide +kernel
theorem dX2_inSegment_41 : decode cX2_inSegment 41 = .ok (.iload_n 2, 1) := by decide +kernel
theorem dX2_inSegment_42 : decode cX2_inSegment 42 = .ok (.iadd, 1) := by decide +kernel
theorem dX2_inSegment_43 : decode cX2_inSegment 43 = .ok (.iaload, 1) := by decide +kernel
theorem dX2_inSegment_44 : decode cX2_inSegment 44 = .ok (.if_icmp .ne 7, 3) := by decide +kernel
theorem dX2_inSegment_47 : decode cX2_inSegment 47 = .ok (.iconst 1, 1) := by decide +kernel
theorem dX2_inSegment_48 : decode cX2_inSegment 48 = .ok (.goto 4, 3) := by decide +kernel
theorem dX2_inSegment_51 : decode cX2_inSegment 51 = .ok (.iconst 0, 1) := by decide +kernel
theorem dX2_inSegment_52 : decode cX2_inSegment 52 = .ok (.iadd, 1) := by decide +kernel
theorem dX2_inSegment_53 : decode cX2_inSegment 53 = .ok (.istore_n 3, 1) := by decide +kernel
theorem dX2_inSegment_54 : decode cX2_inSegment 54 = .ok (.iinc 4 1, 3) := by decide +kernel
theorem dX2_inSegment_57 : decode cX2_inSegment 57 = .ok (.goto (-52), 3) := by decide +kernel
theorem dX2_inSegment_60 : decode cX2_inSegment 60 = .ok (.iload_n 3, 1) := by decide +kernel
theorem dX2_inSegment_61 : decode cX2_inSegment 61 = .ok (.ireturn, 1) := by decide +kernel
theorem dX2_retain_0 : decode cX2_retain 0 = .ok (.aload_n 0, 1) := by decide +kernel
theorem dX2_retain_1 : decode cX2_retain 1 = .ok (.iload_n 1, 1) := by decide +kernel
theorem dX2_retain_2 : decode cX2_retain 2 = .ok (.invokestatic 78, 3) := by decide +kernel
theorem dX2_retain_5 : decode cX2_retain 5 = .ok (.ifCond .eq 11, 3) := by decide +kernel
theorem dX2_retain_8 : decode cX2_retain 8 = .ok (.iload_n 2, 1) := by decide +kernel
theorem dX2_retain_9 : decode cX2_retain 9 = .ok (.ifCond .lt 7, 3) := by decide +kernel
theorem dX2_retain_12 : decode cX2_retain 12 = .ok (.iconst 1, 1) := by decide +kernel
theorem dX2_retain_13 : decode cX2_retain 13 = .ok (.goto 4, 3) := by decide +kernel
theorem dX2_retain_16 : decode cX2_retain 16 = .ok (.iconst 0, 1) := by decide +kernel
theorem dX2_retain_17 : decode cX2_retain 17 = .ok (.invokevirtual 82, 3) := by decide +kernel
theorem dX2_retain_20 : decode cX2_retain 20 = .ok (.ifCond .ne 5, 3) := by decide +kernel
theorem dX2_retain_23 : decode cX2_retain 23 = .ok (.iconst 0, 1) := by decide +kernel
theorem dX2_retain_24 : decode cX2_retain 24 = .ok (.ireturn, 1) := by decide +kernel
theorem dX2_retain_25 : decode cX2_retain 25 = .ok (.iconst 0, 1) := by decide +kernel
theorem dX2_retain_26 : decode cX2_retain 26 = .ok (.istore_n 3, 1) := by decide +kernel
theorem dX2_retain_27 : decode cX2_retain 27 = .ok (.iconst 0, 1) := by decide +kernel
theorem dX2_retain_28 : decode cX2_retain 28 = .ok (.istore 4, 2) := by decide +kernel
theorem dX2_retain_30 : decode cX2_retain 30 = .ok (.aload_n 0, 1) := by decide +kernel
theorem dX2_retain_31 : decode cX2_retain 31 = .ok (.iload_n 1, 1) := by decide +kernel
theorem dX2_retain_32 : decode cX2_retain 32 = .ok (.invokevirtual 104, 3) := by decide +kernel
theorem dX2_retain_35 : decode cX2_retain 35 = .ok (.istore 5, 2) := by decide +kernel
theorem dX2_retain_37 : decode cX2_retain 37 = .ok (.iconst 1, 1) := by decide +kernel
theorem dX2_retain_38 : decode cX2_retain 38 = .ok (.istore 6, 2) := by decide +kernel
theorem dX2_retain_40 : decode cX2_retain 40 = .ok (.iload 6, 2) := by decide +kernel
theorem dX2_retain_42 : decode cX2_retain 42 = .ok (.ifCond .eq 78, 3) := by decide +kernel
theorem dX2_retain_45 : decode cX2_retain 45 = .ok (.iload_n 3, 1) := by decide +kernel
theorem dX2_retain_46 : decode cX2_retain 46 = .ok (.iconst 1, 1) := by decide +kernel
theorem dX2_retain_47 : decode cX2_retain 47 = .ok (.iadd, 1) := by decide +kernel
theorem dX2_retain_48 : decode cX2_retain 48 = .ok (.aload_n 0, 1) := by decide +kernel
theorem dX2_retain_49 : decode cX2_retain 49 = .ok (.getfield 13, 3) := by decide +kernel
theorem dX2_retain_52 : decode cX2_retain 52 = .ok (.iload_n 1, 1) := by decide +kernel
theorem dX2_retain_53 : decode cX2_retain 53 = .ok (.iaload, 1) := by decide +kernel
theorem dX2_retain_54 : decode cX2_retain 54 = .ok (.if_icmp .ge 25, 3) := by decide +kernel
theorem dX2_retain_57 : decode cX2_retain 57 = .ok (.iload 5, 2) := by decide +kernel
theorem dX2_retain_59 : decode cX2_retain 59 = .ok (.aload_n 0, 1) := by decide +kernel
theorem dX2_retain_60 : decode cX2_retain 60 = .ok (.getfield 20, 3) := by decide +kernel
theorem dX2_retain_63 : decode cX2_retain 63 = .ok (.bipush 60, 2) := by decide +kernel
theorem dX2_retain_65 : decode cX2_retain 65 = .ok (.iload_n 1, 1) := by decide +kernel
theorem dX2_retain_66 : decode cX2_retain 66 = .ok (.imul, 1) := by decide +kernel
theorem dX2_retain_67 : decode cX2_retain 67 = .ok (.iload_n 3, 1) := by decide +kernel
theorem dX2_retain_68 : decode cX2_retain 68 = .ok (.iadd, 1) := by decide +kernel
theorem dX2_retain_69 : decode cX2_retain 69 = .ok (.iaload, 1) := by decide +kernel
theorem dX2_retain_70 : decode cX2_retain 70 = .ok (.isub, 1) := by decide +kernel
theorem dX2_retain_71 : decode cX2_retain 71 = .ok (.iload_n 2, 1) := by decide +kernel
theorem dX2_retain_72 : decode cX2_retain 72 = .ok (.if_icmp .lt 7, 3) := by decide +kernel
theorem dX2_retain_75 : decode cX2_retain 75 = .ok (.iconst 1, 1) := by decide +kernel
theorem dX2_retain_76 : decode cX2_retain 76 = .ok (.goto 4, 3) := by decide +kernel
theorem dX2_retain_79 : decode cX2_retain 79 = .ok (.iconst 0, 1) := by decide +kernel
theorem dX2_retain_80 : decode cX2_retain 80 = .ok (.istore 6, 2) := by decide +kernel
theorem dX2_retain_82 : decode cX2_retain 82 = .ok (.iload 6, 2) := by decide +kernel
theorem dX2_retain_84 : decode cX2_retain 84 = .ok (.ifCond .eq (-44), 3) := by decide +kernel
theorem dX2_retain_87 : decode cX2_retain 87 = .ok (.iload 5, 2) := by decide +kernel
theorem dX2_retain_89 : decode cX2_retain 89 = .ok (.aload_n 0, 1) := by decide +kernel
theorem dX2_retain_90 : decode cX2_retain 90 = .ok (.getfield 20, 3) := by decide +kernel
theorem dX2_retain_93 : decode cX2_retain 93 = .ok (.bipush 60, 2) := by decide +kernel
theorem dX2_retain_95 : decode cX2_retain 95 = .ok (.iload_n 1, 1) := by decide +kernel
theorem dX2_retain_96 : decode cX2_retain 96 = .ok (.imul, 1) := by decide +kernel
theorem dX2_retain_97 : decode cX2_retain 97 = .ok (.iload_n 3, 1) := by decide +kernel
theorem dX2_retain_98 : decode cX2_retain 98 = .ok (.iadd, 1) := by decide +kernel
theorem dX2_retain_99 : decode cX2_retain 99 = .ok (.iaload, 1) := by decide +kernel
theorem dX2_retain_100 : decode cX2_retain 100 = .ok (.isub, 1) := by decide +kernel
theorem dX2_retain_101 : decode cX2_retain 101 = .ok (.istore 5, 2) := by decide +kernel
theorem dX2_retain_103 : decode cX2_retain 103 = .ok (.iload 4, 2) := by decide +kernel
theorem dX2_retain_105 : decode cX2_retain 105 = .ok (.aload_n 0, 1) := by decide +kernel
theorem dX2_retain_106 : decode cX2_retain 106 = .ok (.iload_n 1, 1) := by decide +kernel
theorem dX2_retain_107 : decode cX2_retain 107 = .ok (.iload_n 3, 1) := by decide +kernel
theorem dX2_retain_108 : decode cX2_retain 108 = .ok (.invokevirtual 108, 3) := by decide +kernel
theorem dX2_retain_111 : decode cX2_retain 111 = .ok (.iadd, 1) := by decide +kernel
theorem dX2_retain_112 : decode cX2_retain 112 = .ok (.istore 4, 2) := by decide +kernel
theorem dX2_retain_114 : decode cX2_retain 114 = .ok (.iinc 3 1, 3) := by decide +kernel
theorem dX2_retain_117 : decode cX2_retain 117 = .ok (.goto (-77), 3) := by decide +kernel
theorem dX2_retain_120 : decode cX2_retain 120 = .ok (.iload_n 3, 1) := by decide +kernel
theorem dX2_retain_121 : decode cX2_retain 121 = .ok (.ifCond .ne 5, 3) := by decide +kernel
theorem dX2_retain_124 : decode cX2_retain 124 = .ok (.iconst 0, 1) := by decide +kernel
theorem dX2_retain_125 : decode cX2_retain 125 = .ok (.ireturn, 1) := by decide +kernel
theorem dX2_retain_126 : decode cX2_retain 126 = .ok (.aload_n 0, 1) := by decide +kernel
theorem dX2_retain_127 : decode cX2_retain 127 = .ok (.iconst 1, 1) := by decide +kernel
theorem dX2_retain_128 : decode cX2_retain 128 = .ok (.invokevirtual 97, 3) := by decide +kernel
theorem dX2_retain_131 : decode cX2_retain 131 = .ok (.ifCond .eq 177, 3) := by decide +kernel
theorem dX2_retain_134 : decode cX2_retain 134 = .ok (.iload_n 3, 1) := by decide +kernel
theorem dX2_retain_135 : decode cX2_retain 135 = .ok (.istore 7, 2) := by decide +kernel
theorem dX2_retain_137 : decode cX2_retain 137 = .ok (.iload 7, 2) := by decide +kernel
theorem dX2_retain_139 : decode cX2_retain 139 = .ok (.aload_n 0, 1) := by decide +kernel
theorem dX2_retain_140 : decode cX2_retain 140 = .ok (.getfield 13, 3) := by decide +kernel
theorem dX2_retain_143 : decode cX2_retain 143 = .ok (.iload_n 1, 1) := by decide +kernel
theorem dX2_retain_144 : decode cX2_retain 144 = .ok (.iaload, 1) := by decide +kernel
theorem dX2_retain_145 : decode cX2_retain 145 = .ok (.if_icmp .ge 61, 3) := by decide +kernel
theorem dX2_retain_148 : decode cX2_retain 148 = .ok (.aload_n 0, 1) := by decide +kernel
theorem dX2_retain_149 : decode cX2_retain 149 = .ok (.getfield 17, 3) := by decide +kernel
theorem dX2_retain_152 : decode cX2_retain 152 = .ok (.bipush 60, 2) := by decide +kernel
theorem dX2_retain_154 : decode cX2_retain 154 = .ok (.iload_n 1, 1) := by decide +kernel
theorem dX2_retain_155 : decode cX2_retain 155 = .ok (.imul, 1) := by decide +kernel
theorem dX2_retain_156 : decode cX2_retain 156 = .ok (.iload 7, 2) := by decide +kernel
theorem dX2_retain_158 : decode cX2_retain 158 = .ok (.iadd, 1) := by decide +kernel
theorem dX2_retain_159 : decode cX2_retain 159 = .ok (.iload_n 3, 1) := by decide +kernel
theorem dX2_retain_160 : decode cX2_retain 160 = .ok (.isub, 1) := by decide +kernel
theorem dX2_retain_161 : decode cX2_retain 161 = .ok (.aload_n 0, 1) := by decide +kernel
theorem dX2_retain_162 : decode cX2_retain 162 = .ok (.getfield 17, 3) := by decide +kernel
theorem dX2_retain_165 : decode cX2_retain 165 = .ok (.bipush 60, 2) := by decide +kernel
theorem dX2_retain_167 : decode cX2_retain 167 = .ok (.iload_n 1, 1) := by decide +kernel
theorem dX2_retain_168 : decode cX2_retain 168 = .ok (.imul, 1) := by decide +kernel
theorem dX2_retain_169 : decode cX2_retain 169 = .ok (.iload 7, 2) := by decide +kernel
theorem dX2_retain_171 : decode cX2_retain 171 = .ok (.iadd, 1) := by decide +kernel
theorem dX2_retain_172 : decode cX2_retain 172 = .ok (.iaload, 1) := by decide +kernel
theorem dX2_retain_173 : decode cX2_retain 173 = .ok (.iastore, 1) := by decide +kernel
theorem dX2_retain_174 : decode cX2_retain 174 = .ok (.aload_n 0, 1) := by decide +kernel
theorem dX2_retain_175 : decode cX2_retain 175 = .ok (.getfield 20, 3) := by decide +kernel
theorem dX2_retain_178 : decode cX2_retain 178 = .ok (.bipush 60, 2) := by decide +kernel
theorem dX2_retain_180 : decode cX2_retain 180 = .ok (.iload_n 1, 1) := by decide +kernel
theorem dX2_retain_181 : decode cX2_retain 181 = .ok (.imul, 1) := by decide +kernel
theorem dX2_retain_182 : decode cX2_retain 182 = .ok (.iload 7, 2) := by decide +kernel
theorem dX2_retain_184 : decode cX2_retain 184 = .ok (.iadd, 1) := by decide +kernel
theorem dX2_retain_185 : decode cX2_retain 185 = .ok (.iload_n 3, 1) := by decide +kernel
theorem dX2_retain_186 : decode cX2_retain 186 = .ok (.isub, 1) := by decide +kernel
theorem dX2_retain_187 : decode cX2_retain 187 = .ok (.aload_n 0, 1) := by decide +kernel
theorem dX2_retain_188 : decode cX2_retain 188 = .ok (.getfield 20, 3) := by decide +kernel
theorem dX2_retain_191 : decode cX2_retain 191 = .ok (.bipush 60, 2) := by decide +kernel
theorem dX2_retain_193 : decode cX2_retain 193 = .ok (.iload_n 1, 1) := by decide +kernel
theorem dX2_retain_194 : decode cX2_retain 194 = .ok (.imul, 1) := by decide +kernel
theorem dX2_retain_195 : decode cX2_retain 195 = .ok (.iload 7, 2) := by decide +kernel
theorem dX2_retain_197 : decode cX2_retain 197 = .ok (.iadd, 1) := by decide +kernel
theorem dX2_retain_198 : decode cX2_retain 198 = .ok (.iaload, 1) := by decide +kernel
theorem dX2_retain_199 : decode cX2_retain 199 = .ok (.iastore, 1) := by decide +kernel
theorem dX2_retain_200 : decode cX2_retain 200 = .ok (.iinc 7 1, 3) := by decide +kernel
theorem dX2_retain_203 : decode cX2_retain 203 = .ok (.goto (-66), 3) := by decide +kernel
theorem dX2_retain_206 : decode cX2_retain 206 = .ok (.aload_n 0, 1) := by decide +kernel
theorem dX2_retain_207 : decode cX2_retain 207 = .ok (.getfield 13, 3) := by decide +kernel
theorem dX2_retain_210 : decode cX2_retain 210 = .ok (.iload_n 1, 1) := by decide +kernel
theorem dX2_retain_211 : decode cX2_retain 211 = .ok (.dup2, 1) := by decide +kernel
theorem dX2_retain_212 : decode cX2_retain 212 = .ok (.iaload, 1) := by decide +kernel
theorem dX2_retain_213 : decode cX2_retain 213 = .ok (.iload_n 3, 1) := by decide +kernel
theorem dX2_retain_214 : decode cX2_retain 214 = .ok (.isub, 1) := by decide +kernel
theorem dX2_retain_215 : decode cX2_retain 215 = .ok (.iastore, 1) := by decide +kernel
theorem dX2_retain_216 : decode cX2_retain 216 = .ok (.iconst 0, 1) := by decide +kernel
theorem dX2_retain_217 : decode cX2_retain 217 = .ok (.istore 7, 2) := by decide +kernel
theorem dX2_retain_219 : decode cX2_retain 219 = .ok (.iconst 0, 1) := by decide +kernel
theorem dX2_retain_220 : decode cX2_retain 220 = .ok (.istore 8, 2) := by decide +kernel
theorem dX2_retain_222 : decode cX2_retain 222 = .ok (.iconst 0, 1) := by decide +kernel
theorem dX2_retain_223 : decode cX2_retain 223 = .ok (.istore 9, 2) := by decide +kernel
theorem dX2_retain_225 : decode cX2_retain 225 = .ok (.iload 9, 2) := by decide +kernel
theorem dX2_retain_227 : decode cX2_retain 227 = .ok (.aload_n 0, 1) := by decide +kernel
theorem dX2_retain_228 : decode cX2_retain 228 = .ok (.getfield 71, 3) := by decide +kernel
theorem dX2_retain_231 : decode cX2_retain 231 = .ok (.if_icmp .ge 71, 3) := by decide +kernel
theorem dX2_retain_234 : decode cX2_retain 234 = .ok (.aload_n 0, 1) := by decide +kernel
theorem dX2_retain_235 : decode cX2_retain 235 = .ok (.getfield 30, 3) := by decide +kernel
theorem dX2_retain_238 : decode cX2_retain 238 = .ok (.iload 9, 2) := by decide +kernel
theorem dX2_retain_240 : decode cX2_retain 240 = .ok (.iaload, 1) := by decide +kernel
theorem dX2_retain_241 : decode cX2_retain 241 = .ok (.iload_n 1, 1) := by decide +kernel
theorem dX2_retain_242 : decode cX2_retain 242 = .ok (.if_icmp .ne 14, 3) := by decide +kernel
theorem dX2_retain_245 : decode cX2_retain 245 = .ok (.iload 7, 2) := by decide +kernel
theorem dX2_retain_247 : decode cX2_retain 247 = .ok (.iload 4, 2) := by decide +kernel
theorem dX2_retain_249 : decode cX2_retain 249 = .ok (.if_icmp .ge 7, 3) := by decide +kernel
theorem dX2_retain_252 : decode cX2_retain 252 = .ok (.iconst 1, 1) := by decide +kernel
theorem dX2_retain_253 : decode cX2_retain 253 = .ok (.goto 4, 3) := by decide +kernel
theorem dX2_retain_256 : decode cX2_retain 256 = .ok (.iconst 0, 1) := by decide +kernel
theorem dX2_retain_257 : decode cX2_retain 257 = .ok (.istore 10, 2) := by decide +kernel
theorem dX2_retain_259 : decode cX2_retain 259 = .ok (.iload 7, 2) := by decide +kernel
theorem dX2_retain_261 : decode cX2_retain 261 = .ok (.aload_n 0, 1) := by decide +kernel
theorem dX2_retain_262 : decode cX2_retain 262 = .ok (.getfield 30, 3) := by decide +kernel
theorem dX2_retain_265 : decode cX2_retain 265 = .ok (.iload 9, 2) := by decide +kernel
theorem dX2_retain_267 : decode cX2_retain 267 = .ok (.iaload, 1) := by decide +kernel
theorem dX2_retain_268 : decode cX2_retain 268 = .ok (.iload_n 1, 1) := by decide +kernel
theorem dX2_retain_269 : decode cX2_retain 269 = .ok (.if_icmp .ne 7, 3) := by decide +kernel
theorem dX2_retain_272 : decode cX2_retain 272 = .ok (.iconst 1, 1) := by decide +kernel
theorem dX2_retain_273 : decode cX2_retain 273 = .ok (.goto 4, 3) := by decide +kernel
theorem dX2_retain_276 : decode cX2_retain 276 = .ok (.iconst 0, 1) := by decide +kernel
theorem dX2_retain_277 : decode cX2_retain 277 = .ok (.iadd, 1) := by decide +kernel
theorem dX2_retain_278 : decode cX2_retain 278 = .ok (.istore 7, 2) := by decide +kernel
theorem dX2_retain_280 : decode cX2_retain 280 = .ok (.iload 10, 2) := by decide +kernel
theorem dX2_retain_282 : decode cX2_retain 282 = .ok (.ifCond .ne 14, 3) := by decide +kernel
theorem dX2_retain_285 : decode cX2_retain 285 = .ok (.aload_n 0, 1) := by decide +kernel
theorem dX2_retain_286 : decode cX2_retain 286 = .ok (.iload 9, 2) := by decide +kernel
theorem dX2_retain_288 : decode cX2_retain 288 = .ok (.iload 8, 2) := by decide +kernel
theorem dX2_retain_290 : decode cX2_retain 290 = .ok (.invokevirtual 111, 3) := by decide +kernel
theorem dX2_retain_293 : decode cX2_retain 293 = .ok (.iinc 8 1, 3) := by decide +kernel
theorem dX2_retain_296 : decode cX2_retain 296 = .ok (.iinc 9 1, 3) := by decide +kernel
theorem dX2_retain_299 : decode cX2_retain 299 = .ok (.goto (-74), 3) := by decide +kernel
theorem dX2_retain_302 : decode cX2_retain 302 = .ok (.aload_n 0, 1) := by decide +kernel
theorem dX2_retain_303 : decode cX2_retain 303 = .ok (.iload 8, 2) := by decide +kernel
theorem dX2_retain_305 : decode cX2_retain 305 = .ok (.putfield 71, 3) := by decide +kernel
theorem dX2_retain_308 : decode cX2_retain 308 = .ok (.aload_n 0, 1) := by decide +kernel
theorem dX2_retain_309 : decode cX2_retain 309 = .ok (.getfield 60, 3) := by decide +kernel
theorem dX2_retain_312 : decode cX2_retain 312 = .ok (.ifCond .eq 8, 3) := by decide +kernel
theorem dX2_retain_315 : decode cX2_retain 315 = .ok (.bipush (-3), 2) := by decide +kernel
theorem dX2_retain_317 : decode cX2_retain 317 = .ok (.goto 4, 3) := by decide +kernel
theorem dX2_retain_320 : decode cX2_retain 320 = .ok (.iload_n 3, 1) := by decide +kernel
theorem dX2_retain_321 : decode cX2_retain 321 = .ok (.ireturn, 1) := by decide +kernel
theorem dX2_closed_0 : decode cX2_closed 0 = .ok (.aload_n 0, 1) := by decide +kernel
theorem dX2_closed_1 : decode cX2_closed 1 = .ok (.getfield 13, 3) := by decide +kernel
theorem dX2_closed_4 : decode cX2_closed 4 = .ok (.iload_n 1, 1) := by decide +kernel
theorem dX2_closed_5 : decode cX2_closed 5 = .ok (.iaload, 1) := by decide +kernel
theorem dX2_closed_6 : decode cX2_closed 6 = .ok (.ifCond .ne 7, 3) := by decide +kernel
theorem dX2_closed_9 : decode cX2_closed 9 = .ok (.iconst 0, 1) := by decide +kernel
theorem dX2_closed_10 : decode cX2_closed 10 = .ok (.goto 22, 3) := by decide +kernel
theorem dX2_closed_13 : decode cX2_closed 13 = .ok (.aload_n 0, 1) := by decide +kernel
theorem dX2_closed_14 : decode cX2_closed 14 = .ok (.iload_n 1, 1) := by decide +kernel
theorem dX2_closed_15 : decode cX2_closed 15 = .ok (.invokevirtual 115, 3) := by decide +kernel
theorem dX2_closed_18 : decode cX2_closed 18 = .ok (.aload_n 0, 1) := by decide +kernel
theorem dX2_closed_19 : decode cX2_closed 19 = .ok (.iload_n 1, 1) := by decide +kernel
theorem dX2_closed_20 : decode cX2_closed 20 = .ok (.aload_n 0, 1) := by decide +kernel
theorem dX2_closed_21 : decode cX2_closed 21 = .ok (.getfield 13, 3) := by decide +kernel
theorem dX2_closed_24 : decode cX2_closed 24 = .ok (.iload_n 1, 1) := by decide +kernel
theorem dX2_closed_25 : decode cX2_closed 25 = .ok (.iaload, 1) := by decide +kernel
theorem dX2_closed_26 : decode cX2_closed 26 = .ok (.iconst 1, 1) := by decide +kernel
theorem dX2_closed_27 : decode cX2_closed 27 = .ok (.isub, 1) := by decide +kernel
theorem dX2_closed_28 : decode cX2_closed 28 = .ok (.invokevirtual 108, 3) := by decide +kernel
theorem dX2_closed_31 : decode cX2_closed 31 = .ok (.isub, 1) := by decide +kernel
theorem dX2_closed_32 : decode cX2_closed 32 = .ok (.ireturn, 1) := by decide +kernel
theorem dX2_plan_0 : decode cX2_plan 0 = .ok (.aload_n 0, 1) := by decide +kernel
theorem dX2_plan_1 : decode cX2_plan 1 = .ok (.invokevirtual 86, 3) := by decide +kernel
theorem dX2_plan_4 : decode cX2_plan 4 = .ok (.aload_n 0, 1) := by decide +kernel
theorem dX2_plan_5 : decode cX2_plan 5 = .ok (.iconst 0, 1) := by decide +kernel
theorem dX2_plan_6 : decode cX2_plan 6 = .ok (.putfield 118, 3) := by decide +kernel
theorem dX2_plan_9 : decode cX2_plan 9 = .ok (.aload_n 0, 1) := by decide +kernel
theorem dX2_plan_10 : decode cX2_plan 10 = .ok (.iload_n 1, 1) := by decide +kernel
theorem dX2_plan_11 : decode cX2_plan 11 = .ok (.invokevirtual 121, 3) := by decide +kernel
theorem dX2_plan_14 : decode cX2_plan 14 = .ok (.istore_n 3, 1) := by decide +kernel
theorem dX2_plan_15 : decode cX2_plan 15 = .ok (.iconst 0, 1) := by decide +kernel
theorem dX2_plan_16 : decode cX2_plan 16 = .ok (.istore 4, 2) := by decide +kernel
theorem dX2_plan_18 : decode cX2_plan 18 = .ok (.iload 4, 2) := by decide +kernel
theorem dX2_plan_20 : decode cX2_plan 20 = .ok (.iload_n 3, 1) := by decide +kernel
theorem dX2_plan_21 : decode cX2_plan 21 = .ok (.if_icmp .ge 130, 3) := by decide +kernel
theorem dX2_plan_24 : decode cX2_plan 24 = .ok (.aload_n 0, 1) := by decide +kernel
theorem dX2_plan_25 : decode cX2_plan 25 = .ok (.getfield 33, 3) := by decide +kernel
theorem dX2_plan_28 : decode cX2_plan 28 = .ok (.aload_n 0, 1) := by decide +kernel
theorem dX2_plan_29 : decode cX2_plan 29 = .ok (.iload_n 1, 1) := by decide +kernel
theorem dX2_plan_30 : decode cX2_plan 30 = .ok (.iload 4, 2) := by decide +kernel
theorem dX2_plan_32 : decode cX2_plan 32 = .ok (.invokevirtual 124, 3) := by decide +kernel
theorem dX2_plan_35 : decode cX2_plan 35 = .ok (.iaload, 1) := by decide +kernel
theorem dX2_plan_36 : decode cX2_plan 36 = .ok (.iconst 4, 1) := by decide +kernel
theorem dX2_plan_37 : decode cX2_plan 37 = .ok (.iadd, 1) := by decide +kernel
theorem dX2_plan_38 : decode cX2_plan 38 = .ok (.istore 5, 2) := by decide +kernel
theorem dX2_plan_40 : decode cX2_plan 40 = .ok (.iload 4, 2) := by decide +kernel
theorem dX2_plan_42 : decode cX2_plan 42 = .ok (.iload_n 2, 1) := by decide +kernel
theorem dX2_plan_43 : decode cX2_plan 43 = .ok (.irem, 1) := by decide +kernel
theorem dX2_plan_44 : decode cX2_plan 44 = .ok (.ifCond .eq 101, 3) := by decide +kernel
theorem dX2_plan_47 : decode cX2_plan 47 = .ok (.aload_n 0, 1) := by decide +kernel
theorem dX2_plan_48 : decode cX2_plan 48 = .ok (.getfield 118, 3) := by decide +kernel
theorem dX2_plan_51 : decode cX2_plan 51 = .ok (.ifCond .eq 28, 3) := by decide +kernel
theorem dX2_plan_54 : decode cX2_plan 54 = .ok (.aload_n 0, 1) := by decide +kernel
theorem dX2_plan_55 : decode cX2_plan 55 = .ok (.getfield 48, 3) := by decide +kernel
theorem dX2_plan_58 : decode cX2_plan 58 = .ok (.aload_n 0, 1) := by decide +kernel
theorem dX2_plan_59 : decode cX2_plan 59 = .ok (.getfield 118, 3) := by decide +kernel
theorem dX2_plan_62 : decode cX2_plan 62 = .ok (.iconst 1, 1) := by decide +kernel
theorem dX2_plan_63 : decode cX2_plan 63 = .ok (.isub, 1) := by decide +kernel
theorem dX2_plan_64 : decode cX2_plan 64 = .ok (.iaload, 1) := by decide +kernel
theorem dX2_plan_65 : decode cX2_plan 65 = .ok (.iload 5, 2) := by decide +kernel
theorem dX2_plan_67 : decode cX2_plan 67 = .ok (.iadd, 1) := by decide +kernel
theorem dX2_plan_68 : decode cX2_plan 68 = .ok (.sipush 1024, 3) := by decide +kernel
theorem dX2_plan_71 : decode cX2_plan 71 = .ok (.aload_n 0, 1) := by decide +kernel
theorem dX2_plan_72 : decode cX2_plan 72 = .ok (.getfield 51, 3) := by decide +kernel
theorem dX2_plan_75 : decode cX2_plan 75 = .ok (.imul, 1) := by decide +kernel
theorem dX2_plan_76 : decode cX2_plan 76 = .ok (.if_icmp .le 53, 3) := by decide +kernel
theorem dX2_plan_79 : decode cX2_plan 79 = .ok (.aload_n 0, 1) := by decide +kernel
theorem dX2_plan_80 : decode cX2_plan 80 = .ok (.invokevirtual 89, 3) := by decide +kernel
theorem dX2_plan_83 : decode cX2_plan 83 = .ok (.istore 6, 2) := by decide +kernel
theorem dX2_plan_85 : decode cX2_plan 85 = .ok (.iload 6, 2) := by decide +kernel
theorem dX2_plan_87 : decode cX2_plan 87 = .ok (.ifCond .ge 5, 3) := by decide +kernel
theorem dX2_plan_90 : decode cX2_plan 90 = .ok (.iconst 0, 1) := by decide +kernel
theorem dX2_plan_91 : decode cX2_plan 91 = .ok (.ireturn, 1) := by decide +kernel
theorem dX2_plan_92 : decode cX2_plan 92 = .ok (.aload_n 0, 1) := by decide +kernel
theorem dX2_plan_93 : decode cX2_plan 93 = .ok (.iload 6, 2) := by decide +kernel
theorem dX2_plan_95 : decode cX2_plan 95 = .ok (.invokevirtual 64, 3) := by decide +kernel
theorem dX2_plan_98 : decode cX2_plan 98 = .ok (.aload_n 0, 1) := by decide +kernel
theorem dX2_plan_99 : decode cX2_plan 99 = .ok (.getfield 45, 3) := by decide +kernel
theorem dX2_plan_102 : decode cX2_plan 102 = .ok (.aload_n 0, 1) := by decide +kernel
theorem dX2_plan_103 : decode cX2_plan 103 = .ok (.getfield 118, 3) := by decide +kernel
theorem dX2_plan_106 : decode cX2_plan 106 = .ok (.iload 6, 2) := by decide +kernel
theorem dX2_plan_108 : decode cX2_plan 108 = .ok (.iastore, 1) := by decide +kernel
theorem dX2_plan_109 : decode cX2_plan 109 = .ok (.aload_n 0, 1) := by decide +kernel
theorem dX2_plan_110 : decode cX2_plan 110 = .ok (.getfield 48, 3) := by decide +kernel
theorem dX2_plan_113 : decode cX2_plan 113 = .ok (.aload_n 0, 1) := by decide +kernel
theorem dX2_plan_114 : decode cX2_plan 114 = .ok (.getfield 118, 3) := by decide +kernel
theorem dX2_plan_117 : decode cX2_plan 117 = .ok (.iconst 0, 1) := by decide +kernel
theorem dX2_plan_118 : decode cX2_plan 118 = .ok (.iastore, 1) := by decide +kernel
theorem dX2_plan_119 : decode cX2_plan 119 = .ok (.aload_n 0, 1) := by decide +kernel
theorem dX2_plan_120 : decode cX2_plan 120 = .ok (.dup, 1) := by decide +kernel
theorem dX2_plan_121 : decode cX2_plan 121 = .ok (.getfield 118, 3) := by decide +kernel
theorem dX2_plan_124 : decode cX2_plan 124 = .ok (.iconst 1, 1) := by decide +kernel
theorem dX2_plan_125 : decode cX2_plan 125 = .ok (.iadd, 1) := by decide +kernel
theorem dX2_plan_126 : decode cX2_plan 126 = .ok (.putfield 118, 3) := by decide +kernel
theorem dX2_plan_129 : decode cX2_plan 129 = .ok (.aload_n 0, 1) := by decide +kernel
theorem dX2_plan_130 : decode cX2_plan 130 = .ok (.getfield 48, 3) := by decide +kernel
theorem dX2_plan_133 : decode cX2_plan 133 = .ok (.aload_n 0, 1) := by decide +kernel
theorem dX2_plan_134 : decode cX2_plan 134 = .ok (.getfield 118, 3) := by decide +kernel
theorem dX2_plan_137 : decode cX2_plan 137 = .ok (.iconst 1, 1) := by decide +kernel
theorem dX2_plan_138 : decode cX2_plan 138 = .ok (.isub, 1) := by decide +kernel
theorem dX2_plan_139 : decode cX2_plan 139 = .ok (.dup2, 1) := by decide +kernel
theorem dX2_plan_140 : decode cX2_plan 140 = .ok (.iaload, 1) := by decide +kernel
theorem dX2_plan_141 : decode cX2_plan 141 = .ok (.iload 5, 2) := by decide +kernel
theorem dX2_plan_143 : decode cX2_plan 143 = .ok (.iadd, 1) := by decide +kernel
theorem dX2_plan_144 : decode cX2_plan 144 = .ok (.iastore, 1) := by decide +kernel
theorem dX2_plan_145 : decode cX2_plan 145 = .ok (.iinc 4 1, 3) := by decide +kernel
theorem dX2_plan_148 : decode cX2_plan 148 = .ok (.goto (-130), 3) := by decide +kernel
theorem dX2_plan_151 : decode cX2_plan 151 = .ok (.iconst 1, 1) := by decide +kernel
theorem dX2_plan_152 : decode cX2_plan 152 = .ok (.ireturn, 1) := by decide +kernel
theorem dX2_happen_0 : decode cX2_happen 0 = .ok (.aload_n 0, 1) := by decide +kernel
theorem dX2_happen_1 : decode cX2_happen 1 = .ok (.iload_n 1, 1) := by decide +kernel
theorem dX2_happen_2 : decode cX2_happen 2 = .ok (.invokevirtual 121, 3) := by decide +kernel
theorem dX2_happen_5 : decode cX2_happen 5 = .ok (.istore_n 3, 1) := by decide +kernel
theorem dX2_happen_6 : decode cX2_happen 6 = .ok (.bipush 60, 2) := by decide +kernel
theorem dX2_happen_8 : decode cX2_happen 8 = .ok (.iload_n 1, 1) := by decide +kernel
theorem dX2_happen_9 : decode cX2_happen 9 = .ok (.imul, 1) := by decide +kernel
theorem dX2_happen_10 : decode cX2_happen 10 = .ok (.aload_n 0, 1) := by decide +kernel
theorem dX2_happen_11 : decode cX2_happen 11 = .ok (.getfield 13, 3) := by decide +kernel
theorem dX2_happen_14 : decode cX2_happen 14 = .ok (.iload_n 1, 1) := by decide +kernel
theorem dX2_happen_15 : decode cX2_happen 15 = .ok (.iaload, 1) := by decide +kernel
theorem dX2_happen_16 : decode cX2_happen 16 = .ok (.iadd, 1) := by decide +kernel
theorem dX2_happen_17 : decode cX2_happen 17 = .ok (.iconst 1, 1) := by decide +kernel
theorem dX2_happen_18 : decode cX2_happen 18 = .ok (.isub, 1) := by decide +kernel
theorem dX2_happen_19 : decode cX2_happen 19 = .ok (.istore 4, 2) := by decide +kernel
theorem dX2_happen_21 : decode cX2_happen 21 = .ok (.aload_n 0, 1) := by decide +kernel
theorem dX2_happen_22 : decode cX2_happen 22 = .ok (.getfield 17, 3) := by decide +kernel
theorem dX2_happen_25 : decode cX2_happen 25 = .ok (.iload 4, 2) := by decide +kernel
theorem dX2_happen_27 : decode cX2_happen 27 = .ok (.iaload, 1) := by decide +kernel
theorem dX2_happen_28 : decode cX2_happen 28 = .ok (.istore 5, 2) := by decide +kernel
theorem dX2_happen_30 : decode cX2_happen 30 = .ok (.aload_n 0, 1) := by decide +kernel
theorem dX2_happen_31 : decode cX2_happen 31 = .ok (.getfield 20, 3) := by decide +kernel
theorem dX2_happen_34 : decode cX2_happen 34 = .ok (.iload 4, 2) := by decide +kernel
theorem dX2_happen_36 : decode cX2_happen 36 = .ok (.iaload, 1) := by decide +kernel
theorem dX2_happen_37 : decode cX2_happen 37 = .ok (.istore 6, 2) := by decide +kernel
theorem dX2_happen_39 : decode cX2_happen 39 = .ok (.iconst 0, 1) := by decide +kernel
theorem dX2_happen_40 : decode cX2_happen 40 = .ok (.istore 7, 2) := by decide +kernel
theorem dX2_happen_42 : decode cX2_happen 42 = .ok (.iconst 0, 1) := by decide +kernel
theorem dX2_happen_43 : decode cX2_happen 43 = .ok (.istore 8, 2) := by decide +kernel
theorem dX2_happen_45 : decode cX2_happen 45 = .ok (.iconst 0, 1) := by decide +kernel
theorem dX2_happen_46 : decode cX2_happen 46 = .ok (.istore 9, 2) := by decide +kernel
theorem dX2_happen_48 : decode cX2_happen 48 = .ok (.iconst 0, 1) := by decide +kernel
theorem dX2_happen_49 : decode cX2_happen 49 = .ok (.istore 10, 2) := by decide +kernel
theorem dX2_happen_51 : decode cX2_happen 51 = .ok (.iconst 0, 1) := by decide +kernel
theorem dX2_happen_52 : decode cX2_happen 52 = .ok (.istore 11, 2) := by decide +kernel
theorem dX2_happen_54 : decode cX2_happen 54 = .ok (.iload 11, 2) := by decide +kernel
theorem dX2_happen_56 : decode cX2_happen 56 = .ok (.aload_n 0, 1) := by decide +kernel
theorem dX2_happen_57 : decode cX2_happen 57 = .ok (.getfield 71, 3) := by decide +kernel
theorem dX2_happen_60 : decode cX2_happen 60 = .ok (.if_icmp .ge 149, 3) := by decide +kernel
theorem dX2_happen_63 : decode cX2_happen 63 = .ok (.aload_n 0, 1) := by decide +kernel
theorem dX2_happen_64 : decode cX2_happen 64 = .ok (.getfield 30, 3) := by decide +kernel
theorem dX2_happen_67 : decode cX2_happen 67 = .ok (.iload 11, 2) := by decide +kernel
theorem dX2_happen_69 : decode cX2_happen 69 = .ok (.iaload, 1) := by decide +kernel
theorem dX2_happen_70 : decode cX2_happen 70 = .ok (.iload_n 1, 1) := by decide +kernel
theorem dX2_happen_71 : decode cX2_happen 71 = .ok (.if_icmp .ne 13, 3) := by decide +kernel
theorem dX2_happen_74 : decode cX2_happen 74 = .ok (.iload 8, 2) := by decide +kernel
theorem dX2_happen_76 : decode cX2_happen 76 = .ok (.iload_n 3, 1) := by decide +kernel
theorem dX2_happen_77 : decode cX2_happen 77 = .ok (.if_icmp .ge 7, 3) := by decide +kernel
theorem dX2_happen_80 : decode cX2_happen 80 = .ok (.iconst 1, 1) := by decide +kernel
theorem dX2_happen_81 : decode cX2_happen 81 = .ok (.goto 4, 3) := by decide +kernel
theorem dX2_happen_84 : decode cX2_happen 84 = .ok (.iconst 0, 1) := by decide +kernel
theorem dX2_happen_85 : decode cX2_happen 85 = .ok (.istore 12, 2) := by decide +kernel
theorem dX2_happen_87 : decode cX2_happen 87 = .ok (.iload 12, 2) := by decide +kernel
theorem dX2_happen_89 : decode cX2_happen 89 = .ok (.ifCond .eq 14, 3) := by decide +kernel
theorem dX2_happen_92 : decode cX2_happen 92 = .ok (.iload 8, 2) := by decide +kernel
theorem dX2_happen_94 : decode cX2_happen 94 = .ok (.iload_n 2, 1) := by decide +kernel
theorem dX2_happen_95 : decode cX2_happen 95 = .ok (.irem, 1) := by decide +kernel
theorem dX2_happen_96 : decode cX2_happen 96 = .ok (.ifCond .ne 7, 3) := by decide +kernel
theorem dX2_happen_99 : decode cX2_happen 99 = .ok (.iconst 1, 1) := by decide +kernel
theorem dX2_happen_100 : decode cX2_happen 100 = .ok (.goto 4, 3) := by decide +kernel
theorem dX2_happen_103 : decode cX2_happen 103 = .ok (.iconst 0, 1) := by decide +kernel
theorem dX2_happen_104 : decode cX2_happen 104 = .ok (.istore 13, 2) := by decide +kernel
theorem dX2_happen_106 : decode cX2_happen 106 = .ok (.iload 8, 2) := by decide +kernel
theorem dX2_happen_108 : decode cX2_happen 108 = .ok (.aload_n 0, 1) := by decide +kernel
theorem dX2_happen_109 : decode cX2_happen 109 = .ok (.getfield 30, 3) := by decide +kernel
theorem dX2_happen_112 : decode cX2_happen 112 = .ok (.iload 11, 2) := by decide +kernel
theorem dX2_happen_114 : decode cX2_happen 114 = .ok (.iaload, 1) := by decide +kernel
theorem dX2_happen_115 : decode cX2_happen 115 = .ok (.iload_n 1, 1) := by decide +kernel
theorem dX2_happen_116 : decode cX2_happen 116 = .ok (.if_icmp .ne 7, 3) := by decide +kernel
theorem dX2_happen_119 : decode cX2_happen 119 = .ok (.iconst 1, 1) := by decide +kernel
theorem dX2_happen_120 : decode cX2_happen 120 = .ok (.goto 4, 3) := by decide +kernel
theorem dX2_happen_123 : decode cX2_happen 123 = .ok (.iconst 0, 1) := by decide +kernel
theorem dX2_happen_124 : decode cX2_happen 124 = .ok (.iadd, 1) := by decide +kernel
theorem dX2_happen_125 : decode cX2_happen 125 = .ok (.istore 8, 2) := by decide +kernel
theorem dX2_happen_127 : decode cX2_happen 127 = .ok (.iload 13, 2) := by decide +kernel
theorem dX2_happen_129 : decode cX2_happen 129 = .ok (.ifCond .ne 74, 3) := by decide +kernel
theorem dX2_happen_132 : decode cX2_happen 132 = .ok (.aload_n 0, 1) := by decide +kernel
theorem dX2_happen_133 : decode cX2_happen 133 = .ok (.iload 11, 2) := by decide +kernel
theorem dX2_happen_135 : decode cX2_happen 135 = .ok (.iload 7, 2) := by decide +kernel
theorem dX2_happen_137 : decode cX2_happen 137 = .ok (.invokevirtual 111, 3) := by decide +kernel
theorem dX2_happen_140 : decode cX2_happen 140 = .ok (.iload 12, 2) := by decide +kernel
theorem dX2_happen_142 : decode cX2_happen 142 = .ok (.ifCond .eq 58, 3) := by decide +kernel
theorem dX2_happen_145 : decode cX2_happen 145 = .ok (.iload 10, 2) := by decide +kernel
theorem dX2_happen_147 : decode cX2_happen 147 = .ok (.aload_n 0, 1) := by decide +kernel
theorem dX2_happen_148 : decode cX2_happen 148 = .ok (.getfield 48, 3) := by decide +kernel
theorem dX2_happen_151 : decode cX2_happen 151 = .ok (.iload 9, 2) := by decide +kernel
theorem dX2_happen_153 : decode cX2_happen 153 = .ok (.iaload, 1) := by decide +kernel
theorem dX2_happen_154 : decode cX2_happen 154 = .ok (.if_icmp .ne 9, 3) := by decide +kernel
theorem dX2_happen_157 : decode cX2_happen 157 = .ok (.iinc 9 1, 3) := by decide +kernel
theorem dX2_happen_160 : decode cX2_happen 160 = .ok (.iconst 0, 1) := by decide +kernel
theorem dX2_happen_161 : decode cX2_happen 161 = .ok (.istore 10, 2) := by decide +kernel
theorem dX2_happen_163 : decode cX2_happen 163 = .ok (.aload_n 0, 1) := by decide +kernel
theorem dX2_happen_164 : decode cX2_happen 164 = .ok (.getfield 39, 3) := by decide +kernel
theorem dX2_happen_167 : decode cX2_happen 167 = .ok (.iload 7, 2) := by decide +kernel
theorem dX2_happen_169 : decode cX2_happen 169 = .ok (.aload_n 0, 1) := by decide +kernel
theorem dX2_happen_170 : decode cX2_happen 170 = .ok (.getfield 45, 3) := by decide +kernel
theorem dX2_happen_173 : decode cX2_happen 173 = .ok (.iload 9, 2) := by decide +kernel
theorem dX2_happen_175 : decode cX2_happen 175 = .ok (.iaload, 1) := by decide +kernel
theorem dX2_happen_176 : decode cX2_happen 176 = .ok (.iastore, 1) := by decide +kernel
theorem dX2_happen_177 : decode cX2_happen 177 = .ok (.aload_n 0, 1) := by decide +kernel
theorem dX2_happen_178 : decode cX2_happen 178 = .ok (.getfield 42, 3) := by decide +kernel
theorem dX2_happen_181 : decode cX2_happen 181 = .ok (.iload 7, 2) := by decide +kernel
theorem dX2_happen_183 : decode cX2_happen 183 = .ok (.iload 10, 2) := by decide +kernel
theorem dX2_happen_185 : decode cX2_happen 185 = .ok (.iastore, 1) := by decide +kernel
theorem dX2_happen_186 : decode cX2_happen 186 = .ok (.iload 10, 2) := by decide +kernel
theorem dX2_happen_188 : decode cX2_happen 188 = .ok (.aload_n 0, 1) := by decide +kernel
theorem dX2_happen_189 : decode cX2_happen 189 = .ok (.getfield 33, 3) := by decide +kernel
theorem dX2_happen_192 : decode cX2_happen 192 = .ok (.iload 7, 2) := by decide +kernel
theorem dX2_happen_194 : decode cX2_happen 194 = .ok (.iaload, 1) := by decide +kernel
theorem dX2_happen_195 : decode cX2_happen 195 = .ok (.iconst 4, 1) := by decide +kernel
theorem dX2_happen_196 : decode cX2_happen 196 = .ok (.iadd, 1) := by decide +kernel
theorem dX2_happen_197 : decode cX2_happen 197 = .ok (.iadd, 1) := by decide +kernel
theorem dX2_happen_198 : decode cX2_happen 198 = .ok (.istore 10, 2) := by decide +kernel
theorem dX2_happen_200 : decode cX2_happen 200 = .ok (.iinc 7 1, 3) := by decide +kernel
theorem dX2_happen_203 : decode cX2_happen 203 = .ok (.iinc 11 1, 3) := by decide +kernel
theorem dX2_happen_206 : decode cX2_happen 206 = .ok (.goto (-152), 3) := by decide +kernel
theorem dX2_happen_209 : decode cX2_happen 209 = .ok (.aload_n 0, 1) := by decide +kernel
theorem dX2_happen_210 : decode cX2_happen 210 = .ok (.iload 7, 2) := by decide +kernel
theorem dX2_happen_212 : decode cX2_happen 212 = .ok (.putfield 71, 3) := by decide +kernel
theorem dX2_happen_215 : decode cX2_happen 215 = .ok (.iconst 0, 1) := by decide +kernel
theorem dX2_happen_216 : decode cX2_happen 216 = .ok (.istore 11, 2) := by decide +kernel
theorem dX2_happen_218 : decode cX2_happen 218 = .ok (.iload 11, 2) := by decide +kernel
theorem dX2_happen_220 : decode cX2_happen 220 = .ok (.aload_n 0, 1) := by decide +kernel
theorem dX2_happen_221 : decode cX2_happen 221 = .ok (.getfield 118, 3) := by decide +kernel
theorem dX2_happen_224 : decode cX2_happen 224 = .ok (.if_icmp .ge 47, 3) := by decide +kernel
theorem dX2_happen_227 : decode cX2_happen 227 = .ok (.aload_n 0, 1) := by decide +kernel
theorem dX2_happen_228 : decode cX2_happen 228 = .ok (.getfield 17, 3) := by decide +kernel
theorem dX2_happen_231 : decode cX2_happen 231 = .ok (.bipush 60, 2) := by decide +kernel
theorem dX2_happen_233 : decode cX2_happen 233 = .ok (.iload_n 1, 1) := by decide +kernel
theorem dX2_happen_234 : decode cX2_happen 234 = .ok (.imul, 1) := by decide +kernel
theorem dX2_happen_235 : decode cX2_happen 235 = .ok (.iload 11, 2) := by decide +kernel
theorem dX2_happen_237 : decode cX2_happen 237 = .ok (.iadd, 1) := by decide +kernel
theorem dX2_happen_238 : decode cX2_happen 238 = .ok (.aload_n 0, 1) := by decide +kernel
theorem dX2_happen_239 : decode cX2_happen 239 = .ok (.getfield 45, 3) := by decide +kernel
theorem dX2_happen_242 : decode cX2_happen 242 = .ok (.iload 11, 2) := by decide +kernel
theorem dX2_happen_244 : decode cX2_happen 244 = .ok (.iaload, 1) := by decide +kernel
theorem dX2_happen_245 : decode cX2_happen 245 = .ok (.iastore, 1) := by decide +kernel
theorem dX2_happen_246 : decode cX2_happen 246 = .ok (.aload_n 0, 1) := by decide +kernel
theorem dX2_happen_247 : decode cX2_happen 247 = .ok (.getfield 20, 3) := by decide +kernel
theorem dX2_happen_250 : decode cX2_happen 250 = .ok (.bipush 60, 2) := by decide +kernel
theorem dX2_happen_252 : decode cX2_happen 252 = .ok (.iload_n 1, 1) := by decide +kernel
theorem dX2_happen_253 : decode cX2_happen 253 = .ok (.imul, 1) := by decide +kernel
theorem dX2_happen_254 : decode cX2_happen 254 = .ok (.iload 11, 2) := by decide +kernel
theorem dX2_happen_256 : decode cX2_happen 256 = .ok (.iadd, 1) := by decide +kernel
theorem dX2_happen_257 : decode cX2_happen 257 = .ok (.aload_n 0, 1) := by decide +kernel
theorem dX2_happen_258 : decode cX2_happen 258 = .ok (.getfield 48, 3) := by decide +kernel
theorem dX2_happen_261 : decode cX2_happen 261 = .ok (.iload 11, 2) := by decide +kernel
theorem dX2_happen_263 : decode cX2_happen 263 = .ok (.iaload, 1) := by decide +kernel
theorem dX2_happen_264 : decode cX2_happen 264 = .ok (.iastore, 1) := by decide +kernel
theorem dX2_happen_265 : decode cX2_happen 265 = .ok (.iinc 11 1, 3) := by decide +kernel
theorem dX2_happen_268 : decode cX2_happen 268 = .ok (.goto (-50), 3) := by decide +kernel
theorem dX2_happen_271 : decode cX2_happen 271 = .ok (.aload_n 0, 1) := by decide +kernel
theorem dX2_happen_272 : decode cX2_happen 272 = .ok (.getfield 17, 3) := by decide +kernel
theorem dX2_happen_275 : decode cX2_happen 275 = .ok (.bipush 60, 2) := by decide +kernel
theorem dX2_happen_277 : decode cX2_happen 277 = .ok (.iload_n 1, 1) := by decide +kernel
theorem dX2_happen_278 : decode cX2_happen 278 = .ok (.imul, 1) := by decide +kernel
theorem dX2_happen_279 : decode cX2_happen 279 = .ok (.aload_n 0, 1) := by decide +kernel
theorem dX2_happen_280 : decode cX2_happen 280 = .ok (.getfield 118, 3) := by decide +kernel
theorem dX2_happen_283 : decode cX2_happen 283 = .ok (.iadd, 1) := by decide +kernel
theorem dX2_happen_284 : decode cX2_happen 284 = .ok (.iload 5, 2) := by decide +kernel
theorem dX2_happen_286 : decode cX2_happen 286 = .ok (.iastore, 1) := by decide +kernel
theorem dX2_happen_287 : decode cX2_happen 287 = .ok (.aload_n 0, 1) := by decide +kernel
theorem dX2_happen_288 : decode cX2_happen 288 = .ok (.getfield 20, 3) := by decide +kernel
theorem dX2_happen_291 : decode cX2_happen 291 = .ok (.bipush 60, 2) := by decide +kernel
theorem dX2_happen_293 : decode cX2_happen 293 = .ok (.iload_n 1, 1) := by decide +kernel
theorem dX2_happen_294 : decode cX2_happen 294 = .ok (.imul, 1) := by decide +kernel
theorem dX2_happen_295 : decode cX2_happen 295 = .ok (.aload_n 0, 1) := by decide +kernel
theorem dX2_happen_296 : decode cX2_happen 296 = .ok (.getfield 118, 3) := by decide +kernel
theorem dX2_happen_299 : decode cX2_happen 299 = .ok (.iadd, 1) := by decide +kernel
theorem dX2_happen_300 : decode cX2_happen 300 = .ok (.iload 6, 2) := by decide +kernel
theorem dX2_happen_302 : decode cX2_happen 302 = .ok (.iastore, 1) := by decide +kernel
theorem dX2_happen_303 : decode cX2_happen 303 = .ok (.aload_n 0, 1) := by decide +kernel
theorem dX2_happen_304 : decode cX2_happen 304 = .ok (.getfield 13, 3) := by decide +kernel
theorem dX2_happen_307 : decode cX2_happen 307 = .ok (.iload_n 1, 1) := by decide +kernel
theorem dX2_happen_308 : decode cX2_happen 308 = .ok (.aload_n 0, 1) := by decide +kernel
theorem dX2_happen_309 : decode cX2_happen 309 = .ok (.getfield 118, 3) := by decide +kernel
theorem dX2_happen_312 : decode cX2_happen 312 = .ok (.iconst 1, 1) := by decide +kernel
theorem dX2_happen_313 : decode cX2_happen 313 = .ok (.iadd, 1) := by decide +kernel
theorem dX2_happen_314 : decode cX2_happen 314 = .ok (.iastore, 1) := by decide +kernel
theorem dX2_happen_315 : decode cX2_happen 315 = .ok (.return_, 1) := by decide +kernel
theorem dX2_thin_0 : decode cX2_thin 0 = .ok (.aload_n 0, 1) := by decide +kernel
theorem dX2_thin_1 : decode cX2_thin 1 = .ok (.iload_n 1, 1) := by decide +kernel
theorem dX2_thin_2 : decode cX2_thin 2 = .ok (.invokestatic 78, 3) := by decide +kernel
theorem dX2_thin_5 : decode cX2_thin 5 = .ok (.ifCond .eq 19, 3) := by decide +kernel
theorem dX2_thin_8 : decode cX2_thin 8 = .ok (.iload_n 2, 1) := by decide +kernel
theorem dX2_thin_9 : decode cX2_thin 9 = .ok (.iconst 1, 1) := by decide +kernel
theorem dX2_thin_10 : decode cX2_thin 10 = .ok (.if_icmp .lt 14, 3) := by decide +kernel
theorem dX2_thin_13 : decode cX2_thin 13 = .ok (.iload_n 2, 1) := by decide +kernel
theorem dX2_thin_14 : decode cX2_thin 14 = .ok (.sipush 1000, 3) := by decide +kernel
theorem dX2_thin_17 : decode cX2_thin 17 = .ok (.if_icmp .gt 7, 3) := by decide +kernel
theorem dX2_thin_20 : decode cX2_thin 20 = .ok (.iconst 1, 1) := by decide +kernel
theorem dX2_thin_21 : decode cX2_thin 21 = .ok (.goto 4, 3) := by decide +kernel
theorem dX2_thin_24 : decode cX2_thin 24 = .ok (.iconst 0, 1) := by decide +kernel
theorem dX2_thin_25 : decode cX2_thin 25 = .ok (.invokevirtual 82, 3) := by decide +kernel
theorem dX2_thin_28 : decode cX2_thin 28 = .ok (.ifCond .ne 5, 3) := by decide +kernel
theorem dX2_thin_31 : decode cX2_thin 31 = .ok (.iconst 0, 1) := by decide +kernel
theorem dX2_thin_32 : decode cX2_thin 32 = .ok (.ireturn, 1) := by decide +kernel
theorem dX2_thin_33 : decode cX2_thin 33 = .ok (.aload_n 0, 1) := by decide +kernel
theorem dX2_thin_34 : decode cX2_thin 34 = .ok (.iload_n 1, 1) := by decide +kernel
theorem dX2_thin_35 : decode cX2_thin 35 = .ok (.invokevirtual 121, 3) := by decide +kernel
theorem dX2_thin_38 : decode cX2_thin 38 = .ok (.iload_n 2, 1) := by decide +kernel
theorem dX2_thin_39 : decode cX2_thin 39 = .ok (.iadd, 1) := by decide +kernel
theorem dX2_thin_40 : decode cX2_thin 40 = .ok (.iconst 1, 1) := by decide +kernel
theorem dX2_thin_41 : decode cX2_thin 41 = .ok (.isub, 1) := by decide +kernel
theorem dX2_thin_42 : decode cX2_thin 42 = .ok (.iload_n 2, 1) := by decide +kernel
theorem dX2_thin_43 : decode cX2_thin 43 = .ok (.idiv, 1) := by decide +kernel
theorem dX2_thin_44 : decode cX2_thin 44 = .ok (.istore_n 3, 1) := by decide +kernel
theorem dX2_thin_45 : decode cX2_thin 45 = .ok (.iload_n 3, 1) := by decide +kernel
theorem dX2_thin_46 : decode cX2_thin 46 = .ok (.ifCond .ne 5, 3) := by decide +kernel
theorem dX2_thin_49 : decode cX2_thin 49 = .ok (.iconst 0, 1) := by decide +kernel
theorem dX2_thin_50 : decode cX2_thin 50 = .ok (.ireturn, 1) := by decide +kernel
theorem dX2_thin_51 : decode cX2_thin 51 = .ok (.aload_n 0, 1) := by decide +kernel
theorem dX2_thin_52 : decode cX2_thin 52 = .ok (.iload_n 1, 1) := by decide +kernel
theorem dX2_thin_53 : decode cX2_thin 53 = .ok (.iload_n 2, 1) := by decide +kernel
theorem dX2_thin_54 : decode cX2_thin 54 = .ok (.invokevirtual 127, 3) := by decide +kernel
theorem dX2_thin_57 : decode cX2_thin 57 = .ok (.ifCond .ne 6, 3) := by decide +kernel
theorem dX2_thin_60 : decode cX2_thin 60 = .ok (.bipush (-2), 2) := by decide +kernel
theorem dX2_thin_62 : decode cX2_thin 62 = .ok (.ireturn, 1) := by decide +kernel
theorem dX2_thin_63 : decode cX2_thin 63 = .ok (.iconst 1, 1) := by decide +kernel
theorem dX2_thin_64 : decode cX2_thin 64 = .ok (.istore 4, 2) := by decide +kernel
theorem dX2_thin_66 : decode cX2_thin 66 = .ok (.iconst 0, 1) := by decide +kernel
theorem dX2_thin_67 : decode cX2_thin 67 = .ok (.istore 5, 2) := by decide +kernel
theorem dX2_thin_69 : decode cX2_thin 69 = .ok (.iload 5, 2) := by decide +kernel
theorem dX2_thin_71 : decode cX2_thin 71 = .ok (.aload_n 0, 1) := by decide +kernel
theorem dX2_thin_72 : decode cX2_thin 72 = .ok (.getfield 118, 3) := by decide +kernel
theorem dX2_thin_75 : decode cX2_thin 75 = .ok (.if_icmp .ge 25, 3) := by decide +kernel
theorem dX2_thin_78 : decode cX2_thin 78 = .ok (.iload 4, 2) := by decide +kernel
theorem dX2_thin_80 : decode cX2_thin 80 = .ok (.iconst 0, 1) := by decide +kernel
theorem dX2_thin_81 : decode cX2_thin 81 = .ok (.aload_n 0, 1) := by decide +kernel
theorem dX2_thin_82 : decode cX2_thin 82 = .ok (.getfield 48, 3) := by decide +kernel
theorem dX2_thin_85 : decode cX2_thin 85 = .ok (.iload 5, 2) := by decide +kernel
theorem dX2_thin_87 : decode cX2_thin 87 = .ok (.iaload, 1) := by decide +kernel
theorem dX2_thin_88 : decode cX2_thin 88 = .ok (.invokestatic 93, 3) := by decide +kernel
theorem dX2_thin_91 : decode cX2_thin 91 = .ok (.iadd, 1) := by decide +kernel
theorem dX2_thin_92 : decode cX2_thin 92 = .ok (.istore 4, 2) := by decide +kernel
theorem dX2_thin_94 : decode cX2_thin 94 = .ok (.iinc 5 1, 3) := by decide +kernel
theorem dX2_thin_97 : decode cX2_thin 97 = .ok (.goto (-28), 3) := by decide +kernel
theorem dX2_thin_100 : decode cX2_thin 100 = .ok (.aload_n 0, 1) := by decide +kernel
theorem dX2_thin_101 : decode cX2_thin 101 = .ok (.iload 4, 2) := by decide +kernel
theorem dX2_thin_103 : decode cX2_thin 103 = .ok (.invokevirtual 97, 3) := by decide +kernel
theorem dX2_thin_106 : decode cX2_thin 106 = .ok (.ifCond .eq 9, 3) := by decide +kernel
theorem dX2_thin_109 : decode cX2_thin 109 = .ok (.aload_n 0, 1) := by decide +kernel
theorem dX2_thin_110 : decode cX2_thin 110 = .ok (.iload_n 1, 1) := by decide +kernel
theorem dX2_thin_111 : decode cX2_thin 111 = .ok (.iload_n 2, 1) := by decide +kernel
theorem dX2_thin_112 : decode cX2_thin 112 = .ok (.invokevirtual 131, 3) := by decide +kernel
theorem dX2_thin_115 : decode cX2_thin 115 = .ok (.aload_n 0, 1) := by decide +kernel
theorem dX2_thin_116 : decode cX2_thin 116 = .ok (.getfield 60, 3) := by decide +kernel
theorem dX2_thin_119 : decode cX2_thin 119 = .ok (.ifCond .eq 8, 3) := by decide +kernel
theorem dX2_thin_122 : decode cX2_thin 122 = .ok (.bipush (-3), 2) := by decide +kernel
theorem dX2_thin_124 : decode cX2_thin 124 = .ok (.goto 4, 3) := by decide +kernel
theorem dX2_thin_127 : decode cX2_thin 127 = .ok (.iload_n 3, 1) := by decide +kernel
theorem dX2_thin_128 : decode cX2_thin 128 = .ok (.ireturn, 1) := by decide +kernel
theorem dX2_log_0 : decode cX2_log 0 = .ok (.aload_n 0, 1) := by decide +kernel
theorem dX2_log_1 : decode cX2_log 1 = .ok (.iload_n 1, 1) := by decide +kernel
theorem dX2_log_2 : decode cX2_log 2 = .ok (.invokestatic 78, 3) := by decide +kernel
theorem dX2_log_5 : decode cX2_log 5 = .ok (.ifCond .eq 16, 3) := by decide +kernel
theorem dX2_log_8 : decode cX2_log 8 = .ok (.iload_n 2, 1) := by decide +kernel
theorem dX2_log_9 : decode cX2_log 9 = .ok (.ifCond .lt 12, 3) := by decide +kernel
theorem dX2_log_12 : decode cX2_log 12 = .ok (.iload_n 2, 1) := by decide +kernel
theorem dX2_log_13 : decode cX2_log 13 = .ok (.iconst 3, 1) := by decide +kernel
theorem dX2_log_14 : decode cX2_log 14 = .ok (.if_icmp .gt 7, 3) := by decide +kernel
theorem dX2_log_17 : decode cX2_log 17 = .ok (.iconst 1, 1) := by decide +kernel
theorem dX2_log_18 : decode cX2_log 18 = .ok (.goto 4, 3) := by decide +kernel
theorem dX2_log_21 : decode cX2_log 21 = .ok (.iconst 0, 1) := by decide +kernel
theorem dX2_log_22 : decode cX2_log 22 = .ok (.invokevirtual 82, 3) := by decide +kernel
theorem dX2_log_25 : decode cX2_log 25 = .ok (.ifCond .ne 5, 3) := by decide +kernel
theorem dX2_log_28 : decode cX2_log 28 = .ok (.iconst 0, 1) := by decide +kernel
theorem dX2_log_29 : decode cX2_log 29 = .ok (.ireturn, 1) := by decide +kernel
theorem dX2_log_30 : decode cX2_log 30 = .ok (.iload_n 2, 1) := by decide +kernel
theorem dX2_log_31 : decode cX2_log 31 = .ok (.ifCond .ne 11, 3) := by decide +kernel
theorem dX2_log_34 : decode cX2_log 34 = .ok (.aload_n 0, 1) := by decide +kernel
theorem dX2_log_35 : decode cX2_log 35 = .ok (.iload_n 1, 1) := by decide +kernel
theorem dX2_log_36 : decode cX2_log 36 = .ok (.invokevirtual 115, 3) := by decide +kernel
theorem dX2_log_39 : decode cX2_log 39 = .ok (.goto 36, 3) := by decide +kernel
theorem dX2_log_42 : decode cX2_log 42 = .ok (.iload_n 2, 1) := by decide +kernel
theorem dX2_log_43 : decode cX2_log 43 = .ok (.iconst 1, 1) := by decide +kernel
theorem dX2_log_44 : decode cX2_log 44 = .ok (.if_icmp .ne 12, 3) := by decide +kernel
theorem dX2_log_47 : decode cX2_log 47 = .ok (.aload_n 0, 1) := by decide +kernel
theorem dX2_log_48 : decode cX2_log 48 = .ok (.getfield 13, 3) := by decide +kernel
theorem dX2_log_51 : decode cX2_log 51 = .ok (.iload_n 1, 1) := by decide +kernel
theorem dX2_log_52 : decode cX2_log 52 = .ok (.iaload, 1) := by decide +kernel
theorem dX2_log_53 : decode cX2_log 53 = .ok (.goto 22, 3) := by decide +kernel
theorem dX2_log_56 : decode cX2_log 56 = .ok (.iload_n 2, 1) := by decide +kernel
theorem dX2_log_57 : decode cX2_log 57 = .ok (.iconst 2, 1) := by decide +kernel
theorem dX2_log_58 : decode cX2_log 58 = .ok (.if_icmp .ne 11, 3) := by decide +kernel
theorem dX2_log_61 : decode cX2_log 61 = .ok (.aload_n 0, 1) := by decide +kernel
theorem dX2_log_62 : decode cX2_log 62 = .ok (.iload_n 1, 1) := by decide +kernel
theorem dX2_log_63 : decode cX2_log 63 = .ok (.invokevirtual 104, 3) := by decide +kernel
theorem dX2_log_66 : decode cX2_log 66 = .ok (.goto 9, 3) := by decide +kernel
theorem dX2_log_69 : decode cX2_log 69 = .ok (.aload_n 0, 1) := by decide +kernel
theorem dX2_log_70 : decode cX2_log 70 = .ok (.getfield 23, 3) := by decide +kernel
theorem dX2_log_73 : decode cX2_log 73 = .ok (.iload_n 1, 1) := by decide +kernel
theorem dX2_log_74 : decode cX2_log 74 = .ok (.iaload, 1) := by decide +kernel
theorem dX2_log_75 : decode cX2_log 75 = .ok (.ireturn, 1) := by decide +kernel
theorem dX2_isEntry_0 : decode cX2_isEntry 0 = .ok (.iload_n 1, 1) := by decide +kernel
theorem dX2_isEntry_1 : decode cX2_isEntry 1 = .ok (.invokestatic 78, 3) := by decide +kernel
theorem dX2_isEntry_4 : decode cX2_isEntry 4 = .ok (.ifCond .eq 27, 3) := by decide +kernel
theorem dX2_isEntry_7 : decode cX2_isEntry 7 = .ok (.aload_n 0, 1) := by decide +kernel
theorem dX2_isEntry_8 : decode cX2_isEntry 8 = .ok (.getfield 60, 3) := by decide +kernel
theorem dX2_isEntry_11 : decode cX2_isEntry 11 = .ok (.ifCond .ne 16, 3) := by decide +kernel
theorem dX2_isEntry_14 : decode cX2_isEntry 14 = .ok (.iload_n 2, 1) := by decide +kernel
theorem dX2_isEntry_15 : decode cX2_isEntry 15 = .ok (.ifCond .lt 16, 3) := by decide +kernel
theorem dX2_isEntry_18 : decode cX2_isEntry 18 = .ok (.iload_n 2, 1) := by decide +kernel
theorem dX2_isEntry_19 : decode cX2_isEntry 19 = .ok (.aload_n 0, 1) := by decide +kernel
theorem dX2_isEntry_20 : decode cX2_isEntry 20 = .ok (.iload_n 1, 1) := by decide +kernel
theorem dX2_isEntry_21 : decode cX2_isEntry 21 = .ok (.invokevirtual 115, 3) := by decide +kernel
theorem dX2_isEntry_24 : decode cX2_isEntry 24 = .ok (.if_icmp .ge 7, 3) := by decide +kernel
theorem dX2_isEntry_27 : decode cX2_isEntry 27 = .ok (.iconst 1, 1) := by decide +kernel
theorem dX2_isEntry_28 : decode cX2_isEntry 28 = .ok (.goto 4, 3) := by decide +kernel
theorem dX2_isEntry_31 : decode cX2_isEntry 31 = .ok (.iconst 0, 1) := by decide +kernel
theorem dX2_isEntry_32 : decode cX2_isEntry 32 = .ok (.ireturn, 1) := by decide +kernel
theorem dX2_entry_0 : decode cX2_entry 0 = .ok (.aload_n 0, 1) := by decide +kernel
theorem dX2_entry_1 : decode cX2_entry 1 = .ok (.aload_n 0, 1) := by decide +kernel
theorem dX2_entry_2 : decode cX2_entry 2 = .ok (.iload_n 1, 1) := by decide +kernel
theorem dX2_entry_3 : decode cX2_entry 3 = .ok (.iload_n 2, 1) := by decide +kernel
theorem dX2_entry_4 : decode cX2_entry 4 = .ok (.invokevirtual 134, 3) := by decide +kernel
theorem dX2_entry_7 : decode cX2_entry 7 = .ok (.ifCond .eq 16, 3) := by decide +kernel
theorem dX2_entry_10 : decode cX2_entry 10 = .ok (.iload_n 3, 1) := by decide +kernel
theorem dX2_entry_11 : decode cX2_entry 11 = .ok (.ifCond .lt 12, 3) := by decide +kernel
theorem dX2_entry_14 : decode cX2_entry 14 = .ok (.iload_n 3, 1) := by decide +kernel
theorem dX2_entry_15 : decode cX2_entry 15 = .ok (.iconst 2, 1) := by decide +kernel
theorem dX2_entry_16 : decode cX2_entry 16 = .ok (.if_icmp .gt 7, 3) := by decide +kernel
theorem dX2_entry_19 : decode cX2_entry 19 = .ok (.iconst 1, 1) := by decide +kernel
theorem dX2_entry_20 : decode cX2_entry 20 = .ok (.goto 4, 3) := by decide +kernel
theorem dX2_entry_23 : decode cX2_entry 23 = .ok (.iconst 0, 1) := by decide +kernel
theorem dX2_entry_24 : decode cX2_entry 24 = .ok (.invokevirtual 82, 3) := by decide +kernel
theorem dX2_entry_27 : decode cX2_entry 27 = .ok (.ifCond .ne 5, 3) := by decide +kernel
theorem dX2_entry_30 : decode cX2_entry 30 = .ok (.iconst 0, 1) := by decide +kernel
theorem dX2_entry_31 : decode cX2_entry 31 = .ok (.ireturn, 1) := by decide +kernel
theorem dX2_entry_32 : decode cX2_entry 32 = .ok (.aload_n 0, 1) := by decide +kernel
theorem dX2_entry_33 : decode cX2_entry 33 = .ok (.iload_n 1, 1) := by decide +kernel
theorem dX2_entry_34 : decode cX2_entry 34 = .ok (.iload_n 2, 1) := by decide +kernel
theorem dX2_entry_35 : decode cX2_entry 35 = .ok (.invokevirtual 124, 3) := by decide +kernel
theorem dX2_entry_38 : decode cX2_entry 38 = .ok (.istore 4, 2) := by decide +kernel
theorem dX2_entry_40 : decode cX2_entry 40 = .ok (.iload_n 3, 1) := by decide +kernel
theorem dX2_entry_41 : decode cX2_entry 41 = .ok (.iconst 2, 1) := by decide +kernel
theorem dX2_entry_42 : decode cX2_entry 42 = .ok (.if_icmp .ge 37, 3) := by decide +kernel
theorem dX2_entry_45 : decode cX2_entry 45 = .ok (.iload_n 3, 1) := by decide +kernel
theorem dX2_entry_46 : decode cX2_entry 46 = .ok (.ifCond .ne 13, 3) := by decide +kernel
theorem dX2_entry_49 : decode cX2_entry 49 = .ok (.aload_n 0, 1) := by decide +kernel
theorem dX2_entry_50 : decode cX2_entry 50 = .ok (.getfield 33, 3) := by decide +kernel
theorem dX2_entry_53 : decode cX2_entry 53 = .ok (.iload 4, 2) := by decide +kernel
theorem dX2_entry_55 : decode cX2_entry 55 = .ok (.iaload, 1) := by decide +kernel
theorem dX2_entry_56 : decode cX2_entry 56 = .ok (.goto 22, 3) := by decide +kernel
theorem dX2_entry_59 : decode cX2_entry 59 = .ok (.aload_n 0, 1) := by decide +kernel
theorem dX2_entry_60 : decode cX2_entry 60 = .ok (.getfield 39, 3) := by decide +kernel
theorem dX2_entry_63 : decode cX2_entry 63 = .ok (.iload 4, 2) := by decide +kernel
theorem dX2_entry_65 : decode cX2_entry 65 = .ok (.iaload, 1) := by decide +kernel
theorem dX2_entry_66 : decode cX2_entry 66 = .ok (.aload_n 0, 1) := by decide +kernel
theorem dX2_entry_67 : decode cX2_entry 67 = .ok (.getfield 42, 3) := by decide +kernel
theorem dX2_entry_70 : decode cX2_entry 70 = .ok (.iload 4, 2) := by decide +kernel
theorem dX2_entry_72 : decode cX2_entry 72 = .ok (.iaload, 1) := by decide +kernel
theorem dX2_entry_73 : decode cX2_entry 73 = .ok (.sipush 1024, 3) := by decide +kernel
theorem dX2_entry_76 : decode cX2_entry 76 = .ok (.idiv, 1) := by decide +kernel
theorem dX2_entry_77 : decode cX2_entry 77 = .ok (.iadd, 1) := by decide +kernel
theorem dX2_entry_78 : decode cX2_entry 78 = .ok (.ireturn, 1) := by decide +kernel
theorem dX2_entry_79 : decode cX2_entry 79 = .ok (.iconst 0, 1) := by decide +kernel
theorem dX2_entry_80 : decode cX2_entry 80 = .ok (.istore 5, 2) := by decide +kernel
theorem dX2_entry_82 : decode cX2_entry 82 = .ok (.aload_n 0, 1) := by decide +kernel
theorem dX2_entry_83 : decode cX2_entry 83 = .ok (.getfield 17, 3) := by decide +kernel
theorem dX2_entry_86 : decode cX2_entry 86 = .ok (.bipush 60, 2) := by decide +kernel
theorem dX2_entry_88 : decode cX2_entry 88 = .ok (.iload_n 1, 1) := by decide +kernel
theorem dX2_entry_89 : decode cX2_entry 89 = .ok (.imul, 1) := by decide +kernel
theorem dX2_entry_90 : decode cX2_entry 90 = .ok (.iload 5, 2) := by decide +kernel
theorem dX2_entry_92 : decode cX2_entry 92 = .ok (.iadd, 1) := by decide +kernel
theorem dX2_entry_93 : decode cX2_entry 93 = .ok (.iaload, 1) := by decide +kernel
theorem dX2_entry_94 : decode cX2_entry 94 = .ok (.aload_n 0, 1) := by decide +kernel
theorem dX2_entry_95 : decode cX2_entry 95 = .ok (.getfield 39, 3) := by decide +kernel
theorem dX2_entry_98 : decode cX2_entry 98 = .ok (.iload 4, 2) := by decide +kernel
theorem dX2_entry_100 : decode cX2_entry 100 = .ok (.iaload, 1) := by decide +kernel
theorem dX2_entry_101 : decode cX2_entry 101 = .ok (.if_icmp .eq 9, 3) := by decide +kernel
theorem dX2_entry_104 : decode cX2_entry 104 = .ok (.iinc 5 1, 3) := by decide +kernel
theorem dX2_entry_107 : decode cX2_entry 107 = .ok (.goto (-25), 3) := by decide +kernel
theorem dX2_entry_110 : decode cX2_entry 110 = .ok (.iload 5, 2) := by decide +kernel
theorem dX2_entry_112 : decode cX2_entry 112 = .ok (.ireturn, 1) := by decide +kernel
theorem dX2_byteAt_0 : decode cX2_byteAt 0 = .ok (.aload_n 0, 1) := by decide +kernel
theorem dX2_byteAt_1 : decode cX2_byteAt 1 = .ok (.aload_n 0, 1) := by decide +kernel
theorem dX2_byteAt_2 : decode cX2_byteAt 2 = .ok (.iload_n 1, 1) := by decide +kernel
theorem dX2_byteAt_3 : decode cX2_byteAt 3 = .ok (.iload_n 2, 1) := by decide +kernel
theorem dX2_byteAt_4 : decode cX2_byteAt 4 = .ok (.invokevirtual 134, 3) := by decide +kernel
theorem dX2_byteAt_7 : decode cX2_byteAt 7 = .ok (.ifCond .eq 33, 3) := by decide +kernel
theorem dX2_byteAt_10 : decode cX2_byteAt 10 = .ok (.aload_n 0, 1) := by decide +kernel
theorem dX2_byteAt_11 : decode cX2_byteAt 11 = .ok (.getfield 60, 3) := by decide +kernel
theorem dX2_byteAt_14 : decode cX2_byteAt 14 = .ok (.ifCond .ne 22, 3) := by decide +kernel
theorem dX2_byteAt_17 : decode cX2_byteAt 17 = .ok (.iload_n 3, 1) := by decide +kernel
theorem dX2_byteAt_18 : decode cX2_byteAt 18 = .ok (.ifCond .lt 22, 3) := by decide +kernel
theorem dX2_byteAt_21 : decode cX2_byteAt 21 = .ok (.iload_n 3, 1) := by decide +kernel
theorem dX2_byteAt_22 : decode cX2_byteAt 22 = .ok (.aload_n 0, 1) := by decide +kernel
theorem dX2_byteAt_23 : decode cX2_byteAt 23 = .ok (.getfield 33, 3) := by decide +kernel
theorem dX2_byteAt_26 : decode cX2_byteAt 26 = .ok (.aload_n 0, 1) := by decide +kernel
theorem dX2_byteAt_27 : decode cX2_byteAt 27 = .ok (.iload_n 1, 1) := by decide +kernel
theorem dX2_byteAt_28 : decode cX2_byteAt 28 = .ok (.iload_n 2, 1) := by decide +kernel
theorem dX2_byteAt_29 : decode cX2_byteAt 29 = .ok (.invokevirtual 124, 3) := by decide +kernel
theorem dX2_byteAt_32 : decode cX2_byteAt 32 = .ok (.iaload, 1) := by decide +kernel
theorem dX2_byteAt_33 : decode cX2_byteAt 33 = .ok (.if_icmp .ge 7, 3) := by decide +kernel
theorem dX2_byteAt_36 : decode cX2_byteAt 36 = .ok (.iconst 1, 1) := by decide +kernel
theorem dX2_byteAt_37 : decode cX2_byteAt 37 = .ok (.goto 4, 3) := by decide +kernel
theorem dX2_byteAt_40 : decode cX2_byteAt 40 = .ok (.iconst 0, 1) := by decide +kernel
theorem dX2_byteAt_41 : decode cX2_byteAt 41 = .ok (.invokevirtual 82, 3) := by decide +kernel
theorem dX2_byteAt_44 : decode cX2_byteAt 44 = .ok (.ifCond .ne 5, 3) := by decide +kernel
theorem dX2_byteAt_47 : decode cX2_byteAt 47 = .ok (.iconst 0, 1) := by decide +kernel
theorem dX2_byteAt_48 : decode cX2_byteAt 48 = .ok (.ireturn, 1) := by decide +kernel
theorem dX2_byteAt_49 : decode cX2_byteAt 49 = .ok (.aload_n 0, 1) := by decide +kernel
theorem dX2_byteAt_50 : decode cX2_byteAt 50 = .ok (.getfield 36, 3) := by decide +kernel
theorem dX2_byteAt_53 : decode cX2_byteAt 53 = .ok (.aload_n 0, 1) := by decide +kernel
theorem dX2_byteAt_54 : decode cX2_byteAt 54 = .ok (.iload_n 1, 1) := by decide +kernel
theorem dX2_byteAt_55 : decode cX2_byteAt 55 = .ok (.iload_n 2, 1) := by decide +kernel
theorem dX2_byteAt_56 : decode cX2_byteAt 56 = .ok (.invokevirtual 124, 3) := by decide +kernel
theorem dX2_byteAt_59 : decode cX2_byteAt 59 = .ok (.iaload, 1) := by decide +kernel
theorem dX2_byteAt_60 : decode cX2_byteAt 60 = .ok (.iload_n 3, 1) := by decide +kernel
theorem dX2_byteAt_61 : decode cX2_byteAt 61 = .ok (.iadd, 1) := by decide +kernel
theorem dX2_byteAt_62 : decode cX2_byteAt 62 = .ok (.sipush 255, 3) := by decide +kernel
theorem dX2_byteAt_65 : decode cX2_byteAt 65 = .ok (.iand, 1) := by decide +kernel
theorem dX2_byteAt_66 : decode cX2_byteAt 66 = .ok (.ireturn, 1) := by decide +kernel
theorem dX2_crash_0 : decode cX2_crash 0 = .ok (.aload_n 0, 1) := by decide +kernel
theorem dX2_crash_1 : decode cX2_crash 1 = .ok (.iload_n 1, 1) := by decide +kernel
theorem dX2_crash_2 : decode cX2_crash 2 = .ok (.iconst (-1), 1) := by decide +kernel
theorem dX2_crash_3 : decode cX2_crash 3 = .ok (.if_icmp .lt 14, 3) := by decide +kernel
theorem dX2_crash_6 : decode cX2_crash 6 = .ok (.iload_n 1, 1) := by decide +kernel
theorem dX2_crash_7 : decode cX2_crash 7 = .ok (.sipush 1000, 3) := by decide +kernel
theorem dX2_crash_10 : decode cX2_crash 10 = .ok (.if_icmp .gt 7, 3) := by decide +kernel
theorem dX2_crash_13 : decode cX2_crash 13 = .ok (.iconst 1, 1) := by decide +kernel
theorem dX2_crash_14 : decode cX2_crash 14 = .ok (.goto 4, 3) := by decide +kernel
theorem dX2_crash_17 : decode cX2_crash 17 = .ok (.iconst 0, 1) := by decide +kernel
theorem dX2_crash_18 : decode cX2_crash 18 = .ok (.invokevirtual 82, 3) := by decide +kernel
theorem dX2_crash_21 : decode cX2_crash 21 = .ok (.ifCond .eq 21, 3) := by decide +kernel
theorem dX2_crash_24 : decode cX2_crash 24 = .ok (.aload_n 0, 1) := by decide +kernel
theorem dX2_crash_25 : decode cX2_crash 25 = .ok (.iload_n 1, 1) := by decide +kernel
theorem dX2_crash_26 : decode cX2_crash 26 = .ok (.putfield 7, 3) := by decide +kernel
theorem dX2_crash_29 : decode cX2_crash 29 = .ok (.aload_n 0, 1) := by decide +kernel
theorem dX2_crash_30 : decode cX2_crash 30 = .ok (.iload_n 1, 1) := by decide +kernel
theorem dX2_crash_31 : decode cX2_crash 31 = .ok (.ifCond .ne 7, 3) := by decide +kernel
theorem dX2_crash_34 : decode cX2_crash 34 = .ok (.iconst 1, 1) := by decide +kernel
theorem dX2_crash_35 : decode cX2_crash 35 = .ok (.goto 4, 3) := by decide +kernel
theorem dX2_crash_38 : decode cX2_crash 38 = .ok (.iconst 0, 1) := by decide +kernel
theorem dX2_crash_39 : decode cX2_crash 39 = .ok (.putfield 60, 3) := by decide +kernel
theorem dX2_crash_42 : decode cX2_crash 42 = .ok (.return_, 1) := by decide +kernel
theorem dX2_recover_0 : decode cX2_recover 0 = .ok (.aload_n 0, 1) := by decide +kernel
theorem dX2_recover_1 : decode cX2_recover 1 = .ok (.iconst 0, 1) := by decide +kernel
theorem dX2_recover_2 : decode cX2_recover 2 = .ok (.putfield 57, 3) := by decide +kernel
theorem dX2_recover_5 : decode cX2_recover 5 = .ok (.aload_n 0, 1) := by decide +kernel
theorem dX2_recover_6 : decode cX2_recover 6 = .ok (.iconst 0, 1) := by decide +kernel
theorem dX2_recover_7 : decode cX2_recover 7 = .ok (.putfield 60, 3) := by decide +kernel
theorem dX2_recover_10 : decode cX2_recover 10 = .ok (.aload_n 0, 1) := by decide +kernel
theorem dX2_recover_11 : decode cX2_recover 11 = .ok (.iconst (-1), 1) := by decide +kernel
theorem dX2_recover_12 : decode cX2_recover 12 = .ok (.putfield 7, 3) := by decide +kernel
theorem dX2_recover_15 : decode cX2_recover 15 = .ok (.aload_n 0, 1) := by decide +kernel
theorem dX2_recover_16 : decode cX2_recover 16 = .ok (.getfield 71, 3) := by decide +kernel
theorem dX2_recover_19 : decode cX2_recover 19 = .ok (.ireturn, 1) := by decide +kernel
theorem dX2_isDown_0 : decode cX2_isDown 0 = .ok (.aload_n 0, 1) := by decide +kernel
theorem dX2_isDown_1 : decode cX2_isDown 1 = .ok (.iconst 0, 1) := by decide +kernel
theorem dX2_isDown_2 : decode cX2_isDown 2 = .ok (.putfield 57, 3) := by decide +kernel
theorem dX2_isDown_5 : decode cX2_isDown 5 = .ok (.aload_n 0, 1) := by decide +kernel
theorem dX2_isDown_6 : decode cX2_isDown 6 = .ok (.getfield 60, 3) := by decide +kernel
theorem dX2_isDown_9 : decode cX2_isDown 9 = .ok (.ireturn, 1) := by decide +kernel
theorem dX2_writes_0 : decode cX2_writes 0 = .ok (.aload_n 0, 1) := by decide +kernel
theorem dX2_writes_1 : decode cX2_writes 1 = .ok (.iconst 0, 1) := by decide +kernel
theorem dX2_writes_2 : decode cX2_writes 2 = .ok (.putfield 57, 3) := by decide +kernel
theorem dX2_writes_5 : decode cX2_writes 5 = .ok (.aload_n 0, 1) := by decide +kernel
theorem dX2_writes_6 : decode cX2_writes 6 = .ok (.getfield 68, 3) := by decide +kernel
theorem dX2_writes_9 : decode cX2_writes 9 = .ok (.ireturn, 1) := by decide +kernel
theorem dX2_free_0 : decode cX2_free 0 = .ok (.aload_n 0, 1) := by decide +kernel
theorem dX2_free_1 : decode cX2_free 1 = .ok (.aload_n 0, 1) := by decide +kernel
theorem dX2_free_2 : decode cX2_free 2 = .ok (.getfield 60, 3) := by decide +kernel
theorem dX2_free_5 : decode cX2_free 5 = .ok (.ifCond .eq 7, 3) := by decide +kernel
theorem dX2_free_8 : decode cX2_free 8 = .ok (.iconst 1, 1) := by decide +kernel
theorem dX2_free_9 : decode cX2_free 9 = .ok (.goto 4, 3) := by decide +kernel
theorem dX2_free_12 : decode cX2_free 12 = .ok (.iconst 0, 1) := by decide +kernel
theorem dX2_free_13 : decode cX2_free 13 = .ok (.putfield 57, 3) := by decide +kernel
theorem dX2_free_16 : decode cX2_free 16 = .ok (.aload_n 0, 1) := by decide +kernel
theorem dX2_free_17 : decode cX2_free 17 = .ok (.getfield 57, 3) := by decide +kernel
theorem dX2_free_20 : decode cX2_free 20 = .ok (.ifCond .le 5, 3) := by decide +kernel
theorem dX2_free_23 : decode cX2_free 23 = .ok (.iconst 0, 1) := by decide +kernel
theorem dX2_free_24 : decode cX2_free 24 = .ok (.ireturn, 1) := by decide +kernel
theorem dX2_free_25 : decode cX2_free 25 = .ok (.aload_n 0, 1) := by decide +kernel
theorem dX2_free_26 : decode cX2_free 26 = .ok (.invokevirtual 86, 3) := by decide +kernel
theorem dX2_free_29 : decode cX2_free 29 = .ok (.iconst 0, 1) := by decide +kernel
theorem dX2_free_30 : decode cX2_free 30 = .ok (.istore_n 1, 1) := by decide +kernel
theorem dX2_free_31 : decode cX2_free 31 = .ok (.iconst 0, 1) := by decide +kernel
theorem dX2_free_32 : decode cX2_free 32 = .ok (.istore_n 2, 1) := by decide +kernel
theorem dX2_free_33 : decode cX2_free 33 = .ok (.iload_n 2, 1) := by decide +kernel
theorem dX2_free_34 : decode cX2_free 34 = .ok (.aload_n 0, 1) := by decide +kernel
theorem dX2_free_35 : decode cX2_free 35 = .ok (.getfield 54, 3) := by decide +kernel
theorem dX2_free_38 : decode cX2_free 38 = .ok (.if_icmp .ge 26, 3) := by decide +kernel
theorem dX2_free_41 : decode cX2_free 41 = .ok (.iload_n 1, 1) := by decide +kernel
theorem dX2_free_42 : decode cX2_free 42 = .ok (.aload_n 0, 1) := by decide +kernel
theorem dX2_free_43 : decode cX2_free 43 = .ok (.getfield 26, 3) := by decide +kernel
theorem dX2_free_46 : decode cX2_free 46 = .ok (.iload_n 2, 1) := by decide +kernel
theorem dX2_free_47 : decode cX2_free 47 = .ok (.baload, 1) := by decide +kernel
theorem dX2_free_48 : decode cX2_free 48 = .ok (.ifCond .eq 7, 3) := by decide +kernel
theorem dX2_free_51 : decode cX2_free 51 = .ok (.iconst 0, 1) := by decide +kernel
theorem dX2_free_52 : decode cX2_free 52 = .ok (.goto 4, 3) := by decide +kernel
theorem dX2_free_55 : decode cX2_free 55 = .ok (.iconst 1, 1) := by decide +kernel
theorem dX2_free_56 : decode cX2_free 56 = .ok (.iadd, 1) := by decide +kernel
theorem dX2_free_57 : decode cX2_free 57 = .ok (.istore_n 1, 1) := by decide +kernel
theorem dX2_free_58 : decode cX2_free 58 = .ok (.iinc 2 1, 3) := by decide +kernel
theorem dX2_free_61 : decode cX2_free 61 = .ok (.goto (-28), 3) := by decide +kernel
theorem dX2_free_64 : decode cX2_free 64 = .ok (.iload_n 1, 1) := by decide +kernel
theorem dX2_free_65 : decode cX2_free 65 = .ok (.ireturn, 1) := by decide +kernel
