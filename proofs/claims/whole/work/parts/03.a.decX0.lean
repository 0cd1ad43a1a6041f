theorem dX0_init_0 : decode cX0_init 0 = .ok (.aload_n 0, 1) := by decide +kernel
theorem dX0_init_1 : decode cX0_init 1 = .ok (.invokespecial 3, 3) := by decide +kernel
theorem dX0_init_4 : decode cX0_init 4 = .ok (.aload_n 0, 1) := by decide +kernel
theorem dX0_init_5 : decode cX0_init 5 = .ok (.bipush 60, 2) := by decide +kernel
theorem dX0_init_7 : decode cX0_init 7 = .ok (.newarray .int, 2) := by decide +kernel
theorem dX0_init_9 : decode cX0_init 9 = .ok (.putfield 9, 3) := by decide +kernel
theorem dX0_init_12 : decode cX0_init 12 = .ok (.aload_n 0, 1) := by decide +kernel
theorem dX0_init_13 : decode cX0_init 13 = .ok (.bipush 60, 2) := by decide +kernel
theorem dX0_init_15 : decode cX0_init 15 = .ok (.newarray .int, 2) := by decide +kernel
theorem dX0_init_17 : decode cX0_init 17 = .ok (.putfield 15, 3) := by decide +kernel
theorem dX0_init_20 : decode cX0_init 20 = .ok (.aload_n 0, 1) := by decide +kernel
theorem dX0_init_21 : decode cX0_init 21 = .ok (.iconst 0, 1) := by decide +kernel
theorem dX0_init_22 : decode cX0_init 22 = .ok (.putfield 18, 3) := by decide +kernel
theorem dX0_init_25 : decode cX0_init 25 = .ok (.aload_n 0, 1) := by decide +kernel
theorem dX0_init_26 : decode cX0_init 26 = .ok (.sipush 512, 3) := by decide +kernel
theorem dX0_init_29 : decode cX0_init 29 = .ok (.newarray .int, 2) := by decide +kernel
theorem dX0_init_31 : decode cX0_init 31 = .ok (.putfield 22, 3) := by decide +kernel
theorem dX0_init_34 : decode cX0_init 34 = .ok (.aload_n 0, 1) := by decide +kernel
theorem dX0_init_35 : decode cX0_init 35 = .ok (.sipush 512, 3) := by decide +kernel
theorem dX0_init_38 : decode cX0_init 38 = .ok (.newarray .int, 2) := by decide +kernel
theorem dX0_init_40 : decode cX0_init 40 = .ok (.putfield 25, 3) := by decide +kernel
theorem dX0_init_43 : decode cX0_init 43 = .ok (.aload_n 0, 1) := by decide +kernel
theorem dX0_init_44 : decode cX0_init 44 = .ok (.sipush 512, 3) := by decide +kernel
theorem dX0_init_47 : decode cX0_init 47 = .ok (.newarray .int, 2) := by decide +kernel
theorem dX0_init_49 : decode cX0_init 49 = .ok (.putfield 28, 3) := by decide +kernel
theorem dX0_init_52 : decode cX0_init 52 = .ok (.aload_n 0, 1) := by decide +kernel
theorem dX0_init_53 : decode cX0_init 53 = .ok (.sipush 512, 3) := by decide +kernel
theorem dX0_init_56 : decode cX0_init 56 = .ok (.newarray .int, 2) := by decide +kernel
theorem dX0_init_58 : decode cX0_init 58 = .ok (.putfield 31, 3) := by decide +kernel
theorem dX0_init_61 : decode cX0_init 61 = .ok (.aload_n 0, 1) := by decide +kernel
theorem dX0_init_62 : decode cX0_init 62 = .ok (.iconst 0, 1) := by decide +kernel
theorem dX0_init_63 : decode cX0_init 63 = .ok (.putfield 34, 3) := by decide +kernel
theorem dX0_init_66 : decode cX0_init 66 = .ok (.aload_n 0, 1) := by decide +kernel
theorem dX0_init_67 : decode cX0_init 67 = .ok (.iconst 0, 1) := by decide +kernel
theorem dX0_init_68 : decode cX0_init 68 = .ok (.putfield 37, 3) := by decide +kernel
theorem dX0_init_71 : decode cX0_init 71 = .ok (.return_, 1) := by decide +kernel
theorem dX0_beginAs_0 : decode cX0_beginAs 0 = .ok (.aload_n 0, 1) := by decide +kernel
theorem dX0_beginAs_1 : decode cX0_beginAs 1 = .ok (.iconst 0, 1) := by decide +kernel
theorem dX0_beginAs_2 : decode cX0_beginAs 2 = .ok (.putfield 18, 3) := by decide +kernel
theorem dX0_beginAs_5 : decode cX0_beginAs 5 = .ok (.aload_n 0, 1) := by decide +kernel
theorem dX0_beginAs_6 : decode cX0_beginAs 6 = .ok (.iconst 0, 1) := by decide +kernel
theorem dX0_beginAs_7 : decode cX0_beginAs 7 = .ok (.putfield 34, 3) := by decide +kernel
theorem dX0_beginAs_10 : decode cX0_beginAs 10 = .ok (.aload_n 0, 1) := by decide +kernel
theorem dX0_beginAs_11 : decode cX0_beginAs 11 = .ok (.aload_n 1, 1) := by decide +kernel
theorem dX0_beginAs_12 : decode cX0_beginAs 12 = .ok (.getfield 37, 3) := by decide +kernel
theorem dX0_beginAs_15 : decode cX0_beginAs 15 = .ok (.putfield 37, 3) := by decide +kernel
theorem dX0_beginAs_18 : decode cX0_beginAs 18 = .ok (.return_, 1) := by decide +kernel
theorem dX0_canOpenMore_0 : decode cX0_canOpenMore 0 = .ok (.aload_n 0, 1) := by decide +kernel
theorem dX0_canOpenMore_1 : decode cX0_canOpenMore 1 = .ok (.getfield 18, 3) := by decide +kernel
theorem dX0_canOpenMore_4 : decode cX0_canOpenMore 4 = .ok (.bipush 60, 2) := by decide +kernel
theorem dX0_canOpenMore_6 : decode cX0_canOpenMore 6 = .ok (.if_icmp .ge 7, 3) := by decide +kernel
theorem dX0_canOpenMore_9 : decode cX0_canOpenMore 9 = .ok (.iconst 1, 1) := by decide +kernel
theorem dX0_canOpenMore_10 : decode cX0_canOpenMore 10 = .ok (.goto 4, 3) := by decide +kernel
theorem dX0_canOpenMore_13 : decode cX0_canOpenMore 13 = .ok (.iconst 0, 1) := by decide +kernel
theorem dX0_canOpenMore_14 : decode cX0_canOpenMore 14 = .ok (.ireturn, 1) := by decide +kernel
theorem dX0_canHoldMore_0 : decode cX0_canHoldMore 0 = .ok (.aload_n 0, 1) := by decide +kernel
theorem dX0_canHoldMore_1 : decode cX0_canHoldMore 1 = .ok (.getfield 34, 3) := by decide +kernel
theorem dX0_canHoldMore_4 : decode cX0_canHoldMore 4 = .ok (.sipush 512, 3) := by decide +kernel
theorem dX0_canHoldMore_7 : decode cX0_canHoldMore 7 = .ok (.if_icmp .ge 7, 3) := by decide +kernel
theorem dX0_canHoldMore_10 : decode cX0_canHoldMore 10 = .ok (.iconst 1, 1) := by decide +kernel
theorem dX0_canHoldMore_11 : decode cX0_canHoldMore 11 = .ok (.goto 4, 3) := by decide +kernel
theorem dX0_canHoldMore_14 : decode cX0_canHoldMore 14 = .ok (.iconst 0, 1) := by decide +kernel
theorem dX0_canHoldMore_15 : decode cX0_canHoldMore 15 = .ok (.ireturn, 1) := by decide +kernel
theorem dX0_openStart_0 : decode cX0_openStart 0 = .ok (.aload_n 0, 1) := by decide +kernel
theorem dX0_openStart_1 : decode cX0_openStart 1 = .ok (.getfield 9, 3) := by decide +kernel
theorem dX0_openStart_4 : decode cX0_openStart 4 = .ok (.aload_n 0, 1) := by decide +kernel
theorem dX0_openStart_5 : decode cX0_openStart 5 = .ok (.getfield 18, 3) := by decide +kernel
theorem dX0_openStart_8 : decode cX0_openStart 8 = .ok (.iconst 1, 1) := by decide +kernel
theorem dX0_openStart_9 : decode cX0_openStart 9 = .ok (.isub, 1) := by decide +kernel
theorem dX0_openStart_10 : decode cX0_openStart 10 = .ok (.invokestatic 40, 3) := by decide +kernel
theorem dX0_openStart_13 : decode cX0_openStart 13 = .ok (.ireturn, 1) := by decide +kernel
theorem dX0_openBytes_0 : decode cX0_openBytes 0 = .ok (.aload_n 0, 1) := by decide +kernel
theorem dX0_openBytes_1 : decode cX0_openBytes 1 = .ok (.getfield 15, 3) := by decide +kernel
theorem dX0_openBytes_4 : decode cX0_openBytes 4 = .ok (.aload_n 0, 1) := by decide +kernel
theorem dX0_openBytes_5 : decode cX0_openBytes 5 = .ok (.getfield 18, 3) := by decide +kernel
theorem dX0_openBytes_8 : decode cX0_openBytes 8 = .ok (.iconst 1, 1) := by decide +kernel
theorem dX0_openBytes_9 : decode cX0_openBytes 9 = .ok (.isub, 1) := by decide +kernel
theorem dX0_openBytes_10 : decode cX0_openBytes 10 = .ok (.invokestatic 40, 3) := by decide +kernel
theorem dX0_openBytes_13 : decode cX0_openBytes 13 = .ok (.ireturn, 1) := by decide +kernel
theorem dX0_openHasRoom_0 : decode cX0_openHasRoom 0 = .ok (.aload_n 0, 1) := by decide +kernel
theorem dX0_openHasRoom_1 : decode cX0_openHasRoom 1 = .ok (.getfield 18, 3) := by decide +kernel
theorem dX0_openHasRoom_4 : decode cX0_openHasRoom 4 = .ok (.ifCond .le 17, 3) := by decide +kernel
theorem dX0_openHasRoom_7 : decode cX0_openHasRoom 7 = .ok (.aload_n 0, 1) := by decide +kernel
theorem dX0_openHasRoom_8 : decode cX0_openHasRoom 8 = .ok (.invokevirtual 44, 3) := by decide +kernel
theorem dX0_openHasRoom_11 : decode cX0_openHasRoom 11 = .ok (.iload_n 1, 1) := by decide +kernel
theorem dX0_openHasRoom_12 : decode cX0_openHasRoom 12 = .ok (.iadd, 1) := by decide +kernel
theorem dX0_openHasRoom_13 : decode cX0_openHasRoom 13 = .ok (.iload_n 2, 1) := by decide +kernel
theorem dX0_openHasRoom_14 : decode cX0_openHasRoom 14 = .ok (.if_icmp .gt 7, 3) := by decide +kernel
theorem dX0_openHasRoom_17 : decode cX0_openHasRoom 17 = .ok (.iconst 1, 1) := by decide +kernel
theorem dX0_openHasRoom_18 : decode cX0_openHasRoom 18 = .ok (.goto 4, 3) := by decide +kernel
theorem dX0_openHasRoom_21 : decode cX0_openHasRoom 21 = .ok (.iconst 0, 1) := by decide +kernel
theorem dX0_openHasRoom_22 : decode cX0_openHasRoom 22 = .ok (.ireturn, 1) := by decide +kernel
theorem dX0_openSegment_0 : decode cX0_openSegment 0 = .ok (.aload_n 0, 1) := by decide +kernel
theorem dX0_openSegment_1 : decode cX0_openSegment 1 = .ok (.invokevirtual 48, 3) := by decide +kernel
theorem dX0_openSegment_4 : decode cX0_openSegment 4 = .ok (.ifCond .eq 37, 3) := by decide +kernel
theorem dX0_openSegment_7 : decode cX0_openSegment 7 = .ok (.aload_n 0, 1) := by decide +kernel
theorem dX0_openSegment_8 : decode cX0_openSegment 8 = .ok (.getfield 9, 3) := by decide +kernel
theorem dX0_openSegment_11 : decode cX0_openSegment 11 = .ok (.aload_n 0, 1) := by decide +kernel
theorem dX0_openSegment_12 : decode cX0_openSegment 12 = .ok (.getfield 18, 3) := by decide +kernel
theorem dX0_openSegment_15 : decode cX0_openSegment 15 = .ok (.iload_n 1, 1) := by decide +kernel
theorem dX0_openSegment_16 : decode cX0_openSegment 16 = .ok (.invokestatic 52, 3) := by decide +kernel
theorem dX0_openSegment_19 : decode cX0_openSegment 19 = .ok (.aload_n 0, 1) := by decide +kernel
theorem dX0_openSegment_20 : decode cX0_openSegment 20 = .ok (.getfield 15, 3) := by decide +kernel
theorem dX0_openSegment_23 : decode cX0_openSegment 23 = .ok (.aload_n 0, 1) := by decide +kernel
theorem dX0_openSegment_24 : decode cX0_openSegment 24 = .ok (.getfield 18, 3) := by decide +kernel
theorem dX0_openSegment_27 : decode cX0_openSegment 27 = .ok (.iconst 0, 1) := by decide +kernel
theorem dX0_openSegment_28 : decode cX0_openSegment 28 = .ok (.invokestatic 52, 3) := by decide +kernel
theorem dX0_openSegment_31 : decode cX0_openSegment 31 = .ok (.aload_n 0, 1) := by decide +kernel
theorem dX0_openSegment_32 : decode cX0_openSegment 32 = .ok (.dup, 1) := by decide +kernel
theorem dX0_openSegment_33 : decode cX0_openSegment 33 = .ok (.getfield 18, 3) := by decide +kernel
theorem dX0_openSegment_36 : decode cX0_openSegment 36 = .ok (.iconst 1, 1) := by decide +kernel
theorem dX0_openSegment_37 : decode cX0_openSegment 37 = .ok (.iadd, 1) := by decide +kernel
theorem dX0_openSegment_38 : decode cX0_openSegment 38 = .ok (.putfield 18, 3) := by decide +kernel
theorem dX0_openSegment_41 : decode cX0_openSegment 41 = .ok (.return_, 1) := by decide +kernel
theorem dX0_put_0 : decode cX0_put 0 = .ok (.aload_n 0, 1) := by decide +kernel
theorem dX0_put_1 : decode cX0_put 1 = .ok (.getfield 18, 3) := by decide +kernel
theorem dX0_put_4 : decode cX0_put 4 = .ok (.ifCond .le 97, 3) := by decide +kernel
theorem dX0_put_7 : decode cX0_put 7 = .ok (.aload_n 0, 1) := by decide +kernel
theorem dX0_put_8 : decode cX0_put 8 = .ok (.invokevirtual 56, 3) := by decide +kernel
theorem dX0_put_11 : decode cX0_put 11 = .ok (.ifCond .eq 90, 3) := by decide +kernel
theorem dX0_put_14 : decode cX0_put 14 = .ok (.aload_n 0, 1) := by decide +kernel
theorem dX0_put_15 : decode cX0_put 15 = .ok (.getfield 22, 3) := by decide +kernel
theorem dX0_put_18 : decode cX0_put 18 = .ok (.aload_n 0, 1) := by decide +kernel
theorem dX0_put_19 : decode cX0_put 19 = .ok (.getfield 34, 3) := by decide +kernel
theorem dX0_put_22 : decode cX0_put 22 = .ok (.iload_n 1, 1) := by decide +kernel
theorem dX0_put_23 : decode cX0_put 23 = .ok (.invokestatic 52, 3) := by decide +kernel
theorem dX0_put_26 : decode cX0_put 26 = .ok (.aload_n 0, 1) := by decide +kernel
theorem dX0_put_27 : decode cX0_put 27 = .ok (.getfield 25, 3) := by decide +kernel
theorem dX0_put_30 : decode cX0_put 30 = .ok (.aload_n 0, 1) := by decide +kernel
theorem dX0_put_31 : decode cX0_put 31 = .ok (.getfield 34, 3) := by decide +kernel
theorem dX0_put_34 : decode cX0_put 34 = .ok (.iload_n 2, 1) := by decide +kernel
theorem dX0_put_35 : decode cX0_put 35 = .ok (.invokestatic 52, 3) := by decide +kernel
theorem dX0_put_38 : decode cX0_put 38 = .ok (.aload_n 0, 1) := by decide +kernel
theorem dX0_put_39 : decode cX0_put 39 = .ok (.getfield 28, 3) := by decide +kernel
theorem dX0_put_42 : decode cX0_put 42 = .ok (.aload_n 0, 1) := by decide +kernel
theorem dX0_put_43 : decode cX0_put 43 = .ok (.getfield 34, 3) := by decide +kernel
theorem dX0_put_46 : decode cX0_put 46 = .ok (.aload_n 0, 1) := by decide +kernel
theorem dX0_put_47 : decode cX0_put 47 = .ok (.getfield 18, 3) := by decide +kernel
theorem dX0_put_50 : decode cX0_put 50 = .ok (.iconst 1, 1) := by decide +kernel
theorem dX0_put_51 : decode cX0_put 51 = .ok (.isub, 1) := by decide +kernel
theorem dX0_put_52 : decode cX0_put 52 = .ok (.invokestatic 52, 3) := by decide +kernel
theorem dX0_put_55 : decode cX0_put 55 = .ok (.aload_n 0, 1) := by decide +kernel
theorem dX0_put_56 : decode cX0_put 56 = .ok (.getfield 31, 3) := by decide +kernel
theorem dX0_put_59 : decode cX0_put 59 = .ok (.aload_n 0, 1) := by decide +kernel
theorem dX0_put_60 : decode cX0_put 60 = .ok (.getfield 34, 3) := by decide +kernel
theorem dX0_put_63 : decode cX0_put 63 = .ok (.aload_n 0, 1) := by decide +kernel
theorem dX0_put_64 : decode cX0_put 64 = .ok (.invokevirtual 44, 3) := by decide +kernel
theorem dX0_put_67 : decode cX0_put 67 = .ok (.invokestatic 52, 3) := by decide +kernel
theorem dX0_put_70 : decode cX0_put 70 = .ok (.aload_n 0, 1) := by decide +kernel
theorem dX0_put_71 : decode cX0_put 71 = .ok (.dup, 1) := by decide +kernel
theorem dX0_put_72 : decode cX0_put 72 = .ok (.getfield 34, 3) := by decide +kernel
theorem dX0_put_75 : decode cX0_put 75 = .ok (.iconst 1, 1) := by decide +kernel
theorem dX0_put_76 : decode cX0_put 76 = .ok (.iadd, 1) := by decide +kernel
theorem dX0_put_77 : decode cX0_put 77 = .ok (.putfield 34, 3) := by decide +kernel
theorem dX0_put_80 : decode cX0_put 80 = .ok (.aload_n 0, 1) := by decide +kernel
theorem dX0_put_81 : decode cX0_put 81 = .ok (.getfield 15, 3) := by decide +kernel
theorem dX0_put_84 : decode cX0_put 84 = .ok (.aload_n 0, 1) := by decide +kernel
theorem dX0_put_85 : decode cX0_put 85 = .ok (.getfield 18, 3) := by decide +kernel
theorem dX0_put_88 : decode cX0_put 88 = .ok (.iconst 1, 1) := by decide +kernel
theorem dX0_put_89 : decode cX0_put 89 = .ok (.isub, 1) := by decide +kernel
theorem dX0_put_90 : decode cX0_put 90 = .ok (.aload_n 0, 1) := by decide +kernel
theorem dX0_put_91 : decode cX0_put 91 = .ok (.invokevirtual 44, 3) := by decide +kernel
theorem dX0_put_94 : decode cX0_put 94 = .ok (.iload_n 1, 1) := by decide +kernel
theorem dX0_put_95 : decode cX0_put 95 = .ok (.iadd, 1) := by decide +kernel
theorem dX0_put_96 : decode cX0_put 96 = .ok (.iconst 4, 1) := by decide +kernel
theorem dX0_put_97 : decode cX0_put 97 = .ok (.iadd, 1) := by decide +kernel
theorem dX0_put_98 : decode cX0_put 98 = .ok (.invokestatic 52, 3) := by decide +kernel
theorem dX0_put_101 : decode cX0_put 101 = .ok (.return_, 1) := by decide +kernel
theorem dX0_takeSegments_0 : decode cX0_takeSegments 0 = .ok (.iconst (-1), 1) := by decide +kernel
theorem dX0_takeSegments_1 : decode cX0_takeSegments 1 = .ok (.istore_n 3, 1) := by decide +kernel
theorem dX0_takeSegments_2 : decode cX0_takeSegments 2 = .ok (.iconst 0, 1) := by decide +kernel
theorem dX0_takeSegments_3 : decode cX0_takeSegments 3 = .ok (.istore 4, 2) := by decide +kernel
theorem dX0_takeSegments_5 : decode cX0_takeSegments 5 = .ok (.iload 4, 2) := by decide +kernel
theorem dX0_takeSegments_7 : decode cX0_takeSegments 7 = .ok (.aload_n 1, 1) := by decide +kernel
theorem dX0_takeSegments_8 : decode cX0_takeSegments 8 = .ok (.getfield 34, 3) := by decide +kernel
theorem dX0_takeSegments_11 : decode cX0_takeSegments 11 = .ok (.if_icmp .ge 70, 3) := by decide +kernel
theorem dX0_takeSegments_14 : decode cX0_takeSegments 14 = .ok (.aload_n 1, 1) := by decide +kernel
theorem dX0_takeSegments_15 : decode cX0_takeSegments 15 = .ok (.getfield 28, 3) := by decide +kernel
theorem dX0_takeSegments_18 : decode cX0_takeSegments 18 = .ok (.iload 4, 2) := by decide +kernel
theorem dX0_takeSegments_20 : decode cX0_takeSegments 20 = .ok (.invokestatic 40, 3) := by decide +kernel
theorem dX0_takeSegments_23 : decode cX0_takeSegments 23 = .ok (.istore 5, 2) := by decide +kernel
theorem dX0_takeSegments_25 : decode cX0_takeSegments 25 = .ok (.iload 5, 2) := by decide +kernel
theorem dX0_takeSegments_27 : decode cX0_takeSegments 27 = .ok (.iload_n 2, 1) := by decide +kernel
theorem dX0_takeSegments_28 : decode cX0_takeSegments 28 = .ok (.if_icmp .lt 47, 3) := by decide +kernel
theorem dX0_takeSegments_31 : decode cX0_takeSegments 31 = .ok (.iload 5, 2) := by decide +kernel
theorem dX0_takeSegments_33 : decode cX0_takeSegments 33 = .ok (.iload_n 3, 1) := by decide +kernel
theorem dX0_takeSegments_34 : decode cX0_takeSegments 34 = .ok (.if_icmp .eq 19, 3) := by decide +kernel
theorem dX0_takeSegments_37 : decode cX0_takeSegments 37 = .ok (.aload_n 0, 1) := by decide +kernel
theorem dX0_takeSegments_38 : decode cX0_takeSegments 38 = .ok (.aload_n 1, 1) := by decide +kernel
theorem dX0_takeSegments_39 : decode cX0_takeSegments 39 = .ok (.getfield 9, 3) := by decide +kernel
theorem dX0_takeSegments_42 : decode cX0_takeSegments 42 = .ok (.iload 5, 2) := by decide +kernel
theorem dX0_takeSegments_44 : decode cX0_takeSegments 44 = .ok (.invokestatic 40, 3) := by decide +kernel
theorem dX0_takeSegments_47 : decode cX0_takeSegments 47 = .ok (.invokevirtual 59, 3) := by decide +kernel
theorem dX0_takeSegments_50 : decode cX0_takeSegments 50 = .ok (.iload 5, 2) := by decide +kernel
theorem dX0_takeSegments_52 : decode cX0_takeSegments 52 = .ok (.istore_n 3, 1) := by decide +kernel
theorem dX0_takeSegments_53 : decode cX0_takeSegments 53 = .ok (.aload_n 0, 1) := by decide +kernel
theorem dX0_takeSegments_54 : decode cX0_takeSegments 54 = .ok (.aload_n 1, 1) := by decide +kernel
theorem dX0_takeSegments_55 : decode cX0_takeSegments 55 = .ok (.getfield 22, 3) := by decide +kernel
theorem dX0_takeSegments_58 : decode cX0_takeSegments 58 = .ok (.iload 4, 2) := by decide +kernel
theorem dX0_takeSegments_60 : decode cX0_takeSegments 60 = .ok (.invokestatic 40, 3) := by decide +kernel
theorem dX0_takeSegments_63 : decode cX0_takeSegments 63 = .ok (.aload_n 1, 1) := by decide +kernel
theorem dX0_takeSegments_64 : decode cX0_takeSegments 64 = .ok (.getfield 25, 3) := by decide +kernel
theorem dX0_takeSegments_67 : decode cX0_takeSegments 67 = .ok (.iload 4, 2) := by decide +kernel
theorem dX0_takeSegments_69 : decode cX0_takeSegments 69 = .ok (.invokestatic 40, 3) := by decide +kernel
theorem dX0_takeSegments_72 : decode cX0_takeSegments 72 = .ok (.invokevirtual 63, 3) := by decide +kernel
theorem dX0_takeSegments_75 : decode cX0_takeSegments 75 = .ok (.iinc 4 1, 3) := by decide +kernel
theorem dX0_takeSegments_78 : decode cX0_takeSegments 78 = .ok (.goto (-73), 3) := by decide +kernel
theorem dX0_takeSegments_81 : decode cX0_takeSegments 81 = .ok (.return_, 1) := by decide +kernel
theorem dX0_blockOf_0 : decode cX0_blockOf 0 = .ok (.aload_n 0, 1) := by decide +kernel
theorem dX0_blockOf_1 : decode cX0_blockOf 1 = .ok (.getfield 9, 3) := by decide +kernel
theorem dX0_blockOf_4 : decode cX0_blockOf 4 = .ok (.aload_n 0, 1) := by decide +kernel
theorem dX0_blockOf_5 : decode cX0_blockOf 5 = .ok (.getfield 28, 3) := by decide +kernel
theorem dX0_blockOf_8 : decode cX0_blockOf 8 = .ok (.iload_n 1, 1) := by decide +kernel
theorem dX0_blockOf_9 : decode cX0_blockOf 9 = .ok (.invokestatic 40, 3) := by decide +kernel
theorem dX0_blockOf_12 : decode cX0_blockOf 12 = .ok (.invokestatic 40, 3) := by decide +kernel
theorem dX0_blockOf_15 : decode cX0_blockOf 15 = .ok (.aload_n 0, 1) := by decide +kernel
theorem dX0_blockOf_16 : decode cX0_blockOf 16 = .ok (.getfield 31, 3) := by decide +kernel
theorem dX0_blockOf_19 : decode cX0_blockOf 19 = .ok (.iload_n 1, 1) := by decide +kernel
theorem dX0_blockOf_20 : decode cX0_blockOf 20 = .ok (.invokestatic 40, 3) := by decide +kernel
theorem dX0_blockOf_23 : decode cX0_blockOf 23 = .ok (.sipush 1024, 3) := by decide +kernel
theorem dX0_blockOf_26 : decode cX0_blockOf 26 = .ok (.idiv, 1) := by decide +kernel
theorem dX0_blockOf_27 : decode cX0_blockOf 27 = .ok (.iadd, 1) := by decide +kernel
theorem dX0_blockOf_28 : decode cX0_blockOf 28 = .ok (.ireturn, 1) := by decide +kernel
theorem dX0_closedEntries_0 : decode cX0_closedEntries 0 = .ok (.iconst 0, 1) := by decide +kernel
theorem dX0_closedEntries_1 : decode cX0_closedEntries 1 = .ok (.istore_n 1, 1) := by decide +kernel
theorem dX0_closedEntries_2 : decode cX0_closedEntries 2 = .ok (.iconst 0, 1) := by decide +kernel
theorem dX0_closedEntries_3 : decode cX0_closedEntries 3 = .ok (.istore_n 2, 1) := by decide +kernel
theorem dX0_closedEntries_4 : decode cX0_closedEntries 4 = .ok (.iload_n 2, 1) := by decide +kernel
theorem dX0_closedEntries_5 : decode cX0_closedEntries 5 = .ok (.aload_n 0, 1) := by decide +kernel
theorem dX0_closedEntries_6 : decode cX0_closedEntries 6 = .ok (.getfield 34, 3) := by decide +kernel
theorem dX0_closedEntries_9 : decode cX0_closedEntries 9 = .ok (.if_icmp .ge 29, 3) := by decide +kernel
theorem dX0_closedEntries_12 : decode cX0_closedEntries 12 = .ok (.aload_n 0, 1) := by decide +kernel
theorem dX0_closedEntries_13 : decode cX0_closedEntries 13 = .ok (.getfield 28, 3) := by decide +kernel
theorem dX0_closedEntries_16 : decode cX0_closedEntries 16 = .ok (.iload_n 2, 1) := by decide +kernel
theorem dX0_closedEntries_17 : decode cX0_closedEntries 17 = .ok (.invokestatic 40, 3) := by decide +kernel
theorem dX0_closedEntries_20 : decode cX0_closedEntries 20 = .ok (.aload_n 0, 1) := by decide +kernel
theorem dX0_closedEntries_21 : decode cX0_closedEntries 21 = .ok (.getfield 18, 3) := by decide +kernel
theorem dX0_closedEntries_24 : decode cX0_closedEntries 24 = .ok (.iconst 1, 1) := by decide +kernel
theorem dX0_closedEntries_25 : decode cX0_closedEntries 25 = .ok (.isub, 1) := by decide +kernel
theorem dX0_closedEntries_26 : decode cX0_closedEntries 26 = .ok (.if_icmp .ge 6, 3) := by decide +kernel
theorem dX0_closedEntries_29 : decode cX0_closedEntries 29 = .ok (.iinc 1 1, 3) := by decide +kernel
theorem dX0_closedEntries_32 : decode cX0_closedEntries 32 = .ok (.iinc 2 1, 3) := by decide +kernel
theorem dX0_closedEntries_35 : decode cX0_closedEntries 35 = .ok (.goto (-31), 3) := by decide +kernel
theorem dX0_closedEntries_38 : decode cX0_closedEntries 38 = .ok (.iload_n 1, 1) := by decide +kernel
theorem dX0_closedEntries_39 : decode cX0_closedEntries 39 = .ok (.ireturn, 1) := by decide +kernel
theorem dX0_bytesFrom_0 : decode cX0_bytesFrom 0 = .ok (.iconst 0, 1) := by decide +kernel
theorem dX0_bytesFrom_1 : decode cX0_bytesFrom 1 = .ok (.istore_n 2, 1) := by decide +kernel
theorem dX0_bytesFrom_2 : decode cX0_bytesFrom 2 = .ok (.iload_n 1, 1) := by decide +kernel
theorem dX0_bytesFrom_3 : decode cX0_bytesFrom 3 = .ok (.istore_n 3, 1) := by decide +kernel
theorem dX0_bytesFrom_4 : decode cX0_bytesFrom 4 = .ok (.iload_n 3, 1) := by decide +kernel
theorem dX0_bytesFrom_5 : decode cX0_bytesFrom 5 = .ok (.aload_n 0, 1) := by decide +kernel
theorem dX0_bytesFrom_6 : decode cX0_bytesFrom 6 = .ok (.getfield 18, 3) := by decide +kernel
theorem dX0_bytesFrom_9 : decode cX0_bytesFrom 9 = .ok (.if_icmp .ge 20, 3) := by decide +kernel
theorem dX0_bytesFrom_12 : decode cX0_bytesFrom 12 = .ok (.iload_n 2, 1) := by decide +kernel
theorem dX0_bytesFrom_13 : decode cX0_bytesFrom 13 = .ok (.aload_n 0, 1) := by decide +kernel
theorem dX0_bytesFrom_14 : decode cX0_bytesFrom 14 = .ok (.getfield 15, 3) := by decide +kernel
theorem dX0_bytesFrom_17 : decode cX0_bytesFrom 17 = .ok (.iload_n 3, 1) := by decide +kernel
theorem dX0_bytesFrom_18 : decode cX0_bytesFrom 18 = .ok (.invokestatic 40, 3) := by decide +kernel
theorem dX0_bytesFrom_21 : decode cX0_bytesFrom 21 = .ok (.iadd, 1) := by decide +kernel
theorem dX0_bytesFrom_22 : decode cX0_bytesFrom 22 = .ok (.istore_n 2, 1) := by decide +kernel
theorem dX0_bytesFrom_23 : decode cX0_bytesFrom 23 = .ok (.iinc 3 1, 3) := by decide +kernel
theorem dX0_bytesFrom_26 : decode cX0_bytesFrom 26 = .ok (.goto (-22), 3) := by decide +kernel
theorem dX0_bytesFrom_29 : decode cX0_bytesFrom 29 = .ok (.iload_n 2, 1) := by decide +kernel
theorem dX0_bytesFrom_30 : decode cX0_bytesFrom 30 = .ok (.ireturn, 1) := by decide +kernel
theorem dX0_segmentsPast_0 : decode cX0_segmentsPast 0 = .ok (.iconst 0, 1) := by decide +kernel
theorem dX0_segmentsPast_1 : decode cX0_segmentsPast 1 = .ok (.istore_n 2, 1) := by decide +kernel
theorem dX0_segmentsPast_2 : decode cX0_segmentsPast 2 = .ok (.iload_n 2, 1) := by decide +kernel
theorem dX0_segmentsPast_3 : decode cX0_segmentsPast 3 = .ok (.aload_n 0, 1) := by decide +kernel
theorem dX0_segmentsPast_4 : decode cX0_segmentsPast 4 = .ok (.getfield 18, 3) := by decide +kernel
theorem dX0_segmentsPast_7 : decode cX0_segmentsPast 7 = .ok (.iconst 1, 1) := by decide +kernel
theorem dX0_segmentsPast_8 : decode cX0_segmentsPast 8 = .ok (.isub, 1) := by decide +kernel
theorem dX0_segmentsPast_9 : decode cX0_segmentsPast 9 = .ok (.if_icmp .ge 20, 3) := by decide +kernel
theorem dX0_segmentsPast_12 : decode cX0_segmentsPast 12 = .ok (.aload_n 0, 1) := by decide +kernel
theorem dX0_segmentsPast_13 : decode cX0_segmentsPast 13 = .ok (.iload_n 2, 1) := by decide +kernel
theorem dX0_segmentsPast_14 : decode cX0_segmentsPast 14 = .ok (.iconst 1, 1) := by decide +kernel
theorem dX0_segmentsPast_15 : decode cX0_segmentsPast 15 = .ok (.iadd, 1) := by decide +kernel
theorem dX0_segmentsPast_16 : decode cX0_segmentsPast 16 = .ok (.invokevirtual 67, 3) := by decide +kernel
theorem dX0_segmentsPast_19 : decode cX0_segmentsPast 19 = .ok (.iload_n 1, 1) := by decide +kernel
theorem dX0_segmentsPast_20 : decode cX0_segmentsPast 20 = .ok (.if_icmp .lt 9, 3) := by decide +kernel
theorem dX0_segmentsPast_23 : decode cX0_segmentsPast 23 = .ok (.iinc 2 1, 3) := by decide +kernel
theorem dX0_segmentsPast_26 : decode cX0_segmentsPast 26 = .ok (.goto (-24), 3) := by decide +kernel
theorem dX0_segmentsPast_29 : decode cX0_segmentsPast 29 = .ok (.iload_n 2, 1) := by decide +kernel
theorem dX0_segmentsPast_30 : decode cX0_segmentsPast 30 = .ok (.ireturn, 1) := by decide +kernel
theorem dX0_blocksFilled_0 : decode cX0_blocksFilled 0 = .ok (.iconst 0, 1) := by decide +kernel
theorem dX0_blocksFilled_1 : decode cX0_blocksFilled 1 = .ok (.istore_n 1, 1) := by decide +kernel
theorem dX0_blocksFilled_2 : decode cX0_blocksFilled 2 = .ok (.iconst 0, 1) := by decide +kernel
theorem dX0_blocksFilled_3 : decode cX0_blocksFilled 3 = .ok (.istore_n 2, 1) := by decide +kernel
theorem dX0_blocksFilled_4 : decode cX0_blocksFilled 4 = .ok (.iload_n 2, 1) := by decide +kernel
theorem dX0_blocksFilled_5 : decode cX0_blocksFilled 5 = .ok (.aload_n 0, 1) := by decide +kernel
theorem dX0_blocksFilled_6 : decode cX0_blocksFilled 6 = .ok (.getfield 18, 3) := by decide +kernel
theorem dX0_blocksFilled_9 : decode cX0_blocksFilled 9 = .ok (.if_icmp .ge 24, 3) := by decide +kernel
theorem dX0_blocksFilled_12 : decode cX0_blocksFilled 12 = .ok (.iload_n 1, 1) := by decide +kernel
theorem dX0_blocksFilled_13 : decode cX0_blocksFilled 13 = .ok (.iconst 0, 1) := by decide +kernel
theorem dX0_blocksFilled_14 : decode cX0_blocksFilled 14 = .ok (.aload_n 0, 1) := by decide +kernel
theorem dX0_blocksFilled_15 : decode cX0_blocksFilled 15 = .ok (.getfield 15, 3) := by decide +kernel
theorem dX0_blocksFilled_18 : decode cX0_blocksFilled 18 = .ok (.iload_n 2, 1) := by decide +kernel
theorem dX0_blocksFilled_19 : decode cX0_blocksFilled 19 = .ok (.invokestatic 40, 3) := by decide +kernel
theorem dX0_blocksFilled_22 : decode cX0_blocksFilled 22 = .ok (.invokestatic 71, 3) := by decide +kernel
theorem dX0_blocksFilled_25 : decode cX0_blocksFilled 25 = .ok (.iadd, 1) := by decide +kernel
theorem dX0_blocksFilled_26 : decode cX0_blocksFilled 26 = .ok (.istore_n 1, 1) := by decide +kernel
theorem dX0_blocksFilled_27 : decode cX0_blocksFilled 27 = .ok (.iinc 2 1, 3) := by decide +kernel
theorem dX0_blocksFilled_30 : decode cX0_blocksFilled 30 = .ok (.goto (-26), 3) := by decide +kernel
theorem dX0_blocksFilled_33 : decode cX0_blocksFilled 33 = .ok (.iload_n 1, 1) := by decide +kernel
theorem dX0_blocksFilled_34 : decode cX0_blocksFilled 34 = .ok (.ireturn, 1) := by decide +kernel
theorem dJ_fill_0 : decode cJ_fill 0 = .ok (.iconst 0, 1) := by decide +kernel
theorem dJ_fill_1 : decode cJ_fill 1 = .ok (.istore_n 2, 1) := by decide +kernel
theorem dJ_fill_2 : decode cJ_fill 2 = .ok (.aload_n 0, 1) := by decide +kernel
theorem dJ_fill_3 : decode cJ_fill 3 = .ok (.arraylength, 1) := by decide +kernel
theorem dJ_fill_4 : decode cJ_fill 4 = .ok (.istore_n 3, 1) := by decide +kernel
theorem dJ_fill_5 : decode cJ_fill 5 = .ok (.iload_n 2, 1) := by decide +kernel
theorem dJ_fill_6 : decode cJ_fill 6 = .ok (.iload_n 3, 1) := by decide +kernel
theorem dJ_fill_7 : decode cJ_fill 7 = .ok (.if_icmp .ge 13, 3) := by decide +kernel
theorem dJ_fill_10 : decode cJ_fill 10 = .ok (.aload_n 0, 1) := by decide +kernel
theorem dJ_fill_11 : decode cJ_fill 11 = .ok (.iload_n 2, 1) := by decide +kernel
theorem dJ_fill_12 : decode cJ_fill 12 = .ok (.iload_n 1, 1) := by decide +kernel
theorem dJ_fill_13 : decode cJ_fill 13 = .ok (.iastore, 1) := by decide +kernel
theorem dJ_fill_14 : decode cJ_fill 14 = .ok (.iinc 2 1, 3) := by decide +kernel
theorem dJ_fill_17 : decode cJ_fill 17 = .ok (.goto (-12), 3) := by decide +kernel
theorem dJ_fill_20 : decode cJ_fill 20 = .ok (.return_, 1) := by decide +kernel
