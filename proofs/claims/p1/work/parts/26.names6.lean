theorem dX6_init_0 : decode cX6_init 0 = .ok (.aload_n 0, 1) := by decide +kernel
theorem dX6_init_1 : decode cX6_init 1 = .ok (.invokespecial 1, 3) := by decide +kernel
theorem dX6_init_4 : decode cX6_init 4 = .ok (.aload_n 0, 1) := by decide +kernel
theorem dX6_init_5 : decode cX6_init 5 = .ok (.bipush 10, 2) := by decide +kernel
theorem dX6_init_7 : decode cX6_init 7 = .ok (.newarray .int, 2) := by decide +kernel
theorem dX6_init_9 : decode cX6_init 9 = .ok (.putfield 7, 3) := by decide +kernel
theorem dX6_init_12 : decode cX6_init 12 = .ok (.aload_n 0, 1) := by decide +kernel
theorem dX6_init_13 : decode cX6_init 13 = .ok (.bipush 10, 2) := by decide +kernel
theorem dX6_init_15 : decode cX6_init 15 = .ok (.newarray .int, 2) := by decide +kernel
theorem dX6_init_17 : decode cX6_init 17 = .ok (.putfield 13, 3) := by decide +kernel
theorem dX6_init_20 : decode cX6_init 20 = .ok (.aload_n 0, 1) := by decide +kernel
theorem dX6_init_21 : decode cX6_init 21 = .ok (.bipush 10, 2) := by decide +kernel
theorem dX6_init_23 : decode cX6_init 23 = .ok (.newarray .int, 2) := by decide +kernel
theorem dX6_init_25 : decode cX6_init 25 = .ok (.putfield 16, 3) := by decide +kernel
theorem dX6_init_28 : decode cX6_init 28 = .ok (.aload_n 0, 1) := by decide +kernel
theorem dX6_init_29 : decode cX6_init 29 = .ok (.bipush 10, 2) := by decide +kernel
theorem dX6_init_31 : decode cX6_init 31 = .ok (.newarray .int, 2) := by decide +kernel
theorem dX6_init_33 : decode cX6_init 33 = .ok (.putfield 19, 3) := by decide +kernel
theorem dX6_init_36 : decode cX6_init 36 = .ok (.aload_n 0, 1) := by decide +kernel
theorem dX6_init_37 : decode cX6_init 37 = .ok (.bipush 10, 2) := by decide +kernel
theorem dX6_init_39 : decode cX6_init 39 = .ok (.newarray .boolean, 2) := by decide +kernel
theorem dX6_init_41 : decode cX6_init 41 = .ok (.putfield 22, 3) := by decide +kernel
theorem dX6_init_44 : decode cX6_init 44 = .ok (.aload_n 0, 1) := by decide +kernel
theorem dX6_init_45 : decode cX6_init 45 = .ok (.sipush 3600, 3) := by decide +kernel
theorem dX6_init_48 : decode cX6_init 48 = .ok (.newarray .int, 2) := by decide +kernel
theorem dX6_init_50 : decode cX6_init 50 = .ok (.putfield 26, 3) := by decide +kernel
theorem dX6_init_53 : decode cX6_init 53 = .ok (.aload_n 0, 1) := by decide +kernel
theorem dX6_init_54 : decode cX6_init 54 = .ok (.bipush 10, 2) := by decide +kernel
theorem dX6_init_56 : decode cX6_init 56 = .ok (.newarray .int, 2) := by decide +kernel
theorem dX6_init_58 : decode cX6_init 58 = .ok (.putfield 29, 3) := by decide +kernel
theorem dX6_init_61 : decode cX6_init 61 = .ok (.aload_n 0, 1) := by decide +kernel
theorem dX6_init_62 : decode cX6_init 62 = .ok (.bipush 10, 2) := by decide +kernel
theorem dX6_init_64 : decode cX6_init 64 = .ok (.newarray .int, 2) := by decide +kernel
theorem dX6_init_66 : decode cX6_init 66 = .ok (.putfield 32, 3) := by decide +kernel
theorem dX6_init_69 : decode cX6_init 69 = .ok (.aload_n 0, 1) := by decide +kernel
theorem dX6_init_70 : decode cX6_init 70 = .ok (.bipush 20, 2) := by decide +kernel
theorem dX6_init_72 : decode cX6_init 72 = .ok (.newarray .int, 2) := by decide +kernel
theorem dX6_init_74 : decode cX6_init 74 = .ok (.putfield 35, 3) := by decide +kernel
theorem dX6_init_77 : decode cX6_init 77 = .ok (.aload_n 0, 1) := by decide +kernel
theorem dX6_init_78 : decode cX6_init 78 = .ok (.bipush 20, 2) := by decide +kernel
theorem dX6_init_80 : decode cX6_init 80 = .ok (.newarray .int, 2) := by decide +kernel
theorem dX6_init_82 : decode cX6_init 82 = .ok (.putfield 38, 3) := by decide +kernel
theorem dX6_init_85 : decode cX6_init 85 = .ok (.aload_n 0, 1) := by decide +kernel
theorem dX6_init_86 : decode cX6_init 86 = .ok (.bipush 20, 2) := by decide +kernel
theorem dX6_init_88 : decode cX6_init 88 = .ok (.newarray .int, 2) := by decide +kernel
theorem dX6_init_90 : decode cX6_init 90 = .ok (.putfield 41, 3) := by decide +kernel
theorem dX6_init_93 : decode cX6_init 93 = .ok (.aload_n 0, 1) := by decide +kernel
theorem dX6_init_94 : decode cX6_init 94 = .ok (.bipush 20, 2) := by decide +kernel
theorem dX6_init_96 : decode cX6_init 96 = .ok (.newarray .int, 2) := by decide +kernel
theorem dX6_init_98 : decode cX6_init 98 = .ok (.putfield 44, 3) := by decide +kernel
theorem dX6_init_101 : decode cX6_init 101 = .ok (.aload_n 0, 1) := by decide +kernel
theorem dX6_init_102 : decode cX6_init 102 = .ok (.ldc 47, 2) := by decide +kernel
theorem dX6_init_104 : decode cX6_init 104 = .ok (.newarray .int, 2) := by decide +kernel
theorem dX6_init_106 : decode cX6_init 106 = .ok (.putfield 48, 3) := by decide +kernel
theorem dX6_init_109 : decode cX6_init 109 = .ok (.return_, 1) := by decide +kernel
theorem dX6_thrown_0 : decode cX6_thrown 0 = .ok (.aload_n 0, 1) := by decide +kernel
theorem dX6_thrown_1 : decode cX6_thrown 1 = .ok (.getfield 51, 3) := by decide +kernel
theorem dX6_thrown_4 : decode cX6_thrown 4 = .ok (.ireturn, 1) := by decide +kernel
theorem dX6_goes_0 : decode cX6_goes 0 = .ok (.aload_n 0, 1) := by decide +kernel
theorem dX6_goes_1 : decode cX6_goes 1 = .ok (.iload_n 1, 1) := by decide +kernel
theorem dX6_goes_2 : decode cX6_goes 2 = .ok (.ifCond .ne 7, 3) := by decide +kernel
theorem dX6_goes_5 : decode cX6_goes 5 = .ok (.iconst 1, 1) := by decide +kernel
theorem dX6_goes_6 : decode cX6_goes 6 = .ok (.goto 20, 3) := by decide +kernel
theorem dX6_goes_9 : decode cX6_goes 9 = .ok (.iload_n 2, 1) := by decide +kernel
theorem dX6_goes_10 : decode cX6_goes 10 = .ok (.ifCond .ne 7, 3) := by decide +kernel
theorem dX6_goes_13 : decode cX6_goes 13 = .ok (.iconst 2, 1) := by decide +kernel
theorem dX6_goes_14 : decode cX6_goes 14 = .ok (.goto 12, 3) := by decide +kernel
theorem dX6_goes_17 : decode cX6_goes 17 = .ok (.iload_n 3, 1) := by decide +kernel
theorem dX6_goes_18 : decode cX6_goes 18 = .ok (.ifCond .ne 7, 3) := by decide +kernel
theorem dX6_goes_21 : decode cX6_goes 21 = .ok (.iconst 3, 1) := by decide +kernel
theorem dX6_goes_22 : decode cX6_goes 22 = .ok (.goto 4, 3) := by decide +kernel
theorem dX6_goes_25 : decode cX6_goes 25 = .ok (.iconst 0, 1) := by decide +kernel
theorem dX6_goes_26 : decode cX6_goes 26 = .ok (.putfield 51, 3) := by decide +kernel
theorem dX6_goes_29 : decode cX6_goes 29 = .ok (.aload_n 0, 1) := by decide +kernel
theorem dX6_goes_30 : decode cX6_goes 30 = .ok (.getfield 51, 3) := by decide +kernel
theorem dX6_goes_33 : decode cX6_goes 33 = .ok (.ifCond .ne 7, 3) := by decide +kernel
theorem dX6_goes_36 : decode cX6_goes 36 = .ok (.iconst 1, 1) := by decide +kernel
theorem dX6_goes_37 : decode cX6_goes 37 = .ok (.goto 4, 3) := by decide +kernel
theorem dX6_goes_40 : decode cX6_goes 40 = .ok (.iconst 0, 1) := by decide +kernel
theorem dX6_goes_41 : decode cX6_goes 41 = .ok (.ireturn, 1) := by decide +kernel
theorem dX6_isNode_0 : decode cX6_isNode 0 = .ok (.iload_n 1, 1) := by decide +kernel
theorem dX6_isNode_1 : decode cX6_isNode 1 = .ok (.ifCond .lt 15, 3) := by decide +kernel
theorem dX6_isNode_4 : decode cX6_isNode 4 = .ok (.iload_n 1, 1) := by decide +kernel
theorem dX6_isNode_5 : decode cX6_isNode 5 = .ok (.aload_n 0, 1) := by decide +kernel
theorem dX6_isNode_6 : decode cX6_isNode 6 = .ok (.getfield 55, 3) := by decide +kernel
theorem dX6_isNode_9 : decode cX6_isNode 9 = .ok (.if_icmp .ge 7, 3) := by decide +kernel
theorem dX6_isNode_12 : decode cX6_isNode 12 = .ok (.iconst 1, 1) := by decide +kernel
theorem dX6_isNode_13 : decode cX6_isNode 13 = .ok (.goto 4, 3) := by decide +kernel
theorem dX6_isNode_16 : decode cX6_isNode 16 = .ok (.iconst 0, 1) := by decide +kernel
theorem dX6_isNode_17 : decode cX6_isNode 17 = .ok (.ireturn, 1) := by decide +kernel
set_option maxRecDepth 20000 in
theorem ggX6_isStation_X6_isNode : GoodIn wsX6_isStation wsX6_isNode := goodIn_r _ [6, 7, 8, 9, 10, 11, 12, 13, 14, 15, 16, 17, 18, 19, 20, 21, 22, 23, 24, 25, 26] (by decide +kernel) (by decide +kernel)
set_option maxRecDepth 20000 in
theorem gX6_isStation_X6_isNode : GoodIn wsX6_isStation (wsV RX6 58 RX6 yX6_isNode wsX6_isNode) := goodIn_app (goodIn_of _ (by decide +kernel)) ggX6_isStation_X6_isNode
theorem dX6_isStation_0 : decode cX6_isStation 0 = .ok (.aload_n 0, 1) := by decide +kernel
theorem dX6_isStation_1 : decode cX6_isStation 1 = .ok (.iload_n 1, 1) := by decide +kernel
theorem dX6_isStation_2 : decode cX6_isStation 2 = .ok (.invokevirtual 58, 3) := by decide +kernel
theorem dX6_isStation_5 : decode cX6_isStation 5 = .ok (.ifCond .eq 16, 3) := by decide +kernel
theorem dX6_isStation_8 : decode cX6_isStation 8 = .ok (.aload_n 0, 1) := by decide +kernel
theorem dX6_isStation_9 : decode cX6_isStation 9 = .ok (.getfield 22, 3) := by decide +kernel
theorem dX6_isStation_12 : decode cX6_isStation 12 = .ok (.iload_n 1, 1) := by decide +kernel
theorem dX6_isStation_13 : decode cX6_isStation 13 = .ok (.baload, 1) := by decide +kernel
theorem dX6_isStation_14 : decode cX6_isStation 14 = .ok (.ifCond .ne 7, 3) := by decide +kernel
theorem dX6_isStation_17 : decode cX6_isStation 17 = .ok (.iconst 1, 1) := by decide +kernel
theorem dX6_isStation_18 : decode cX6_isStation 18 = .ok (.goto 4, 3) := by decide +kernel
theorem dX6_isStation_21 : decode cX6_isStation 21 = .ok (.iconst 0, 1) := by decide +kernel
theorem dX6_isStation_22 : decode cX6_isStation 22 = .ok (.ireturn, 1) := by decide +kernel
theorem dX6_isMessage_0 : decode cX6_isMessage 0 = .ok (.iload_n 1, 1) := by decide +kernel
theorem dX6_isMessage_1 : decode cX6_isMessage 1 = .ok (.ifCond .lt 15, 3) := by decide +kernel
theorem dX6_isMessage_4 : decode cX6_isMessage 4 = .ok (.iload_n 1, 1) := by decide +kernel
theorem dX6_isMessage_5 : decode cX6_isMessage 5 = .ok (.aload_n 0, 1) := by decide +kernel
theorem dX6_isMessage_6 : decode cX6_isMessage 6 = .ok (.getfield 62, 3) := by decide +kernel
theorem dX6_isMessage_9 : decode cX6_isMessage 9 = .ok (.if_icmp .ge 7, 3) := by decide +kernel
theorem dX6_isMessage_12 : decode cX6_isMessage 12 = .ok (.iconst 1, 1) := by decide +kernel
theorem dX6_isMessage_13 : decode cX6_isMessage 13 = .ok (.goto 4, 3) := by decide +kernel
theorem dX6_isMessage_16 : decode cX6_isMessage 16 = .ok (.iconst 0, 1) := by decide +kernel
theorem dX6_isMessage_17 : decode cX6_isMessage 17 = .ok (.ireturn, 1) := by decide +kernel
theorem dX6_isMinute_0 : decode cX6_isMinute 0 = .ok (.iload_n 0, 1) := by decide +kernel
theorem dX6_isMinute_1 : decode cX6_isMinute 1 = .ok (.ifCond .lt 13, 3) := by decide +kernel
theorem dX6_isMinute_4 : decode cX6_isMinute 4 = .ok (.iload_n 0, 1) := by decide +kernel
theorem dX6_isMinute_5 : decode cX6_isMinute 5 = .ok (.ldc 65, 2) := by decide +kernel
theorem dX6_isMinute_7 : decode cX6_isMinute 7 = .ok (.if_icmp .gt 7, 3) := by decide +kernel
theorem dX6_isMinute_10 : decode cX6_isMinute 10 = .ok (.iconst 1, 1) := by decide +kernel
theorem dX6_isMinute_11 : decode cX6_isMinute 11 = .ok (.goto 4, 3) := by decide +kernel
theorem dX6_isMinute_14 : decode cX6_isMinute 14 = .ok (.iconst 0, 1) := by decide +kernel
theorem dX6_isMinute_15 : decode cX6_isMinute 15 = .ok (.ireturn, 1) := by decide +kernel
theorem dX6_has_0 : decode cX6_has 0 = .ok (.iload_n 0, 1) := by decide +kernel
theorem dX6_has_1 : decode cX6_has 1 = .ok (.iload_n 1, 1) := by decide +kernel
theorem dX6_has_2 : decode cX6_has 2 = .ok (.ishr, 1) := by decide +kernel
theorem dX6_has_3 : decode cX6_has 3 = .ok (.iconst 1, 1) := by decide +kernel
theorem dX6_has_4 : decode cX6_has 4 = .ok (.iand, 1) := by decide +kernel
theorem dX6_has_5 : decode cX6_has 5 = .ok (.iconst 1, 1) := by decide +kernel
theorem dX6_has_6 : decode cX6_has 6 = .ok (.if_icmp .ne 7, 3) := by decide +kernel
theorem dX6_has_9 : decode cX6_has 9 = .ok (.iconst 1, 1) := by decide +kernel
theorem dX6_has_10 : decode cX6_has 10 = .ok (.goto 4, 3) := by decide +kernel
theorem dX6_has_13 : decode cX6_has 13 = .ok (.iconst 0, 1) := by decide +kernel
theorem dX6_has_14 : decode cX6_has 14 = .ok (.ireturn, 1) := by decide +kernel
theorem dX6_placeOf_0 : decode cX6_placeOf 0 = .ok (.iload_n 2, 1) := by decide +kernel
theorem dX6_placeOf_1 : decode cX6_placeOf 1 = .ok (.sipush 360, 3) := by decide +kernel
theorem dX6_placeOf_4 : decode cX6_placeOf 4 = .ok (.irem, 1) := by decide +kernel
theorem dX6_placeOf_5 : decode cX6_placeOf 5 = .ok (.aload_n 0, 1) := by decide +kernel
theorem dX6_placeOf_6 : decode cX6_placeOf 6 = .ok (.getfield 13, 3) := by decide +kernel
theorem dX6_placeOf_9 : decode cX6_placeOf 9 = .ok (.iload_n 1, 1) := by decide +kernel
theorem dX6_placeOf_10 : decode cX6_placeOf 10 = .ok (.iaload, 1) := by decide +kernel
theorem dX6_placeOf_11 : decode cX6_placeOf 11 = .ok (.imul, 1) := by decide +kernel
theorem dX6_placeOf_12 : decode cX6_placeOf 12 = .ok (.istore_n 3, 1) := by decide +kernel
theorem dX6_placeOf_13 : decode cX6_placeOf 13 = .ok (.aload_n 0, 1) := by decide +kernel
theorem dX6_placeOf_14 : decode cX6_placeOf 14 = .ok (.getfield 7, 3) := by decide +kernel
theorem dX6_placeOf_17 : decode cX6_placeOf 17 = .ok (.iload_n 1, 1) := by decide +kernel
theorem dX6_placeOf_18 : decode cX6_placeOf 18 = .ok (.iaload, 1) := by decide +kernel
theorem dX6_placeOf_19 : decode cX6_placeOf 19 = .ok (.iload_n 3, 1) := by decide +kernel
theorem dX6_placeOf_20 : decode cX6_placeOf 20 = .ok (.iadd, 1) := by decide +kernel
theorem dX6_placeOf_21 : decode cX6_placeOf 21 = .ok (.sipush 360, 3) := by decide +kernel
theorem dX6_placeOf_24 : decode cX6_placeOf 24 = .ok (.irem, 1) := by decide +kernel
theorem dX6_placeOf_25 : decode cX6_placeOf 25 = .ok (.sipush 360, 3) := by decide +kernel
theorem dX6_placeOf_28 : decode cX6_placeOf 28 = .ok (.iadd, 1) := by decide +kernel
theorem dX6_placeOf_29 : decode cX6_placeOf 29 = .ok (.sipush 360, 3) := by decide +kernel
theorem dX6_placeOf_32 : decode cX6_placeOf 32 = .ok (.irem, 1) := by decide +kernel
theorem dX6_placeOf_33 : decode cX6_placeOf 33 = .ok (.ireturn, 1) := by decide +kernel
set_option maxRecDepth 20000 in
theorem ggX6_sees_X6_placeOf : GoodIn wsX6_sees wsX6_placeOf := goodIn_r _ [7, 8, 9, 10, 11, 12, 13, 14, 15, 16, 17, 18, 19, 20, 21, 22, 23, 24, 25, 26, 27, 28] (by decide +kernel) (by decide +kernel)
set_option maxRecDepth 20000 in
theorem gX6_sees_X6_placeOf : GoodIn wsX6_sees (wsV RX6 66 RX6 yX6_placeOf wsX6_placeOf) := goodIn_app (goodIn_of _ (by decide +kernel)) ggX6_sees_X6_placeOf
theorem dX6_sees_0 : decode cX6_sees 0 = .ok (.aload_n 0, 1) := by decide +kernel
theorem dX6_sees_1 : decode cX6_sees 1 = .ok (.iload_n 1, 1) := by decide +kernel
theorem dX6_sees_2 : decode cX6_sees 2 = .ok (.iload_n 3, 1) := by decide +kernel
theorem dX6_sees_3 : decode cX6_sees 3 = .ok (.invokevirtual 66, 3) := by decide +kernel
theorem dX6_sees_6 : decode cX6_sees 6 = .ok (.aload_n 0, 1) := by decide +kernel
theorem dX6_sees_7 : decode cX6_sees 7 = .ok (.iload_n 2, 1) := by decide +kernel
theorem dX6_sees_8 : decode cX6_sees 8 = .ok (.iload_n 3, 1) := by decide +kernel
theorem dX6_sees_9 : decode cX6_sees 9 = .ok (.invokevirtual 66, 3) := by decide +kernel
theorem dX6_sees_12 : decode cX6_sees 12 = .ok (.isub, 1) := by decide +kernel
theorem dX6_sees_13 : decode cX6_sees 13 = .ok (.istore 4, 2) := by decide +kernel
theorem dX6_sees_15 : decode cX6_sees 15 = .ok (.iload 4, 2) := by decide +kernel
theorem dX6_sees_17 : decode cX6_sees 17 = .ok (.ifCond .ge 9, 3) := by decide +kernel
theorem dX6_sees_20 : decode cX6_sees 20 = .ok (.iload 4, 2) := by decide +kernel
theorem dX6_sees_22 : decode cX6_sees 22 = .ok (.ineg, 1) := by decide +kernel
theorem dX6_sees_23 : decode cX6_sees 23 = .ok (.goto 5, 3) := by decide +kernel
theorem dX6_sees_26 : decode cX6_sees 26 = .ok (.iload 4, 2) := by decide +kernel
theorem dX6_sees_28 : decode cX6_sees 28 = .ok (.istore 4, 2) := by decide +kernel
theorem dX6_sees_30 : decode cX6_sees 30 = .ok (.iload 4, 2) := by decide +kernel
theorem dX6_sees_32 : decode cX6_sees 32 = .ok (.sipush 360, 3) := by decide +kernel
theorem dX6_sees_35 : decode cX6_sees 35 = .ok (.iload 4, 2) := by decide +kernel
theorem dX6_sees_37 : decode cX6_sees 37 = .ok (.isub, 1) := by decide +kernel
theorem dX6_sees_38 : decode cX6_sees 38 = .ok (.if_icmp .le 12, 3) := by decide +kernel
theorem dX6_sees_41 : decode cX6_sees 41 = .ok (.sipush 360, 3) := by decide +kernel
theorem dX6_sees_44 : decode cX6_sees 44 = .ok (.iload 4, 2) := by decide +kernel
theorem dX6_sees_46 : decode cX6_sees 46 = .ok (.isub, 1) := by decide +kernel
theorem dX6_sees_47 : decode cX6_sees 47 = .ok (.goto 5, 3) := by decide +kernel
theorem dX6_sees_50 : decode cX6_sees 50 = .ok (.iload 4, 2) := by decide +kernel
theorem dX6_sees_52 : decode cX6_sees 52 = .ok (.istore 4, 2) := by decide +kernel
theorem dX6_sees_54 : decode cX6_sees 54 = .ok (.aload_n 0, 1) := by decide +kernel
theorem dX6_sees_55 : decode cX6_sees 55 = .ok (.getfield 22, 3) := by decide +kernel
theorem dX6_sees_58 : decode cX6_sees 58 = .ok (.iload_n 1, 1) := by decide +kernel
theorem dX6_sees_59 : decode cX6_sees 59 = .ok (.baload, 1) := by decide +kernel
theorem dX6_sees_60 : decode cX6_sees 60 = .ok (.ifCond .ne 12, 3) := by decide +kernel
theorem dX6_sees_63 : decode cX6_sees 63 = .ok (.aload_n 0, 1) := by decide +kernel
theorem dX6_sees_64 : decode cX6_sees 64 = .ok (.getfield 16, 3) := by decide +kernel
theorem dX6_sees_67 : decode cX6_sees 67 = .ok (.iload_n 2, 1) := by decide +kernel
theorem dX6_sees_68 : decode cX6_sees 68 = .ok (.iaload, 1) := by decide +kernel
theorem dX6_sees_69 : decode cX6_sees 69 = .ok (.goto 42, 3) := by decide +kernel
theorem dX6_sees_72 : decode cX6_sees 72 = .ok (.aload_n 0, 1) := by decide +kernel
theorem dX6_sees_73 : decode cX6_sees 73 = .ok (.getfield 22, 3) := by decide +kernel
theorem dX6_sees_76 : decode cX6_sees 76 = .ok (.iload_n 2, 1) := by decide +kernel
theorem dX6_sees_77 : decode cX6_sees 77 = .ok (.baload, 1) := by decide +kernel
theorem dX6_sees_78 : decode cX6_sees 78 = .ok (.ifCond .eq 18, 3) := by decide +kernel
theorem dX6_sees_81 : decode cX6_sees 81 = .ok (.aload_n 0, 1) := by decide +kernel
theorem dX6_sees_82 : decode cX6_sees 82 = .ok (.getfield 16, 3) := by decide +kernel
theorem dX6_sees_85 : decode cX6_sees 85 = .ok (.iload_n 1, 1) := by decide +kernel
theorem dX6_sees_86 : decode cX6_sees 86 = .ok (.iaload, 1) := by decide +kernel
theorem dX6_sees_87 : decode cX6_sees 87 = .ok (.aload_n 0, 1) := by decide +kernel
theorem dX6_sees_88 : decode cX6_sees 88 = .ok (.getfield 16, 3) := by decide +kernel
theorem dX6_sees_91 : decode cX6_sees 91 = .ok (.iload_n 2, 1) := by decide +kernel
theorem dX6_sees_92 : decode cX6_sees 92 = .ok (.iaload, 1) := by decide +kernel
theorem dX6_sees_93 : decode cX6_sees 93 = .ok (.if_icmp .ge 12, 3) := by decide +kernel
theorem dX6_sees_96 : decode cX6_sees 96 = .ok (.aload_n 0, 1) := by decide +kernel
theorem dX6_sees_97 : decode cX6_sees 97 = .ok (.getfield 16, 3) := by decide +kernel
theorem dX6_sees_100 : decode cX6_sees 100 = .ok (.iload_n 1, 1) := by decide +kernel
theorem dX6_sees_101 : decode cX6_sees 101 = .ok (.iaload, 1) := by decide +kernel
theorem dX6_sees_102 : decode cX6_sees 102 = .ok (.goto 9, 3) := by decide +kernel
theorem dX6_sees_105 : decode cX6_sees 105 = .ok (.aload_n 0, 1) := by decide +kernel
theorem dX6_sees_106 : decode cX6_sees 106 = .ok (.getfield 16, 3) := by decide +kernel
theorem dX6_sees_109 : decode cX6_sees 109 = .ok (.iload_n 2, 1) := by decide +kernel
theorem dX6_sees_110 : decode cX6_sees 110 = .ok (.iaload, 1) := by decide +kernel
theorem dX6_sees_111 : decode cX6_sees 111 = .ok (.istore 5, 2) := by decide +kernel
theorem dX6_sees_113 : decode cX6_sees 113 = .ok (.iload_n 1, 1) := by decide +kernel
theorem dX6_sees_114 : decode cX6_sees 114 = .ok (.iload_n 2, 1) := by decide +kernel
theorem dX6_sees_115 : decode cX6_sees 115 = .ok (.if_icmp .eq 32, 3) := by decide +kernel
theorem dX6_sees_118 : decode cX6_sees 118 = .ok (.aload_n 0, 1) := by decide +kernel
theorem dX6_sees_119 : decode cX6_sees 119 = .ok (.getfield 22, 3) := by decide +kernel
theorem dX6_sees_122 : decode cX6_sees 122 = .ok (.iload_n 1, 1) := by decide +kernel
theorem dX6_sees_123 : decode cX6_sees 123 = .ok (.baload, 1) := by decide +kernel
theorem dX6_sees_124 : decode cX6_sees 124 = .ok (.ifCond .ne 12, 3) := by decide +kernel
theorem dX6_sees_127 : decode cX6_sees 127 = .ok (.aload_n 0, 1) := by decide +kernel
theorem dX6_sees_128 : decode cX6_sees 128 = .ok (.getfield 22, 3) := by decide +kernel
theorem dX6_sees_131 : decode cX6_sees 131 = .ok (.iload_n 2, 1) := by decide +kernel
theorem dX6_sees_132 : decode cX6_sees 132 = .ok (.baload, 1) := by decide +kernel
theorem dX6_sees_133 : decode cX6_sees 133 = .ok (.ifCond .eq 14, 3) := by decide +kernel
theorem dX6_sees_136 : decode cX6_sees 136 = .ok (.iload 4, 2) := by decide +kernel
theorem dX6_sees_138 : decode cX6_sees 138 = .ok (.iload 5, 2) := by decide +kernel
theorem dX6_sees_140 : decode cX6_sees 140 = .ok (.if_icmp .gt 7, 3) := by decide +kernel
theorem dX6_sees_143 : decode cX6_sees 143 = .ok (.iconst 1, 1) := by decide +kernel
theorem dX6_sees_144 : decode cX6_sees 144 = .ok (.goto 4, 3) := by decide +kernel
theorem dX6_sees_147 : decode cX6_sees 147 = .ok (.iconst 0, 1) := by decide +kernel
theorem dX6_sees_148 : decode cX6_sees 148 = .ok (.ireturn, 1) := by decide +kernel
set_option maxRecDepth 20000 in
theorem ggX6_looks_X6_sees : GoodIn wsX6_looks wsX6_sees := goodIn_r _ [7, 8, 9, 10, 11, 12, 6, 13, 14, 15, 16, 17, 18, 19, 20, 21, 22, 23, 24, 25, 26, 27, 28, 29, 30, 31, 32, 33, 34] (by decide +kernel) (by decide +kernel)
set_option maxRecDepth 20000 in
theorem gX6_looks_X6_sees : GoodIn wsX6_looks (wsV RX6 70 RX6 yX6_sees wsX6_sees) := goodIn_app (goodIn_of _ (by decide +kernel)) ggX6_looks_X6_sees
theorem dX6_looks_0 : decode cX6_looks 0 = .ok (.aload_n 0, 1) := by decide +kernel
theorem dX6_looks_1 : decode cX6_looks 1 = .ok (.getfield 55, 3) := by decide +kernel
theorem dX6_looks_4 : decode cX6_looks 4 = .ok (.iconst 1, 1) := by decide +kernel
theorem dX6_looks_5 : decode cX6_looks 5 = .ok (.isub, 1) := by decide +kernel
theorem dX6_looks_6 : decode cX6_looks 6 = .ok (.istore_n 1, 1) := by decide +kernel
theorem dX6_looks_7 : decode cX6_looks 7 = .ok (.iconst 0, 1) := by decide +kernel
theorem dX6_looks_8 : decode cX6_looks 8 = .ok (.istore_n 2, 1) := by decide +kernel
theorem dX6_looks_9 : decode cX6_looks 9 = .ok (.iload_n 2, 1) := by decide +kernel
theorem dX6_looks_10 : decode cX6_looks 10 = .ok (.sipush 360, 3) := by decide +kernel
theorem dX6_looks_13 : decode cX6_looks 13 = .ok (.if_icmp .ge 66, 3) := by decide +kernel
theorem dX6_looks_16 : decode cX6_looks 16 = .ok (.iconst 0, 1) := by decide +kernel
theorem dX6_looks_17 : decode cX6_looks 17 = .ok (.istore_n 3, 1) := by decide +kernel
theorem dX6_looks_18 : decode cX6_looks 18 = .ok (.iload_n 3, 1) := by decide +kernel
theorem dX6_looks_19 : decode cX6_looks 19 = .ok (.iload_n 1, 1) := by decide +kernel
theorem dX6_looks_20 : decode cX6_looks 20 = .ok (.if_icmp .ge 53, 3) := by decide +kernel
theorem dX6_looks_23 : decode cX6_looks 23 = .ok (.aload_n 0, 1) := by decide +kernel
theorem dX6_looks_24 : decode cX6_looks 24 = .ok (.iload_n 3, 1) := by decide +kernel
theorem dX6_looks_25 : decode cX6_looks 25 = .ok (.iload_n 1, 1) := by decide +kernel
theorem dX6_looks_26 : decode cX6_looks 26 = .ok (.iload_n 2, 1) := by decide +kernel
theorem dX6_looks_27 : decode cX6_looks 27 = .ok (.invokevirtual 70, 3) := by decide +kernel
theorem dX6_looks_30 : decode cX6_looks 30 = .ok (.ifCond .eq 37, 3) := by decide +kernel
theorem dX6_looks_33 : decode cX6_looks 33 = .ok (.aload_n 0, 1) := by decide +kernel
theorem dX6_looks_34 : decode cX6_looks 34 = .ok (.getfield 26, 3) := by decide +kernel
theorem dX6_looks_37 : decode cX6_looks 37 = .ok (.bipush 10, 2) := by decide +kernel
theorem dX6_looks_39 : decode cX6_looks 39 = .ok (.iload_n 2, 1) := by decide +kernel
theorem dX6_looks_40 : decode cX6_looks 40 = .ok (.imul, 1) := by decide +kernel
theorem dX6_looks_41 : decode cX6_looks 41 = .ok (.iload_n 3, 1) := by decide +kernel
theorem dX6_looks_42 : decode cX6_looks 42 = .ok (.iadd, 1) := by decide +kernel
theorem dX6_looks_43 : decode cX6_looks 43 = .ok (.dup2, 1) := by decide +kernel
theorem dX6_looks_44 : decode cX6_looks 44 = .ok (.iaload, 1) := by decide +kernel
theorem dX6_looks_45 : decode cX6_looks 45 = .ok (.iconst 1, 1) := by decide +kernel
theorem dX6_looks_46 : decode cX6_looks 46 = .ok (.iload_n 1, 1) := by decide +kernel
theorem dX6_looks_47 : decode cX6_looks 47 = .ok (.ishl, 1) := by decide +kernel
theorem dX6_looks_48 : decode cX6_looks 48 = .ok (.ior, 1) := by decide +kernel
theorem dX6_looks_49 : decode cX6_looks 49 = .ok (.iastore, 1) := by decide +kernel
theorem dX6_looks_50 : decode cX6_looks 50 = .ok (.aload_n 0, 1) := by decide +kernel
theorem dX6_looks_51 : decode cX6_looks 51 = .ok (.getfield 26, 3) := by decide +kernel
theorem dX6_looks_54 : decode cX6_looks 54 = .ok (.bipush 10, 2) := by decide +kernel
theorem dX6_looks_56 : decode cX6_looks 56 = .ok (.iload_n 2, 1) := by decide +kernel
theorem dX6_looks_57 : decode cX6_looks 57 = .ok (.imul, 1) := by decide +kernel
theorem dX6_looks_58 : decode cX6_looks 58 = .ok (.iload_n 1, 1) := by decide +kernel
theorem dX6_looks_59 : decode cX6_looks 59 = .ok (.iadd, 1) := by decide +kernel
theorem dX6_looks_60 : decode cX6_looks 60 = .ok (.dup2, 1) := by decide +kernel
theorem dX6_looks_61 : decode cX6_looks 61 = .ok (.iaload, 1) := by decide +kernel
theorem dX6_looks_62 : decode cX6_looks 62 = .ok (.iconst 1, 1) := by decide +kernel
theorem dX6_looks_63 : decode cX6_looks 63 = .ok (.iload_n 3, 1) := by decide +kernel
theorem dX6_looks_64 : decode cX6_looks 64 = .ok (.ishl, 1) := by decide +kernel
theorem dX6_looks_65 : decode cX6_looks 65 = .ok (.ior, 1) := by decide +kernel
theorem dX6_looks_66 : decode cX6_looks 66 = .ok (.iastore, 1) := by decide +kernel
theorem dX6_looks_67 : decode cX6_looks 67 = .ok (.iinc 3 1, 3) := by decide +kernel
theorem dX6_looks_70 : decode cX6_looks 70 = .ok (.goto (-52), 3) := by decide +kernel
theorem dX6_looks_73 : decode cX6_looks 73 = .ok (.iinc 2 1, 3) := by decide +kernel
theorem dX6_looks_76 : decode cX6_looks 76 = .ok (.goto (-67), 3) := by decide +kernel
theorem dX6_looks_79 : decode cX6_looks 79 = .ok (.return_, 1) := by decide +kernel
theorem dX6_seenAt_0 : decode cX6_seenAt 0 = .ok (.aload_n 0, 1) := by decide +kernel
theorem dX6_seenAt_1 : decode cX6_seenAt 1 = .ok (.getfield 26, 3) := by decide +kernel
theorem dX6_seenAt_4 : decode cX6_seenAt 4 = .ok (.bipush 10, 2) := by decide +kernel
theorem dX6_seenAt_6 : decode cX6_seenAt 6 = .ok (.iload_n 2, 1) := by decide +kernel
theorem dX6_seenAt_7 : decode cX6_seenAt 7 = .ok (.sipush 360, 3) := by decide +kernel
theorem dX6_seenAt_10 : decode cX6_seenAt 10 = .ok (.irem, 1) := by decide +kernel
theorem dX6_seenAt_11 : decode cX6_seenAt 11 = .ok (.imul, 1) := by decide +kernel
theorem dX6_seenAt_12 : decode cX6_seenAt 12 = .ok (.iload_n 1, 1) := by decide +kernel
theorem dX6_seenAt_13 : decode cX6_seenAt 13 = .ok (.iadd, 1) := by decide +kernel
theorem dX6_seenAt_14 : decode cX6_seenAt 14 = .ok (.iaload, 1) := by decide +kernel
theorem dX6_seenAt_15 : decode cX6_seenAt 15 = .ok (.ireturn, 1) := by decide +kernel
set_option maxRecDepth 20000 in
theorem ggX6_adds_X6_looks : GoodIn wsX6_adds wsX6_looks := goodIn_r _ [12, 2, 13, 14, 15, 16, 11, 17, 6, 4, 18, 19, 20, 21, 3, 1, 22, 23, 24, 25, 26, 27, 28, 29, 30, 31, 32, 33, 34, 35, 36, 37, 38, 39, 40] (by decide +kernel) (by decide +kernel)
set_option maxRecDepth 20000 in
theorem gX6_adds_X6_looks : GoodIn wsX6_adds (wsV RX6 74 RX6 yX6_looks wsX6_looks) := goodIn_app (goodIn_of _ (by decide +kernel)) ggX6_adds_X6_looks
theorem dX6_adds_0 : decode cX6_adds 0 = .ok (.aload_n 0, 1) := by decide +kernel
theorem dX6_adds_1 : decode cX6_adds 1 = .ok (.getfield 7, 3) := by decide +kernel
theorem dX6_adds_4 : decode cX6_adds 4 = .ok (.aload_n 0, 1) := by decide +kernel
theorem dX6_adds_5 : decode cX6_adds 5 = .ok (.getfield 55, 3) := by decide +kernel
theorem dX6_adds_8 : decode cX6_adds 8 = .ok (.iload_n 1, 1) := by decide +kernel
theorem dX6_adds_9 : decode cX6_adds 9 = .ok (.iastore, 1) := by decide +kernel
theorem dX6_adds_10 : decode cX6_adds 10 = .ok (.aload_n 0, 1) := by decide +kernel
theorem dX6_adds_11 : decode cX6_adds 11 = .ok (.getfield 13, 3) := by decide +kernel
theorem dX6_adds_14 : decode cX6_adds 14 = .ok (.aload_n 0, 1) := by decide +kernel
theorem dX6_adds_15 : decode cX6_adds 15 = .ok (.getfield 55, 3) := by decide +kernel
theorem dX6_adds_18 : decode cX6_adds 18 = .ok (.iload_n 2, 1) := by decide +kernel
theorem dX6_adds_19 : decode cX6_adds 19 = .ok (.iastore, 1) := by decide +kernel
theorem dX6_adds_20 : decode cX6_adds 20 = .ok (.aload_n 0, 1) := by decide +kernel
theorem dX6_adds_21 : decode cX6_adds 21 = .ok (.getfield 16, 3) := by decide +kernel
theorem dX6_adds_24 : decode cX6_adds 24 = .ok (.aload_n 0, 1) := by decide +kernel
theorem dX6_adds_25 : decode cX6_adds 25 = .ok (.getfield 55, 3) := by decide +kernel
theorem dX6_adds_28 : decode cX6_adds 28 = .ok (.iload_n 3, 1) := by decide +kernel
theorem dX6_adds_29 : decode cX6_adds 29 = .ok (.iastore, 1) := by decide +kernel
theorem dX6_adds_30 : decode cX6_adds 30 = .ok (.aload_n 0, 1) := by decide +kernel
theorem dX6_adds_31 : decode cX6_adds 31 = .ok (.getfield 19, 3) := by decide +kernel
theorem dX6_adds_34 : decode cX6_adds 34 = .ok (.aload_n 0, 1) := by decide +kernel
theorem dX6_adds_35 : decode cX6_adds 35 = .ok (.getfield 55, 3) := by decide +kernel
theorem dX6_adds_38 : decode cX6_adds 38 = .ok (.iload 4, 2) := by decide +kernel
theorem dX6_adds_40 : decode cX6_adds 40 = .ok (.iastore, 1) := by decide +kernel
theorem dX6_adds_41 : decode cX6_adds 41 = .ok (.aload_n 0, 1) := by decide +kernel
theorem dX6_adds_42 : decode cX6_adds 42 = .ok (.getfield 22, 3) := by decide +kernel
theorem dX6_adds_45 : decode cX6_adds 45 = .ok (.aload_n 0, 1) := by decide +kernel
theorem dX6_adds_46 : decode cX6_adds 46 = .ok (.getfield 55, 3) := by decide +kernel
theorem dX6_adds_49 : decode cX6_adds 49 = .ok (.iload 5, 2) := by decide +kernel
theorem dX6_adds_51 : decode cX6_adds 51 = .ok (.bastore, 1) := by decide +kernel
theorem dX6_adds_52 : decode cX6_adds 52 = .ok (.aload_n 0, 1) := by decide +kernel
theorem dX6_adds_53 : decode cX6_adds 53 = .ok (.getfield 29, 3) := by decide +kernel
theorem dX6_adds_56 : decode cX6_adds 56 = .ok (.aload_n 0, 1) := by decide +kernel
theorem dX6_adds_57 : decode cX6_adds 57 = .ok (.getfield 55, 3) := by decide +kernel
theorem dX6_adds_60 : decode cX6_adds 60 = .ok (.iconst (-1), 1) := by decide +kernel
theorem dX6_adds_61 : decode cX6_adds 61 = .ok (.iastore, 1) := by decide +kernel
theorem dX6_adds_62 : decode cX6_adds 62 = .ok (.aload_n 0, 1) := by decide +kernel
theorem dX6_adds_63 : decode cX6_adds 63 = .ok (.dup, 1) := by decide +kernel
theorem dX6_adds_64 : decode cX6_adds 64 = .ok (.getfield 55, 3) := by decide +kernel
theorem dX6_adds_67 : decode cX6_adds 67 = .ok (.iconst 1, 1) := by decide +kernel
theorem dX6_adds_68 : decode cX6_adds 68 = .ok (.iadd, 1) := by decide +kernel
theorem dX6_adds_69 : decode cX6_adds 69 = .ok (.putfield 55, 3) := by decide +kernel
theorem dX6_adds_72 : decode cX6_adds 72 = .ok (.aload_n 0, 1) := by decide +kernel
theorem dX6_adds_73 : decode cX6_adds 73 = .ok (.invokevirtual 74, 3) := by decide +kernel
theorem dX6_adds_76 : decode cX6_adds 76 = .ok (.aload_n 0, 1) := by decide +kernel
theorem dX6_adds_77 : decode cX6_adds 77 = .ok (.getfield 55, 3) := by decide +kernel
theorem dX6_adds_80 : decode cX6_adds 80 = .ok (.iconst 1, 1) := by decide +kernel
theorem dX6_adds_81 : decode cX6_adds 81 = .ok (.isub, 1) := by decide +kernel
theorem dX6_adds_82 : decode cX6_adds 82 = .ok (.ireturn, 1) := by decide +kernel
set_option maxRecDepth 20000 in
theorem ggX6_addStation_X6_goes : GoodIn wsX6_addStation wsX6_goes := goodIn_r _ [7, 8, 49, 50, 51, 52, 53, 54, 55, 56, 57, 58, 59, 60, 61, 62, 63, 64, 65, 66, 67] (by decide +kernel) (by decide +kernel)
set_option maxRecDepth 20000 in
theorem gX6_addStation_X6_goes : GoodIn wsX6_addStation (wsV RX6 80 RX6 yX6_goes wsX6_goes) := goodIn_app (goodIn_of _ (by decide +kernel)) ggX6_addStation_X6_goes
set_option maxRecDepth 20000 in
theorem ggX6_addStation_X6_adds : GoodIn wsX6_addStation wsX6_adds := goodIn_r _ [12, 13, 1, 14, 15, 16, 17, 18, 19, 20, 21, 6, 22, 23, 24, 25, 26, 27, 28, 29, 30, 31, 49, 50, 51, 52, 53, 54, 55, 56, 57, 58, 59, 60, 61, 62, 63, 64, 65, 66, 67] (by decide +kernel) (by decide +kernel)
set_option maxRecDepth 20000 in
theorem gX6_addStation_X6_adds : GoodIn wsX6_addStation (wsV RX6 84 RX6 yX6_adds wsX6_adds) := goodIn_app (goodIn_of _ (by decide +kernel)) ggX6_addStation_X6_adds
set_option maxRecDepth 20000 in
theorem ggX6_addStation_X6_serves : GoodIn wsX6_addStation wsX6_serves := goodIn_r _ [35, 18, 36, 1, 37, 38, 39, 40, 6, 41, 23, 42, 43, 44, 45, 46, 47, 48, 49, 50, 51, 52, 53, 54, 55, 56, 57, 58, 59, 60, 61, 62, 63, 64, 65, 66, 67] (by decide +kernel) (by decide +kernel)
set_option maxRecDepth 20000 in
theorem gX6_addStation_X6_serves : GoodIn wsX6_addStation (wsV RX6 88 RX6 yX6_serves wsX6_serves) := goodIn_app (goodIn_of _ (by decide +kernel)) ggX6_addStation_X6_serves
theorem dX6_addStation_0 : decode cX6_addStation 0 = .ok (.aload_n 0, 1) := by decide +kernel
theorem dX6_addStation_1 : decode cX6_addStation 1 = .ok (.iload_n 1, 1) := by decide +kernel
theorem dX6_addStation_2 : decode cX6_addStation 2 = .ok (.ifCond .lt 14, 3) := by decide +kernel
theorem dX6_addStation_5 : decode cX6_addStation 5 = .ok (.iload_n 1, 1) := by decide +kernel
theorem dX6_addStation_6 : decode cX6_addStation 6 = .ok (.sipush 360, 3) := by decide +kernel
theorem dX6_addStation_9 : decode cX6_addStation 9 = .ok (.if_icmp .ge 7, 3) := by decide +kernel
theorem dX6_addStation_12 : decode cX6_addStation 12 = .ok (.iconst 1, 1) := by decide +kernel
theorem dX6_addStation_13 : decode cX6_addStation 13 = .ok (.goto 4, 3) := by decide +kernel
theorem dX6_addStation_16 : decode cX6_addStation 16 = .ok (.iconst 0, 1) := by decide +kernel
theorem dX6_addStation_17 : decode cX6_addStation 17 = .ok (.aload_n 0, 1) := by decide +kernel
theorem dX6_addStation_18 : decode cX6_addStation 18 = .ok (.getfield 55, 3) := by decide +kernel
theorem dX6_addStation_21 : decode cX6_addStation 21 = .ok (.aload_n 0, 1) := by decide +kernel
theorem dX6_addStation_22 : decode cX6_addStation 22 = .ok (.getfield 77, 3) := by decide +kernel
theorem dX6_addStation_25 : decode cX6_addStation 25 = .ok (.isub, 1) := by decide +kernel
theorem dX6_addStation_26 : decode cX6_addStation 26 = .ok (.iconst 4, 1) := by decide +kernel
theorem dX6_addStation_27 : decode cX6_addStation 27 = .ok (.if_icmp .ge 7, 3) := by decide +kernel
theorem dX6_addStation_30 : decode cX6_addStation 30 = .ok (.iconst 1, 1) := by decide +kernel
theorem dX6_addStation_31 : decode cX6_addStation 31 = .ok (.goto 4, 3) := by decide +kernel
theorem dX6_addStation_34 : decode cX6_addStation 34 = .ok (.iconst 0, 1) := by decide +kernel
theorem dX6_addStation_35 : decode cX6_addStation 35 = .ok (.iconst 1, 1) := by decide +kernel
theorem dX6_addStation_36 : decode cX6_addStation 36 = .ok (.invokevirtual 80, 3) := by decide +kernel
theorem dX6_addStation_39 : decode cX6_addStation 39 = .ok (.ifCond .ne 5, 3) := by decide +kernel
theorem dX6_addStation_42 : decode cX6_addStation 42 = .ok (.iconst 0, 1) := by decide +kernel
theorem dX6_addStation_43 : decode cX6_addStation 43 = .ok (.ireturn, 1) := by decide +kernel
theorem dX6_addStation_44 : decode cX6_addStation 44 = .ok (.aload_n 0, 1) := by decide +kernel
theorem dX6_addStation_45 : decode cX6_addStation 45 = .ok (.iload_n 1, 1) := by decide +kernel
theorem dX6_addStation_46 : decode cX6_addStation 46 = .ok (.iconst 0, 1) := by decide +kernel
theorem dX6_addStation_47 : decode cX6_addStation 47 = .ok (.iconst 0, 1) := by decide +kernel
theorem dX6_addStation_48 : decode cX6_addStation 48 = .ok (.iconst 0, 1) := by decide +kernel
theorem dX6_addStation_49 : decode cX6_addStation 49 = .ok (.iconst 0, 1) := by decide +kernel
theorem dX6_addStation_50 : decode cX6_addStation 50 = .ok (.invokevirtual 84, 3) := by decide +kernel
theorem dX6_addStation_53 : decode cX6_addStation 53 = .ok (.istore_n 2, 1) := by decide +kernel
theorem dX6_addStation_54 : decode cX6_addStation 54 = .ok (.aload_n 0, 1) := by decide +kernel
theorem dX6_addStation_55 : decode cX6_addStation 55 = .ok (.iload_n 2, 1) := by decide +kernel
theorem dX6_addStation_56 : decode cX6_addStation 56 = .ok (.invokevirtual 88, 3) := by decide +kernel
theorem dX6_addStation_59 : decode cX6_addStation 59 = .ok (.iload_n 2, 1) := by decide +kernel
theorem dX6_addStation_60 : decode cX6_addStation 60 = .ok (.ireturn, 1) := by decide +kernel
set_option maxRecDepth 20000 in
theorem ggX6_addRelay_X6_goes : GoodIn wsX6_addRelay wsX6_goes := goodIn_r _ [6, 7, 32, 33, 34, 35, 36, 37, 38, 39, 40, 41, 42, 43, 44, 45, 46, 47, 48, 49, 50] (by decide +kernel) (by decide +kernel)
set_option maxRecDepth 20000 in
theorem gX6_addRelay_X6_goes : GoodIn wsX6_addRelay (wsV RX6 80 RX6 yX6_goes wsX6_goes) := goodIn_app (goodIn_of _ (by decide +kernel)) ggX6_addRelay_X6_goes
set_option maxRecDepth 20000 in
theorem ggX6_addRelay_X6_adds : GoodIn wsX6_addRelay wsX6_adds := goodIn_r _ [11, 12, 13, 14, 15, 16, 17, 18, 19, 20, 21, 5, 22, 23, 24, 25, 26, 27, 28, 29, 30, 31, 32, 33, 34, 35, 36, 37, 38, 39, 40, 41, 42, 43, 44, 45, 46, 47, 48, 49, 50] (by decide +kernel) (by decide +kernel)
set_option maxRecDepth 20000 in
theorem gX6_addRelay_X6_adds : GoodIn wsX6_addRelay (wsV RX6 84 RX6 yX6_adds wsX6_adds) := goodIn_app (goodIn_of _ (by decide +kernel)) ggX6_addRelay_X6_adds
theorem dX6_addRelay_0 : decode cX6_addRelay 0 = .ok (.iload_n 1, 1) := by decide +kernel
theorem dX6_addRelay_1 : decode cX6_addRelay 1 = .ok (.ifCond .lt 50, 3) := by decide +kernel
theorem dX6_addRelay_4 : decode cX6_addRelay 4 = .ok (.iload_n 1, 1) := by decide +kernel
theorem dX6_addRelay_5 : decode cX6_addRelay 5 = .ok (.sipush 360, 3) := by decide +kernel
theorem dX6_addRelay_8 : decode cX6_addRelay 8 = .ok (.if_icmp .ge 43, 3) := by decide +kernel
theorem dX6_addRelay_11 : decode cX6_addRelay 11 = .ok (.iload_n 2, 1) := by decide +kernel
theorem dX6_addRelay_12 : decode cX6_addRelay 12 = .ok (.bipush (-30), 2) := by decide +kernel
theorem dX6_addRelay_14 : decode cX6_addRelay 14 = .ok (.if_icmp .lt 37, 3) := by decide +kernel
theorem dX6_addRelay_17 : decode cX6_addRelay 17 = .ok (.iload_n 2, 1) := by decide +kernel
theorem dX6_addRelay_18 : decode cX6_addRelay 18 = .ok (.bipush 30, 2) := by decide +kernel
theorem dX6_addRelay_20 : decode cX6_addRelay 20 = .ok (.if_icmp .gt 31, 3) := by decide +kernel
theorem dX6_addRelay_23 : decode cX6_addRelay 23 = .ok (.iload_n 3, 1) := by decide +kernel
theorem dX6_addRelay_24 : decode cX6_addRelay 24 = .ok (.ifCond .lt 27, 3) := by decide +kernel
theorem dX6_addRelay_27 : decode cX6_addRelay 27 = .ok (.iload_n 3, 1) := by decide +kernel
theorem dX6_addRelay_28 : decode cX6_addRelay 28 = .ok (.sipush 179, 3) := by decide +kernel
theorem dX6_addRelay_31 : decode cX6_addRelay 31 = .ok (.if_icmp .gt 20, 3) := by decide +kernel
theorem dX6_addRelay_34 : decode cX6_addRelay 34 = .ok (.iload 4, 2) := by decide +kernel
theorem dX6_addRelay_36 : decode cX6_addRelay 36 = .ok (.iconst 1, 1) := by decide +kernel
theorem dX6_addRelay_37 : decode cX6_addRelay 37 = .ok (.if_icmp .lt 14, 3) := by decide +kernel
theorem dX6_addRelay_40 : decode cX6_addRelay 40 = .ok (.iload 4, 2) := by decide +kernel
theorem dX6_addRelay_42 : decode cX6_addRelay 42 = .ok (.bipush 9, 2) := by decide +kernel
theorem dX6_addRelay_44 : decode cX6_addRelay 44 = .ok (.if_icmp .gt 7, 3) := by decide +kernel
theorem dX6_addRelay_47 : decode cX6_addRelay 47 = .ok (.iconst 1, 1) := by decide +kernel
theorem dX6_addRelay_48 : decode cX6_addRelay 48 = .ok (.goto 4, 3) := by decide +kernel
theorem dX6_addRelay_51 : decode cX6_addRelay 51 = .ok (.iconst 0, 1) := by decide +kernel
theorem dX6_addRelay_52 : decode cX6_addRelay 52 = .ok (.istore 5, 2) := by decide +kernel
theorem dX6_addRelay_54 : decode cX6_addRelay 54 = .ok (.aload_n 0, 1) := by decide +kernel
theorem dX6_addRelay_55 : decode cX6_addRelay 55 = .ok (.iload 5, 2) := by decide +kernel
theorem dX6_addRelay_57 : decode cX6_addRelay 57 = .ok (.aload_n 0, 1) := by decide +kernel
theorem dX6_addRelay_58 : decode cX6_addRelay 58 = .ok (.getfield 77, 3) := by decide +kernel
theorem dX6_addRelay_61 : decode cX6_addRelay 61 = .ok (.bipush 6, 2) := by decide +kernel
theorem dX6_addRelay_63 : decode cX6_addRelay 63 = .ok (.if_icmp .ge 7, 3) := by decide +kernel
theorem dX6_addRelay_66 : decode cX6_addRelay 66 = .ok (.iconst 1, 1) := by decide +kernel
theorem dX6_addRelay_67 : decode cX6_addRelay 67 = .ok (.goto 4, 3) := by decide +kernel
theorem dX6_addRelay_70 : decode cX6_addRelay 70 = .ok (.iconst 0, 1) := by decide +kernel
theorem dX6_addRelay_71 : decode cX6_addRelay 71 = .ok (.iconst 1, 1) := by decide +kernel
theorem dX6_addRelay_72 : decode cX6_addRelay 72 = .ok (.invokevirtual 80, 3) := by decide +kernel
theorem dX6_addRelay_75 : decode cX6_addRelay 75 = .ok (.ifCond .ne 5, 3) := by decide +kernel
theorem dX6_addRelay_78 : decode cX6_addRelay 78 = .ok (.iconst 0, 1) := by decide +kernel
theorem dX6_addRelay_79 : decode cX6_addRelay 79 = .ok (.ireturn, 1) := by decide +kernel
theorem dX6_addRelay_80 : decode cX6_addRelay 80 = .ok (.aload_n 0, 1) := by decide +kernel
theorem dX6_addRelay_81 : decode cX6_addRelay 81 = .ok (.dup, 1) := by decide +kernel
theorem dX6_addRelay_82 : decode cX6_addRelay 82 = .ok (.getfield 77, 3) := by decide +kernel
theorem dX6_addRelay_85 : decode cX6_addRelay 85 = .ok (.iconst 1, 1) := by decide +kernel
theorem dX6_addRelay_86 : decode cX6_addRelay 86 = .ok (.iadd, 1) := by decide +kernel
theorem dX6_addRelay_87 : decode cX6_addRelay 87 = .ok (.putfield 77, 3) := by decide +kernel
theorem dX6_addRelay_90 : decode cX6_addRelay 90 = .ok (.aload_n 0, 1) := by decide +kernel
theorem dX6_addRelay_91 : decode cX6_addRelay 91 = .ok (.iload_n 1, 1) := by decide +kernel
theorem dX6_addRelay_92 : decode cX6_addRelay 92 = .ok (.iload_n 2, 1) := by decide +kernel
theorem dX6_addRelay_93 : decode cX6_addRelay 93 = .ok (.iload_n 3, 1) := by decide +kernel
theorem dX6_addRelay_94 : decode cX6_addRelay 94 = .ok (.iload 4, 2) := by decide +kernel
theorem dX6_addRelay_96 : decode cX6_addRelay 96 = .ok (.iconst 1, 1) := by decide +kernel
theorem dX6_addRelay_97 : decode cX6_addRelay 97 = .ok (.invokevirtual 84, 3) := by decide +kernel
theorem dX6_addRelay_100 : decode cX6_addRelay 100 = .ok (.ireturn, 1) := by decide +kernel
set_option maxRecDepth 20000 in
theorem ggX6_setCapacity_X6_isNode : GoodIn wsX6_setCapacity wsX6_isNode := goodIn_r _ [7, 8, 14, 15, 16, 17, 18, 19, 20, 21, 22, 23, 24, 25, 26, 27, 28, 29, 30, 31, 32] (by decide +kernel) (by decide +kernel)
set_option maxRecDepth 20000 in
theorem gX6_setCapacity_X6_isNode : GoodIn wsX6_setCapacity (wsV RX6 58 RX6 yX6_isNode wsX6_isNode) := goodIn_app (goodIn_of _ (by decide +kernel)) ggX6_setCapacity_X6_isNode
set_option maxRecDepth 20000 in
theorem ggX6_setCapacity_X6_goes : GoodIn wsX6_setCapacity wsX6_goes := goodIn_r _ [12, 13, 14, 15, 16, 17, 18, 19, 20, 21, 22, 23, 24, 25, 26, 27, 28, 29, 30, 31, 32] (by decide +kernel) (by decide +kernel)
set_option maxRecDepth 20000 in
theorem gX6_setCapacity_X6_goes : GoodIn wsX6_setCapacity (wsV RX6 80 RX6 yX6_goes wsX6_goes) := goodIn_app (goodIn_of _ (by decide +kernel)) ggX6_setCapacity_X6_goes
theorem dX6_setCapacity_0 : decode cX6_setCapacity 0 = .ok (.aload_n 0, 1) := by decide +kernel
theorem dX6_setCapacity_1 : decode cX6_setCapacity 1 = .ok (.aload_n 0, 1) := by decide +kernel
theorem dX6_setCapacity_2 : decode cX6_setCapacity 2 = .ok (.iload_n 1, 1) := by decide +kernel
theorem dX6_setCapacity_3 : decode cX6_setCapacity 3 = .ok (.invokevirtual 58, 3) := by decide +kernel
theorem dX6_setCapacity_6 : decode cX6_setCapacity 6 = .ok (.ifCond .eq 16, 3) := by decide +kernel
theorem dX6_setCapacity_9 : decode cX6_setCapacity 9 = .ok (.aload_n 0, 1) := by decide +kernel
theorem dX6_setCapacity_10 : decode cX6_setCapacity 10 = .ok (.getfield 22, 3) := by decide +kernel
theorem dX6_setCapacity_13 : decode cX6_setCapacity 13 = .ok (.iload_n 1, 1) := by decide +kernel
theorem dX6_setCapacity_14 : decode cX6_setCapacity 14 = .ok (.baload, 1) := by decide +kernel
theorem dX6_setCapacity_15 : decode cX6_setCapacity 15 = .ok (.ifCond .eq 7, 3) := by decide +kernel
theorem dX6_setCapacity_18 : decode cX6_setCapacity 18 = .ok (.iconst 1, 1) := by decide +kernel
theorem dX6_setCapacity_19 : decode cX6_setCapacity 19 = .ok (.goto 4, 3) := by decide +kernel
theorem dX6_setCapacity_22 : decode cX6_setCapacity 22 = .ok (.iconst 0, 1) := by decide +kernel
theorem dX6_setCapacity_23 : decode cX6_setCapacity 23 = .ok (.iload_n 2, 1) := by decide +kernel
theorem dX6_setCapacity_24 : decode cX6_setCapacity 24 = .ok (.iconst 1, 1) := by decide +kernel
theorem dX6_setCapacity_25 : decode cX6_setCapacity 25 = .ok (.if_icmp .lt 13, 3) := by decide +kernel
theorem dX6_setCapacity_28 : decode cX6_setCapacity 28 = .ok (.iload_n 2, 1) := by decide +kernel
theorem dX6_setCapacity_29 : decode cX6_setCapacity 29 = .ok (.bipush 9, 2) := by decide +kernel
theorem dX6_setCapacity_31 : decode cX6_setCapacity 31 = .ok (.if_icmp .gt 7, 3) := by decide +kernel
theorem dX6_setCapacity_34 : decode cX6_setCapacity 34 = .ok (.iconst 1, 1) := by decide +kernel
theorem dX6_setCapacity_35 : decode cX6_setCapacity 35 = .ok (.goto 4, 3) := by decide +kernel
theorem dX6_setCapacity_38 : decode cX6_setCapacity 38 = .ok (.iconst 0, 1) := by decide +kernel
theorem dX6_setCapacity_39 : decode cX6_setCapacity 39 = .ok (.iconst 1, 1) := by decide +kernel
theorem dX6_setCapacity_40 : decode cX6_setCapacity 40 = .ok (.invokevirtual 80, 3) := by decide +kernel
theorem dX6_setCapacity_43 : decode cX6_setCapacity 43 = .ok (.ifCond .ne 5, 3) := by decide +kernel
theorem dX6_setCapacity_46 : decode cX6_setCapacity 46 = .ok (.iconst 0, 1) := by decide +kernel
theorem dX6_setCapacity_47 : decode cX6_setCapacity 47 = .ok (.ireturn, 1) := by decide +kernel
theorem dX6_setCapacity_48 : decode cX6_setCapacity 48 = .ok (.aload_n 0, 1) := by decide +kernel
theorem dX6_setCapacity_49 : decode cX6_setCapacity 49 = .ok (.getfield 19, 3) := by decide +kernel
theorem dX6_setCapacity_52 : decode cX6_setCapacity 52 = .ok (.iload_n 1, 1) := by decide +kernel
theorem dX6_setCapacity_53 : decode cX6_setCapacity 53 = .ok (.iaload, 1) := by decide +kernel
theorem dX6_setCapacity_54 : decode cX6_setCapacity 54 = .ok (.istore_n 3, 1) := by decide +kernel
theorem dX6_setCapacity_55 : decode cX6_setCapacity 55 = .ok (.aload_n 0, 1) := by decide +kernel
theorem dX6_setCapacity_56 : decode cX6_setCapacity 56 = .ok (.getfield 19, 3) := by decide +kernel
theorem dX6_setCapacity_59 : decode cX6_setCapacity 59 = .ok (.iload_n 1, 1) := by decide +kernel
theorem dX6_setCapacity_60 : decode cX6_setCapacity 60 = .ok (.iload_n 2, 1) := by decide +kernel
theorem dX6_setCapacity_61 : decode cX6_setCapacity 61 = .ok (.iastore, 1) := by decide +kernel
theorem dX6_setCapacity_62 : decode cX6_setCapacity 62 = .ok (.iload_n 3, 1) := by decide +kernel
theorem dX6_setCapacity_63 : decode cX6_setCapacity 63 = .ok (.ireturn, 1) := by decide +kernel
theorem dX6_nodes_0 : decode cX6_nodes 0 = .ok (.aload_n 0, 1) := by decide +kernel
theorem dX6_nodes_1 : decode cX6_nodes 1 = .ok (.iconst 0, 1) := by decide +kernel
theorem dX6_nodes_2 : decode cX6_nodes 2 = .ok (.putfield 51, 3) := by decide +kernel
theorem dX6_nodes_5 : decode cX6_nodes 5 = .ok (.aload_n 0, 1) := by decide +kernel
theorem dX6_nodes_6 : decode cX6_nodes 6 = .ok (.getfield 55, 3) := by decide +kernel
theorem dX6_nodes_9 : decode cX6_nodes 9 = .ok (.ireturn, 1) := by decide +kernel
set_option maxRecDepth 20000 in
theorem ggX6_placeAt_X6_isNode : GoodIn wsX6_placeAt wsX6_isNode := goodIn_r _ [5, 6, 22, 23, 24, 25, 26, 27, 28, 29, 30, 31, 32, 33, 34, 35, 36, 37, 38, 39, 40] (by decide +kernel) (by decide +kernel)
set_option maxRecDepth 20000 in
theorem gX6_placeAt_X6_isNode : GoodIn wsX6_placeAt (wsV RX6 58 RX6 yX6_isNode wsX6_isNode) := goodIn_app (goodIn_of _ (by decide +kernel)) ggX6_placeAt_X6_isNode
set_option maxRecDepth 20000 in
theorem ggX6_placeAt_X6_isMinute : GoodIn wsX6_placeAt wsX6_isMinute := goodIn_r _ [9, 10] (by decide +kernel) (by decide +kernel)
set_option maxRecDepth 20000 in
theorem gX6_placeAt_X6_isMinute : GoodIn wsX6_placeAt (va_wsS RX6 92 yX6_isMinute wsX6_isMinute) := goodIn_app (goodIn_of _ (by decide +kernel)) ggX6_placeAt_X6_isMinute
set_option maxRecDepth 20000 in
theorem ggX6_placeAt_X6_goes : GoodIn wsX6_placeAt wsX6_goes := goodIn_r _ [14, 15, 22, 23, 24, 25, 26, 27, 28, 29, 30, 31, 32, 33, 34, 35, 36, 37, 38, 39, 40] (by decide +kernel) (by decide +kernel)
set_option maxRecDepth 20000 in
theorem gX6_placeAt_X6_goes : GoodIn wsX6_placeAt (wsV RX6 80 RX6 yX6_goes wsX6_goes) := goodIn_app (goodIn_of _ (by decide +kernel)) ggX6_placeAt_X6_goes
set_option maxRecDepth 20000 in
theorem ggX6_placeAt_X6_placeOf : GoodIn wsX6_placeAt wsX6_placeOf := goodIn_r _ [19, 20, 21, 22, 23, 24, 25, 26, 27, 28, 29, 30, 31, 32, 33, 34, 35, 36, 37, 38, 39, 40] (by decide +kernel) (by decide +kernel)
set_option maxRecDepth 20000 in
theorem gX6_placeAt_X6_placeOf : GoodIn wsX6_placeAt (wsV RX6 66 RX6 yX6_placeOf wsX6_placeOf) := goodIn_app (goodIn_of _ (by decide +kernel)) ggX6_placeAt_X6_placeOf
theorem dX6_placeAt_0 : decode cX6_placeAt 0 = .ok (.aload_n 0, 1) := by decide +kernel
theorem dX6_placeAt_1 : decode cX6_placeAt 1 = .ok (.aload_n 0, 1) := by decide +kernel
theorem dX6_placeAt_2 : decode cX6_placeAt 2 = .ok (.iload_n 1, 1) := by decide +kernel
theorem dX6_placeAt_3 : decode cX6_placeAt 3 = .ok (.invokevirtual 58, 3) := by decide +kernel
theorem dX6_placeAt_6 : decode cX6_placeAt 6 = .ok (.iload_n 2, 1) := by decide +kernel
theorem dX6_placeAt_7 : decode cX6_placeAt 7 = .ok (.invokestatic 92, 3) := by decide +kernel
theorem dX6_placeAt_10 : decode cX6_placeAt 10 = .ok (.iconst 1, 1) := by decide +kernel
theorem dX6_placeAt_11 : decode cX6_placeAt 11 = .ok (.invokevirtual 80, 3) := by decide +kernel
theorem dX6_placeAt_14 : decode cX6_placeAt 14 = .ok (.ifCond .eq 12, 3) := by decide +kernel
theorem dX6_placeAt_17 : decode cX6_placeAt 17 = .ok (.aload_n 0, 1) := by decide +kernel
theorem dX6_placeAt_18 : decode cX6_placeAt 18 = .ok (.iload_n 1, 1) := by decide +kernel
theorem dX6_placeAt_19 : decode cX6_placeAt 19 = .ok (.iload_n 2, 1) := by decide +kernel
theorem dX6_placeAt_20 : decode cX6_placeAt 20 = .ok (.invokevirtual 66, 3) := by decide +kernel
theorem dX6_placeAt_23 : decode cX6_placeAt 23 = .ok (.goto 4, 3) := by decide +kernel
theorem dX6_placeAt_26 : decode cX6_placeAt 26 = .ok (.iconst 0, 1) := by decide +kernel
theorem dX6_placeAt_27 : decode cX6_placeAt 27 = .ok (.ireturn, 1) := by decide +kernel
set_option maxRecDepth 20000 in
theorem ggX6_see_X6_isNode : GoodIn wsX6_see wsX6_isNode := goodIn_r _ [5, 6, 24, 25, 26, 27, 28, 29, 30, 31, 32, 33, 34, 35, 36, 37, 38, 39, 40, 41, 42] (by decide +kernel) (by decide +kernel)
set_option maxRecDepth 20000 in
theorem gX6_see_X6_isNode : GoodIn wsX6_see (wsV RX6 58 RX6 yX6_isNode wsX6_isNode) := goodIn_app (goodIn_of _ (by decide +kernel)) ggX6_see_X6_isNode
set_option maxRecDepth 20000 in
theorem ggX6_see_X6_isMinute : GoodIn wsX6_see wsX6_isMinute := goodIn_r _ [9, 10] (by decide +kernel) (by decide +kernel)
set_option maxRecDepth 20000 in
theorem gX6_see_X6_isMinute : GoodIn wsX6_see (va_wsS RX6 92 yX6_isMinute wsX6_isMinute) := goodIn_app (goodIn_of _ (by decide +kernel)) ggX6_see_X6_isMinute
set_option maxRecDepth 20000 in
theorem ggX6_see_X6_goes : GoodIn wsX6_see wsX6_goes := goodIn_r _ [14, 15, 24, 25, 26, 27, 28, 29, 30, 31, 32, 33, 34, 35, 36, 37, 38, 39, 40, 41, 42] (by decide +kernel) (by decide +kernel)
set_option maxRecDepth 20000 in
theorem gX6_see_X6_goes : GoodIn wsX6_see (wsV RX6 80 RX6 yX6_goes wsX6_goes) := goodIn_app (goodIn_of _ (by decide +kernel)) ggX6_see_X6_goes
set_option maxRecDepth 20000 in
theorem ggX6_see_X6_seenAt : GoodIn wsX6_see wsX6_seenAt := goodIn_r _ [19, 20, 24, 25, 26, 27, 28, 29, 30, 31, 32, 33, 34, 35, 36, 37, 38, 39, 40, 41, 42] (by decide +kernel) (by decide +kernel)
set_option maxRecDepth 20000 in
theorem gX6_see_X6_seenAt : GoodIn wsX6_see (wsV RX6 95 RX6 yX6_seenAt wsX6_seenAt) := goodIn_app (goodIn_of _ (by decide +kernel)) ggX6_see_X6_seenAt
set_option maxRecDepth 20000 in
theorem ggX6_see_X6_has : GoodIn wsX6_see wsX6_has := goodIn_r _ [23] (by decide +kernel) (by decide +kernel)
set_option maxRecDepth 20000 in
theorem gX6_see_X6_has : GoodIn wsX6_see (va_wsS RX6 98 yX6_has wsX6_has) := goodIn_app (goodIn_of _ (by decide +kernel)) ggX6_see_X6_has
theorem dX6_see_0 : decode cX6_see 0 = .ok (.aload_n 0, 1) := by decide +kernel
theorem dX6_see_1 : decode cX6_see 1 = .ok (.aload_n 0, 1) := by decide +kernel
theorem dX6_see_2 : decode cX6_see 2 = .ok (.iload_n 1, 1) := by decide +kernel
theorem dX6_see_3 : decode cX6_see 3 = .ok (.invokevirtual 58, 3) := by decide +kernel
theorem dX6_see_6 : decode cX6_see 6 = .ok (.ifCond .eq 15, 3) := by decide +kernel
theorem dX6_see_9 : decode cX6_see 9 = .ok (.aload_n 0, 1) := by decide +kernel
theorem dX6_see_10 : decode cX6_see 10 = .ok (.iload_n 2, 1) := by decide +kernel
theorem dX6_see_11 : decode cX6_see 11 = .ok (.invokevirtual 58, 3) := by decide +kernel
theorem dX6_see_14 : decode cX6_see 14 = .ok (.ifCond .eq 7, 3) := by decide +kernel
theorem dX6_see_17 : decode cX6_see 17 = .ok (.iconst 1, 1) := by decide +kernel
theorem dX6_see_18 : decode cX6_see 18 = .ok (.goto 4, 3) := by decide +kernel
theorem dX6_see_21 : decode cX6_see 21 = .ok (.iconst 0, 1) := by decide +kernel
theorem dX6_see_22 : decode cX6_see 22 = .ok (.iload_n 3, 1) := by decide +kernel
theorem dX6_see_23 : decode cX6_see 23 = .ok (.invokestatic 92, 3) := by decide +kernel
theorem dX6_see_26 : decode cX6_see 26 = .ok (.iconst 1, 1) := by decide +kernel
theorem dX6_see_27 : decode cX6_see 27 = .ok (.invokevirtual 80, 3) := by decide +kernel
theorem dX6_see_30 : decode cX6_see 30 = .ok (.ifCond .eq 20, 3) := by decide +kernel
theorem dX6_see_33 : decode cX6_see 33 = .ok (.aload_n 0, 1) := by decide +kernel
theorem dX6_see_34 : decode cX6_see 34 = .ok (.iload_n 1, 1) := by decide +kernel
theorem dX6_see_35 : decode cX6_see 35 = .ok (.iload_n 3, 1) := by decide +kernel
theorem dX6_see_36 : decode cX6_see 36 = .ok (.invokevirtual 95, 3) := by decide +kernel
theorem dX6_see_39 : decode cX6_see 39 = .ok (.iload_n 2, 1) := by decide +kernel
theorem dX6_see_40 : decode cX6_see 40 = .ok (.invokestatic 98, 3) := by decide +kernel
theorem dX6_see_43 : decode cX6_see 43 = .ok (.ifCond .eq 7, 3) := by decide +kernel
theorem dX6_see_46 : decode cX6_see 46 = .ok (.iconst 1, 1) := by decide +kernel
theorem dX6_see_47 : decode cX6_see 47 = .ok (.goto 4, 3) := by decide +kernel
theorem dX6_see_50 : decode cX6_see 50 = .ok (.iconst 0, 1) := by decide +kernel
theorem dX6_see_51 : decode cX6_see 51 = .ok (.ireturn, 1) := by decide +kernel
set_option maxRecDepth 20000 in
theorem ggX6_nextContact_X6_isNode : GoodIn wsX6_nextContact wsX6_isNode := goodIn_r _ [5, 6, 24, 25, 26, 27, 28, 29, 30, 31, 32, 33, 34, 35, 36, 37, 38, 39, 40, 41, 42] (by decide +kernel) (by decide +kernel)
set_option maxRecDepth 20000 in
theorem gX6_nextContact_X6_isNode : GoodIn wsX6_nextContact (wsV RX6 58 RX6 yX6_isNode wsX6_isNode) := goodIn_app (goodIn_of _ (by decide +kernel)) ggX6_nextContact_X6_isNode
set_option maxRecDepth 20000 in
theorem ggX6_nextContact_X6_isMinute : GoodIn wsX6_nextContact wsX6_isMinute := goodIn_r _ [9, 10] (by decide +kernel) (by decide +kernel)
set_option maxRecDepth 20000 in
theorem gX6_nextContact_X6_isMinute : GoodIn wsX6_nextContact (va_wsS RX6 92 yX6_isMinute wsX6_isMinute) := goodIn_app (goodIn_of _ (by decide +kernel)) ggX6_nextContact_X6_isMinute
set_option maxRecDepth 20000 in
theorem ggX6_nextContact_X6_goes : GoodIn wsX6_nextContact wsX6_goes := goodIn_r _ [14, 15, 24, 25, 26, 27, 28, 29, 30, 31, 32, 33, 34, 35, 36, 37, 38, 39, 40, 41, 42] (by decide +kernel) (by decide +kernel)
set_option maxRecDepth 20000 in
theorem gX6_nextContact_X6_goes : GoodIn wsX6_nextContact (wsV RX6 80 RX6 yX6_goes wsX6_goes) := goodIn_app (goodIn_of _ (by decide +kernel)) ggX6_nextContact_X6_goes
set_option maxRecDepth 20000 in
theorem ggX6_nextContact_X6_seenAt : GoodIn wsX6_nextContact wsX6_seenAt := goodIn_r _ [19, 20, 24, 25, 26, 27, 28, 29, 30, 31, 32, 33, 34, 35, 36, 37, 38, 39, 40, 41, 42] (by decide +kernel) (by decide +kernel)
set_option maxRecDepth 20000 in
theorem gX6_nextContact_X6_seenAt : GoodIn wsX6_nextContact (wsV RX6 95 RX6 yX6_seenAt wsX6_seenAt) := goodIn_app (goodIn_of _ (by decide +kernel)) ggX6_nextContact_X6_seenAt
set_option maxRecDepth 20000 in
theorem ggX6_nextContact_X6_has : GoodIn wsX6_nextContact wsX6_has := goodIn_r _ [23] (by decide +kernel) (by decide +kernel)
set_option maxRecDepth 20000 in
theorem gX6_nextContact_X6_has : GoodIn wsX6_nextContact (va_wsS RX6 98 yX6_has wsX6_has) := goodIn_app (goodIn_of _ (by decide +kernel)) ggX6_nextContact_X6_has
theorem dX6_nextContact_0 : decode cX6_nextContact 0 = .ok (.aload_n 0, 1) := by decide +kernel
theorem dX6_nextContact_1 : decode cX6_nextContact 1 = .ok (.aload_n 0, 1) := by decide +kernel
theorem dX6_nextContact_2 : decode cX6_nextContact 2 = .ok (.iload_n 1, 1) := by decide +kernel
theorem dX6_nextContact_3 : decode cX6_nextContact 3 = .ok (.invokevirtual 58, 3) := by decide +kernel
theorem dX6_nextContact_6 : decode cX6_nextContact 6 = .ok (.ifCond .eq 15, 3) := by decide +kernel
theorem dX6_nextContact_9 : decode cX6_nextContact 9 = .ok (.aload_n 0, 1) := by decide +kernel
theorem dX6_nextContact_10 : decode cX6_nextContact 10 = .ok (.iload_n 2, 1) := by decide +kernel
theorem dX6_nextContact_11 : decode cX6_nextContact 11 = .ok (.invokevirtual 58, 3) := by decide +kernel
theorem dX6_nextContact_14 : decode cX6_nextContact 14 = .ok (.ifCond .eq 7, 3) := by decide +kernel
theorem dX6_nextContact_17 : decode cX6_nextContact 17 = .ok (.iconst 1, 1) := by decide +kernel
theorem dX6_nextContact_18 : decode cX6_nextContact 18 = .ok (.goto 4, 3) := by decide +kernel
theorem dX6_nextContact_21 : decode cX6_nextContact 21 = .ok (.iconst 0, 1) := by decide +kernel
theorem dX6_nextContact_22 : decode cX6_nextContact 22 = .ok (.iload_n 3, 1) := by decide +kernel
theorem dX6_nextContact_23 : decode cX6_nextContact 23 = .ok (.invokestatic 92, 3) := by decide +kernel
theorem dX6_nextContact_26 : decode cX6_nextContact 26 = .ok (.iconst 1, 1) := by decide +kernel
theorem dX6_nextContact_27 : decode cX6_nextContact 27 = .ok (.invokevirtual 80, 3) := by decide +kernel
theorem dX6_nextContact_30 : decode cX6_nextContact 30 = .ok (.ifCond .ne 5, 3) := by decide +kernel
theorem dX6_nextContact_33 : decode cX6_nextContact 33 = .ok (.iconst 0, 1) := by decide +kernel
theorem dX6_nextContact_34 : decode cX6_nextContact 34 = .ok (.ireturn, 1) := by decide +kernel
theorem dX6_nextContact_35 : decode cX6_nextContact 35 = .ok (.iconst (-1), 1) := by decide +kernel
theorem dX6_nextContact_36 : decode cX6_nextContact 36 = .ok (.istore 4, 2) := by decide +kernel
theorem dX6_nextContact_38 : decode cX6_nextContact 38 = .ok (.iconst 0, 1) := by decide +kernel
theorem dX6_nextContact_39 : decode cX6_nextContact 39 = .ok (.istore 5, 2) := by decide +kernel
theorem dX6_nextContact_41 : decode cX6_nextContact 41 = .ok (.iload 5, 2) := by decide +kernel
theorem dX6_nextContact_43 : decode cX6_nextContact 43 = .ok (.sipush 360, 3) := by decide +kernel
theorem dX6_nextContact_46 : decode cX6_nextContact 46 = .ok (.if_icmp .ge 40, 3) := by decide +kernel
theorem dX6_nextContact_49 : decode cX6_nextContact 49 = .ok (.iload 4, 2) := by decide +kernel
theorem dX6_nextContact_51 : decode cX6_nextContact 51 = .ok (.ifCond .ge 35, 3) := by decide +kernel
theorem dX6_nextContact_54 : decode cX6_nextContact 54 = .ok (.aload_n 0, 1) := by decide +kernel
theorem dX6_nextContact_55 : decode cX6_nextContact 55 = .ok (.iload_n 1, 1) := by decide +kernel
theorem dX6_nextContact_56 : decode cX6_nextContact 56 = .ok (.iload_n 3, 1) := by decide +kernel
theorem dX6_nextContact_57 : decode cX6_nextContact 57 = .ok (.iload 5, 2) := by decide +kernel
theorem dX6_nextContact_59 : decode cX6_nextContact 59 = .ok (.iadd, 1) := by decide +kernel
theorem dX6_nextContact_60 : decode cX6_nextContact 60 = .ok (.invokevirtual 95, 3) := by decide +kernel
theorem dX6_nextContact_63 : decode cX6_nextContact 63 = .ok (.iload_n 2, 1) := by decide +kernel
theorem dX6_nextContact_64 : decode cX6_nextContact 64 = .ok (.invokestatic 98, 3) := by decide +kernel
theorem dX6_nextContact_67 : decode cX6_nextContact 67 = .ok (.ifCond .eq 10, 3) := by decide +kernel
theorem dX6_nextContact_70 : decode cX6_nextContact 70 = .ok (.iload_n 3, 1) := by decide +kernel
theorem dX6_nextContact_71 : decode cX6_nextContact 71 = .ok (.iload 5, 2) := by decide +kernel
theorem dX6_nextContact_73 : decode cX6_nextContact 73 = .ok (.iadd, 1) := by decide +kernel
theorem dX6_nextContact_74 : decode cX6_nextContact 74 = .ok (.goto 4, 3) := by decide +kernel
theorem dX6_nextContact_77 : decode cX6_nextContact 77 = .ok (.iconst (-1), 1) := by decide +kernel
theorem dX6_nextContact_78 : decode cX6_nextContact 78 = .ok (.istore 4, 2) := by decide +kernel
theorem dX6_nextContact_80 : decode cX6_nextContact 80 = .ok (.iinc 5 1, 3) := by decide +kernel
theorem dX6_nextContact_83 : decode cX6_nextContact 83 = .ok (.goto (-42), 3) := by decide +kernel
theorem dX6_nextContact_86 : decode cX6_nextContact 86 = .ok (.iload 4, 2) := by decide +kernel
theorem dX6_nextContact_88 : decode cX6_nextContact 88 = .ok (.ireturn, 1) := by decide +kernel
set_option maxRecDepth 20000 in
theorem ggX6_viewOf_X6_seenAt : GoodIn wsX6_viewOf wsX6_seenAt := goodIn_r _ [5, 6, 10, 11, 12, 13, 14, 15, 16, 17, 18, 19, 20, 21, 22, 23, 24, 25, 26, 27, 28] (by decide +kernel) (by decide +kernel)
set_option maxRecDepth 20000 in
theorem gX6_viewOf_X6_seenAt : GoodIn wsX6_viewOf (wsV RX6 95 RX6 yX6_seenAt wsX6_seenAt) := goodIn_app (goodIn_of _ (by decide +kernel)) ggX6_viewOf_X6_seenAt
set_option maxRecDepth 20000 in
theorem ggX6_viewOf_X6_has : GoodIn wsX6_viewOf wsX6_has := goodIn_r _ [9] (by decide +kernel) (by decide +kernel)
set_option maxRecDepth 20000 in
theorem gX6_viewOf_X6_has : GoodIn wsX6_viewOf (va_wsS RX6 98 yX6_has wsX6_has) := goodIn_app (goodIn_of _ (by decide +kernel)) ggX6_viewOf_X6_has
theorem dX6_viewOf_0 : decode cX6_viewOf 0 = .ok (.iconst 0, 1) := by decide +kernel
theorem dX6_viewOf_1 : decode cX6_viewOf 1 = .ok (.istore 4, 2) := by decide +kernel
theorem dX6_viewOf_3 : decode cX6_viewOf 3 = .ok (.iload 4, 2) := by decide +kernel
theorem dX6_viewOf_5 : decode cX6_viewOf 5 = .ok (.sipush 360, 3) := by decide +kernel
theorem dX6_viewOf_8 : decode cX6_viewOf 8 = .ok (.if_icmp .ge 25, 3) := by decide +kernel
theorem dX6_viewOf_11 : decode cX6_viewOf 11 = .ok (.aload_n 0, 1) := by decide +kernel
theorem dX6_viewOf_12 : decode cX6_viewOf 12 = .ok (.iload_n 1, 1) := by decide +kernel
theorem dX6_viewOf_13 : decode cX6_viewOf 13 = .ok (.iload_n 3, 1) := by decide +kernel
theorem dX6_viewOf_14 : decode cX6_viewOf 14 = .ok (.iload 4, 2) := by decide +kernel
theorem dX6_viewOf_16 : decode cX6_viewOf 16 = .ok (.iadd, 1) := by decide +kernel
theorem dX6_viewOf_17 : decode cX6_viewOf 17 = .ok (.invokevirtual 95, 3) := by decide +kernel
theorem dX6_viewOf_20 : decode cX6_viewOf 20 = .ok (.iload_n 2, 1) := by decide +kernel
theorem dX6_viewOf_21 : decode cX6_viewOf 21 = .ok (.invokestatic 98, 3) := by decide +kernel
theorem dX6_viewOf_24 : decode cX6_viewOf 24 = .ok (.ifCond .eq 9, 3) := by decide +kernel
theorem dX6_viewOf_27 : decode cX6_viewOf 27 = .ok (.iinc 4 1, 3) := by decide +kernel
theorem dX6_viewOf_30 : decode cX6_viewOf 30 = .ok (.goto (-27), 3) := by decide +kernel
theorem dX6_viewOf_33 : decode cX6_viewOf 33 = .ok (.iload 4, 2) := by decide +kernel
theorem dX6_viewOf_35 : decode cX6_viewOf 35 = .ok (.ireturn, 1) := by decide +kernel
set_option maxRecDepth 20000 in
theorem ggX6_view_X6_isNode : GoodIn wsX6_view wsX6_isNode := goodIn_r _ [5, 6, 28, 29, 30, 31, 32, 33, 34, 35, 36, 37, 38, 39, 40, 41, 42, 43, 44, 45, 46] (by decide +kernel) (by decide +kernel)
set_option maxRecDepth 20000 in
theorem gX6_view_X6_isNode : GoodIn wsX6_view (wsV RX6 58 RX6 yX6_isNode wsX6_isNode) := goodIn_app (goodIn_of _ (by decide +kernel)) ggX6_view_X6_isNode
set_option maxRecDepth 20000 in
theorem ggX6_view_X6_isMinute : GoodIn wsX6_view wsX6_isMinute := goodIn_r _ [9, 10] (by decide +kernel) (by decide +kernel)
set_option maxRecDepth 20000 in
theorem gX6_view_X6_isMinute : GoodIn wsX6_view (va_wsS RX6 92 yX6_isMinute wsX6_isMinute) := goodIn_app (goodIn_of _ (by decide +kernel)) ggX6_view_X6_isMinute
set_option maxRecDepth 20000 in
theorem ggX6_view_X6_goes : GoodIn wsX6_view wsX6_goes := goodIn_r _ [14, 15, 28, 29, 30, 31, 32, 33, 34, 35, 36, 37, 38, 39, 40, 41, 42, 43, 44, 45, 46] (by decide +kernel) (by decide +kernel)
set_option maxRecDepth 20000 in
theorem gX6_view_X6_goes : GoodIn wsX6_view (wsV RX6 80 RX6 yX6_goes wsX6_goes) := goodIn_app (goodIn_of _ (by decide +kernel)) ggX6_view_X6_goes
set_option maxRecDepth 20000 in
theorem ggX6_view_X6_viewOf : GoodIn wsX6_view wsX6_viewOf := goodIn_r _ [19, 20, 21, 22, 4, 23, 24, 25, 26, 27, 28, 29, 30, 31, 32, 33, 34, 35, 36, 37, 38, 39, 40, 41, 42, 43, 44, 45, 46] (by decide +kernel) (by decide +kernel)
set_option maxRecDepth 20000 in
theorem gX6_view_X6_viewOf : GoodIn wsX6_view (wsV RX6 102 RX6 yX6_viewOf wsX6_viewOf) := goodIn_app (goodIn_of _ (by decide +kernel)) ggX6_view_X6_viewOf
theorem dX6_view_0 : decode cX6_view 0 = .ok (.aload_n 0, 1) := by decide +kernel
theorem dX6_view_1 : decode cX6_view 1 = .ok (.aload_n 0, 1) := by decide +kernel
theorem dX6_view_2 : decode cX6_view 2 = .ok (.iload_n 1, 1) := by decide +kernel
theorem dX6_view_3 : decode cX6_view 3 = .ok (.invokevirtual 58, 3) := by decide +kernel
theorem dX6_view_6 : decode cX6_view 6 = .ok (.ifCond .eq 15, 3) := by decide +kernel
theorem dX6_view_9 : decode cX6_view 9 = .ok (.aload_n 0, 1) := by decide +kernel
theorem dX6_view_10 : decode cX6_view 10 = .ok (.iload_n 2, 1) := by decide +kernel
theorem dX6_view_11 : decode cX6_view 11 = .ok (.invokevirtual 58, 3) := by decide +kernel
theorem dX6_view_14 : decode cX6_view 14 = .ok (.ifCond .eq 7, 3) := by decide +kernel
theorem dX6_view_17 : decode cX6_view 17 = .ok (.iconst 1, 1) := by decide +kernel
theorem dX6_view_18 : decode cX6_view 18 = .ok (.goto 4, 3) := by decide +kernel
theorem dX6_view_21 : decode cX6_view 21 = .ok (.iconst 0, 1) := by decide +kernel
theorem dX6_view_22 : decode cX6_view 22 = .ok (.iload_n 3, 1) := by decide +kernel
theorem dX6_view_23 : decode cX6_view 23 = .ok (.invokestatic 92, 3) := by decide +kernel
theorem dX6_view_26 : decode cX6_view 26 = .ok (.iconst 1, 1) := by decide +kernel
theorem dX6_view_27 : decode cX6_view 27 = .ok (.invokevirtual 80, 3) := by decide +kernel
theorem dX6_view_30 : decode cX6_view 30 = .ok (.ifCond .eq 13, 3) := by decide +kernel
theorem dX6_view_33 : decode cX6_view 33 = .ok (.aload_n 0, 1) := by decide +kernel
theorem dX6_view_34 : decode cX6_view 34 = .ok (.iload_n 1, 1) := by decide +kernel
theorem dX6_view_35 : decode cX6_view 35 = .ok (.iload_n 2, 1) := by decide +kernel
theorem dX6_view_36 : decode cX6_view 36 = .ok (.iload_n 3, 1) := by decide +kernel
theorem dX6_view_37 : decode cX6_view 37 = .ok (.invokevirtual 102, 3) := by decide +kernel
theorem dX6_view_40 : decode cX6_view 40 = .ok (.goto 4, 3) := by decide +kernel
theorem dX6_view_43 : decode cX6_view 43 = .ok (.iconst 0, 1) := by decide +kernel
theorem dX6_view_44 : decode cX6_view 44 = .ok (.ireturn, 1) := by decide +kernel
set_option maxRecDepth 20000 in
theorem ggX6_next_X6_has : GoodIn wsX6_next wsX6_has := goodIn_r _ [5] (by decide +kernel) (by decide +kernel)
set_option maxRecDepth 20000 in
theorem gX6_next_X6_has : GoodIn wsX6_next (va_wsS RX6 98 yX6_has wsX6_has) := goodIn_app (goodIn_of _ (by decide +kernel)) ggX6_next_X6_has
set_option maxRecDepth 20000 in
theorem ggX6_next_X6_seenAt : GoodIn wsX6_next wsX6_seenAt := goodIn_r _ [9, 10, 11, 12, 13, 14, 15, 16, 17, 18, 19, 20, 21, 22, 23, 24, 25, 26, 27, 28, 29] (by decide +kernel) (by decide +kernel)
set_option maxRecDepth 20000 in
theorem gX6_next_X6_seenAt : GoodIn wsX6_next (wsV RX6 95 RX6 yX6_seenAt wsX6_seenAt) := goodIn_app (goodIn_of _ (by decide +kernel)) ggX6_next_X6_seenAt
theorem dX6_next_0 : decode cX6_next 0 = .ok (.iload_n 1, 1) := by decide +kernel
theorem dX6_next_1 : decode cX6_next 1 = .ok (.istore_n 3, 1) := by decide +kernel
theorem dX6_next_2 : decode cX6_next 2 = .ok (.iconst 0, 1) := by decide +kernel
theorem dX6_next_3 : decode cX6_next 3 = .ok (.istore 4, 2) := by decide +kernel
theorem dX6_next_5 : decode cX6_next 5 = .ok (.iload 4, 2) := by decide +kernel
theorem dX6_next_7 : decode cX6_next 7 = .ok (.aload_n 0, 1) := by decide +kernel
theorem dX6_next_8 : decode cX6_next 8 = .ok (.getfield 55, 3) := by decide +kernel
theorem dX6_next_11 : decode cX6_next 11 = .ok (.if_icmp .ge 32, 3) := by decide +kernel
theorem dX6_next_14 : decode cX6_next 14 = .ok (.iload_n 3, 1) := by decide +kernel
theorem dX6_next_15 : decode cX6_next 15 = .ok (.iload_n 1, 1) := by decide +kernel
theorem dX6_next_16 : decode cX6_next 16 = .ok (.iload 4, 2) := by decide +kernel
theorem dX6_next_18 : decode cX6_next 18 = .ok (.invokestatic 98, 3) := by decide +kernel
theorem dX6_next_21 : decode cX6_next 21 = .ok (.ifCond .eq 13, 3) := by decide +kernel
theorem dX6_next_24 : decode cX6_next 24 = .ok (.aload_n 0, 1) := by decide +kernel
theorem dX6_next_25 : decode cX6_next 25 = .ok (.iload 4, 2) := by decide +kernel
theorem dX6_next_27 : decode cX6_next 27 = .ok (.iload_n 2, 1) := by decide +kernel
theorem dX6_next_28 : decode cX6_next 28 = .ok (.invokevirtual 95, 3) := by decide +kernel
theorem dX6_next_31 : decode cX6_next 31 = .ok (.goto 4, 3) := by decide +kernel
theorem dX6_next_34 : decode cX6_next 34 = .ok (.iconst 0, 1) := by decide +kernel
theorem dX6_next_35 : decode cX6_next 35 = .ok (.ior, 1) := by decide +kernel
theorem dX6_next_36 : decode cX6_next 36 = .ok (.istore_n 3, 1) := by decide +kernel
theorem dX6_next_37 : decode cX6_next 37 = .ok (.iinc 4 1, 3) := by decide +kernel
theorem dX6_next_40 : decode cX6_next 40 = .ok (.goto (-35), 3) := by decide +kernel
theorem dX6_next_43 : decode cX6_next 43 = .ok (.iload_n 3, 1) := by decide +kernel
theorem dX6_next_44 : decode cX6_next 44 = .ok (.ireturn, 1) := by decide +kernel
set_option maxRecDepth 20000 in
theorem ggX6_earliest_X6_next : GoodIn wsX6_earliest wsX6_next := goodIn_r _ [5, 6, 7, 8, 4, 9, 10, 11, 12, 13, 14, 15, 16, 17, 18, 19, 20, 21, 22, 23, 24, 25, 26, 27, 28, 29, 30, 31, 32, 33] (by decide +kernel) (by decide +kernel)
set_option maxRecDepth 20000 in
theorem gX6_earliest_X6_next : GoodIn wsX6_earliest (wsV RX6 106 RX6 yX6_next wsX6_next) := goodIn_app (goodIn_of _ (by decide +kernel)) ggX6_earliest_X6_next
set_option maxRecDepth 20000 in
theorem ggX6_earliest_X6_has : GoodIn wsX6_earliest wsX6_has := goodIn_r _ [9] (by decide +kernel) (by decide +kernel)
set_option maxRecDepth 20000 in
theorem gX6_earliest_X6_has : GoodIn wsX6_earliest (va_wsS RX6 98 yX6_has wsX6_has) := goodIn_app (goodIn_of _ (by decide +kernel)) ggX6_earliest_X6_has
theorem dX6_earliest_0 : decode cX6_earliest 0 = .ok (.iconst 1, 1) := by decide +kernel
theorem dX6_earliest_1 : decode cX6_earliest 1 = .ok (.iload_n 1, 1) := by decide +kernel
theorem dX6_earliest_2 : decode cX6_earliest 2 = .ok (.ishl, 1) := by decide +kernel
theorem dX6_earliest_3 : decode cX6_earliest 3 = .ok (.istore 4, 2) := by decide +kernel
theorem dX6_earliest_5 : decode cX6_earliest 5 = .ok (.iload_n 1, 1) := by decide +kernel
theorem dX6_earliest_6 : decode cX6_earliest 6 = .ok (.iload_n 2, 1) := by decide +kernel
theorem dX6_earliest_7 : decode cX6_earliest 7 = .ok (.if_icmp .ne 7, 3) := by decide +kernel
theorem dX6_earliest_10 : decode cX6_earliest 10 = .ok (.iload_n 3, 1) := by decide +kernel
theorem dX6_earliest_11 : decode cX6_earliest 11 = .ok (.goto 4, 3) := by decide +kernel
theorem dX6_earliest_14 : decode cX6_earliest 14 = .ok (.iconst (-1), 1) := by decide +kernel
theorem dX6_earliest_15 : decode cX6_earliest 15 = .ok (.istore 5, 2) := by decide +kernel
theorem dX6_earliest_17 : decode cX6_earliest 17 = .ok (.iconst 0, 1) := by decide +kernel
theorem dX6_earliest_18 : decode cX6_earliest 18 = .ok (.istore 6, 2) := by decide +kernel
theorem dX6_earliest_20 : decode cX6_earliest 20 = .ok (.iload 6, 2) := by decide +kernel
theorem dX6_earliest_22 : decode cX6_earliest 22 = .ok (.sipush 400, 3) := by decide +kernel
theorem dX6_earliest_25 : decode cX6_earliest 25 = .ok (.if_icmp .ge 47, 3) := by decide +kernel
theorem dX6_earliest_28 : decode cX6_earliest 28 = .ok (.iload 5, 2) := by decide +kernel
theorem dX6_earliest_30 : decode cX6_earliest 30 = .ok (.ifCond .ge 42, 3) := by decide +kernel
theorem dX6_earliest_33 : decode cX6_earliest 33 = .ok (.aload_n 0, 1) := by decide +kernel
theorem dX6_earliest_34 : decode cX6_earliest 34 = .ok (.iload 4, 2) := by decide +kernel
theorem dX6_earliest_36 : decode cX6_earliest 36 = .ok (.iload_n 3, 1) := by decide +kernel
theorem dX6_earliest_37 : decode cX6_earliest 37 = .ok (.iload 6, 2) := by decide +kernel
theorem dX6_earliest_39 : decode cX6_earliest 39 = .ok (.iadd, 1) := by decide +kernel
theorem dX6_earliest_40 : decode cX6_earliest 40 = .ok (.invokevirtual 106, 3) := by decide +kernel
theorem dX6_earliest_43 : decode cX6_earliest 43 = .ok (.istore 4, 2) := by decide +kernel
theorem dX6_earliest_45 : decode cX6_earliest 45 = .ok (.iload 4, 2) := by decide +kernel
theorem dX6_earliest_47 : decode cX6_earliest 47 = .ok (.iload_n 2, 1) := by decide +kernel
theorem dX6_earliest_48 : decode cX6_earliest 48 = .ok (.invokestatic 98, 3) := by decide +kernel
theorem dX6_earliest_51 : decode cX6_earliest 51 = .ok (.ifCond .eq 12, 3) := by decide +kernel
theorem dX6_earliest_54 : decode cX6_earliest 54 = .ok (.iload_n 3, 1) := by decide +kernel
theorem dX6_earliest_55 : decode cX6_earliest 55 = .ok (.iload 6, 2) := by decide +kernel
theorem dX6_earliest_57 : decode cX6_earliest 57 = .ok (.iadd, 1) := by decide +kernel
theorem dX6_earliest_58 : decode cX6_earliest 58 = .ok (.iconst 1, 1) := by decide +kernel
theorem dX6_earliest_59 : decode cX6_earliest 59 = .ok (.iadd, 1) := by decide +kernel
theorem dX6_earliest_60 : decode cX6_earliest 60 = .ok (.goto 4, 3) := by decide +kernel
theorem dX6_earliest_63 : decode cX6_earliest 63 = .ok (.iconst (-1), 1) := by decide +kernel
theorem dX6_earliest_64 : decode cX6_earliest 64 = .ok (.istore 5, 2) := by decide +kernel
theorem dX6_earliest_66 : decode cX6_earliest 66 = .ok (.iinc 6 1, 3) := by decide +kernel
theorem dX6_earliest_69 : decode cX6_earliest 69 = .ok (.goto (-49), 3) := by decide +kernel
theorem dX6_earliest_72 : decode cX6_earliest 72 = .ok (.iload 5, 2) := by decide +kernel
theorem dX6_earliest_74 : decode cX6_earliest 74 = .ok (.ireturn, 1) := by decide +kernel
set_option maxRecDepth 20000 in
theorem ggX6_arrival_X6_isNode : GoodIn wsX6_arrival wsX6_isNode := goodIn_r _ [5, 6, 32, 33, 34, 35, 36, 37, 38, 39, 40, 41, 42, 43, 44, 45, 46, 47, 48, 49, 50] (by decide +kernel) (by decide +kernel)
set_option maxRecDepth 20000 in
theorem gX6_arrival_X6_isNode : GoodIn wsX6_arrival (wsV RX6 58 RX6 yX6_isNode wsX6_isNode) := goodIn_app (goodIn_of _ (by decide +kernel)) ggX6_arrival_X6_isNode
set_option maxRecDepth 20000 in
theorem ggX6_arrival_X6_isMinute : GoodIn wsX6_arrival wsX6_isMinute := goodIn_r _ [9, 10] (by decide +kernel) (by decide +kernel)
set_option maxRecDepth 20000 in
theorem gX6_arrival_X6_isMinute : GoodIn wsX6_arrival (va_wsS RX6 92 yX6_isMinute wsX6_isMinute) := goodIn_app (goodIn_of _ (by decide +kernel)) ggX6_arrival_X6_isMinute
set_option maxRecDepth 20000 in
theorem ggX6_arrival_X6_goes : GoodIn wsX6_arrival wsX6_goes := goodIn_r _ [14, 15, 32, 33, 34, 35, 36, 37, 38, 39, 40, 41, 42, 43, 44, 45, 46, 47, 48, 49, 50] (by decide +kernel) (by decide +kernel)
set_option maxRecDepth 20000 in
theorem gX6_arrival_X6_goes : GoodIn wsX6_arrival (wsV RX6 80 RX6 yX6_goes wsX6_goes) := goodIn_app (goodIn_of _ (by decide +kernel)) ggX6_arrival_X6_goes
set_option maxRecDepth 20000 in
theorem ggX6_arrival_X6_earliest : GoodIn wsX6_arrival wsX6_earliest := goodIn_r _ [19, 20, 21, 22, 4, 23, 6, 24, 25, 26, 27, 28, 29, 30, 31, 32, 33, 34, 35, 36, 37, 38, 39, 40, 41, 42, 43, 44, 45, 46, 47, 48, 49, 50] (by decide +kernel) (by decide +kernel)
set_option maxRecDepth 20000 in
theorem gX6_arrival_X6_earliest : GoodIn wsX6_arrival (wsV RX6 109 RX6 yX6_earliest wsX6_earliest) := goodIn_app (goodIn_of _ (by decide +kernel)) ggX6_arrival_X6_earliest
theorem dX6_arrival_0 : decode cX6_arrival 0 = .ok (.aload_n 0, 1) := by decide +kernel
theorem dX6_arrival_1 : decode cX6_arrival 1 = .ok (.aload_n 0, 1) := by decide +kernel
theorem dX6_arrival_2 : decode cX6_arrival 2 = .ok (.iload_n 1, 1) := by decide +kernel
theorem dX6_arrival_3 : decode cX6_arrival 3 = .ok (.invokevirtual 58, 3) := by decide +kernel
theorem dX6_arrival_6 : decode cX6_arrival 6 = .ok (.ifCond .eq 15, 3) := by decide +kernel
theorem dX6_arrival_9 : decode cX6_arrival 9 = .ok (.aload_n 0, 1) := by decide +kernel
theorem dX6_arrival_10 : decode cX6_arrival 10 = .ok (.iload_n 2, 1) := by decide +kernel
theorem dX6_arrival_11 : decode cX6_arrival 11 = .ok (.invokevirtual 58, 3) := by decide +kernel
theorem dX6_arrival_14 : decode cX6_arrival 14 = .ok (.ifCond .eq 7, 3) := by decide +kernel
theorem dX6_arrival_17 : decode cX6_arrival 17 = .ok (.iconst 1, 1) := by decide +kernel
theorem dX6_arrival_18 : decode cX6_arrival 18 = .ok (.goto 4, 3) := by decide +kernel
theorem dX6_arrival_21 : decode cX6_arrival 21 = .ok (.iconst 0, 1) := by decide +kernel
theorem dX6_arrival_22 : decode cX6_arrival 22 = .ok (.iload_n 3, 1) := by decide +kernel
theorem dX6_arrival_23 : decode cX6_arrival 23 = .ok (.invokestatic 92, 3) := by decide +kernel
theorem dX6_arrival_26 : decode cX6_arrival 26 = .ok (.iconst 1, 1) := by decide +kernel
theorem dX6_arrival_27 : decode cX6_arrival 27 = .ok (.invokevirtual 80, 3) := by decide +kernel
theorem dX6_arrival_30 : decode cX6_arrival 30 = .ok (.ifCond .eq 13, 3) := by decide +kernel
theorem dX6_arrival_33 : decode cX6_arrival 33 = .ok (.aload_n 0, 1) := by decide +kernel
theorem dX6_arrival_34 : decode cX6_arrival 34 = .ok (.iload_n 1, 1) := by decide +kernel
theorem dX6_arrival_35 : decode cX6_arrival 35 = .ok (.iload_n 2, 1) := by decide +kernel
theorem dX6_arrival_36 : decode cX6_arrival 36 = .ok (.iload_n 3, 1) := by decide +kernel
theorem dX6_arrival_37 : decode cX6_arrival 37 = .ok (.invokevirtual 109, 3) := by decide +kernel
theorem dX6_arrival_40 : decode cX6_arrival 40 = .ok (.goto 4, 3) := by decide +kernel
theorem dX6_arrival_43 : decode cX6_arrival 43 = .ok (.iconst 0, 1) := by decide +kernel
theorem dX6_arrival_44 : decode cX6_arrival 44 = .ok (.ireturn, 1) := by decide +kernel
set_option maxRecDepth 20000 in
theorem ggX6_arrivalByFlooding_X6_arrival : GoodIn wsX6_arrivalByFlooding wsX6_arrival := goodIn_r _ [5, 6, 7, 8, 4, 9, 10, 11, 12, 13, 14, 15, 16, 17, 18, 19, 20, 21, 22, 23, 24, 25, 26, 27, 28, 29, 30, 31, 32, 33, 34, 35, 36, 37, 38, 39, 40, 41, 42, 43, 44, 45, 46, 47, 48, 49, 50, 51, 52, 53, 54] (by decide +kernel) (by decide +kernel)
set_option maxRecDepth 20000 in
theorem gX6_arrivalByFlooding_X6_arrival : GoodIn wsX6_arrivalByFlooding (wsV RX6 112 RX6 yX6_arrival wsX6_arrival) := goodIn_app (goodIn_of _ (by decide +kernel)) ggX6_arrivalByFlooding_X6_arrival
theorem dX6_arrivalByFlooding_0 : decode cX6_arrivalByFlooding 0 = .ok (.aload_n 0, 1) := by decide +kernel
theorem dX6_arrivalByFlooding_1 : decode cX6_arrivalByFlooding 1 = .ok (.iload_n 1, 1) := by decide +kernel
theorem dX6_arrivalByFlooding_2 : decode cX6_arrivalByFlooding 2 = .ok (.iload_n 2, 1) := by decide +kernel
theorem dX6_arrivalByFlooding_3 : decode cX6_arrivalByFlooding 3 = .ok (.iload_n 3, 1) := by decide +kernel
theorem dX6_arrivalByFlooding_4 : decode cX6_arrivalByFlooding 4 = .ok (.invokevirtual 112, 3) := by decide +kernel
theorem dX6_arrivalByFlooding_7 : decode cX6_arrivalByFlooding 7 = .ok (.ireturn, 1) := by decide +kernel
set_option maxRecDepth 20000 in
theorem ggX6_spread_X6_isNode : GoodIn wsX6_spread wsX6_isNode := goodIn_r _ [6, 1, 28, 29, 30, 31, 32, 33, 34, 35, 36, 37, 38, 39, 40, 41, 42, 43, 44, 45, 46] (by decide +kernel) (by decide +kernel)
set_option maxRecDepth 20000 in
theorem gX6_spread_X6_isNode : GoodIn wsX6_spread (wsV RX6 58 RX6 yX6_isNode wsX6_isNode) := goodIn_app (goodIn_of _ (by decide +kernel)) ggX6_spread_X6_isNode
set_option maxRecDepth 20000 in
theorem ggX6_spread_X6_isMinute : GoodIn wsX6_spread wsX6_isMinute := goodIn_r _ [9, 10] (by decide +kernel) (by decide +kernel)
set_option maxRecDepth 20000 in
theorem gX6_spread_X6_isMinute : GoodIn wsX6_spread (va_wsS RX6 92 yX6_isMinute wsX6_isMinute) := goodIn_app (goodIn_of _ (by decide +kernel)) ggX6_spread_X6_isMinute
set_option maxRecDepth 20000 in
theorem ggX6_spread_X6_goes : GoodIn wsX6_spread wsX6_goes := goodIn_r _ [14, 15, 28, 29, 30, 31, 32, 33, 34, 35, 36, 37, 38, 39, 40, 41, 42, 43, 44, 45, 46] (by decide +kernel) (by decide +kernel)
set_option maxRecDepth 20000 in
theorem gX6_spread_X6_goes : GoodIn wsX6_spread (wsV RX6 80 RX6 yX6_goes wsX6_goes) := goodIn_app (goodIn_of _ (by decide +kernel)) ggX6_spread_X6_goes
set_option maxRecDepth 20000 in
theorem ggX6_spread_X6_next : GoodIn wsX6_spread wsX6_next := goodIn_r _ [19, 1, 20, 21, 5, 22, 23, 24, 25, 26, 27, 28, 29, 30, 31, 32, 33, 34, 35, 36, 37, 38, 39, 40, 41, 42, 43, 44, 45, 46] (by decide +kernel) (by decide +kernel)
set_option maxRecDepth 20000 in
theorem gX6_spread_X6_next : GoodIn wsX6_spread (wsV RX6 106 RX6 yX6_next wsX6_next) := goodIn_app (goodIn_of _ (by decide +kernel)) ggX6_spread_X6_next
theorem dX6_spread_0 : decode cX6_spread 0 = .ok (.aload_n 0, 1) := by decide +kernel
theorem dX6_spread_1 : decode cX6_spread 1 = .ok (.aload_n 0, 1) := by decide +kernel
theorem dX6_spread_2 : decode cX6_spread 2 = .ok (.iload_n 1, 1) := by decide +kernel
theorem dX6_spread_3 : decode cX6_spread 3 = .ok (.invokevirtual 58, 3) := by decide +kernel
theorem dX6_spread_6 : decode cX6_spread 6 = .ok (.iload_n 2, 1) := by decide +kernel
theorem dX6_spread_7 : decode cX6_spread 7 = .ok (.invokestatic 92, 3) := by decide +kernel
theorem dX6_spread_10 : decode cX6_spread 10 = .ok (.ifCond .eq 18, 3) := by decide +kernel
theorem dX6_spread_13 : decode cX6_spread 13 = .ok (.iload_n 3, 1) := by decide +kernel
theorem dX6_spread_14 : decode cX6_spread 14 = .ok (.ifCond .lt 14, 3) := by decide +kernel
theorem dX6_spread_17 : decode cX6_spread 17 = .ok (.iload_n 3, 1) := by decide +kernel
theorem dX6_spread_18 : decode cX6_spread 18 = .ok (.sipush 400, 3) := by decide +kernel
theorem dX6_spread_21 : decode cX6_spread 21 = .ok (.if_icmp .gt 7, 3) := by decide +kernel
theorem dX6_spread_24 : decode cX6_spread 24 = .ok (.iconst 1, 1) := by decide +kernel
theorem dX6_spread_25 : decode cX6_spread 25 = .ok (.goto 4, 3) := by decide +kernel
theorem dX6_spread_28 : decode cX6_spread 28 = .ok (.iconst 0, 1) := by decide +kernel
theorem dX6_spread_29 : decode cX6_spread 29 = .ok (.iconst 1, 1) := by decide +kernel
theorem dX6_spread_30 : decode cX6_spread 30 = .ok (.invokevirtual 80, 3) := by decide +kernel
theorem dX6_spread_33 : decode cX6_spread 33 = .ok (.ifCond .ne 5, 3) := by decide +kernel
theorem dX6_spread_36 : decode cX6_spread 36 = .ok (.iconst 0, 1) := by decide +kernel
theorem dX6_spread_37 : decode cX6_spread 37 = .ok (.ireturn, 1) := by decide +kernel
theorem dX6_spread_38 : decode cX6_spread 38 = .ok (.iconst 1, 1) := by decide +kernel
theorem dX6_spread_39 : decode cX6_spread 39 = .ok (.iload_n 1, 1) := by decide +kernel
theorem dX6_spread_40 : decode cX6_spread 40 = .ok (.ishl, 1) := by decide +kernel
theorem dX6_spread_41 : decode cX6_spread 41 = .ok (.istore 4, 2) := by decide +kernel
theorem dX6_spread_43 : decode cX6_spread 43 = .ok (.iconst 0, 1) := by decide +kernel
theorem dX6_spread_44 : decode cX6_spread 44 = .ok (.istore 5, 2) := by decide +kernel
theorem dX6_spread_46 : decode cX6_spread 46 = .ok (.iload 5, 2) := by decide +kernel
theorem dX6_spread_48 : decode cX6_spread 48 = .ok (.iload_n 3, 1) := by decide +kernel
theorem dX6_spread_49 : decode cX6_spread 49 = .ok (.if_icmp .ge 21, 3) := by decide +kernel
theorem dX6_spread_52 : decode cX6_spread 52 = .ok (.aload_n 0, 1) := by decide +kernel
theorem dX6_spread_53 : decode cX6_spread 53 = .ok (.iload 4, 2) := by decide +kernel
theorem dX6_spread_55 : decode cX6_spread 55 = .ok (.iload_n 2, 1) := by decide +kernel
theorem dX6_spread_56 : decode cX6_spread 56 = .ok (.iload 5, 2) := by decide +kernel
theorem dX6_spread_58 : decode cX6_spread 58 = .ok (.iadd, 1) := by decide +kernel
theorem dX6_spread_59 : decode cX6_spread 59 = .ok (.invokevirtual 106, 3) := by decide +kernel
theorem dX6_spread_62 : decode cX6_spread 62 = .ok (.istore 4, 2) := by decide +kernel
theorem dX6_spread_64 : decode cX6_spread 64 = .ok (.iinc 5 1, 3) := by decide +kernel
theorem dX6_spread_67 : decode cX6_spread 67 = .ok (.goto (-21), 3) := by decide +kernel
theorem dX6_spread_70 : decode cX6_spread 70 = .ok (.iconst 0, 1) := by decide +kernel
theorem dX6_spread_71 : decode cX6_spread 71 = .ok (.istore 5, 2) := by decide +kernel
theorem dX6_spread_73 : decode cX6_spread 73 = .ok (.iconst 0, 1) := by decide +kernel
theorem dX6_spread_74 : decode cX6_spread 74 = .ok (.istore 6, 2) := by decide +kernel
theorem dX6_spread_76 : decode cX6_spread 76 = .ok (.iload 6, 2) := by decide +kernel
theorem dX6_spread_78 : decode cX6_spread 78 = .ok (.aload_n 0, 1) := by decide +kernel
theorem dX6_spread_79 : decode cX6_spread 79 = .ok (.getfield 55, 3) := by decide +kernel
theorem dX6_spread_82 : decode cX6_spread 82 = .ok (.if_icmp .ge 21, 3) := by decide +kernel
theorem dX6_spread_85 : decode cX6_spread 85 = .ok (.iload 5, 2) := by decide +kernel
theorem dX6_spread_87 : decode cX6_spread 87 = .ok (.iload 4, 2) := by decide +kernel
theorem dX6_spread_89 : decode cX6_spread 89 = .ok (.iload 6, 2) := by decide +kernel
theorem dX6_spread_91 : decode cX6_spread 91 = .ok (.ishr, 1) := by decide +kernel
theorem dX6_spread_92 : decode cX6_spread 92 = .ok (.iconst 1, 1) := by decide +kernel
theorem dX6_spread_93 : decode cX6_spread 93 = .ok (.iand, 1) := by decide +kernel
theorem dX6_spread_94 : decode cX6_spread 94 = .ok (.iadd, 1) := by decide +kernel
theorem dX6_spread_95 : decode cX6_spread 95 = .ok (.istore 5, 2) := by decide +kernel
theorem dX6_spread_97 : decode cX6_spread 97 = .ok (.iinc 6 1, 3) := by decide +kernel
theorem dX6_spread_100 : decode cX6_spread 100 = .ok (.goto (-24), 3) := by decide +kernel
theorem dX6_spread_103 : decode cX6_spread 103 = .ok (.iload 5, 2) := by decide +kernel
theorem dX6_spread_105 : decode cX6_spread 105 = .ok (.ireturn, 1) := by decide +kernel
set_option maxRecDepth 20000 in
theorem ggX6_send_X6_isStation : GoodIn wsX6_send wsX6_isStation := goodIn_r _ [9, 10, 11, 12, 13, 8, 14, 15, 21, 22, 23, 24, 25, 26, 27, 28, 29, 30, 31, 32, 33, 34, 35, 36, 37, 38, 39] (by decide +kernel) (by decide +kernel)
set_option maxRecDepth 20000 in
theorem gX6_send_X6_isStation : GoodIn wsX6_send (wsV RX6 115 RX6 yX6_isStation wsX6_isStation) := goodIn_app (goodIn_of _ (by decide +kernel)) ggX6_send_X6_isStation
set_option maxRecDepth 20000 in
theorem ggX6_send_X6_goes : GoodIn wsX6_send wsX6_goes := goodIn_r _ [19, 20, 21, 22, 23, 24, 25, 26, 27, 28, 29, 30, 31, 32, 33, 34, 35, 36, 37, 38, 39] (by decide +kernel) (by decide +kernel)
set_option maxRecDepth 20000 in
theorem gX6_send_X6_goes : GoodIn wsX6_send (wsV RX6 80 RX6 yX6_goes wsX6_goes) := goodIn_app (goodIn_of _ (by decide +kernel)) ggX6_send_X6_goes
theorem dX6_send_0 : decode cX6_send 0 = .ok (.aload_n 0, 1) := by decide +kernel
theorem dX6_send_1 : decode cX6_send 1 = .ok (.aload_n 0, 1) := by decide +kernel
theorem dX6_send_2 : decode cX6_send 2 = .ok (.iload_n 1, 1) := by decide +kernel
theorem dX6_send_3 : decode cX6_send 3 = .ok (.invokevirtual 115, 3) := by decide +kernel
theorem dX6_send_6 : decode cX6_send 6 = .ok (.ifCond .eq 15, 3) := by decide +kernel
theorem dX6_send_9 : decode cX6_send 9 = .ok (.aload_n 0, 1) := by decide +kernel
theorem dX6_send_10 : decode cX6_send 10 = .ok (.iload_n 2, 1) := by decide +kernel
theorem dX6_send_11 : decode cX6_send 11 = .ok (.invokevirtual 115, 3) := by decide +kernel
theorem dX6_send_14 : decode cX6_send 14 = .ok (.ifCond .eq 7, 3) := by decide +kernel
theorem dX6_send_17 : decode cX6_send 17 = .ok (.iconst 1, 1) := by decide +kernel
theorem dX6_send_18 : decode cX6_send 18 = .ok (.goto 4, 3) := by decide +kernel
theorem dX6_send_21 : decode cX6_send 21 = .ok (.iconst 0, 1) := by decide +kernel
theorem dX6_send_22 : decode cX6_send 22 = .ok (.iload_n 1, 1) := by decide +kernel
theorem dX6_send_23 : decode cX6_send 23 = .ok (.iload_n 2, 1) := by decide +kernel
theorem dX6_send_24 : decode cX6_send 24 = .ok (.if_icmp .eq 7, 3) := by decide +kernel
theorem dX6_send_27 : decode cX6_send 27 = .ok (.iconst 1, 1) := by decide +kernel
theorem dX6_send_28 : decode cX6_send 28 = .ok (.goto 4, 3) := by decide +kernel
theorem dX6_send_31 : decode cX6_send 31 = .ok (.iconst 0, 1) := by decide +kernel
theorem dX6_send_32 : decode cX6_send 32 = .ok (.aload_n 0, 1) := by decide +kernel
theorem dX6_send_33 : decode cX6_send 33 = .ok (.getfield 62, 3) := by decide +kernel
theorem dX6_send_36 : decode cX6_send 36 = .ok (.bipush 20, 2) := by decide +kernel
theorem dX6_send_38 : decode cX6_send 38 = .ok (.if_icmp .ge 7, 3) := by decide +kernel
theorem dX6_send_41 : decode cX6_send 41 = .ok (.iconst 1, 1) := by decide +kernel
theorem dX6_send_42 : decode cX6_send 42 = .ok (.goto 4, 3) := by decide +kernel
theorem dX6_send_45 : decode cX6_send 45 = .ok (.iconst 0, 1) := by decide +kernel
theorem dX6_send_46 : decode cX6_send 46 = .ok (.invokevirtual 80, 3) := by decide +kernel
theorem dX6_send_49 : decode cX6_send 49 = .ok (.ifCond .ne 5, 3) := by decide +kernel
theorem dX6_send_52 : decode cX6_send 52 = .ok (.iconst 0, 1) := by decide +kernel
theorem dX6_send_53 : decode cX6_send 53 = .ok (.ireturn, 1) := by decide +kernel
theorem dX6_send_54 : decode cX6_send 54 = .ok (.aload_n 0, 1) := by decide +kernel
theorem dX6_send_55 : decode cX6_send 55 = .ok (.getfield 35, 3) := by decide +kernel
theorem dX6_send_58 : decode cX6_send 58 = .ok (.aload_n 0, 1) := by decide +kernel
theorem dX6_send_59 : decode cX6_send 59 = .ok (.getfield 62, 3) := by decide +kernel
theorem dX6_send_62 : decode cX6_send 62 = .ok (.iload_n 1, 1) := by decide +kernel
theorem dX6_send_63 : decode cX6_send 63 = .ok (.iastore, 1) := by decide +kernel
theorem dX6_send_64 : decode cX6_send 64 = .ok (.aload_n 0, 1) := by decide +kernel
theorem dX6_send_65 : decode cX6_send 65 = .ok (.getfield 38, 3) := by decide +kernel
theorem dX6_send_68 : decode cX6_send 68 = .ok (.aload_n 0, 1) := by decide +kernel
theorem dX6_send_69 : decode cX6_send 69 = .ok (.getfield 62, 3) := by decide +kernel
theorem dX6_send_72 : decode cX6_send 72 = .ok (.iload_n 2, 1) := by decide +kernel
theorem dX6_send_73 : decode cX6_send 73 = .ok (.iastore, 1) := by decide +kernel
theorem dX6_send_74 : decode cX6_send 74 = .ok (.aload_n 0, 1) := by decide +kernel
theorem dX6_send_75 : decode cX6_send 75 = .ok (.getfield 41, 3) := by decide +kernel
theorem dX6_send_78 : decode cX6_send 78 = .ok (.aload_n 0, 1) := by decide +kernel
theorem dX6_send_79 : decode cX6_send 79 = .ok (.getfield 62, 3) := by decide +kernel
theorem dX6_send_82 : decode cX6_send 82 = .ok (.iconst (-1), 1) := by decide +kernel
theorem dX6_send_83 : decode cX6_send 83 = .ok (.iastore, 1) := by decide +kernel
theorem dX6_send_84 : decode cX6_send 84 = .ok (.aload_n 0, 1) := by decide +kernel
theorem dX6_send_85 : decode cX6_send 85 = .ok (.dup, 1) := by decide +kernel
theorem dX6_send_86 : decode cX6_send 86 = .ok (.getfield 62, 3) := by decide +kernel
theorem dX6_send_89 : decode cX6_send 89 = .ok (.iconst 1, 1) := by decide +kernel
theorem dX6_send_90 : decode cX6_send 90 = .ok (.iadd, 1) := by decide +kernel
theorem dX6_send_91 : decode cX6_send 91 = .ok (.putfield 62, 3) := by decide +kernel
theorem dX6_send_94 : decode cX6_send 94 = .ok (.aload_n 0, 1) := by decide +kernel
theorem dX6_send_95 : decode cX6_send 95 = .ok (.getfield 62, 3) := by decide +kernel
theorem dX6_send_98 : decode cX6_send 98 = .ok (.iconst 1, 1) := by decide +kernel
theorem dX6_send_99 : decode cX6_send 99 = .ok (.isub, 1) := by decide +kernel
theorem dX6_send_100 : decode cX6_send 100 = .ok (.ireturn, 1) := by decide +kernel
theorem dX6_loadOf_0 : decode cX6_loadOf 0 = .ok (.iconst 0, 1) := by decide +kernel
theorem dX6_loadOf_1 : decode cX6_loadOf 1 = .ok (.istore_n 2, 1) := by decide +kernel
theorem dX6_loadOf_2 : decode cX6_loadOf 2 = .ok (.iconst 0, 1) := by decide +kernel
theorem dX6_loadOf_3 : decode cX6_loadOf 3 = .ok (.istore_n 3, 1) := by decide +kernel
theorem dX6_loadOf_4 : decode cX6_loadOf 4 = .ok (.iload_n 3, 1) := by decide +kernel
theorem dX6_loadOf_5 : decode cX6_loadOf 5 = .ok (.aload_n 0, 1) := by decide +kernel
theorem dX6_loadOf_6 : decode cX6_loadOf 6 = .ok (.getfield 62, 3) := by decide +kernel
theorem dX6_loadOf_9 : decode cX6_loadOf 9 = .ok (.if_icmp .ge 27, 3) := by decide +kernel
theorem dX6_loadOf_12 : decode cX6_loadOf 12 = .ok (.iload_n 2, 1) := by decide +kernel
theorem dX6_loadOf_13 : decode cX6_loadOf 13 = .ok (.aload_n 0, 1) := by decide +kernel
theorem dX6_loadOf_14 : decode cX6_loadOf 14 = .ok (.getfield 35, 3) := by decide +kernel
theorem dX6_loadOf_17 : decode cX6_loadOf 17 = .ok (.iload_n 3, 1) := by decide +kernel
theorem dX6_loadOf_18 : decode cX6_loadOf 18 = .ok (.iaload, 1) := by decide +kernel
theorem dX6_loadOf_19 : decode cX6_loadOf 19 = .ok (.iload_n 1, 1) := by decide +kernel
theorem dX6_loadOf_20 : decode cX6_loadOf 20 = .ok (.if_icmp .ne 7, 3) := by decide +kernel
theorem dX6_loadOf_23 : decode cX6_loadOf 23 = .ok (.iconst 1, 1) := by decide +kernel
theorem dX6_loadOf_24 : decode cX6_loadOf 24 = .ok (.goto 4, 3) := by decide +kernel
theorem dX6_loadOf_27 : decode cX6_loadOf 27 = .ok (.iconst 0, 1) := by decide +kernel
theorem dX6_loadOf_28 : decode cX6_loadOf 28 = .ok (.iadd, 1) := by decide +kernel
theorem dX6_loadOf_29 : decode cX6_loadOf 29 = .ok (.istore_n 2, 1) := by decide +kernel
theorem dX6_loadOf_30 : decode cX6_loadOf 30 = .ok (.iinc 3 1, 3) := by decide +kernel
theorem dX6_loadOf_33 : decode cX6_loadOf 33 = .ok (.goto (-29), 3) := by decide +kernel
theorem dX6_loadOf_36 : decode cX6_loadOf 36 = .ok (.iload_n 2, 1) := by decide +kernel
theorem dX6_loadOf_37 : decode cX6_loadOf 37 = .ok (.ireturn, 1) := by decide +kernel
set_option maxRecDepth 20000 in
theorem ggX6_handTo_X6_earliest : GoodIn wsX6_handTo wsX6_earliest := goodIn_r _ [9, 10, 11, 12, 8, 13, 4, 14, 15, 16, 17, 18, 19, 20, 21, 22, 23, 24, 25, 26, 27, 28, 29, 30, 31, 32, 33, 34, 35, 36, 37, 38, 39, 40] (by decide +kernel) (by decide +kernel)
set_option maxRecDepth 20000 in
theorem gX6_handTo_X6_earliest : GoodIn wsX6_handTo (wsV RX6 109 RX6 yX6_earliest wsX6_earliest) := goodIn_app (goodIn_of _ (by decide +kernel)) ggX6_handTo_X6_earliest
set_option maxRecDepth 20000 in
theorem ggX6_handTo_X6_seenAt : GoodIn wsX6_handTo wsX6_seenAt := goodIn_r _ [20, 21, 22, 23, 24, 25, 26, 27, 28, 29, 30, 31, 32, 33, 34, 35, 36, 37, 38, 39, 40] (by decide +kernel) (by decide +kernel)
set_option maxRecDepth 20000 in
theorem gX6_handTo_X6_seenAt : GoodIn wsX6_handTo (wsV RX6 95 RX6 yX6_seenAt wsX6_seenAt) := goodIn_app (goodIn_of _ (by decide +kernel)) ggX6_handTo_X6_seenAt
set_option maxRecDepth 20000 in
theorem ggX6_handTo_X6_has : GoodIn wsX6_handTo wsX6_has := goodIn_r _ [16] (by decide +kernel) (by decide +kernel)
set_option maxRecDepth 20000 in
theorem gX6_handTo_X6_has : GoodIn wsX6_handTo (va_wsS RX6 98 yX6_has wsX6_has) := goodIn_app (goodIn_of _ (by decide +kernel)) ggX6_handTo_X6_has
theorem dX6_handTo_0 : decode cX6_handTo 0 = .ok (.aload_n 0, 1) := by decide +kernel
theorem dX6_handTo_1 : decode cX6_handTo 1 = .ok (.aload_n 0, 1) := by decide +kernel
theorem dX6_handTo_2 : decode cX6_handTo 2 = .ok (.getfield 35, 3) := by decide +kernel
theorem dX6_handTo_5 : decode cX6_handTo 5 = .ok (.iload_n 1, 1) := by decide +kernel
theorem dX6_handTo_6 : decode cX6_handTo 6 = .ok (.iaload, 1) := by decide +kernel
theorem dX6_handTo_7 : decode cX6_handTo 7 = .ok (.aload_n 0, 1) := by decide +kernel
theorem dX6_handTo_8 : decode cX6_handTo 8 = .ok (.getfield 38, 3) := by decide +kernel
theorem dX6_handTo_11 : decode cX6_handTo 11 = .ok (.iload_n 1, 1) := by decide +kernel
theorem dX6_handTo_12 : decode cX6_handTo 12 = .ok (.iaload, 1) := by decide +kernel
theorem dX6_handTo_13 : decode cX6_handTo 13 = .ok (.aload_n 0, 1) := by decide +kernel
theorem dX6_handTo_14 : decode cX6_handTo 14 = .ok (.getfield 118, 3) := by decide +kernel
theorem dX6_handTo_17 : decode cX6_handTo 17 = .ok (.invokevirtual 109, 3) := by decide +kernel
theorem dX6_handTo_20 : decode cX6_handTo 20 = .ok (.istore_n 2, 1) := by decide +kernel
theorem dX6_handTo_21 : decode cX6_handTo 21 = .ok (.iload_n 2, 1) := by decide +kernel
theorem dX6_handTo_22 : decode cX6_handTo 22 = .ok (.ifCond .ge 5, 3) := by decide +kernel
theorem dX6_handTo_25 : decode cX6_handTo 25 = .ok (.iconst (-1), 1) := by decide +kernel
theorem dX6_handTo_26 : decode cX6_handTo 26 = .ok (.ireturn, 1) := by decide +kernel
theorem dX6_handTo_27 : decode cX6_handTo 27 = .ok (.aload_n 0, 1) := by decide +kernel
theorem dX6_handTo_28 : decode cX6_handTo 28 = .ok (.aload_n 0, 1) := by decide +kernel
theorem dX6_handTo_29 : decode cX6_handTo 29 = .ok (.getfield 35, 3) := by decide +kernel
theorem dX6_handTo_32 : decode cX6_handTo 32 = .ok (.iload_n 1, 1) := by decide +kernel
theorem dX6_handTo_33 : decode cX6_handTo 33 = .ok (.iaload, 1) := by decide +kernel
theorem dX6_handTo_34 : decode cX6_handTo 34 = .ok (.aload_n 0, 1) := by decide +kernel
theorem dX6_handTo_35 : decode cX6_handTo 35 = .ok (.getfield 38, 3) := by decide +kernel
theorem dX6_handTo_38 : decode cX6_handTo 38 = .ok (.iload_n 1, 1) := by decide +kernel
theorem dX6_handTo_39 : decode cX6_handTo 39 = .ok (.iaload, 1) := by decide +kernel
theorem dX6_handTo_40 : decode cX6_handTo 40 = .ok (.aload_n 0, 1) := by decide +kernel
theorem dX6_handTo_41 : decode cX6_handTo 41 = .ok (.getfield 118, 3) := by decide +kernel
theorem dX6_handTo_44 : decode cX6_handTo 44 = .ok (.iconst 1, 1) := by decide +kernel
theorem dX6_handTo_45 : decode cX6_handTo 45 = .ok (.iadd, 1) := by decide +kernel
theorem dX6_handTo_46 : decode cX6_handTo 46 = .ok (.invokevirtual 109, 3) := by decide +kernel
theorem dX6_handTo_49 : decode cX6_handTo 49 = .ok (.istore_n 3, 1) := by decide +kernel
theorem dX6_handTo_50 : decode cX6_handTo 50 = .ok (.iconst (-1), 1) := by decide +kernel
theorem dX6_handTo_51 : decode cX6_handTo 51 = .ok (.istore 4, 2) := by decide +kernel
theorem dX6_handTo_53 : decode cX6_handTo 53 = .ok (.aload_n 0, 1) := by decide +kernel
theorem dX6_handTo_54 : decode cX6_handTo 54 = .ok (.getfield 55, 3) := by decide +kernel
theorem dX6_handTo_57 : decode cX6_handTo 57 = .ok (.iconst 1, 1) := by decide +kernel
theorem dX6_handTo_58 : decode cX6_handTo 58 = .ok (.isub, 1) := by decide +kernel
theorem dX6_handTo_59 : decode cX6_handTo 59 = .ok (.istore 5, 2) := by decide +kernel
theorem dX6_handTo_61 : decode cX6_handTo 61 = .ok (.iload 5, 2) := by decide +kernel
theorem dX6_handTo_63 : decode cX6_handTo 63 = .ok (.ifCond .lt 71, 3) := by decide +kernel
theorem dX6_handTo_66 : decode cX6_handTo 66 = .ok (.iload_n 3, 1) := by decide +kernel
theorem dX6_handTo_67 : decode cX6_handTo 67 = .ok (.ifCond .lt 8, 3) := by decide +kernel
theorem dX6_handTo_70 : decode cX6_handTo 70 = .ok (.iload_n 3, 1) := by decide +kernel
theorem dX6_handTo_71 : decode cX6_handTo 71 = .ok (.iload_n 2, 1) := by decide +kernel
theorem dX6_handTo_72 : decode cX6_handTo 72 = .ok (.if_icmp .le 62, 3) := by decide +kernel
theorem dX6_handTo_75 : decode cX6_handTo 75 = .ok (.aload_n 0, 1) := by decide +kernel
theorem dX6_handTo_76 : decode cX6_handTo 76 = .ok (.aload_n 0, 1) := by decide +kernel
theorem dX6_handTo_77 : decode cX6_handTo 77 = .ok (.getfield 35, 3) := by decide +kernel
theorem dX6_handTo_80 : decode cX6_handTo 80 = .ok (.iload_n 1, 1) := by decide +kernel
theorem dX6_handTo_81 : decode cX6_handTo 81 = .ok (.iaload, 1) := by decide +kernel
theorem dX6_handTo_82 : decode cX6_handTo 82 = .ok (.aload_n 0, 1) := by decide +kernel
theorem dX6_handTo_83 : decode cX6_handTo 83 = .ok (.getfield 118, 3) := by decide +kernel
theorem dX6_handTo_86 : decode cX6_handTo 86 = .ok (.invokevirtual 95, 3) := by decide +kernel
theorem dX6_handTo_89 : decode cX6_handTo 89 = .ok (.iload 5, 2) := by decide +kernel
theorem dX6_handTo_91 : decode cX6_handTo 91 = .ok (.invokestatic 98, 3) := by decide +kernel
theorem dX6_handTo_94 : decode cX6_handTo 94 = .ok (.ifCond .eq 30, 3) := by decide +kernel
theorem dX6_handTo_97 : decode cX6_handTo 97 = .ok (.aload_n 0, 1) := by decide +kernel
theorem dX6_handTo_98 : decode cX6_handTo 98 = .ok (.iload 5, 2) := by decide +kernel
theorem dX6_handTo_100 : decode cX6_handTo 100 = .ok (.aload_n 0, 1) := by decide +kernel
theorem dX6_handTo_101 : decode cX6_handTo 101 = .ok (.getfield 38, 3) := by decide +kernel
theorem dX6_handTo_104 : decode cX6_handTo 104 = .ok (.iload_n 1, 1) := by decide +kernel
theorem dX6_handTo_105 : decode cX6_handTo 105 = .ok (.iaload, 1) := by decide +kernel
theorem dX6_handTo_106 : decode cX6_handTo 106 = .ok (.aload_n 0, 1) := by decide +kernel
theorem dX6_handTo_107 : decode cX6_handTo 107 = .ok (.getfield 118, 3) := by decide +kernel
theorem dX6_handTo_110 : decode cX6_handTo 110 = .ok (.iconst 1, 1) := by decide +kernel
theorem dX6_handTo_111 : decode cX6_handTo 111 = .ok (.iadd, 1) := by decide +kernel
theorem dX6_handTo_112 : decode cX6_handTo 112 = .ok (.invokevirtual 109, 3) := by decide +kernel
theorem dX6_handTo_115 : decode cX6_handTo 115 = .ok (.iload_n 2, 1) := by decide +kernel
theorem dX6_handTo_116 : decode cX6_handTo 116 = .ok (.if_icmp .ne 8, 3) := by decide +kernel
theorem dX6_handTo_119 : decode cX6_handTo 119 = .ok (.iload 5, 2) := by decide +kernel
theorem dX6_handTo_121 : decode cX6_handTo 121 = .ok (.goto 5, 3) := by decide +kernel
theorem dX6_handTo_124 : decode cX6_handTo 124 = .ok (.iload 4, 2) := by decide +kernel
theorem dX6_handTo_126 : decode cX6_handTo 126 = .ok (.istore 4, 2) := by decide +kernel
theorem dX6_handTo_128 : decode cX6_handTo 128 = .ok (.iinc 5 (-1), 3) := by decide +kernel
theorem dX6_handTo_131 : decode cX6_handTo 131 = .ok (.goto (-70), 3) := by decide +kernel
theorem dX6_handTo_134 : decode cX6_handTo 134 = .ok (.iload 4, 2) := by decide +kernel
theorem dX6_handTo_136 : decode cX6_handTo 136 = .ok (.ireturn, 1) := by decide +kernel
set_option maxRecDepth 20000 in
theorem ggX6_moves_X6_handTo : GoodIn wsX6_moves wsX6_handTo := goodIn_r _ [14, 4, 9, 7, 15, 16, 17, 18, 13, 19, 20, 21, 22, 23, 24, 25, 26, 27, 28, 29, 30, 31, 37, 38, 39, 40, 41, 42, 43, 44, 45, 46, 47, 48, 49, 50, 51, 52, 53, 54, 55] (by decide +kernel) (by decide +kernel)
set_option maxRecDepth 20000 in
theorem gX6_moves_X6_handTo : GoodIn wsX6_moves (wsV RX6 121 RX6 yX6_handTo wsX6_handTo) := goodIn_app (goodIn_of _ (by decide +kernel)) ggX6_moves_X6_handTo
set_option maxRecDepth 20000 in
theorem ggX6_moves_X6_loadOf : GoodIn wsX6_moves wsX6_loadOf := goodIn_r _ [35, 36, 4, 37, 38, 39, 40, 41, 42, 43, 44, 45, 46, 47, 48, 49, 50, 51, 52, 53, 54, 55] (by decide +kernel) (by decide +kernel)
set_option maxRecDepth 20000 in
theorem gX6_moves_X6_loadOf : GoodIn wsX6_moves (wsV RX6 125 RX6 yX6_loadOf wsX6_loadOf) := goodIn_app (goodIn_of _ (by decide +kernel)) ggX6_moves_X6_loadOf
theorem dX6_moves_0 : decode cX6_moves 0 = .ok (.aload_n 0, 1) := by decide +kernel
theorem dX6_moves_1 : decode cX6_moves 1 = .ok (.iload_n 1, 1) := by decide +kernel
theorem dX6_moves_2 : decode cX6_moves 2 = .ok (.invokevirtual 121, 3) := by decide +kernel
theorem dX6_moves_5 : decode cX6_moves 5 = .ok (.istore_n 2, 1) := by decide +kernel
theorem dX6_moves_6 : decode cX6_moves 6 = .ok (.iload_n 2, 1) := by decide +kernel
theorem dX6_moves_7 : decode cX6_moves 7 = .ok (.ifCond .ge 5, 3) := by decide +kernel
theorem dX6_moves_10 : decode cX6_moves 10 = .ok (.iconst 0, 1) := by decide +kernel
theorem dX6_moves_11 : decode cX6_moves 11 = .ok (.ireturn, 1) := by decide +kernel
theorem dX6_moves_12 : decode cX6_moves 12 = .ok (.aload_n 0, 1) := by decide +kernel
theorem dX6_moves_13 : decode cX6_moves 13 = .ok (.getfield 22, 3) := by decide +kernel
theorem dX6_moves_16 : decode cX6_moves 16 = .ok (.iload_n 2, 1) := by decide +kernel
theorem dX6_moves_17 : decode cX6_moves 17 = .ok (.baload, 1) := by decide +kernel
theorem dX6_moves_18 : decode cX6_moves 18 = .ok (.ifCond .eq 29, 3) := by decide +kernel
theorem dX6_moves_21 : decode cX6_moves 21 = .ok (.aload_n 0, 1) := by decide +kernel
theorem dX6_moves_22 : decode cX6_moves 22 = .ok (.iload_n 2, 1) := by decide +kernel
theorem dX6_moves_23 : decode cX6_moves 23 = .ok (.invokevirtual 125, 3) := by decide +kernel
theorem dX6_moves_26 : decode cX6_moves 26 = .ok (.aload_n 0, 1) := by decide +kernel
theorem dX6_moves_27 : decode cX6_moves 27 = .ok (.getfield 19, 3) := by decide +kernel
theorem dX6_moves_30 : decode cX6_moves 30 = .ok (.iload_n 2, 1) := by decide +kernel
theorem dX6_moves_31 : decode cX6_moves 31 = .ok (.iaload, 1) := by decide +kernel
theorem dX6_moves_32 : decode cX6_moves 32 = .ok (.if_icmp .lt 15, 3) := by decide +kernel
theorem dX6_moves_35 : decode cX6_moves 35 = .ok (.aload_n 0, 1) := by decide +kernel
theorem dX6_moves_36 : decode cX6_moves 36 = .ok (.getfield 44, 3) := by decide +kernel
theorem dX6_moves_39 : decode cX6_moves 39 = .ok (.iload_n 1, 1) := by decide +kernel
theorem dX6_moves_40 : decode cX6_moves 40 = .ok (.dup2, 1) := by decide +kernel
theorem dX6_moves_41 : decode cX6_moves 41 = .ok (.iaload, 1) := by decide +kernel
theorem dX6_moves_42 : decode cX6_moves 42 = .ok (.iconst 1, 1) := by decide +kernel
theorem dX6_moves_43 : decode cX6_moves 43 = .ok (.iadd, 1) := by decide +kernel
theorem dX6_moves_44 : decode cX6_moves 44 = .ok (.iastore, 1) := by decide +kernel
theorem dX6_moves_45 : decode cX6_moves 45 = .ok (.iconst 0, 1) := by decide +kernel
theorem dX6_moves_46 : decode cX6_moves 46 = .ok (.ireturn, 1) := by decide +kernel
theorem dX6_moves_47 : decode cX6_moves 47 = .ok (.aload_n 0, 1) := by decide +kernel
theorem dX6_moves_48 : decode cX6_moves 48 = .ok (.getfield 35, 3) := by decide +kernel
theorem dX6_moves_51 : decode cX6_moves 51 = .ok (.iload_n 1, 1) := by decide +kernel
theorem dX6_moves_52 : decode cX6_moves 52 = .ok (.iload_n 2, 1) := by decide +kernel
theorem dX6_moves_53 : decode cX6_moves 53 = .ok (.iastore, 1) := by decide +kernel
theorem dX6_moves_54 : decode cX6_moves 54 = .ok (.aload_n 0, 1) := by decide +kernel
theorem dX6_moves_55 : decode cX6_moves 55 = .ok (.getfield 48, 3) := by decide +kernel
theorem dX6_moves_58 : decode cX6_moves 58 = .ok (.aload_n 0, 1) := by decide +kernel
theorem dX6_moves_59 : decode cX6_moves 59 = .ok (.getfield 128, 3) := by decide +kernel
theorem dX6_moves_62 : decode cX6_moves 62 = .ok (.sipush 200, 3) := by decide +kernel
theorem dX6_moves_65 : decode cX6_moves 65 = .ok (.aload_n 0, 1) := by decide +kernel
theorem dX6_moves_66 : decode cX6_moves 66 = .ok (.getfield 118, 3) := by decide +kernel
theorem dX6_moves_69 : decode cX6_moves 69 = .ok (.imul, 1) := by decide +kernel
theorem dX6_moves_70 : decode cX6_moves 70 = .ok (.bipush 10, 2) := by decide +kernel
theorem dX6_moves_72 : decode cX6_moves 72 = .ok (.iload_n 1, 1) := by decide +kernel
theorem dX6_moves_73 : decode cX6_moves 73 = .ok (.imul, 1) := by decide +kernel
theorem dX6_moves_74 : decode cX6_moves 74 = .ok (.iadd, 1) := by decide +kernel
theorem dX6_moves_75 : decode cX6_moves 75 = .ok (.iload_n 2, 1) := by decide +kernel
theorem dX6_moves_76 : decode cX6_moves 76 = .ok (.iadd, 1) := by decide +kernel
theorem dX6_moves_77 : decode cX6_moves 77 = .ok (.iastore, 1) := by decide +kernel
theorem dX6_moves_78 : decode cX6_moves 78 = .ok (.aload_n 0, 1) := by decide +kernel
theorem dX6_moves_79 : decode cX6_moves 79 = .ok (.dup, 1) := by decide +kernel
theorem dX6_moves_80 : decode cX6_moves 80 = .ok (.getfield 128, 3) := by decide +kernel
theorem dX6_moves_83 : decode cX6_moves 83 = .ok (.iconst 1, 1) := by decide +kernel
theorem dX6_moves_84 : decode cX6_moves 84 = .ok (.iadd, 1) := by decide +kernel
theorem dX6_moves_85 : decode cX6_moves 85 = .ok (.putfield 128, 3) := by decide +kernel
theorem dX6_moves_88 : decode cX6_moves 88 = .ok (.aload_n 0, 1) := by decide +kernel
theorem dX6_moves_89 : decode cX6_moves 89 = .ok (.getfield 41, 3) := by decide +kernel
theorem dX6_moves_92 : decode cX6_moves 92 = .ok (.iload_n 1, 1) := by decide +kernel
theorem dX6_moves_93 : decode cX6_moves 93 = .ok (.iload_n 2, 1) := by decide +kernel
theorem dX6_moves_94 : decode cX6_moves 94 = .ok (.aload_n 0, 1) := by decide +kernel
theorem dX6_moves_95 : decode cX6_moves 95 = .ok (.getfield 38, 3) := by decide +kernel
theorem dX6_moves_98 : decode cX6_moves 98 = .ok (.iload_n 1, 1) := by decide +kernel
theorem dX6_moves_99 : decode cX6_moves 99 = .ok (.iaload, 1) := by decide +kernel
theorem dX6_moves_100 : decode cX6_moves 100 = .ok (.if_icmp .ne 12, 3) := by decide +kernel
theorem dX6_moves_103 : decode cX6_moves 103 = .ok (.aload_n 0, 1) := by decide +kernel
theorem dX6_moves_104 : decode cX6_moves 104 = .ok (.getfield 118, 3) := by decide +kernel
theorem dX6_moves_107 : decode cX6_moves 107 = .ok (.iconst 1, 1) := by decide +kernel
theorem dX6_moves_108 : decode cX6_moves 108 = .ok (.iadd, 1) := by decide +kernel
theorem dX6_moves_109 : decode cX6_moves 109 = .ok (.goto 4, 3) := by decide +kernel
theorem dX6_moves_112 : decode cX6_moves 112 = .ok (.iconst (-1), 1) := by decide +kernel
theorem dX6_moves_113 : decode cX6_moves 113 = .ok (.iastore, 1) := by decide +kernel
theorem dX6_moves_114 : decode cX6_moves 114 = .ok (.iload_n 2, 1) := by decide +kernel
theorem dX6_moves_115 : decode cX6_moves 115 = .ok (.aload_n 0, 1) := by decide +kernel
theorem dX6_moves_116 : decode cX6_moves 116 = .ok (.getfield 38, 3) := by decide +kernel
theorem dX6_moves_119 : decode cX6_moves 119 = .ok (.iload_n 1, 1) := by decide +kernel
theorem dX6_moves_120 : decode cX6_moves 120 = .ok (.iaload, 1) := by decide +kernel
theorem dX6_moves_121 : decode cX6_moves 121 = .ok (.if_icmp .ne 7, 3) := by decide +kernel
theorem dX6_moves_124 : decode cX6_moves 124 = .ok (.iconst 1, 1) := by decide +kernel
theorem dX6_moves_125 : decode cX6_moves 125 = .ok (.goto 4, 3) := by decide +kernel
theorem dX6_moves_128 : decode cX6_moves 128 = .ok (.iconst 0, 1) := by decide +kernel
theorem dX6_moves_129 : decode cX6_moves 129 = .ok (.ireturn, 1) := by decide +kernel
set_option maxRecDepth 20000 in
theorem ggX6_serves_X6_seenAt : GoodIn wsX6_serves wsX6_seenAt := goodIn_r _ [9, 10, 18, 19, 20, 21, 22, 23, 24, 25, 26, 27, 28, 29, 30, 31, 32, 33, 34, 35, 36] (by decide +kernel) (by decide +kernel)
set_option maxRecDepth 20000 in
theorem gX6_serves_X6_seenAt : GoodIn wsX6_serves (wsV RX6 95 RX6 yX6_seenAt wsX6_seenAt) := goodIn_app (goodIn_of _ (by decide +kernel)) ggX6_serves_X6_seenAt
set_option maxRecDepth 20000 in
theorem ggX6_serves_X6_has : GoodIn wsX6_serves wsX6_has := goodIn_r _ [13] (by decide +kernel) (by decide +kernel)
set_option maxRecDepth 20000 in
theorem gX6_serves_X6_has : GoodIn wsX6_serves (va_wsS RX6 98 yX6_has wsX6_has) := goodIn_app (goodIn_of _ (by decide +kernel)) ggX6_serves_X6_has
set_option maxRecDepth 20000 in
theorem ggX6_serves_X6_viewOf : GoodIn wsX6_serves wsX6_viewOf := goodIn_r _ [17, 5, 6, 7, 8, 9, 10, 11, 12, 13, 18, 19, 20, 21, 22, 23, 24, 25, 26, 27, 28, 29, 30, 31, 32, 33, 34, 35, 36] (by decide +kernel) (by decide +kernel)
set_option maxRecDepth 20000 in
theorem gX6_serves_X6_viewOf : GoodIn wsX6_serves (wsV RX6 102 RX6 yX6_viewOf wsX6_viewOf) := goodIn_app (goodIn_of _ (by decide +kernel)) ggX6_serves_X6_viewOf
theorem dX6_serves_0 : decode cX6_serves 0 = .ok (.aload_n 0, 1) := by decide +kernel
theorem dX6_serves_1 : decode cX6_serves 1 = .ok (.getfield 29, 3) := by decide +kernel
theorem dX6_serves_4 : decode cX6_serves 4 = .ok (.iload_n 1, 1) := by decide +kernel
theorem dX6_serves_5 : decode cX6_serves 5 = .ok (.iaload, 1) := by decide +kernel
theorem dX6_serves_6 : decode cX6_serves 6 = .ok (.ifCond .lt 25, 3) := by decide +kernel
theorem dX6_serves_9 : decode cX6_serves 9 = .ok (.aload_n 0, 1) := by decide +kernel
theorem dX6_serves_10 : decode cX6_serves 10 = .ok (.iload_n 1, 1) := by decide +kernel
theorem dX6_serves_11 : decode cX6_serves 11 = .ok (.aload_n 0, 1) := by decide +kernel
theorem dX6_serves_12 : decode cX6_serves 12 = .ok (.getfield 118, 3) := by decide +kernel
theorem dX6_serves_15 : decode cX6_serves 15 = .ok (.invokevirtual 95, 3) := by decide +kernel
theorem dX6_serves_18 : decode cX6_serves 18 = .ok (.aload_n 0, 1) := by decide +kernel
theorem dX6_serves_19 : decode cX6_serves 19 = .ok (.getfield 29, 3) := by decide +kernel
theorem dX6_serves_22 : decode cX6_serves 22 = .ok (.iload_n 1, 1) := by decide +kernel
theorem dX6_serves_23 : decode cX6_serves 23 = .ok (.iaload, 1) := by decide +kernel
theorem dX6_serves_24 : decode cX6_serves 24 = .ok (.invokestatic 98, 3) := by decide +kernel
theorem dX6_serves_27 : decode cX6_serves 27 = .ok (.ifCond .eq 4, 3) := by decide +kernel
theorem dX6_serves_30 : decode cX6_serves 30 = .ok (.return_, 1) := by decide +kernel
theorem dX6_serves_31 : decode cX6_serves 31 = .ok (.iconst (-1), 1) := by decide +kernel
theorem dX6_serves_32 : decode cX6_serves 32 = .ok (.istore_n 2, 1) := by decide +kernel
theorem dX6_serves_33 : decode cX6_serves 33 = .ok (.iconst 0, 1) := by decide +kernel
theorem dX6_serves_34 : decode cX6_serves 34 = .ok (.istore_n 3, 1) := by decide +kernel
theorem dX6_serves_35 : decode cX6_serves 35 = .ok (.iconst 0, 1) := by decide +kernel
theorem dX6_serves_36 : decode cX6_serves 36 = .ok (.istore 4, 2) := by decide +kernel
theorem dX6_serves_38 : decode cX6_serves 38 = .ok (.iload 4, 2) := by decide +kernel
theorem dX6_serves_40 : decode cX6_serves 40 = .ok (.aload_n 0, 1) := by decide +kernel
theorem dX6_serves_41 : decode cX6_serves 41 = .ok (.getfield 55, 3) := by decide +kernel
theorem dX6_serves_44 : decode cX6_serves 44 = .ok (.if_icmp .ge 48, 3) := by decide +kernel
theorem dX6_serves_47 : decode cX6_serves 47 = .ok (.aload_n 0, 1) := by decide +kernel
theorem dX6_serves_48 : decode cX6_serves 48 = .ok (.iload_n 1, 1) := by decide +kernel
theorem dX6_serves_49 : decode cX6_serves 49 = .ok (.iload 4, 2) := by decide +kernel
theorem dX6_serves_51 : decode cX6_serves 51 = .ok (.aload_n 0, 1) := by decide +kernel
theorem dX6_serves_52 : decode cX6_serves 52 = .ok (.getfield 118, 3) := by decide +kernel
theorem dX6_serves_55 : decode cX6_serves 55 = .ok (.invokevirtual 102, 3) := by decide +kernel
theorem dX6_serves_58 : decode cX6_serves 58 = .ok (.istore 5, 2) := by decide +kernel
theorem dX6_serves_60 : decode cX6_serves 60 = .ok (.iload 5, 2) := by decide +kernel
theorem dX6_serves_62 : decode cX6_serves 62 = .ok (.iload_n 3, 1) := by decide +kernel
theorem dX6_serves_63 : decode cX6_serves 63 = .ok (.if_icmp .le 8, 3) := by decide +kernel
theorem dX6_serves_66 : decode cX6_serves 66 = .ok (.iload 4, 2) := by decide +kernel
theorem dX6_serves_68 : decode cX6_serves 68 = .ok (.goto 4, 3) := by decide +kernel
theorem dX6_serves_71 : decode cX6_serves 71 = .ok (.iload_n 2, 1) := by decide +kernel
theorem dX6_serves_72 : decode cX6_serves 72 = .ok (.istore_n 2, 1) := by decide +kernel
theorem dX6_serves_73 : decode cX6_serves 73 = .ok (.iload 5, 2) := by decide +kernel
theorem dX6_serves_75 : decode cX6_serves 75 = .ok (.iload_n 3, 1) := by decide +kernel
theorem dX6_serves_76 : decode cX6_serves 76 = .ok (.if_icmp .le 8, 3) := by decide +kernel
theorem dX6_serves_79 : decode cX6_serves 79 = .ok (.iload 5, 2) := by decide +kernel
theorem dX6_serves_81 : decode cX6_serves 81 = .ok (.goto 4, 3) := by decide +kernel
theorem dX6_serves_84 : decode cX6_serves 84 = .ok (.iload_n 3, 1) := by decide +kernel
theorem dX6_serves_85 : decode cX6_serves 85 = .ok (.istore_n 3, 1) := by decide +kernel
theorem dX6_serves_86 : decode cX6_serves 86 = .ok (.iinc 4 1, 3) := by decide +kernel
theorem dX6_serves_89 : decode cX6_serves 89 = .ok (.goto (-51), 3) := by decide +kernel
theorem dX6_serves_92 : decode cX6_serves 92 = .ok (.aload_n 0, 1) := by decide +kernel
theorem dX6_serves_93 : decode cX6_serves 93 = .ok (.getfield 32, 3) := by decide +kernel
theorem dX6_serves_96 : decode cX6_serves 96 = .ok (.iload_n 1, 1) := by decide +kernel
theorem dX6_serves_97 : decode cX6_serves 97 = .ok (.dup2, 1) := by decide +kernel
theorem dX6_serves_98 : decode cX6_serves 98 = .ok (.iaload, 1) := by decide +kernel
theorem dX6_serves_99 : decode cX6_serves 99 = .ok (.aload_n 0, 1) := by decide +kernel
theorem dX6_serves_100 : decode cX6_serves 100 = .ok (.getfield 29, 3) := by decide +kernel
theorem dX6_serves_103 : decode cX6_serves 103 = .ok (.iload_n 1, 1) := by decide +kernel
theorem dX6_serves_104 : decode cX6_serves 104 = .ok (.iaload, 1) := by decide +kernel
theorem dX6_serves_105 : decode cX6_serves 105 = .ok (.ifCond .lt 11, 3) := by decide +kernel
theorem dX6_serves_108 : decode cX6_serves 108 = .ok (.iload_n 2, 1) := by decide +kernel
theorem dX6_serves_109 : decode cX6_serves 109 = .ok (.ifCond .lt 7, 3) := by decide +kernel
theorem dX6_serves_112 : decode cX6_serves 112 = .ok (.iconst 1, 1) := by decide +kernel
theorem dX6_serves_113 : decode cX6_serves 113 = .ok (.goto 4, 3) := by decide +kernel
theorem dX6_serves_116 : decode cX6_serves 116 = .ok (.iconst 0, 1) := by decide +kernel
theorem dX6_serves_117 : decode cX6_serves 117 = .ok (.iadd, 1) := by decide +kernel
theorem dX6_serves_118 : decode cX6_serves 118 = .ok (.iastore, 1) := by decide +kernel
theorem dX6_serves_119 : decode cX6_serves 119 = .ok (.aload_n 0, 1) := by decide +kernel
theorem dX6_serves_120 : decode cX6_serves 120 = .ok (.getfield 29, 3) := by decide +kernel
theorem dX6_serves_123 : decode cX6_serves 123 = .ok (.iload_n 1, 1) := by decide +kernel
theorem dX6_serves_124 : decode cX6_serves 124 = .ok (.iload_n 2, 1) := by decide +kernel
theorem dX6_serves_125 : decode cX6_serves 125 = .ok (.iastore, 1) := by decide +kernel
theorem dX6_serves_126 : decode cX6_serves 126 = .ok (.return_, 1) := by decide +kernel
set_option maxRecDepth 20000 in
theorem ggX6_pass_X6_goes : GoodIn wsX6_pass wsX6_goes := goodIn_r _ [11, 12, 57, 58, 59, 60, 61, 62, 63, 64, 65, 66, 67, 68, 69, 70, 71, 72, 73, 74, 75] (by decide +kernel) (by decide +kernel)
set_option maxRecDepth 20000 in
theorem gX6_pass_X6_goes : GoodIn wsX6_pass (wsV RX6 80 RX6 yX6_goes wsX6_goes) := goodIn_app (goodIn_of _ (by decide +kernel)) ggX6_pass_X6_goes
set_option maxRecDepth 20000 in
theorem ggX6_pass_X6_moves : GoodIn wsX6_pass wsX6_moves := goodIn_r _ [16, 6, 17, 18, 19, 20, 21, 1, 4, 22, 23, 24, 25, 10, 26, 5, 27, 28, 29, 30, 31, 32, 33, 34, 35, 36, 37, 38, 39, 40, 41, 42, 43, 44, 45, 46, 3, 57, 58, 59, 60, 61, 62, 63, 64, 65, 66, 67, 68, 69, 70, 71, 72, 73, 74, 75] (by decide +kernel) (by decide +kernel)
set_option maxRecDepth 20000 in
theorem gX6_pass_X6_moves : GoodIn wsX6_pass (wsV RX6 131 RX6 yX6_moves wsX6_moves) := goodIn_app (goodIn_of _ (by decide +kernel)) ggX6_pass_X6_moves
set_option maxRecDepth 20000 in
theorem ggX6_pass_X6_serves : GoodIn wsX6_pass wsX6_serves := goodIn_r _ [50, 51, 1, 5, 52, 38, 39, 40, 10, 41, 42, 35, 36, 37, 53, 54, 55, 56, 57, 58, 59, 60, 61, 62, 63, 64, 65, 66, 67, 68, 69, 70, 71, 72, 73, 74, 75] (by decide +kernel) (by decide +kernel)
set_option maxRecDepth 20000 in
theorem gX6_pass_X6_serves : GoodIn wsX6_pass (wsV RX6 88 RX6 yX6_serves wsX6_serves) := goodIn_app (goodIn_of _ (by decide +kernel)) ggX6_pass_X6_serves
theorem dX6_pass_0 : decode cX6_pass 0 = .ok (.iload_n 1, 1) := by decide +kernel
theorem dX6_pass_1 : decode cX6_pass 1 = .ok (.iconst 1, 1) := by decide +kernel
theorem dX6_pass_2 : decode cX6_pass 2 = .ok (.if_icmp .lt 13, 3) := by decide +kernel
theorem dX6_pass_5 : decode cX6_pass 5 = .ok (.iload_n 1, 1) := by decide +kernel
theorem dX6_pass_6 : decode cX6_pass 6 = .ok (.bipush 30, 2) := by decide +kernel
theorem dX6_pass_8 : decode cX6_pass 8 = .ok (.if_icmp .gt 7, 3) := by decide +kernel
theorem dX6_pass_11 : decode cX6_pass 11 = .ok (.iconst 1, 1) := by decide +kernel
theorem dX6_pass_12 : decode cX6_pass 12 = .ok (.goto 4, 3) := by decide +kernel
theorem dX6_pass_15 : decode cX6_pass 15 = .ok (.iconst 0, 1) := by decide +kernel
theorem dX6_pass_16 : decode cX6_pass 16 = .ok (.istore_n 2, 1) := by decide +kernel
theorem dX6_pass_17 : decode cX6_pass 17 = .ok (.aload_n 0, 1) := by decide +kernel
theorem dX6_pass_18 : decode cX6_pass 18 = .ok (.iload_n 2, 1) := by decide +kernel
theorem dX6_pass_19 : decode cX6_pass 19 = .ok (.iload_n 2, 1) := by decide +kernel
theorem dX6_pass_20 : decode cX6_pass 20 = .ok (.ifCond .eq 18, 3) := by decide +kernel
theorem dX6_pass_23 : decode cX6_pass 23 = .ok (.aload_n 0, 1) := by decide +kernel
theorem dX6_pass_24 : decode cX6_pass 24 = .ok (.getfield 118, 3) := by decide +kernel
theorem dX6_pass_27 : decode cX6_pass 27 = .ok (.iload_n 1, 1) := by decide +kernel
theorem dX6_pass_28 : decode cX6_pass 28 = .ok (.iadd, 1) := by decide +kernel
theorem dX6_pass_29 : decode cX6_pass 29 = .ok (.ldc 65, 2) := by decide +kernel
theorem dX6_pass_31 : decode cX6_pass 31 = .ok (.if_icmp .gt 7, 3) := by decide +kernel
theorem dX6_pass_34 : decode cX6_pass 34 = .ok (.iconst 1, 1) := by decide +kernel
theorem dX6_pass_35 : decode cX6_pass 35 = .ok (.goto 4, 3) := by decide +kernel
theorem dX6_pass_38 : decode cX6_pass 38 = .ok (.iconst 0, 1) := by decide +kernel
theorem dX6_pass_39 : decode cX6_pass 39 = .ok (.iconst 1, 1) := by decide +kernel
theorem dX6_pass_40 : decode cX6_pass 40 = .ok (.invokevirtual 80, 3) := by decide +kernel
theorem dX6_pass_43 : decode cX6_pass 43 = .ok (.ifCond .ne 5, 3) := by decide +kernel
theorem dX6_pass_46 : decode cX6_pass 46 = .ok (.iconst 0, 1) := by decide +kernel
theorem dX6_pass_47 : decode cX6_pass 47 = .ok (.ireturn, 1) := by decide +kernel
theorem dX6_pass_48 : decode cX6_pass 48 = .ok (.iconst 0, 1) := by decide +kernel
theorem dX6_pass_49 : decode cX6_pass 49 = .ok (.istore_n 3, 1) := by decide +kernel
theorem dX6_pass_50 : decode cX6_pass 50 = .ok (.iconst 0, 1) := by decide +kernel
theorem dX6_pass_51 : decode cX6_pass 51 = .ok (.istore 4, 2) := by decide +kernel
theorem dX6_pass_53 : decode cX6_pass 53 = .ok (.iload 4, 2) := by decide +kernel
theorem dX6_pass_55 : decode cX6_pass 55 = .ok (.iload_n 1, 1) := by decide +kernel
theorem dX6_pass_56 : decode cX6_pass 56 = .ok (.if_icmp .ge 94, 3) := by decide +kernel
theorem dX6_pass_59 : decode cX6_pass 59 = .ok (.iconst 0, 1) := by decide +kernel
theorem dX6_pass_60 : decode cX6_pass 60 = .ok (.istore 5, 2) := by decide +kernel
theorem dX6_pass_62 : decode cX6_pass 62 = .ok (.iload 5, 2) := by decide +kernel
theorem dX6_pass_64 : decode cX6_pass 64 = .ok (.aload_n 0, 1) := by decide +kernel
theorem dX6_pass_65 : decode cX6_pass 65 = .ok (.getfield 62, 3) := by decide +kernel
theorem dX6_pass_68 : decode cX6_pass 68 = .ok (.if_icmp .ge 32, 3) := by decide +kernel
theorem dX6_pass_71 : decode cX6_pass 71 = .ok (.iload_n 3, 1) := by decide +kernel
theorem dX6_pass_72 : decode cX6_pass 72 = .ok (.aload_n 0, 1) := by decide +kernel
theorem dX6_pass_73 : decode cX6_pass 73 = .ok (.getfield 41, 3) := by decide +kernel
theorem dX6_pass_76 : decode cX6_pass 76 = .ok (.iload 5, 2) := by decide +kernel
theorem dX6_pass_78 : decode cX6_pass 78 = .ok (.iaload, 1) := by decide +kernel
theorem dX6_pass_79 : decode cX6_pass 79 = .ok (.ifCond .ge 12, 3) := by decide +kernel
theorem dX6_pass_82 : decode cX6_pass 82 = .ok (.aload_n 0, 1) := by decide +kernel
theorem dX6_pass_83 : decode cX6_pass 83 = .ok (.iload 5, 2) := by decide +kernel
theorem dX6_pass_85 : decode cX6_pass 85 = .ok (.invokevirtual 131, 3) := by decide +kernel
theorem dX6_pass_88 : decode cX6_pass 88 = .ok (.goto 4, 3) := by decide +kernel
theorem dX6_pass_91 : decode cX6_pass 91 = .ok (.iconst 0, 1) := by decide +kernel
theorem dX6_pass_92 : decode cX6_pass 92 = .ok (.iadd, 1) := by decide +kernel
theorem dX6_pass_93 : decode cX6_pass 93 = .ok (.istore_n 3, 1) := by decide +kernel
theorem dX6_pass_94 : decode cX6_pass 94 = .ok (.iinc 5 1, 3) := by decide +kernel
theorem dX6_pass_97 : decode cX6_pass 97 = .ok (.goto (-35), 3) := by decide +kernel
theorem dX6_pass_100 : decode cX6_pass 100 = .ok (.aload_n 0, 1) := by decide +kernel
theorem dX6_pass_101 : decode cX6_pass 101 = .ok (.dup, 1) := by decide +kernel
theorem dX6_pass_102 : decode cX6_pass 102 = .ok (.getfield 118, 3) := by decide +kernel
theorem dX6_pass_105 : decode cX6_pass 105 = .ok (.iconst 1, 1) := by decide +kernel
theorem dX6_pass_106 : decode cX6_pass 106 = .ok (.iadd, 1) := by decide +kernel
theorem dX6_pass_107 : decode cX6_pass 107 = .ok (.putfield 118, 3) := by decide +kernel
theorem dX6_pass_110 : decode cX6_pass 110 = .ok (.iconst 0, 1) := by decide +kernel
theorem dX6_pass_111 : decode cX6_pass 111 = .ok (.istore 5, 2) := by decide +kernel
theorem dX6_pass_113 : decode cX6_pass 113 = .ok (.iload 5, 2) := by decide +kernel
theorem dX6_pass_115 : decode cX6_pass 115 = .ok (.aload_n 0, 1) := by decide +kernel
theorem dX6_pass_116 : decode cX6_pass 116 = .ok (.getfield 55, 3) := by decide +kernel
theorem dX6_pass_119 : decode cX6_pass 119 = .ok (.if_icmp .ge 25, 3) := by decide +kernel
theorem dX6_pass_122 : decode cX6_pass 122 = .ok (.aload_n 0, 1) := by decide +kernel
theorem dX6_pass_123 : decode cX6_pass 123 = .ok (.getfield 22, 3) := by decide +kernel
theorem dX6_pass_126 : decode cX6_pass 126 = .ok (.iload 5, 2) := by decide +kernel
theorem dX6_pass_128 : decode cX6_pass 128 = .ok (.baload, 1) := by decide +kernel
theorem dX6_pass_129 : decode cX6_pass 129 = .ok (.ifCond .ne 9, 3) := by decide +kernel
theorem dX6_pass_132 : decode cX6_pass 132 = .ok (.aload_n 0, 1) := by decide +kernel
theorem dX6_pass_133 : decode cX6_pass 133 = .ok (.iload 5, 2) := by decide +kernel
theorem dX6_pass_135 : decode cX6_pass 135 = .ok (.invokevirtual 88, 3) := by decide +kernel
theorem dX6_pass_138 : decode cX6_pass 138 = .ok (.iinc 5 1, 3) := by decide +kernel
theorem dX6_pass_141 : decode cX6_pass 141 = .ok (.goto (-28), 3) := by decide +kernel
theorem dX6_pass_144 : decode cX6_pass 144 = .ok (.iinc 4 1, 3) := by decide +kernel
theorem dX6_pass_147 : decode cX6_pass 147 = .ok (.goto (-94), 3) := by decide +kernel
theorem dX6_pass_150 : decode cX6_pass 150 = .ok (.iload_n 3, 1) := by decide +kernel
theorem dX6_pass_151 : decode cX6_pass 151 = .ok (.ireturn, 1) := by decide +kernel
theorem dX6_now_0 : decode cX6_now 0 = .ok (.aload_n 0, 1) := by decide +kernel
theorem dX6_now_1 : decode cX6_now 1 = .ok (.iconst 0, 1) := by decide +kernel
theorem dX6_now_2 : decode cX6_now 2 = .ok (.putfield 51, 3) := by decide +kernel
theorem dX6_now_5 : decode cX6_now 5 = .ok (.aload_n 0, 1) := by decide +kernel
theorem dX6_now_6 : decode cX6_now 6 = .ok (.getfield 118, 3) := by decide +kernel
theorem dX6_now_9 : decode cX6_now 9 = .ok (.ireturn, 1) := by decide +kernel
theorem dX6_messages_0 : decode cX6_messages 0 = .ok (.aload_n 0, 1) := by decide +kernel
theorem dX6_messages_1 : decode cX6_messages 1 = .ok (.iconst 0, 1) := by decide +kernel
theorem dX6_messages_2 : decode cX6_messages 2 = .ok (.putfield 51, 3) := by decide +kernel
theorem dX6_messages_5 : decode cX6_messages 5 = .ok (.aload_n 0, 1) := by decide +kernel
theorem dX6_messages_6 : decode cX6_messages 6 = .ok (.getfield 62, 3) := by decide +kernel
theorem dX6_messages_9 : decode cX6_messages 9 = .ok (.ireturn, 1) := by decide +kernel
set_option maxRecDepth 20000 in
theorem ggX6_nodeOf_X6_isMessage : GoodIn wsX6_nodeOf wsX6_isMessage := goodIn_r _ [6, 7, 13, 14, 15, 16, 17, 18, 19, 20, 21, 22, 23, 24, 25, 26, 27, 28, 29, 30, 31] (by decide +kernel) (by decide +kernel)
set_option maxRecDepth 20000 in
theorem gX6_nodeOf_X6_isMessage : GoodIn wsX6_nodeOf (wsV RX6 134 RX6 yX6_isMessage wsX6_isMessage) := goodIn_app (goodIn_of _ (by decide +kernel)) ggX6_nodeOf_X6_isMessage
set_option maxRecDepth 20000 in
theorem ggX6_nodeOf_X6_goes : GoodIn wsX6_nodeOf wsX6_goes := goodIn_r _ [11, 12, 13, 14, 15, 16, 17, 18, 19, 20, 21, 22, 23, 24, 25, 26, 27, 28, 29, 30, 31] (by decide +kernel) (by decide +kernel)
set_option maxRecDepth 20000 in
theorem gX6_nodeOf_X6_goes : GoodIn wsX6_nodeOf (wsV RX6 80 RX6 yX6_goes wsX6_goes) := goodIn_app (goodIn_of _ (by decide +kernel)) ggX6_nodeOf_X6_goes
theorem dX6_nodeOf_0 : decode cX6_nodeOf 0 = .ok (.aload_n 0, 1) := by decide +kernel
theorem dX6_nodeOf_1 : decode cX6_nodeOf 1 = .ok (.aload_n 0, 1) := by decide +kernel
theorem dX6_nodeOf_2 : decode cX6_nodeOf 2 = .ok (.iload_n 1, 1) := by decide +kernel
theorem dX6_nodeOf_3 : decode cX6_nodeOf 3 = .ok (.invokevirtual 134, 3) := by decide +kernel
theorem dX6_nodeOf_6 : decode cX6_nodeOf 6 = .ok (.iconst 1, 1) := by decide +kernel
theorem dX6_nodeOf_7 : decode cX6_nodeOf 7 = .ok (.iconst 1, 1) := by decide +kernel
theorem dX6_nodeOf_8 : decode cX6_nodeOf 8 = .ok (.invokevirtual 80, 3) := by decide +kernel
theorem dX6_nodeOf_11 : decode cX6_nodeOf 11 = .ok (.ifCond .eq 12, 3) := by decide +kernel
theorem dX6_nodeOf_14 : decode cX6_nodeOf 14 = .ok (.aload_n 0, 1) := by decide +kernel
theorem dX6_nodeOf_15 : decode cX6_nodeOf 15 = .ok (.getfield 35, 3) := by decide +kernel
theorem dX6_nodeOf_18 : decode cX6_nodeOf 18 = .ok (.iload_n 1, 1) := by decide +kernel
theorem dX6_nodeOf_19 : decode cX6_nodeOf 19 = .ok (.iaload, 1) := by decide +kernel
theorem dX6_nodeOf_20 : decode cX6_nodeOf 20 = .ok (.goto 4, 3) := by decide +kernel
theorem dX6_nodeOf_23 : decode cX6_nodeOf 23 = .ok (.iconst 0, 1) := by decide +kernel
theorem dX6_nodeOf_24 : decode cX6_nodeOf 24 = .ok (.ireturn, 1) := by decide +kernel
set_option maxRecDepth 20000 in
theorem ggX6_arrivedAt_X6_isMessage : GoodIn wsX6_arrivedAt wsX6_isMessage := goodIn_r _ [6, 7, 13, 14, 15, 16, 17, 18, 19, 20, 21, 22, 23, 24, 25, 26, 27, 28, 29, 30, 31] (by decide +kernel) (by decide +kernel)
set_option maxRecDepth 20000 in
theorem gX6_arrivedAt_X6_isMessage : GoodIn wsX6_arrivedAt (wsV RX6 134 RX6 yX6_isMessage wsX6_isMessage) := goodIn_app (goodIn_of _ (by decide +kernel)) ggX6_arrivedAt_X6_isMessage
set_option maxRecDepth 20000 in
theorem ggX6_arrivedAt_X6_goes : GoodIn wsX6_arrivedAt wsX6_goes := goodIn_r _ [11, 12, 13, 14, 15, 16, 17, 18, 19, 20, 21, 22, 23, 24, 25, 26, 27, 28, 29, 30, 31] (by decide +kernel) (by decide +kernel)
set_option maxRecDepth 20000 in
theorem gX6_arrivedAt_X6_goes : GoodIn wsX6_arrivedAt (wsV RX6 80 RX6 yX6_goes wsX6_goes) := goodIn_app (goodIn_of _ (by decide +kernel)) ggX6_arrivedAt_X6_goes
theorem dX6_arrivedAt_0 : decode cX6_arrivedAt 0 = .ok (.aload_n 0, 1) := by decide +kernel
theorem dX6_arrivedAt_1 : decode cX6_arrivedAt 1 = .ok (.iload_n 1, 1) := by decide +kernel
theorem dX6_arrivedAt_2 : decode cX6_arrivedAt 2 = .ok (.invokevirtual 134, 3) := by decide +kernel
theorem dX6_arrivedAt_5 : decode cX6_arrivedAt 5 = .ok (.istore_n 2, 1) := by decide +kernel
theorem dX6_arrivedAt_6 : decode cX6_arrivedAt 6 = .ok (.aload_n 0, 1) := by decide +kernel
theorem dX6_arrivedAt_7 : decode cX6_arrivedAt 7 = .ok (.iload_n 2, 1) := by decide +kernel
theorem dX6_arrivedAt_8 : decode cX6_arrivedAt 8 = .ok (.iload_n 2, 1) := by decide +kernel
theorem dX6_arrivedAt_9 : decode cX6_arrivedAt 9 = .ok (.ifCond .eq 16, 3) := by decide +kernel
theorem dX6_arrivedAt_12 : decode cX6_arrivedAt 12 = .ok (.aload_n 0, 1) := by decide +kernel
theorem dX6_arrivedAt_13 : decode cX6_arrivedAt 13 = .ok (.getfield 41, 3) := by decide +kernel
theorem dX6_arrivedAt_16 : decode cX6_arrivedAt 16 = .ok (.iload_n 1, 1) := by decide +kernel
theorem dX6_arrivedAt_17 : decode cX6_arrivedAt 17 = .ok (.iaload, 1) := by decide +kernel
theorem dX6_arrivedAt_18 : decode cX6_arrivedAt 18 = .ok (.ifCond .lt 7, 3) := by decide +kernel
theorem dX6_arrivedAt_21 : decode cX6_arrivedAt 21 = .ok (.iconst 1, 1) := by decide +kernel
theorem dX6_arrivedAt_22 : decode cX6_arrivedAt 22 = .ok (.goto 4, 3) := by decide +kernel
theorem dX6_arrivedAt_25 : decode cX6_arrivedAt 25 = .ok (.iconst 0, 1) := by decide +kernel
theorem dX6_arrivedAt_26 : decode cX6_arrivedAt 26 = .ok (.iconst 1, 1) := by decide +kernel
theorem dX6_arrivedAt_27 : decode cX6_arrivedAt 27 = .ok (.invokevirtual 80, 3) := by decide +kernel
theorem dX6_arrivedAt_30 : decode cX6_arrivedAt 30 = .ok (.ifCond .eq 12, 3) := by decide +kernel
theorem dX6_arrivedAt_33 : decode cX6_arrivedAt 33 = .ok (.aload_n 0, 1) := by decide +kernel
theorem dX6_arrivedAt_34 : decode cX6_arrivedAt 34 = .ok (.getfield 41, 3) := by decide +kernel
theorem dX6_arrivedAt_37 : decode cX6_arrivedAt 37 = .ok (.iload_n 1, 1) := by decide +kernel
theorem dX6_arrivedAt_38 : decode cX6_arrivedAt 38 = .ok (.iaload, 1) := by decide +kernel
theorem dX6_arrivedAt_39 : decode cX6_arrivedAt 39 = .ok (.goto 4, 3) := by decide +kernel
theorem dX6_arrivedAt_42 : decode cX6_arrivedAt 42 = .ok (.iconst 0, 1) := by decide +kernel
theorem dX6_arrivedAt_43 : decode cX6_arrivedAt 43 = .ok (.ireturn, 1) := by decide +kernel
theorem dX6_entry_0 : decode cX6_entry 0 = .ok (.iload_n 2, 1) := by decide +kernel
theorem dX6_entry_1 : decode cX6_entry 1 = .ok (.istore_n 3, 1) := by decide +kernel
theorem dX6_entry_2 : decode cX6_entry 2 = .ok (.iconst (-1), 1) := by decide +kernel
theorem dX6_entry_3 : decode cX6_entry 3 = .ok (.istore 4, 2) := by decide +kernel
theorem dX6_entry_5 : decode cX6_entry 5 = .ok (.iconst 0, 1) := by decide +kernel
theorem dX6_entry_6 : decode cX6_entry 6 = .ok (.istore 5, 2) := by decide +kernel
theorem dX6_entry_8 : decode cX6_entry 8 = .ok (.iload 5, 2) := by decide +kernel
theorem dX6_entry_10 : decode cX6_entry 10 = .ok (.aload_n 0, 1) := by decide +kernel
theorem dX6_entry_11 : decode cX6_entry 11 = .ok (.getfield 128, 3) := by decide +kernel
theorem dX6_entry_14 : decode cX6_entry 14 = .ok (.if_icmp .ge 74, 3) := by decide +kernel
theorem dX6_entry_17 : decode cX6_entry 17 = .ok (.iload 4, 2) := by decide +kernel
theorem dX6_entry_19 : decode cX6_entry 19 = .ok (.ifCond .ge 69, 3) := by decide +kernel
theorem dX6_entry_22 : decode cX6_entry 22 = .ok (.aload_n 0, 1) := by decide +kernel
theorem dX6_entry_23 : decode cX6_entry 23 = .ok (.getfield 48, 3) := by decide +kernel
theorem dX6_entry_26 : decode cX6_entry 26 = .ok (.iload 5, 2) := by decide +kernel
theorem dX6_entry_28 : decode cX6_entry 28 = .ok (.iaload, 1) := by decide +kernel
theorem dX6_entry_29 : decode cX6_entry 29 = .ok (.sipush 200, 3) := by decide +kernel
theorem dX6_entry_32 : decode cX6_entry 32 = .ok (.irem, 1) := by decide +kernel
theorem dX6_entry_33 : decode cX6_entry 33 = .ok (.bipush 10, 2) := by decide +kernel
theorem dX6_entry_35 : decode cX6_entry 35 = .ok (.idiv, 1) := by decide +kernel
theorem dX6_entry_36 : decode cX6_entry 36 = .ok (.iload_n 1, 1) := by decide +kernel
theorem dX6_entry_37 : decode cX6_entry 37 = .ok (.if_icmp .ne 7, 3) := by decide +kernel
theorem dX6_entry_40 : decode cX6_entry 40 = .ok (.iconst 1, 1) := by decide +kernel
theorem dX6_entry_41 : decode cX6_entry 41 = .ok (.goto 4, 3) := by decide +kernel
theorem dX6_entry_44 : decode cX6_entry 44 = .ok (.iconst 0, 1) := by decide +kernel
theorem dX6_entry_45 : decode cX6_entry 45 = .ok (.istore 6, 2) := by decide +kernel
theorem dX6_entry_47 : decode cX6_entry 47 = .ok (.iload 6, 2) := by decide +kernel
theorem dX6_entry_49 : decode cX6_entry 49 = .ok (.ifCond .eq 17, 3) := by decide +kernel
theorem dX6_entry_52 : decode cX6_entry 52 = .ok (.iload_n 3, 1) := by decide +kernel
theorem dX6_entry_53 : decode cX6_entry 53 = .ok (.ifCond .ne 13, 3) := by decide +kernel
theorem dX6_entry_56 : decode cX6_entry 56 = .ok (.aload_n 0, 1) := by decide +kernel
theorem dX6_entry_57 : decode cX6_entry 57 = .ok (.getfield 48, 3) := by decide +kernel
theorem dX6_entry_60 : decode cX6_entry 60 = .ok (.iload 5, 2) := by decide +kernel
theorem dX6_entry_62 : decode cX6_entry 62 = .ok (.iaload, 1) := by decide +kernel
theorem dX6_entry_63 : decode cX6_entry 63 = .ok (.goto 4, 3) := by decide +kernel
theorem dX6_entry_66 : decode cX6_entry 66 = .ok (.iconst (-1), 1) := by decide +kernel
theorem dX6_entry_67 : decode cX6_entry 67 = .ok (.istore 4, 2) := by decide +kernel
theorem dX6_entry_69 : decode cX6_entry 69 = .ok (.iload_n 3, 1) := by decide +kernel
theorem dX6_entry_70 : decode cX6_entry 70 = .ok (.iload 6, 2) := by decide +kernel
theorem dX6_entry_72 : decode cX6_entry 72 = .ok (.ifCond .eq 7, 3) := by decide +kernel
theorem dX6_entry_75 : decode cX6_entry 75 = .ok (.iconst 1, 1) := by decide +kernel
theorem dX6_entry_76 : decode cX6_entry 76 = .ok (.goto 4, 3) := by decide +kernel
theorem dX6_entry_79 : decode cX6_entry 79 = .ok (.iconst 0, 1) := by decide +kernel
theorem dX6_entry_80 : decode cX6_entry 80 = .ok (.isub, 1) := by decide +kernel
theorem dX6_entry_81 : decode cX6_entry 81 = .ok (.istore_n 3, 1) := by decide +kernel
theorem dX6_entry_82 : decode cX6_entry 82 = .ok (.iinc 5 1, 3) := by decide +kernel
theorem dX6_entry_85 : decode cX6_entry 85 = .ok (.goto (-77), 3) := by decide +kernel
theorem dX6_entry_88 : decode cX6_entry 88 = .ok (.iload 4, 2) := by decide +kernel
theorem dX6_entry_90 : decode cX6_entry 90 = .ok (.ireturn, 1) := by decide +kernel
set_option maxRecDepth 20000 in
theorem ggX6_hops_X6_isMessage : GoodIn wsX6_hops wsX6_isMessage := goodIn_r _ [7, 8, 14, 15, 16, 17, 18, 19, 20, 21, 22, 23, 24, 25, 26, 27, 28, 29, 30, 31, 32] (by decide +kernel) (by decide +kernel)
set_option maxRecDepth 20000 in
theorem gX6_hops_X6_isMessage : GoodIn wsX6_hops (wsV RX6 134 RX6 yX6_isMessage wsX6_isMessage) := goodIn_app (goodIn_of _ (by decide +kernel)) ggX6_hops_X6_isMessage
set_option maxRecDepth 20000 in
theorem ggX6_hops_X6_goes : GoodIn wsX6_hops wsX6_goes := goodIn_r _ [12, 13, 14, 15, 16, 17, 18, 19, 20, 21, 22, 23, 24, 25, 26, 27, 28, 29, 30, 31, 32] (by decide +kernel) (by decide +kernel)
set_option maxRecDepth 20000 in
theorem gX6_hops_X6_goes : GoodIn wsX6_hops (wsV RX6 80 RX6 yX6_goes wsX6_goes) := goodIn_app (goodIn_of _ (by decide +kernel)) ggX6_hops_X6_goes
theorem dX6_hops_0 : decode cX6_hops 0 = .ok (.aload_n 0, 1) := by decide +kernel
theorem dX6_hops_1 : decode cX6_hops 1 = .ok (.aload_n 0, 1) := by decide +kernel
theorem dX6_hops_2 : decode cX6_hops 2 = .ok (.iload_n 1, 1) := by decide +kernel
theorem dX6_hops_3 : decode cX6_hops 3 = .ok (.invokevirtual 134, 3) := by decide +kernel
theorem dX6_hops_6 : decode cX6_hops 6 = .ok (.iconst 1, 1) := by decide +kernel
theorem dX6_hops_7 : decode cX6_hops 7 = .ok (.iconst 1, 1) := by decide +kernel
theorem dX6_hops_8 : decode cX6_hops 8 = .ok (.invokevirtual 80, 3) := by decide +kernel
theorem dX6_hops_11 : decode cX6_hops 11 = .ok (.ifCond .ne 5, 3) := by decide +kernel
theorem dX6_hops_14 : decode cX6_hops 14 = .ok (.iconst 0, 1) := by decide +kernel
theorem dX6_hops_15 : decode cX6_hops 15 = .ok (.ireturn, 1) := by decide +kernel
theorem dX6_hops_16 : decode cX6_hops 16 = .ok (.iconst 0, 1) := by decide +kernel
theorem dX6_hops_17 : decode cX6_hops 17 = .ok (.istore_n 2, 1) := by decide +kernel
theorem dX6_hops_18 : decode cX6_hops 18 = .ok (.iconst 0, 1) := by decide +kernel
theorem dX6_hops_19 : decode cX6_hops 19 = .ok (.istore_n 3, 1) := by decide +kernel
theorem dX6_hops_20 : decode cX6_hops 20 = .ok (.iload_n 3, 1) := by decide +kernel
theorem dX6_hops_21 : decode cX6_hops 21 = .ok (.aload_n 0, 1) := by decide +kernel
theorem dX6_hops_22 : decode cX6_hops 22 = .ok (.getfield 128, 3) := by decide +kernel
theorem dX6_hops_25 : decode cX6_hops 25 = .ok (.if_icmp .ge 34, 3) := by decide +kernel
theorem dX6_hops_28 : decode cX6_hops 28 = .ok (.iload_n 2, 1) := by decide +kernel
theorem dX6_hops_29 : decode cX6_hops 29 = .ok (.aload_n 0, 1) := by decide +kernel
theorem dX6_hops_30 : decode cX6_hops 30 = .ok (.getfield 48, 3) := by decide +kernel
theorem dX6_hops_33 : decode cX6_hops 33 = .ok (.iload_n 3, 1) := by decide +kernel
theorem dX6_hops_34 : decode cX6_hops 34 = .ok (.iaload, 1) := by decide +kernel
theorem dX6_hops_35 : decode cX6_hops 35 = .ok (.sipush 200, 3) := by decide +kernel
theorem dX6_hops_38 : decode cX6_hops 38 = .ok (.irem, 1) := by decide +kernel
theorem dX6_hops_39 : decode cX6_hops 39 = .ok (.bipush 10, 2) := by decide +kernel
theorem dX6_hops_41 : decode cX6_hops 41 = .ok (.idiv, 1) := by decide +kernel
theorem dX6_hops_42 : decode cX6_hops 42 = .ok (.iload_n 1, 1) := by decide +kernel
theorem dX6_hops_43 : decode cX6_hops 43 = .ok (.if_icmp .ne 7, 3) := by decide +kernel
theorem dX6_hops_46 : decode cX6_hops 46 = .ok (.iconst 1, 1) := by decide +kernel
theorem dX6_hops_47 : decode cX6_hops 47 = .ok (.goto 4, 3) := by decide +kernel
theorem dX6_hops_50 : decode cX6_hops 50 = .ok (.iconst 0, 1) := by decide +kernel
theorem dX6_hops_51 : decode cX6_hops 51 = .ok (.iadd, 1) := by decide +kernel
theorem dX6_hops_52 : decode cX6_hops 52 = .ok (.istore_n 2, 1) := by decide +kernel
theorem dX6_hops_53 : decode cX6_hops 53 = .ok (.iinc 3 1, 3) := by decide +kernel
theorem dX6_hops_56 : decode cX6_hops 56 = .ok (.goto (-36), 3) := by decide +kernel
theorem dX6_hops_59 : decode cX6_hops 59 = .ok (.iload_n 2, 1) := by decide +kernel
theorem dX6_hops_60 : decode cX6_hops 60 = .ok (.ireturn, 1) := by decide +kernel
set_option maxRecDepth 20000 in
theorem ggX6_hopNode_X6_isMessage : GoodIn wsX6_hopNode wsX6_isMessage := goodIn_r _ [5, 6, 18, 19, 20, 21, 22, 23, 24, 25, 26, 27, 28, 29, 30, 31, 32, 33, 34, 35, 36] (by decide +kernel) (by decide +kernel)
set_option maxRecDepth 20000 in
theorem gX6_hopNode_X6_isMessage : GoodIn wsX6_hopNode (wsV RX6 134 RX6 yX6_isMessage wsX6_isMessage) := goodIn_app (goodIn_of _ (by decide +kernel)) ggX6_hopNode_X6_isMessage
set_option maxRecDepth 20000 in
theorem ggX6_hopNode_X6_entry : GoodIn wsX6_hopNode wsX6_entry := goodIn_r _ [10, 11, 12, 18, 19, 20, 21, 22, 23, 24, 25, 26, 27, 28, 29, 30, 31, 32, 33, 34, 35, 36] (by decide +kernel) (by decide +kernel)
set_option maxRecDepth 20000 in
theorem gX6_hopNode_X6_entry : GoodIn wsX6_hopNode (wsV RX6 137 RX6 yX6_entry wsX6_entry) := goodIn_app (goodIn_of _ (by decide +kernel)) ggX6_hopNode_X6_entry
set_option maxRecDepth 20000 in
theorem ggX6_hopNode_X6_goes : GoodIn wsX6_hopNode wsX6_goes := goodIn_r _ [16, 17, 18, 19, 20, 21, 22, 23, 24, 25, 26, 27, 28, 29, 30, 31, 32, 33, 34, 35, 36] (by decide +kernel) (by decide +kernel)
set_option maxRecDepth 20000 in
theorem gX6_hopNode_X6_goes : GoodIn wsX6_hopNode (wsV RX6 80 RX6 yX6_goes wsX6_goes) := goodIn_app (goodIn_of _ (by decide +kernel)) ggX6_hopNode_X6_goes
theorem dX6_hopNode_0 : decode cX6_hopNode 0 = .ok (.aload_n 0, 1) := by decide +kernel
theorem dX6_hopNode_1 : decode cX6_hopNode 1 = .ok (.iload_n 1, 1) := by decide +kernel
theorem dX6_hopNode_2 : decode cX6_hopNode 2 = .ok (.invokevirtual 134, 3) := by decide +kernel
theorem dX6_hopNode_5 : decode cX6_hopNode 5 = .ok (.ifCond .eq 12, 3) := by decide +kernel
theorem dX6_hopNode_8 : decode cX6_hopNode 8 = .ok (.aload_n 0, 1) := by decide +kernel
theorem dX6_hopNode_9 : decode cX6_hopNode 9 = .ok (.iload_n 1, 1) := by decide +kernel
theorem dX6_hopNode_10 : decode cX6_hopNode 10 = .ok (.iload_n 2, 1) := by decide +kernel
theorem dX6_hopNode_11 : decode cX6_hopNode 11 = .ok (.invokevirtual 137, 3) := by decide +kernel
theorem dX6_hopNode_14 : decode cX6_hopNode 14 = .ok (.goto 4, 3) := by decide +kernel
theorem dX6_hopNode_17 : decode cX6_hopNode 17 = .ok (.iconst (-1), 1) := by decide +kernel
theorem dX6_hopNode_18 : decode cX6_hopNode 18 = .ok (.istore_n 3, 1) := by decide +kernel
theorem dX6_hopNode_19 : decode cX6_hopNode 19 = .ok (.aload_n 0, 1) := by decide +kernel
theorem dX6_hopNode_20 : decode cX6_hopNode 20 = .ok (.iload_n 3, 1) := by decide +kernel
theorem dX6_hopNode_21 : decode cX6_hopNode 21 = .ok (.ifCond .lt 7, 3) := by decide +kernel
theorem dX6_hopNode_24 : decode cX6_hopNode 24 = .ok (.iconst 1, 1) := by decide +kernel
theorem dX6_hopNode_25 : decode cX6_hopNode 25 = .ok (.goto 4, 3) := by decide +kernel
theorem dX6_hopNode_28 : decode cX6_hopNode 28 = .ok (.iconst 0, 1) := by decide +kernel
theorem dX6_hopNode_29 : decode cX6_hopNode 29 = .ok (.iconst 1, 1) := by decide +kernel
theorem dX6_hopNode_30 : decode cX6_hopNode 30 = .ok (.iconst 1, 1) := by decide +kernel
theorem dX6_hopNode_31 : decode cX6_hopNode 31 = .ok (.invokevirtual 80, 3) := by decide +kernel
theorem dX6_hopNode_34 : decode cX6_hopNode 34 = .ok (.ifCond .eq 10, 3) := by decide +kernel
theorem dX6_hopNode_37 : decode cX6_hopNode 37 = .ok (.iload_n 3, 1) := by decide +kernel
theorem dX6_hopNode_38 : decode cX6_hopNode 38 = .ok (.bipush 10, 2) := by decide +kernel
theorem dX6_hopNode_40 : decode cX6_hopNode 40 = .ok (.irem, 1) := by decide +kernel
theorem dX6_hopNode_41 : decode cX6_hopNode 41 = .ok (.goto 4, 3) := by decide +kernel
theorem dX6_hopNode_44 : decode cX6_hopNode 44 = .ok (.iconst 0, 1) := by decide +kernel
theorem dX6_hopNode_45 : decode cX6_hopNode 45 = .ok (.ireturn, 1) := by decide +kernel
set_option maxRecDepth 20000 in
theorem ggX6_hopMinute_X6_isMessage : GoodIn wsX6_hopMinute wsX6_isMessage := goodIn_r _ [5, 6, 18, 19, 20, 21, 22, 23, 24, 25, 26, 27, 28, 29, 30, 31, 32, 33, 34, 35, 36] (by decide +kernel) (by decide +kernel)
set_option maxRecDepth 20000 in
theorem gX6_hopMinute_X6_isMessage : GoodIn wsX6_hopMinute (wsV RX6 134 RX6 yX6_isMessage wsX6_isMessage) := goodIn_app (goodIn_of _ (by decide +kernel)) ggX6_hopMinute_X6_isMessage
set_option maxRecDepth 20000 in
theorem ggX6_hopMinute_X6_entry : GoodIn wsX6_hopMinute wsX6_entry := goodIn_r _ [10, 11, 12, 18, 19, 20, 21, 22, 23, 24, 25, 26, 27, 28, 29, 30, 31, 32, 33, 34, 35, 36] (by decide +kernel) (by decide +kernel)
set_option maxRecDepth 20000 in
theorem gX6_hopMinute_X6_entry : GoodIn wsX6_hopMinute (wsV RX6 137 RX6 yX6_entry wsX6_entry) := goodIn_app (goodIn_of _ (by decide +kernel)) ggX6_hopMinute_X6_entry
set_option maxRecDepth 20000 in
theorem ggX6_hopMinute_X6_goes : GoodIn wsX6_hopMinute wsX6_goes := goodIn_r _ [16, 17, 18, 19, 20, 21, 22, 23, 24, 25, 26, 27, 28, 29, 30, 31, 32, 33, 34, 35, 36] (by decide +kernel) (by decide +kernel)
set_option maxRecDepth 20000 in
theorem gX6_hopMinute_X6_goes : GoodIn wsX6_hopMinute (wsV RX6 80 RX6 yX6_goes wsX6_goes) := goodIn_app (goodIn_of _ (by decide +kernel)) ggX6_hopMinute_X6_goes
theorem dX6_hopMinute_0 : decode cX6_hopMinute 0 = .ok (.aload_n 0, 1) := by decide +kernel
theorem dX6_hopMinute_1 : decode cX6_hopMinute 1 = .ok (.iload_n 1, 1) := by decide +kernel
theorem dX6_hopMinute_2 : decode cX6_hopMinute 2 = .ok (.invokevirtual 134, 3) := by decide +kernel
theorem dX6_hopMinute_5 : decode cX6_hopMinute 5 = .ok (.ifCond .eq 12, 3) := by decide +kernel
theorem dX6_hopMinute_8 : decode cX6_hopMinute 8 = .ok (.aload_n 0, 1) := by decide +kernel
theorem dX6_hopMinute_9 : decode cX6_hopMinute 9 = .ok (.iload_n 1, 1) := by decide +kernel
theorem dX6_hopMinute_10 : decode cX6_hopMinute 10 = .ok (.iload_n 2, 1) := by decide +kernel
theorem dX6_hopMinute_11 : decode cX6_hopMinute 11 = .ok (.invokevirtual 137, 3) := by decide +kernel
theorem dX6_hopMinute_14 : decode cX6_hopMinute 14 = .ok (.goto 4, 3) := by decide +kernel
theorem dX6_hopMinute_17 : decode cX6_hopMinute 17 = .ok (.iconst (-1), 1) := by decide +kernel
theorem dX6_hopMinute_18 : decode cX6_hopMinute 18 = .ok (.istore_n 3, 1) := by decide +kernel
theorem dX6_hopMinute_19 : decode cX6_hopMinute 19 = .ok (.aload_n 0, 1) := by decide +kernel
theorem dX6_hopMinute_20 : decode cX6_hopMinute 20 = .ok (.iload_n 3, 1) := by decide +kernel
theorem dX6_hopMinute_21 : decode cX6_hopMinute 21 = .ok (.ifCond .lt 7, 3) := by decide +kernel
theorem dX6_hopMinute_24 : decode cX6_hopMinute 24 = .ok (.iconst 1, 1) := by decide +kernel
theorem dX6_hopMinute_25 : decode cX6_hopMinute 25 = .ok (.goto 4, 3) := by decide +kernel
theorem dX6_hopMinute_28 : decode cX6_hopMinute 28 = .ok (.iconst 0, 1) := by decide +kernel
theorem dX6_hopMinute_29 : decode cX6_hopMinute 29 = .ok (.iconst 1, 1) := by decide +kernel
theorem dX6_hopMinute_30 : decode cX6_hopMinute 30 = .ok (.iconst 1, 1) := by decide +kernel
theorem dX6_hopMinute_31 : decode cX6_hopMinute 31 = .ok (.invokevirtual 80, 3) := by decide +kernel
theorem dX6_hopMinute_34 : decode cX6_hopMinute 34 = .ok (.ifCond .eq 11, 3) := by decide +kernel
theorem dX6_hopMinute_37 : decode cX6_hopMinute 37 = .ok (.iload_n 3, 1) := by decide +kernel
theorem dX6_hopMinute_38 : decode cX6_hopMinute 38 = .ok (.sipush 200, 3) := by decide +kernel
theorem dX6_hopMinute_41 : decode cX6_hopMinute 41 = .ok (.idiv, 1) := by decide +kernel
theorem dX6_hopMinute_42 : decode cX6_hopMinute 42 = .ok (.goto 4, 3) := by decide +kernel
theorem dX6_hopMinute_45 : decode cX6_hopMinute 45 = .ok (.iconst 0, 1) := by decide +kernel
theorem dX6_hopMinute_46 : decode cX6_hopMinute 46 = .ok (.ireturn, 1) := by decide +kernel
set_option maxRecDepth 20000 in
theorem ggX6_blocked_X6_isMessage : GoodIn wsX6_blocked wsX6_isMessage := goodIn_r _ [6, 7, 13, 14, 15, 16, 17, 18, 19, 20, 21, 22, 23, 24, 25, 26, 27, 28, 29, 30, 31] (by decide +kernel) (by decide +kernel)
set_option maxRecDepth 20000 in
theorem gX6_blocked_X6_isMessage : GoodIn wsX6_blocked (wsV RX6 134 RX6 yX6_isMessage wsX6_isMessage) := goodIn_app (goodIn_of _ (by decide +kernel)) ggX6_blocked_X6_isMessage
set_option maxRecDepth 20000 in
theorem ggX6_blocked_X6_goes : GoodIn wsX6_blocked wsX6_goes := goodIn_r _ [11, 12, 13, 14, 15, 16, 17, 18, 19, 20, 21, 22, 23, 24, 25, 26, 27, 28, 29, 30, 31] (by decide +kernel) (by decide +kernel)
set_option maxRecDepth 20000 in
theorem gX6_blocked_X6_goes : GoodIn wsX6_blocked (wsV RX6 80 RX6 yX6_goes wsX6_goes) := goodIn_app (goodIn_of _ (by decide +kernel)) ggX6_blocked_X6_goes
theorem dX6_blocked_0 : decode cX6_blocked 0 = .ok (.aload_n 0, 1) := by decide +kernel
theorem dX6_blocked_1 : decode cX6_blocked 1 = .ok (.aload_n 0, 1) := by decide +kernel
theorem dX6_blocked_2 : decode cX6_blocked 2 = .ok (.iload_n 1, 1) := by decide +kernel
theorem dX6_blocked_3 : decode cX6_blocked 3 = .ok (.invokevirtual 134, 3) := by decide +kernel
theorem dX6_blocked_6 : decode cX6_blocked 6 = .ok (.iconst 1, 1) := by decide +kernel
theorem dX6_blocked_7 : decode cX6_blocked 7 = .ok (.iconst 1, 1) := by decide +kernel
theorem dX6_blocked_8 : decode cX6_blocked 8 = .ok (.invokevirtual 80, 3) := by decide +kernel
theorem dX6_blocked_11 : decode cX6_blocked 11 = .ok (.ifCond .eq 12, 3) := by decide +kernel
theorem dX6_blocked_14 : decode cX6_blocked 14 = .ok (.aload_n 0, 1) := by decide +kernel
theorem dX6_blocked_15 : decode cX6_blocked 15 = .ok (.getfield 44, 3) := by decide +kernel
theorem dX6_blocked_18 : decode cX6_blocked 18 = .ok (.iload_n 1, 1) := by decide +kernel
theorem dX6_blocked_19 : decode cX6_blocked 19 = .ok (.iaload, 1) := by decide +kernel
theorem dX6_blocked_20 : decode cX6_blocked 20 = .ok (.goto 4, 3) := by decide +kernel
theorem dX6_blocked_23 : decode cX6_blocked 23 = .ok (.iconst 0, 1) := by decide +kernel
theorem dX6_blocked_24 : decode cX6_blocked 24 = .ok (.ireturn, 1) := by decide +kernel
set_option maxRecDepth 20000 in
theorem ggX6_load_X6_isNode : GoodIn wsX6_load wsX6_isNode := goodIn_r _ [5, 6, 18, 19, 20, 21, 22, 23, 24, 25, 26, 27, 28, 29, 30, 31, 32, 33, 34, 35, 36] (by decide +kernel) (by decide +kernel)
set_option maxRecDepth 20000 in
theorem gX6_load_X6_isNode : GoodIn wsX6_load (wsV RX6 58 RX6 yX6_isNode wsX6_isNode) := goodIn_app (goodIn_of _ (by decide +kernel)) ggX6_load_X6_isNode
set_option maxRecDepth 20000 in
theorem ggX6_load_X6_goes : GoodIn wsX6_load wsX6_goes := goodIn_r _ [10, 11, 18, 19, 20, 21, 22, 23, 24, 25, 26, 27, 28, 29, 30, 31, 32, 33, 34, 35, 36] (by decide +kernel) (by decide +kernel)
set_option maxRecDepth 20000 in
theorem gX6_load_X6_goes : GoodIn wsX6_load (wsV RX6 80 RX6 yX6_goes wsX6_goes) := goodIn_app (goodIn_of _ (by decide +kernel)) ggX6_load_X6_goes
set_option maxRecDepth 20000 in
theorem ggX6_load_X6_loadOf : GoodIn wsX6_load wsX6_loadOf := goodIn_r _ [15, 16, 17, 18, 19, 20, 21, 22, 23, 24, 25, 26, 27, 28, 29, 30, 31, 32, 33, 34, 35, 36] (by decide +kernel) (by decide +kernel)
set_option maxRecDepth 20000 in
theorem gX6_load_X6_loadOf : GoodIn wsX6_load (wsV RX6 125 RX6 yX6_loadOf wsX6_loadOf) := goodIn_app (goodIn_of _ (by decide +kernel)) ggX6_load_X6_loadOf
theorem dX6_load_0 : decode cX6_load 0 = .ok (.aload_n 0, 1) := by decide +kernel
theorem dX6_load_1 : decode cX6_load 1 = .ok (.aload_n 0, 1) := by decide +kernel
theorem dX6_load_2 : decode cX6_load 2 = .ok (.iload_n 1, 1) := by decide +kernel
theorem dX6_load_3 : decode cX6_load 3 = .ok (.invokevirtual 58, 3) := by decide +kernel
theorem dX6_load_6 : decode cX6_load 6 = .ok (.iconst 1, 1) := by decide +kernel
theorem dX6_load_7 : decode cX6_load 7 = .ok (.iconst 1, 1) := by decide +kernel
theorem dX6_load_8 : decode cX6_load 8 = .ok (.invokevirtual 80, 3) := by decide +kernel
theorem dX6_load_11 : decode cX6_load 11 = .ok (.ifCond .eq 11, 3) := by decide +kernel
theorem dX6_load_14 : decode cX6_load 14 = .ok (.aload_n 0, 1) := by decide +kernel
theorem dX6_load_15 : decode cX6_load 15 = .ok (.iload_n 1, 1) := by decide +kernel
theorem dX6_load_16 : decode cX6_load 16 = .ok (.invokevirtual 125, 3) := by decide +kernel
theorem dX6_load_19 : decode cX6_load 19 = .ok (.goto 4, 3) := by decide +kernel
theorem dX6_load_22 : decode cX6_load 22 = .ok (.iconst 0, 1) := by decide +kernel
theorem dX6_load_23 : decode cX6_load 23 = .ok (.ireturn, 1) := by decide +kernel
set_option maxRecDepth 20000 in
theorem ggX6_relayOf_X6_isStation : GoodIn wsX6_relayOf wsX6_isStation := goodIn_r _ [6, 7, 8, 9, 10, 5, 11, 12, 18, 19, 20, 21, 22, 23, 24, 25, 26, 27, 28, 29, 30, 31, 32, 33, 34, 35, 36] (by decide +kernel) (by decide +kernel)
set_option maxRecDepth 20000 in
theorem gX6_relayOf_X6_isStation : GoodIn wsX6_relayOf (wsV RX6 115 RX6 yX6_isStation wsX6_isStation) := goodIn_app (goodIn_of _ (by decide +kernel)) ggX6_relayOf_X6_isStation
set_option maxRecDepth 20000 in
theorem ggX6_relayOf_X6_goes : GoodIn wsX6_relayOf wsX6_goes := goodIn_r _ [16, 17, 18, 19, 20, 21, 22, 23, 24, 25, 26, 27, 28, 29, 30, 31, 32, 33, 34, 35, 36] (by decide +kernel) (by decide +kernel)
set_option maxRecDepth 20000 in
theorem gX6_relayOf_X6_goes : GoodIn wsX6_relayOf (wsV RX6 80 RX6 yX6_goes wsX6_goes) := goodIn_app (goodIn_of _ (by decide +kernel)) ggX6_relayOf_X6_goes
theorem dX6_relayOf_0 : decode cX6_relayOf 0 = .ok (.aload_n 0, 1) := by decide +kernel
theorem dX6_relayOf_1 : decode cX6_relayOf 1 = .ok (.aload_n 0, 1) := by decide +kernel
theorem dX6_relayOf_2 : decode cX6_relayOf 2 = .ok (.iload_n 1, 1) := by decide +kernel
theorem dX6_relayOf_3 : decode cX6_relayOf 3 = .ok (.invokevirtual 115, 3) := by decide +kernel
theorem dX6_relayOf_6 : decode cX6_relayOf 6 = .ok (.iconst 1, 1) := by decide +kernel
theorem dX6_relayOf_7 : decode cX6_relayOf 7 = .ok (.iconst 1, 1) := by decide +kernel
theorem dX6_relayOf_8 : decode cX6_relayOf 8 = .ok (.invokevirtual 80, 3) := by decide +kernel
theorem dX6_relayOf_11 : decode cX6_relayOf 11 = .ok (.ifCond .eq 12, 3) := by decide +kernel
theorem dX6_relayOf_14 : decode cX6_relayOf 14 = .ok (.aload_n 0, 1) := by decide +kernel
theorem dX6_relayOf_15 : decode cX6_relayOf 15 = .ok (.getfield 29, 3) := by decide +kernel
theorem dX6_relayOf_18 : decode cX6_relayOf 18 = .ok (.iload_n 1, 1) := by decide +kernel
theorem dX6_relayOf_19 : decode cX6_relayOf 19 = .ok (.iaload, 1) := by decide +kernel
theorem dX6_relayOf_20 : decode cX6_relayOf 20 = .ok (.goto 4, 3) := by decide +kernel
theorem dX6_relayOf_23 : decode cX6_relayOf 23 = .ok (.iconst 0, 1) := by decide +kernel
theorem dX6_relayOf_24 : decode cX6_relayOf 24 = .ok (.ireturn, 1) := by decide +kernel
set_option maxRecDepth 20000 in
theorem ggX6_handovers_X6_isStation : GoodIn wsX6_handovers wsX6_isStation := goodIn_r _ [6, 7, 8, 9, 10, 5, 11, 12, 18, 19, 20, 21, 22, 23, 24, 25, 26, 27, 28, 29, 30, 31, 32, 33, 34, 35, 36] (by decide +kernel) (by decide +kernel)
set_option maxRecDepth 20000 in
theorem gX6_handovers_X6_isStation : GoodIn wsX6_handovers (wsV RX6 115 RX6 yX6_isStation wsX6_isStation) := goodIn_app (goodIn_of _ (by decide +kernel)) ggX6_handovers_X6_isStation
set_option maxRecDepth 20000 in
theorem ggX6_handovers_X6_goes : GoodIn wsX6_handovers wsX6_goes := goodIn_r _ [16, 17, 18, 19, 20, 21, 22, 23, 24, 25, 26, 27, 28, 29, 30, 31, 32, 33, 34, 35, 36] (by decide +kernel) (by decide +kernel)
set_option maxRecDepth 20000 in
theorem gX6_handovers_X6_goes : GoodIn wsX6_handovers (wsV RX6 80 RX6 yX6_goes wsX6_goes) := goodIn_app (goodIn_of _ (by decide +kernel)) ggX6_handovers_X6_goes
theorem dX6_handovers_0 : decode cX6_handovers 0 = .ok (.aload_n 0, 1) := by decide +kernel
theorem dX6_handovers_1 : decode cX6_handovers 1 = .ok (.aload_n 0, 1) := by decide +kernel
theorem dX6_handovers_2 : decode cX6_handovers 2 = .ok (.iload_n 1, 1) := by decide +kernel
theorem dX6_handovers_3 : decode cX6_handovers 3 = .ok (.invokevirtual 115, 3) := by decide +kernel
theorem dX6_handovers_6 : decode cX6_handovers 6 = .ok (.iconst 1, 1) := by decide +kernel
theorem dX6_handovers_7 : decode cX6_handovers 7 = .ok (.iconst 1, 1) := by decide +kernel
theorem dX6_handovers_8 : decode cX6_handovers 8 = .ok (.invokevirtual 80, 3) := by decide +kernel
theorem dX6_handovers_11 : decode cX6_handovers 11 = .ok (.ifCond .eq 12, 3) := by decide +kernel
theorem dX6_handovers_14 : decode cX6_handovers 14 = .ok (.aload_n 0, 1) := by decide +kernel
theorem dX6_handovers_15 : decode cX6_handovers 15 = .ok (.getfield 32, 3) := by decide +kernel
theorem dX6_handovers_18 : decode cX6_handovers 18 = .ok (.iload_n 1, 1) := by decide +kernel
theorem dX6_handovers_19 : decode cX6_handovers 19 = .ok (.iaload, 1) := by decide +kernel
theorem dX6_handovers_20 : decode cX6_handovers 20 = .ok (.goto 4, 3) := by decide +kernel
theorem dX6_handovers_23 : decode cX6_handovers 23 = .ok (.iconst 0, 1) := by decide +kernel
theorem dX6_handovers_24 : decode cX6_handovers 24 = .ok (.ireturn, 1) := by decide +kernel
