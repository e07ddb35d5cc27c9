set_option maxRecDepth 20000 in
theorem ggX5_init_X2_init : GoodIn wsX5_init wsX2_init := goodIn_r _ [23, 24, 2, 3, 14, 25, 26, 27, 28, 29, 30, 37, 38, 39, 40, 41] (by decide +kernel) (by decide +kernel)
set_option maxRecDepth 20000 in
theorem gX5_init_X2_init_n11 : GoodIn wsX5_init (wsX2_init) := ggX5_init_X2_init
set_option maxRecDepth 20000 in
theorem ggX5_init_X1_init : GoodIn wsX5_init wsX1_init := goodIn_r _ [33, 34, 2, 3, 14, 35, 36, 51, 52] (by decide +kernel) (by decide +kernel)
set_option maxRecDepth 20000 in
theorem gX5_init_X1_init : GoodIn wsX5_init (wsX1_init) := ggX5_init_X1_init
theorem dX5_init_0 : decode cX5_init 0 = .ok (.aload_n 0, 1) := by decide +kernel
theorem dX5_init_1 : decode cX5_init 1 = .ok (.invokespecial 3, 3) := by decide +kernel
theorem dX5_init_4 : decode cX5_init 4 = .ok (.aload_n 0, 1) := by decide +kernel
theorem dX5_init_5 : decode cX5_init 5 = .ok (.new 9, 3) := by decide +kernel
theorem dX5_init_8 : decode cX5_init 8 = .ok (.dup, 1) := by decide +kernel
theorem dX5_init_9 : decode cX5_init 9 = .ok (.invokespecial 11, 3) := by decide +kernel
theorem dX5_init_12 : decode cX5_init 12 = .ok (.putfield 12, 3) := by decide +kernel
theorem dX5_init_15 : decode cX5_init 15 = .ok (.aload_n 0, 1) := by decide +kernel
theorem dX5_init_16 : decode cX5_init 16 = .ok (.new 16, 3) := by decide +kernel
theorem dX5_init_19 : decode cX5_init 19 = .ok (.dup, 1) := by decide +kernel
theorem dX5_init_20 : decode cX5_init 20 = .ok (.aload_n 0, 1) := by decide +kernel
theorem dX5_init_21 : decode cX5_init 21 = .ok (.getfield 12, 3) := by decide +kernel
theorem dX5_init_24 : decode cX5_init 24 = .ok (.invokespecial 18, 3) := by decide +kernel
theorem dX5_init_27 : decode cX5_init 27 = .ok (.putfield 21, 3) := by decide +kernel
theorem dX5_init_30 : decode cX5_init 30 = .ok (.aload_n 0, 1) := by decide +kernel
theorem dX5_init_31 : decode cX5_init 31 = .ok (.bipush 10, 2) := by decide +kernel
theorem dX5_init_33 : decode cX5_init 33 = .ok (.anewarray 25, 3) := by decide +kernel
theorem dX5_init_36 : decode cX5_init 36 = .ok (.putfield 27, 3) := by decide +kernel
theorem dX5_init_39 : decode cX5_init 39 = .ok (.aload_n 0, 1) := by decide +kernel
theorem dX5_init_40 : decode cX5_init 40 = .ok (.bipush 10, 2) := by decide +kernel
theorem dX5_init_42 : decode cX5_init 42 = .ok (.newarray .int, 2) := by decide +kernel
theorem dX5_init_44 : decode cX5_init 44 = .ok (.putfield 31, 3) := by decide +kernel
theorem dX5_init_47 : decode cX5_init 47 = .ok (.aload_n 0, 1) := by decide +kernel
theorem dX5_init_48 : decode cX5_init 48 = .ok (.bipush 20, 2) := by decide +kernel
theorem dX5_init_50 : decode cX5_init 50 = .ok (.anewarray 35, 3) := by decide +kernel
theorem dX5_init_53 : decode cX5_init 53 = .ok (.putfield 37, 3) := by decide +kernel
theorem dX5_init_56 : decode cX5_init 56 = .ok (.aload_n 0, 1) := by decide +kernel
theorem dX5_init_57 : decode cX5_init 57 = .ok (.iconst 0, 1) := by decide +kernel
theorem dX5_init_58 : decode cX5_init 58 = .ok (.putfield 41, 3) := by decide +kernel
theorem dX5_init_61 : decode cX5_init 61 = .ok (.aload_n 0, 1) := by decide +kernel
theorem dX5_init_62 : decode cX5_init 62 = .ok (.iconst 0, 1) := by decide +kernel
theorem dX5_init_63 : decode cX5_init 63 = .ok (.putfield 45, 3) := by decide +kernel
theorem dX5_init_66 : decode cX5_init 66 = .ok (.aload_n 0, 1) := by decide +kernel
theorem dX5_init_67 : decode cX5_init 67 = .ok (.iconst 0, 1) := by decide +kernel
theorem dX5_init_68 : decode cX5_init 68 = .ok (.putfield 48, 3) := by decide +kernel
theorem dX5_init_71 : decode cX5_init 71 = .ok (.aload_n 0, 1) := by decide +kernel
theorem dX5_init_72 : decode cX5_init 72 = .ok (.iconst 0, 1) := by decide +kernel
theorem dX5_init_73 : decode cX5_init 73 = .ok (.putfield 51, 3) := by decide +kernel
theorem dX5_init_76 : decode cX5_init 76 = .ok (.return_, 1) := by decide +kernel
set_option maxRecDepth 20000 in
theorem ggX5_addStation_X5_inRange : GoodIn wsX5_addStation wsX5_inRange := goodIn_r _ [15] (by decide +kernel) (by decide +kernel)
set_option maxRecDepth 20000 in
theorem gX5_addStation_X5_inRange : GoodIn wsX5_addStation (va_wsS RX5 54 yX5_inRange wsX5_inRange) := goodIn_app (goodIn_of _ (by decide +kernel)) ggX5_addStation_X5_inRange
set_option maxRecDepth 20000 in
theorem ggX5_addStation_X5_requireArgument : GoodIn wsX5_addStation wsX5_requireArgument := goodIn_ca (goodIn_r _ [18, 19, 20] (by decide +kernel) (by decide +kernel)) (goodIn_sub (fun _ h => List.mem_cons_of_mem _ (List.mem_append_right _ h)) (by decide +kernel))
set_option maxRecDepth 20000 in
theorem gX5_addStation_X5_requireArgument : GoodIn wsX5_addStation (va_wsS RX5 58 yX5_requireArgument wsX5_requireArgument) := goodIn_app (goodIn_of _ (by decide +kernel)) ggX5_addStation_X5_requireArgument
set_option maxRecDepth 20000 in
theorem ggX5_addStation_X2_addNode : GoodIn wsX5_addStation wsX2_addNode := goodIn_r _ [25, 26, 27, 28, 29, 30, 31, 32, 24, 33, 34, 35, 36, 37, 38, 39, 40, 41, 42, 43, 44, 45, 46, 47, 48, 49, 50, 51, 52, 53, 54, 55, 56, 114, 115, 116, 117, 118] (by decide +kernel) (by decide +kernel)
set_option maxRecDepth 20000 in
theorem gX5_addStation_X2_addNode : GoodIn wsX5_addStation (wsV RX5 69 RX2 yX2_addNode wsX2_addNode) := goodIn_app (goodIn_of _ (by decide +kernel)) ggX5_addStation_X2_addNode
set_option maxRecDepth 20000 in
theorem ggX5_addStation_X4_init : GoodIn wsX5_addStation wsX4_init := goodIn_r _ [59, 60, 61, 62, 63, 64, 65, 66, 67, 68, 69, 70, 108, 109, 110, 111, 112, 113] (by decide +kernel) (by decide +kernel)
set_option maxRecDepth 20000 in
theorem gX5_addStation_X4_init : GoodIn wsX5_addStation (wsX4_init) := ggX5_addStation_X4_init
set_option maxRecDepth 20000 in
theorem ggX5_addStation_X3_init : GoodIn wsX5_addStation wsX3_init := goodIn_r _ [73, 74, 61, 62, 75, 76, 77, 105, 106, 107] (by decide +kernel) (by decide +kernel)
set_option maxRecDepth 20000 in
theorem gX5_addStation_X3_init : GoodIn wsX5_addStation (wsX3_init) := ggX5_addStation_X3_init
set_option maxRecDepth 20000 in
theorem ggX5_addStation_X5_lookForRelay : GoodIn wsX5_addStation wsX5_lookForRelay := goodIn_r _ [81, 4, 82, 83, 84, 85, 24, 86, 87, 88, 89, 90, 34, 91, 92, 93, 94, 95, 105, 106, 107, 96, 97, 98, 99, 100, 101, 102, 103, 104, 114, 115, 116, 117, 118] (by decide +kernel) (by decide +kernel)
set_option maxRecDepth 20000 in
theorem gX5_addStation_X5_lookForRelay : GoodIn wsX5_addStation (wsV RX5 81 RX5 yX5_lookForRelay wsX5_lookForRelay) := goodIn_app (goodIn_of _ (by decide +kernel)) ggX5_addStation_X5_lookForRelay
theorem dX5_addStation_0 : decode cX5_addStation 0 = .ok (.iload_n 1, 1) := by decide +kernel
theorem dX5_addStation_1 : decode cX5_addStation 1 = .ok (.iconst 0, 1) := by decide +kernel
theorem dX5_addStation_2 : decode cX5_addStation 2 = .ok (.sipush 359, 3) := by decide +kernel
theorem dX5_addStation_5 : decode cX5_addStation 5 = .ok (.invokestatic 54, 3) := by decide +kernel
theorem dX5_addStation_8 : decode cX5_addStation 8 = .ok (.invokestatic 58, 3) := by decide +kernel
theorem dX5_addStation_11 : decode cX5_addStation 11 = .ok (.aload_n 0, 1) := by decide +kernel
theorem dX5_addStation_12 : decode cX5_addStation 12 = .ok (.getfield 41, 3) := by decide +kernel
theorem dX5_addStation_15 : decode cX5_addStation 15 = .ok (.iconst 4, 1) := by decide +kernel
theorem dX5_addStation_16 : decode cX5_addStation 16 = .ok (.if_icmp .lt 13, 3) := by decide +kernel
theorem dX5_addStation_19 : decode cX5_addStation 19 = .ok (.new 62, 3) := by decide +kernel
theorem dX5_addStation_22 : decode cX5_addStation 22 = .ok (.dup, 1) := by decide +kernel
theorem dX5_addStation_23 : decode cX5_addStation 23 = .ok (.ldc 64, 2) := by decide +kernel
theorem dX5_addStation_25 : decode cX5_addStation 25 = .ok (.invokespecial 66, 3) := by decide +kernel
theorem dX5_addStation_28 : decode cX5_addStation 28 = .ok (.athrow, 1) := by decide +kernel
theorem dX5_addStation_29 : decode cX5_addStation 29 = .ok (.aload_n 0, 1) := by decide +kernel
theorem dX5_addStation_30 : decode cX5_addStation 30 = .ok (.getfield 12, 3) := by decide +kernel
theorem dX5_addStation_33 : decode cX5_addStation 33 = .ok (.iload_n 1, 1) := by decide +kernel
theorem dX5_addStation_34 : decode cX5_addStation 34 = .ok (.iconst 0, 1) := by decide +kernel
theorem dX5_addStation_35 : decode cX5_addStation 35 = .ok (.iconst (-1), 1) := by decide +kernel
theorem dX5_addStation_36 : decode cX5_addStation 36 = .ok (.invokevirtual 69, 3) := by decide +kernel
theorem dX5_addStation_39 : decode cX5_addStation 39 = .ok (.istore_n 2, 1) := by decide +kernel
theorem dX5_addStation_40 : decode cX5_addStation 40 = .ok (.new 25, 3) := by decide +kernel
theorem dX5_addStation_43 : decode cX5_addStation 43 = .ok (.dup, 1) := by decide +kernel
theorem dX5_addStation_44 : decode cX5_addStation 44 = .ok (.new 73, 3) := by decide +kernel
theorem dX5_addStation_47 : decode cX5_addStation 47 = .ok (.dup, 1) := by decide +kernel
theorem dX5_addStation_48 : decode cX5_addStation 48 = .ok (.aload_n 0, 1) := by decide +kernel
theorem dX5_addStation_49 : decode cX5_addStation 49 = .ok (.getfield 12, 3) := by decide +kernel
theorem dX5_addStation_52 : decode cX5_addStation 52 = .ok (.iload_n 2, 1) := by decide +kernel
theorem dX5_addStation_53 : decode cX5_addStation 53 = .ok (.invokespecial 75, 3) := by decide +kernel
theorem dX5_addStation_56 : decode cX5_addStation 56 = .ok (.invokespecial 78, 3) := by decide +kernel
theorem dX5_addStation_59 : decode cX5_addStation 59 = .ok (.astore_n 3, 1) := by decide +kernel
theorem dX5_addStation_60 : decode cX5_addStation 60 = .ok (.aload_n 0, 1) := by decide +kernel
theorem dX5_addStation_61 : decode cX5_addStation 61 = .ok (.getfield 27, 3) := by decide +kernel
theorem dX5_addStation_64 : decode cX5_addStation 64 = .ok (.iload_n 2, 1) := by decide +kernel
theorem dX5_addStation_65 : decode cX5_addStation 65 = .ok (.aload_n 3, 1) := by decide +kernel
theorem dX5_addStation_66 : decode cX5_addStation 66 = .ok (.aastore, 1) := by decide +kernel
theorem dX5_addStation_67 : decode cX5_addStation 67 = .ok (.aload_n 0, 1) := by decide +kernel
theorem dX5_addStation_68 : decode cX5_addStation 68 = .ok (.dup, 1) := by decide +kernel
theorem dX5_addStation_69 : decode cX5_addStation 69 = .ok (.getfield 41, 3) := by decide +kernel
theorem dX5_addStation_72 : decode cX5_addStation 72 = .ok (.iconst 1, 1) := by decide +kernel
theorem dX5_addStation_73 : decode cX5_addStation 73 = .ok (.iadd, 1) := by decide +kernel
theorem dX5_addStation_74 : decode cX5_addStation 74 = .ok (.putfield 41, 3) := by decide +kernel
theorem dX5_addStation_77 : decode cX5_addStation 77 = .ok (.aload_n 0, 1) := by decide +kernel
theorem dX5_addStation_78 : decode cX5_addStation 78 = .ok (.iload_n 2, 1) := by decide +kernel
theorem dX5_addStation_79 : decode cX5_addStation 79 = .ok (.aload_n 3, 1) := by decide +kernel
theorem dX5_addStation_80 : decode cX5_addStation 80 = .ok (.invokevirtual 81, 3) := by decide +kernel
theorem dX5_addStation_83 : decode cX5_addStation 83 = .ok (.iload_n 2, 1) := by decide +kernel
theorem dX5_addStation_84 : decode cX5_addStation 84 = .ok (.ireturn, 1) := by decide +kernel
set_option maxRecDepth 20000 in
theorem ggX5_addRelay_X5_inRange : GoodIn wsX5_addRelay wsX5_inRange := goodIn_r _ [9] (by decide +kernel) (by decide +kernel)
set_option maxRecDepth 20000 in
theorem gX5_addRelay_X5_inRange : GoodIn wsX5_addRelay (va_wsS RX5 54 yX5_inRange wsX5_inRange) := goodIn_app (goodIn_of _ (by decide +kernel)) ggX5_addRelay_X5_inRange
set_option maxRecDepth 20000 in
theorem ggX5_addRelay_X5_requireArgument : GoodIn wsX5_addRelay wsX5_requireArgument := goodIn_ca (goodIn_r _ [12, 13, 14] (by decide +kernel) (by decide +kernel)) (goodIn_sub (fun _ h => List.mem_cons_of_mem _ (List.mem_append_right _ h)) (by decide +kernel))
set_option maxRecDepth 20000 in
theorem gX5_addRelay_X5_requireArgument : GoodIn wsX5_addRelay (va_wsS RX5 58 yX5_requireArgument wsX5_requireArgument) := goodIn_app (goodIn_of _ (by decide +kernel)) ggX5_addRelay_X5_requireArgument
set_option maxRecDepth 20000 in
theorem ggX5_addRelay_X2_addNode : GoodIn wsX5_addRelay wsX2_addNode := goodIn_r _ [19, 20, 21, 22, 23, 24, 25, 26, 18, 27, 28, 29, 30, 31, 32, 33, 34, 35, 36, 37, 38, 39, 40, 41, 42, 43, 44, 45, 46, 47, 48, 49, 50, 60, 61, 62, 63, 64] (by decide +kernel) (by decide +kernel)
set_option maxRecDepth 20000 in
theorem gX5_addRelay_X2_addNode : GoodIn wsX5_addRelay (wsV RX5 69 RX2 yX2_addNode wsX2_addNode) := goodIn_app (goodIn_of _ (by decide +kernel)) ggX5_addRelay_X2_addNode
theorem dX5_addRelay_0 : decode cX5_addRelay 0 = .ok (.iload_n 1, 1) := by decide +kernel
theorem dX5_addRelay_1 : decode cX5_addRelay 1 = .ok (.iconst 0, 1) := by decide +kernel
theorem dX5_addRelay_2 : decode cX5_addRelay 2 = .ok (.sipush 359, 3) := by decide +kernel
theorem dX5_addRelay_5 : decode cX5_addRelay 5 = .ok (.invokestatic 54, 3) := by decide +kernel
theorem dX5_addRelay_8 : decode cX5_addRelay 8 = .ok (.invokestatic 58, 3) := by decide +kernel
theorem dX5_addRelay_11 : decode cX5_addRelay 11 = .ok (.iload_n 2, 1) := by decide +kernel
theorem dX5_addRelay_12 : decode cX5_addRelay 12 = .ok (.bipush (-30), 2) := by decide +kernel
theorem dX5_addRelay_14 : decode cX5_addRelay 14 = .ok (.bipush 30, 2) := by decide +kernel
theorem dX5_addRelay_16 : decode cX5_addRelay 16 = .ok (.invokestatic 54, 3) := by decide +kernel
theorem dX5_addRelay_19 : decode cX5_addRelay 19 = .ok (.invokestatic 58, 3) := by decide +kernel
theorem dX5_addRelay_22 : decode cX5_addRelay 22 = .ok (.iload_n 3, 1) := by decide +kernel
theorem dX5_addRelay_23 : decode cX5_addRelay 23 = .ok (.iconst 0, 1) := by decide +kernel
theorem dX5_addRelay_24 : decode cX5_addRelay 24 = .ok (.sipush 179, 3) := by decide +kernel
theorem dX5_addRelay_27 : decode cX5_addRelay 27 = .ok (.invokestatic 54, 3) := by decide +kernel
theorem dX5_addRelay_30 : decode cX5_addRelay 30 = .ok (.invokestatic 58, 3) := by decide +kernel
theorem dX5_addRelay_33 : decode cX5_addRelay 33 = .ok (.iload 4, 2) := by decide +kernel
theorem dX5_addRelay_35 : decode cX5_addRelay 35 = .ok (.iconst 1, 1) := by decide +kernel
theorem dX5_addRelay_36 : decode cX5_addRelay 36 = .ok (.bipush 9, 2) := by decide +kernel
theorem dX5_addRelay_38 : decode cX5_addRelay 38 = .ok (.invokestatic 54, 3) := by decide +kernel
theorem dX5_addRelay_41 : decode cX5_addRelay 41 = .ok (.invokestatic 58, 3) := by decide +kernel
theorem dX5_addRelay_44 : decode cX5_addRelay 44 = .ok (.aload_n 0, 1) := by decide +kernel
theorem dX5_addRelay_45 : decode cX5_addRelay 45 = .ok (.getfield 45, 3) := by decide +kernel
theorem dX5_addRelay_48 : decode cX5_addRelay 48 = .ok (.bipush 6, 2) := by decide +kernel
theorem dX5_addRelay_50 : decode cX5_addRelay 50 = .ok (.if_icmp .lt 13, 3) := by decide +kernel
theorem dX5_addRelay_53 : decode cX5_addRelay 53 = .ok (.new 62, 3) := by decide +kernel
theorem dX5_addRelay_56 : decode cX5_addRelay 56 = .ok (.dup, 1) := by decide +kernel
theorem dX5_addRelay_57 : decode cX5_addRelay 57 = .ok (.ldc 85, 2) := by decide +kernel
theorem dX5_addRelay_59 : decode cX5_addRelay 59 = .ok (.invokespecial 66, 3) := by decide +kernel
theorem dX5_addRelay_62 : decode cX5_addRelay 62 = .ok (.athrow, 1) := by decide +kernel
theorem dX5_addRelay_63 : decode cX5_addRelay 63 = .ok (.aload_n 0, 1) := by decide +kernel
theorem dX5_addRelay_64 : decode cX5_addRelay 64 = .ok (.getfield 12, 3) := by decide +kernel
theorem dX5_addRelay_67 : decode cX5_addRelay 67 = .ok (.iload_n 1, 1) := by decide +kernel
theorem dX5_addRelay_68 : decode cX5_addRelay 68 = .ok (.iload_n 2, 1) := by decide +kernel
theorem dX5_addRelay_69 : decode cX5_addRelay 69 = .ok (.iload_n 3, 1) := by decide +kernel
theorem dX5_addRelay_70 : decode cX5_addRelay 70 = .ok (.invokevirtual 69, 3) := by decide +kernel
theorem dX5_addRelay_73 : decode cX5_addRelay 73 = .ok (.istore 5, 2) := by decide +kernel
theorem dX5_addRelay_75 : decode cX5_addRelay 75 = .ok (.aload_n 0, 1) := by decide +kernel
theorem dX5_addRelay_76 : decode cX5_addRelay 76 = .ok (.getfield 31, 3) := by decide +kernel
theorem dX5_addRelay_79 : decode cX5_addRelay 79 = .ok (.iload 5, 2) := by decide +kernel
theorem dX5_addRelay_81 : decode cX5_addRelay 81 = .ok (.iload 4, 2) := by decide +kernel
theorem dX5_addRelay_83 : decode cX5_addRelay 83 = .ok (.iastore, 1) := by decide +kernel
theorem dX5_addRelay_84 : decode cX5_addRelay 84 = .ok (.aload_n 0, 1) := by decide +kernel
theorem dX5_addRelay_85 : decode cX5_addRelay 85 = .ok (.dup, 1) := by decide +kernel
theorem dX5_addRelay_86 : decode cX5_addRelay 86 = .ok (.getfield 45, 3) := by decide +kernel
theorem dX5_addRelay_89 : decode cX5_addRelay 89 = .ok (.iconst 1, 1) := by decide +kernel
theorem dX5_addRelay_90 : decode cX5_addRelay 90 = .ok (.iadd, 1) := by decide +kernel
theorem dX5_addRelay_91 : decode cX5_addRelay 91 = .ok (.putfield 45, 3) := by decide +kernel
theorem dX5_addRelay_94 : decode cX5_addRelay 94 = .ok (.iload 5, 2) := by decide +kernel
theorem dX5_addRelay_96 : decode cX5_addRelay 96 = .ok (.ireturn, 1) := by decide +kernel
set_option maxRecDepth 20000 in
theorem ggX5_setCapacity_X5_requireNode : GoodIn wsX5_setCapacity wsX5_requireNode := goodIn_ca (goodIn_r _ [9, 1, 2, 10, 11, 12, 8, 13, 19, 20, 21, 22, 23, 24, 25, 26, 27, 28, 29, 30, 31, 32] (by decide +kernel) (by decide +kernel)) (goodIn_sub (fun _ h => List.mem_cons_of_mem _ (List.mem_append_left _ (List.mem_append_right _ h))) (by decide +kernel))
set_option maxRecDepth 20000 in
theorem gX5_setCapacity_X5_requireNode : GoodIn wsX5_setCapacity (wsV RX5 87 RX5 yX5_requireNode wsX5_requireNode) := goodIn_app (goodIn_of _ (by decide +kernel)) ggX5_setCapacity_X5_requireNode
set_option maxRecDepth 20000 in
theorem ggX5_setCapacity_X5_inRange : GoodIn wsX5_setCapacity wsX5_inRange := goodIn_r _ [13] (by decide +kernel) (by decide +kernel)
set_option maxRecDepth 20000 in
theorem gX5_setCapacity_X5_inRange : GoodIn wsX5_setCapacity (va_wsS RX5 54 yX5_inRange wsX5_inRange) := goodIn_app (goodIn_of _ (by decide +kernel)) ggX5_setCapacity_X5_inRange
set_option maxRecDepth 20000 in
theorem ggX5_setCapacity_X5_requireArgument : GoodIn wsX5_setCapacity wsX5_requireArgument := goodIn_ca (goodIn_r _ [16, 17, 18] (by decide +kernel) (by decide +kernel)) (goodIn_sub (fun _ h => List.mem_cons_of_mem _ (List.mem_append_right _ h)) (by decide +kernel))
set_option maxRecDepth 20000 in
theorem gX5_setCapacity_X5_requireArgument : GoodIn wsX5_setCapacity (va_wsS RX5 58 yX5_requireArgument wsX5_requireArgument) := goodIn_app (goodIn_of _ (by decide +kernel)) ggX5_setCapacity_X5_requireArgument
theorem dX5_setCapacity_0 : decode cX5_setCapacity 0 = .ok (.aload_n 0, 1) := by decide +kernel
theorem dX5_setCapacity_1 : decode cX5_setCapacity 1 = .ok (.iload_n 1, 1) := by decide +kernel
theorem dX5_setCapacity_2 : decode cX5_setCapacity 2 = .ok (.invokevirtual 87, 3) := by decide +kernel
theorem dX5_setCapacity_5 : decode cX5_setCapacity 5 = .ok (.aload_n 0, 1) := by decide +kernel
theorem dX5_setCapacity_6 : decode cX5_setCapacity 6 = .ok (.getfield 27, 3) := by decide +kernel
theorem dX5_setCapacity_9 : decode cX5_setCapacity 9 = .ok (.iload_n 1, 1) := by decide +kernel
theorem dX5_setCapacity_10 : decode cX5_setCapacity 10 = .ok (.aaload, 1) := by decide +kernel
theorem dX5_setCapacity_11 : decode cX5_setCapacity 11 = .ok (.ifnull 13, 3) := by decide +kernel
theorem dX5_setCapacity_14 : decode cX5_setCapacity 14 = .ok (.new 91, 3) := by decide +kernel
theorem dX5_setCapacity_17 : decode cX5_setCapacity 17 = .ok (.dup, 1) := by decide +kernel
theorem dX5_setCapacity_18 : decode cX5_setCapacity 18 = .ok (.ldc 93, 2) := by decide +kernel
theorem dX5_setCapacity_20 : decode cX5_setCapacity 20 = .ok (.invokespecial 95, 3) := by decide +kernel
theorem dX5_setCapacity_23 : decode cX5_setCapacity 23 = .ok (.athrow, 1) := by decide +kernel
theorem dX5_setCapacity_24 : decode cX5_setCapacity 24 = .ok (.iload_n 2, 1) := by decide +kernel
theorem dX5_setCapacity_25 : decode cX5_setCapacity 25 = .ok (.iconst 1, 1) := by decide +kernel
theorem dX5_setCapacity_26 : decode cX5_setCapacity 26 = .ok (.bipush 9, 2) := by decide +kernel
theorem dX5_setCapacity_28 : decode cX5_setCapacity 28 = .ok (.invokestatic 54, 3) := by decide +kernel
theorem dX5_setCapacity_31 : decode cX5_setCapacity 31 = .ok (.invokestatic 58, 3) := by decide +kernel
theorem dX5_setCapacity_34 : decode cX5_setCapacity 34 = .ok (.aload_n 0, 1) := by decide +kernel
theorem dX5_setCapacity_35 : decode cX5_setCapacity 35 = .ok (.getfield 31, 3) := by decide +kernel
theorem dX5_setCapacity_38 : decode cX5_setCapacity 38 = .ok (.iload_n 1, 1) := by decide +kernel
theorem dX5_setCapacity_39 : decode cX5_setCapacity 39 = .ok (.iaload, 1) := by decide +kernel
theorem dX5_setCapacity_40 : decode cX5_setCapacity 40 = .ok (.istore_n 3, 1) := by decide +kernel
theorem dX5_setCapacity_41 : decode cX5_setCapacity 41 = .ok (.aload_n 0, 1) := by decide +kernel
theorem dX5_setCapacity_42 : decode cX5_setCapacity 42 = .ok (.getfield 31, 3) := by decide +kernel
theorem dX5_setCapacity_45 : decode cX5_setCapacity 45 = .ok (.iload_n 1, 1) := by decide +kernel
theorem dX5_setCapacity_46 : decode cX5_setCapacity 46 = .ok (.iload_n 2, 1) := by decide +kernel
theorem dX5_setCapacity_47 : decode cX5_setCapacity 47 = .ok (.iastore, 1) := by decide +kernel
theorem dX5_setCapacity_48 : decode cX5_setCapacity 48 = .ok (.iload_n 3, 1) := by decide +kernel
theorem dX5_setCapacity_49 : decode cX5_setCapacity 49 = .ok (.ireturn, 1) := by decide +kernel
theorem dX5_nodes_0 : decode cX5_nodes 0 = .ok (.aload_n 0, 1) := by decide +kernel
theorem dX5_nodes_1 : decode cX5_nodes 1 = .ok (.getfield 12, 3) := by decide +kernel
theorem dX5_nodes_4 : decode cX5_nodes 4 = .ok (.getfield 96, 3) := by decide +kernel
theorem dX5_nodes_7 : decode cX5_nodes 7 = .ok (.ireturn, 1) := by decide +kernel
set_option maxRecDepth 20000 in
theorem ggX5_placeAt_X5_requireNode : GoodIn wsX5_placeAt wsX5_requireNode := goodIn_ca (goodIn_r _ [6, 7, 8, 1, 9, 10, 5, 11, 32, 33, 34, 35, 36, 37, 38, 39, 40, 41, 42, 43, 44, 45] (by decide +kernel) (by decide +kernel)) (goodIn_sub (fun _ h => List.mem_cons_of_mem _ (List.mem_append_left _ (List.mem_append_right _ h))) (by decide +kernel))
set_option maxRecDepth 20000 in
theorem gX5_placeAt_X5_requireNode : GoodIn wsX5_placeAt (wsV RX5 87 RX5 yX5_requireNode wsX5_requireNode) := goodIn_app (goodIn_of _ (by decide +kernel)) ggX5_placeAt_X5_requireNode
set_option maxRecDepth 20000 in
theorem ggX5_placeAt_X5_requireMinute : GoodIn wsX5_placeAt wsX5_requireMinute := goodIn_ca (goodIn_r _ [14, 15, 9, 10, 5, 11, 16, 17, 18, 19, 20] (by decide +kernel) (by decide +kernel)) (goodIn_sub (fun _ h => List.mem_cons_of_mem _ (List.mem_append_right _ h)) (by decide +kernel))
set_option maxRecDepth 20000 in
theorem gX5_placeAt_X5_requireMinute : GoodIn wsX5_placeAt (va_wsS RX5 99 yX5_requireMinute wsX5_requireMinute) := goodIn_app (goodIn_of _ (by decide +kernel)) ggX5_placeAt_X5_requireMinute
set_option maxRecDepth 20000 in
theorem ggX5_placeAt_X2_placeOf : GoodIn wsX5_placeAt wsX2_placeOf := goodIn_r _ [25, 26, 27, 28, 29, 30, 31, 41, 42, 43, 44, 45] (by decide +kernel) (by decide +kernel)
set_option maxRecDepth 20000 in
theorem gX5_placeAt_X2_placeOf : GoodIn wsX5_placeAt (wsV RX5 102 RX2 yX2_placeOf wsX2_placeOf) := goodIn_app (goodIn_of _ (by decide +kernel)) ggX5_placeAt_X2_placeOf
theorem dX5_placeAt_0 : decode cX5_placeAt 0 = .ok (.aload_n 0, 1) := by decide +kernel
theorem dX5_placeAt_1 : decode cX5_placeAt 1 = .ok (.iload_n 1, 1) := by decide +kernel
theorem dX5_placeAt_2 : decode cX5_placeAt 2 = .ok (.invokevirtual 87, 3) := by decide +kernel
theorem dX5_placeAt_5 : decode cX5_placeAt 5 = .ok (.iload_n 2, 1) := by decide +kernel
theorem dX5_placeAt_6 : decode cX5_placeAt 6 = .ok (.invokestatic 99, 3) := by decide +kernel
theorem dX5_placeAt_9 : decode cX5_placeAt 9 = .ok (.aload_n 0, 1) := by decide +kernel
theorem dX5_placeAt_10 : decode cX5_placeAt 10 = .ok (.getfield 12, 3) := by decide +kernel
theorem dX5_placeAt_13 : decode cX5_placeAt 13 = .ok (.iload_n 1, 1) := by decide +kernel
theorem dX5_placeAt_14 : decode cX5_placeAt 14 = .ok (.iload_n 2, 1) := by decide +kernel
theorem dX5_placeAt_15 : decode cX5_placeAt 15 = .ok (.invokevirtual 102, 3) := by decide +kernel
theorem dX5_placeAt_18 : decode cX5_placeAt 18 = .ok (.ireturn, 1) := by decide +kernel
set_option maxRecDepth 20000 in
theorem ggX5_see_X5_requireTwoNodesAndMinute : GoodIn wsX5_see wsX5_requireTwoNodesAndMinute := goodIn_ca (goodIn_ca (goodIn_r _ [6, 7, 8, 9, 5, 10, 11, 12, 1, 13, 14, 15, 16, 17, 18, 19, 20, 21, 22, 23, 24, 35, 36, 37, 38, 39, 40, 41, 42, 43, 44, 45, 46, 47, 48] (by decide +kernel) (by decide +kernel)) (goodIn_sub (fun _ h => List.mem_cons_of_mem _ (List.mem_append_left _ (List.mem_append_right _ h))) (by decide +kernel))) (goodIn_sub (fun _ h => List.mem_cons_of_mem _ (List.mem_append_right _ h)) (by decide +kernel))
set_option maxRecDepth 20000 in
theorem gX5_see_X5_requireTwoNodesAndMinute : GoodIn wsX5_see (wsV RX5 106 RX5 yX5_requireTwoNodesAndMinute wsX5_requireTwoNodesAndMinute) := goodIn_app (goodIn_of _ (by decide +kernel)) ggX5_see_X5_requireTwoNodesAndMinute
set_option maxRecDepth 20000 in
theorem ggX5_see_X2_inContact : GoodIn wsX5_see wsX2_inContact := goodIn_r _ [29, 30, 31, 32, 28, 33, 34, 44, 45, 46, 47, 48] (by decide +kernel) (by decide +kernel)
set_option maxRecDepth 20000 in
theorem gX5_see_X2_inContact : GoodIn wsX5_see (wsV RX5 110 RX2 yX2_inContact wsX2_inContact) := goodIn_app (goodIn_of _ (by decide +kernel)) ggX5_see_X2_inContact
theorem dX5_see_0 : decode cX5_see 0 = .ok (.aload_n 0, 1) := by decide +kernel
theorem dX5_see_1 : decode cX5_see 1 = .ok (.iload_n 1, 1) := by decide +kernel
theorem dX5_see_2 : decode cX5_see 2 = .ok (.iload_n 2, 1) := by decide +kernel
theorem dX5_see_3 : decode cX5_see 3 = .ok (.iload_n 3, 1) := by decide +kernel
theorem dX5_see_4 : decode cX5_see 4 = .ok (.invokevirtual 106, 3) := by decide +kernel
theorem dX5_see_7 : decode cX5_see 7 = .ok (.aload_n 0, 1) := by decide +kernel
theorem dX5_see_8 : decode cX5_see 8 = .ok (.getfield 12, 3) := by decide +kernel
theorem dX5_see_11 : decode cX5_see 11 = .ok (.iload_n 1, 1) := by decide +kernel
theorem dX5_see_12 : decode cX5_see 12 = .ok (.iload_n 2, 1) := by decide +kernel
theorem dX5_see_13 : decode cX5_see 13 = .ok (.iload_n 3, 1) := by decide +kernel
theorem dX5_see_14 : decode cX5_see 14 = .ok (.invokevirtual 110, 3) := by decide +kernel
theorem dX5_see_17 : decode cX5_see 17 = .ok (.ireturn, 1) := by decide +kernel
set_option maxRecDepth 20000 in
theorem ggX5_nextContact_X5_requireTwoNodesAndMinute : GoodIn wsX5_nextContact wsX5_requireTwoNodesAndMinute := goodIn_ca (goodIn_ca (goodIn_r _ [6, 7, 8, 9, 5, 10, 11, 12, 1, 13, 14, 15, 16, 17, 18, 19, 20, 21, 22, 23, 24, 39, 40, 41, 42, 43, 44, 45, 46, 47, 48, 49, 50, 51, 52] (by decide +kernel) (by decide +kernel)) (goodIn_sub (fun _ h => List.mem_cons_of_mem _ (List.mem_append_left _ (List.mem_append_right _ h))) (by decide +kernel))) (goodIn_sub (fun _ h => List.mem_cons_of_mem _ (List.mem_append_right _ h)) (by decide +kernel))
set_option maxRecDepth 20000 in
theorem gX5_nextContact_X5_requireTwoNodesAndMinute : GoodIn wsX5_nextContact (wsV RX5 106 RX5 yX5_requireTwoNodesAndMinute wsX5_requireTwoNodesAndMinute) := goodIn_app (goodIn_of _ (by decide +kernel)) ggX5_nextContact_X5_requireTwoNodesAndMinute
set_option maxRecDepth 20000 in
theorem ggX5_nextContact_X2_firstContact : GoodIn wsX5_nextContact wsX2_firstContact := goodIn_r _ [29, 30, 31, 32, 28, 33, 34, 35, 36, 37, 38, 48, 49, 50, 51, 52] (by decide +kernel) (by decide +kernel)
set_option maxRecDepth 20000 in
theorem gX5_nextContact_X2_firstContact : GoodIn wsX5_nextContact (wsV RX5 113 RX2 yX2_firstContact wsX2_firstContact) := goodIn_app (goodIn_of _ (by decide +kernel)) ggX5_nextContact_X2_firstContact
theorem dX5_nextContact_0 : decode cX5_nextContact 0 = .ok (.aload_n 0, 1) := by decide +kernel
theorem dX5_nextContact_1 : decode cX5_nextContact 1 = .ok (.iload_n 1, 1) := by decide +kernel
theorem dX5_nextContact_2 : decode cX5_nextContact 2 = .ok (.iload_n 2, 1) := by decide +kernel
theorem dX5_nextContact_3 : decode cX5_nextContact 3 = .ok (.iload_n 3, 1) := by decide +kernel
theorem dX5_nextContact_4 : decode cX5_nextContact 4 = .ok (.invokevirtual 106, 3) := by decide +kernel
theorem dX5_nextContact_7 : decode cX5_nextContact 7 = .ok (.aload_n 0, 1) := by decide +kernel
theorem dX5_nextContact_8 : decode cX5_nextContact 8 = .ok (.getfield 12, 3) := by decide +kernel
theorem dX5_nextContact_11 : decode cX5_nextContact 11 = .ok (.iload_n 1, 1) := by decide +kernel
theorem dX5_nextContact_12 : decode cX5_nextContact 12 = .ok (.iload_n 2, 1) := by decide +kernel
theorem dX5_nextContact_13 : decode cX5_nextContact 13 = .ok (.iload_n 3, 1) := by decide +kernel
theorem dX5_nextContact_14 : decode cX5_nextContact 14 = .ok (.invokevirtual 113, 3) := by decide +kernel
theorem dX5_nextContact_17 : decode cX5_nextContact 17 = .ok (.ireturn, 1) := by decide +kernel
set_option maxRecDepth 20000 in
theorem ggX5_view_X5_requireTwoNodesAndMinute : GoodIn wsX5_view wsX5_requireTwoNodesAndMinute := goodIn_ca (goodIn_ca (goodIn_r _ [6, 7, 8, 9, 5, 10, 11, 12, 1, 13, 14, 15, 16, 17, 18, 19, 20, 21, 22, 23, 24, 39, 40, 41, 42, 43, 44, 45, 46, 47, 48, 49, 50, 51, 52] (by decide +kernel) (by decide +kernel)) (goodIn_sub (fun _ h => List.mem_cons_of_mem _ (List.mem_append_left _ (List.mem_append_right _ h))) (by decide +kernel))) (goodIn_sub (fun _ h => List.mem_cons_of_mem _ (List.mem_append_right _ h)) (by decide +kernel))
set_option maxRecDepth 20000 in
theorem gX5_view_X5_requireTwoNodesAndMinute : GoodIn wsX5_view (wsV RX5 106 RX5 yX5_requireTwoNodesAndMinute wsX5_requireTwoNodesAndMinute) := goodIn_app (goodIn_of _ (by decide +kernel)) ggX5_view_X5_requireTwoNodesAndMinute
set_option maxRecDepth 20000 in
theorem ggX5_view_X2_contactLength : GoodIn wsX5_view wsX2_contactLength := goodIn_r _ [29, 30, 31, 32, 28, 33, 34, 35, 36, 37, 38, 48, 49, 50, 51, 52] (by decide +kernel) (by decide +kernel)
set_option maxRecDepth 20000 in
theorem gX5_view_X2_contactLength : GoodIn wsX5_view (wsV RX5 116 RX2 yX2_contactLength wsX2_contactLength) := goodIn_app (goodIn_of _ (by decide +kernel)) ggX5_view_X2_contactLength
theorem dX5_view_0 : decode cX5_view 0 = .ok (.aload_n 0, 1) := by decide +kernel
theorem dX5_view_1 : decode cX5_view 1 = .ok (.iload_n 1, 1) := by decide +kernel
theorem dX5_view_2 : decode cX5_view 2 = .ok (.iload_n 2, 1) := by decide +kernel
theorem dX5_view_3 : decode cX5_view 3 = .ok (.iload_n 3, 1) := by decide +kernel
theorem dX5_view_4 : decode cX5_view 4 = .ok (.invokevirtual 106, 3) := by decide +kernel
theorem dX5_view_7 : decode cX5_view 7 = .ok (.aload_n 0, 1) := by decide +kernel
theorem dX5_view_8 : decode cX5_view 8 = .ok (.getfield 12, 3) := by decide +kernel
theorem dX5_view_11 : decode cX5_view 11 = .ok (.iload_n 1, 1) := by decide +kernel
theorem dX5_view_12 : decode cX5_view 12 = .ok (.iload_n 2, 1) := by decide +kernel
theorem dX5_view_13 : decode cX5_view 13 = .ok (.iload_n 3, 1) := by decide +kernel
theorem dX5_view_14 : decode cX5_view 14 = .ok (.invokevirtual 116, 3) := by decide +kernel
theorem dX5_view_17 : decode cX5_view 17 = .ok (.ireturn, 1) := by decide +kernel
set_option maxRecDepth 20000 in
theorem ggX5_arrival_X5_requireTwoNodesAndMinute : GoodIn wsX5_arrival wsX5_requireTwoNodesAndMinute := goodIn_ca (goodIn_ca (goodIn_r _ [6, 7, 8, 9, 5, 10, 11, 12, 13, 14, 15, 16, 17, 18, 19, 20, 21, 22, 23, 24, 25, 59, 60, 61, 62, 63, 64, 65, 66, 67, 68, 69, 70, 71, 72] (by decide +kernel) (by decide +kernel)) (goodIn_sub (fun _ h => List.mem_cons_of_mem _ (List.mem_append_left _ (List.mem_append_right _ h))) (by decide +kernel))) (goodIn_sub (fun _ h => List.mem_cons_of_mem _ (List.mem_append_right _ h)) (by decide +kernel))
set_option maxRecDepth 20000 in
theorem gX5_arrival_X5_requireTwoNodesAndMinute : GoodIn wsX5_arrival (wsV RX5 106 RX5 yX5_requireTwoNodesAndMinute wsX5_requireTwoNodesAndMinute) := goodIn_app (goodIn_of _ (by decide +kernel)) ggX5_arrival_X5_requireTwoNodesAndMinute
set_option maxRecDepth 20000 in
theorem ggX5_arrival_X1_byContacts : GoodIn wsX5_arrival wsX1_byContacts := goodIn_r _ [30, 31, 32, 33, 34, 35, 36, 37, 38, 39, 29, 40, 41, 42, 43, 44, 45, 46, 47, 48, 49, 50, 51, 52, 53, 54, 55, 56, 57, 58, 73, 74, 68, 69, 70, 71, 72] (by decide +kernel) (by decide +kernel)
set_option maxRecDepth 20000 in
theorem gX5_arrival_X1_byContacts : GoodIn wsX5_arrival (wsV RX5 119 RX1 yX1_byContacts wsX1_byContacts) := goodIn_app (goodIn_of _ (by decide +kernel)) ggX5_arrival_X1_byContacts
theorem dX5_arrival_0 : decode cX5_arrival 0 = .ok (.aload_n 0, 1) := by decide +kernel
theorem dX5_arrival_1 : decode cX5_arrival 1 = .ok (.iload_n 1, 1) := by decide +kernel
theorem dX5_arrival_2 : decode cX5_arrival 2 = .ok (.iload_n 2, 1) := by decide +kernel
theorem dX5_arrival_3 : decode cX5_arrival 3 = .ok (.iload_n 3, 1) := by decide +kernel
theorem dX5_arrival_4 : decode cX5_arrival 4 = .ok (.invokevirtual 106, 3) := by decide +kernel
theorem dX5_arrival_7 : decode cX5_arrival 7 = .ok (.aload_n 0, 1) := by decide +kernel
theorem dX5_arrival_8 : decode cX5_arrival 8 = .ok (.getfield 21, 3) := by decide +kernel
theorem dX5_arrival_11 : decode cX5_arrival 11 = .ok (.iload_n 1, 1) := by decide +kernel
theorem dX5_arrival_12 : decode cX5_arrival 12 = .ok (.iload_n 2, 1) := by decide +kernel
theorem dX5_arrival_13 : decode cX5_arrival 13 = .ok (.iload_n 3, 1) := by decide +kernel
theorem dX5_arrival_14 : decode cX5_arrival 14 = .ok (.invokevirtual 119, 3) := by decide +kernel
theorem dX5_arrival_17 : decode cX5_arrival 17 = .ok (.ireturn, 1) := by decide +kernel
set_option maxRecDepth 20000 in
theorem ggX5_arrivalByFlooding_X5_requireTwoNodesAndMinute : GoodIn wsX5_arrivalByFlooding wsX5_requireTwoNodesAndMinute := goodIn_ca (goodIn_ca (goodIn_r _ [6, 7, 8, 9, 5, 10, 11, 12, 13, 14, 15, 16, 17, 18, 19, 20, 21, 22, 23, 24, 25, 42, 43, 44, 45, 46, 47, 48, 49, 50, 51, 52, 53, 54, 55] (by decide +kernel) (by decide +kernel)) (goodIn_sub (fun _ h => List.mem_cons_of_mem _ (List.mem_append_left _ (List.mem_append_right _ h))) (by decide +kernel))) (goodIn_sub (fun _ h => List.mem_cons_of_mem _ (List.mem_append_right _ h)) (by decide +kernel))
set_option maxRecDepth 20000 in
theorem gX5_arrivalByFlooding_X5_requireTwoNodesAndMinute : GoodIn wsX5_arrivalByFlooding (wsV RX5 106 RX5 yX5_requireTwoNodesAndMinute wsX5_requireTwoNodesAndMinute) := goodIn_app (goodIn_of _ (by decide +kernel)) ggX5_arrivalByFlooding_X5_requireTwoNodesAndMinute
set_option maxRecDepth 20000 in
theorem ggX5_arrivalByFlooding_X1_byFlooding : GoodIn wsX5_arrivalByFlooding wsX1_byFlooding := goodIn_r _ [30, 31, 32, 33, 29, 34, 35, 36, 37, 38, 39, 40, 41, 56, 57, 51, 52, 53, 54, 55] (by decide +kernel) (by decide +kernel)
set_option maxRecDepth 20000 in
theorem gX5_arrivalByFlooding_X1_byFlooding : GoodIn wsX5_arrivalByFlooding (wsV RX5 122 RX1 yX1_byFlooding wsX1_byFlooding) := goodIn_app (goodIn_of _ (by decide +kernel)) ggX5_arrivalByFlooding_X1_byFlooding
theorem dX5_arrivalByFlooding_0 : decode cX5_arrivalByFlooding 0 = .ok (.aload_n 0, 1) := by decide +kernel
theorem dX5_arrivalByFlooding_1 : decode cX5_arrivalByFlooding 1 = .ok (.iload_n 1, 1) := by decide +kernel
theorem dX5_arrivalByFlooding_2 : decode cX5_arrivalByFlooding 2 = .ok (.iload_n 2, 1) := by decide +kernel
theorem dX5_arrivalByFlooding_3 : decode cX5_arrivalByFlooding 3 = .ok (.iload_n 3, 1) := by decide +kernel
theorem dX5_arrivalByFlooding_4 : decode cX5_arrivalByFlooding 4 = .ok (.invokevirtual 106, 3) := by decide +kernel
theorem dX5_arrivalByFlooding_7 : decode cX5_arrivalByFlooding 7 = .ok (.aload_n 0, 1) := by decide +kernel
theorem dX5_arrivalByFlooding_8 : decode cX5_arrivalByFlooding 8 = .ok (.getfield 21, 3) := by decide +kernel
theorem dX5_arrivalByFlooding_11 : decode cX5_arrivalByFlooding 11 = .ok (.iload_n 1, 1) := by decide +kernel
theorem dX5_arrivalByFlooding_12 : decode cX5_arrivalByFlooding 12 = .ok (.iload_n 2, 1) := by decide +kernel
theorem dX5_arrivalByFlooding_13 : decode cX5_arrivalByFlooding 13 = .ok (.iload_n 3, 1) := by decide +kernel
theorem dX5_arrivalByFlooding_14 : decode cX5_arrivalByFlooding 14 = .ok (.invokevirtual 122, 3) := by decide +kernel
theorem dX5_arrivalByFlooding_17 : decode cX5_arrivalByFlooding 17 = .ok (.ireturn, 1) := by decide +kernel
set_option maxRecDepth 20000 in
theorem ggX5_spread_X5_requireNode : GoodIn wsX5_spread wsX5_requireNode := goodIn_ca (goodIn_r _ [6, 7, 8, 9, 10, 11, 5, 12, 45, 46, 47, 48, 49, 50, 51, 52, 53, 54, 55, 56, 57, 58] (by decide +kernel) (by decide +kernel)) (goodIn_sub (fun _ h => List.mem_cons_of_mem _ (List.mem_append_left _ (List.mem_append_right _ h))) (by decide +kernel))
set_option maxRecDepth 20000 in
theorem gX5_spread_X5_requireNode : GoodIn wsX5_spread (wsV RX5 87 RX5 yX5_requireNode wsX5_requireNode) := goodIn_app (goodIn_of _ (by decide +kernel)) ggX5_spread_X5_requireNode
set_option maxRecDepth 20000 in
theorem ggX5_spread_X5_requireMinute : GoodIn wsX5_spread wsX5_requireMinute := goodIn_ca (goodIn_r _ [15, 16, 10, 11, 5, 12, 17, 18, 19, 20, 21] (by decide +kernel) (by decide +kernel)) (goodIn_sub (fun _ h => List.mem_cons_of_mem _ (List.mem_append_right _ h)) (by decide +kernel))
set_option maxRecDepth 20000 in
theorem gX5_spread_X5_requireMinute : GoodIn wsX5_spread (va_wsS RX5 99 yX5_requireMinute wsX5_requireMinute) := goodIn_app (goodIn_of _ (by decide +kernel)) ggX5_spread_X5_requireMinute
set_option maxRecDepth 20000 in
theorem ggX5_spread_X5_inRange : GoodIn wsX5_spread wsX5_inRange := goodIn_r _ [12] (by decide +kernel) (by decide +kernel)
set_option maxRecDepth 20000 in
theorem gX5_spread_X5_inRange : GoodIn wsX5_spread (va_wsS RX5 54 yX5_inRange wsX5_inRange) := goodIn_app (goodIn_of _ (by decide +kernel)) ggX5_spread_X5_inRange
set_option maxRecDepth 20000 in
theorem ggX5_spread_X5_requireArgument : GoodIn wsX5_spread wsX5_requireArgument := goodIn_ca (goodIn_r _ [19, 20, 21] (by decide +kernel) (by decide +kernel)) (goodIn_sub (fun _ h => List.mem_cons_of_mem _ (List.mem_append_right _ h)) (by decide +kernel))
set_option maxRecDepth 20000 in
theorem gX5_spread_X5_requireArgument : GoodIn wsX5_spread (va_wsS RX5 58 yX5_requireArgument wsX5_requireArgument) := goodIn_app (goodIn_of _ (by decide +kernel)) ggX5_spread_X5_requireArgument
set_option maxRecDepth 20000 in
theorem ggX5_spread_X1_flooded : GoodIn wsX5_spread wsX1_flooded := goodIn_r _ [26, 27, 28, 29, 25, 30, 31, 32, 33, 34, 35, 36, 37, 59, 60, 54, 55, 56, 57, 58] (by decide +kernel) (by decide +kernel)
set_option maxRecDepth 20000 in
theorem gX5_spread_X1_flooded : GoodIn wsX5_spread (wsV RX5 125 RX1 yX1_flooded wsX1_flooded) := goodIn_app (goodIn_of _ (by decide +kernel)) ggX5_spread_X1_flooded
set_option maxRecDepth 20000 in
theorem ggX5_spread_J6_bitCount_0f7a4 : GoodIn wsX5_spread wsJ6_bitCount_0f7a4 := goodIn_r _ [41, 42, 43, 44] (by decide +kernel) (by decide +kernel)
set_option maxRecDepth 20000 in
theorem gX5_spread_J6_bitCount_0f7a4 : GoodIn wsX5_spread (va_wsS RX5 128 yJ6_bitCount_0f7a4 wsJ6_bitCount_0f7a4) := goodIn_app (goodIn_of _ (by decide +kernel)) ggX5_spread_J6_bitCount_0f7a4
theorem dX5_spread_0 : decode cX5_spread 0 = .ok (.aload_n 0, 1) := by decide +kernel
theorem dX5_spread_1 : decode cX5_spread 1 = .ok (.iload_n 1, 1) := by decide +kernel
theorem dX5_spread_2 : decode cX5_spread 2 = .ok (.invokevirtual 87, 3) := by decide +kernel
theorem dX5_spread_5 : decode cX5_spread 5 = .ok (.iload_n 2, 1) := by decide +kernel
theorem dX5_spread_6 : decode cX5_spread 6 = .ok (.invokestatic 99, 3) := by decide +kernel
theorem dX5_spread_9 : decode cX5_spread 9 = .ok (.iload_n 3, 1) := by decide +kernel
theorem dX5_spread_10 : decode cX5_spread 10 = .ok (.iconst 0, 1) := by decide +kernel
theorem dX5_spread_11 : decode cX5_spread 11 = .ok (.sipush 400, 3) := by decide +kernel
theorem dX5_spread_14 : decode cX5_spread 14 = .ok (.invokestatic 54, 3) := by decide +kernel
theorem dX5_spread_17 : decode cX5_spread 17 = .ok (.invokestatic 58, 3) := by decide +kernel
theorem dX5_spread_20 : decode cX5_spread 20 = .ok (.aload_n 0, 1) := by decide +kernel
theorem dX5_spread_21 : decode cX5_spread 21 = .ok (.getfield 21, 3) := by decide +kernel
theorem dX5_spread_24 : decode cX5_spread 24 = .ok (.iload_n 1, 1) := by decide +kernel
theorem dX5_spread_25 : decode cX5_spread 25 = .ok (.iload_n 2, 1) := by decide +kernel
theorem dX5_spread_26 : decode cX5_spread 26 = .ok (.iload_n 3, 1) := by decide +kernel
theorem dX5_spread_27 : decode cX5_spread 27 = .ok (.invokevirtual 125, 3) := by decide +kernel
theorem dX5_spread_30 : decode cX5_spread 30 = .ok (.invokestatic 128, 3) := by decide +kernel
theorem dX5_spread_33 : decode cX5_spread 33 = .ok (.ireturn, 1) := by decide +kernel
set_option maxRecDepth 20000 in
theorem ggX5_send_X5_requireStation : GoodIn wsX5_send wsX5_requireStation := goodIn_ca (goodIn_r _ [12, 13, 14, 15, 16, 17, 18, 11, 19, 20, 21, 22, 23, 44, 45, 46, 47, 48, 49, 50, 51, 52, 64, 65, 66, 67, 68] (by decide +kernel) (by decide +kernel)) (goodIn_sub (fun _ h => List.mem_cons_of_mem _ (List.mem_append_left _ (List.mem_append_right _ h))) (by decide +kernel))
set_option maxRecDepth 20000 in
theorem gX5_send_X5_requireStation : GoodIn wsX5_send (wsV RX5 134 RX5 yX5_requireStation wsX5_requireStation) := goodIn_app (goodIn_of _ (by decide +kernel)) ggX5_send_X5_requireStation
set_option maxRecDepth 20000 in
theorem ggX5_send_X5_requireArgument : GoodIn wsX5_send wsX5_requireArgument := goodIn_ca (goodIn_r _ [26, 27, 28] (by decide +kernel) (by decide +kernel)) (goodIn_sub (fun _ h => List.mem_cons_of_mem _ (List.mem_append_right _ h)) (by decide +kernel))
set_option maxRecDepth 20000 in
theorem gX5_send_X5_requireArgument : GoodIn wsX5_send (va_wsS RX5 58 yX5_requireArgument wsX5_requireArgument) := goodIn_app (goodIn_of _ (by decide +kernel)) ggX5_send_X5_requireArgument
set_option maxRecDepth 20000 in
theorem ggX5_send_X0_init : GoodIn wsX5_send wsX0_init := goodIn_r _ [31, 32, 33, 34, 35, 36, 37, 38, 39, 40, 41, 42, 43, 53, 54, 55, 56, 57, 58, 59, 60] (by decide +kernel) (by decide +kernel)
set_option maxRecDepth 20000 in
theorem gX5_send_X0_init : GoodIn wsX5_send (wsX0_init) := ggX5_send_X0_init
theorem dX5_send_0 : decode cX5_send 0 = .ok (.aload_n 0, 1) := by decide +kernel
theorem dX5_send_1 : decode cX5_send 1 = .ok (.iload_n 1, 1) := by decide +kernel
theorem dX5_send_2 : decode cX5_send 2 = .ok (.invokevirtual 134, 3) := by decide +kernel
theorem dX5_send_5 : decode cX5_send 5 = .ok (.pop, 1) := by decide +kernel
theorem dX5_send_6 : decode cX5_send 6 = .ok (.aload_n 0, 1) := by decide +kernel
theorem dX5_send_7 : decode cX5_send 7 = .ok (.iload_n 2, 1) := by decide +kernel
theorem dX5_send_8 : decode cX5_send 8 = .ok (.invokevirtual 134, 3) := by decide +kernel
theorem dX5_send_11 : decode cX5_send 11 = .ok (.astore_n 3, 1) := by decide +kernel
theorem dX5_send_12 : decode cX5_send 12 = .ok (.iload_n 1, 1) := by decide +kernel
theorem dX5_send_13 : decode cX5_send 13 = .ok (.iload_n 2, 1) := by decide +kernel
theorem dX5_send_14 : decode cX5_send 14 = .ok (.if_icmp .eq 7, 3) := by decide +kernel
theorem dX5_send_17 : decode cX5_send 17 = .ok (.iconst 1, 1) := by decide +kernel
theorem dX5_send_18 : decode cX5_send 18 = .ok (.goto 4, 3) := by decide +kernel
theorem dX5_send_21 : decode cX5_send 21 = .ok (.iconst 0, 1) := by decide +kernel
theorem dX5_send_22 : decode cX5_send 22 = .ok (.invokestatic 58, 3) := by decide +kernel
theorem dX5_send_25 : decode cX5_send 25 = .ok (.aload_n 0, 1) := by decide +kernel
theorem dX5_send_26 : decode cX5_send 26 = .ok (.getfield 48, 3) := by decide +kernel
theorem dX5_send_29 : decode cX5_send 29 = .ok (.bipush 20, 2) := by decide +kernel
theorem dX5_send_31 : decode cX5_send 31 = .ok (.if_icmp .lt 13, 3) := by decide +kernel
theorem dX5_send_34 : decode cX5_send 34 = .ok (.new 62, 3) := by decide +kernel
theorem dX5_send_37 : decode cX5_send 37 = .ok (.dup, 1) := by decide +kernel
theorem dX5_send_38 : decode cX5_send 38 = .ok (.ldc 138, 2) := by decide +kernel
theorem dX5_send_40 : decode cX5_send 40 = .ok (.invokespecial 66, 3) := by decide +kernel
theorem dX5_send_43 : decode cX5_send 43 = .ok (.athrow, 1) := by decide +kernel
theorem dX5_send_44 : decode cX5_send 44 = .ok (.aload_n 0, 1) := by decide +kernel
theorem dX5_send_45 : decode cX5_send 45 = .ok (.getfield 48, 3) := by decide +kernel
theorem dX5_send_48 : decode cX5_send 48 = .ok (.istore 4, 2) := by decide +kernel
theorem dX5_send_50 : decode cX5_send 50 = .ok (.aload_n 0, 1) := by decide +kernel
theorem dX5_send_51 : decode cX5_send 51 = .ok (.getfield 37, 3) := by decide +kernel
theorem dX5_send_54 : decode cX5_send 54 = .ok (.iload 4, 2) := by decide +kernel
theorem dX5_send_56 : decode cX5_send 56 = .ok (.new 35, 3) := by decide +kernel
theorem dX5_send_59 : decode cX5_send 59 = .ok (.dup, 1) := by decide +kernel
theorem dX5_send_60 : decode cX5_send 60 = .ok (.iload_n 1, 1) := by decide +kernel
theorem dX5_send_61 : decode cX5_send 61 = .ok (.iload_n 2, 1) := by decide +kernel
theorem dX5_send_62 : decode cX5_send 62 = .ok (.aload_n 3, 1) := by decide +kernel
theorem dX5_send_63 : decode cX5_send 63 = .ok (.getfield 140, 3) := by decide +kernel
theorem dX5_send_66 : decode cX5_send 66 = .ok (.invokespecial 144, 3) := by decide +kernel
theorem dX5_send_69 : decode cX5_send 69 = .ok (.aastore, 1) := by decide +kernel
theorem dX5_send_70 : decode cX5_send 70 = .ok (.aload_n 0, 1) := by decide +kernel
theorem dX5_send_71 : decode cX5_send 71 = .ok (.dup, 1) := by decide +kernel
theorem dX5_send_72 : decode cX5_send 72 = .ok (.getfield 48, 3) := by decide +kernel
theorem dX5_send_75 : decode cX5_send 75 = .ok (.iconst 1, 1) := by decide +kernel
theorem dX5_send_76 : decode cX5_send 76 = .ok (.iadd, 1) := by decide +kernel
theorem dX5_send_77 : decode cX5_send 77 = .ok (.putfield 48, 3) := by decide +kernel
theorem dX5_send_80 : decode cX5_send 80 = .ok (.iload 4, 2) := by decide +kernel
theorem dX5_send_82 : decode cX5_send 82 = .ok (.ireturn, 1) := by decide +kernel
set_option maxRecDepth 20000 in
theorem ggX5_pass_X5_inRange : GoodIn wsX5_pass wsX5_inRange := goodIn_r _ [8] (by decide +kernel) (by decide +kernel)
set_option maxRecDepth 20000 in
theorem gX5_pass_X5_inRange : GoodIn wsX5_pass (va_wsS RX5 54 yX5_inRange wsX5_inRange) := goodIn_app (goodIn_of _ (by decide +kernel)) ggX5_pass_X5_inRange
set_option maxRecDepth 20000 in
theorem ggX5_pass_X5_requireArgument : GoodIn wsX5_pass wsX5_requireArgument := goodIn_ca (goodIn_r _ [11, 12, 13] (by decide +kernel) (by decide +kernel)) (goodIn_sub (fun _ h => List.mem_cons_of_mem _ (List.mem_append_right _ h)) (by decide +kernel))
set_option maxRecDepth 20000 in
theorem gX5_pass_X5_requireArgument : GoodIn wsX5_pass (va_wsS RX5 58 yX5_requireArgument wsX5_requireArgument) := goodIn_app (goodIn_of _ (by decide +kernel)) ggX5_pass_X5_requireArgument
set_option maxRecDepth 20000 in
theorem ggX5_pass_X5_passOneMinute : GoodIn wsX5_pass wsX5_passOneMinute := goodIn_r _ [17, 18, 19, 3, 20, 21, 22, 23, 24, 25, 26, 27, 28, 29, 30, 31, 7, 32, 33, 34, 35, 36, 37, 38, 39, 40, 41, 42, 43, 44, 45, 46, 47, 48, 49, 50, 51, 52, 53, 54, 55, 56, 57, 58, 59, 60, 61, 62, 63, 64, 65, 66, 67, 68, 69, 70, 71, 72, 73, 74, 75, 76, 77, 78, 79, 80, 81, 82, 83, 84, 85, 86, 87, 88, 89, 90, 91, 92, 93, 94, 95, 96, 97, 98, 99, 100, 101, 102, 103, 104, 105, 106, 107, 108, 109, 110, 111, 112, 113, 114, 115, 116, 117, 118, 119, 120, 121, 122, 123, 124, 125, 126, 127, 128, 129, 130, 131, 132, 133, 134, 135, 136, 137, 138, 139, 140, 141, 142, 143, 144, 145, 146, 147, 148, 149, 150] (by decide +kernel) (by decide +kernel)
set_option maxRecDepth 20000 in
theorem gX5_pass_X5_passOneMinute : GoodIn wsX5_pass (wsV RX5 150 RX5 yX5_passOneMinute wsX5_passOneMinute) := goodIn_app (goodIn_of _ (by decide +kernel)) ggX5_pass_X5_passOneMinute
theorem dX5_pass_0 : decode cX5_pass 0 = .ok (.iload_n 1, 1) := by decide +kernel
theorem dX5_pass_1 : decode cX5_pass 1 = .ok (.iconst 1, 1) := by decide +kernel
theorem dX5_pass_2 : decode cX5_pass 2 = .ok (.bipush 30, 2) := by decide +kernel
theorem dX5_pass_4 : decode cX5_pass 4 = .ok (.invokestatic 54, 3) := by decide +kernel
theorem dX5_pass_7 : decode cX5_pass 7 = .ok (.invokestatic 58, 3) := by decide +kernel
theorem dX5_pass_10 : decode cX5_pass 10 = .ok (.aload_n 0, 1) := by decide +kernel
theorem dX5_pass_11 : decode cX5_pass 11 = .ok (.getfield 51, 3) := by decide +kernel
theorem dX5_pass_14 : decode cX5_pass 14 = .ok (.iload_n 1, 1) := by decide +kernel
theorem dX5_pass_15 : decode cX5_pass 15 = .ok (.iadd, 1) := by decide +kernel
theorem dX5_pass_16 : decode cX5_pass 16 = .ok (.ldc 147, 2) := by decide +kernel
theorem dX5_pass_18 : decode cX5_pass 18 = .ok (.if_icmp .le 13, 3) := by decide +kernel
theorem dX5_pass_21 : decode cX5_pass 21 = .ok (.new 62, 3) := by decide +kernel
theorem dX5_pass_24 : decode cX5_pass 24 = .ok (.dup, 1) := by decide +kernel
theorem dX5_pass_25 : decode cX5_pass 25 = .ok (.ldc 148, 2) := by decide +kernel
theorem dX5_pass_27 : decode cX5_pass 27 = .ok (.invokespecial 66, 3) := by decide +kernel
theorem dX5_pass_30 : decode cX5_pass 30 = .ok (.athrow, 1) := by decide +kernel
theorem dX5_pass_31 : decode cX5_pass 31 = .ok (.iconst 0, 1) := by decide +kernel
theorem dX5_pass_32 : decode cX5_pass 32 = .ok (.istore_n 2, 1) := by decide +kernel
theorem dX5_pass_33 : decode cX5_pass 33 = .ok (.iconst 0, 1) := by decide +kernel
theorem dX5_pass_34 : decode cX5_pass 34 = .ok (.istore_n 3, 1) := by decide +kernel
theorem dX5_pass_35 : decode cX5_pass 35 = .ok (.iload_n 3, 1) := by decide +kernel
theorem dX5_pass_36 : decode cX5_pass 36 = .ok (.iload_n 1, 1) := by decide +kernel
theorem dX5_pass_37 : decode cX5_pass 37 = .ok (.if_icmp .ge 16, 3) := by decide +kernel
theorem dX5_pass_40 : decode cX5_pass 40 = .ok (.iload_n 2, 1) := by decide +kernel
theorem dX5_pass_41 : decode cX5_pass 41 = .ok (.aload_n 0, 1) := by decide +kernel
theorem dX5_pass_42 : decode cX5_pass 42 = .ok (.invokevirtual 150, 3) := by decide +kernel
theorem dX5_pass_45 : decode cX5_pass 45 = .ok (.iadd, 1) := by decide +kernel
theorem dX5_pass_46 : decode cX5_pass 46 = .ok (.istore_n 2, 1) := by decide +kernel
theorem dX5_pass_47 : decode cX5_pass 47 = .ok (.iinc 3 1, 3) := by decide +kernel
theorem dX5_pass_50 : decode cX5_pass 50 = .ok (.goto (-15), 3) := by decide +kernel
theorem dX5_pass_53 : decode cX5_pass 53 = .ok (.iload_n 2, 1) := by decide +kernel
theorem dX5_pass_54 : decode cX5_pass 54 = .ok (.ireturn, 1) := by decide +kernel
theorem dX5_now_0 : decode cX5_now 0 = .ok (.aload_n 0, 1) := by decide +kernel
theorem dX5_now_1 : decode cX5_now 1 = .ok (.getfield 51, 3) := by decide +kernel
theorem dX5_now_4 : decode cX5_now 4 = .ok (.ireturn, 1) := by decide +kernel
theorem dX5_messages_0 : decode cX5_messages 0 = .ok (.aload_n 0, 1) := by decide +kernel
theorem dX5_messages_1 : decode cX5_messages 1 = .ok (.getfield 48, 3) := by decide +kernel
theorem dX5_messages_4 : decode cX5_messages 4 = .ok (.ireturn, 1) := by decide +kernel
set_option maxRecDepth 20000 in
theorem ggX5_nodeOf_X5_requireMessage : GoodIn wsX5_nodeOf wsX5_requireMessage := goodIn_ca (goodIn_r _ [5, 6, 7, 8, 9, 10, 11, 4, 12, 21, 22, 23, 24, 25, 26, 27, 28, 29] (by decide +kernel) (by decide +kernel)) (goodIn_sub (fun _ h => List.mem_cons_of_mem _ (List.mem_append_right _ h)) (by decide +kernel))
set_option maxRecDepth 20000 in
theorem gX5_nodeOf_X5_requireMessage : GoodIn wsX5_nodeOf (wsV RX5 154 RX5 yX5_requireMessage wsX5_requireMessage) := goodIn_app (goodIn_of _ (by decide +kernel)) ggX5_nodeOf_X5_requireMessage
theorem dX5_nodeOf_0 : decode cX5_nodeOf 0 = .ok (.aload_n 0, 1) := by decide +kernel
theorem dX5_nodeOf_1 : decode cX5_nodeOf 1 = .ok (.iload_n 1, 1) := by decide +kernel
theorem dX5_nodeOf_2 : decode cX5_nodeOf 2 = .ok (.invokevirtual 154, 3) := by decide +kernel
theorem dX5_nodeOf_5 : decode cX5_nodeOf 5 = .ok (.getfield 158, 3) := by decide +kernel
theorem dX5_nodeOf_8 : decode cX5_nodeOf 8 = .ok (.ireturn, 1) := by decide +kernel
set_option maxRecDepth 20000 in
theorem ggX5_arrivedAt_X5_requireMessage : GoodIn wsX5_arrivedAt wsX5_requireMessage := goodIn_ca (goodIn_r _ [7, 8, 9, 10, 11, 12, 13, 6, 14, 30, 31, 32, 33, 34, 35, 36, 37, 38] (by decide +kernel) (by decide +kernel)) (goodIn_sub (fun _ h => List.mem_cons_of_mem _ (List.mem_append_right _ h)) (by decide +kernel))
set_option maxRecDepth 20000 in
theorem gX5_arrivedAt_X5_requireMessage : GoodIn wsX5_arrivedAt (wsV RX5 154 RX5 yX5_requireMessage wsX5_requireMessage) := goodIn_app (goodIn_of _ (by decide +kernel)) ggX5_arrivedAt_X5_requireMessage
set_option maxRecDepth 20000 in
theorem ggX5_arrivedAt_X0_isAtGoal : GoodIn wsX5_arrivedAt wsX0_isAtGoal := goodIn_r _ [19, 20, 21, 22, 23, 24, 25, 26, 27, 28, 29] (by decide +kernel) (by decide +kernel)
set_option maxRecDepth 20000 in
theorem gX5_arrivedAt_X0_isAtGoal : GoodIn wsX5_arrivedAt (wsV RX5 161 RX0 yX0_isAtGoal wsX0_isAtGoal) := goodIn_app (goodIn_of _ (by decide +kernel)) ggX5_arrivedAt_X0_isAtGoal
theorem dX5_arrivedAt_0 : decode cX5_arrivedAt 0 = .ok (.aload_n 0, 1) := by decide +kernel
theorem dX5_arrivedAt_1 : decode cX5_arrivedAt 1 = .ok (.iload_n 1, 1) := by decide +kernel
theorem dX5_arrivedAt_2 : decode cX5_arrivedAt 2 = .ok (.invokevirtual 154, 3) := by decide +kernel
theorem dX5_arrivedAt_5 : decode cX5_arrivedAt 5 = .ok (.astore_n 2, 1) := by decide +kernel
theorem dX5_arrivedAt_6 : decode cX5_arrivedAt 6 = .ok (.aload_n 2, 1) := by decide +kernel
theorem dX5_arrivedAt_7 : decode cX5_arrivedAt 7 = .ok (.invokevirtual 161, 3) := by decide +kernel
theorem dX5_arrivedAt_10 : decode cX5_arrivedAt 10 = .ok (.ifCond .ne 13, 3) := by decide +kernel
theorem dX5_arrivedAt_13 : decode cX5_arrivedAt 13 = .ok (.new 165, 3) := by decide +kernel
theorem dX5_arrivedAt_16 : decode cX5_arrivedAt 16 = .ok (.dup, 1) := by decide +kernel
theorem dX5_arrivedAt_17 : decode cX5_arrivedAt 17 = .ok (.ldc 167, 2) := by decide +kernel
theorem dX5_arrivedAt_19 : decode cX5_arrivedAt 19 = .ok (.invokespecial 169, 3) := by decide +kernel
theorem dX5_arrivedAt_22 : decode cX5_arrivedAt 22 = .ok (.athrow, 1) := by decide +kernel
theorem dX5_arrivedAt_23 : decode cX5_arrivedAt 23 = .ok (.aload_n 2, 1) := by decide +kernel
theorem dX5_arrivedAt_24 : decode cX5_arrivedAt 24 = .ok (.getfield 170, 3) := by decide +kernel
theorem dX5_arrivedAt_27 : decode cX5_arrivedAt 27 = .ok (.ireturn, 1) := by decide +kernel
set_option maxRecDepth 20000 in
theorem ggX5_hops_X5_requireMessage : GoodIn wsX5_hops wsX5_requireMessage := goodIn_ca (goodIn_r _ [5, 6, 7, 8, 9, 10, 11, 4, 12, 21, 22, 23, 24, 25, 26, 27, 28, 29] (by decide +kernel) (by decide +kernel)) (goodIn_sub (fun _ h => List.mem_cons_of_mem _ (List.mem_append_right _ h)) (by decide +kernel))
set_option maxRecDepth 20000 in
theorem gX5_hops_X5_requireMessage : GoodIn wsX5_hops (wsV RX5 154 RX5 yX5_requireMessage wsX5_requireMessage) := goodIn_app (goodIn_of _ (by decide +kernel)) ggX5_hops_X5_requireMessage
theorem dX5_hops_0 : decode cX5_hops 0 = .ok (.aload_n 0, 1) := by decide +kernel
theorem dX5_hops_1 : decode cX5_hops 1 = .ok (.iload_n 1, 1) := by decide +kernel
theorem dX5_hops_2 : decode cX5_hops 2 = .ok (.invokevirtual 154, 3) := by decide +kernel
theorem dX5_hops_5 : decode cX5_hops 5 = .ok (.getfield 173, 3) := by decide +kernel
theorem dX5_hops_8 : decode cX5_hops 8 = .ok (.ireturn, 1) := by decide +kernel
set_option maxRecDepth 20000 in
theorem ggX5_hopNode_X5_requireMessage : GoodIn wsX5_hopNode wsX5_requireMessage := goodIn_ca (goodIn_r _ [5, 6, 7, 8, 9, 10, 11, 4, 12, 24, 25, 26, 27, 28, 29, 30, 31, 32] (by decide +kernel) (by decide +kernel)) (goodIn_sub (fun _ h => List.mem_cons_of_mem _ (List.mem_append_right _ h)) (by decide +kernel))
set_option maxRecDepth 20000 in
theorem gX5_hopNode_X5_requireMessage : GoodIn wsX5_hopNode (wsV RX5 154 RX5 yX5_requireMessage wsX5_requireMessage) := goodIn_app (goodIn_of _ (by decide +kernel)) ggX5_hopNode_X5_requireMessage
set_option maxRecDepth 20000 in
theorem ggX5_hopNode_X5_requireHop : GoodIn wsX5_hopNode wsX5_requireHop := goodIn_ca (goodIn_r _ [15, 6, 7, 10, 11, 4, 12, 16, 17, 18, 19, 20, 21, 22, 23] (by decide +kernel) (by decide +kernel)) (goodIn_sub (fun _ h => List.mem_cons_of_mem _ (List.mem_append_right _ h)) (by decide +kernel))
set_option maxRecDepth 20000 in
theorem gX5_hopNode_X5_requireHop : GoodIn wsX5_hopNode (va_wsS RX5 176 yX5_requireHop wsX5_requireHop) := goodIn_app (goodIn_of _ (by decide +kernel)) ggX5_hopNode_X5_requireHop
theorem dX5_hopNode_0 : decode cX5_hopNode 0 = .ok (.aload_n 0, 1) := by decide +kernel
theorem dX5_hopNode_1 : decode cX5_hopNode 1 = .ok (.iload_n 1, 1) := by decide +kernel
theorem dX5_hopNode_2 : decode cX5_hopNode 2 = .ok (.invokevirtual 154, 3) := by decide +kernel
theorem dX5_hopNode_5 : decode cX5_hopNode 5 = .ok (.astore_n 3, 1) := by decide +kernel
theorem dX5_hopNode_6 : decode cX5_hopNode 6 = .ok (.aload_n 3, 1) := by decide +kernel
theorem dX5_hopNode_7 : decode cX5_hopNode 7 = .ok (.iload_n 2, 1) := by decide +kernel
theorem dX5_hopNode_8 : decode cX5_hopNode 8 = .ok (.invokestatic 176, 3) := by decide +kernel
theorem dX5_hopNode_11 : decode cX5_hopNode 11 = .ok (.aload_n 3, 1) := by decide +kernel
theorem dX5_hopNode_12 : decode cX5_hopNode 12 = .ok (.getfield 180, 3) := by decide +kernel
theorem dX5_hopNode_15 : decode cX5_hopNode 15 = .ok (.iload_n 2, 1) := by decide +kernel
theorem dX5_hopNode_16 : decode cX5_hopNode 16 = .ok (.iaload, 1) := by decide +kernel
theorem dX5_hopNode_17 : decode cX5_hopNode 17 = .ok (.ireturn, 1) := by decide +kernel
set_option maxRecDepth 20000 in
theorem ggX5_hopMinute_X5_requireMessage : GoodIn wsX5_hopMinute wsX5_requireMessage := goodIn_ca (goodIn_r _ [5, 6, 7, 8, 9, 10, 11, 4, 12, 24, 25, 26, 27, 28, 29, 30, 31, 32] (by decide +kernel) (by decide +kernel)) (goodIn_sub (fun _ h => List.mem_cons_of_mem _ (List.mem_append_right _ h)) (by decide +kernel))
set_option maxRecDepth 20000 in
theorem gX5_hopMinute_X5_requireMessage : GoodIn wsX5_hopMinute (wsV RX5 154 RX5 yX5_requireMessage wsX5_requireMessage) := goodIn_app (goodIn_of _ (by decide +kernel)) ggX5_hopMinute_X5_requireMessage
set_option maxRecDepth 20000 in
theorem ggX5_hopMinute_X5_requireHop : GoodIn wsX5_hopMinute wsX5_requireHop := goodIn_ca (goodIn_r _ [15, 6, 7, 10, 11, 4, 12, 16, 17, 18, 19, 20, 21, 22, 23] (by decide +kernel) (by decide +kernel)) (goodIn_sub (fun _ h => List.mem_cons_of_mem _ (List.mem_append_right _ h)) (by decide +kernel))
set_option maxRecDepth 20000 in
theorem gX5_hopMinute_X5_requireHop : GoodIn wsX5_hopMinute (va_wsS RX5 176 yX5_requireHop wsX5_requireHop) := goodIn_app (goodIn_of _ (by decide +kernel)) ggX5_hopMinute_X5_requireHop
theorem dX5_hopMinute_0 : decode cX5_hopMinute 0 = .ok (.aload_n 0, 1) := by decide +kernel
theorem dX5_hopMinute_1 : decode cX5_hopMinute 1 = .ok (.iload_n 1, 1) := by decide +kernel
theorem dX5_hopMinute_2 : decode cX5_hopMinute 2 = .ok (.invokevirtual 154, 3) := by decide +kernel
theorem dX5_hopMinute_5 : decode cX5_hopMinute 5 = .ok (.astore_n 3, 1) := by decide +kernel
theorem dX5_hopMinute_6 : decode cX5_hopMinute 6 = .ok (.aload_n 3, 1) := by decide +kernel
theorem dX5_hopMinute_7 : decode cX5_hopMinute 7 = .ok (.iload_n 2, 1) := by decide +kernel
theorem dX5_hopMinute_8 : decode cX5_hopMinute 8 = .ok (.invokestatic 176, 3) := by decide +kernel
theorem dX5_hopMinute_11 : decode cX5_hopMinute 11 = .ok (.aload_n 3, 1) := by decide +kernel
theorem dX5_hopMinute_12 : decode cX5_hopMinute 12 = .ok (.getfield 183, 3) := by decide +kernel
theorem dX5_hopMinute_15 : decode cX5_hopMinute 15 = .ok (.iload_n 2, 1) := by decide +kernel
theorem dX5_hopMinute_16 : decode cX5_hopMinute 16 = .ok (.iaload, 1) := by decide +kernel
theorem dX5_hopMinute_17 : decode cX5_hopMinute 17 = .ok (.ireturn, 1) := by decide +kernel
set_option maxRecDepth 20000 in
theorem ggX5_blocked_X5_requireMessage : GoodIn wsX5_blocked wsX5_requireMessage := goodIn_ca (goodIn_r _ [5, 6, 7, 8, 9, 10, 11, 4, 12, 21, 22, 23, 24, 25, 26, 27, 28, 29] (by decide +kernel) (by decide +kernel)) (goodIn_sub (fun _ h => List.mem_cons_of_mem _ (List.mem_append_right _ h)) (by decide +kernel))
set_option maxRecDepth 20000 in
theorem gX5_blocked_X5_requireMessage : GoodIn wsX5_blocked (wsV RX5 154 RX5 yX5_requireMessage wsX5_requireMessage) := goodIn_app (goodIn_of _ (by decide +kernel)) ggX5_blocked_X5_requireMessage
theorem dX5_blocked_0 : decode cX5_blocked 0 = .ok (.aload_n 0, 1) := by decide +kernel
theorem dX5_blocked_1 : decode cX5_blocked 1 = .ok (.iload_n 1, 1) := by decide +kernel
theorem dX5_blocked_2 : decode cX5_blocked 2 = .ok (.invokevirtual 154, 3) := by decide +kernel
theorem dX5_blocked_5 : decode cX5_blocked 5 = .ok (.getfield 186, 3) := by decide +kernel
theorem dX5_blocked_8 : decode cX5_blocked 8 = .ok (.ireturn, 1) := by decide +kernel
set_option maxRecDepth 20000 in
theorem ggX5_load_X5_requireNode : GoodIn wsX5_load wsX5_requireNode := goodIn_ca (goodIn_r _ [5, 6, 7, 8, 9, 10, 4, 11, 18, 19, 20, 21, 22, 23, 24, 25, 26, 27, 28, 29, 30, 31] (by decide +kernel) (by decide +kernel)) (goodIn_sub (fun _ h => List.mem_cons_of_mem _ (List.mem_append_right _ h)) (by decide +kernel))
set_option maxRecDepth 20000 in
theorem gX5_load_X5_requireNode : GoodIn wsX5_load (wsV RX5 87 RX5 yX5_requireNode wsX5_requireNode) := goodIn_app (goodIn_of _ (by decide +kernel)) ggX5_load_X5_requireNode
set_option maxRecDepth 20000 in
theorem ggX5_load_X5_messagesAt : GoodIn wsX5_load wsX5_messagesAt := goodIn_r _ [15, 16, 17, 18, 19, 20, 21, 22, 23, 24, 25, 26, 32, 33, 34, 35, 36, 37, 38, 39] (by decide +kernel) (by decide +kernel)
set_option maxRecDepth 20000 in
theorem gX5_load_X5_messagesAt : GoodIn wsX5_load (wsV RX5 189 RX5 yX5_messagesAt wsX5_messagesAt) := goodIn_app (goodIn_of _ (by decide +kernel)) ggX5_load_X5_messagesAt
theorem dX5_load_0 : decode cX5_load 0 = .ok (.aload_n 0, 1) := by decide +kernel
theorem dX5_load_1 : decode cX5_load 1 = .ok (.iload_n 1, 1) := by decide +kernel
theorem dX5_load_2 : decode cX5_load 2 = .ok (.invokevirtual 87, 3) := by decide +kernel
theorem dX5_load_5 : decode cX5_load 5 = .ok (.aload_n 0, 1) := by decide +kernel
theorem dX5_load_6 : decode cX5_load 6 = .ok (.iload_n 1, 1) := by decide +kernel
theorem dX5_load_7 : decode cX5_load 7 = .ok (.invokevirtual 189, 3) := by decide +kernel
theorem dX5_load_10 : decode cX5_load 10 = .ok (.ireturn, 1) := by decide +kernel
set_option maxRecDepth 20000 in
theorem ggX5_relayOf_X5_requireStation : GoodIn wsX5_relayOf wsX5_requireStation := goodIn_ca (goodIn_r _ [5, 6, 7, 8, 9, 10, 11, 4, 12, 13, 14, 15, 16, 20, 21, 22, 23, 24, 25, 26, 27, 28, 29, 30, 31, 32, 33] (by decide +kernel) (by decide +kernel)) (goodIn_sub (fun _ h => List.mem_cons_of_mem _ (List.mem_append_right _ h)) (by decide +kernel))
set_option maxRecDepth 20000 in
theorem gX5_relayOf_X5_requireStation : GoodIn wsX5_relayOf (wsV RX5 134 RX5 yX5_requireStation wsX5_requireStation) := goodIn_app (goodIn_of _ (by decide +kernel)) ggX5_relayOf_X5_requireStation
theorem dX5_relayOf_0 : decode cX5_relayOf 0 = .ok (.aload_n 0, 1) := by decide +kernel
theorem dX5_relayOf_1 : decode cX5_relayOf 1 = .ok (.iload_n 1, 1) := by decide +kernel
theorem dX5_relayOf_2 : decode cX5_relayOf 2 = .ok (.invokevirtual 134, 3) := by decide +kernel
theorem dX5_relayOf_5 : decode cX5_relayOf 5 = .ok (.getfield 192, 3) := by decide +kernel
theorem dX5_relayOf_8 : decode cX5_relayOf 8 = .ok (.ireturn, 1) := by decide +kernel
set_option maxRecDepth 20000 in
theorem ggX5_handovers_X5_requireStation : GoodIn wsX5_handovers wsX5_requireStation := goodIn_ca (goodIn_r _ [5, 6, 7, 8, 9, 10, 11, 4, 12, 13, 14, 15, 16, 20, 21, 22, 23, 24, 25, 26, 27, 28, 29, 30, 31, 32, 33] (by decide +kernel) (by decide +kernel)) (goodIn_sub (fun _ h => List.mem_cons_of_mem _ (List.mem_append_right _ h)) (by decide +kernel))
set_option maxRecDepth 20000 in
theorem gX5_handovers_X5_requireStation : GoodIn wsX5_handovers (wsV RX5 134 RX5 yX5_requireStation wsX5_requireStation) := goodIn_app (goodIn_of _ (by decide +kernel)) ggX5_handovers_X5_requireStation
theorem dX5_handovers_0 : decode cX5_handovers 0 = .ok (.aload_n 0, 1) := by decide +kernel
theorem dX5_handovers_1 : decode cX5_handovers 1 = .ok (.iload_n 1, 1) := by decide +kernel
theorem dX5_handovers_2 : decode cX5_handovers 2 = .ok (.invokevirtual 134, 3) := by decide +kernel
theorem dX5_handovers_5 : decode cX5_handovers 5 = .ok (.getfield 195, 3) := by decide +kernel
theorem dX5_handovers_8 : decode cX5_handovers 8 = .ok (.ireturn, 1) := by decide +kernel
set_option maxRecDepth 20000 in
theorem ggX5_passOneMinute_X0_isAtGoal : GoodIn wsX5_passOneMinute wsX0_isAtGoal := goodIn_r _ [10, 11, 12, 119, 120, 121, 122, 123, 124, 125, 126] (by decide +kernel) (by decide +kernel)
set_option maxRecDepth 20000 in
theorem gX5_passOneMinute_X0_isAtGoal : GoodIn wsX5_passOneMinute (wsV RX5 161 RX0 yX0_isAtGoal wsX0_isAtGoal) := goodIn_app (goodIn_of _ (by decide +kernel)) ggX5_passOneMinute_X0_isAtGoal
set_option maxRecDepth 20000 in
theorem ggX5_passOneMinute_X5_moveOn : GoodIn wsX5_passOneMinute wsX5_moveOn := goodIn_r _ [17, 3, 18, 19, 20, 21, 22, 23, 24, 25, 26, 27, 28, 29, 30, 31, 32, 33, 34, 35, 36, 37, 38, 39, 40, 41, 42, 43, 44, 45, 46, 47, 48, 49, 50, 51, 52, 53, 54, 55, 56, 57, 58, 59, 60, 61, 62, 16, 63, 5, 64, 65, 66, 67, 68, 1, 2, 69, 70, 71, 9, 72, 73, 74, 75, 11, 76, 77, 78, 79, 80, 81, 82, 83, 84, 85, 86, 87, 88, 89, 90, 91, 92, 93, 94, 119, 120, 121, 122, 123, 124, 125, 126, 105, 106, 107, 108, 109, 110, 111, 112, 113, 127, 128, 129, 130, 131, 132, 114, 115, 116, 117, 118] (by decide +kernel) (by decide +kernel)
set_option maxRecDepth 20000 in
theorem gX5_passOneMinute_X5_moveOn : GoodIn wsX5_passOneMinute (wsV RX5 198 RX5 yX5_moveOn wsX5_moveOn) := goodIn_app (goodIn_of _ (by decide +kernel)) ggX5_passOneMinute_X5_moveOn
set_option maxRecDepth 20000 in
theorem ggX5_passOneMinute_X5_lookForRelay : GoodIn wsX5_passOneMinute wsX5_lookForRelay := goodIn_r _ [98, 4, 3, 99, 56, 57, 44, 58, 59, 42, 43, 45, 46, 100, 101, 102, 103, 104, 133, 134, 135, 105, 106, 107, 108, 109, 110, 111, 112, 113, 114, 115, 116, 117, 118] (by decide +kernel) (by decide +kernel)
set_option maxRecDepth 20000 in
theorem gX5_passOneMinute_X5_lookForRelay : GoodIn wsX5_passOneMinute (wsV RX5 81 RX5 yX5_lookForRelay wsX5_lookForRelay) := goodIn_app (goodIn_of _ (by decide +kernel)) ggX5_passOneMinute_X5_lookForRelay
theorem dX5_passOneMinute_0 : decode cX5_passOneMinute 0 = .ok (.iconst 0, 1) := by decide +kernel
theorem dX5_passOneMinute_1 : decode cX5_passOneMinute 1 = .ok (.istore_n 1, 1) := by decide +kernel
theorem dX5_passOneMinute_2 : decode cX5_passOneMinute 2 = .ok (.iconst 0, 1) := by decide +kernel
theorem dX5_passOneMinute_3 : decode cX5_passOneMinute 3 = .ok (.istore_n 2, 1) := by decide +kernel
theorem dX5_passOneMinute_4 : decode cX5_passOneMinute 4 = .ok (.iload_n 2, 1) := by decide +kernel
theorem dX5_passOneMinute_5 : decode cX5_passOneMinute 5 = .ok (.aload_n 0, 1) := by decide +kernel
theorem dX5_passOneMinute_6 : decode cX5_passOneMinute 6 = .ok (.getfield 48, 3) := by decide +kernel
theorem dX5_passOneMinute_9 : decode cX5_passOneMinute 9 = .ok (.if_icmp .ge 43, 3) := by decide +kernel
theorem dX5_passOneMinute_12 : decode cX5_passOneMinute 12 = .ok (.aload_n 0, 1) := by decide +kernel
theorem dX5_passOneMinute_13 : decode cX5_passOneMinute 13 = .ok (.getfield 37, 3) := by decide +kernel
theorem dX5_passOneMinute_16 : decode cX5_passOneMinute 16 = .ok (.iload_n 2, 1) := by decide +kernel
theorem dX5_passOneMinute_17 : decode cX5_passOneMinute 17 = .ok (.aaload, 1) := by decide +kernel
theorem dX5_passOneMinute_18 : decode cX5_passOneMinute 18 = .ok (.astore_n 3, 1) := by decide +kernel
theorem dX5_passOneMinute_19 : decode cX5_passOneMinute 19 = .ok (.aload_n 3, 1) := by decide +kernel
theorem dX5_passOneMinute_20 : decode cX5_passOneMinute 20 = .ok (.invokevirtual 161, 3) := by decide +kernel
theorem dX5_passOneMinute_23 : decode cX5_passOneMinute 23 = .ok (.ifCond .ne 23, 3) := by decide +kernel
theorem dX5_passOneMinute_26 : decode cX5_passOneMinute 26 = .ok (.aload_n 0, 1) := by decide +kernel
theorem dX5_passOneMinute_27 : decode cX5_passOneMinute 27 = .ok (.aload_n 3, 1) := by decide +kernel
theorem dX5_passOneMinute_28 : decode cX5_passOneMinute 28 = .ok (.invokevirtual 198, 3) := by decide +kernel
theorem dX5_passOneMinute_31 : decode cX5_passOneMinute 31 = .ok (.iload_n 1, 1) := by decide +kernel
theorem dX5_passOneMinute_32 : decode cX5_passOneMinute 32 = .ok (.aload_n 3, 1) := by decide +kernel
theorem dX5_passOneMinute_33 : decode cX5_passOneMinute 33 = .ok (.invokevirtual 161, 3) := by decide +kernel
theorem dX5_passOneMinute_36 : decode cX5_passOneMinute 36 = .ok (.ifCond .eq 7, 3) := by decide +kernel
theorem dX5_passOneMinute_39 : decode cX5_passOneMinute 39 = .ok (.iconst 1, 1) := by decide +kernel
theorem dX5_passOneMinute_40 : decode cX5_passOneMinute 40 = .ok (.goto 4, 3) := by decide +kernel
theorem dX5_passOneMinute_43 : decode cX5_passOneMinute 43 = .ok (.iconst 0, 1) := by decide +kernel
theorem dX5_passOneMinute_44 : decode cX5_passOneMinute 44 = .ok (.iadd, 1) := by decide +kernel
theorem dX5_passOneMinute_45 : decode cX5_passOneMinute 45 = .ok (.istore_n 1, 1) := by decide +kernel
theorem dX5_passOneMinute_46 : decode cX5_passOneMinute 46 = .ok (.iinc 2 1, 3) := by decide +kernel
theorem dX5_passOneMinute_49 : decode cX5_passOneMinute 49 = .ok (.goto (-45), 3) := by decide +kernel
theorem dX5_passOneMinute_52 : decode cX5_passOneMinute 52 = .ok (.aload_n 0, 1) := by decide +kernel
theorem dX5_passOneMinute_53 : decode cX5_passOneMinute 53 = .ok (.dup, 1) := by decide +kernel
theorem dX5_passOneMinute_54 : decode cX5_passOneMinute 54 = .ok (.getfield 51, 3) := by decide +kernel
theorem dX5_passOneMinute_57 : decode cX5_passOneMinute 57 = .ok (.iconst 1, 1) := by decide +kernel
theorem dX5_passOneMinute_58 : decode cX5_passOneMinute 58 = .ok (.iadd, 1) := by decide +kernel
theorem dX5_passOneMinute_59 : decode cX5_passOneMinute 59 = .ok (.putfield 51, 3) := by decide +kernel
theorem dX5_passOneMinute_62 : decode cX5_passOneMinute 62 = .ok (.iconst 0, 1) := by decide +kernel
theorem dX5_passOneMinute_63 : decode cX5_passOneMinute 63 = .ok (.istore_n 2, 1) := by decide +kernel
theorem dX5_passOneMinute_64 : decode cX5_passOneMinute 64 = .ok (.iload_n 2, 1) := by decide +kernel
theorem dX5_passOneMinute_65 : decode cX5_passOneMinute 65 = .ok (.aload_n 0, 1) := by decide +kernel
theorem dX5_passOneMinute_66 : decode cX5_passOneMinute 66 = .ok (.getfield 12, 3) := by decide +kernel
theorem dX5_passOneMinute_69 : decode cX5_passOneMinute 69 = .ok (.getfield 96, 3) := by decide +kernel
theorem dX5_passOneMinute_72 : decode cX5_passOneMinute 72 = .ok (.if_icmp .ge 26, 3) := by decide +kernel
theorem dX5_passOneMinute_75 : decode cX5_passOneMinute 75 = .ok (.aload_n 0, 1) := by decide +kernel
theorem dX5_passOneMinute_76 : decode cX5_passOneMinute 76 = .ok (.getfield 27, 3) := by decide +kernel
theorem dX5_passOneMinute_79 : decode cX5_passOneMinute 79 = .ok (.iload_n 2, 1) := by decide +kernel
theorem dX5_passOneMinute_80 : decode cX5_passOneMinute 80 = .ok (.aaload, 1) := by decide +kernel
theorem dX5_passOneMinute_81 : decode cX5_passOneMinute 81 = .ok (.astore_n 3, 1) := by decide +kernel
theorem dX5_passOneMinute_82 : decode cX5_passOneMinute 82 = .ok (.aload_n 3, 1) := by decide +kernel
theorem dX5_passOneMinute_83 : decode cX5_passOneMinute 83 = .ok (.ifnull 9, 3) := by decide +kernel
theorem dX5_passOneMinute_86 : decode cX5_passOneMinute 86 = .ok (.aload_n 0, 1) := by decide +kernel
theorem dX5_passOneMinute_87 : decode cX5_passOneMinute 87 = .ok (.iload_n 2, 1) := by decide +kernel
theorem dX5_passOneMinute_88 : decode cX5_passOneMinute 88 = .ok (.aload_n 3, 1) := by decide +kernel
theorem dX5_passOneMinute_89 : decode cX5_passOneMinute 89 = .ok (.invokevirtual 81, 3) := by decide +kernel
theorem dX5_passOneMinute_92 : decode cX5_passOneMinute 92 = .ok (.iinc 2 1, 3) := by decide +kernel
theorem dX5_passOneMinute_95 : decode cX5_passOneMinute 95 = .ok (.goto (-31), 3) := by decide +kernel
theorem dX5_passOneMinute_98 : decode cX5_passOneMinute 98 = .ok (.iload_n 1, 1) := by decide +kernel
theorem dX5_passOneMinute_99 : decode cX5_passOneMinute 99 = .ok (.ireturn, 1) := by decide +kernel
set_option maxRecDepth 20000 in
theorem ggX5_moveOn_X4_nextNode : GoodIn wsX5_moveOn wsX4_nextNode := goodIn_r _ [6, 7, 8, 9, 10, 11, 12, 5, 13, 14, 15, 16, 17, 18, 19, 20, 21, 22, 23, 24, 25, 26, 27, 28, 29, 30, 31, 32, 33, 34, 35, 36, 37, 38, 39, 40, 41, 42, 43, 102, 103, 104, 105, 106, 107, 108, 109, 110, 111, 112] (by decide +kernel) (by decide +kernel)
set_option maxRecDepth 20000 in
theorem gX5_moveOn_X4_nextNode : GoodIn wsX5_moveOn (wsV RX5 203 RX4 yX4_nextNode wsX4_nextNode) := goodIn_app (goodIn_of _ (by decide +kernel)) ggX5_moveOn_X4_nextNode
set_option maxRecDepth 20000 in
theorem ggX5_moveOn_X5_isFull : GoodIn wsX5_moveOn wsX5_isFull := goodIn_r _ [48, 49, 50, 51, 52, 53, 47, 54, 55, 56, 93, 94, 95, 96, 97, 98, 99, 100, 101, 85, 86, 87, 88, 89, 90, 91, 92] (by decide +kernel) (by decide +kernel)
set_option maxRecDepth 20000 in
theorem gX5_moveOn_X5_isFull : GoodIn wsX5_moveOn (wsV RX5 206 RX5 yX5_isFull wsX5_isFull) := goodIn_app (goodIn_of _ (by decide +kernel)) ggX5_moveOn_X5_isFull
set_option maxRecDepth 20000 in
theorem ggX5_moveOn_X0_handTo : GoodIn wsX5_moveOn wsX0_handTo := goodIn_r _ [61, 62, 63, 64, 65, 66, 67, 68, 17, 69, 70, 71, 72, 73, 74, 75, 76, 77, 78, 79, 80, 81, 82, 83, 84, 85, 86, 87, 88, 89, 90, 91, 92] (by decide +kernel) (by decide +kernel)
set_option maxRecDepth 20000 in
theorem gX5_moveOn_X0_handTo : GoodIn wsX5_moveOn (wsV RX5 210 RX0 yX0_handTo wsX0_handTo) := goodIn_app (goodIn_of _ (by decide +kernel)) ggX5_moveOn_X0_handTo
theorem dX5_moveOn_0 : decode cX5_moveOn 0 = .ok (.aload_n 1, 1) := by decide +kernel
theorem dX5_moveOn_1 : decode cX5_moveOn 1 = .ok (.getfield 202, 3) := by decide +kernel
theorem dX5_moveOn_4 : decode cX5_moveOn 4 = .ok (.aload_n 1, 1) := by decide +kernel
theorem dX5_moveOn_5 : decode cX5_moveOn 5 = .ok (.getfield 158, 3) := by decide +kernel
theorem dX5_moveOn_8 : decode cX5_moveOn 8 = .ok (.aload_n 0, 1) := by decide +kernel
theorem dX5_moveOn_9 : decode cX5_moveOn 9 = .ok (.getfield 51, 3) := by decide +kernel
theorem dX5_moveOn_12 : decode cX5_moveOn 12 = .ok (.invokevirtual 203, 3) := by decide +kernel
theorem dX5_moveOn_15 : decode cX5_moveOn 15 = .ok (.istore_n 2, 1) := by decide +kernel
theorem dX5_moveOn_16 : decode cX5_moveOn 16 = .ok (.iload_n 2, 1) := by decide +kernel
theorem dX5_moveOn_17 : decode cX5_moveOn 17 = .ok (.iconst (-1), 1) := by decide +kernel
theorem dX5_moveOn_18 : decode cX5_moveOn 18 = .ok (.if_icmp .ne 4, 3) := by decide +kernel
theorem dX5_moveOn_21 : decode cX5_moveOn 21 = .ok (.return_, 1) := by decide +kernel
theorem dX5_moveOn_22 : decode cX5_moveOn 22 = .ok (.aload_n 0, 1) := by decide +kernel
theorem dX5_moveOn_23 : decode cX5_moveOn 23 = .ok (.iload_n 2, 1) := by decide +kernel
theorem dX5_moveOn_24 : decode cX5_moveOn 24 = .ok (.invokevirtual 206, 3) := by decide +kernel
theorem dX5_moveOn_27 : decode cX5_moveOn 27 = .ok (.ifCond .eq 16, 3) := by decide +kernel
theorem dX5_moveOn_30 : decode cX5_moveOn 30 = .ok (.aload_n 1, 1) := by decide +kernel
theorem dX5_moveOn_31 : decode cX5_moveOn 31 = .ok (.dup, 1) := by decide +kernel
theorem dX5_moveOn_32 : decode cX5_moveOn 32 = .ok (.getfield 186, 3) := by decide +kernel
theorem dX5_moveOn_35 : decode cX5_moveOn 35 = .ok (.iconst 1, 1) := by decide +kernel
theorem dX5_moveOn_36 : decode cX5_moveOn 36 = .ok (.iadd, 1) := by decide +kernel
theorem dX5_moveOn_37 : decode cX5_moveOn 37 = .ok (.putfield 186, 3) := by decide +kernel
theorem dX5_moveOn_40 : decode cX5_moveOn 40 = .ok (.goto 12, 3) := by decide +kernel
theorem dX5_moveOn_43 : decode cX5_moveOn 43 = .ok (.aload_n 1, 1) := by decide +kernel
theorem dX5_moveOn_44 : decode cX5_moveOn 44 = .ok (.iload_n 2, 1) := by decide +kernel
theorem dX5_moveOn_45 : decode cX5_moveOn 45 = .ok (.aload_n 0, 1) := by decide +kernel
theorem dX5_moveOn_46 : decode cX5_moveOn 46 = .ok (.getfield 51, 3) := by decide +kernel
theorem dX5_moveOn_49 : decode cX5_moveOn 49 = .ok (.invokevirtual 210, 3) := by decide +kernel
theorem dX5_moveOn_52 : decode cX5_moveOn 52 = .ok (.return_, 1) := by decide +kernel
set_option maxRecDepth 20000 in
theorem ggX5_isFull_X5_messagesAt : GoodIn wsX5_isFull wsX5_messagesAt := goodIn_r _ [7, 8, 9, 10, 11, 12, 13, 14, 15, 16, 17, 18, 19, 20, 21, 22, 23, 24, 25, 26] (by decide +kernel) (by decide +kernel)
set_option maxRecDepth 20000 in
theorem gX5_isFull_X5_messagesAt : GoodIn wsX5_isFull (wsV RX5 189 RX5 yX5_messagesAt wsX5_messagesAt) := goodIn_app (goodIn_of _ (by decide +kernel)) ggX5_isFull_X5_messagesAt
theorem dX5_isFull_0 : decode cX5_isFull 0 = .ok (.aload_n 0, 1) := by decide +kernel
theorem dX5_isFull_1 : decode cX5_isFull 1 = .ok (.getfield 27, 3) := by decide +kernel
theorem dX5_isFull_4 : decode cX5_isFull 4 = .ok (.iload_n 1, 1) := by decide +kernel
theorem dX5_isFull_5 : decode cX5_isFull 5 = .ok (.aaload, 1) := by decide +kernel
theorem dX5_isFull_6 : decode cX5_isFull 6 = .ok (.ifnonnull 21, 3) := by decide +kernel
theorem dX5_isFull_9 : decode cX5_isFull 9 = .ok (.aload_n 0, 1) := by decide +kernel
theorem dX5_isFull_10 : decode cX5_isFull 10 = .ok (.iload_n 1, 1) := by decide +kernel
theorem dX5_isFull_11 : decode cX5_isFull 11 = .ok (.invokevirtual 189, 3) := by decide +kernel
theorem dX5_isFull_14 : decode cX5_isFull 14 = .ok (.aload_n 0, 1) := by decide +kernel
theorem dX5_isFull_15 : decode cX5_isFull 15 = .ok (.getfield 31, 3) := by decide +kernel
theorem dX5_isFull_18 : decode cX5_isFull 18 = .ok (.iload_n 1, 1) := by decide +kernel
theorem dX5_isFull_19 : decode cX5_isFull 19 = .ok (.iaload, 1) := by decide +kernel
theorem dX5_isFull_20 : decode cX5_isFull 20 = .ok (.if_icmp .lt 7, 3) := by decide +kernel
theorem dX5_isFull_23 : decode cX5_isFull 23 = .ok (.iconst 1, 1) := by decide +kernel
theorem dX5_isFull_24 : decode cX5_isFull 24 = .ok (.goto 4, 3) := by decide +kernel
theorem dX5_isFull_27 : decode cX5_isFull 27 = .ok (.iconst 0, 1) := by decide +kernel
theorem dX5_isFull_28 : decode cX5_isFull 28 = .ok (.ireturn, 1) := by decide +kernel
theorem dX5_messagesAt_0 : decode cX5_messagesAt 0 = .ok (.iconst 0, 1) := by decide +kernel
theorem dX5_messagesAt_1 : decode cX5_messagesAt 1 = .ok (.istore_n 2, 1) := by decide +kernel
theorem dX5_messagesAt_2 : decode cX5_messagesAt 2 = .ok (.iconst 0, 1) := by decide +kernel
theorem dX5_messagesAt_3 : decode cX5_messagesAt 3 = .ok (.istore_n 3, 1) := by decide +kernel
theorem dX5_messagesAt_4 : decode cX5_messagesAt 4 = .ok (.iload_n 3, 1) := by decide +kernel
theorem dX5_messagesAt_5 : decode cX5_messagesAt 5 = .ok (.aload_n 0, 1) := by decide +kernel
theorem dX5_messagesAt_6 : decode cX5_messagesAt 6 = .ok (.getfield 48, 3) := by decide +kernel
theorem dX5_messagesAt_9 : decode cX5_messagesAt 9 = .ok (.if_icmp .ge 30, 3) := by decide +kernel
theorem dX5_messagesAt_12 : decode cX5_messagesAt 12 = .ok (.iload_n 2, 1) := by decide +kernel
theorem dX5_messagesAt_13 : decode cX5_messagesAt 13 = .ok (.aload_n 0, 1) := by decide +kernel
theorem dX5_messagesAt_14 : decode cX5_messagesAt 14 = .ok (.getfield 37, 3) := by decide +kernel
theorem dX5_messagesAt_17 : decode cX5_messagesAt 17 = .ok (.iload_n 3, 1) := by decide +kernel
theorem dX5_messagesAt_18 : decode cX5_messagesAt 18 = .ok (.aaload, 1) := by decide +kernel
theorem dX5_messagesAt_19 : decode cX5_messagesAt 19 = .ok (.getfield 158, 3) := by decide +kernel
theorem dX5_messagesAt_22 : decode cX5_messagesAt 22 = .ok (.iload_n 1, 1) := by decide +kernel
theorem dX5_messagesAt_23 : decode cX5_messagesAt 23 = .ok (.if_icmp .ne 7, 3) := by decide +kernel
theorem dX5_messagesAt_26 : decode cX5_messagesAt 26 = .ok (.iconst 1, 1) := by decide +kernel
theorem dX5_messagesAt_27 : decode cX5_messagesAt 27 = .ok (.goto 4, 3) := by decide +kernel
theorem dX5_messagesAt_30 : decode cX5_messagesAt 30 = .ok (.iconst 0, 1) := by decide +kernel
theorem dX5_messagesAt_31 : decode cX5_messagesAt 31 = .ok (.iadd, 1) := by decide +kernel
theorem dX5_messagesAt_32 : decode cX5_messagesAt 32 = .ok (.istore_n 2, 1) := by decide +kernel
theorem dX5_messagesAt_33 : decode cX5_messagesAt 33 = .ok (.iinc 3 1, 3) := by decide +kernel
theorem dX5_messagesAt_36 : decode cX5_messagesAt 36 = .ok (.goto (-32), 3) := by decide +kernel
theorem dX5_messagesAt_39 : decode cX5_messagesAt 39 = .ok (.iload_n 2, 1) := by decide +kernel
theorem dX5_messagesAt_40 : decode cX5_messagesAt 40 = .ok (.ireturn, 1) := by decide +kernel
set_option maxRecDepth 20000 in
theorem ggX5_lookForRelay_X2_inContact : GoodIn wsX5_lookForRelay wsX2_inContact := goodIn_r _ [7, 8, 9, 10, 6, 11, 12, 30, 31, 32, 33, 34] (by decide +kernel) (by decide +kernel)
set_option maxRecDepth 20000 in
theorem gX5_lookForRelay_X2_inContact : GoodIn wsX5_lookForRelay (wsV RX5 110 RX2 yX2_inContact wsX2_inContact) := goodIn_app (goodIn_of _ (by decide +kernel)) ggX5_lookForRelay_X2_inContact
set_option maxRecDepth 20000 in
theorem ggX5_lookForRelay_X2_contactLength : GoodIn wsX5_lookForRelay wsX2_contactLength := goodIn_r _ [16, 17, 4, 5, 6, 7, 8, 9, 10, 11, 12, 30, 31, 32, 33, 34] (by decide +kernel) (by decide +kernel)
set_option maxRecDepth 20000 in
theorem gX5_lookForRelay_X2_contactLength : GoodIn wsX5_lookForRelay (wsV RX5 116 RX2 yX2_contactLength wsX2_contactLength) := goodIn_app (goodIn_of _ (by decide +kernel)) ggX5_lookForRelay_X2_contactLength
theorem dX5_lookForRelay_0 : decode cX5_lookForRelay 0 = .ok (.aload_n 2, 1) := by decide +kernel
theorem dX5_lookForRelay_1 : decode cX5_lookForRelay 1 = .ok (.getfield 192, 3) := by decide +kernel
theorem dX5_lookForRelay_4 : decode cX5_lookForRelay 4 = .ok (.iconst (-1), 1) := by decide +kernel
theorem dX5_lookForRelay_5 : decode cX5_lookForRelay 5 = .ok (.if_icmp .eq 23, 3) := by decide +kernel
theorem dX5_lookForRelay_8 : decode cX5_lookForRelay 8 = .ok (.aload_n 0, 1) := by decide +kernel
theorem dX5_lookForRelay_9 : decode cX5_lookForRelay 9 = .ok (.getfield 12, 3) := by decide +kernel
theorem dX5_lookForRelay_12 : decode cX5_lookForRelay 12 = .ok (.iload_n 1, 1) := by decide +kernel
theorem dX5_lookForRelay_13 : decode cX5_lookForRelay 13 = .ok (.aload_n 2, 1) := by decide +kernel
theorem dX5_lookForRelay_14 : decode cX5_lookForRelay 14 = .ok (.getfield 192, 3) := by decide +kernel
theorem dX5_lookForRelay_17 : decode cX5_lookForRelay 17 = .ok (.aload_n 0, 1) := by decide +kernel
theorem dX5_lookForRelay_18 : decode cX5_lookForRelay 18 = .ok (.getfield 51, 3) := by decide +kernel
theorem dX5_lookForRelay_21 : decode cX5_lookForRelay 21 = .ok (.invokevirtual 110, 3) := by decide +kernel
theorem dX5_lookForRelay_24 : decode cX5_lookForRelay 24 = .ok (.ifCond .eq 4, 3) := by decide +kernel
theorem dX5_lookForRelay_27 : decode cX5_lookForRelay 27 = .ok (.return_, 1) := by decide +kernel
theorem dX5_lookForRelay_28 : decode cX5_lookForRelay 28 = .ok (.iconst (-1), 1) := by decide +kernel
theorem dX5_lookForRelay_29 : decode cX5_lookForRelay 29 = .ok (.istore_n 3, 1) := by decide +kernel
theorem dX5_lookForRelay_30 : decode cX5_lookForRelay 30 = .ok (.iconst 0, 1) := by decide +kernel
theorem dX5_lookForRelay_31 : decode cX5_lookForRelay 31 = .ok (.istore 4, 2) := by decide +kernel
theorem dX5_lookForRelay_33 : decode cX5_lookForRelay 33 = .ok (.iconst 0, 1) := by decide +kernel
theorem dX5_lookForRelay_34 : decode cX5_lookForRelay 34 = .ok (.istore 5, 2) := by decide +kernel
theorem dX5_lookForRelay_36 : decode cX5_lookForRelay 36 = .ok (.iload 5, 2) := by decide +kernel
theorem dX5_lookForRelay_38 : decode cX5_lookForRelay 38 = .ok (.aload_n 0, 1) := by decide +kernel
theorem dX5_lookForRelay_39 : decode cX5_lookForRelay 39 = .ok (.getfield 12, 3) := by decide +kernel
theorem dX5_lookForRelay_42 : decode cX5_lookForRelay 42 = .ok (.getfield 96, 3) := by decide +kernel
theorem dX5_lookForRelay_45 : decode cX5_lookForRelay 45 = .ok (.if_icmp .ge 39, 3) := by decide +kernel
theorem dX5_lookForRelay_48 : decode cX5_lookForRelay 48 = .ok (.aload_n 0, 1) := by decide +kernel
theorem dX5_lookForRelay_49 : decode cX5_lookForRelay 49 = .ok (.getfield 12, 3) := by decide +kernel
theorem dX5_lookForRelay_52 : decode cX5_lookForRelay 52 = .ok (.iload_n 1, 1) := by decide +kernel
theorem dX5_lookForRelay_53 : decode cX5_lookForRelay 53 = .ok (.iload 5, 2) := by decide +kernel
theorem dX5_lookForRelay_55 : decode cX5_lookForRelay 55 = .ok (.aload_n 0, 1) := by decide +kernel
theorem dX5_lookForRelay_56 : decode cX5_lookForRelay 56 = .ok (.getfield 51, 3) := by decide +kernel
theorem dX5_lookForRelay_59 : decode cX5_lookForRelay 59 = .ok (.invokevirtual 116, 3) := by decide +kernel
theorem dX5_lookForRelay_62 : decode cX5_lookForRelay 62 = .ok (.istore 6, 2) := by decide +kernel
theorem dX5_lookForRelay_64 : decode cX5_lookForRelay 64 = .ok (.iload 6, 2) := by decide +kernel
theorem dX5_lookForRelay_66 : decode cX5_lookForRelay 66 = .ok (.iload 4, 2) := by decide +kernel
theorem dX5_lookForRelay_68 : decode cX5_lookForRelay 68 = .ok (.if_icmp .le 10, 3) := by decide +kernel
theorem dX5_lookForRelay_71 : decode cX5_lookForRelay 71 = .ok (.iload 6, 2) := by decide +kernel
theorem dX5_lookForRelay_73 : decode cX5_lookForRelay 73 = .ok (.istore 4, 2) := by decide +kernel
theorem dX5_lookForRelay_75 : decode cX5_lookForRelay 75 = .ok (.iload 5, 2) := by decide +kernel
theorem dX5_lookForRelay_77 : decode cX5_lookForRelay 77 = .ok (.istore_n 3, 1) := by decide +kernel
theorem dX5_lookForRelay_78 : decode cX5_lookForRelay 78 = .ok (.iinc 5 1, 3) := by decide +kernel
theorem dX5_lookForRelay_81 : decode cX5_lookForRelay 81 = .ok (.goto (-45), 3) := by decide +kernel
theorem dX5_lookForRelay_84 : decode cX5_lookForRelay 84 = .ok (.iload_n 3, 1) := by decide +kernel
theorem dX5_lookForRelay_85 : decode cX5_lookForRelay 85 = .ok (.iconst (-1), 1) := by decide +kernel
theorem dX5_lookForRelay_86 : decode cX5_lookForRelay 86 = .ok (.if_icmp .eq 21, 3) := by decide +kernel
theorem dX5_lookForRelay_89 : decode cX5_lookForRelay 89 = .ok (.aload_n 2, 1) := by decide +kernel
theorem dX5_lookForRelay_90 : decode cX5_lookForRelay 90 = .ok (.getfield 192, 3) := by decide +kernel
theorem dX5_lookForRelay_93 : decode cX5_lookForRelay 93 = .ok (.iconst (-1), 1) := by decide +kernel
theorem dX5_lookForRelay_94 : decode cX5_lookForRelay 94 = .ok (.if_icmp .eq 13, 3) := by decide +kernel
theorem dX5_lookForRelay_97 : decode cX5_lookForRelay 97 = .ok (.aload_n 2, 1) := by decide +kernel
theorem dX5_lookForRelay_98 : decode cX5_lookForRelay 98 = .ok (.dup, 1) := by decide +kernel
theorem dX5_lookForRelay_99 : decode cX5_lookForRelay 99 = .ok (.getfield 195, 3) := by decide +kernel
theorem dX5_lookForRelay_102 : decode cX5_lookForRelay 102 = .ok (.iconst 1, 1) := by decide +kernel
theorem dX5_lookForRelay_103 : decode cX5_lookForRelay 103 = .ok (.iadd, 1) := by decide +kernel
theorem dX5_lookForRelay_104 : decode cX5_lookForRelay 104 = .ok (.putfield 195, 3) := by decide +kernel
theorem dX5_lookForRelay_107 : decode cX5_lookForRelay 107 = .ok (.aload_n 2, 1) := by decide +kernel
theorem dX5_lookForRelay_108 : decode cX5_lookForRelay 108 = .ok (.iload_n 3, 1) := by decide +kernel
theorem dX5_lookForRelay_109 : decode cX5_lookForRelay 109 = .ok (.putfield 192, 3) := by decide +kernel
theorem dX5_lookForRelay_112 : decode cX5_lookForRelay 112 = .ok (.return_, 1) := by decide +kernel
theorem dX5_inRange_0 : decode cX5_inRange 0 = .ok (.iload_n 0, 1) := by decide +kernel
theorem dX5_inRange_1 : decode cX5_inRange 1 = .ok (.iload_n 1, 1) := by decide +kernel
theorem dX5_inRange_2 : decode cX5_inRange 2 = .ok (.if_icmp .lt 12, 3) := by decide +kernel
theorem dX5_inRange_5 : decode cX5_inRange 5 = .ok (.iload_n 0, 1) := by decide +kernel
theorem dX5_inRange_6 : decode cX5_inRange 6 = .ok (.iload_n 2, 1) := by decide +kernel
theorem dX5_inRange_7 : decode cX5_inRange 7 = .ok (.if_icmp .gt 7, 3) := by decide +kernel
theorem dX5_inRange_10 : decode cX5_inRange 10 = .ok (.iconst 1, 1) := by decide +kernel
theorem dX5_inRange_11 : decode cX5_inRange 11 = .ok (.goto 4, 3) := by decide +kernel
theorem dX5_inRange_14 : decode cX5_inRange 14 = .ok (.iconst 0, 1) := by decide +kernel
theorem dX5_inRange_15 : decode cX5_inRange 15 = .ok (.ireturn, 1) := by decide +kernel
theorem dX5_requireArgument_0 : decode cX5_requireArgument 0 = .ok (.iload_n 0, 1) := by decide +kernel
theorem dX5_requireArgument_1 : decode cX5_requireArgument 1 = .ok (.ifCond .ne 13, 3) := by decide +kernel
theorem dX5_requireArgument_4 : decode cX5_requireArgument 4 = .ok (.new 214, 3) := by decide +kernel
theorem dX5_requireArgument_7 : decode cX5_requireArgument 7 = .ok (.dup, 1) := by decide +kernel
theorem dX5_requireArgument_8 : decode cX5_requireArgument 8 = .ok (.ldc 216, 2) := by decide +kernel
theorem dX5_requireArgument_10 : decode cX5_requireArgument 10 = .ok (.invokespecial 218, 3) := by decide +kernel
theorem dX5_requireArgument_13 : decode cX5_requireArgument 13 = .ok (.athrow, 1) := by decide +kernel
theorem dX5_requireArgument_14 : decode cX5_requireArgument 14 = .ok (.return_, 1) := by decide +kernel
set_option maxRecDepth 20000 in
theorem ggX5_requireMinute_X5_inRange : GoodIn wsX5_requireMinute wsX5_inRange := goodIn_r _ [5] (by decide +kernel) (by decide +kernel)
set_option maxRecDepth 20000 in
theorem gX5_requireMinute_X5_inRange : GoodIn wsX5_requireMinute (va_wsS RX5 54 yX5_inRange wsX5_inRange) := goodIn_app (goodIn_of _ (by decide +kernel)) ggX5_requireMinute_X5_inRange
set_option maxRecDepth 20000 in
theorem ggX5_requireMinute_X5_requireArgument : GoodIn wsX5_requireMinute wsX5_requireArgument := goodIn_ca (goodIn_r _ [8, 9, 10] (by decide +kernel) (by decide +kernel)) (goodIn_sub (fun _ h => List.mem_cons_of_mem _ (List.mem_append_right _ h)) (by decide +kernel))
set_option maxRecDepth 20000 in
theorem gX5_requireMinute_X5_requireArgument : GoodIn wsX5_requireMinute (va_wsS RX5 58 yX5_requireArgument wsX5_requireArgument) := goodIn_app (goodIn_of _ (by decide +kernel)) ggX5_requireMinute_X5_requireArgument
theorem dX5_requireMinute_0 : decode cX5_requireMinute 0 = .ok (.iload_n 0, 1) := by decide +kernel
theorem dX5_requireMinute_1 : decode cX5_requireMinute 1 = .ok (.iconst 0, 1) := by decide +kernel
theorem dX5_requireMinute_2 : decode cX5_requireMinute 2 = .ok (.ldc 147, 2) := by decide +kernel
theorem dX5_requireMinute_4 : decode cX5_requireMinute 4 = .ok (.invokestatic 54, 3) := by decide +kernel
theorem dX5_requireMinute_7 : decode cX5_requireMinute 7 = .ok (.invokestatic 58, 3) := by decide +kernel
theorem dX5_requireMinute_10 : decode cX5_requireMinute 10 = .ok (.return_, 1) := by decide +kernel
set_option maxRecDepth 20000 in
theorem ggX5_requireNode_X5_inRange : GoodIn wsX5_requireNode wsX5_inRange := goodIn_r _ [7] (by decide +kernel) (by decide +kernel)
set_option maxRecDepth 20000 in
theorem gX5_requireNode_X5_inRange : GoodIn wsX5_requireNode (va_wsS RX5 54 yX5_inRange wsX5_inRange) := goodIn_app (goodIn_of _ (by decide +kernel)) ggX5_requireNode_X5_inRange
theorem dX5_requireNode_0 : decode cX5_requireNode 0 = .ok (.iload_n 1, 1) := by decide +kernel
theorem dX5_requireNode_1 : decode cX5_requireNode 1 = .ok (.iconst 0, 1) := by decide +kernel
theorem dX5_requireNode_2 : decode cX5_requireNode 2 = .ok (.aload_n 0, 1) := by decide +kernel
theorem dX5_requireNode_3 : decode cX5_requireNode 3 = .ok (.getfield 12, 3) := by decide +kernel
theorem dX5_requireNode_6 : decode cX5_requireNode 6 = .ok (.getfield 96, 3) := by decide +kernel
theorem dX5_requireNode_9 : decode cX5_requireNode 9 = .ok (.iconst 1, 1) := by decide +kernel
theorem dX5_requireNode_10 : decode cX5_requireNode 10 = .ok (.isub, 1) := by decide +kernel
theorem dX5_requireNode_11 : decode cX5_requireNode 11 = .ok (.invokestatic 54, 3) := by decide +kernel
theorem dX5_requireNode_14 : decode cX5_requireNode 14 = .ok (.ifCond .ne 13, 3) := by decide +kernel
theorem dX5_requireNode_17 : decode cX5_requireNode 17 = .ok (.new 91, 3) := by decide +kernel
theorem dX5_requireNode_20 : decode cX5_requireNode 20 = .ok (.dup, 1) := by decide +kernel
theorem dX5_requireNode_21 : decode cX5_requireNode 21 = .ok (.ldc 219, 2) := by decide +kernel
theorem dX5_requireNode_23 : decode cX5_requireNode 23 = .ok (.invokespecial 95, 3) := by decide +kernel
theorem dX5_requireNode_26 : decode cX5_requireNode 26 = .ok (.athrow, 1) := by decide +kernel
theorem dX5_requireNode_27 : decode cX5_requireNode 27 = .ok (.return_, 1) := by decide +kernel
set_option maxRecDepth 20000 in
theorem ggX5_requireTwoNodesAndMinute_X5_requireNode : GoodIn wsX5_requireTwoNodesAndMinute wsX5_requireNode := goodIn_ca (goodIn_r _ [5, 6, 7, 8, 9, 10, 4, 11, 21, 22, 23, 24, 25, 26, 27, 28, 29, 30, 31, 32, 33, 34] (by decide +kernel) (by decide +kernel)) (goodIn_sub (fun _ h => List.mem_cons_of_mem _ (List.mem_append_left _ (List.mem_append_right _ h))) (by decide +kernel))
set_option maxRecDepth 20000 in
theorem gX5_requireTwoNodesAndMinute_X5_requireNode : GoodIn wsX5_requireTwoNodesAndMinute (wsV RX5 87 RX5 yX5_requireNode wsX5_requireNode) := goodIn_app (goodIn_of _ (by decide +kernel)) ggX5_requireTwoNodesAndMinute_X5_requireNode
set_option maxRecDepth 20000 in
theorem ggX5_requireTwoNodesAndMinute_X5_requireMinute : GoodIn wsX5_requireTwoNodesAndMinute wsX5_requireMinute := goodIn_ca (goodIn_r _ [14, 15, 9, 10, 4, 11, 16, 17, 18, 19, 20] (by decide +kernel) (by decide +kernel)) (goodIn_sub (fun _ h => List.mem_cons_of_mem _ (List.mem_append_right _ h)) (by decide +kernel))
set_option maxRecDepth 20000 in
theorem gX5_requireTwoNodesAndMinute_X5_requireMinute : GoodIn wsX5_requireTwoNodesAndMinute (va_wsS RX5 99 yX5_requireMinute wsX5_requireMinute) := goodIn_app (goodIn_of _ (by decide +kernel)) ggX5_requireTwoNodesAndMinute_X5_requireMinute
theorem dX5_requireTwoNodesAndMinute_0 : decode cX5_requireTwoNodesAndMinute 0 = .ok (.aload_n 0, 1) := by decide +kernel
theorem dX5_requireTwoNodesAndMinute_1 : decode cX5_requireTwoNodesAndMinute 1 = .ok (.iload_n 1, 1) := by decide +kernel
theorem dX5_requireTwoNodesAndMinute_2 : decode cX5_requireTwoNodesAndMinute 2 = .ok (.invokevirtual 87, 3) := by decide +kernel
theorem dX5_requireTwoNodesAndMinute_5 : decode cX5_requireTwoNodesAndMinute 5 = .ok (.aload_n 0, 1) := by decide +kernel
theorem dX5_requireTwoNodesAndMinute_6 : decode cX5_requireTwoNodesAndMinute 6 = .ok (.iload_n 2, 1) := by decide +kernel
theorem dX5_requireTwoNodesAndMinute_7 : decode cX5_requireTwoNodesAndMinute 7 = .ok (.invokevirtual 87, 3) := by decide +kernel
theorem dX5_requireTwoNodesAndMinute_10 : decode cX5_requireTwoNodesAndMinute 10 = .ok (.iload_n 3, 1) := by decide +kernel
theorem dX5_requireTwoNodesAndMinute_11 : decode cX5_requireTwoNodesAndMinute 11 = .ok (.invokestatic 99, 3) := by decide +kernel
theorem dX5_requireTwoNodesAndMinute_14 : decode cX5_requireTwoNodesAndMinute 14 = .ok (.return_, 1) := by decide +kernel
set_option maxRecDepth 20000 in
theorem ggX5_requireStation_X5_requireNode : GoodIn wsX5_requireStation wsX5_requireNode := goodIn_ca (goodIn_r _ [8, 1, 2, 9, 10, 11, 7, 12, 13, 14, 15, 16, 17, 18, 19, 20, 21, 22, 23, 24, 25, 26] (by decide +kernel) (by decide +kernel)) (goodIn_sub (fun _ h => List.mem_cons_of_mem _ (List.mem_append_right _ h)) (by decide +kernel))
set_option maxRecDepth 20000 in
theorem gX5_requireStation_X5_requireNode : GoodIn wsX5_requireStation (wsV RX5 87 RX5 yX5_requireNode wsX5_requireNode) := goodIn_app (goodIn_of _ (by decide +kernel)) ggX5_requireStation_X5_requireNode
theorem dX5_requireStation_0 : decode cX5_requireStation 0 = .ok (.aload_n 0, 1) := by decide +kernel
theorem dX5_requireStation_1 : decode cX5_requireStation 1 = .ok (.iload_n 1, 1) := by decide +kernel
theorem dX5_requireStation_2 : decode cX5_requireStation 2 = .ok (.invokevirtual 87, 3) := by decide +kernel
theorem dX5_requireStation_5 : decode cX5_requireStation 5 = .ok (.aload_n 0, 1) := by decide +kernel
theorem dX5_requireStation_6 : decode cX5_requireStation 6 = .ok (.getfield 27, 3) := by decide +kernel
theorem dX5_requireStation_9 : decode cX5_requireStation 9 = .ok (.iload_n 1, 1) := by decide +kernel
theorem dX5_requireStation_10 : decode cX5_requireStation 10 = .ok (.aaload, 1) := by decide +kernel
theorem dX5_requireStation_11 : decode cX5_requireStation 11 = .ok (.astore_n 2, 1) := by decide +kernel
theorem dX5_requireStation_12 : decode cX5_requireStation 12 = .ok (.aload_n 2, 1) := by decide +kernel
theorem dX5_requireStation_13 : decode cX5_requireStation 13 = .ok (.ifnonnull 13, 3) := by decide +kernel
theorem dX5_requireStation_16 : decode cX5_requireStation 16 = .ok (.new 91, 3) := by decide +kernel
theorem dX5_requireStation_19 : decode cX5_requireStation 19 = .ok (.dup, 1) := by decide +kernel
theorem dX5_requireStation_20 : decode cX5_requireStation 20 = .ok (.ldc 221, 2) := by decide +kernel
theorem dX5_requireStation_22 : decode cX5_requireStation 22 = .ok (.invokespecial 95, 3) := by decide +kernel
theorem dX5_requireStation_25 : decode cX5_requireStation 25 = .ok (.athrow, 1) := by decide +kernel
theorem dX5_requireStation_26 : decode cX5_requireStation 26 = .ok (.aload_n 2, 1) := by decide +kernel
theorem dX5_requireStation_27 : decode cX5_requireStation 27 = .ok (.areturn, 1) := by decide +kernel
set_option maxRecDepth 20000 in
theorem ggX5_requireMessage_X5_inRange : GoodIn wsX5_requireMessage wsX5_inRange := goodIn_r _ [8] (by decide +kernel) (by decide +kernel)
set_option maxRecDepth 20000 in
theorem gX5_requireMessage_X5_inRange : GoodIn wsX5_requireMessage (va_wsS RX5 54 yX5_inRange wsX5_inRange) := goodIn_app (goodIn_of _ (by decide +kernel)) ggX5_requireMessage_X5_inRange
theorem dX5_requireMessage_0 : decode cX5_requireMessage 0 = .ok (.iload_n 1, 1) := by decide +kernel
theorem dX5_requireMessage_1 : decode cX5_requireMessage 1 = .ok (.iconst 0, 1) := by decide +kernel
theorem dX5_requireMessage_2 : decode cX5_requireMessage 2 = .ok (.aload_n 0, 1) := by decide +kernel
theorem dX5_requireMessage_3 : decode cX5_requireMessage 3 = .ok (.getfield 48, 3) := by decide +kernel
theorem dX5_requireMessage_6 : decode cX5_requireMessage 6 = .ok (.iconst 1, 1) := by decide +kernel
theorem dX5_requireMessage_7 : decode cX5_requireMessage 7 = .ok (.isub, 1) := by decide +kernel
theorem dX5_requireMessage_8 : decode cX5_requireMessage 8 = .ok (.invokestatic 54, 3) := by decide +kernel
theorem dX5_requireMessage_11 : decode cX5_requireMessage 11 = .ok (.ifCond .ne 13, 3) := by decide +kernel
theorem dX5_requireMessage_14 : decode cX5_requireMessage 14 = .ok (.new 91, 3) := by decide +kernel
theorem dX5_requireMessage_17 : decode cX5_requireMessage 17 = .ok (.dup, 1) := by decide +kernel
theorem dX5_requireMessage_18 : decode cX5_requireMessage 18 = .ok (.ldc 223, 2) := by decide +kernel
theorem dX5_requireMessage_20 : decode cX5_requireMessage 20 = .ok (.invokespecial 95, 3) := by decide +kernel
theorem dX5_requireMessage_23 : decode cX5_requireMessage 23 = .ok (.athrow, 1) := by decide +kernel
theorem dX5_requireMessage_24 : decode cX5_requireMessage 24 = .ok (.aload_n 0, 1) := by decide +kernel
theorem dX5_requireMessage_25 : decode cX5_requireMessage 25 = .ok (.getfield 37, 3) := by decide +kernel
theorem dX5_requireMessage_28 : decode cX5_requireMessage 28 = .ok (.iload_n 1, 1) := by decide +kernel
theorem dX5_requireMessage_29 : decode cX5_requireMessage 29 = .ok (.aaload, 1) := by decide +kernel
theorem dX5_requireMessage_30 : decode cX5_requireMessage 30 = .ok (.areturn, 1) := by decide +kernel
set_option maxRecDepth 20000 in
theorem ggX5_requireHop_X5_inRange : GoodIn wsX5_requireHop wsX5_inRange := goodIn_r _ [6] (by decide +kernel) (by decide +kernel)
set_option maxRecDepth 20000 in
theorem gX5_requireHop_X5_inRange : GoodIn wsX5_requireHop (va_wsS RX5 54 yX5_inRange wsX5_inRange) := goodIn_app (goodIn_of _ (by decide +kernel)) ggX5_requireHop_X5_inRange
theorem dX5_requireHop_0 : decode cX5_requireHop 0 = .ok (.iload_n 1, 1) := by decide +kernel
theorem dX5_requireHop_1 : decode cX5_requireHop 1 = .ok (.iconst 0, 1) := by decide +kernel
theorem dX5_requireHop_2 : decode cX5_requireHop 2 = .ok (.aload_n 0, 1) := by decide +kernel
theorem dX5_requireHop_3 : decode cX5_requireHop 3 = .ok (.getfield 173, 3) := by decide +kernel
theorem dX5_requireHop_6 : decode cX5_requireHop 6 = .ok (.iconst 1, 1) := by decide +kernel
theorem dX5_requireHop_7 : decode cX5_requireHop 7 = .ok (.isub, 1) := by decide +kernel
theorem dX5_requireHop_8 : decode cX5_requireHop 8 = .ok (.invokestatic 54, 3) := by decide +kernel
theorem dX5_requireHop_11 : decode cX5_requireHop 11 = .ok (.ifCond .ne 13, 3) := by decide +kernel
theorem dX5_requireHop_14 : decode cX5_requireHop 14 = .ok (.new 91, 3) := by decide +kernel
theorem dX5_requireHop_17 : decode cX5_requireHop 17 = .ok (.dup, 1) := by decide +kernel
theorem dX5_requireHop_18 : decode cX5_requireHop 18 = .ok (.ldc 225, 2) := by decide +kernel
theorem dX5_requireHop_20 : decode cX5_requireHop 20 = .ok (.invokespecial 95, 3) := by decide +kernel
theorem dX5_requireHop_23 : decode cX5_requireHop 23 = .ok (.athrow, 1) := by decide +kernel
theorem dX5_requireHop_24 : decode cX5_requireHop 24 = .ok (.return_, 1) := by decide +kernel
