set_option maxRecDepth 20000 in
theorem ggX4_init_X3_init : GoodIn wsX4_init wsX3_init := goodIn_r _ [21, 22, 2, 3, 23, 24, 25, 26, 27, 28, 29, 30, 31, 32, 33, 34, 35, 36, 37, 38, 39, 40, 41, 42, 43, 55, 56, 57, 58, 59, 60, 61, 62, 63, 64, 65, 66] (by decide +kernel) (by decide +kernel)
set_option maxRecDepth 20000 in
theorem gX4_init_X3_init : GoodIn wsX4_init (wsX3_init) := ggX4_init_X3_init
set_option maxRecDepth 20000 in
theorem ggX4_init_X0_init : GoodIn wsX4_init wsX0_init := goodIn_r _ [46, 47, 2, 3, 48, 49, 5, 6, 50, 20, 21, 22, 23, 24, 25, 26, 27, 28, 29, 30, 31, 32, 33, 34, 35, 36, 37, 38, 39, 40, 41, 42, 43, 72, 73, 74, 55, 56, 57, 58, 59, 60, 61, 62, 63, 64, 65, 66] (by decide +kernel) (by decide +kernel)
set_option maxRecDepth 20000 in
theorem gX4_init_X0_init : GoodIn wsX4_init (wsX0_init) := ggX4_init_X0_init
set_option maxRecDepth 20000 in
theorem ggX4_init_X1_init : GoodIn wsX4_init wsX1_init := goodIn_r _ [52, 53, 2, 3, 23, 54, 75, 76] (by decide +kernel) (by decide +kernel)
set_option maxRecDepth 20000 in
theorem gX4_init_X1_init_n25 : GoodIn wsX4_init (wsX1_init) := ggX4_init_X1_init
theorem dX4_init_0 : decode cX4_init 0 = .ok (.aload_n 0, 1) := by decide +kernel
theorem dX4_init_1 : decode cX4_init 1 = .ok (.invokespecial 3, 3) := by decide +kernel
theorem dX4_init_4 : decode cX4_init 4 = .ok (.aload_n 0, 1) := by decide +kernel
theorem dX4_init_5 : decode cX4_init 5 = .ok (.new 9, 3) := by decide +kernel
theorem dX4_init_8 : decode cX4_init 8 = .ok (.dup, 1) := by decide +kernel
theorem dX4_init_9 : decode cX4_init 9 = .ok (.invokespecial 11, 3) := by decide +kernel
theorem dX4_init_12 : decode cX4_init 12 = .ok (.putfield 12, 3) := by decide +kernel
theorem dX4_init_15 : decode cX4_init 15 = .ok (.aload_n 0, 1) := by decide +kernel
theorem dX4_init_16 : decode cX4_init 16 = .ok (.new 16, 3) := by decide +kernel
theorem dX4_init_19 : decode cX4_init 19 = .ok (.dup, 1) := by decide +kernel
theorem dX4_init_20 : decode cX4_init 20 = .ok (.invokespecial 18, 3) := by decide +kernel
theorem dX4_init_23 : decode cX4_init 23 = .ok (.putfield 19, 3) := by decide +kernel
theorem dX4_init_26 : decode cX4_init 26 = .ok (.aload_n 0, 1) := by decide +kernel
theorem dX4_init_27 : decode cX4_init 27 = .ok (.new 23, 3) := by decide +kernel
theorem dX4_init_30 : decode cX4_init 30 = .ok (.dup, 1) := by decide +kernel
theorem dX4_init_31 : decode cX4_init 31 = .ok (.invokespecial 25, 3) := by decide +kernel
theorem dX4_init_34 : decode cX4_init 34 = .ok (.putfield 26, 3) := by decide +kernel
theorem dX4_init_37 : decode cX4_init 37 = .ok (.aload_n 0, 1) := by decide +kernel
theorem dX4_init_38 : decode cX4_init 38 = .ok (.iconst 2, 1) := by decide +kernel
theorem dX4_init_39 : decode cX4_init 39 = .ok (.anewarray 9, 3) := by decide +kernel
theorem dX4_init_42 : decode cX4_init 42 = .ok (.putfield 30, 3) := by decide +kernel
theorem dX4_init_45 : decode cX4_init 45 = .ok (.aload_n 0, 1) := by decide +kernel
theorem dX4_init_46 : decode cX4_init 46 = .ok (.iconst 2, 1) := by decide +kernel
theorem dX4_init_47 : decode cX4_init 47 = .ok (.newarray .boolean, 2) := by decide +kernel
theorem dX4_init_49 : decode cX4_init 49 = .ok (.putfield 34, 3) := by decide +kernel
theorem dX4_init_52 : decode cX4_init 52 = .ok (.iconst 0, 1) := by decide +kernel
theorem dX4_init_53 : decode cX4_init 53 = .ok (.istore_n 1, 1) := by decide +kernel
theorem dX4_init_54 : decode cX4_init 54 = .ok (.iload_n 1, 1) := by decide +kernel
theorem dX4_init_55 : decode cX4_init 55 = .ok (.iconst 2, 1) := by decide +kernel
theorem dX4_init_56 : decode cX4_init 56 = .ok (.if_icmp .ge 22, 3) := by decide +kernel
theorem dX4_init_59 : decode cX4_init 59 = .ok (.aload_n 0, 1) := by decide +kernel
theorem dX4_init_60 : decode cX4_init 60 = .ok (.getfield 30, 3) := by decide +kernel
theorem dX4_init_63 : decode cX4_init 63 = .ok (.iload_n 1, 1) := by decide +kernel
theorem dX4_init_64 : decode cX4_init 64 = .ok (.new 9, 3) := by decide +kernel
theorem dX4_init_67 : decode cX4_init 67 = .ok (.dup, 1) := by decide +kernel
theorem dX4_init_68 : decode cX4_init 68 = .ok (.invokespecial 11, 3) := by decide +kernel
theorem dX4_init_71 : decode cX4_init 71 = .ok (.aastore, 1) := by decide +kernel
theorem dX4_init_72 : decode cX4_init 72 = .ok (.iinc 1 1, 3) := by decide +kernel
theorem dX4_init_75 : decode cX4_init 75 = .ok (.goto (-21), 3) := by decide +kernel
theorem dX4_init_78 : decode cX4_init 78 = .ok (.return_, 1) := by decide +kernel
set_option maxRecDepth 20000 in
theorem ggX4_set_X0_record : GoodIn wsX4_set wsX0_record := goodIn_r _ [10, 11, 12, 13, 14, 15, 16, 17, 18, 19, 20, 21, 22, 23, 24, 25, 26, 27, 28, 29, 30, 31, 32, 33, 34, 35, 36, 37, 55, 56, 57, 43, 44, 45, 46, 47, 48, 49, 50, 51, 52, 53, 54] (by decide +kernel) (by decide +kernel)
set_option maxRecDepth 20000 in
theorem gX4_set_X0_record : GoodIn wsX4_set (wsV RX4 45 RX0 yX0_record wsX0_record) := goodIn_app (goodIn_of _ (by decide +kernel)) ggX4_set_X0_record
theorem dX4_set_0 : decode cX4_set 0 = .ok (.iload_n 1, 1) := by decide +kernel
theorem dX4_set_1 : decode cX4_set 1 = .ok (.ifCond .lt 26, 3) := by decide +kernel
theorem dX4_set_4 : decode cX4_set 4 = .ok (.iload_n 1, 1) := by decide +kernel
theorem dX4_set_5 : decode cX4_set 5 = .ok (.iconst 4, 1) := by decide +kernel
theorem dX4_set_6 : decode cX4_set 6 = .ok (.if_icmp .ge 21, 3) := by decide +kernel
theorem dX4_set_9 : decode cX4_set 9 = .ok (.iload_n 2, 1) := by decide +kernel
theorem dX4_set_10 : decode cX4_set 10 = .ok (.getstatic 38, 3) := by decide +kernel
theorem dX4_set_13 : decode cX4_set 13 = .ok (.iload_n 1, 1) := by decide +kernel
theorem dX4_set_14 : decode cX4_set 14 = .ok (.iaload, 1) := by decide +kernel
theorem dX4_set_15 : decode cX4_set 15 = .ok (.if_icmp .lt 12, 3) := by decide +kernel
theorem dX4_set_18 : decode cX4_set 18 = .ok (.iload_n 2, 1) := by decide +kernel
theorem dX4_set_19 : decode cX4_set 19 = .ok (.getstatic 42, 3) := by decide +kernel
theorem dX4_set_22 : decode cX4_set 22 = .ok (.iload_n 1, 1) := by decide +kernel
theorem dX4_set_23 : decode cX4_set 23 = .ok (.iaload, 1) := by decide +kernel
theorem dX4_set_24 : decode cX4_set 24 = .ok (.if_icmp .le 6, 3) := by decide +kernel
theorem dX4_set_27 : decode cX4_set 27 = .ok (.bipush (-2), 2) := by decide +kernel
theorem dX4_set_29 : decode cX4_set 29 = .ok (.ireturn, 1) := by decide +kernel
theorem dX4_set_30 : decode cX4_set 30 = .ok (.aload_n 0, 1) := by decide +kernel
theorem dX4_set_31 : decode cX4_set 31 = .ok (.getfield 19, 3) := by decide +kernel
theorem dX4_set_34 : decode cX4_set 34 = .ok (.aload_n 0, 1) := by decide +kernel
theorem dX4_set_35 : decode cX4_set 35 = .ok (.getfield 12, 3) := by decide +kernel
theorem dX4_set_38 : decode cX4_set 38 = .ok (.invokevirtual 45, 3) := by decide +kernel
theorem dX4_set_41 : decode cX4_set 41 = .ok (.aload_n 0, 1) := by decide +kernel
theorem dX4_set_42 : decode cX4_set 42 = .ok (.getfield 12, 3) := by decide +kernel
theorem dX4_set_45 : decode cX4_set 45 = .ok (.getfield 49, 3) := by decide +kernel
theorem dX4_set_48 : decode cX4_set 48 = .ok (.iload_n 1, 1) := by decide +kernel
theorem dX4_set_49 : decode cX4_set 49 = .ok (.iaload, 1) := by decide +kernel
theorem dX4_set_50 : decode cX4_set 50 = .ok (.istore_n 3, 1) := by decide +kernel
theorem dX4_set_51 : decode cX4_set 51 = .ok (.aload_n 0, 1) := by decide +kernel
theorem dX4_set_52 : decode cX4_set 52 = .ok (.getfield 12, 3) := by decide +kernel
theorem dX4_set_55 : decode cX4_set 55 = .ok (.getfield 49, 3) := by decide +kernel
theorem dX4_set_58 : decode cX4_set 58 = .ok (.iload_n 1, 1) := by decide +kernel
theorem dX4_set_59 : decode cX4_set 59 = .ok (.iload_n 2, 1) := by decide +kernel
theorem dX4_set_60 : decode cX4_set 60 = .ok (.iastore, 1) := by decide +kernel
theorem dX4_set_61 : decode cX4_set 61 = .ok (.iload_n 3, 1) := by decide +kernel
theorem dX4_set_62 : decode cX4_set 62 = .ok (.ireturn, 1) := by decide +kernel
set_option maxRecDepth 20000 in
theorem ggX4_team_X3_openRounds : GoodIn wsX4_team wsX3_openRounds := goodIn_r _ [10, 11, 12, 13, 9, 14, 15, 16, 52, 53, 54, 55, 56, 57, 58, 59, 60, 61, 62, 63] (by decide +kernel) (by decide +kernel)
set_option maxRecDepth 20000 in
theorem gX4_team_X3_openRounds : GoodIn wsX4_team (wsV RX4 56 RX3 yX3_openRounds wsX3_openRounds) := goodIn_app (goodIn_of _ (by decide +kernel)) ggX4_team_X3_openRounds
set_option maxRecDepth 20000 in
theorem ggX4_team_X0_record : GoodIn wsX4_team wsX0_record := goodIn_r _ [21, 22, 23, 24, 25, 26, 27, 28, 29, 30, 9, 31, 32, 33, 34, 35, 36, 37, 38, 39, 40, 15, 41, 42, 43, 44, 45, 46, 64, 65, 66, 52, 53, 54, 55, 56, 57, 58, 59, 60, 61, 62, 63] (by decide +kernel) (by decide +kernel)
set_option maxRecDepth 20000 in
theorem gX4_team_X0_record : GoodIn wsX4_team (wsV RX4 45 RX0 yX0_record wsX0_record) := goodIn_app (goodIn_of _ (by decide +kernel)) ggX4_team_X0_record
theorem dX4_team_0 : decode cX4_team 0 = .ok (.aload_n 0, 1) := by decide +kernel
theorem dX4_team_1 : decode cX4_team 1 = .ok (.getfield 12, 3) := by decide +kernel
theorem dX4_team_4 : decode cX4_team 4 = .ok (.getfield 52, 3) := by decide +kernel
theorem dX4_team_7 : decode cX4_team 7 = .ok (.istore_n 1, 1) := by decide +kernel
theorem dX4_team_8 : decode cX4_team 8 = .ok (.iload_n 1, 1) := by decide +kernel
theorem dX4_team_9 : decode cX4_team 9 = .ok (.ifCond .lt 9, 3) := by decide +kernel
theorem dX4_team_12 : decode cX4_team 12 = .ok (.iload_n 1, 1) := by decide +kernel
theorem dX4_team_13 : decode cX4_team 13 = .ok (.bipush 10, 2) := by decide +kernel
theorem dX4_team_15 : decode cX4_team 15 = .ok (.if_icmp .lt 6, 3) := by decide +kernel
theorem dX4_team_18 : decode cX4_team 18 = .ok (.bipush (-4), 2) := by decide +kernel
theorem dX4_team_20 : decode cX4_team 20 = .ok (.ireturn, 1) := by decide +kernel
theorem dX4_team_21 : decode cX4_team 21 = .ok (.aload_n 0, 1) := by decide +kernel
theorem dX4_team_22 : decode cX4_team 22 = .ok (.getfield 12, 3) := by decide +kernel
theorem dX4_team_25 : decode cX4_team 25 = .ok (.invokevirtual 56, 3) := by decide +kernel
theorem dX4_team_28 : decode cX4_team 28 = .ok (.sipush 255, 3) := by decide +kernel
theorem dX4_team_31 : decode cX4_team 31 = .ok (.if_icmp .eq 6, 3) := by decide +kernel
theorem dX4_team_34 : decode cX4_team 34 = .ok (.bipush (-5), 2) := by decide +kernel
theorem dX4_team_36 : decode cX4_team 36 = .ok (.ireturn, 1) := by decide +kernel
theorem dX4_team_37 : decode cX4_team 37 = .ok (.aload_n 0, 1) := by decide +kernel
theorem dX4_team_38 : decode cX4_team 38 = .ok (.getfield 19, 3) := by decide +kernel
theorem dX4_team_41 : decode cX4_team 41 = .ok (.aload_n 0, 1) := by decide +kernel
theorem dX4_team_42 : decode cX4_team 42 = .ok (.getfield 12, 3) := by decide +kernel
theorem dX4_team_45 : decode cX4_team 45 = .ok (.invokevirtual 45, 3) := by decide +kernel
theorem dX4_team_48 : decode cX4_team 48 = .ok (.aload_n 0, 1) := by decide +kernel
theorem dX4_team_49 : decode cX4_team 49 = .ok (.getfield 12, 3) := by decide +kernel
theorem dX4_team_52 : decode cX4_team 52 = .ok (.getfield 60, 3) := by decide +kernel
theorem dX4_team_55 : decode cX4_team 55 = .ok (.iload_n 1, 1) := by decide +kernel
theorem dX4_team_56 : decode cX4_team 56 = .ok (.aload_n 0, 1) := by decide +kernel
theorem dX4_team_57 : decode cX4_team 57 = .ok (.getfield 12, 3) := by decide +kernel
theorem dX4_team_60 : decode cX4_team 60 = .ok (.getfield 49, 3) := by decide +kernel
theorem dX4_team_63 : decode cX4_team 63 = .ok (.iconst 0, 1) := by decide +kernel
theorem dX4_team_64 : decode cX4_team 64 = .ok (.iaload, 1) := by decide +kernel
theorem dX4_team_65 : decode cX4_team 65 = .ok (.iastore, 1) := by decide +kernel
theorem dX4_team_66 : decode cX4_team 66 = .ok (.aload_n 0, 1) := by decide +kernel
theorem dX4_team_67 : decode cX4_team 67 = .ok (.getfield 12, 3) := by decide +kernel
theorem dX4_team_70 : decode cX4_team 70 = .ok (.iload_n 1, 1) := by decide +kernel
theorem dX4_team_71 : decode cX4_team 71 = .ok (.iconst 1, 1) := by decide +kernel
theorem dX4_team_72 : decode cX4_team 72 = .ok (.iadd, 1) := by decide +kernel
theorem dX4_team_73 : decode cX4_team 73 = .ok (.putfield 52, 3) := by decide +kernel
theorem dX4_team_76 : decode cX4_team 76 = .ok (.iload_n 1, 1) := by decide +kernel
theorem dX4_team_77 : decode cX4_team 77 = .ok (.ireturn, 1) := by decide +kernel
set_option maxRecDepth 20000 in
theorem ggX4_hand_X3_isTeam : GoodIn wsX4_hand wsX3_isTeam := goodIn_r _ [9, 10, 98, 99, 100, 101, 102, 103, 104, 105, 106, 107, 108, 109] (by decide +kernel) (by decide +kernel)
set_option maxRecDepth 20000 in
theorem gX4_hand_X3_isTeam : GoodIn wsX4_hand (wsV RX4 63 RX3 yX3_isTeam wsX3_isTeam) := goodIn_app (goodIn_of _ (by decide +kernel)) ggX4_hand_X3_isTeam
set_option maxRecDepth 20000 in
theorem ggX4_hand_X4_isRound : GoodIn wsX4_hand wsX4_isRound := goodIn_r _ [14] (by decide +kernel) (by decide +kernel)
set_option maxRecDepth 20000 in
theorem gX4_hand_X4_isRound : GoodIn wsX4_hand (va_wsS RX4 67 yX4_isRound wsX4_isRound) := goodIn_app (goodIn_of _ (by decide +kernel)) ggX4_hand_X4_isRound
set_option maxRecDepth 20000 in
theorem ggX4_hand_X1_tellsSheet : GoodIn wsX4_hand wsX1_tellsSheet := goodIn_r _ [19, 20, 21, 22, 18, 23, 24, 25, 26, 27, 28, 29, 30, 31, 110, 111] (by decide +kernel) (by decide +kernel)
set_option maxRecDepth 20000 in
theorem gX4_hand_X1_tellsSheet : GoodIn wsX4_hand (wsV RX4 70 RX1 yX1_tellsSheet wsX1_tellsSheet) := goodIn_app (goodIn_of _ (by decide +kernel)) ggX4_hand_X1_tellsSheet
set_option maxRecDepth 20000 in
theorem ggX4_hand_X3_isOpen : GoodIn wsX4_hand wsX3_isOpen := goodIn_r _ [35, 36, 37, 98, 99, 100, 101, 102, 103, 104, 105, 106, 107, 108, 109] (by decide +kernel) (by decide +kernel)
set_option maxRecDepth 20000 in
theorem gX4_hand_X3_isOpen : GoodIn wsX4_hand (wsV RX4 74 RX3 yX3_isOpen wsX3_isOpen) := goodIn_app (goodIn_of _ (by decide +kernel)) ggX4_hand_X3_isOpen
set_option maxRecDepth 20000 in
theorem ggX4_hand_X3_hasSheet : GoodIn wsX4_hand wsX3_hasSheet := goodIn_r _ [41, 42, 37, 43, 13, 44, 98, 99, 100, 101, 102, 103, 104, 105, 106, 107, 108, 109] (by decide +kernel) (by decide +kernel)
set_option maxRecDepth 20000 in
theorem gX4_hand_X3_hasSheet : GoodIn wsX4_hand (wsV RX4 77 RX3 yX3_hasSheet wsX3_hasSheet) := goodIn_app (goodIn_of _ (by decide +kernel)) ggX4_hand_X3_hasSheet
set_option maxRecDepth 20000 in
theorem ggX4_hand_X0_record : GoodIn wsX4_hand wsX0_record := goodIn_r _ [49, 50, 51, 52, 53, 54, 55, 56, 57, 58, 8, 59, 60, 61, 62, 63, 64, 65, 66, 67, 68, 36, 42, 69, 70, 71, 10, 72, 112, 113, 114, 98, 99, 100, 101, 102, 103, 104, 105, 106, 107, 108, 109] (by decide +kernel) (by decide +kernel)
set_option maxRecDepth 20000 in
theorem gX4_hand_X0_record : GoodIn wsX4_hand (wsV RX4 45 RX0 yX0_record wsX0_record) := goodIn_app (goodIn_of _ (by decide +kernel)) ggX4_hand_X0_record
set_option maxRecDepth 20000 in
theorem ggX4_hand_X4_indexOf : GoodIn wsX4_hand wsX4_indexOf := goodIn_r _ [44] (by decide +kernel) (by decide +kernel)
set_option maxRecDepth 20000 in
theorem gX4_hand_X4_indexOf : GoodIn wsX4_hand (va_wsS RX4 85 yX4_indexOf wsX4_indexOf) := goodIn_app (goodIn_of _ (by decide +kernel)) ggX4_hand_X4_indexOf
set_option maxRecDepth 20000 in
theorem ggX4_hand_X1_signs : GoodIn wsX4_hand wsX1_signs := goodIn_r _ [77, 25, 29, 30, 18, 31, 78, 79, 80, 81, 110, 111] (by decide +kernel) (by decide +kernel)
set_option maxRecDepth 20000 in
theorem gX4_hand_X1_signs : GoodIn wsX4_hand (wsV RX4 89 RX1 yX1_signs wsX1_signs) := goodIn_app (goodIn_of _ (by decide +kernel)) ggX4_hand_X1_signs
set_option maxRecDepth 20000 in
theorem ggX4_hand_X1_clear : GoodIn wsX4_hand wsX1_clear := goodIn_r _ [85, 24, 110, 111] (by decide +kernel) (by decide +kernel)
set_option maxRecDepth 20000 in
theorem gX4_hand_X1_clear : GoodIn wsX4_hand (wsV RX4 93 RX1 yX1_clear wsX1_clear) := goodIn_app (goodIn_of _ (by decide +kernel)) ggX4_hand_X1_clear
set_option maxRecDepth 20000 in
theorem ggX4_hand_X3_answered : GoodIn wsX4_hand wsX3_answered := goodIn_r _ [89, 42, 43, 13, 44, 90, 91, 80, 92, 98, 99, 100, 101, 102, 103, 104, 105, 106, 107, 108, 109] (by decide +kernel) (by decide +kernel)
set_option maxRecDepth 20000 in
theorem gX4_hand_X3_answered : GoodIn wsX4_hand (wsV RX4 96 RX3 yX3_answered wsX3_answered) := goodIn_app (goodIn_of _ (by decide +kernel)) ggX4_hand_X3_answered
theorem dX4_hand_0 : decode cX4_hand 0 = .ok (.aload_n 0, 1) := by decide +kernel
theorem dX4_hand_1 : decode cX4_hand 1 = .ok (.getfield 12, 3) := by decide +kernel
theorem dX4_hand_4 : decode cX4_hand 4 = .ok (.iload_n 1, 1) := by decide +kernel
theorem dX4_hand_5 : decode cX4_hand 5 = .ok (.invokevirtual 63, 3) := by decide +kernel
theorem dX4_hand_8 : decode cX4_hand 8 = .ok (.ifCond .eq 10, 3) := by decide +kernel
theorem dX4_hand_11 : decode cX4_hand 11 = .ok (.iload_n 2, 1) := by decide +kernel
theorem dX4_hand_12 : decode cX4_hand 12 = .ok (.invokestatic 67, 3) := by decide +kernel
theorem dX4_hand_15 : decode cX4_hand 15 = .ok (.ifCond .ne 5, 3) := by decide +kernel
theorem dX4_hand_18 : decode cX4_hand 18 = .ok (.iconst (-1), 1) := by decide +kernel
theorem dX4_hand_19 : decode cX4_hand 19 = .ok (.ireturn, 1) := by decide +kernel
theorem dX4_hand_20 : decode cX4_hand 20 = .ok (.aload_n 0, 1) := by decide +kernel
theorem dX4_hand_21 : decode cX4_hand 21 = .ok (.getfield 26, 3) := by decide +kernel
theorem dX4_hand_24 : decode cX4_hand 24 = .ok (.invokevirtual 70, 3) := by decide +kernel
theorem dX4_hand_27 : decode cX4_hand 27 = .ok (.ifCond .ne 6, 3) := by decide +kernel
theorem dX4_hand_30 : decode cX4_hand 30 = .ok (.bipush (-3), 2) := by decide +kernel
theorem dX4_hand_32 : decode cX4_hand 32 = .ok (.ireturn, 1) := by decide +kernel
theorem dX4_hand_33 : decode cX4_hand 33 = .ok (.aload_n 0, 1) := by decide +kernel
theorem dX4_hand_34 : decode cX4_hand 34 = .ok (.getfield 12, 3) := by decide +kernel
theorem dX4_hand_37 : decode cX4_hand 37 = .ok (.iload_n 2, 1) := by decide +kernel
theorem dX4_hand_38 : decode cX4_hand 38 = .ok (.invokevirtual 74, 3) := by decide +kernel
theorem dX4_hand_41 : decode cX4_hand 41 = .ok (.ifCond .eq 15, 3) := by decide +kernel
theorem dX4_hand_44 : decode cX4_hand 44 = .ok (.aload_n 0, 1) := by decide +kernel
theorem dX4_hand_45 : decode cX4_hand 45 = .ok (.getfield 12, 3) := by decide +kernel
theorem dX4_hand_48 : decode cX4_hand 48 = .ok (.iload_n 1, 1) := by decide +kernel
theorem dX4_hand_49 : decode cX4_hand 49 = .ok (.iload_n 2, 1) := by decide +kernel
theorem dX4_hand_50 : decode cX4_hand 50 = .ok (.invokevirtual 77, 3) := by decide +kernel
theorem dX4_hand_53 : decode cX4_hand 53 = .ok (.ifCond .eq 6, 3) := by decide +kernel
theorem dX4_hand_56 : decode cX4_hand 56 = .ok (.bipush (-5), 2) := by decide +kernel
theorem dX4_hand_58 : decode cX4_hand 58 = .ok (.ireturn, 1) := by decide +kernel
theorem dX4_hand_59 : decode cX4_hand 59 = .ok (.aload_n 0, 1) := by decide +kernel
theorem dX4_hand_60 : decode cX4_hand 60 = .ok (.getfield 19, 3) := by decide +kernel
theorem dX4_hand_63 : decode cX4_hand 63 = .ok (.aload_n 0, 1) := by decide +kernel
theorem dX4_hand_64 : decode cX4_hand 64 = .ok (.getfield 12, 3) := by decide +kernel
theorem dX4_hand_67 : decode cX4_hand 67 = .ok (.invokevirtual 45, 3) := by decide +kernel
theorem dX4_hand_70 : decode cX4_hand 70 = .ok (.aload_n 0, 1) := by decide +kernel
theorem dX4_hand_71 : decode cX4_hand 71 = .ok (.getfield 12, 3) := by decide +kernel
theorem dX4_hand_74 : decode cX4_hand 74 = .ok (.getfield 81, 3) := by decide +kernel
theorem dX4_hand_77 : decode cX4_hand 77 = .ok (.iload_n 1, 1) := by decide +kernel
theorem dX4_hand_78 : decode cX4_hand 78 = .ok (.iload_n 2, 1) := by decide +kernel
theorem dX4_hand_79 : decode cX4_hand 79 = .ok (.invokestatic 85, 3) := by decide +kernel
theorem dX4_hand_82 : decode cX4_hand 82 = .ok (.aload_n 0, 1) := by decide +kernel
theorem dX4_hand_83 : decode cX4_hand 83 = .ok (.getfield 26, 3) := by decide +kernel
theorem dX4_hand_86 : decode cX4_hand 86 = .ok (.invokevirtual 89, 3) := by decide +kernel
theorem dX4_hand_89 : decode cX4_hand 89 = .ok (.lastore, 1) := by decide +kernel
theorem dX4_hand_90 : decode cX4_hand 90 = .ok (.aload_n 0, 1) := by decide +kernel
theorem dX4_hand_91 : decode cX4_hand 91 = .ok (.getfield 26, 3) := by decide +kernel
theorem dX4_hand_94 : decode cX4_hand 94 = .ok (.invokevirtual 93, 3) := by decide +kernel
theorem dX4_hand_97 : decode cX4_hand 97 = .ok (.aload_n 0, 1) := by decide +kernel
theorem dX4_hand_98 : decode cX4_hand 98 = .ok (.getfield 12, 3) := by decide +kernel
theorem dX4_hand_101 : decode cX4_hand 101 = .ok (.iload_n 1, 1) := by decide +kernel
theorem dX4_hand_102 : decode cX4_hand 102 = .ok (.iload_n 2, 1) := by decide +kernel
theorem dX4_hand_103 : decode cX4_hand 103 = .ok (.invokevirtual 96, 3) := by decide +kernel
theorem dX4_hand_106 : decode cX4_hand 106 = .ok (.ireturn, 1) := by decide +kernel
set_option maxRecDepth 20000 in
theorem ggX4_joker_X3_isTeam : GoodIn wsX4_joker wsX3_isTeam := goodIn_r _ [8, 9, 71, 72, 73, 74, 75, 76, 77, 78, 79, 80, 81, 82] (by decide +kernel) (by decide +kernel)
set_option maxRecDepth 20000 in
theorem gX4_joker_X3_isTeam : GoodIn wsX4_joker (wsV RX4 63 RX3 yX3_isTeam wsX3_isTeam) := goodIn_app (goodIn_of _ (by decide +kernel)) ggX4_joker_X3_isTeam
set_option maxRecDepth 20000 in
theorem ggX4_joker_X4_isRound : GoodIn wsX4_joker wsX4_isRound := goodIn_r _ [13] (by decide +kernel) (by decide +kernel)
set_option maxRecDepth 20000 in
theorem gX4_joker_X4_isRound : GoodIn wsX4_joker (va_wsS RX4 67 yX4_isRound wsX4_isRound) := goodIn_app (goodIn_of _ (by decide +kernel)) ggX4_joker_X4_isRound
set_option maxRecDepth 20000 in
theorem ggX4_joker_X3_isOpen : GoodIn wsX4_joker wsX3_isOpen := goodIn_r _ [17, 18, 19, 71, 72, 73, 74, 75, 76, 77, 78, 79, 80, 81, 82] (by decide +kernel) (by decide +kernel)
set_option maxRecDepth 20000 in
theorem gX4_joker_X3_isOpen : GoodIn wsX4_joker (wsV RX4 74 RX3 yX3_isOpen wsX3_isOpen) := goodIn_app (goodIn_of _ (by decide +kernel)) ggX4_joker_X3_isOpen
set_option maxRecDepth 20000 in
theorem ggX4_joker_X3_hasSheet : GoodIn wsX4_joker wsX3_hasSheet := goodIn_r _ [23, 24, 19, 25, 12, 26, 71, 72, 73, 74, 75, 76, 77, 78, 79, 80, 81, 82] (by decide +kernel) (by decide +kernel)
set_option maxRecDepth 20000 in
theorem gX4_joker_X3_hasSheet : GoodIn wsX4_joker (wsV RX4 77 RX3 yX3_hasSheet wsX3_hasSheet) := goodIn_app (goodIn_of _ (by decide +kernel)) ggX4_joker_X3_hasSheet
set_option maxRecDepth 20000 in
theorem ggX4_joker_X0_record : GoodIn wsX4_joker wsX0_record := goodIn_r _ [31, 32, 33, 34, 35, 36, 37, 38, 39, 40, 7, 41, 42, 43, 44, 45, 46, 47, 48, 49, 50, 18, 24, 51, 52, 53, 9, 54, 83, 84, 85, 71, 72, 73, 74, 75, 76, 77, 78, 79, 80, 81, 82] (by decide +kernel) (by decide +kernel)
set_option maxRecDepth 20000 in
theorem gX4_joker_X0_record : GoodIn wsX4_joker (wsV RX4 45 RX0 yX0_record wsX0_record) := goodIn_app (goodIn_of _ (by decide +kernel)) ggX4_joker_X0_record
set_option maxRecDepth 20000 in
theorem ggX4_joker_X3_teamsWithJoker : GoodIn wsX4_joker wsX3_teamsWithJoker := goodIn_r _ [58, 9, 48, 71, 72, 73, 74, 75, 76, 77, 78, 79, 80, 81, 82] (by decide +kernel) (by decide +kernel)
set_option maxRecDepth 20000 in
theorem gX4_joker_X3_teamsWithJoker : GoodIn wsX4_joker (wsV RX4 102 RX3 yX3_teamsWithJoker wsX3_teamsWithJoker) := goodIn_app (goodIn_of _ (by decide +kernel)) ggX4_joker_X3_teamsWithJoker
set_option maxRecDepth 20000 in
theorem ggX4_joker_J6_bitCount_0f7a4 : GoodIn wsX4_joker wsJ6_bitCount_0f7a4 := goodIn_r _ [62, 63, 64, 65] (by decide +kernel) (by decide +kernel)
set_option maxRecDepth 20000 in
theorem gX4_joker_J6_bitCount_0f7a4 : GoodIn wsX4_joker (va_wsS RX4 106 yJ6_bitCount_0f7a4 wsJ6_bitCount_0f7a4) := goodIn_app (goodIn_of _ (by decide +kernel)) ggX4_joker_J6_bitCount_0f7a4
theorem dX4_joker_0 : decode cX4_joker 0 = .ok (.aload_n 0, 1) := by decide +kernel
theorem dX4_joker_1 : decode cX4_joker 1 = .ok (.getfield 12, 3) := by decide +kernel
theorem dX4_joker_4 : decode cX4_joker 4 = .ok (.iload_n 1, 1) := by decide +kernel
theorem dX4_joker_5 : decode cX4_joker 5 = .ok (.invokevirtual 63, 3) := by decide +kernel
theorem dX4_joker_8 : decode cX4_joker 8 = .ok (.ifCond .eq 10, 3) := by decide +kernel
theorem dX4_joker_11 : decode cX4_joker 11 = .ok (.iload_n 2, 1) := by decide +kernel
theorem dX4_joker_12 : decode cX4_joker 12 = .ok (.invokestatic 67, 3) := by decide +kernel
theorem dX4_joker_15 : decode cX4_joker 15 = .ok (.ifCond .ne 5, 3) := by decide +kernel
theorem dX4_joker_18 : decode cX4_joker 18 = .ok (.iconst (-1), 1) := by decide +kernel
theorem dX4_joker_19 : decode cX4_joker 19 = .ok (.ireturn, 1) := by decide +kernel
theorem dX4_joker_20 : decode cX4_joker 20 = .ok (.aload_n 0, 1) := by decide +kernel
theorem dX4_joker_21 : decode cX4_joker 21 = .ok (.getfield 12, 3) := by decide +kernel
theorem dX4_joker_24 : decode cX4_joker 24 = .ok (.getfield 99, 3) := by decide +kernel
theorem dX4_joker_27 : decode cX4_joker 27 = .ok (.iload_n 1, 1) := by decide +kernel
theorem dX4_joker_28 : decode cX4_joker 28 = .ok (.iaload, 1) := by decide +kernel
theorem dX4_joker_29 : decode cX4_joker 29 = .ok (.bipush (-6), 2) := by decide +kernel
theorem dX4_joker_31 : decode cX4_joker 31 = .ok (.if_icmp .ne 26, 3) := by decide +kernel
theorem dX4_joker_34 : decode cX4_joker 34 = .ok (.aload_n 0, 1) := by decide +kernel
theorem dX4_joker_35 : decode cX4_joker 35 = .ok (.getfield 12, 3) := by decide +kernel
theorem dX4_joker_38 : decode cX4_joker 38 = .ok (.iload_n 2, 1) := by decide +kernel
theorem dX4_joker_39 : decode cX4_joker 39 = .ok (.invokevirtual 74, 3) := by decide +kernel
theorem dX4_joker_42 : decode cX4_joker 42 = .ok (.ifCond .eq 15, 3) := by decide +kernel
theorem dX4_joker_45 : decode cX4_joker 45 = .ok (.aload_n 0, 1) := by decide +kernel
theorem dX4_joker_46 : decode cX4_joker 46 = .ok (.getfield 12, 3) := by decide +kernel
theorem dX4_joker_49 : decode cX4_joker 49 = .ok (.iload_n 1, 1) := by decide +kernel
theorem dX4_joker_50 : decode cX4_joker 50 = .ok (.iload_n 2, 1) := by decide +kernel
theorem dX4_joker_51 : decode cX4_joker 51 = .ok (.invokevirtual 77, 3) := by decide +kernel
theorem dX4_joker_54 : decode cX4_joker 54 = .ok (.ifCond .eq 6, 3) := by decide +kernel
theorem dX4_joker_57 : decode cX4_joker 57 = .ok (.bipush (-5), 2) := by decide +kernel
theorem dX4_joker_59 : decode cX4_joker 59 = .ok (.ireturn, 1) := by decide +kernel
theorem dX4_joker_60 : decode cX4_joker 60 = .ok (.aload_n 0, 1) := by decide +kernel
theorem dX4_joker_61 : decode cX4_joker 61 = .ok (.getfield 19, 3) := by decide +kernel
theorem dX4_joker_64 : decode cX4_joker 64 = .ok (.aload_n 0, 1) := by decide +kernel
theorem dX4_joker_65 : decode cX4_joker 65 = .ok (.getfield 12, 3) := by decide +kernel
theorem dX4_joker_68 : decode cX4_joker 68 = .ok (.invokevirtual 45, 3) := by decide +kernel
theorem dX4_joker_71 : decode cX4_joker 71 = .ok (.aload_n 0, 1) := by decide +kernel
theorem dX4_joker_72 : decode cX4_joker 72 = .ok (.getfield 12, 3) := by decide +kernel
theorem dX4_joker_75 : decode cX4_joker 75 = .ok (.getfield 99, 3) := by decide +kernel
theorem dX4_joker_78 : decode cX4_joker 78 = .ok (.iload_n 1, 1) := by decide +kernel
theorem dX4_joker_79 : decode cX4_joker 79 = .ok (.iload_n 2, 1) := by decide +kernel
theorem dX4_joker_80 : decode cX4_joker 80 = .ok (.iastore, 1) := by decide +kernel
theorem dX4_joker_81 : decode cX4_joker 81 = .ok (.aload_n 0, 1) := by decide +kernel
theorem dX4_joker_82 : decode cX4_joker 82 = .ok (.getfield 12, 3) := by decide +kernel
theorem dX4_joker_85 : decode cX4_joker 85 = .ok (.iload_n 2, 1) := by decide +kernel
theorem dX4_joker_86 : decode cX4_joker 86 = .ok (.invokevirtual 102, 3) := by decide +kernel
theorem dX4_joker_89 : decode cX4_joker 89 = .ok (.invokestatic 106, 3) := by decide +kernel
theorem dX4_joker_92 : decode cX4_joker 92 = .ok (.ireturn, 1) := by decide +kernel
set_option maxRecDepth 20000 in
theorem ggX4_key_X4_isRound : GoodIn wsX4_key wsX4_isRound := goodIn_r _ [8] (by decide +kernel) (by decide +kernel)
set_option maxRecDepth 20000 in
theorem gX4_key_X4_isRound : GoodIn wsX4_key (va_wsS RX4 67 yX4_isRound wsX4_isRound) := goodIn_app (goodIn_of _ (by decide +kernel)) ggX4_key_X4_isRound
set_option maxRecDepth 20000 in
theorem ggX4_key_X1_tellsKey : GoodIn wsX4_key wsX1_tellsKey := goodIn_r _ [13, 14, 15, 16, 17, 12, 18, 19, 20, 21, 22, 23, 24, 25, 26, 27, 28, 29, 113, 114] (by decide +kernel) (by decide +kernel)
set_option maxRecDepth 20000 in
theorem gX4_key_X1_tellsKey : GoodIn wsX4_key (wsV RX4 111 RX1 yX1_tellsKey wsX1_tellsKey) := goodIn_app (goodIn_of _ (by decide +kernel)) ggX4_key_X1_tellsKey
set_option maxRecDepth 20000 in
theorem ggX4_key_X3_isOpen : GoodIn wsX4_key wsX3_isOpen := goodIn_r _ [34, 35, 36, 101, 102, 103, 104, 105, 106, 107, 108, 109, 110, 111, 112] (by decide +kernel) (by decide +kernel)
set_option maxRecDepth 20000 in
theorem gX4_key_X3_isOpen : GoodIn wsX4_key (wsV RX4 74 RX3 yX3_isOpen wsX3_isOpen) := goodIn_app (goodIn_of _ (by decide +kernel)) ggX4_key_X3_isOpen
set_option maxRecDepth 20000 in
theorem ggX4_key_X0_record : GoodIn wsX4_key wsX0_record := goodIn_r _ [41, 42, 43, 44, 45, 46, 47, 48, 49, 50, 33, 51, 52, 53, 54, 55, 56, 57, 58, 59, 60, 35, 61, 62, 63, 64, 65, 66, 115, 116, 117, 101, 102, 103, 104, 105, 106, 107, 108, 109, 110, 111, 112] (by decide +kernel) (by decide +kernel)
set_option maxRecDepth 20000 in
theorem gX4_key_X0_record : GoodIn wsX4_key (wsV RX4 45 RX0 yX0_record wsX0_record) := goodIn_app (goodIn_of _ (by decide +kernel)) ggX4_key_X0_record
set_option maxRecDepth 20000 in
theorem ggX4_key_X1_signs : GoodIn wsX4_key wsX1_signs := goodIn_r _ [70, 14, 27, 28, 12, 29, 71, 72, 73, 74, 113, 114] (by decide +kernel) (by decide +kernel)
set_option maxRecDepth 20000 in
theorem gX4_key_X1_signs : GoodIn wsX4_key (wsV RX4 89 RX1 yX1_signs wsX1_signs) := goodIn_app (goodIn_of _ (by decide +kernel)) ggX4_key_X1_signs
set_option maxRecDepth 20000 in
theorem ggX4_key_X1_clear : GoodIn wsX4_key wsX1_clear := goodIn_r _ [78, 23, 113, 114] (by decide +kernel) (by decide +kernel)
set_option maxRecDepth 20000 in
theorem gX4_key_X1_clear : GoodIn wsX4_key (wsV RX4 93 RX1 yX1_clear wsX1_clear) := goodIn_app (goodIn_of _ (by decide +kernel)) ggX4_key_X1_clear
set_option maxRecDepth 20000 in
theorem ggX4_key_X3_teamsWithSheet : GoodIn wsX4_key wsX3_teamsWithSheet := goodIn_r _ [82, 65, 83, 84, 85, 33, 86, 61, 36, 87, 7, 88, 101, 102, 103, 104, 105, 106, 107, 108, 109, 110, 111, 112] (by decide +kernel) (by decide +kernel)
set_option maxRecDepth 20000 in
theorem gX4_key_X3_teamsWithSheet : GoodIn wsX4_key (wsV RX4 117 RX3 yX3_teamsWithSheet wsX3_teamsWithSheet) := goodIn_app (goodIn_of _ (by decide +kernel)) ggX4_key_X3_teamsWithSheet
set_option maxRecDepth 20000 in
theorem ggX4_key_J6_bitCount_0f7a4 : GoodIn wsX4_key wsJ6_bitCount_0f7a4 := goodIn_r _ [92, 93, 94, 95] (by decide +kernel) (by decide +kernel)
set_option maxRecDepth 20000 in
theorem gX4_key_J6_bitCount_0f7a4 : GoodIn wsX4_key (va_wsS RX4 106 yJ6_bitCount_0f7a4 wsJ6_bitCount_0f7a4) := goodIn_app (goodIn_of _ (by decide +kernel)) ggX4_key_J6_bitCount_0f7a4
theorem dX4_key_0 : decode cX4_key 0 = .ok (.iload_n 1, 1) := by decide +kernel
theorem dX4_key_1 : decode cX4_key 1 = .ok (.invokestatic 67, 3) := by decide +kernel
theorem dX4_key_4 : decode cX4_key 4 = .ok (.ifCond .ne 5, 3) := by decide +kernel
theorem dX4_key_7 : decode cX4_key 7 = .ok (.iconst (-1), 1) := by decide +kernel
theorem dX4_key_8 : decode cX4_key 8 = .ok (.ireturn, 1) := by decide +kernel
theorem dX4_key_9 : decode cX4_key 9 = .ok (.aload_n 0, 1) := by decide +kernel
theorem dX4_key_10 : decode cX4_key 10 = .ok (.getfield 26, 3) := by decide +kernel
theorem dX4_key_13 : decode cX4_key 13 = .ok (.invokevirtual 111, 3) := by decide +kernel
theorem dX4_key_16 : decode cX4_key 16 = .ok (.ifCond .ne 6, 3) := by decide +kernel
theorem dX4_key_19 : decode cX4_key 19 = .ok (.bipush (-3), 2) := by decide +kernel
theorem dX4_key_21 : decode cX4_key 21 = .ok (.ireturn, 1) := by decide +kernel
theorem dX4_key_22 : decode cX4_key 22 = .ok (.aload_n 0, 1) := by decide +kernel
theorem dX4_key_23 : decode cX4_key 23 = .ok (.getfield 12, 3) := by decide +kernel
theorem dX4_key_26 : decode cX4_key 26 = .ok (.iload_n 1, 1) := by decide +kernel
theorem dX4_key_27 : decode cX4_key 27 = .ok (.invokevirtual 74, 3) := by decide +kernel
theorem dX4_key_30 : decode cX4_key 30 = .ok (.ifCond .ne 6, 3) := by decide +kernel
theorem dX4_key_33 : decode cX4_key 33 = .ok (.bipush (-5), 2) := by decide +kernel
theorem dX4_key_35 : decode cX4_key 35 = .ok (.ireturn, 1) := by decide +kernel
theorem dX4_key_36 : decode cX4_key 36 = .ok (.aload_n 0, 1) := by decide +kernel
theorem dX4_key_37 : decode cX4_key 37 = .ok (.getfield 19, 3) := by decide +kernel
theorem dX4_key_40 : decode cX4_key 40 = .ok (.aload_n 0, 1) := by decide +kernel
theorem dX4_key_41 : decode cX4_key 41 = .ok (.getfield 12, 3) := by decide +kernel
theorem dX4_key_44 : decode cX4_key 44 = .ok (.invokevirtual 45, 3) := by decide +kernel
theorem dX4_key_47 : decode cX4_key 47 = .ok (.aload_n 0, 1) := by decide +kernel
theorem dX4_key_48 : decode cX4_key 48 = .ok (.getfield 12, 3) := by decide +kernel
theorem dX4_key_51 : decode cX4_key 51 = .ok (.getfield 114, 3) := by decide +kernel
theorem dX4_key_54 : decode cX4_key 54 = .ok (.iload_n 1, 1) := by decide +kernel
theorem dX4_key_55 : decode cX4_key 55 = .ok (.aload_n 0, 1) := by decide +kernel
theorem dX4_key_56 : decode cX4_key 56 = .ok (.getfield 26, 3) := by decide +kernel
theorem dX4_key_59 : decode cX4_key 59 = .ok (.invokevirtual 89, 3) := by decide +kernel
theorem dX4_key_62 : decode cX4_key 62 = .ok (.lastore, 1) := by decide +kernel
theorem dX4_key_63 : decode cX4_key 63 = .ok (.aload_n 0, 1) := by decide +kernel
theorem dX4_key_64 : decode cX4_key 64 = .ok (.getfield 26, 3) := by decide +kernel
theorem dX4_key_67 : decode cX4_key 67 = .ok (.invokevirtual 93, 3) := by decide +kernel
theorem dX4_key_70 : decode cX4_key 70 = .ok (.aload_n 0, 1) := by decide +kernel
theorem dX4_key_71 : decode cX4_key 71 = .ok (.getfield 12, 3) := by decide +kernel
theorem dX4_key_74 : decode cX4_key 74 = .ok (.iload_n 1, 1) := by decide +kernel
theorem dX4_key_75 : decode cX4_key 75 = .ok (.invokevirtual 117, 3) := by decide +kernel
theorem dX4_key_78 : decode cX4_key 78 = .ok (.invokestatic 106, 3) := by decide +kernel
theorem dX4_key_81 : decode cX4_key 81 = .ok (.ireturn, 1) := by decide +kernel
set_option maxRecDepth 20000 in
theorem ggX4_mark_X3_isTeam : GoodIn wsX4_mark wsX3_isTeam := goodIn_r _ [9, 10, 70, 71, 72, 73, 74, 75, 76, 77, 78, 79, 80, 81] (by decide +kernel) (by decide +kernel)
set_option maxRecDepth 20000 in
theorem gX4_mark_X3_isTeam : GoodIn wsX4_mark (wsV RX4 63 RX3 yX3_isTeam wsX3_isTeam) := goodIn_app (goodIn_of _ (by decide +kernel)) ggX4_mark_X3_isTeam
set_option maxRecDepth 20000 in
theorem ggX4_mark_X4_isRound : GoodIn wsX4_mark wsX4_isRound := goodIn_r _ [14] (by decide +kernel) (by decide +kernel)
set_option maxRecDepth 20000 in
theorem gX4_mark_X4_isRound : GoodIn wsX4_mark (va_wsS RX4 67 yX4_isRound wsX4_isRound) := goodIn_app (goodIn_of _ (by decide +kernel)) ggX4_mark_X4_isRound
set_option maxRecDepth 20000 in
theorem ggX4_mark_X3_isOpen : GoodIn wsX4_mark wsX3_isOpen := goodIn_r _ [18, 19, 20, 70, 71, 72, 73, 74, 75, 76, 77, 78, 79, 80, 81] (by decide +kernel) (by decide +kernel)
set_option maxRecDepth 20000 in
theorem gX4_mark_X3_isOpen : GoodIn wsX4_mark (wsV RX4 74 RX3 yX3_isOpen wsX3_isOpen) := goodIn_app (goodIn_of _ (by decide +kernel)) ggX4_mark_X3_isOpen
set_option maxRecDepth 20000 in
theorem ggX4_mark_X3_hasSheet : GoodIn wsX4_mark wsX3_hasSheet := goodIn_r _ [24, 25, 20, 26, 13, 27, 70, 71, 72, 73, 74, 75, 76, 77, 78, 79, 80, 81] (by decide +kernel) (by decide +kernel)
set_option maxRecDepth 20000 in
theorem gX4_mark_X3_hasSheet : GoodIn wsX4_mark (wsV RX4 77 RX3 yX3_hasSheet wsX3_hasSheet) := goodIn_app (goodIn_of _ (by decide +kernel)) ggX4_mark_X3_hasSheet
set_option maxRecDepth 20000 in
theorem ggX4_mark_X3_isTold : GoodIn wsX4_mark wsX3_isTold := goodIn_r _ [31, 32, 33, 34, 8, 35, 36, 26, 13, 27, 70, 71, 72, 73, 74, 75, 76, 77, 78, 79, 80, 81] (by decide +kernel) (by decide +kernel)
set_option maxRecDepth 20000 in
theorem gX4_mark_X3_isTold : GoodIn wsX4_mark (wsV RX4 120 RX3 yX3_isTold wsX3_isTold) := goodIn_app (goodIn_of _ (by decide +kernel)) ggX4_mark_X3_isTold
set_option maxRecDepth 20000 in
theorem ggX4_mark_X0_record : GoodIn wsX4_mark wsX0_record := goodIn_r _ [41, 42, 43, 44, 45, 46, 47, 48, 49, 50, 8, 51, 52, 53, 54, 55, 56, 57, 58, 59, 60, 19, 25, 61, 36, 62, 10, 63, 82, 83, 84, 70, 71, 72, 73, 74, 75, 76, 77, 78, 79, 80, 81] (by decide +kernel) (by decide +kernel)
set_option maxRecDepth 20000 in
theorem gX4_mark_X0_record : GoodIn wsX4_mark (wsV RX4 45 RX0 yX0_record wsX0_record) := goodIn_app (goodIn_of _ (by decide +kernel)) ggX4_mark_X0_record
set_option maxRecDepth 20000 in
theorem ggX4_mark_X4_indexOf : GoodIn wsX4_mark wsX4_indexOf := goodIn_r _ [27] (by decide +kernel) (by decide +kernel)
set_option maxRecDepth 20000 in
theorem gX4_mark_X4_indexOf : GoodIn wsX4_mark (va_wsS RX4 85 yX4_indexOf wsX4_indexOf) := goodIn_app (goodIn_of _ (by decide +kernel)) ggX4_mark_X4_indexOf
theorem dX4_mark_0 : decode cX4_mark 0 = .ok (.aload_n 0, 1) := by decide +kernel
theorem dX4_mark_1 : decode cX4_mark 1 = .ok (.getfield 12, 3) := by decide +kernel
theorem dX4_mark_4 : decode cX4_mark 4 = .ok (.iload_n 1, 1) := by decide +kernel
theorem dX4_mark_5 : decode cX4_mark 5 = .ok (.invokevirtual 63, 3) := by decide +kernel
theorem dX4_mark_8 : decode cX4_mark 8 = .ok (.ifCond .eq 21, 3) := by decide +kernel
theorem dX4_mark_11 : decode cX4_mark 11 = .ok (.aload_n 0, 1) := by decide +kernel
theorem dX4_mark_12 : decode cX4_mark 12 = .ok (.getfield 12, 3) := by decide +kernel
theorem dX4_mark_15 : decode cX4_mark 15 = .ok (.iload_n 2, 1) := by decide +kernel
theorem dX4_mark_16 : decode cX4_mark 16 = .ok (.invokevirtual 63, 3) := by decide +kernel
theorem dX4_mark_19 : decode cX4_mark 19 = .ok (.ifCond .eq 10, 3) := by decide +kernel
theorem dX4_mark_22 : decode cX4_mark 22 = .ok (.iload_n 3, 1) := by decide +kernel
theorem dX4_mark_23 : decode cX4_mark 23 = .ok (.invokestatic 67, 3) := by decide +kernel
theorem dX4_mark_26 : decode cX4_mark 26 = .ok (.ifCond .ne 5, 3) := by decide +kernel
theorem dX4_mark_29 : decode cX4_mark 29 = .ok (.iconst (-1), 1) := by decide +kernel
theorem dX4_mark_30 : decode cX4_mark 30 = .ok (.ireturn, 1) := by decide +kernel
theorem dX4_mark_31 : decode cX4_mark 31 = .ok (.iload_n 1, 1) := by decide +kernel
theorem dX4_mark_32 : decode cX4_mark 32 = .ok (.iload_n 2, 1) := by decide +kernel
theorem dX4_mark_33 : decode cX4_mark 33 = .ok (.if_icmp .eq 17, 3) := by decide +kernel
theorem dX4_mark_36 : decode cX4_mark 36 = .ok (.iload 4, 2) := by decide +kernel
theorem dX4_mark_38 : decode cX4_mark 38 = .ok (.bipush (-20), 2) := by decide +kernel
theorem dX4_mark_40 : decode cX4_mark 40 = .ok (.if_icmp .lt 10, 3) := by decide +kernel
theorem dX4_mark_43 : decode cX4_mark 43 = .ok (.iload 4, 2) := by decide +kernel
theorem dX4_mark_45 : decode cX4_mark 45 = .ok (.bipush 10, 2) := by decide +kernel
theorem dX4_mark_47 : decode cX4_mark 47 = .ok (.if_icmp .le 6, 3) := by decide +kernel
theorem dX4_mark_50 : decode cX4_mark 50 = .ok (.bipush (-2), 2) := by decide +kernel
theorem dX4_mark_52 : decode cX4_mark 52 = .ok (.ireturn, 1) := by decide +kernel
theorem dX4_mark_53 : decode cX4_mark 53 = .ok (.aload_n 0, 1) := by decide +kernel
theorem dX4_mark_54 : decode cX4_mark 54 = .ok (.getfield 12, 3) := by decide +kernel
theorem dX4_mark_57 : decode cX4_mark 57 = .ok (.iload_n 3, 1) := by decide +kernel
theorem dX4_mark_58 : decode cX4_mark 58 = .ok (.invokevirtual 74, 3) := by decide +kernel
theorem dX4_mark_61 : decode cX4_mark 61 = .ok (.ifCond .ne 27, 3) := by decide +kernel
theorem dX4_mark_64 : decode cX4_mark 64 = .ok (.aload_n 0, 1) := by decide +kernel
theorem dX4_mark_65 : decode cX4_mark 65 = .ok (.getfield 12, 3) := by decide +kernel
theorem dX4_mark_68 : decode cX4_mark 68 = .ok (.iload_n 2, 1) := by decide +kernel
theorem dX4_mark_69 : decode cX4_mark 69 = .ok (.iload_n 3, 1) := by decide +kernel
theorem dX4_mark_70 : decode cX4_mark 70 = .ok (.invokevirtual 77, 3) := by decide +kernel
theorem dX4_mark_73 : decode cX4_mark 73 = .ok (.ifCond .eq 15, 3) := by decide +kernel
theorem dX4_mark_76 : decode cX4_mark 76 = .ok (.aload_n 0, 1) := by decide +kernel
theorem dX4_mark_77 : decode cX4_mark 77 = .ok (.getfield 12, 3) := by decide +kernel
theorem dX4_mark_80 : decode cX4_mark 80 = .ok (.iload_n 2, 1) := by decide +kernel
theorem dX4_mark_81 : decode cX4_mark 81 = .ok (.iload_n 3, 1) := by decide +kernel
theorem dX4_mark_82 : decode cX4_mark 82 = .ok (.invokevirtual 120, 3) := by decide +kernel
theorem dX4_mark_85 : decode cX4_mark 85 = .ok (.ifCond .eq 6, 3) := by decide +kernel
theorem dX4_mark_88 : decode cX4_mark 88 = .ok (.bipush (-5), 2) := by decide +kernel
theorem dX4_mark_90 : decode cX4_mark 90 = .ok (.ireturn, 1) := by decide +kernel
theorem dX4_mark_91 : decode cX4_mark 91 = .ok (.aload_n 0, 1) := by decide +kernel
theorem dX4_mark_92 : decode cX4_mark 92 = .ok (.getfield 19, 3) := by decide +kernel
theorem dX4_mark_95 : decode cX4_mark 95 = .ok (.aload_n 0, 1) := by decide +kernel
theorem dX4_mark_96 : decode cX4_mark 96 = .ok (.getfield 12, 3) := by decide +kernel
theorem dX4_mark_99 : decode cX4_mark 99 = .ok (.invokevirtual 45, 3) := by decide +kernel
theorem dX4_mark_102 : decode cX4_mark 102 = .ok (.aload_n 0, 1) := by decide +kernel
theorem dX4_mark_103 : decode cX4_mark 103 = .ok (.getfield 12, 3) := by decide +kernel
theorem dX4_mark_106 : decode cX4_mark 106 = .ok (.getfield 123, 3) := by decide +kernel
theorem dX4_mark_109 : decode cX4_mark 109 = .ok (.iload_n 2, 1) := by decide +kernel
theorem dX4_mark_110 : decode cX4_mark 110 = .ok (.iload_n 3, 1) := by decide +kernel
theorem dX4_mark_111 : decode cX4_mark 111 = .ok (.invokestatic 85, 3) := by decide +kernel
theorem dX4_mark_114 : decode cX4_mark 114 = .ok (.iload 4, 2) := by decide +kernel
theorem dX4_mark_116 : decode cX4_mark 116 = .ok (.iastore, 1) := by decide +kernel
theorem dX4_mark_117 : decode cX4_mark 117 = .ok (.aload_n 0, 1) := by decide +kernel
theorem dX4_mark_118 : decode cX4_mark 118 = .ok (.getfield 12, 3) := by decide +kernel
theorem dX4_mark_121 : decode cX4_mark 121 = .ok (.getfield 126, 3) := by decide +kernel
theorem dX4_mark_124 : decode cX4_mark 124 = .ok (.iload_n 2, 1) := by decide +kernel
theorem dX4_mark_125 : decode cX4_mark 125 = .ok (.iload_n 3, 1) := by decide +kernel
theorem dX4_mark_126 : decode cX4_mark 126 = .ok (.invokestatic 85, 3) := by decide +kernel
theorem dX4_mark_129 : decode cX4_mark 129 = .ok (.iload_n 1, 1) := by decide +kernel
theorem dX4_mark_130 : decode cX4_mark 130 = .ok (.iastore, 1) := by decide +kernel
theorem dX4_mark_131 : decode cX4_mark 131 = .ok (.iconst 1, 1) := by decide +kernel
theorem dX4_mark_132 : decode cX4_mark 132 = .ok (.ireturn, 1) := by decide +kernel
set_option maxRecDepth 20000 in
theorem ggX4_look_X3_isTeam : GoodIn wsX4_look wsX3_isTeam := goodIn_r _ [9, 10, 90, 91, 92, 93, 94, 95, 96, 97, 98, 99, 100, 101] (by decide +kernel) (by decide +kernel)
set_option maxRecDepth 20000 in
theorem gX4_look_X3_isTeam : GoodIn wsX4_look (wsV RX4 63 RX3 yX3_isTeam wsX3_isTeam) := goodIn_app (goodIn_of _ (by decide +kernel)) ggX4_look_X3_isTeam
set_option maxRecDepth 20000 in
theorem ggX4_look_X4_isRound : GoodIn wsX4_look wsX4_isRound := goodIn_r _ [14] (by decide +kernel) (by decide +kernel)
set_option maxRecDepth 20000 in
theorem gX4_look_X4_isRound : GoodIn wsX4_look (va_wsS RX4 67 yX4_isRound wsX4_isRound) := goodIn_app (goodIn_of _ (by decide +kernel)) ggX4_look_X4_isRound
set_option maxRecDepth 20000 in
theorem ggX4_look_X3_isTold : GoodIn wsX4_look wsX3_isTold := goodIn_r _ [18, 19, 20, 21, 8, 22, 23, 24, 13, 25, 90, 91, 92, 93, 94, 95, 96, 97, 98, 99, 100, 101] (by decide +kernel) (by decide +kernel)
set_option maxRecDepth 20000 in
theorem gX4_look_X3_isTold : GoodIn wsX4_look (wsV RX4 120 RX3 yX3_isTold wsX3_isTold) := goodIn_app (goodIn_of _ (by decide +kernel)) ggX4_look_X3_isTold
set_option maxRecDepth 20000 in
theorem ggX4_look_X3_isLooked : GoodIn wsX4_look wsX3_isLooked := goodIn_r _ [29, 30, 90, 91, 92, 93, 94, 95, 96, 97, 98, 99, 100, 101] (by decide +kernel) (by decide +kernel)
set_option maxRecDepth 20000 in
theorem gX4_look_X3_isLooked : GoodIn wsX4_look (wsV RX4 129 RX3 yX3_isLooked wsX3_isLooked) := goodIn_app (goodIn_of _ (by decide +kernel)) ggX4_look_X3_isLooked
set_option maxRecDepth 20000 in
theorem ggX4_look_X0_record : GoodIn wsX4_look wsX0_record := goodIn_r _ [35, 36, 37, 38, 39, 40, 41, 42, 43, 44, 8, 45, 46, 47, 48, 49, 50, 51, 52, 53, 54, 55, 56, 57, 23, 30, 10, 58, 102, 103, 104, 90, 91, 92, 93, 94, 95, 96, 97, 98, 99, 100, 101] (by decide +kernel) (by decide +kernel)
set_option maxRecDepth 20000 in
theorem gX4_look_X0_record : GoodIn wsX4_look (wsV RX4 45 RX0 yX0_record wsX0_record) := goodIn_app (goodIn_of _ (by decide +kernel)) ggX4_look_X0_record
set_option maxRecDepth 20000 in
theorem ggX4_look_X3_isWrong : GoodIn wsX4_look wsX3_isWrong := goodIn_r _ [62, 63, 16, 17, 8, 18, 19, 20, 21, 22, 23, 24, 13, 25, 64, 27, 28, 29, 30, 65, 66, 67, 68, 57, 69, 70, 71, 72, 56, 55, 46, 73, 74, 75, 76, 90, 91, 92, 93, 94, 95, 96, 97, 98, 99, 100, 101] (by decide +kernel) (by decide +kernel)
set_option maxRecDepth 20000 in
theorem gX4_look_X3_isWrong : GoodIn wsX4_look (wsV RX4 132 RX3 yX3_isWrong wsX3_isWrong) := goodIn_app (goodIn_of _ (by decide +kernel)) ggX4_look_X3_isWrong
set_option maxRecDepth 20000 in
theorem ggX4_look_X3_markerOf : GoodIn wsX4_look wsX3_markerOf := goodIn_r _ [22, 23, 24, 13, 25, 90, 91, 92, 93, 94, 95, 96, 97, 98, 99, 100, 101] (by decide +kernel) (by decide +kernel)
set_option maxRecDepth 20000 in
theorem gX4_look_X3_markerOf : GoodIn wsX4_look (wsV RX4 135 RX3 yX3_markerOf wsX3_markerOf) := goodIn_app (goodIn_of _ (by decide +kernel)) ggX4_look_X3_markerOf
set_option maxRecDepth 20000 in
theorem ggX4_look_X3_addFine : GoodIn wsX4_look wsX3_addFine := goodIn_r _ [81, 53, 82, 6, 7, 8, 9, 10, 90, 91, 92, 93, 94, 95, 96, 97, 98, 99, 100, 101] (by decide +kernel) (by decide +kernel)
set_option maxRecDepth 20000 in
theorem gX4_look_X3_addFine : GoodIn wsX4_look (wsV RX4 138 RX3 yX3_addFine wsX3_addFine) := goodIn_app (goodIn_of _ (by decide +kernel)) ggX4_look_X3_addFine
set_option maxRecDepth 20000 in
theorem ggX4_look_X4_indexOf : GoodIn wsX4_look wsX4_indexOf := goodIn_r _ [25] (by decide +kernel) (by decide +kernel)
set_option maxRecDepth 20000 in
theorem gX4_look_X4_indexOf : GoodIn wsX4_look (va_wsS RX4 85 yX4_indexOf wsX4_indexOf) := goodIn_app (goodIn_of _ (by decide +kernel)) ggX4_look_X4_indexOf
set_option maxRecDepth 20000 in
theorem ggX4_look_X3_trueMark : GoodIn wsX4_look wsX3_trueMark := goodIn_r _ [72, 56, 55, 46, 24, 13, 25, 73, 74, 75, 76, 90, 91, 92, 93, 94, 95, 96, 97, 98, 99, 100, 101] (by decide +kernel) (by decide +kernel)
set_option maxRecDepth 20000 in
theorem gX4_look_X3_trueMark : GoodIn wsX4_look (wsV RX4 142 RX3 yX3_trueMark wsX3_trueMark) := goodIn_app (goodIn_of _ (by decide +kernel)) ggX4_look_X3_trueMark
theorem dX4_look_0 : decode cX4_look 0 = .ok (.aload_n 0, 1) := by decide +kernel
theorem dX4_look_1 : decode cX4_look 1 = .ok (.getfield 12, 3) := by decide +kernel
theorem dX4_look_4 : decode cX4_look 4 = .ok (.iload_n 1, 1) := by decide +kernel
theorem dX4_look_5 : decode cX4_look 5 = .ok (.invokevirtual 63, 3) := by decide +kernel
theorem dX4_look_8 : decode cX4_look 8 = .ok (.ifCond .eq 10, 3) := by decide +kernel
theorem dX4_look_11 : decode cX4_look 11 = .ok (.iload_n 2, 1) := by decide +kernel
theorem dX4_look_12 : decode cX4_look 12 = .ok (.invokestatic 67, 3) := by decide +kernel
theorem dX4_look_15 : decode cX4_look 15 = .ok (.ifCond .ne 5, 3) := by decide +kernel
theorem dX4_look_18 : decode cX4_look 18 = .ok (.iconst (-1), 1) := by decide +kernel
theorem dX4_look_19 : decode cX4_look 19 = .ok (.ireturn, 1) := by decide +kernel
theorem dX4_look_20 : decode cX4_look 20 = .ok (.aload_n 0, 1) := by decide +kernel
theorem dX4_look_21 : decode cX4_look 21 = .ok (.getfield 12, 3) := by decide +kernel
theorem dX4_look_24 : decode cX4_look 24 = .ok (.iload_n 1, 1) := by decide +kernel
theorem dX4_look_25 : decode cX4_look 25 = .ok (.iload_n 2, 1) := by decide +kernel
theorem dX4_look_26 : decode cX4_look 26 = .ok (.invokevirtual 120, 3) := by decide +kernel
theorem dX4_look_29 : decode cX4_look 29 = .ok (.ifCond .eq 15, 3) := by decide +kernel
theorem dX4_look_32 : decode cX4_look 32 = .ok (.aload_n 0, 1) := by decide +kernel
theorem dX4_look_33 : decode cX4_look 33 = .ok (.getfield 12, 3) := by decide +kernel
theorem dX4_look_36 : decode cX4_look 36 = .ok (.iload_n 1, 1) := by decide +kernel
theorem dX4_look_37 : decode cX4_look 37 = .ok (.iload_n 2, 1) := by decide +kernel
theorem dX4_look_38 : decode cX4_look 38 = .ok (.invokevirtual 129, 3) := by decide +kernel
theorem dX4_look_41 : decode cX4_look 41 = .ok (.ifCond .eq 6, 3) := by decide +kernel
theorem dX4_look_44 : decode cX4_look 44 = .ok (.bipush (-5), 2) := by decide +kernel
theorem dX4_look_46 : decode cX4_look 46 = .ok (.ireturn, 1) := by decide +kernel
theorem dX4_look_47 : decode cX4_look 47 = .ok (.aload_n 0, 1) := by decide +kernel
theorem dX4_look_48 : decode cX4_look 48 = .ok (.getfield 19, 3) := by decide +kernel
theorem dX4_look_51 : decode cX4_look 51 = .ok (.aload_n 0, 1) := by decide +kernel
theorem dX4_look_52 : decode cX4_look 52 = .ok (.getfield 12, 3) := by decide +kernel
theorem dX4_look_55 : decode cX4_look 55 = .ok (.invokevirtual 45, 3) := by decide +kernel
theorem dX4_look_58 : decode cX4_look 58 = .ok (.aload_n 0, 1) := by decide +kernel
theorem dX4_look_59 : decode cX4_look 59 = .ok (.getfield 12, 3) := by decide +kernel
theorem dX4_look_62 : decode cX4_look 62 = .ok (.iload_n 1, 1) := by decide +kernel
theorem dX4_look_63 : decode cX4_look 63 = .ok (.iload_n 2, 1) := by decide +kernel
theorem dX4_look_64 : decode cX4_look 64 = .ok (.invokevirtual 132, 3) := by decide +kernel
theorem dX4_look_67 : decode cX4_look 67 = .ok (.istore_n 3, 1) := by decide +kernel
theorem dX4_look_68 : decode cX4_look 68 = .ok (.iload_n 3, 1) := by decide +kernel
theorem dX4_look_69 : decode cX4_look 69 = .ok (.ifCond .eq 19, 3) := by decide +kernel
theorem dX4_look_72 : decode cX4_look 72 = .ok (.aload_n 0, 1) := by decide +kernel
theorem dX4_look_73 : decode cX4_look 73 = .ok (.getfield 12, 3) := by decide +kernel
theorem dX4_look_76 : decode cX4_look 76 = .ok (.aload_n 0, 1) := by decide +kernel
theorem dX4_look_77 : decode cX4_look 77 = .ok (.getfield 12, 3) := by decide +kernel
theorem dX4_look_80 : decode cX4_look 80 = .ok (.iload_n 1, 1) := by decide +kernel
theorem dX4_look_81 : decode cX4_look 81 = .ok (.iload_n 2, 1) := by decide +kernel
theorem dX4_look_82 : decode cX4_look 82 = .ok (.invokevirtual 135, 3) := by decide +kernel
theorem dX4_look_85 : decode cX4_look 85 = .ok (.invokevirtual 138, 3) := by decide +kernel
theorem dX4_look_88 : decode cX4_look 88 = .ok (.aload_n 0, 1) := by decide +kernel
theorem dX4_look_89 : decode cX4_look 89 = .ok (.getfield 12, 3) := by decide +kernel
theorem dX4_look_92 : decode cX4_look 92 = .ok (.getfield 123, 3) := by decide +kernel
theorem dX4_look_95 : decode cX4_look 95 = .ok (.iload_n 1, 1) := by decide +kernel
theorem dX4_look_96 : decode cX4_look 96 = .ok (.iload_n 2, 1) := by decide +kernel
theorem dX4_look_97 : decode cX4_look 97 = .ok (.invokestatic 85, 3) := by decide +kernel
theorem dX4_look_100 : decode cX4_look 100 = .ok (.aload_n 0, 1) := by decide +kernel
theorem dX4_look_101 : decode cX4_look 101 = .ok (.getfield 12, 3) := by decide +kernel
theorem dX4_look_104 : decode cX4_look 104 = .ok (.iload_n 1, 1) := by decide +kernel
theorem dX4_look_105 : decode cX4_look 105 = .ok (.iload_n 2, 1) := by decide +kernel
theorem dX4_look_106 : decode cX4_look 106 = .ok (.invokevirtual 142, 3) := by decide +kernel
theorem dX4_look_109 : decode cX4_look 109 = .ok (.iastore, 1) := by decide +kernel
theorem dX4_look_110 : decode cX4_look 110 = .ok (.aload_n 0, 1) := by decide +kernel
theorem dX4_look_111 : decode cX4_look 111 = .ok (.getfield 12, 3) := by decide +kernel
theorem dX4_look_114 : decode cX4_look 114 = .ok (.getfield 145, 3) := by decide +kernel
theorem dX4_look_117 : decode cX4_look 117 = .ok (.iload_n 2, 1) := by decide +kernel
theorem dX4_look_118 : decode cX4_look 118 = .ok (.dup2, 1) := by decide +kernel
theorem dX4_look_119 : decode cX4_look 119 = .ok (.iaload, 1) := by decide +kernel
theorem dX4_look_120 : decode cX4_look 120 = .ok (.iconst 1, 1) := by decide +kernel
theorem dX4_look_121 : decode cX4_look 121 = .ok (.iload_n 1, 1) := by decide +kernel
theorem dX4_look_122 : decode cX4_look 122 = .ok (.ishl, 1) := by decide +kernel
theorem dX4_look_123 : decode cX4_look 123 = .ok (.ior, 1) := by decide +kernel
theorem dX4_look_124 : decode cX4_look 124 = .ok (.iastore, 1) := by decide +kernel
theorem dX4_look_125 : decode cX4_look 125 = .ok (.iload_n 3, 1) := by decide +kernel
theorem dX4_look_126 : decode cX4_look 126 = .ok (.ifCond .eq 7, 3) := by decide +kernel
theorem dX4_look_129 : decode cX4_look 129 = .ok (.iconst 1, 1) := by decide +kernel
theorem dX4_look_130 : decode cX4_look 130 = .ok (.goto 4, 3) := by decide +kernel
theorem dX4_look_133 : decode cX4_look 133 = .ok (.iconst 0, 1) := by decide +kernel
theorem dX4_look_134 : decode cX4_look 134 = .ok (.ireturn, 1) := by decide +kernel
set_option maxRecDepth 20000 in
theorem ggX4_guess_X3_isTeam : GoodIn wsX4_guess wsX3_isTeam := goodIn_r _ [9, 10, 46, 47, 48, 49, 50, 51, 52, 53, 54, 55, 56, 57] (by decide +kernel) (by decide +kernel)
set_option maxRecDepth 20000 in
theorem gX4_guess_X3_isTeam : GoodIn wsX4_guess (wsV RX4 63 RX3 yX3_isTeam wsX3_isTeam) := goodIn_app (goodIn_of _ (by decide +kernel)) ggX4_guess_X3_isTeam
set_option maxRecDepth 20000 in
theorem ggX4_guess_X0_record : GoodIn wsX4_guess wsX0_record := goodIn_r _ [15, 16, 17, 18, 19, 20, 21, 22, 23, 24, 8, 25, 26, 27, 28, 29, 30, 31, 32, 33, 34, 35, 36, 37, 38, 39, 10, 40, 58, 59, 60, 46, 47, 48, 49, 50, 51, 52, 53, 54, 55, 56, 57] (by decide +kernel) (by decide +kernel)
set_option maxRecDepth 20000 in
theorem gX4_guess_X0_record : GoodIn wsX4_guess (wsV RX4 45 RX0 yX0_record wsX0_record) := goodIn_app (goodIn_of _ (by decide +kernel)) ggX4_guess_X0_record
theorem dX4_guess_0 : decode cX4_guess 0 = .ok (.aload_n 0, 1) := by decide +kernel
theorem dX4_guess_1 : decode cX4_guess 1 = .ok (.getfield 12, 3) := by decide +kernel
theorem dX4_guess_4 : decode cX4_guess 4 = .ok (.iload_n 1, 1) := by decide +kernel
theorem dX4_guess_5 : decode cX4_guess 5 = .ok (.invokevirtual 63, 3) := by decide +kernel
theorem dX4_guess_8 : decode cX4_guess 8 = .ok (.ifCond .ne 5, 3) := by decide +kernel
theorem dX4_guess_11 : decode cX4_guess 11 = .ok (.iconst (-1), 1) := by decide +kernel
theorem dX4_guess_12 : decode cX4_guess 12 = .ok (.ireturn, 1) := by decide +kernel
theorem dX4_guess_13 : decode cX4_guess 13 = .ok (.iload_n 2, 1) := by decide +kernel
theorem dX4_guess_14 : decode cX4_guess 14 = .ok (.ifCond .lt 10, 3) := by decide +kernel
theorem dX4_guess_17 : decode cX4_guess 17 = .ok (.iload_n 2, 1) := by decide +kernel
theorem dX4_guess_18 : decode cX4_guess 18 = .ok (.sipush 9999, 3) := by decide +kernel
theorem dX4_guess_21 : decode cX4_guess 21 = .ok (.if_icmp .le 6, 3) := by decide +kernel
theorem dX4_guess_24 : decode cX4_guess 24 = .ok (.bipush (-2), 2) := by decide +kernel
theorem dX4_guess_26 : decode cX4_guess 26 = .ok (.ireturn, 1) := by decide +kernel
theorem dX4_guess_27 : decode cX4_guess 27 = .ok (.aload_n 0, 1) := by decide +kernel
theorem dX4_guess_28 : decode cX4_guess 28 = .ok (.getfield 12, 3) := by decide +kernel
theorem dX4_guess_31 : decode cX4_guess 31 = .ok (.getfield 148, 3) := by decide +kernel
theorem dX4_guess_34 : decode cX4_guess 34 = .ok (.bipush (-6), 2) := by decide +kernel
theorem dX4_guess_36 : decode cX4_guess 36 = .ok (.if_icmp .eq 6, 3) := by decide +kernel
theorem dX4_guess_39 : decode cX4_guess 39 = .ok (.bipush (-5), 2) := by decide +kernel
theorem dX4_guess_41 : decode cX4_guess 41 = .ok (.ireturn, 1) := by decide +kernel
theorem dX4_guess_42 : decode cX4_guess 42 = .ok (.aload_n 0, 1) := by decide +kernel
theorem dX4_guess_43 : decode cX4_guess 43 = .ok (.getfield 19, 3) := by decide +kernel
theorem dX4_guess_46 : decode cX4_guess 46 = .ok (.aload_n 0, 1) := by decide +kernel
theorem dX4_guess_47 : decode cX4_guess 47 = .ok (.getfield 12, 3) := by decide +kernel
theorem dX4_guess_50 : decode cX4_guess 50 = .ok (.invokevirtual 45, 3) := by decide +kernel
theorem dX4_guess_53 : decode cX4_guess 53 = .ok (.aload_n 0, 1) := by decide +kernel
theorem dX4_guess_54 : decode cX4_guess 54 = .ok (.getfield 12, 3) := by decide +kernel
theorem dX4_guess_57 : decode cX4_guess 57 = .ok (.getfield 151, 3) := by decide +kernel
theorem dX4_guess_60 : decode cX4_guess 60 = .ok (.iload_n 1, 1) := by decide +kernel
theorem dX4_guess_61 : decode cX4_guess 61 = .ok (.iaload, 1) := by decide +kernel
theorem dX4_guess_62 : decode cX4_guess 62 = .ok (.istore_n 3, 1) := by decide +kernel
theorem dX4_guess_63 : decode cX4_guess 63 = .ok (.aload_n 0, 1) := by decide +kernel
theorem dX4_guess_64 : decode cX4_guess 64 = .ok (.getfield 12, 3) := by decide +kernel
theorem dX4_guess_67 : decode cX4_guess 67 = .ok (.getfield 151, 3) := by decide +kernel
theorem dX4_guess_70 : decode cX4_guess 70 = .ok (.iload_n 1, 1) := by decide +kernel
theorem dX4_guess_71 : decode cX4_guess 71 = .ok (.iload_n 2, 1) := by decide +kernel
theorem dX4_guess_72 : decode cX4_guess 72 = .ok (.iastore, 1) := by decide +kernel
theorem dX4_guess_73 : decode cX4_guess 73 = .ok (.iload_n 3, 1) := by decide +kernel
theorem dX4_guess_74 : decode cX4_guess 74 = .ok (.ireturn, 1) := by decide +kernel
set_option maxRecDepth 20000 in
theorem ggX4_truth_X0_record : GoodIn wsX4_truth wsX0_record := goodIn_r _ [8, 9, 10, 11, 12, 13, 14, 15, 16, 17, 18, 19, 20, 21, 22, 23, 24, 25, 26, 27, 28, 29, 30, 31, 32, 33, 34, 35, 57, 58, 59, 45, 46, 47, 48, 49, 50, 51, 52, 53, 54, 55, 56] (by decide +kernel) (by decide +kernel)
set_option maxRecDepth 20000 in
theorem gX4_truth_X0_record : GoodIn wsX4_truth (wsV RX4 45 RX0 yX0_record wsX0_record) := goodIn_app (goodIn_of _ (by decide +kernel)) ggX4_truth_X0_record
set_option maxRecDepth 20000 in
theorem ggX4_truth_X3_guessers : GoodIn wsX4_truth wsX3_guessers := goodIn_r _ [39, 34, 28, 45, 46, 47, 48, 49, 50, 51, 52, 53, 54, 55, 56] (by decide +kernel) (by decide +kernel)
set_option maxRecDepth 20000 in
theorem gX4_truth_X3_guessers : GoodIn wsX4_truth (wsV RX4 154 RX3 yX3_guessers wsX3_guessers) := goodIn_app (goodIn_of _ (by decide +kernel)) ggX4_truth_X3_guessers
theorem dX4_truth_0 : decode cX4_truth 0 = .ok (.iload_n 1, 1) := by decide +kernel
theorem dX4_truth_1 : decode cX4_truth 1 = .ok (.ifCond .lt 10, 3) := by decide +kernel
theorem dX4_truth_4 : decode cX4_truth 4 = .ok (.iload_n 1, 1) := by decide +kernel
theorem dX4_truth_5 : decode cX4_truth 5 = .ok (.sipush 9999, 3) := by decide +kernel
theorem dX4_truth_8 : decode cX4_truth 8 = .ok (.if_icmp .le 6, 3) := by decide +kernel
theorem dX4_truth_11 : decode cX4_truth 11 = .ok (.bipush (-2), 2) := by decide +kernel
theorem dX4_truth_13 : decode cX4_truth 13 = .ok (.ireturn, 1) := by decide +kernel
theorem dX4_truth_14 : decode cX4_truth 14 = .ok (.aload_n 0, 1) := by decide +kernel
theorem dX4_truth_15 : decode cX4_truth 15 = .ok (.getfield 12, 3) := by decide +kernel
theorem dX4_truth_18 : decode cX4_truth 18 = .ok (.getfield 148, 3) := by decide +kernel
theorem dX4_truth_21 : decode cX4_truth 21 = .ok (.bipush (-6), 2) := by decide +kernel
theorem dX4_truth_23 : decode cX4_truth 23 = .ok (.if_icmp .eq 6, 3) := by decide +kernel
theorem dX4_truth_26 : decode cX4_truth 26 = .ok (.bipush (-5), 2) := by decide +kernel
theorem dX4_truth_28 : decode cX4_truth 28 = .ok (.ireturn, 1) := by decide +kernel
theorem dX4_truth_29 : decode cX4_truth 29 = .ok (.aload_n 0, 1) := by decide +kernel
theorem dX4_truth_30 : decode cX4_truth 30 = .ok (.getfield 19, 3) := by decide +kernel
theorem dX4_truth_33 : decode cX4_truth 33 = .ok (.aload_n 0, 1) := by decide +kernel
theorem dX4_truth_34 : decode cX4_truth 34 = .ok (.getfield 12, 3) := by decide +kernel
theorem dX4_truth_37 : decode cX4_truth 37 = .ok (.invokevirtual 45, 3) := by decide +kernel
theorem dX4_truth_40 : decode cX4_truth 40 = .ok (.aload_n 0, 1) := by decide +kernel
theorem dX4_truth_41 : decode cX4_truth 41 = .ok (.getfield 12, 3) := by decide +kernel
theorem dX4_truth_44 : decode cX4_truth 44 = .ok (.iload_n 1, 1) := by decide +kernel
theorem dX4_truth_45 : decode cX4_truth 45 = .ok (.putfield 148, 3) := by decide +kernel
theorem dX4_truth_48 : decode cX4_truth 48 = .ok (.aload_n 0, 1) := by decide +kernel
theorem dX4_truth_49 : decode cX4_truth 49 = .ok (.getfield 12, 3) := by decide +kernel
theorem dX4_truth_52 : decode cX4_truth 52 = .ok (.invokevirtual 154, 3) := by decide +kernel
theorem dX4_truth_55 : decode cX4_truth 55 = .ok (.ireturn, 1) := by decide +kernel
set_option maxRecDepth 20000 in
theorem ggX4_ofTeam_X3_isTeam : GoodIn wsX4_ofTeam wsX3_isTeam := goodIn_r _ [10, 11, 115, 116, 117, 118, 119, 120, 121, 122, 123, 124, 125, 126] (by decide +kernel) (by decide +kernel)
set_option maxRecDepth 20000 in
theorem gX4_ofTeam_X3_isTeam : GoodIn wsX4_ofTeam (wsV RX4 63 RX3 yX3_isTeam wsX3_isTeam) := goodIn_app (goodIn_of _ (by decide +kernel)) ggX4_ofTeam_X3_isTeam
set_option maxRecDepth 20000 in
theorem ggX4_ofTeam_X3_scoreOf : GoodIn wsX4_ofTeam wsX3_scoreOf := goodIn_r _ [15, 16, 17, 18, 19, 20, 9, 21, 22, 23, 24, 25, 26, 27, 28, 29, 30, 31, 115, 116, 117, 118, 119, 120, 121, 122, 123, 124, 125, 126] (by decide +kernel) (by decide +kernel)
set_option maxRecDepth 20000 in
theorem gX4_ofTeam_X3_scoreOf : GoodIn wsX4_ofTeam (wsV RX4 157 RX3 yX3_scoreOf wsX3_scoreOf) := goodIn_app (goodIn_of _ (by decide +kernel)) ggX4_ofTeam_X3_scoreOf
set_option maxRecDepth 20000 in
theorem ggX4_ofTeam_X3_rankOf : GoodIn wsX4_ofTeam wsX3_rankOf := goodIn_r _ [35, 11, 36, 37, 38, 9, 39, 40, 13, 14, 15, 16, 17, 18, 19, 20, 21, 22, 23, 24, 25, 26, 27, 28, 29, 30, 31, 41, 42, 43, 44, 45, 46, 47, 48, 49, 50, 115, 116, 117, 118, 119, 120, 121, 122, 123, 124, 125, 126] (by decide +kernel) (by decide +kernel)
set_option maxRecDepth 20000 in
theorem gX4_ofTeam_X3_rankOf : GoodIn wsX4_ofTeam (wsV RX4 160 RX3 yX3_rankOf wsX3_rankOf) := goodIn_app (goodIn_of _ (by decide +kernel)) ggX4_ofTeam_X3_rankOf
set_option maxRecDepth 20000 in
theorem ggX4_ofTeam_X3_prizeOf : GoodIn wsX4_ofTeam wsX3_prizeOf := goodIn_r _ [54, 55, 33, 34, 9, 35, 11, 36, 37, 38, 39, 40, 13, 14, 15, 16, 17, 18, 19, 20, 21, 22, 23, 24, 25, 26, 27, 28, 29, 30, 31, 41, 42, 43, 44, 45, 46, 47, 48, 49, 50, 56, 57, 58, 59, 60, 61, 62, 63, 64, 65, 66, 67, 68, 69, 70, 71, 72, 73, 74, 75, 76, 77, 78, 79, 80, 81, 82, 83, 84, 85, 86, 115, 116, 117, 118, 119, 120, 121, 122, 123, 124, 125, 126] (by decide +kernel) (by decide +kernel)
set_option maxRecDepth 20000 in
theorem gX4_ofTeam_X3_prizeOf : GoodIn wsX4_ofTeam (wsV RX4 163 RX3 yX3_prizeOf wsX3_prizeOf) := goodIn_app (goodIn_of _ (by decide +kernel)) ggX4_ofTeam_X3_prizeOf
set_option maxRecDepth 20000 in
theorem ggX4_ofTeam_X3_roundsWithSheet : GoodIn wsX4_ofTeam wsX3_roundsWithSheet := goodIn_r _ [90, 91, 92, 93, 9, 94, 95, 96, 24, 25, 26, 115, 116, 117, 118, 119, 120, 121, 122, 123, 124, 125, 126] (by decide +kernel) (by decide +kernel)
set_option maxRecDepth 20000 in
theorem gX4_ofTeam_X3_roundsWithSheet : GoodIn wsX4_ofTeam (wsV RX4 169 RX3 yX3_roundsWithSheet wsX3_roundsWithSheet) := goodIn_app (goodIn_of _ (by decide +kernel)) ggX4_ofTeam_X3_roundsWithSheet
set_option maxRecDepth 20000 in
theorem ggX4_ofTeam_X3_roundsTold : GoodIn wsX4_ofTeam wsX3_roundsTold := goodIn_r _ [100, 101, 102, 103, 9, 104, 105, 106, 107, 108, 22, 24, 25, 26, 115, 116, 117, 118, 119, 120, 121, 122, 123, 124, 125, 126] (by decide +kernel) (by decide +kernel)
set_option maxRecDepth 20000 in
theorem gX4_ofTeam_X3_roundsTold : GoodIn wsX4_ofTeam (wsV RX4 172 RX3 yX3_roundsTold wsX3_roundsTold) := goodIn_app (goodIn_of _ (by decide +kernel)) ggX4_ofTeam_X3_roundsTold
set_option maxRecDepth 20000 in
theorem ggX4_ofTeam_X3_tiedWith : GoodIn wsX4_ofTeam wsX3_tiedWith := goodIn_r _ [59, 11, 36, 37, 38, 9, 39, 40, 13, 14, 15, 16, 17, 18, 19, 20, 21, 22, 23, 24, 25, 26, 27, 28, 29, 30, 31, 41, 42, 43, 44, 45, 46, 47, 48, 49, 50, 115, 116, 117, 118, 119, 120, 121, 122, 123, 124, 125, 126] (by decide +kernel) (by decide +kernel)
set_option maxRecDepth 20000 in
theorem gX4_ofTeam_X3_tiedWith : GoodIn wsX4_ofTeam (wsV RX4 175 RX3 yX3_tiedWith wsX3_tiedWith) := goodIn_app (goodIn_of _ (by decide +kernel)) ggX4_ofTeam_X3_tiedWith
theorem dX4_ofTeam_0 : decode cX4_ofTeam 0 = .ok (.aload_n 0, 1) := by decide +kernel
theorem dX4_ofTeam_1 : decode cX4_ofTeam 1 = .ok (.getfield 12, 3) := by decide +kernel
theorem dX4_ofTeam_4 : decode cX4_ofTeam 4 = .ok (.iload_n 1, 1) := by decide +kernel
theorem dX4_ofTeam_5 : decode cX4_ofTeam 5 = .ok (.invokevirtual 63, 3) := by decide +kernel
theorem dX4_ofTeam_8 : decode cX4_ofTeam 8 = .ok (.ifCond .ne 5, 3) := by decide +kernel
theorem dX4_ofTeam_11 : decode cX4_ofTeam 11 = .ok (.iconst (-1), 1) := by decide +kernel
theorem dX4_ofTeam_12 : decode cX4_ofTeam 12 = .ok (.ireturn, 1) := by decide +kernel
theorem dX4_ofTeam_13 : decode cX4_ofTeam 13 = .ok (.iload_n 2, 1) := by decide +kernel
theorem dX4_ofTeam_14 : decode cX4_ofTeam 14 = .ok (.tableswitch 152 0 9 #[54, 67, 76, 85, 95, 105, 115, 124, 133, 143], 54) := by decide +kernel
theorem dX4_ofTeam_68 : decode cX4_ofTeam 68 = .ok (.aload_n 0, 1) := by decide +kernel
theorem dX4_ofTeam_69 : decode cX4_ofTeam 69 = .ok (.getfield 12, 3) := by decide +kernel
theorem dX4_ofTeam_72 : decode cX4_ofTeam 72 = .ok (.iload_n 1, 1) := by decide +kernel
theorem dX4_ofTeam_73 : decode cX4_ofTeam 73 = .ok (.invokevirtual 157, 3) := by decide +kernel
theorem dX4_ofTeam_76 : decode cX4_ofTeam 76 = .ok (.sipush 1000, 3) := by decide +kernel
theorem dX4_ofTeam_79 : decode cX4_ofTeam 79 = .ok (.iadd, 1) := by decide +kernel
theorem dX4_ofTeam_80 : decode cX4_ofTeam 80 = .ok (.ireturn, 1) := by decide +kernel
theorem dX4_ofTeam_81 : decode cX4_ofTeam 81 = .ok (.aload_n 0, 1) := by decide +kernel
theorem dX4_ofTeam_82 : decode cX4_ofTeam 82 = .ok (.getfield 12, 3) := by decide +kernel
theorem dX4_ofTeam_85 : decode cX4_ofTeam 85 = .ok (.iload_n 1, 1) := by decide +kernel
theorem dX4_ofTeam_86 : decode cX4_ofTeam 86 = .ok (.invokevirtual 160, 3) := by decide +kernel
theorem dX4_ofTeam_89 : decode cX4_ofTeam 89 = .ok (.ireturn, 1) := by decide +kernel
theorem dX4_ofTeam_90 : decode cX4_ofTeam 90 = .ok (.aload_n 0, 1) := by decide +kernel
theorem dX4_ofTeam_91 : decode cX4_ofTeam 91 = .ok (.getfield 12, 3) := by decide +kernel
theorem dX4_ofTeam_94 : decode cX4_ofTeam 94 = .ok (.iload_n 1, 1) := by decide +kernel
theorem dX4_ofTeam_95 : decode cX4_ofTeam 95 = .ok (.invokevirtual 163, 3) := by decide +kernel
theorem dX4_ofTeam_98 : decode cX4_ofTeam 98 = .ok (.ireturn, 1) := by decide +kernel
theorem dX4_ofTeam_99 : decode cX4_ofTeam 99 = .ok (.aload_n 0, 1) := by decide +kernel
theorem dX4_ofTeam_100 : decode cX4_ofTeam 100 = .ok (.getfield 12, 3) := by decide +kernel
theorem dX4_ofTeam_103 : decode cX4_ofTeam 103 = .ok (.getfield 99, 3) := by decide +kernel
theorem dX4_ofTeam_106 : decode cX4_ofTeam 106 = .ok (.iload_n 1, 1) := by decide +kernel
theorem dX4_ofTeam_107 : decode cX4_ofTeam 107 = .ok (.iaload, 1) := by decide +kernel
theorem dX4_ofTeam_108 : decode cX4_ofTeam 108 = .ok (.ireturn, 1) := by decide +kernel
theorem dX4_ofTeam_109 : decode cX4_ofTeam 109 = .ok (.aload_n 0, 1) := by decide +kernel
theorem dX4_ofTeam_110 : decode cX4_ofTeam 110 = .ok (.getfield 12, 3) := by decide +kernel
theorem dX4_ofTeam_113 : decode cX4_ofTeam 113 = .ok (.getfield 166, 3) := by decide +kernel
theorem dX4_ofTeam_116 : decode cX4_ofTeam 116 = .ok (.iload_n 1, 1) := by decide +kernel
theorem dX4_ofTeam_117 : decode cX4_ofTeam 117 = .ok (.iaload, 1) := by decide +kernel
theorem dX4_ofTeam_118 : decode cX4_ofTeam 118 = .ok (.ireturn, 1) := by decide +kernel
theorem dX4_ofTeam_119 : decode cX4_ofTeam 119 = .ok (.aload_n 0, 1) := by decide +kernel
theorem dX4_ofTeam_120 : decode cX4_ofTeam 120 = .ok (.getfield 12, 3) := by decide +kernel
theorem dX4_ofTeam_123 : decode cX4_ofTeam 123 = .ok (.getfield 151, 3) := by decide +kernel
theorem dX4_ofTeam_126 : decode cX4_ofTeam 126 = .ok (.iload_n 1, 1) := by decide +kernel
theorem dX4_ofTeam_127 : decode cX4_ofTeam 127 = .ok (.iaload, 1) := by decide +kernel
theorem dX4_ofTeam_128 : decode cX4_ofTeam 128 = .ok (.ireturn, 1) := by decide +kernel
theorem dX4_ofTeam_129 : decode cX4_ofTeam 129 = .ok (.aload_n 0, 1) := by decide +kernel
theorem dX4_ofTeam_130 : decode cX4_ofTeam 130 = .ok (.getfield 12, 3) := by decide +kernel
theorem dX4_ofTeam_133 : decode cX4_ofTeam 133 = .ok (.iload_n 1, 1) := by decide +kernel
theorem dX4_ofTeam_134 : decode cX4_ofTeam 134 = .ok (.invokevirtual 169, 3) := by decide +kernel
theorem dX4_ofTeam_137 : decode cX4_ofTeam 137 = .ok (.ireturn, 1) := by decide +kernel
theorem dX4_ofTeam_138 : decode cX4_ofTeam 138 = .ok (.aload_n 0, 1) := by decide +kernel
theorem dX4_ofTeam_139 : decode cX4_ofTeam 139 = .ok (.getfield 12, 3) := by decide +kernel
theorem dX4_ofTeam_142 : decode cX4_ofTeam 142 = .ok (.iload_n 1, 1) := by decide +kernel
theorem dX4_ofTeam_143 : decode cX4_ofTeam 143 = .ok (.invokevirtual 172, 3) := by decide +kernel
theorem dX4_ofTeam_146 : decode cX4_ofTeam 146 = .ok (.ireturn, 1) := by decide +kernel
theorem dX4_ofTeam_147 : decode cX4_ofTeam 147 = .ok (.aload_n 0, 1) := by decide +kernel
theorem dX4_ofTeam_148 : decode cX4_ofTeam 148 = .ok (.getfield 12, 3) := by decide +kernel
theorem dX4_ofTeam_151 : decode cX4_ofTeam 151 = .ok (.getfield 60, 3) := by decide +kernel
theorem dX4_ofTeam_154 : decode cX4_ofTeam 154 = .ok (.iload_n 1, 1) := by decide +kernel
theorem dX4_ofTeam_155 : decode cX4_ofTeam 155 = .ok (.iaload, 1) := by decide +kernel
theorem dX4_ofTeam_156 : decode cX4_ofTeam 156 = .ok (.ireturn, 1) := by decide +kernel
theorem dX4_ofTeam_157 : decode cX4_ofTeam 157 = .ok (.aload_n 0, 1) := by decide +kernel
theorem dX4_ofTeam_158 : decode cX4_ofTeam 158 = .ok (.getfield 12, 3) := by decide +kernel
theorem dX4_ofTeam_161 : decode cX4_ofTeam 161 = .ok (.iload_n 1, 1) := by decide +kernel
theorem dX4_ofTeam_162 : decode cX4_ofTeam 162 = .ok (.invokevirtual 175, 3) := by decide +kernel
theorem dX4_ofTeam_165 : decode cX4_ofTeam 165 = .ok (.ireturn, 1) := by decide +kernel
theorem dX4_ofTeam_166 : decode cX4_ofTeam 166 = .ok (.bipush (-2), 2) := by decide +kernel
theorem dX4_ofTeam_168 : decode cX4_ofTeam 168 = .ok (.ireturn, 1) := by decide +kernel
set_option maxRecDepth 20000 in
theorem ggX4_ofRound_X4_isRound : GoodIn wsX4_ofRound wsX4_isRound := goodIn_r _ [7] (by decide +kernel) (by decide +kernel)
set_option maxRecDepth 20000 in
theorem gX4_ofRound_X4_isRound : GoodIn wsX4_ofRound (va_wsS RX4 67 yX4_isRound wsX4_isRound) := goodIn_app (goodIn_of _ (by decide +kernel)) ggX4_ofRound_X4_isRound
set_option maxRecDepth 20000 in
theorem ggX4_ofRound_X3_isOpen : GoodIn wsX4_ofRound wsX3_isOpen := goodIn_r _ [12, 13, 14, 67, 68, 69, 70, 71, 72, 73, 74, 75, 76, 77, 78] (by decide +kernel) (by decide +kernel)
set_option maxRecDepth 20000 in
theorem gX4_ofRound_X3_isOpen : GoodIn wsX4_ofRound (wsV RX4 74 RX3 yX3_isOpen wsX3_isOpen) := goodIn_app (goodIn_of _ (by decide +kernel)) ggX4_ofRound_X3_isOpen
set_option maxRecDepth 20000 in
theorem ggX4_ofRound_X3_teamsWithSheet : GoodIn wsX4_ofRound wsX3_teamsWithSheet := goodIn_r _ [18, 19, 20, 21, 22, 11, 23, 24, 14, 25, 6, 26, 67, 68, 69, 70, 71, 72, 73, 74, 75, 76, 77, 78] (by decide +kernel) (by decide +kernel)
set_option maxRecDepth 20000 in
theorem gX4_ofRound_X3_teamsWithSheet : GoodIn wsX4_ofRound (wsV RX4 117 RX3 yX3_teamsWithSheet wsX3_teamsWithSheet) := goodIn_app (goodIn_of _ (by decide +kernel)) ggX4_ofRound_X3_teamsWithSheet
set_option maxRecDepth 20000 in
theorem ggX4_ofRound_X3_teamsWithJoker : GoodIn wsX4_ofRound wsX3_teamsWithJoker := goodIn_r _ [30, 19, 31, 67, 68, 69, 70, 71, 72, 73, 74, 75, 76, 77, 78] (by decide +kernel) (by decide +kernel)
set_option maxRecDepth 20000 in
theorem gX4_ofRound_X3_teamsWithJoker : GoodIn wsX4_ofRound (wsV RX4 102 RX3 yX3_teamsWithJoker wsX3_teamsWithJoker) := goodIn_app (goodIn_of _ (by decide +kernel)) ggX4_ofRound_X3_teamsWithJoker
set_option maxRecDepth 20000 in
theorem ggX4_ofRound_X3_teamsTold : GoodIn wsX4_ofRound wsX3_teamsTold := goodIn_r _ [35, 19, 36, 37, 38, 11, 39, 40, 41, 42, 43, 44, 25, 6, 26, 67, 68, 69, 70, 71, 72, 73, 74, 75, 76, 77, 78] (by decide +kernel) (by decide +kernel)
set_option maxRecDepth 20000 in
theorem gX4_ofRound_X3_teamsTold : GoodIn wsX4_ofRound (wsV RX4 178 RX3 yX3_teamsTold wsX3_teamsTold) := goodIn_app (goodIn_of _ (by decide +kernel)) ggX4_ofRound_X3_teamsTold
set_option maxRecDepth 20000 in
theorem ggX4_ofRound_X3_greatestPoints : GoodIn wsX4_ofRound wsX3_greatestPoints := goodIn_r _ [48, 19, 49, 50, 51, 52, 53, 54, 55, 11, 56, 44, 57, 25, 6, 26, 58, 59, 60, 61, 31, 67, 68, 69, 70, 71, 72, 73, 74, 75, 76, 77, 78] (by decide +kernel) (by decide +kernel)
set_option maxRecDepth 20000 in
theorem gX4_ofRound_X3_greatestPoints : GoodIn wsX4_ofRound (wsV RX4 181 RX3 yX3_greatestPoints wsX3_greatestPoints) := goodIn_app (goodIn_of _ (by decide +kernel)) ggX4_ofRound_X3_greatestPoints
theorem dX4_ofRound_0 : decode cX4_ofRound 0 = .ok (.iload_n 1, 1) := by decide +kernel
theorem dX4_ofRound_1 : decode cX4_ofRound 1 = .ok (.invokestatic 67, 3) := by decide +kernel
theorem dX4_ofRound_4 : decode cX4_ofRound 4 = .ok (.ifCond .ne 5, 3) := by decide +kernel
theorem dX4_ofRound_7 : decode cX4_ofRound 7 = .ok (.iconst (-1), 1) := by decide +kernel
theorem dX4_ofRound_8 : decode cX4_ofRound 8 = .ok (.ireturn, 1) := by decide +kernel
theorem dX4_ofRound_9 : decode cX4_ofRound 9 = .ok (.iload_n 2, 1) := by decide +kernel
theorem dX4_ofRound_10 : decode cX4_ofRound 10 = .ok (.tableswitch 119 0 5 #[38, 55, 64, 73, 82, 92], 38) := by decide +kernel
theorem dX4_ofRound_48 : decode cX4_ofRound 48 = .ok (.aload_n 0, 1) := by decide +kernel
theorem dX4_ofRound_49 : decode cX4_ofRound 49 = .ok (.getfield 12, 3) := by decide +kernel
theorem dX4_ofRound_52 : decode cX4_ofRound 52 = .ok (.iload_n 1, 1) := by decide +kernel
theorem dX4_ofRound_53 : decode cX4_ofRound 53 = .ok (.invokevirtual 74, 3) := by decide +kernel
theorem dX4_ofRound_56 : decode cX4_ofRound 56 = .ok (.ifCond .eq 7, 3) := by decide +kernel
theorem dX4_ofRound_59 : decode cX4_ofRound 59 = .ok (.iconst 1, 1) := by decide +kernel
theorem dX4_ofRound_60 : decode cX4_ofRound 60 = .ok (.goto 4, 3) := by decide +kernel
theorem dX4_ofRound_63 : decode cX4_ofRound 63 = .ok (.iconst 0, 1) := by decide +kernel
theorem dX4_ofRound_64 : decode cX4_ofRound 64 = .ok (.ireturn, 1) := by decide +kernel
theorem dX4_ofRound_65 : decode cX4_ofRound 65 = .ok (.aload_n 0, 1) := by decide +kernel
theorem dX4_ofRound_66 : decode cX4_ofRound 66 = .ok (.getfield 12, 3) := by decide +kernel
theorem dX4_ofRound_69 : decode cX4_ofRound 69 = .ok (.iload_n 1, 1) := by decide +kernel
theorem dX4_ofRound_70 : decode cX4_ofRound 70 = .ok (.invokevirtual 117, 3) := by decide +kernel
theorem dX4_ofRound_73 : decode cX4_ofRound 73 = .ok (.ireturn, 1) := by decide +kernel
theorem dX4_ofRound_74 : decode cX4_ofRound 74 = .ok (.aload_n 0, 1) := by decide +kernel
theorem dX4_ofRound_75 : decode cX4_ofRound 75 = .ok (.getfield 12, 3) := by decide +kernel
theorem dX4_ofRound_78 : decode cX4_ofRound 78 = .ok (.iload_n 1, 1) := by decide +kernel
theorem dX4_ofRound_79 : decode cX4_ofRound 79 = .ok (.invokevirtual 102, 3) := by decide +kernel
theorem dX4_ofRound_82 : decode cX4_ofRound 82 = .ok (.ireturn, 1) := by decide +kernel
theorem dX4_ofRound_83 : decode cX4_ofRound 83 = .ok (.aload_n 0, 1) := by decide +kernel
theorem dX4_ofRound_84 : decode cX4_ofRound 84 = .ok (.getfield 12, 3) := by decide +kernel
theorem dX4_ofRound_87 : decode cX4_ofRound 87 = .ok (.iload_n 1, 1) := by decide +kernel
theorem dX4_ofRound_88 : decode cX4_ofRound 88 = .ok (.invokevirtual 178, 3) := by decide +kernel
theorem dX4_ofRound_91 : decode cX4_ofRound 91 = .ok (.ireturn, 1) := by decide +kernel
theorem dX4_ofRound_92 : decode cX4_ofRound 92 = .ok (.aload_n 0, 1) := by decide +kernel
theorem dX4_ofRound_93 : decode cX4_ofRound 93 = .ok (.getfield 12, 3) := by decide +kernel
theorem dX4_ofRound_96 : decode cX4_ofRound 96 = .ok (.getfield 145, 3) := by decide +kernel
theorem dX4_ofRound_99 : decode cX4_ofRound 99 = .ok (.iload_n 1, 1) := by decide +kernel
theorem dX4_ofRound_100 : decode cX4_ofRound 100 = .ok (.iaload, 1) := by decide +kernel
theorem dX4_ofRound_101 : decode cX4_ofRound 101 = .ok (.ireturn, 1) := by decide +kernel
theorem dX4_ofRound_102 : decode cX4_ofRound 102 = .ok (.aload_n 0, 1) := by decide +kernel
theorem dX4_ofRound_103 : decode cX4_ofRound 103 = .ok (.getfield 12, 3) := by decide +kernel
theorem dX4_ofRound_106 : decode cX4_ofRound 106 = .ok (.getfield 52, 3) := by decide +kernel
theorem dX4_ofRound_109 : decode cX4_ofRound 109 = .ok (.ifCond .ne 8, 3) := by decide +kernel
theorem dX4_ofRound_112 : decode cX4_ofRound 112 = .ok (.bipush (-6), 2) := by decide +kernel
theorem dX4_ofRound_114 : decode cX4_ofRound 114 = .ok (.goto 14, 3) := by decide +kernel
theorem dX4_ofRound_117 : decode cX4_ofRound 117 = .ok (.aload_n 0, 1) := by decide +kernel
theorem dX4_ofRound_118 : decode cX4_ofRound 118 = .ok (.getfield 12, 3) := by decide +kernel
theorem dX4_ofRound_121 : decode cX4_ofRound 121 = .ok (.iload_n 1, 1) := by decide +kernel
theorem dX4_ofRound_122 : decode cX4_ofRound 122 = .ok (.invokevirtual 181, 3) := by decide +kernel
theorem dX4_ofRound_125 : decode cX4_ofRound 125 = .ok (.bipush 100, 2) := by decide +kernel
theorem dX4_ofRound_127 : decode cX4_ofRound 127 = .ok (.iadd, 1) := by decide +kernel
theorem dX4_ofRound_128 : decode cX4_ofRound 128 = .ok (.ireturn, 1) := by decide +kernel
theorem dX4_ofRound_129 : decode cX4_ofRound 129 = .ok (.bipush (-2), 2) := by decide +kernel
theorem dX4_ofRound_131 : decode cX4_ofRound 131 = .ok (.ireturn, 1) := by decide +kernel
set_option maxRecDepth 20000 in
theorem ggX4_sheet_X3_isTeam : GoodIn wsX4_sheet wsX3_isTeam := goodIn_r _ [6, 7, 67, 68, 69, 70, 71, 72, 73, 74, 75, 76, 77, 78] (by decide +kernel) (by decide +kernel)
set_option maxRecDepth 20000 in
theorem gX4_sheet_X3_isTeam : GoodIn wsX4_sheet (wsV RX4 63 RX3 yX3_isTeam wsX3_isTeam) := goodIn_app (goodIn_of _ (by decide +kernel)) ggX4_sheet_X3_isTeam
set_option maxRecDepth 20000 in
theorem ggX4_sheet_X4_isRound : GoodIn wsX4_sheet wsX4_isRound := goodIn_r _ [11] (by decide +kernel) (by decide +kernel)
set_option maxRecDepth 20000 in
theorem gX4_sheet_X4_isRound : GoodIn wsX4_sheet (va_wsS RX4 67 yX4_isRound wsX4_isRound) := goodIn_app (goodIn_of _ (by decide +kernel)) ggX4_sheet_X4_isRound
set_option maxRecDepth 20000 in
theorem ggX4_sheet_X3_hasSheet : GoodIn wsX4_sheet wsX3_hasSheet := goodIn_r _ [15, 16, 17, 18, 10, 19, 67, 68, 69, 70, 71, 72, 73, 74, 75, 76, 77, 78] (by decide +kernel) (by decide +kernel)
set_option maxRecDepth 20000 in
theorem gX4_sheet_X3_hasSheet : GoodIn wsX4_sheet (wsV RX4 77 RX3 yX3_hasSheet wsX3_hasSheet) := goodIn_app (goodIn_of _ (by decide +kernel)) ggX4_sheet_X3_hasSheet
set_option maxRecDepth 20000 in
theorem ggX4_sheet_X3_isTold : GoodIn wsX4_sheet wsX3_isTold := goodIn_r _ [23, 24, 25, 26, 5, 27, 28, 18, 10, 19, 67, 68, 69, 70, 71, 72, 73, 74, 75, 76, 77, 78] (by decide +kernel) (by decide +kernel)
set_option maxRecDepth 20000 in
theorem gX4_sheet_X3_isTold : GoodIn wsX4_sheet (wsV RX4 120 RX3 yX3_isTold wsX3_isTold) := goodIn_app (goodIn_of _ (by decide +kernel)) ggX4_sheet_X3_isTold
set_option maxRecDepth 20000 in
theorem ggX4_sheet_X3_markOf : GoodIn wsX4_sheet wsX3_markOf := goodIn_r _ [32, 33, 18, 10, 19, 67, 68, 69, 70, 71, 72, 73, 74, 75, 76, 77, 78] (by decide +kernel) (by decide +kernel)
set_option maxRecDepth 20000 in
theorem gX4_sheet_X3_markOf : GoodIn wsX4_sheet (wsV RX4 184 RX3 yX3_markOf wsX3_markOf) := goodIn_app (goodIn_of _ (by decide +kernel)) ggX4_sheet_X3_markOf
set_option maxRecDepth 20000 in
theorem ggX4_sheet_X3_markerOf : GoodIn wsX4_sheet wsX3_markerOf := goodIn_r _ [27, 28, 18, 10, 19, 67, 68, 69, 70, 71, 72, 73, 74, 75, 76, 77, 78] (by decide +kernel) (by decide +kernel)
set_option maxRecDepth 20000 in
theorem gX4_sheet_X3_markerOf : GoodIn wsX4_sheet (wsV RX4 135 RX3 yX3_markerOf wsX3_markerOf) := goodIn_app (goodIn_of _ (by decide +kernel)) ggX4_sheet_X3_markerOf
set_option maxRecDepth 20000 in
theorem ggX4_sheet_X3_pointsOf : GoodIn wsX4_sheet wsX3_pointsOf := goodIn_r _ [38, 28, 33, 18, 10, 19, 39, 40, 41, 5, 42, 43, 67, 68, 69, 70, 71, 72, 73, 74, 75, 76, 77, 78] (by decide +kernel) (by decide +kernel)
set_option maxRecDepth 20000 in
theorem gX4_sheet_X3_pointsOf : GoodIn wsX4_sheet (wsV RX4 187 RX3 yX3_pointsOf wsX3_pointsOf) := goodIn_app (goodIn_of _ (by decide +kernel)) ggX4_sheet_X3_pointsOf
set_option maxRecDepth 20000 in
theorem ggX4_sheet_X3_isOpen : GoodIn wsX4_sheet wsX3_isOpen := goodIn_r _ [47, 48, 17, 67, 68, 69, 70, 71, 72, 73, 74, 75, 76, 77, 78] (by decide +kernel) (by decide +kernel)
set_option maxRecDepth 20000 in
theorem gX4_sheet_X3_isOpen : GoodIn wsX4_sheet (wsV RX4 74 RX3 yX3_isOpen wsX3_isOpen) := goodIn_app (goodIn_of _ (by decide +kernel)) ggX4_sheet_X3_isOpen
set_option maxRecDepth 20000 in
theorem ggX4_sheet_X3_trueMark : GoodIn wsX4_sheet wsX3_trueMark := goodIn_r _ [52, 16, 48, 53, 18, 10, 19, 54, 55, 56, 57, 67, 68, 69, 70, 71, 72, 73, 74, 75, 76, 77, 78] (by decide +kernel) (by decide +kernel)
set_option maxRecDepth 20000 in
theorem gX4_sheet_X3_trueMark : GoodIn wsX4_sheet (wsV RX4 142 RX3 yX3_trueMark wsX3_trueMark) := goodIn_app (goodIn_of _ (by decide +kernel)) ggX4_sheet_X3_trueMark
set_option maxRecDepth 20000 in
theorem ggX4_sheet_X3_answered : GoodIn wsX4_sheet wsX3_answered := goodIn_r _ [61, 16, 18, 10, 19, 54, 55, 56, 57, 67, 68, 69, 70, 71, 72, 73, 74, 75, 76, 77, 78] (by decide +kernel) (by decide +kernel)
set_option maxRecDepth 20000 in
theorem gX4_sheet_X3_answered : GoodIn wsX4_sheet (wsV RX4 96 RX3 yX3_answered wsX3_answered) := goodIn_app (goodIn_of _ (by decide +kernel)) ggX4_sheet_X3_answered
theorem dX4_sheet_0 : decode cX4_sheet 0 = .ok (.aload_n 0, 1) := by decide +kernel
theorem dX4_sheet_1 : decode cX4_sheet 1 = .ok (.getfield 12, 3) := by decide +kernel
theorem dX4_sheet_4 : decode cX4_sheet 4 = .ok (.iload_n 1, 1) := by decide +kernel
theorem dX4_sheet_5 : decode cX4_sheet 5 = .ok (.invokevirtual 63, 3) := by decide +kernel
theorem dX4_sheet_8 : decode cX4_sheet 8 = .ok (.ifCond .eq 22, 3) := by decide +kernel
theorem dX4_sheet_11 : decode cX4_sheet 11 = .ok (.iload_n 2, 1) := by decide +kernel
theorem dX4_sheet_12 : decode cX4_sheet 12 = .ok (.invokestatic 67, 3) := by decide +kernel
theorem dX4_sheet_15 : decode cX4_sheet 15 = .ok (.ifCond .eq 15, 3) := by decide +kernel
theorem dX4_sheet_18 : decode cX4_sheet 18 = .ok (.aload_n 0, 1) := by decide +kernel
theorem dX4_sheet_19 : decode cX4_sheet 19 = .ok (.getfield 12, 3) := by decide +kernel
theorem dX4_sheet_22 : decode cX4_sheet 22 = .ok (.iload_n 1, 1) := by decide +kernel
theorem dX4_sheet_23 : decode cX4_sheet 23 = .ok (.iload_n 2, 1) := by decide +kernel
theorem dX4_sheet_24 : decode cX4_sheet 24 = .ok (.invokevirtual 77, 3) := by decide +kernel
theorem dX4_sheet_27 : decode cX4_sheet 27 = .ok (.ifCond .ne 5, 3) := by decide +kernel
theorem dX4_sheet_30 : decode cX4_sheet 30 = .ok (.iconst (-1), 1) := by decide +kernel
theorem dX4_sheet_31 : decode cX4_sheet 31 = .ok (.ireturn, 1) := by decide +kernel
theorem dX4_sheet_32 : decode cX4_sheet 32 = .ok (.iload_n 3, 1) := by decide +kernel
theorem dX4_sheet_33 : decode cX4_sheet 33 = .ok (.tableswitch 127 0 4 #[35, 65, 75, 88, 117], 35) := by decide +kernel
theorem dX4_sheet_68 : decode cX4_sheet 68 = .ok (.aload_n 0, 1) := by decide +kernel
theorem dX4_sheet_69 : decode cX4_sheet 69 = .ok (.getfield 12, 3) := by decide +kernel
theorem dX4_sheet_72 : decode cX4_sheet 72 = .ok (.iload_n 1, 1) := by decide +kernel
theorem dX4_sheet_73 : decode cX4_sheet 73 = .ok (.iload_n 2, 1) := by decide +kernel
theorem dX4_sheet_74 : decode cX4_sheet 74 = .ok (.invokevirtual 120, 3) := by decide +kernel
theorem dX4_sheet_77 : decode cX4_sheet 77 = .ok (.ifCond .eq 18, 3) := by decide +kernel
theorem dX4_sheet_80 : decode cX4_sheet 80 = .ok (.aload_n 0, 1) := by decide +kernel
theorem dX4_sheet_81 : decode cX4_sheet 81 = .ok (.getfield 12, 3) := by decide +kernel
theorem dX4_sheet_84 : decode cX4_sheet 84 = .ok (.iload_n 1, 1) := by decide +kernel
theorem dX4_sheet_85 : decode cX4_sheet 85 = .ok (.iload_n 2, 1) := by decide +kernel
theorem dX4_sheet_86 : decode cX4_sheet 86 = .ok (.invokevirtual 184, 3) := by decide +kernel
theorem dX4_sheet_89 : decode cX4_sheet 89 = .ok (.bipush 100, 2) := by decide +kernel
theorem dX4_sheet_91 : decode cX4_sheet 91 = .ok (.iadd, 1) := by decide +kernel
theorem dX4_sheet_92 : decode cX4_sheet 92 = .ok (.goto 5, 3) := by decide +kernel
theorem dX4_sheet_95 : decode cX4_sheet 95 = .ok (.bipush (-6), 2) := by decide +kernel
theorem dX4_sheet_97 : decode cX4_sheet 97 = .ok (.ireturn, 1) := by decide +kernel
theorem dX4_sheet_98 : decode cX4_sheet 98 = .ok (.aload_n 0, 1) := by decide +kernel
theorem dX4_sheet_99 : decode cX4_sheet 99 = .ok (.getfield 12, 3) := by decide +kernel
theorem dX4_sheet_102 : decode cX4_sheet 102 = .ok (.iload_n 1, 1) := by decide +kernel
theorem dX4_sheet_103 : decode cX4_sheet 103 = .ok (.iload_n 2, 1) := by decide +kernel
theorem dX4_sheet_104 : decode cX4_sheet 104 = .ok (.invokevirtual 135, 3) := by decide +kernel
theorem dX4_sheet_107 : decode cX4_sheet 107 = .ok (.ireturn, 1) := by decide +kernel
theorem dX4_sheet_108 : decode cX4_sheet 108 = .ok (.aload_n 0, 1) := by decide +kernel
theorem dX4_sheet_109 : decode cX4_sheet 109 = .ok (.getfield 12, 3) := by decide +kernel
theorem dX4_sheet_112 : decode cX4_sheet 112 = .ok (.iload_n 1, 1) := by decide +kernel
theorem dX4_sheet_113 : decode cX4_sheet 113 = .ok (.iload_n 2, 1) := by decide +kernel
theorem dX4_sheet_114 : decode cX4_sheet 114 = .ok (.invokevirtual 187, 3) := by decide +kernel
theorem dX4_sheet_117 : decode cX4_sheet 117 = .ok (.bipush 100, 2) := by decide +kernel
theorem dX4_sheet_119 : decode cX4_sheet 119 = .ok (.iadd, 1) := by decide +kernel
theorem dX4_sheet_120 : decode cX4_sheet 120 = .ok (.ireturn, 1) := by decide +kernel
theorem dX4_sheet_121 : decode cX4_sheet 121 = .ok (.aload_n 0, 1) := by decide +kernel
theorem dX4_sheet_122 : decode cX4_sheet 122 = .ok (.getfield 12, 3) := by decide +kernel
theorem dX4_sheet_125 : decode cX4_sheet 125 = .ok (.iload_n 2, 1) := by decide +kernel
theorem dX4_sheet_126 : decode cX4_sheet 126 = .ok (.invokevirtual 74, 3) := by decide +kernel
theorem dX4_sheet_129 : decode cX4_sheet 129 = .ok (.ifCond .eq 8, 3) := by decide +kernel
theorem dX4_sheet_132 : decode cX4_sheet 132 = .ok (.bipush (-6), 2) := by decide +kernel
theorem dX4_sheet_134 : decode cX4_sheet 134 = .ok (.goto 15, 3) := by decide +kernel
theorem dX4_sheet_137 : decode cX4_sheet 137 = .ok (.aload_n 0, 1) := by decide +kernel
theorem dX4_sheet_138 : decode cX4_sheet 138 = .ok (.getfield 12, 3) := by decide +kernel
theorem dX4_sheet_141 : decode cX4_sheet 141 = .ok (.iload_n 1, 1) := by decide +kernel
theorem dX4_sheet_142 : decode cX4_sheet 142 = .ok (.iload_n 2, 1) := by decide +kernel
theorem dX4_sheet_143 : decode cX4_sheet 143 = .ok (.invokevirtual 142, 3) := by decide +kernel
theorem dX4_sheet_146 : decode cX4_sheet 146 = .ok (.bipush 100, 2) := by decide +kernel
theorem dX4_sheet_148 : decode cX4_sheet 148 = .ok (.iadd, 1) := by decide +kernel
theorem dX4_sheet_149 : decode cX4_sheet 149 = .ok (.ireturn, 1) := by decide +kernel
theorem dX4_sheet_150 : decode cX4_sheet 150 = .ok (.aload_n 0, 1) := by decide +kernel
theorem dX4_sheet_151 : decode cX4_sheet 151 = .ok (.getfield 12, 3) := by decide +kernel
theorem dX4_sheet_154 : decode cX4_sheet 154 = .ok (.iload_n 1, 1) := by decide +kernel
theorem dX4_sheet_155 : decode cX4_sheet 155 = .ok (.iload_n 2, 1) := by decide +kernel
theorem dX4_sheet_156 : decode cX4_sheet 156 = .ok (.invokevirtual 96, 3) := by decide +kernel
theorem dX4_sheet_159 : decode cX4_sheet 159 = .ok (.ireturn, 1) := by decide +kernel
theorem dX4_sheet_160 : decode cX4_sheet 160 = .ok (.bipush (-2), 2) := by decide +kernel
theorem dX4_sheet_162 : decode cX4_sheet 162 = .ok (.ireturn, 1) := by decide +kernel
set_option maxRecDepth 20000 in
theorem ggX4_at_X3_placeOf : GoodIn wsX4_at wsX3_placeOf := goodIn_r _ [7, 8, 9, 10, 6, 11, 12, 13, 14, 15, 16, 17, 18, 19, 20, 21, 22, 23, 24, 25, 26, 27, 28, 29, 30, 31, 32, 33, 34, 35, 36, 37, 38, 39, 40, 41, 42, 43, 44, 45, 46, 47, 48, 49, 50, 51, 52, 53, 54, 55, 56, 57, 58, 59, 60, 66, 67, 68, 69, 70, 71, 72, 73, 74, 75, 76, 77] (by decide +kernel) (by decide +kernel)
set_option maxRecDepth 20000 in
theorem gX4_at_X3_placeOf : GoodIn wsX4_at (wsV RX4 196 RX3 yX3_placeOf wsX3_placeOf) := goodIn_app (goodIn_of _ (by decide +kernel)) ggX4_at_X3_placeOf
theorem dX4_at_0 : decode cX4_at 0 = .ok (.iconst 0, 1) := by decide +kernel
theorem dX4_at_1 : decode cX4_at 1 = .ok (.istore_n 2, 1) := by decide +kernel
theorem dX4_at_2 : decode cX4_at 2 = .ok (.iload_n 2, 1) := by decide +kernel
theorem dX4_at_3 : decode cX4_at 3 = .ok (.aload_n 0, 1) := by decide +kernel
theorem dX4_at_4 : decode cX4_at 4 = .ok (.getfield 12, 3) := by decide +kernel
theorem dX4_at_7 : decode cX4_at 7 = .ok (.getfield 52, 3) := by decide +kernel
theorem dX4_at_10 : decode cX4_at 10 = .ok (.if_icmp .ge 23, 3) := by decide +kernel
theorem dX4_at_13 : decode cX4_at 13 = .ok (.aload_n 0, 1) := by decide +kernel
theorem dX4_at_14 : decode cX4_at 14 = .ok (.getfield 12, 3) := by decide +kernel
theorem dX4_at_17 : decode cX4_at 17 = .ok (.iload_n 2, 1) := by decide +kernel
theorem dX4_at_18 : decode cX4_at 18 = .ok (.invokevirtual 196, 3) := by decide +kernel
theorem dX4_at_21 : decode cX4_at 21 = .ok (.iload_n 1, 1) := by decide +kernel
theorem dX4_at_22 : decode cX4_at 22 = .ok (.if_icmp .ne 5, 3) := by decide +kernel
theorem dX4_at_25 : decode cX4_at 25 = .ok (.iload_n 2, 1) := by decide +kernel
theorem dX4_at_26 : decode cX4_at 26 = .ok (.ireturn, 1) := by decide +kernel
theorem dX4_at_27 : decode cX4_at 27 = .ok (.iinc 2 1, 3) := by decide +kernel
theorem dX4_at_30 : decode cX4_at 30 = .ok (.goto (-28), 3) := by decide +kernel
theorem dX4_at_33 : decode cX4_at 33 = .ok (.iconst (-1), 1) := by decide +kernel
theorem dX4_at_34 : decode cX4_at 34 = .ok (.ireturn, 1) := by decide +kernel
set_option maxRecDepth 20000 in
theorem ggX4_count_X3_entries : GoodIn wsX4_count wsX3_entries := goodIn_r _ [11, 12, 13, 95, 96, 97, 98, 99, 100, 101, 102, 103, 104, 105, 106] (by decide +kernel) (by decide +kernel)
set_option maxRecDepth 20000 in
theorem gX4_count_X3_entries : GoodIn wsX4_count (wsV RX4 199 RX3 yX3_entries wsX3_entries) := goodIn_app (goodIn_of _ (by decide +kernel)) ggX4_count_X3_entries
set_option maxRecDepth 20000 in
theorem ggX4_count_X3_ofTheHouse : GoodIn wsX4_count wsX3_ofTheHouse := goodIn_r _ [17, 18, 19, 8, 9, 10, 11, 12, 13, 95, 96, 97, 98, 99, 100, 101, 102, 103, 104, 105, 106] (by decide +kernel) (by decide +kernel)
set_option maxRecDepth 20000 in
theorem gX4_count_X3_ofTheHouse : GoodIn wsX4_count (wsV RX4 202 RX3 yX3_ofTheHouse wsX3_ofTheHouse) := goodIn_app (goodIn_of _ (by decide +kernel)) ggX4_count_X3_ofTheHouse
set_option maxRecDepth 20000 in
theorem ggX4_count_X3_pot : GoodIn wsX4_count wsX3_pot := goodIn_r _ [23, 19, 8, 9, 10, 11, 12, 13, 24, 15, 16, 17, 18, 95, 96, 97, 98, 99, 100, 101, 102, 103, 104, 105, 106] (by decide +kernel) (by decide +kernel)
set_option maxRecDepth 20000 in
theorem gX4_count_X3_pot : GoodIn wsX4_count (wsV RX4 205 RX3 yX3_pot wsX3_pot) := goodIn_app (goodIn_of _ (by decide +kernel)) ggX4_count_X3_pot
set_option maxRecDepth 20000 in
theorem ggX4_count_X3_openRounds : GoodIn wsX4_count wsX3_openRounds := goodIn_r _ [28, 29, 30, 31, 10, 32, 33, 34, 95, 96, 97, 98, 99, 100, 101, 102, 103, 104, 105, 106] (by decide +kernel) (by decide +kernel)
set_option maxRecDepth 20000 in
theorem gX4_count_X3_openRounds : GoodIn wsX4_count (wsV RX4 56 RX3 yX3_openRounds wsX3_openRounds) := goodIn_app (goodIn_of _ (by decide +kernel)) ggX4_count_X3_openRounds
set_option maxRecDepth 20000 in
theorem ggX4_count_X3_allFines : GoodIn wsX4_count wsX3_allFines := goodIn_r _ [38, 12, 39, 95, 96, 97, 98, 99, 100, 101, 102, 103, 104, 105, 106] (by decide +kernel) (by decide +kernel)
set_option maxRecDepth 20000 in
theorem gX4_count_X3_allFines : GoodIn wsX4_count (wsV RX4 208 RX3 yX3_allFines wsX3_allFines) := goodIn_app (goodIn_of _ (by decide +kernel)) ggX4_count_X3_allFines
set_option maxRecDepth 20000 in
theorem ggX4_count_X3_allLooks : GoodIn wsX4_count wsX3_allLooks := goodIn_r _ [43, 44, 45, 46, 47, 48, 49, 50, 51, 95, 96, 97, 98, 99, 100, 101, 102, 103, 104, 105, 106] (by decide +kernel) (by decide +kernel)
set_option maxRecDepth 20000 in
theorem gX4_count_X3_allLooks : GoodIn wsX4_count (wsV RX4 211 RX3 yX3_allLooks wsX3_allLooks) := goodIn_app (goodIn_of _ (by decide +kernel)) ggX4_count_X3_allLooks
set_option maxRecDepth 20000 in
theorem ggX4_count_X3_unlikeScores : GoodIn wsX4_count wsX3_unlikeScores := goodIn_r _ [55, 12, 56, 57, 58, 10, 59, 60, 61, 62, 63, 18, 39, 64, 65, 66, 67, 68, 69, 70, 71, 72, 73, 74, 75, 76, 77, 95, 96, 97, 98, 99, 100, 101, 102, 103, 104, 105, 106] (by decide +kernel) (by decide +kernel)
set_option maxRecDepth 20000 in
theorem gX4_count_X3_unlikeScores : GoodIn wsX4_count (wsV RX4 214 RX3 yX3_unlikeScores wsX3_unlikeScores) := goodIn_app (goodIn_of _ (by decide +kernel)) ggX4_count_X3_unlikeScores
set_option maxRecDepth 20000 in
theorem ggX4_count_X1_length : GoodIn wsX4_count wsX1_length := goodIn_r _ [82, 83, 107, 108] (by decide +kernel) (by decide +kernel)
set_option maxRecDepth 20000 in
theorem gX4_count_X1_length : GoodIn wsX4_count (wsV RX4 217 RX1 yX1_length wsX1_length) := goodIn_app (goodIn_of _ (by decide +kernel)) ggX4_count_X1_length
set_option maxRecDepth 20000 in
theorem ggX4_count_X0_length : GoodIn wsX4_count wsX0_length := goodIn_r _ [88, 89, 109, 110, 111] (by decide +kernel) (by decide +kernel)
set_option maxRecDepth 20000 in
theorem gX4_count_X0_length : GoodIn wsX4_count (wsV RX4 220 RX0 yX0_length wsX0_length) := goodIn_app (goodIn_of _ (by decide +kernel)) ggX4_count_X0_length
theorem dX4_count_0 : decode cX4_count 0 = .ok (.iload_n 1, 1) := by decide +kernel
theorem dX4_count_1 : decode cX4_count 1 = .ok (.tableswitch 203 0 14 #[75, 83, 91, 99, 107, 115, 123, 131, 139, 147, 157, 167, 177, 187, 195], 75) := by decide +kernel
theorem dX4_count_76 : decode cX4_count 76 = .ok (.aload_n 0, 1) := by decide +kernel
theorem dX4_count_77 : decode cX4_count 77 = .ok (.getfield 12, 3) := by decide +kernel
theorem dX4_count_80 : decode cX4_count 80 = .ok (.getfield 52, 3) := by decide +kernel
theorem dX4_count_83 : decode cX4_count 83 = .ok (.ireturn, 1) := by decide +kernel
theorem dX4_count_84 : decode cX4_count 84 = .ok (.aload_n 0, 1) := by decide +kernel
theorem dX4_count_85 : decode cX4_count 85 = .ok (.getfield 12, 3) := by decide +kernel
theorem dX4_count_88 : decode cX4_count 88 = .ok (.invokevirtual 199, 3) := by decide +kernel
theorem dX4_count_91 : decode cX4_count 91 = .ok (.ireturn, 1) := by decide +kernel
theorem dX4_count_92 : decode cX4_count 92 = .ok (.aload_n 0, 1) := by decide +kernel
theorem dX4_count_93 : decode cX4_count 93 = .ok (.getfield 12, 3) := by decide +kernel
theorem dX4_count_96 : decode cX4_count 96 = .ok (.invokevirtual 202, 3) := by decide +kernel
theorem dX4_count_99 : decode cX4_count 99 = .ok (.ireturn, 1) := by decide +kernel
theorem dX4_count_100 : decode cX4_count 100 = .ok (.aload_n 0, 1) := by decide +kernel
theorem dX4_count_101 : decode cX4_count 101 = .ok (.getfield 12, 3) := by decide +kernel
theorem dX4_count_104 : decode cX4_count 104 = .ok (.invokevirtual 205, 3) := by decide +kernel
theorem dX4_count_107 : decode cX4_count 107 = .ok (.ireturn, 1) := by decide +kernel
theorem dX4_count_108 : decode cX4_count 108 = .ok (.aload_n 0, 1) := by decide +kernel
theorem dX4_count_109 : decode cX4_count 109 = .ok (.getfield 12, 3) := by decide +kernel
theorem dX4_count_112 : decode cX4_count 112 = .ok (.invokevirtual 56, 3) := by decide +kernel
theorem dX4_count_115 : decode cX4_count 115 = .ok (.ireturn, 1) := by decide +kernel
theorem dX4_count_116 : decode cX4_count 116 = .ok (.aload_n 0, 1) := by decide +kernel
theorem dX4_count_117 : decode cX4_count 117 = .ok (.getfield 12, 3) := by decide +kernel
theorem dX4_count_120 : decode cX4_count 120 = .ok (.invokevirtual 208, 3) := by decide +kernel
theorem dX4_count_123 : decode cX4_count 123 = .ok (.ireturn, 1) := by decide +kernel
theorem dX4_count_124 : decode cX4_count 124 = .ok (.aload_n 0, 1) := by decide +kernel
theorem dX4_count_125 : decode cX4_count 125 = .ok (.getfield 12, 3) := by decide +kernel
theorem dX4_count_128 : decode cX4_count 128 = .ok (.invokevirtual 211, 3) := by decide +kernel
theorem dX4_count_131 : decode cX4_count 131 = .ok (.ireturn, 1) := by decide +kernel
theorem dX4_count_132 : decode cX4_count 132 = .ok (.aload_n 0, 1) := by decide +kernel
theorem dX4_count_133 : decode cX4_count 133 = .ok (.getfield 12, 3) := by decide +kernel
theorem dX4_count_136 : decode cX4_count 136 = .ok (.getfield 148, 3) := by decide +kernel
theorem dX4_count_139 : decode cX4_count 139 = .ok (.ireturn, 1) := by decide +kernel
theorem dX4_count_140 : decode cX4_count 140 = .ok (.aload_n 0, 1) := by decide +kernel
theorem dX4_count_141 : decode cX4_count 141 = .ok (.getfield 12, 3) := by decide +kernel
theorem dX4_count_144 : decode cX4_count 144 = .ok (.invokevirtual 214, 3) := by decide +kernel
theorem dX4_count_147 : decode cX4_count 147 = .ok (.ireturn, 1) := by decide +kernel
theorem dX4_count_148 : decode cX4_count 148 = .ok (.aload_n 0, 1) := by decide +kernel
theorem dX4_count_149 : decode cX4_count 149 = .ok (.getfield 12, 3) := by decide +kernel
theorem dX4_count_152 : decode cX4_count 152 = .ok (.getfield 49, 3) := by decide +kernel
theorem dX4_count_155 : decode cX4_count 155 = .ok (.iconst 0, 1) := by decide +kernel
theorem dX4_count_156 : decode cX4_count 156 = .ok (.iaload, 1) := by decide +kernel
theorem dX4_count_157 : decode cX4_count 157 = .ok (.ireturn, 1) := by decide +kernel
theorem dX4_count_158 : decode cX4_count 158 = .ok (.aload_n 0, 1) := by decide +kernel
theorem dX4_count_159 : decode cX4_count 159 = .ok (.getfield 12, 3) := by decide +kernel
theorem dX4_count_162 : decode cX4_count 162 = .ok (.getfield 49, 3) := by decide +kernel
theorem dX4_count_165 : decode cX4_count 165 = .ok (.iconst 1, 1) := by decide +kernel
theorem dX4_count_166 : decode cX4_count 166 = .ok (.iaload, 1) := by decide +kernel
theorem dX4_count_167 : decode cX4_count 167 = .ok (.ireturn, 1) := by decide +kernel
theorem dX4_count_168 : decode cX4_count 168 = .ok (.aload_n 0, 1) := by decide +kernel
theorem dX4_count_169 : decode cX4_count 169 = .ok (.getfield 12, 3) := by decide +kernel
theorem dX4_count_172 : decode cX4_count 172 = .ok (.getfield 49, 3) := by decide +kernel
theorem dX4_count_175 : decode cX4_count 175 = .ok (.iconst 2, 1) := by decide +kernel
theorem dX4_count_176 : decode cX4_count 176 = .ok (.iaload, 1) := by decide +kernel
theorem dX4_count_177 : decode cX4_count 177 = .ok (.ireturn, 1) := by decide +kernel
theorem dX4_count_178 : decode cX4_count 178 = .ok (.aload_n 0, 1) := by decide +kernel
theorem dX4_count_179 : decode cX4_count 179 = .ok (.getfield 12, 3) := by decide +kernel
theorem dX4_count_182 : decode cX4_count 182 = .ok (.getfield 49, 3) := by decide +kernel
theorem dX4_count_185 : decode cX4_count 185 = .ok (.iconst 3, 1) := by decide +kernel
theorem dX4_count_186 : decode cX4_count 186 = .ok (.iaload, 1) := by decide +kernel
theorem dX4_count_187 : decode cX4_count 187 = .ok (.ireturn, 1) := by decide +kernel
theorem dX4_count_188 : decode cX4_count 188 = .ok (.aload_n 0, 1) := by decide +kernel
theorem dX4_count_189 : decode cX4_count 189 = .ok (.getfield 26, 3) := by decide +kernel
theorem dX4_count_192 : decode cX4_count 192 = .ok (.invokevirtual 217, 3) := by decide +kernel
theorem dX4_count_195 : decode cX4_count 195 = .ok (.ireturn, 1) := by decide +kernel
theorem dX4_count_196 : decode cX4_count 196 = .ok (.aload_n 0, 1) := by decide +kernel
theorem dX4_count_197 : decode cX4_count 197 = .ok (.getfield 19, 3) := by decide +kernel
theorem dX4_count_200 : decode cX4_count 200 = .ok (.invokevirtual 220, 3) := by decide +kernel
theorem dX4_count_203 : decode cX4_count 203 = .ok (.ireturn, 1) := by decide +kernel
theorem dX4_count_204 : decode cX4_count 204 = .ok (.bipush (-2), 2) := by decide +kernel
theorem dX4_count_206 : decode cX4_count 206 = .ok (.ireturn, 1) := by decide +kernel
set_option maxRecDepth 20000 in
theorem ggX4_bestJoker_X3_isTeam : GoodIn wsX4_bestJoker wsX3_isTeam := goodIn_r _ [6, 7, 41, 42, 43, 44, 45, 46, 47, 48, 49, 50, 51, 52] (by decide +kernel) (by decide +kernel)
set_option maxRecDepth 20000 in
theorem gX4_bestJoker_X3_isTeam : GoodIn wsX4_bestJoker (wsV RX4 63 RX3 yX3_isTeam wsX3_isTeam) := goodIn_app (goodIn_of _ (by decide +kernel)) ggX4_bestJoker_X3_isTeam
set_option maxRecDepth 20000 in
theorem ggX4_bestJoker_X3_bestRound : GoodIn wsX4_bestJoker wsX3_bestRound := goodIn_r _ [11, 12, 13, 14, 5, 15, 16, 17, 18, 19, 20, 21, 22, 23, 24, 25, 26, 27, 28, 29, 30, 31, 32, 33, 34, 41, 42, 43, 44, 45, 46, 47, 48, 49, 50, 51, 52] (by decide +kernel) (by decide +kernel)
set_option maxRecDepth 20000 in
theorem gX4_bestJoker_X3_bestRound : GoodIn wsX4_bestJoker (wsV RX4 221 RX3 yX3_bestRound wsX3_bestRound) := goodIn_app (goodIn_of _ (by decide +kernel)) ggX4_bestJoker_X3_bestRound
set_option maxRecDepth 20000 in
theorem ggX4_bestJoker_X3_scoreWithJokerOn : GoodIn wsX4_bestJoker wsX3_scoreWithJokerOn := goodIn_r _ [15, 16, 17, 18, 19, 20, 5, 21, 22, 23, 24, 25, 26, 27, 28, 29, 30, 31, 32, 33, 34, 41, 42, 43, 44, 45, 46, 47, 48, 49, 50, 51, 52] (by decide +kernel) (by decide +kernel)
set_option maxRecDepth 20000 in
theorem gX4_bestJoker_X3_scoreWithJokerOn : GoodIn wsX4_bestJoker (wsV RX4 224 RX3 yX3_scoreWithJokerOn wsX3_scoreWithJokerOn) := goodIn_app (goodIn_of _ (by decide +kernel)) ggX4_bestJoker_X3_scoreWithJokerOn
theorem dX4_bestJoker_0 : decode cX4_bestJoker 0 = .ok (.aload_n 0, 1) := by decide +kernel
theorem dX4_bestJoker_1 : decode cX4_bestJoker 1 = .ok (.getfield 12, 3) := by decide +kernel
theorem dX4_bestJoker_4 : decode cX4_bestJoker 4 = .ok (.iload_n 1, 1) := by decide +kernel
theorem dX4_bestJoker_5 : decode cX4_bestJoker 5 = .ok (.invokevirtual 63, 3) := by decide +kernel
theorem dX4_bestJoker_8 : decode cX4_bestJoker 8 = .ok (.ifCond .ne 5, 3) := by decide +kernel
theorem dX4_bestJoker_11 : decode cX4_bestJoker 11 = .ok (.iconst (-1), 1) := by decide +kernel
theorem dX4_bestJoker_12 : decode cX4_bestJoker 12 = .ok (.ireturn, 1) := by decide +kernel
theorem dX4_bestJoker_13 : decode cX4_bestJoker 13 = .ok (.aload_n 0, 1) := by decide +kernel
theorem dX4_bestJoker_14 : decode cX4_bestJoker 14 = .ok (.getfield 12, 3) := by decide +kernel
theorem dX4_bestJoker_17 : decode cX4_bestJoker 17 = .ok (.iload_n 1, 1) := by decide +kernel
theorem dX4_bestJoker_18 : decode cX4_bestJoker 18 = .ok (.invokevirtual 221, 3) := by decide +kernel
theorem dX4_bestJoker_21 : decode cX4_bestJoker 21 = .ok (.istore_n 3, 1) := by decide +kernel
theorem dX4_bestJoker_22 : decode cX4_bestJoker 22 = .ok (.iload_n 2, 1) := by decide +kernel
theorem dX4_bestJoker_23 : decode cX4_bestJoker 23 = .ok (.lookupswitch 41 #[(0, 25), (1, 27)], 25) := by decide +kernel
theorem dX4_bestJoker_48 : decode cX4_bestJoker 48 = .ok (.iload_n 3, 1) := by decide +kernel
theorem dX4_bestJoker_49 : decode cX4_bestJoker 49 = .ok (.ireturn, 1) := by decide +kernel
theorem dX4_bestJoker_50 : decode cX4_bestJoker 50 = .ok (.aload_n 0, 1) := by decide +kernel
theorem dX4_bestJoker_51 : decode cX4_bestJoker 51 = .ok (.getfield 12, 3) := by decide +kernel
theorem dX4_bestJoker_54 : decode cX4_bestJoker 54 = .ok (.iload_n 1, 1) := by decide +kernel
theorem dX4_bestJoker_55 : decode cX4_bestJoker 55 = .ok (.iload_n 3, 1) := by decide +kernel
theorem dX4_bestJoker_56 : decode cX4_bestJoker 56 = .ok (.invokevirtual 224, 3) := by decide +kernel
theorem dX4_bestJoker_59 : decode cX4_bestJoker 59 = .ok (.sipush 1000, 3) := by decide +kernel
theorem dX4_bestJoker_62 : decode cX4_bestJoker 62 = .ok (.iadd, 1) := by decide +kernel
theorem dX4_bestJoker_63 : decode cX4_bestJoker 63 = .ok (.ireturn, 1) := by decide +kernel
theorem dX4_bestJoker_64 : decode cX4_bestJoker 64 = .ok (.bipush (-2), 2) := by decide +kernel
theorem dX4_bestJoker_66 : decode cX4_bestJoker 66 = .ok (.ireturn, 1) := by decide +kernel
set_option maxRecDepth 20000 in
theorem ggX4_most_X3_isTeam : GoodIn wsX4_most wsX3_isTeam := goodIn_r _ [6, 7, 60, 61, 62, 63, 64, 65, 66, 67, 68, 69, 70, 71] (by decide +kernel) (by decide +kernel)
set_option maxRecDepth 20000 in
theorem gX4_most_X3_isTeam : GoodIn wsX4_most (wsV RX4 63 RX3 yX3_isTeam wsX3_isTeam) := goodIn_app (goodIn_of _ (by decide +kernel)) ggX4_most_X3_isTeam
set_option maxRecDepth 20000 in
theorem ggX4_most_X3_greatestScore : GoodIn wsX4_most wsX3_greatestScore := goodIn_r _ [11, 12, 13, 14, 15, 16, 17, 5, 18, 19, 20, 21, 22, 23, 24, 25, 26, 27, 28, 29, 30, 31, 32, 33, 34, 35, 36, 37, 38, 39, 40, 41, 42, 43, 44, 45, 46, 47, 48, 49, 50, 51, 52, 53, 54, 60, 61, 62, 63, 64, 65, 66, 67, 68, 69, 70, 71] (by decide +kernel) (by decide +kernel)
set_option maxRecDepth 20000 in
theorem gX4_most_X3_greatestScore : GoodIn wsX4_most (wsV RX4 227 RX3 yX3_greatestScore wsX3_greatestScore) := goodIn_app (goodIn_of _ (by decide +kernel)) ggX4_most_X3_greatestScore
theorem dX4_most_0 : decode cX4_most 0 = .ok (.aload_n 0, 1) := by decide +kernel
theorem dX4_most_1 : decode cX4_most 1 = .ok (.getfield 12, 3) := by decide +kernel
theorem dX4_most_4 : decode cX4_most 4 = .ok (.iload_n 1, 1) := by decide +kernel
theorem dX4_most_5 : decode cX4_most 5 = .ok (.invokevirtual 63, 3) := by decide +kernel
theorem dX4_most_8 : decode cX4_most 8 = .ok (.ifCond .eq 18, 3) := by decide +kernel
theorem dX4_most_11 : decode cX4_most 11 = .ok (.aload_n 0, 1) := by decide +kernel
theorem dX4_most_12 : decode cX4_most 12 = .ok (.getfield 12, 3) := by decide +kernel
theorem dX4_most_15 : decode cX4_most 15 = .ok (.iload_n 1, 1) := by decide +kernel
theorem dX4_most_16 : decode cX4_most 16 = .ok (.invokevirtual 227, 3) := by decide +kernel
theorem dX4_most_19 : decode cX4_most 19 = .ok (.sipush 1000, 3) := by decide +kernel
theorem dX4_most_22 : decode cX4_most 22 = .ok (.iadd, 1) := by decide +kernel
theorem dX4_most_23 : decode cX4_most 23 = .ok (.goto 4, 3) := by decide +kernel
theorem dX4_most_26 : decode cX4_most 26 = .ok (.iconst (-1), 1) := by decide +kernel
theorem dX4_most_27 : decode cX4_most 27 = .ok (.ireturn, 1) := by decide +kernel
set_option maxRecDepth 20000 in
theorem ggX4_canWin_X3_canReachOthers : GoodIn wsX4_canWin wsX3_canReachOthers := goodIn_r _ [7, 8, 9, 10, 11, 6, 12, 13, 14, 15, 16, 17, 18, 19, 20, 21, 22, 23, 24, 25, 26, 27, 28, 29, 30, 31, 32, 33, 34, 35, 36, 37, 38, 39, 40, 41, 42, 43, 44, 45, 46, 47, 48, 49, 50, 51, 52, 53, 54, 55, 56, 57, 58, 59, 60, 61, 62, 63, 69, 70, 71, 72, 73, 74, 75, 76, 77, 78, 79, 80] (by decide +kernel) (by decide +kernel)
set_option maxRecDepth 20000 in
theorem gX4_canWin_X3_canReachOthers : GoodIn wsX4_canWin (wsV RX4 230 RX3 yX3_canReachOthers wsX3_canReachOthers) := goodIn_app (goodIn_of _ (by decide +kernel)) ggX4_canWin_X3_canReachOthers
theorem dX4_canWin_0 : decode cX4_canWin 0 = .ok (.iconst 0, 1) := by decide +kernel
theorem dX4_canWin_1 : decode cX4_canWin 1 = .ok (.istore_n 1, 1) := by decide +kernel
theorem dX4_canWin_2 : decode cX4_canWin 2 = .ok (.iconst 0, 1) := by decide +kernel
theorem dX4_canWin_3 : decode cX4_canWin 3 = .ok (.istore_n 2, 1) := by decide +kernel
theorem dX4_canWin_4 : decode cX4_canWin 4 = .ok (.iload_n 2, 1) := by decide +kernel
theorem dX4_canWin_5 : decode cX4_canWin 5 = .ok (.aload_n 0, 1) := by decide +kernel
theorem dX4_canWin_6 : decode cX4_canWin 6 = .ok (.getfield 12, 3) := by decide +kernel
theorem dX4_canWin_9 : decode cX4_canWin 9 = .ok (.getfield 52, 3) := by decide +kernel
theorem dX4_canWin_12 : decode cX4_canWin 12 = .ok (.if_icmp .ge 30, 3) := by decide +kernel
theorem dX4_canWin_15 : decode cX4_canWin 15 = .ok (.iload_n 1, 1) := by decide +kernel
theorem dX4_canWin_16 : decode cX4_canWin 16 = .ok (.aload_n 0, 1) := by decide +kernel
theorem dX4_canWin_17 : decode cX4_canWin 17 = .ok (.getfield 12, 3) := by decide +kernel
theorem dX4_canWin_20 : decode cX4_canWin 20 = .ok (.iload_n 2, 1) := by decide +kernel
theorem dX4_canWin_21 : decode cX4_canWin 21 = .ok (.invokevirtual 230, 3) := by decide +kernel
theorem dX4_canWin_24 : decode cX4_canWin 24 = .ok (.ifCond .eq 9, 3) := by decide +kernel
theorem dX4_canWin_27 : decode cX4_canWin 27 = .ok (.iconst 1, 1) := by decide +kernel
theorem dX4_canWin_28 : decode cX4_canWin 28 = .ok (.iload_n 2, 1) := by decide +kernel
theorem dX4_canWin_29 : decode cX4_canWin 29 = .ok (.ishl, 1) := by decide +kernel
theorem dX4_canWin_30 : decode cX4_canWin 30 = .ok (.goto 4, 3) := by decide +kernel
theorem dX4_canWin_33 : decode cX4_canWin 33 = .ok (.iconst 0, 1) := by decide +kernel
theorem dX4_canWin_34 : decode cX4_canWin 34 = .ok (.ior, 1) := by decide +kernel
theorem dX4_canWin_35 : decode cX4_canWin 35 = .ok (.istore_n 1, 1) := by decide +kernel
theorem dX4_canWin_36 : decode cX4_canWin 36 = .ok (.iinc 2 1, 3) := by decide +kernel
theorem dX4_canWin_39 : decode cX4_canWin 39 = .ok (.goto (-35), 3) := by decide +kernel
theorem dX4_canWin_42 : decode cX4_canWin 42 = .ok (.iload_n 1, 1) := by decide +kernel
theorem dX4_canWin_43 : decode cX4_canWin 43 = .ok (.ireturn, 1) := by decide +kernel
set_option maxRecDepth 20000 in
theorem ggX4_wrongMarks_X3_isWrong : GoodIn wsX4_wrongMarks wsX3_isWrong := goodIn_r _ [7, 8, 9, 10, 6, 11, 12, 13, 14, 15, 16, 17, 18, 19, 20, 21, 22, 23, 24, 25, 26, 27, 28, 29, 30, 31, 32, 33, 34, 35, 36, 37, 38, 39, 40, 46, 47, 48, 49, 50, 51, 52, 53, 54, 55, 56, 57] (by decide +kernel) (by decide +kernel)
set_option maxRecDepth 20000 in
theorem gX4_wrongMarks_X3_isWrong : GoodIn wsX4_wrongMarks (wsV RX4 132 RX3 yX3_isWrong wsX3_isWrong) := goodIn_app (goodIn_of _ (by decide +kernel)) ggX4_wrongMarks_X3_isWrong
theorem dX4_wrongMarks_0 : decode cX4_wrongMarks 0 = .ok (.iconst 0, 1) := by decide +kernel
theorem dX4_wrongMarks_1 : decode cX4_wrongMarks 1 = .ok (.istore_n 1, 1) := by decide +kernel
theorem dX4_wrongMarks_2 : decode cX4_wrongMarks 2 = .ok (.iconst 0, 1) := by decide +kernel
theorem dX4_wrongMarks_3 : decode cX4_wrongMarks 3 = .ok (.istore_n 2, 1) := by decide +kernel
theorem dX4_wrongMarks_4 : decode cX4_wrongMarks 4 = .ok (.iload_n 2, 1) := by decide +kernel
theorem dX4_wrongMarks_5 : decode cX4_wrongMarks 5 = .ok (.aload_n 0, 1) := by decide +kernel
theorem dX4_wrongMarks_6 : decode cX4_wrongMarks 6 = .ok (.getfield 12, 3) := by decide +kernel
theorem dX4_wrongMarks_9 : decode cX4_wrongMarks 9 = .ok (.getfield 52, 3) := by decide +kernel
theorem dX4_wrongMarks_12 : decode cX4_wrongMarks 12 = .ok (.if_icmp .ge 38, 3) := by decide +kernel
theorem dX4_wrongMarks_15 : decode cX4_wrongMarks 15 = .ok (.iconst 0, 1) := by decide +kernel
theorem dX4_wrongMarks_16 : decode cX4_wrongMarks 16 = .ok (.istore_n 3, 1) := by decide +kernel
theorem dX4_wrongMarks_17 : decode cX4_wrongMarks 17 = .ok (.iload_n 3, 1) := by decide +kernel
theorem dX4_wrongMarks_18 : decode cX4_wrongMarks 18 = .ok (.bipush 8, 2) := by decide +kernel
theorem dX4_wrongMarks_20 : decode cX4_wrongMarks 20 = .ok (.if_icmp .ge 24, 3) := by decide +kernel
theorem dX4_wrongMarks_23 : decode cX4_wrongMarks 23 = .ok (.aload_n 0, 1) := by decide +kernel
theorem dX4_wrongMarks_24 : decode cX4_wrongMarks 24 = .ok (.getfield 12, 3) := by decide +kernel
theorem dX4_wrongMarks_27 : decode cX4_wrongMarks 27 = .ok (.iload_n 2, 1) := by decide +kernel
theorem dX4_wrongMarks_28 : decode cX4_wrongMarks 28 = .ok (.iload_n 3, 1) := by decide +kernel
theorem dX4_wrongMarks_29 : decode cX4_wrongMarks 29 = .ok (.invokevirtual 132, 3) := by decide +kernel
theorem dX4_wrongMarks_32 : decode cX4_wrongMarks 32 = .ok (.ifCond .eq 6, 3) := by decide +kernel
theorem dX4_wrongMarks_35 : decode cX4_wrongMarks 35 = .ok (.iinc 1 1, 3) := by decide +kernel
theorem dX4_wrongMarks_38 : decode cX4_wrongMarks 38 = .ok (.iinc 3 1, 3) := by decide +kernel
theorem dX4_wrongMarks_41 : decode cX4_wrongMarks 41 = .ok (.goto (-24), 3) := by decide +kernel
theorem dX4_wrongMarks_44 : decode cX4_wrongMarks 44 = .ok (.iinc 2 1, 3) := by decide +kernel
theorem dX4_wrongMarks_47 : decode cX4_wrongMarks 47 = .ok (.goto (-43), 3) := by decide +kernel
theorem dX4_wrongMarks_50 : decode cX4_wrongMarks 50 = .ok (.iload_n 1, 1) := by decide +kernel
theorem dX4_wrongMarks_51 : decode cX4_wrongMarks 51 = .ok (.ireturn, 1) := by decide +kernel
set_option maxRecDepth 20000 in
theorem ggX4_put_X1_charactersIn : GoodIn wsX4_put wsX1_charactersIn := goodIn_r _ [5, 6] (by decide +kernel) (by decide +kernel)
set_option maxRecDepth 20000 in
theorem gX4_put_X1_charactersIn : GoodIn wsX4_put (va_wsS RX4 236 yX1_charactersIn wsX1_charactersIn) := goodIn_app (goodIn_of _ (by decide +kernel)) ggX4_put_X1_charactersIn
set_option maxRecDepth 20000 in
theorem ggX4_put_X1_append : GoodIn wsX4_put wsX1_append := goodIn_r _ [10, 11, 12, 6, 22, 23] (by decide +kernel) (by decide +kernel)
set_option maxRecDepth 20000 in
theorem gX4_put_X1_append : GoodIn wsX4_put (wsV RX4 240 RX1 yX1_append wsX1_append) := goodIn_app (goodIn_of _ (by decide +kernel)) ggX4_put_X1_append
set_option maxRecDepth 20000 in
theorem ggX4_put_X1_length : GoodIn wsX4_put wsX1_length := goodIn_r _ [16, 11, 22, 23] (by decide +kernel) (by decide +kernel)
set_option maxRecDepth 20000 in
theorem gX4_put_X1_length : GoodIn wsX4_put (wsV RX4 217 RX1 yX1_length wsX1_length) := goodIn_app (goodIn_of _ (by decide +kernel)) ggX4_put_X1_length
theorem dX4_put_0 : decode cX4_put 0 = .ok (.lload_n 1, 1) := by decide +kernel
theorem dX4_put_1 : decode cX4_put 1 = .ok (.invokestatic 236, 3) := by decide +kernel
theorem dX4_put_4 : decode cX4_put 4 = .ok (.istore_n 3, 1) := by decide +kernel
theorem dX4_put_5 : decode cX4_put 5 = .ok (.iload_n 3, 1) := by decide +kernel
theorem dX4_put_6 : decode cX4_put 6 = .ok (.ifCond .ne 6, 3) := by decide +kernel
theorem dX4_put_9 : decode cX4_put 9 = .ok (.bipush (-2), 2) := by decide +kernel
theorem dX4_put_11 : decode cX4_put 11 = .ok (.ireturn, 1) := by decide +kernel
theorem dX4_put_12 : decode cX4_put 12 = .ok (.aload_n 0, 1) := by decide +kernel
theorem dX4_put_13 : decode cX4_put 13 = .ok (.getfield 26, 3) := by decide +kernel
theorem dX4_put_16 : decode cX4_put 16 = .ok (.lload_n 1, 1) := by decide +kernel
theorem dX4_put_17 : decode cX4_put 17 = .ok (.iload_n 3, 1) := by decide +kernel
theorem dX4_put_18 : decode cX4_put 18 = .ok (.invokevirtual 240, 3) := by decide +kernel
theorem dX4_put_21 : decode cX4_put 21 = .ok (.ifCond .eq 13, 3) := by decide +kernel
theorem dX4_put_24 : decode cX4_put 24 = .ok (.aload_n 0, 1) := by decide +kernel
theorem dX4_put_25 : decode cX4_put 25 = .ok (.getfield 26, 3) := by decide +kernel
theorem dX4_put_28 : decode cX4_put 28 = .ok (.invokevirtual 217, 3) := by decide +kernel
theorem dX4_put_31 : decode cX4_put 31 = .ok (.goto 5, 3) := by decide +kernel
theorem dX4_put_34 : decode cX4_put 34 = .ok (.bipush (-4), 2) := by decide +kernel
theorem dX4_put_36 : decode cX4_put 36 = .ok (.ireturn, 1) := by decide +kernel
set_option maxRecDepth 20000 in
theorem ggX4_wipe_X1_length : GoodIn wsX4_wipe wsX1_length := goodIn_r _ [6, 7, 17, 18] (by decide +kernel) (by decide +kernel)
set_option maxRecDepth 20000 in
theorem gX4_wipe_X1_length : GoodIn wsX4_wipe (wsV RX4 217 RX1 yX1_length wsX1_length) := goodIn_app (goodIn_of _ (by decide +kernel)) ggX4_wipe_X1_length
set_option maxRecDepth 20000 in
theorem ggX4_wipe_X1_clear : GoodIn wsX4_wipe wsX1_clear := goodIn_r _ [11, 7, 17, 18] (by decide +kernel) (by decide +kernel)
set_option maxRecDepth 20000 in
theorem gX4_wipe_X1_clear : GoodIn wsX4_wipe (wsV RX4 93 RX1 yX1_clear wsX1_clear) := goodIn_app (goodIn_of _ (by decide +kernel)) ggX4_wipe_X1_clear
theorem dX4_wipe_0 : decode cX4_wipe 0 = .ok (.aload_n 0, 1) := by decide +kernel
theorem dX4_wipe_1 : decode cX4_wipe 1 = .ok (.getfield 26, 3) := by decide +kernel
theorem dX4_wipe_4 : decode cX4_wipe 4 = .ok (.invokevirtual 217, 3) := by decide +kernel
theorem dX4_wipe_7 : decode cX4_wipe 7 = .ok (.istore_n 1, 1) := by decide +kernel
theorem dX4_wipe_8 : decode cX4_wipe 8 = .ok (.aload_n 0, 1) := by decide +kernel
theorem dX4_wipe_9 : decode cX4_wipe 9 = .ok (.getfield 26, 3) := by decide +kernel
theorem dX4_wipe_12 : decode cX4_wipe 12 = .ok (.invokevirtual 93, 3) := by decide +kernel
theorem dX4_wipe_15 : decode cX4_wipe 15 = .ok (.iload_n 1, 1) := by decide +kernel
theorem dX4_wipe_16 : decode cX4_wipe 16 = .ok (.ireturn, 1) := by decide +kernel
set_option maxRecDepth 20000 in
theorem ggX4_fault_X1_faultIndex : GoodIn wsX4_fault wsX1_faultIndex := goodIn_r _ [6, 7, 8, 9, 10, 5, 11, 12, 13, 14, 20, 21] (by decide +kernel) (by decide +kernel)
set_option maxRecDepth 20000 in
theorem gX4_fault_X1_faultIndex : GoodIn wsX4_fault (wsV RX4 244 RX1 yX1_faultIndex wsX1_faultIndex) := goodIn_app (goodIn_of _ (by decide +kernel)) ggX4_fault_X1_faultIndex
theorem dX4_fault_0 : decode cX4_fault 0 = .ok (.aload_n 0, 1) := by decide +kernel
theorem dX4_fault_1 : decode cX4_fault 1 = .ok (.getfield 26, 3) := by decide +kernel
theorem dX4_fault_4 : decode cX4_fault 4 = .ok (.invokevirtual 244, 3) := by decide +kernel
theorem dX4_fault_7 : decode cX4_fault 7 = .ok (.ireturn, 1) := by decide +kernel
set_option maxRecDepth 20000 in
theorem ggX4_undo_X0_length : GoodIn wsX4_undo wsX0_length := goodIn_r _ [7, 8, 40, 41, 42] (by decide +kernel) (by decide +kernel)
set_option maxRecDepth 20000 in
theorem gX4_undo_X0_length : GoodIn wsX4_undo (wsV RX4 220 RX0 yX0_length wsX0_length) := goodIn_app (goodIn_of _ (by decide +kernel)) ggX4_undo_X0_length
set_option maxRecDepth 20000 in
theorem ggX4_undo_X0_takeBack : GoodIn wsX4_undo wsX0_takeBack := goodIn_r _ [12, 13, 8, 14, 15, 16, 17, 18, 19, 20, 21, 22, 23, 24, 25, 26, 27, 28, 29, 30, 31, 32, 33, 34, 40, 41, 42, 43, 44, 45, 46, 47, 48, 49, 50, 51, 52, 53, 54] (by decide +kernel) (by decide +kernel)
set_option maxRecDepth 20000 in
theorem gX4_undo_X0_takeBack : GoodIn wsX4_undo (wsV RX4 247 RX0 yX0_takeBack wsX0_takeBack) := goodIn_app (goodIn_of _ (by decide +kernel)) ggX4_undo_X0_takeBack
theorem dX4_undo_0 : decode cX4_undo 0 = .ok (.aload_n 0, 1) := by decide +kernel
theorem dX4_undo_1 : decode cX4_undo 1 = .ok (.getfield 19, 3) := by decide +kernel
theorem dX4_undo_4 : decode cX4_undo 4 = .ok (.invokevirtual 220, 3) := by decide +kernel
theorem dX4_undo_7 : decode cX4_undo 7 = .ok (.ifCond .ne 6, 3) := by decide +kernel
theorem dX4_undo_10 : decode cX4_undo 10 = .ok (.bipush (-5), 2) := by decide +kernel
theorem dX4_undo_12 : decode cX4_undo 12 = .ok (.ireturn, 1) := by decide +kernel
theorem dX4_undo_13 : decode cX4_undo 13 = .ok (.aload_n 0, 1) := by decide +kernel
theorem dX4_undo_14 : decode cX4_undo 14 = .ok (.getfield 19, 3) := by decide +kernel
theorem dX4_undo_17 : decode cX4_undo 17 = .ok (.aload_n 0, 1) := by decide +kernel
theorem dX4_undo_18 : decode cX4_undo 18 = .ok (.getfield 12, 3) := by decide +kernel
theorem dX4_undo_21 : decode cX4_undo 21 = .ok (.invokevirtual 247, 3) := by decide +kernel
theorem dX4_undo_24 : decode cX4_undo 24 = .ok (.aload_n 0, 1) := by decide +kernel
theorem dX4_undo_25 : decode cX4_undo 25 = .ok (.getfield 19, 3) := by decide +kernel
theorem dX4_undo_28 : decode cX4_undo 28 = .ok (.invokevirtual 220, 3) := by decide +kernel
theorem dX4_undo_31 : decode cX4_undo 31 = .ok (.ireturn, 1) := by decide +kernel
set_option maxRecDepth 20000 in
theorem ggX4_save_X4_isSlot : GoodIn wsX4_save wsX4_isSlot := goodIn_r _ [8] (by decide +kernel) (by decide +kernel)
set_option maxRecDepth 20000 in
theorem gX4_save_X4_isSlot : GoodIn wsX4_save (va_wsS RX4 250 yX4_isSlot wsX4_isSlot) := goodIn_app (goodIn_of _ (by decide +kernel)) ggX4_save_X4_isSlot
set_option maxRecDepth 20000 in
theorem ggX4_save_X3_copy : GoodIn wsX4_save wsX3_copy := goodIn_r _ [12, 13, 14, 15, 16, 17, 18, 19, 20, 21, 22, 23, 24, 25, 26, 27, 28, 34, 35, 36, 37, 38, 39, 40, 41, 42, 43, 44, 45] (by decide +kernel) (by decide +kernel)
set_option maxRecDepth 20000 in
theorem gX4_save_X3_copy : GoodIn wsX4_save (va_wsS RX4 253 yX3_copy wsX3_copy) := goodIn_app (goodIn_of _ (by decide +kernel)) ggX4_save_X3_copy
theorem dX4_save_0 : decode cX4_save 0 = .ok (.iload_n 1, 1) := by decide +kernel
theorem dX4_save_1 : decode cX4_save 1 = .ok (.invokestatic 250, 3) := by decide +kernel
theorem dX4_save_4 : decode cX4_save 4 = .ok (.ifCond .ne 6, 3) := by decide +kernel
theorem dX4_save_7 : decode cX4_save 7 = .ok (.bipush (-2), 2) := by decide +kernel
theorem dX4_save_9 : decode cX4_save 9 = .ok (.ireturn, 1) := by decide +kernel
theorem dX4_save_10 : decode cX4_save 10 = .ok (.aload_n 0, 1) := by decide +kernel
theorem dX4_save_11 : decode cX4_save 11 = .ok (.getfield 12, 3) := by decide +kernel
theorem dX4_save_14 : decode cX4_save 14 = .ok (.aload_n 0, 1) := by decide +kernel
theorem dX4_save_15 : decode cX4_save 15 = .ok (.getfield 30, 3) := by decide +kernel
theorem dX4_save_18 : decode cX4_save 18 = .ok (.iload_n 1, 1) := by decide +kernel
theorem dX4_save_19 : decode cX4_save 19 = .ok (.aaload, 1) := by decide +kernel
theorem dX4_save_20 : decode cX4_save 20 = .ok (.invokestatic 253, 3) := by decide +kernel
theorem dX4_save_23 : decode cX4_save 23 = .ok (.aload_n 0, 1) := by decide +kernel
theorem dX4_save_24 : decode cX4_save 24 = .ok (.getfield 34, 3) := by decide +kernel
theorem dX4_save_27 : decode cX4_save 27 = .ok (.iload_n 1, 1) := by decide +kernel
theorem dX4_save_28 : decode cX4_save 28 = .ok (.iconst 1, 1) := by decide +kernel
theorem dX4_save_29 : decode cX4_save 29 = .ok (.bastore, 1) := by decide +kernel
theorem dX4_save_30 : decode cX4_save 30 = .ok (.aload_n 0, 1) := by decide +kernel
theorem dX4_save_31 : decode cX4_save 31 = .ok (.getfield 12, 3) := by decide +kernel
theorem dX4_save_34 : decode cX4_save 34 = .ok (.getfield 52, 3) := by decide +kernel
theorem dX4_save_37 : decode cX4_save 37 = .ok (.ireturn, 1) := by decide +kernel
set_option maxRecDepth 20000 in
theorem ggX4_restore_X4_isSlot : GoodIn wsX4_restore wsX4_isSlot := goodIn_r _ [9] (by decide +kernel) (by decide +kernel)
set_option maxRecDepth 20000 in
theorem gX4_restore_X4_isSlot : GoodIn wsX4_restore (va_wsS RX4 250 yX4_isSlot wsX4_isSlot) := goodIn_app (goodIn_of _ (by decide +kernel)) ggX4_restore_X4_isSlot
set_option maxRecDepth 20000 in
theorem ggX4_restore_X0_record : GoodIn wsX4_restore wsX0_record := goodIn_r _ [14, 15, 16, 17, 18, 19, 20, 21, 22, 23, 24, 25, 26, 27, 28, 29, 30, 31, 32, 33, 34, 35, 36, 37, 38, 39, 40, 41, 60, 61, 62, 48, 49, 50, 51, 52, 53, 54, 55, 56, 57, 58, 59] (by decide +kernel) (by decide +kernel)
set_option maxRecDepth 20000 in
theorem gX4_restore_X0_record : GoodIn wsX4_restore (wsV RX4 45 RX0 yX0_record wsX0_record) := goodIn_app (goodIn_of _ (by decide +kernel)) ggX4_restore_X0_record
set_option maxRecDepth 20000 in
theorem ggX4_restore_X3_copy : GoodIn wsX4_restore wsX3_copy := goodIn_r _ [25, 26, 27, 28, 29, 30, 31, 32, 33, 34, 35, 36, 37, 38, 39, 40, 41, 48, 49, 50, 51, 52, 53, 54, 55, 56, 57, 58, 59] (by decide +kernel) (by decide +kernel)
set_option maxRecDepth 20000 in
theorem gX4_restore_X3_copy : GoodIn wsX4_restore (va_wsS RX4 253 yX3_copy wsX3_copy) := goodIn_app (goodIn_of _ (by decide +kernel)) ggX4_restore_X3_copy
theorem dX4_restore_0 : decode cX4_restore 0 = .ok (.iload_n 1, 1) := by decide +kernel
theorem dX4_restore_1 : decode cX4_restore 1 = .ok (.invokestatic 250, 3) := by decide +kernel
theorem dX4_restore_4 : decode cX4_restore 4 = .ok (.ifCond .ne 6, 3) := by decide +kernel
theorem dX4_restore_7 : decode cX4_restore 7 = .ok (.bipush (-2), 2) := by decide +kernel
theorem dX4_restore_9 : decode cX4_restore 9 = .ok (.ireturn, 1) := by decide +kernel
theorem dX4_restore_10 : decode cX4_restore 10 = .ok (.aload_n 0, 1) := by decide +kernel
theorem dX4_restore_11 : decode cX4_restore 11 = .ok (.getfield 34, 3) := by decide +kernel
theorem dX4_restore_14 : decode cX4_restore 14 = .ok (.iload_n 1, 1) := by decide +kernel
theorem dX4_restore_15 : decode cX4_restore 15 = .ok (.baload, 1) := by decide +kernel
theorem dX4_restore_16 : decode cX4_restore 16 = .ok (.ifCond .ne 6, 3) := by decide +kernel
theorem dX4_restore_19 : decode cX4_restore 19 = .ok (.bipush (-5), 2) := by decide +kernel
theorem dX4_restore_21 : decode cX4_restore 21 = .ok (.ireturn, 1) := by decide +kernel
theorem dX4_restore_22 : decode cX4_restore 22 = .ok (.aload_n 0, 1) := by decide +kernel
theorem dX4_restore_23 : decode cX4_restore 23 = .ok (.getfield 19, 3) := by decide +kernel
theorem dX4_restore_26 : decode cX4_restore 26 = .ok (.aload_n 0, 1) := by decide +kernel
theorem dX4_restore_27 : decode cX4_restore 27 = .ok (.getfield 12, 3) := by decide +kernel
theorem dX4_restore_30 : decode cX4_restore 30 = .ok (.invokevirtual 45, 3) := by decide +kernel
theorem dX4_restore_33 : decode cX4_restore 33 = .ok (.aload_n 0, 1) := by decide +kernel
theorem dX4_restore_34 : decode cX4_restore 34 = .ok (.getfield 30, 3) := by decide +kernel
theorem dX4_restore_37 : decode cX4_restore 37 = .ok (.iload_n 1, 1) := by decide +kernel
theorem dX4_restore_38 : decode cX4_restore 38 = .ok (.aaload, 1) := by decide +kernel
theorem dX4_restore_39 : decode cX4_restore 39 = .ok (.aload_n 0, 1) := by decide +kernel
theorem dX4_restore_40 : decode cX4_restore 40 = .ok (.getfield 12, 3) := by decide +kernel
theorem dX4_restore_43 : decode cX4_restore 43 = .ok (.invokestatic 253, 3) := by decide +kernel
theorem dX4_restore_46 : decode cX4_restore 46 = .ok (.aload_n 0, 1) := by decide +kernel
theorem dX4_restore_47 : decode cX4_restore 47 = .ok (.getfield 12, 3) := by decide +kernel
theorem dX4_restore_50 : decode cX4_restore 50 = .ok (.getfield 52, 3) := by decide +kernel
theorem dX4_restore_53 : decode cX4_restore 53 = .ok (.ireturn, 1) := by decide +kernel
