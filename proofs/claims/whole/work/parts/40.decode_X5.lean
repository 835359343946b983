theorem dX5_init_0 : decode cX5_init 0 = .ok (.aload_n 0, 1) := by decide +kernel
theorem dX5_init_1 : decode cX5_init 1 = .ok (.invokespecial 1, 3) := by decide +kernel
theorem dX5_init_4 : decode cX5_init 4 = .ok (.aload_n 0, 1) := by decide +kernel
theorem dX5_init_5 : decode cX5_init 5 = .ok (.sipush 1336, 3) := by decide +kernel
theorem dX5_init_8 : decode cX5_init 8 = .ok (.newarray .int, 2) := by decide +kernel
theorem dX5_init_10 : decode cX5_init 10 = .ok (.putfield 7, 3) := by decide +kernel
theorem dX5_init_13 : decode cX5_init 13 = .ok (.aload_n 0, 1) := by decide +kernel
theorem dX5_init_14 : decode cX5_init 14 = .ok (.sipush 8016, 3) := by decide +kernel
theorem dX5_init_17 : decode cX5_init 17 = .ok (.newarray .int, 2) := by decide +kernel
theorem dX5_init_19 : decode cX5_init 19 = .ok (.putfield 13, 3) := by decide +kernel
theorem dX5_init_22 : decode cX5_init 22 = .ok (.aload_n 0, 1) := by decide +kernel
theorem dX5_init_23 : decode cX5_init 23 = .ok (.sipush 2672, 3) := by decide +kernel
theorem dX5_init_26 : decode cX5_init 26 = .ok (.newarray .int, 2) := by decide +kernel
theorem dX5_init_28 : decode cX5_init 28 = .ok (.putfield 16, 3) := by decide +kernel
theorem dX5_init_31 : decode cX5_init 31 = .ok (.aload_n 0, 1) := by decide +kernel
theorem dX5_init_32 : decode cX5_init 32 = .ok (.iconst 2, 1) := by decide +kernel
theorem dX5_init_33 : decode cX5_init 33 = .ok (.newarray .boolean, 2) := by decide +kernel
theorem dX5_init_35 : decode cX5_init 35 = .ok (.putfield 19, 3) := by decide +kernel
theorem dX5_init_38 : decode cX5_init 38 = .ok (.aload_n 0, 1) := by decide +kernel
theorem dX5_init_39 : decode cX5_init 39 = .ok (.bipush 80, 2) := by decide +kernel
theorem dX5_init_41 : decode cX5_init 41 = .ok (.newarray .char, 2) := by decide +kernel
theorem dX5_init_43 : decode cX5_init 43 = .ok (.putfield 23, 3) := by decide +kernel
theorem dX5_init_46 : decode cX5_init 46 = .ok (.aload_n 0, 1) := by decide +kernel
theorem dX5_init_47 : decode cX5_init 47 = .ok (.getfield 7, 3) := by decide +kernel
theorem dX5_init_50 : decode cX5_init 50 = .ok (.iconst 0, 1) := by decide +kernel
theorem dX5_init_51 : decode cX5_init 51 = .ok (.bipush 10, 2) := by decide +kernel
theorem dX5_init_53 : decode cX5_init 53 = .ok (.iastore, 1) := by decide +kernel
theorem dX5_init_54 : decode cX5_init 54 = .ok (.aload_n 0, 1) := by decide +kernel
theorem dX5_init_55 : decode cX5_init 55 = .ok (.getfield 7, 3) := by decide +kernel
theorem dX5_init_58 : decode cX5_init 58 = .ok (.iconst 1, 1) := by decide +kernel
theorem dX5_init_59 : decode cX5_init 59 = .ok (.bipush 10, 2) := by decide +kernel
theorem dX5_init_61 : decode cX5_init 61 = .ok (.iastore, 1) := by decide +kernel
theorem dX5_init_62 : decode cX5_init 62 = .ok (.aload_n 0, 1) := by decide +kernel
theorem dX5_init_63 : decode cX5_init 63 = .ok (.getfield 7, 3) := by decide +kernel
theorem dX5_init_66 : decode cX5_init 66 = .ok (.iconst 3, 1) := by decide +kernel
theorem dX5_init_67 : decode cX5_init 67 = .ok (.iconst 2, 1) := by decide +kernel
theorem dX5_init_68 : decode cX5_init 68 = .ok (.iastore, 1) := by decide +kernel
theorem dX5_init_69 : decode cX5_init 69 = .ok (.return_, 1) := by decide +kernel
theorem dX5_in_0 : decode cX5_in 0 = .ok (.iload_n 0, 1) := by decide +kernel
theorem dX5_in_1 : decode cX5_in 1 = .ok (.iload_n 1, 1) := by decide +kernel
theorem dX5_in_2 : decode cX5_in 2 = .ok (.if_icmp .lt 12, 3) := by decide +kernel
theorem dX5_in_5 : decode cX5_in 5 = .ok (.iload_n 0, 1) := by decide +kernel
theorem dX5_in_6 : decode cX5_in 6 = .ok (.iload_n 2, 1) := by decide +kernel
theorem dX5_in_7 : decode cX5_in 7 = .ok (.if_icmp .gt 7, 3) := by decide +kernel
theorem dX5_in_10 : decode cX5_in 10 = .ok (.iconst 1, 1) := by decide +kernel
theorem dX5_in_11 : decode cX5_in 11 = .ok (.goto 4, 3) := by decide +kernel
theorem dX5_in_14 : decode cX5_in 14 = .ok (.iconst 0, 1) := by decide +kernel
theorem dX5_in_15 : decode cX5_in 15 = .ok (.ireturn, 1) := by decide +kernel
theorem dX5_r_0 : decode cX5_r 0 = .ok (.bipush 8, 2) := by decide +kernel
theorem dX5_r_2 : decode cX5_r 2 = .ok (.bipush 11, 2) := by decide +kernel
theorem dX5_r_4 : decode cX5_r 4 = .ok (.iload_n 0, 1) := by decide +kernel
theorem dX5_r_5 : decode cX5_r 5 = .ok (.imul, 1) := by decide +kernel
theorem dX5_r_6 : decode cX5_r 6 = .ok (.iadd, 1) := by decide +kernel
theorem dX5_r_7 : decode cX5_r 7 = .ok (.ireturn, 1) := by decide +kernel
theorem dX5_t_0 : decode cX5_t 0 = .ok (.bipush 96, 2) := by decide +kernel
theorem dX5_t_2 : decode cX5_t 2 = .ok (.iconst 4, 1) := by decide +kernel
theorem dX5_t_3 : decode cX5_t 3 = .ok (.iload_n 0, 1) := by decide +kernel
theorem dX5_t_4 : decode cX5_t 4 = .ok (.imul, 1) := by decide +kernel
theorem dX5_t_5 : decode cX5_t 5 = .ok (.iadd, 1) := by decide +kernel
theorem dX5_t_6 : decode cX5_t 6 = .ok (.ireturn, 1) := by decide +kernel
theorem dX5_h_0 : decode cX5_h 0 = .ok (.sipush 136, 3) := by decide +kernel
theorem dX5_h_3 : decode cX5_h 3 = .ok (.bipush 15, 2) := by decide +kernel
theorem dX5_h_5 : decode cX5_h 5 = .ok (.bipush 8, 2) := by decide +kernel
theorem dX5_h_7 : decode cX5_h 7 = .ok (.iload_n 0, 1) := by decide +kernel
theorem dX5_h_8 : decode cX5_h 8 = .ok (.imul, 1) := by decide +kernel
theorem dX5_h_9 : decode cX5_h 9 = .ok (.iload_n 1, 1) := by decide +kernel
theorem dX5_h_10 : decode cX5_h 10 = .ok (.iadd, 1) := by decide +kernel
theorem dX5_h_11 : decode cX5_h 11 = .ok (.imul, 1) := by decide +kernel
theorem dX5_h_12 : decode cX5_h 12 = .ok (.iadd, 1) := by decide +kernel
theorem dX5_h_13 : decode cX5_h 13 = .ok (.ireturn, 1) := by decide +kernel
set_option maxRecDepth 20000 in
theorem ggX5_isTeam_X5_in : GoodIn wsX5_isTeam wsX5_in := goodIn_r _ [5] (by decide +kernel) (by decide +kernel)
set_option maxRecDepth 20000 in
theorem gX5_isTeam_X5_in : GoodIn wsX5_isTeam (va_wsS RX5 27 yX5_in wsX5_in) := goodIn_app (goodIn_of _ (by decide +kernel)) ggX5_isTeam_X5_in
theorem dX5_isTeam_0 : decode cX5_isTeam 0 = .ok (.iload_n 1, 1) := by decide +kernel
theorem dX5_isTeam_1 : decode cX5_isTeam 1 = .ok (.iconst 0, 1) := by decide +kernel
theorem dX5_isTeam_2 : decode cX5_isTeam 2 = .ok (.aload_n 0, 1) := by decide +kernel
theorem dX5_isTeam_3 : decode cX5_isTeam 3 = .ok (.getfield 7, 3) := by decide +kernel
theorem dX5_isTeam_6 : decode cX5_isTeam 6 = .ok (.iconst 4, 1) := by decide +kernel
theorem dX5_isTeam_7 : decode cX5_isTeam 7 = .ok (.iaload, 1) := by decide +kernel
theorem dX5_isTeam_8 : decode cX5_isTeam 8 = .ok (.iconst 1, 1) := by decide +kernel
theorem dX5_isTeam_9 : decode cX5_isTeam 9 = .ok (.isub, 1) := by decide +kernel
theorem dX5_isTeam_10 : decode cX5_isTeam 10 = .ok (.invokestatic 27, 3) := by decide +kernel
theorem dX5_isTeam_13 : decode cX5_isTeam 13 = .ok (.ireturn, 1) := by decide +kernel
set_option maxRecDepth 20000 in
theorem ggX5_isRound_X5_in : GoodIn wsX5_isRound wsX5_in := goodIn_r _ [4] (by decide +kernel) (by decide +kernel)
set_option maxRecDepth 20000 in
theorem gX5_isRound_X5_in : GoodIn wsX5_isRound (va_wsS RX5 27 yX5_in wsX5_in) := goodIn_app (goodIn_of _ (by decide +kernel)) ggX5_isRound_X5_in
theorem dX5_isRound_0 : decode cX5_isRound 0 = .ok (.iload_n 0, 1) := by decide +kernel
theorem dX5_isRound_1 : decode cX5_isRound 1 = .ok (.iconst 0, 1) := by decide +kernel
theorem dX5_isRound_2 : decode cX5_isRound 2 = .ok (.bipush 7, 2) := by decide +kernel
theorem dX5_isRound_4 : decode cX5_isRound 4 = .ok (.invokestatic 27, 3) := by decide +kernel
theorem dX5_isRound_7 : decode cX5_isRound 7 = .ok (.ireturn, 1) := by decide +kernel
set_option maxRecDepth 20000 in
theorem ggX5_isOpen_X5_r : GoodIn wsX5_isOpen wsX5_r := goodIn_r _ [5] (by decide +kernel) (by decide +kernel)
set_option maxRecDepth 20000 in
theorem gX5_isOpen_X5_r : GoodIn wsX5_isOpen (va_wsS RX5 31 yX5_r wsX5_r) := goodIn_app (goodIn_of _ (by decide +kernel)) ggX5_isOpen_X5_r
theorem dX5_isOpen_0 : decode cX5_isOpen 0 = .ok (.aload_n 0, 1) := by decide +kernel
theorem dX5_isOpen_1 : decode cX5_isOpen 1 = .ok (.getfield 7, 3) := by decide +kernel
theorem dX5_isOpen_4 : decode cX5_isOpen 4 = .ok (.iload_n 1, 1) := by decide +kernel
theorem dX5_isOpen_5 : decode cX5_isOpen 5 = .ok (.invokestatic 31, 3) := by decide +kernel
theorem dX5_isOpen_8 : decode cX5_isOpen 8 = .ok (.iaload, 1) := by decide +kernel
theorem dX5_isOpen_9 : decode cX5_isOpen 9 = .ok (.ifCond .ne 7, 3) := by decide +kernel
theorem dX5_isOpen_12 : decode cX5_isOpen 12 = .ok (.iconst 1, 1) := by decide +kernel
theorem dX5_isOpen_13 : decode cX5_isOpen 13 = .ok (.goto 4, 3) := by decide +kernel
theorem dX5_isOpen_16 : decode cX5_isOpen 16 = .ok (.iconst 0, 1) := by decide +kernel
theorem dX5_isOpen_17 : decode cX5_isOpen 17 = .ok (.ireturn, 1) := by decide +kernel
theorem dX5_record_0 : decode cX5_record 0 = .ok (.aload_n 0, 1) := by decide +kernel
theorem dX5_record_1 : decode cX5_record 1 = .ok (.getfield 35, 3) := by decide +kernel
theorem dX5_record_4 : decode cX5_record 4 = .ok (.bipush 6, 2) := by decide +kernel
theorem dX5_record_6 : decode cX5_record 6 = .ok (.if_icmp .ne 44, 3) := by decide +kernel
theorem dX5_record_9 : decode cX5_record 9 = .ok (.iconst 0, 1) := by decide +kernel
theorem dX5_record_10 : decode cX5_record 10 = .ok (.istore_n 1, 1) := by decide +kernel
theorem dX5_record_11 : decode cX5_record 11 = .ok (.iload_n 1, 1) := by decide +kernel
theorem dX5_record_12 : decode cX5_record 12 = .ok (.sipush 6680, 3) := by decide +kernel
theorem dX5_record_15 : decode cX5_record 15 = .ok (.if_icmp .ge 25, 3) := by decide +kernel
theorem dX5_record_18 : decode cX5_record 18 = .ok (.aload_n 0, 1) := by decide +kernel
theorem dX5_record_19 : decode cX5_record 19 = .ok (.getfield 13, 3) := by decide +kernel
theorem dX5_record_22 : decode cX5_record 22 = .ok (.iload_n 1, 1) := by decide +kernel
theorem dX5_record_23 : decode cX5_record 23 = .ok (.aload_n 0, 1) := by decide +kernel
theorem dX5_record_24 : decode cX5_record 24 = .ok (.getfield 13, 3) := by decide +kernel
theorem dX5_record_27 : decode cX5_record 27 = .ok (.sipush 1336, 3) := by decide +kernel
theorem dX5_record_30 : decode cX5_record 30 = .ok (.iload_n 1, 1) := by decide +kernel
theorem dX5_record_31 : decode cX5_record 31 = .ok (.iadd, 1) := by decide +kernel
theorem dX5_record_32 : decode cX5_record 32 = .ok (.iaload, 1) := by decide +kernel
theorem dX5_record_33 : decode cX5_record 33 = .ok (.iastore, 1) := by decide +kernel
theorem dX5_record_34 : decode cX5_record 34 = .ok (.iinc 1 1, 3) := by decide +kernel
theorem dX5_record_37 : decode cX5_record 37 = .ok (.goto (-26), 3) := by decide +kernel
theorem dX5_record_40 : decode cX5_record 40 = .ok (.aload_n 0, 1) := by decide +kernel
theorem dX5_record_41 : decode cX5_record 41 = .ok (.dup, 1) := by decide +kernel
theorem dX5_record_42 : decode cX5_record 42 = .ok (.getfield 35, 3) := by decide +kernel
theorem dX5_record_45 : decode cX5_record 45 = .ok (.iconst 1, 1) := by decide +kernel
theorem dX5_record_46 : decode cX5_record 46 = .ok (.isub, 1) := by decide +kernel
theorem dX5_record_47 : decode cX5_record 47 = .ok (.putfield 35, 3) := by decide +kernel
theorem dX5_record_50 : decode cX5_record 50 = .ok (.iconst 0, 1) := by decide +kernel
theorem dX5_record_51 : decode cX5_record 51 = .ok (.istore_n 1, 1) := by decide +kernel
theorem dX5_record_52 : decode cX5_record 52 = .ok (.iload_n 1, 1) := by decide +kernel
theorem dX5_record_53 : decode cX5_record 53 = .ok (.sipush 1336, 3) := by decide +kernel
theorem dX5_record_56 : decode cX5_record 56 = .ok (.if_icmp .ge 30, 3) := by decide +kernel
theorem dX5_record_59 : decode cX5_record 59 = .ok (.aload_n 0, 1) := by decide +kernel
theorem dX5_record_60 : decode cX5_record 60 = .ok (.getfield 13, 3) := by decide +kernel
theorem dX5_record_63 : decode cX5_record 63 = .ok (.sipush 1336, 3) := by decide +kernel
theorem dX5_record_66 : decode cX5_record 66 = .ok (.aload_n 0, 1) := by decide +kernel
theorem dX5_record_67 : decode cX5_record 67 = .ok (.getfield 35, 3) := by decide +kernel
theorem dX5_record_70 : decode cX5_record 70 = .ok (.imul, 1) := by decide +kernel
theorem dX5_record_71 : decode cX5_record 71 = .ok (.iload_n 1, 1) := by decide +kernel
theorem dX5_record_72 : decode cX5_record 72 = .ok (.iadd, 1) := by decide +kernel
theorem dX5_record_73 : decode cX5_record 73 = .ok (.aload_n 0, 1) := by decide +kernel
theorem dX5_record_74 : decode cX5_record 74 = .ok (.getfield 7, 3) := by decide +kernel
theorem dX5_record_77 : decode cX5_record 77 = .ok (.iload_n 1, 1) := by decide +kernel
theorem dX5_record_78 : decode cX5_record 78 = .ok (.iaload, 1) := by decide +kernel
theorem dX5_record_79 : decode cX5_record 79 = .ok (.iastore, 1) := by decide +kernel
theorem dX5_record_80 : decode cX5_record 80 = .ok (.iinc 1 1, 3) := by decide +kernel
theorem dX5_record_83 : decode cX5_record 83 = .ok (.goto (-31), 3) := by decide +kernel
theorem dX5_record_86 : decode cX5_record 86 = .ok (.aload_n 0, 1) := by decide +kernel
theorem dX5_record_87 : decode cX5_record 87 = .ok (.dup, 1) := by decide +kernel
theorem dX5_record_88 : decode cX5_record 88 = .ok (.getfield 35, 3) := by decide +kernel
theorem dX5_record_91 : decode cX5_record 91 = .ok (.iconst 1, 1) := by decide +kernel
theorem dX5_record_92 : decode cX5_record 92 = .ok (.iadd, 1) := by decide +kernel
theorem dX5_record_93 : decode cX5_record 93 = .ok (.putfield 35, 3) := by decide +kernel
theorem dX5_record_96 : decode cX5_record 96 = .ok (.return_, 1) := by decide +kernel
set_option maxRecDepth 20000 in
theorem ggX5_trueMark_X5_h : GoodIn wsX5_trueMark wsX5_h := goodIn_r _ [5] (by decide +kernel) (by decide +kernel)
set_option maxRecDepth 20000 in
theorem gX5_trueMark_X5_h : GoodIn wsX5_trueMark (va_wsS RX5 39 yX5_h wsX5_h) := goodIn_app (goodIn_of _ (by decide +kernel)) ggX5_trueMark_X5_h
set_option maxRecDepth 20000 in
theorem ggX5_trueMark_X5_r : GoodIn wsX5_trueMark wsX5_r := goodIn_r _ [8] (by decide +kernel) (by decide +kernel)
set_option maxRecDepth 20000 in
theorem gX5_trueMark_X5_r : GoodIn wsX5_trueMark (va_wsS RX5 31 yX5_r wsX5_r) := goodIn_app (goodIn_of _ (by decide +kernel)) ggX5_trueMark_X5_r
theorem dX5_trueMark_0 : decode cX5_trueMark 0 = .ok (.iconst 0, 1) := by decide +kernel
theorem dX5_trueMark_1 : decode cX5_trueMark 1 = .ok (.istore_n 3, 1) := by decide +kernel
theorem dX5_trueMark_2 : decode cX5_trueMark 2 = .ok (.iconst 0, 1) := by decide +kernel
theorem dX5_trueMark_3 : decode cX5_trueMark 3 = .ok (.istore 4, 2) := by decide +kernel
theorem dX5_trueMark_5 : decode cX5_trueMark 5 = .ok (.iload 4, 2) := by decide +kernel
theorem dX5_trueMark_7 : decode cX5_trueMark 7 = .ok (.bipush 10, 2) := by decide +kernel
theorem dX5_trueMark_9 : decode cX5_trueMark 9 = .ok (.if_icmp .ge 68, 3) := by decide +kernel
theorem dX5_trueMark_12 : decode cX5_trueMark 12 = .ok (.aload_n 0, 1) := by decide +kernel
theorem dX5_trueMark_13 : decode cX5_trueMark 13 = .ok (.getfield 7, 3) := by decide +kernel
theorem dX5_trueMark_16 : decode cX5_trueMark 16 = .ok (.iload_n 1, 1) := by decide +kernel
theorem dX5_trueMark_17 : decode cX5_trueMark 17 = .ok (.iload_n 2, 1) := by decide +kernel
theorem dX5_trueMark_18 : decode cX5_trueMark 18 = .ok (.invokestatic 39, 3) := by decide +kernel
theorem dX5_trueMark_21 : decode cX5_trueMark 21 = .ok (.iconst 5, 1) := by decide +kernel
theorem dX5_trueMark_22 : decode cX5_trueMark 22 = .ok (.iadd, 1) := by decide +kernel
theorem dX5_trueMark_23 : decode cX5_trueMark 23 = .ok (.iload 4, 2) := by decide +kernel
theorem dX5_trueMark_25 : decode cX5_trueMark 25 = .ok (.iadd, 1) := by decide +kernel
theorem dX5_trueMark_26 : decode cX5_trueMark 26 = .ok (.iaload, 1) := by decide +kernel
theorem dX5_trueMark_27 : decode cX5_trueMark 27 = .ok (.istore 5, 2) := by decide +kernel
theorem dX5_trueMark_29 : decode cX5_trueMark 29 = .ok (.iload_n 3, 1) := by decide +kernel
theorem dX5_trueMark_30 : decode cX5_trueMark 30 = .ok (.iload 5, 2) := by decide +kernel
theorem dX5_trueMark_32 : decode cX5_trueMark 32 = .ok (.ifCond .ge 7, 3) := by decide +kernel
theorem dX5_trueMark_35 : decode cX5_trueMark 35 = .ok (.iconst 0, 1) := by decide +kernel
theorem dX5_trueMark_36 : decode cX5_trueMark 36 = .ok (.goto 33, 3) := by decide +kernel
theorem dX5_trueMark_39 : decode cX5_trueMark 39 = .ok (.iload 5, 2) := by decide +kernel
theorem dX5_trueMark_41 : decode cX5_trueMark 41 = .ok (.aload_n 0, 1) := by decide +kernel
theorem dX5_trueMark_42 : decode cX5_trueMark 42 = .ok (.getfield 7, 3) := by decide +kernel
theorem dX5_trueMark_45 : decode cX5_trueMark 45 = .ok (.iload_n 2, 1) := by decide +kernel
theorem dX5_trueMark_46 : decode cX5_trueMark 46 = .ok (.invokestatic 31, 3) := by decide +kernel
theorem dX5_trueMark_49 : decode cX5_trueMark 49 = .ok (.iconst 1, 1) := by decide +kernel
theorem dX5_trueMark_50 : decode cX5_trueMark 50 = .ok (.iadd, 1) := by decide +kernel
theorem dX5_trueMark_51 : decode cX5_trueMark 51 = .ok (.iload 4, 2) := by decide +kernel
theorem dX5_trueMark_53 : decode cX5_trueMark 53 = .ok (.iadd, 1) := by decide +kernel
theorem dX5_trueMark_54 : decode cX5_trueMark 54 = .ok (.iaload, 1) := by decide +kernel
theorem dX5_trueMark_55 : decode cX5_trueMark 55 = .ok (.if_icmp .ne 7, 3) := by decide +kernel
theorem dX5_trueMark_58 : decode cX5_trueMark 58 = .ok (.iconst 1, 1) := by decide +kernel
theorem dX5_trueMark_59 : decode cX5_trueMark 59 = .ok (.goto 10, 3) := by decide +kernel
theorem dX5_trueMark_62 : decode cX5_trueMark 62 = .ok (.aload_n 0, 1) := by decide +kernel
theorem dX5_trueMark_63 : decode cX5_trueMark 63 = .ok (.getfield 7, 3) := by decide +kernel
theorem dX5_trueMark_66 : decode cX5_trueMark 66 = .ok (.iconst 2, 1) := by decide +kernel
theorem dX5_trueMark_67 : decode cX5_trueMark 67 = .ok (.iaload, 1) := by decide +kernel
theorem dX5_trueMark_68 : decode cX5_trueMark 68 = .ok (.ineg, 1) := by decide +kernel
theorem dX5_trueMark_69 : decode cX5_trueMark 69 = .ok (.iadd, 1) := by decide +kernel
theorem dX5_trueMark_70 : decode cX5_trueMark 70 = .ok (.istore_n 3, 1) := by decide +kernel
theorem dX5_trueMark_71 : decode cX5_trueMark 71 = .ok (.iinc 4 1, 3) := by decide +kernel
theorem dX5_trueMark_74 : decode cX5_trueMark 74 = .ok (.goto (-69), 3) := by decide +kernel
theorem dX5_trueMark_77 : decode cX5_trueMark 77 = .ok (.iload_n 3, 1) := by decide +kernel
theorem dX5_trueMark_78 : decode cX5_trueMark 78 = .ok (.ireturn, 1) := by decide +kernel
set_option maxRecDepth 20000 in
theorem ggX5_markOf_X5_h : GoodIn wsX5_markOf wsX5_h := goodIn_r _ [5] (by decide +kernel) (by decide +kernel)
set_option maxRecDepth 20000 in
theorem gX5_markOf_X5_h : GoodIn wsX5_markOf (va_wsS RX5 39 yX5_h wsX5_h) := goodIn_app (goodIn_of _ (by decide +kernel)) ggX5_markOf_X5_h
theorem dX5_markOf_0 : decode cX5_markOf 0 = .ok (.iload_n 1, 1) := by decide +kernel
theorem dX5_markOf_1 : decode cX5_markOf 1 = .ok (.iload_n 2, 1) := by decide +kernel
theorem dX5_markOf_2 : decode cX5_markOf 2 = .ok (.invokestatic 39, 3) := by decide +kernel
theorem dX5_markOf_5 : decode cX5_markOf 5 = .ok (.istore_n 3, 1) := by decide +kernel
theorem dX5_markOf_6 : decode cX5_markOf 6 = .ok (.aload_n 0, 1) := by decide +kernel
theorem dX5_markOf_7 : decode cX5_markOf 7 = .ok (.getfield 7, 3) := by decide +kernel
theorem dX5_markOf_10 : decode cX5_markOf 10 = .ok (.iload_n 3, 1) := by decide +kernel
theorem dX5_markOf_11 : decode cX5_markOf 11 = .ok (.iconst 0, 1) := by decide +kernel
theorem dX5_markOf_12 : decode cX5_markOf 12 = .ok (.iadd, 1) := by decide +kernel
theorem dX5_markOf_13 : decode cX5_markOf 13 = .ok (.iaload, 1) := by decide +kernel
theorem dX5_markOf_14 : decode cX5_markOf 14 = .ok (.iconst 1, 1) := by decide +kernel
theorem dX5_markOf_15 : decode cX5_markOf 15 = .ok (.if_icmp .ne 26, 3) := by decide +kernel
theorem dX5_markOf_18 : decode cX5_markOf 18 = .ok (.aload_n 0, 1) := by decide +kernel
theorem dX5_markOf_19 : decode cX5_markOf 19 = .ok (.getfield 7, 3) := by decide +kernel
theorem dX5_markOf_22 : decode cX5_markOf 22 = .ok (.iload_n 3, 1) := by decide +kernel
theorem dX5_markOf_23 : decode cX5_markOf 23 = .ok (.iconst 1, 1) := by decide +kernel
theorem dX5_markOf_24 : decode cX5_markOf 24 = .ok (.iadd, 1) := by decide +kernel
theorem dX5_markOf_25 : decode cX5_markOf 25 = .ok (.iaload, 1) := by decide +kernel
theorem dX5_markOf_26 : decode cX5_markOf 26 = .ok (.iconst 1, 1) := by decide +kernel
theorem dX5_markOf_27 : decode cX5_markOf 27 = .ok (.if_icmp .ne 14, 3) := by decide +kernel
theorem dX5_markOf_30 : decode cX5_markOf 30 = .ok (.aload_n 0, 1) := by decide +kernel
theorem dX5_markOf_31 : decode cX5_markOf 31 = .ok (.getfield 7, 3) := by decide +kernel
theorem dX5_markOf_34 : decode cX5_markOf 34 = .ok (.iload_n 3, 1) := by decide +kernel
theorem dX5_markOf_35 : decode cX5_markOf 35 = .ok (.iconst 2, 1) := by decide +kernel
theorem dX5_markOf_36 : decode cX5_markOf 36 = .ok (.iadd, 1) := by decide +kernel
theorem dX5_markOf_37 : decode cX5_markOf 37 = .ok (.iaload, 1) := by decide +kernel
theorem dX5_markOf_38 : decode cX5_markOf 38 = .ok (.goto 4, 3) := by decide +kernel
theorem dX5_markOf_41 : decode cX5_markOf 41 = .ok (.iconst 0, 1) := by decide +kernel
theorem dX5_markOf_42 : decode cX5_markOf 42 = .ok (.ireturn, 1) := by decide +kernel
set_option maxRecDepth 20000 in
theorem ggX5_points_X5_markOf : GoodIn wsX5_points wsX5_markOf := goodIn_r _ [6, 1, 7, 8, 5, 9, 13, 14, 15, 16, 17, 18, 19] (by decide +kernel) (by decide +kernel)
set_option maxRecDepth 20000 in
theorem gX5_points_X5_markOf : GoodIn wsX5_points (wsV RX5 43 RX5 yX5_markOf wsX5_markOf) := goodIn_app (goodIn_of _ (by decide +kernel)) ggX5_points_X5_markOf
set_option maxRecDepth 20000 in
theorem ggX5_points_X5_t : GoodIn wsX5_points wsX5_t := goodIn_r _ [12] (by decide +kernel) (by decide +kernel)
set_option maxRecDepth 20000 in
theorem gX5_points_X5_t : GoodIn wsX5_points (va_wsS RX5 46 yX5_t wsX5_t) := goodIn_app (goodIn_of _ (by decide +kernel)) ggX5_points_X5_t
theorem dX5_points_0 : decode cX5_points 0 = .ok (.aload_n 0, 1) := by decide +kernel
theorem dX5_points_1 : decode cX5_points 1 = .ok (.iload_n 1, 1) := by decide +kernel
theorem dX5_points_2 : decode cX5_points 2 = .ok (.iload_n 2, 1) := by decide +kernel
theorem dX5_points_3 : decode cX5_points 3 = .ok (.invokevirtual 43, 3) := by decide +kernel
theorem dX5_points_6 : decode cX5_points 6 = .ok (.aload_n 0, 1) := by decide +kernel
theorem dX5_points_7 : decode cX5_points 7 = .ok (.getfield 7, 3) := by decide +kernel
theorem dX5_points_10 : decode cX5_points 10 = .ok (.iload_n 1, 1) := by decide +kernel
theorem dX5_points_11 : decode cX5_points 11 = .ok (.invokestatic 46, 3) := by decide +kernel
theorem dX5_points_14 : decode cX5_points 14 = .ok (.iconst 1, 1) := by decide +kernel
theorem dX5_points_15 : decode cX5_points 15 = .ok (.iadd, 1) := by decide +kernel
theorem dX5_points_16 : decode cX5_points 16 = .ok (.iaload, 1) := by decide +kernel
theorem dX5_points_17 : decode cX5_points 17 = .ok (.iload_n 2, 1) := by decide +kernel
theorem dX5_points_18 : decode cX5_points 18 = .ok (.iconst 1, 1) := by decide +kernel
theorem dX5_points_19 : decode cX5_points 19 = .ok (.iadd, 1) := by decide +kernel
theorem dX5_points_20 : decode cX5_points 20 = .ok (.if_icmp .ne 7, 3) := by decide +kernel
theorem dX5_points_23 : decode cX5_points 23 = .ok (.iconst 2, 1) := by decide +kernel
theorem dX5_points_24 : decode cX5_points 24 = .ok (.goto 4, 3) := by decide +kernel
theorem dX5_points_27 : decode cX5_points 27 = .ok (.iconst 1, 1) := by decide +kernel
theorem dX5_points_28 : decode cX5_points 28 = .ok (.imul, 1) := by decide +kernel
theorem dX5_points_29 : decode cX5_points 29 = .ok (.ireturn, 1) := by decide +kernel
set_option maxRecDepth 20000 in
theorem ggX5_score_X5_t : GoodIn wsX5_score wsX5_t := goodIn_r _ [5] (by decide +kernel) (by decide +kernel)
set_option maxRecDepth 20000 in
theorem gX5_score_X5_t : GoodIn wsX5_score (va_wsS RX5 46 yX5_t wsX5_t) := goodIn_app (goodIn_of _ (by decide +kernel)) ggX5_score_X5_t
set_option maxRecDepth 20000 in
theorem ggX5_score_X5_points : GoodIn wsX5_score wsX5_points := goodIn_r _ [9, 1, 10, 11, 12, 4, 13, 14, 15, 16, 2, 3, 5, 17, 18, 19, 20, 21, 22, 23] (by decide +kernel) (by decide +kernel)
set_option maxRecDepth 20000 in
theorem gX5_score_X5_points : GoodIn wsX5_score (wsV RX5 49 RX5 yX5_points wsX5_points) := goodIn_app (goodIn_of _ (by decide +kernel)) ggX5_score_X5_points
theorem dX5_score_0 : decode cX5_score 0 = .ok (.aload_n 0, 1) := by decide +kernel
theorem dX5_score_1 : decode cX5_score 1 = .ok (.getfield 7, 3) := by decide +kernel
theorem dX5_score_4 : decode cX5_score 4 = .ok (.iconst 3, 1) := by decide +kernel
theorem dX5_score_5 : decode cX5_score 5 = .ok (.iaload, 1) := by decide +kernel
theorem dX5_score_6 : decode cX5_score 6 = .ok (.ineg, 1) := by decide +kernel
theorem dX5_score_7 : decode cX5_score 7 = .ok (.aload_n 0, 1) := by decide +kernel
theorem dX5_score_8 : decode cX5_score 8 = .ok (.getfield 7, 3) := by decide +kernel
theorem dX5_score_11 : decode cX5_score 11 = .ok (.iload_n 1, 1) := by decide +kernel
theorem dX5_score_12 : decode cX5_score 12 = .ok (.invokestatic 46, 3) := by decide +kernel
theorem dX5_score_15 : decode cX5_score 15 = .ok (.iconst 2, 1) := by decide +kernel
theorem dX5_score_16 : decode cX5_score 16 = .ok (.iadd, 1) := by decide +kernel
theorem dX5_score_17 : decode cX5_score 17 = .ok (.iaload, 1) := by decide +kernel
theorem dX5_score_18 : decode cX5_score 18 = .ok (.imul, 1) := by decide +kernel
theorem dX5_score_19 : decode cX5_score 19 = .ok (.istore_n 2, 1) := by decide +kernel
theorem dX5_score_20 : decode cX5_score 20 = .ok (.iconst 0, 1) := by decide +kernel
theorem dX5_score_21 : decode cX5_score 21 = .ok (.istore_n 3, 1) := by decide +kernel
theorem dX5_score_22 : decode cX5_score 22 = .ok (.iload_n 3, 1) := by decide +kernel
theorem dX5_score_23 : decode cX5_score 23 = .ok (.bipush 8, 2) := by decide +kernel
theorem dX5_score_25 : decode cX5_score 25 = .ok (.if_icmp .ge 18, 3) := by decide +kernel
theorem dX5_score_28 : decode cX5_score 28 = .ok (.iload_n 2, 1) := by decide +kernel
theorem dX5_score_29 : decode cX5_score 29 = .ok (.aload_n 0, 1) := by decide +kernel
theorem dX5_score_30 : decode cX5_score 30 = .ok (.iload_n 1, 1) := by decide +kernel
theorem dX5_score_31 : decode cX5_score 31 = .ok (.iload_n 3, 1) := by decide +kernel
theorem dX5_score_32 : decode cX5_score 32 = .ok (.invokevirtual 49, 3) := by decide +kernel
theorem dX5_score_35 : decode cX5_score 35 = .ok (.iadd, 1) := by decide +kernel
theorem dX5_score_36 : decode cX5_score 36 = .ok (.istore_n 2, 1) := by decide +kernel
theorem dX5_score_37 : decode cX5_score 37 = .ok (.iinc 3 1, 3) := by decide +kernel
theorem dX5_score_40 : decode cX5_score 40 = .ok (.goto (-18), 3) := by decide +kernel
theorem dX5_score_43 : decode cX5_score 43 = .ok (.iload_n 2, 1) := by decide +kernel
theorem dX5_score_44 : decode cX5_score 44 = .ok (.ireturn, 1) := by decide +kernel
set_option maxRecDepth 20000 in
theorem ggX5_far_X5_t : GoodIn wsX5_far wsX5_t := goodIn_r _ [6] (by decide +kernel) (by decide +kernel)
set_option maxRecDepth 20000 in
theorem gX5_far_X5_t : GoodIn wsX5_far (va_wsS RX5 46 yX5_t wsX5_t) := goodIn_app (goodIn_of _ (by decide +kernel)) ggX5_far_X5_t
theorem dX5_far_0 : decode cX5_far 0 = .ok (.aload_n 0, 1) := by decide +kernel
theorem dX5_far_1 : decode cX5_far 1 = .ok (.getfield 7, 3) := by decide +kernel
theorem dX5_far_4 : decode cX5_far 4 = .ok (.iload_n 1, 1) := by decide +kernel
theorem dX5_far_5 : decode cX5_far 5 = .ok (.invokestatic 46, 3) := by decide +kernel
theorem dX5_far_8 : decode cX5_far 8 = .ok (.iconst 3, 1) := by decide +kernel
theorem dX5_far_9 : decode cX5_far 9 = .ok (.iadd, 1) := by decide +kernel
theorem dX5_far_10 : decode cX5_far 10 = .ok (.iaload, 1) := by decide +kernel
theorem dX5_far_11 : decode cX5_far 11 = .ok (.iconst 1, 1) := by decide +kernel
theorem dX5_far_12 : decode cX5_far 12 = .ok (.isub, 1) := by decide +kernel
theorem dX5_far_13 : decode cX5_far 13 = .ok (.istore_n 2, 1) := by decide +kernel
theorem dX5_far_14 : decode cX5_far 14 = .ok (.iload_n 2, 1) := by decide +kernel
theorem dX5_far_15 : decode cX5_far 15 = .ok (.ifCond .ge 8, 3) := by decide +kernel
theorem dX5_far_18 : decode cX5_far 18 = .ok (.ldc 52, 2) := by decide +kernel
theorem dX5_far_20 : decode cX5_far 20 = .ok (.goto 35, 3) := by decide +kernel
theorem dX5_far_23 : decode cX5_far 23 = .ok (.iload_n 2, 1) := by decide +kernel
theorem dX5_far_24 : decode cX5_far 24 = .ok (.aload_n 0, 1) := by decide +kernel
theorem dX5_far_25 : decode cX5_far 25 = .ok (.getfield 7, 3) := by decide +kernel
theorem dX5_far_28 : decode cX5_far 28 = .ok (.bipush 6, 2) := by decide +kernel
theorem dX5_far_30 : decode cX5_far 30 = .ok (.iaload, 1) := by decide +kernel
theorem dX5_far_31 : decode cX5_far 31 = .ok (.if_icmp .le 15, 3) := by decide +kernel
theorem dX5_far_34 : decode cX5_far 34 = .ok (.iload_n 2, 1) := by decide +kernel
theorem dX5_far_35 : decode cX5_far 35 = .ok (.aload_n 0, 1) := by decide +kernel
theorem dX5_far_36 : decode cX5_far 36 = .ok (.getfield 7, 3) := by decide +kernel
theorem dX5_far_39 : decode cX5_far 39 = .ok (.bipush 6, 2) := by decide +kernel
theorem dX5_far_41 : decode cX5_far 41 = .ok (.iaload, 1) := by decide +kernel
theorem dX5_far_42 : decode cX5_far 42 = .ok (.isub, 1) := by decide +kernel
theorem dX5_far_43 : decode cX5_far 43 = .ok (.goto 12, 3) := by decide +kernel
theorem dX5_far_46 : decode cX5_far 46 = .ok (.aload_n 0, 1) := by decide +kernel
theorem dX5_far_47 : decode cX5_far 47 = .ok (.getfield 7, 3) := by decide +kernel
theorem dX5_far_50 : decode cX5_far 50 = .ok (.bipush 6, 2) := by decide +kernel
theorem dX5_far_52 : decode cX5_far 52 = .ok (.iaload, 1) := by decide +kernel
theorem dX5_far_53 : decode cX5_far 53 = .ok (.iload_n 2, 1) := by decide +kernel
theorem dX5_far_54 : decode cX5_far 54 = .ok (.isub, 1) := by decide +kernel
theorem dX5_far_55 : decode cX5_far 55 = .ok (.ireturn, 1) := by decide +kernel
set_option maxRecDepth 20000 in
theorem ggX5_isAhead_X5_score : GoodIn wsX5_isAhead wsX5_score := goodIn_r _ [6, 1, 7, 8, 5, 9, 10, 11, 12, 13, 14, 15, 16, 17, 18, 19, 20, 26, 27, 28, 29, 30, 31, 32] (by decide +kernel) (by decide +kernel)
set_option maxRecDepth 20000 in
theorem gX5_isAhead_X5_score : GoodIn wsX5_isAhead (wsV RX5 53 RX5 yX5_score wsX5_score) := goodIn_app (goodIn_of _ (by decide +kernel)) ggX5_isAhead_X5_score
set_option maxRecDepth 20000 in
theorem ggX5_isAhead_X5_far : GoodIn wsX5_isAhead wsX5_far := goodIn_r _ [24, 1, 25, 7, 8, 5, 9, 26, 27, 28, 29, 30, 31, 32] (by decide +kernel) (by decide +kernel)
set_option maxRecDepth 20000 in
theorem gX5_isAhead_X5_far : GoodIn wsX5_isAhead (wsV RX5 56 RX5 yX5_far wsX5_far) := goodIn_app (goodIn_of _ (by decide +kernel)) ggX5_isAhead_X5_far
theorem dX5_isAhead_0 : decode cX5_isAhead 0 = .ok (.aload_n 0, 1) := by decide +kernel
theorem dX5_isAhead_1 : decode cX5_isAhead 1 = .ok (.iload_n 1, 1) := by decide +kernel
theorem dX5_isAhead_2 : decode cX5_isAhead 2 = .ok (.invokevirtual 53, 3) := by decide +kernel
theorem dX5_isAhead_5 : decode cX5_isAhead 5 = .ok (.istore_n 3, 1) := by decide +kernel
theorem dX5_isAhead_6 : decode cX5_isAhead 6 = .ok (.aload_n 0, 1) := by decide +kernel
theorem dX5_isAhead_7 : decode cX5_isAhead 7 = .ok (.iload_n 2, 1) := by decide +kernel
theorem dX5_isAhead_8 : decode cX5_isAhead 8 = .ok (.invokevirtual 53, 3) := by decide +kernel
theorem dX5_isAhead_11 : decode cX5_isAhead 11 = .ok (.istore 4, 2) := by decide +kernel
theorem dX5_isAhead_13 : decode cX5_isAhead 13 = .ok (.iload_n 3, 1) := by decide +kernel
theorem dX5_isAhead_14 : decode cX5_isAhead 14 = .ok (.iload 4, 2) := by decide +kernel
theorem dX5_isAhead_16 : decode cX5_isAhead 16 = .ok (.if_icmp .gt 32, 3) := by decide +kernel
theorem dX5_isAhead_19 : decode cX5_isAhead 19 = .ok (.iload_n 3, 1) := by decide +kernel
theorem dX5_isAhead_20 : decode cX5_isAhead 20 = .ok (.iload 4, 2) := by decide +kernel
theorem dX5_isAhead_22 : decode cX5_isAhead 22 = .ok (.if_icmp .ne 30, 3) := by decide +kernel
theorem dX5_isAhead_25 : decode cX5_isAhead 25 = .ok (.aload_n 0, 1) := by decide +kernel
theorem dX5_isAhead_26 : decode cX5_isAhead 26 = .ok (.getfield 7, 3) := by decide +kernel
theorem dX5_isAhead_29 : decode cX5_isAhead 29 = .ok (.iconst 5, 1) := by decide +kernel
theorem dX5_isAhead_30 : decode cX5_isAhead 30 = .ok (.iaload, 1) := by decide +kernel
theorem dX5_isAhead_31 : decode cX5_isAhead 31 = .ok (.iconst 1, 1) := by decide +kernel
theorem dX5_isAhead_32 : decode cX5_isAhead 32 = .ok (.if_icmp .ne 20, 3) := by decide +kernel
theorem dX5_isAhead_35 : decode cX5_isAhead 35 = .ok (.aload_n 0, 1) := by decide +kernel
theorem dX5_isAhead_36 : decode cX5_isAhead 36 = .ok (.iload_n 1, 1) := by decide +kernel
theorem dX5_isAhead_37 : decode cX5_isAhead 37 = .ok (.invokevirtual 56, 3) := by decide +kernel
theorem dX5_isAhead_40 : decode cX5_isAhead 40 = .ok (.aload_n 0, 1) := by decide +kernel
theorem dX5_isAhead_41 : decode cX5_isAhead 41 = .ok (.iload_n 2, 1) := by decide +kernel
theorem dX5_isAhead_42 : decode cX5_isAhead 42 = .ok (.invokevirtual 56, 3) := by decide +kernel
theorem dX5_isAhead_45 : decode cX5_isAhead 45 = .ok (.if_icmp .ge 7, 3) := by decide +kernel
theorem dX5_isAhead_48 : decode cX5_isAhead 48 = .ok (.iconst 1, 1) := by decide +kernel
theorem dX5_isAhead_49 : decode cX5_isAhead 49 = .ok (.goto 4, 3) := by decide +kernel
theorem dX5_isAhead_52 : decode cX5_isAhead 52 = .ok (.iconst 0, 1) := by decide +kernel
theorem dX5_isAhead_53 : decode cX5_isAhead 53 = .ok (.ireturn, 1) := by decide +kernel
set_option maxRecDepth 20000 in
theorem ggX5_rank_X5_isAhead : GoodIn wsX5_rank wsX5_isAhead := goodIn_r _ [6, 1, 7, 8, 9, 5, 10, 11, 12, 13, 14, 15, 16, 17, 18, 19, 20, 21, 22, 23, 24, 25, 26, 27, 28, 29, 30, 31, 32, 33, 34, 35, 36] (by decide +kernel) (by decide +kernel)
set_option maxRecDepth 20000 in
theorem gX5_rank_X5_isAhead : GoodIn wsX5_rank (wsV RX5 59 RX5 yX5_isAhead wsX5_isAhead) := goodIn_app (goodIn_of _ (by decide +kernel)) ggX5_rank_X5_isAhead
theorem dX5_rank_0 : decode cX5_rank 0 = .ok (.iconst 1, 1) := by decide +kernel
theorem dX5_rank_1 : decode cX5_rank 1 = .ok (.istore_n 2, 1) := by decide +kernel
theorem dX5_rank_2 : decode cX5_rank 2 = .ok (.iconst 0, 1) := by decide +kernel
theorem dX5_rank_3 : decode cX5_rank 3 = .ok (.istore_n 3, 1) := by decide +kernel
theorem dX5_rank_4 : decode cX5_rank 4 = .ok (.iload_n 3, 1) := by decide +kernel
theorem dX5_rank_5 : decode cX5_rank 5 = .ok (.aload_n 0, 1) := by decide +kernel
theorem dX5_rank_6 : decode cX5_rank 6 = .ok (.getfield 7, 3) := by decide +kernel
theorem dX5_rank_9 : decode cX5_rank 9 = .ok (.iconst 4, 1) := by decide +kernel
theorem dX5_rank_10 : decode cX5_rank 10 = .ok (.iaload, 1) := by decide +kernel
theorem dX5_rank_11 : decode cX5_rank 11 = .ok (.if_icmp .ge 26, 3) := by decide +kernel
theorem dX5_rank_14 : decode cX5_rank 14 = .ok (.iload_n 2, 1) := by decide +kernel
theorem dX5_rank_15 : decode cX5_rank 15 = .ok (.aload_n 0, 1) := by decide +kernel
theorem dX5_rank_16 : decode cX5_rank 16 = .ok (.iload_n 3, 1) := by decide +kernel
theorem dX5_rank_17 : decode cX5_rank 17 = .ok (.iload_n 1, 1) := by decide +kernel
theorem dX5_rank_18 : decode cX5_rank 18 = .ok (.invokevirtual 59, 3) := by decide +kernel
theorem dX5_rank_21 : decode cX5_rank 21 = .ok (.ifCond .eq 7, 3) := by decide +kernel
theorem dX5_rank_24 : decode cX5_rank 24 = .ok (.iconst 1, 1) := by decide +kernel
theorem dX5_rank_25 : decode cX5_rank 25 = .ok (.goto 4, 3) := by decide +kernel
theorem dX5_rank_28 : decode cX5_rank 28 = .ok (.iconst 0, 1) := by decide +kernel
theorem dX5_rank_29 : decode cX5_rank 29 = .ok (.iadd, 1) := by decide +kernel
theorem dX5_rank_30 : decode cX5_rank 30 = .ok (.istore_n 2, 1) := by decide +kernel
theorem dX5_rank_31 : decode cX5_rank 31 = .ok (.iinc 3 1, 3) := by decide +kernel
theorem dX5_rank_34 : decode cX5_rank 34 = .ok (.goto (-30), 3) := by decide +kernel
theorem dX5_rank_37 : decode cX5_rank 37 = .ok (.iload_n 2, 1) := by decide +kernel
theorem dX5_rank_38 : decode cX5_rank 38 = .ok (.ireturn, 1) := by decide +kernel
set_option maxRecDepth 20000 in
theorem ggX5_tied_X5_isAhead : GoodIn wsX5_tied wsX5_isAhead := goodIn_r _ [6, 1, 7, 8, 9, 5, 10, 11, 12, 13, 14, 15, 16, 17, 18, 19, 20, 21, 22, 23, 24, 25, 26, 27, 28, 29, 30, 31, 32, 33, 34, 35, 36] (by decide +kernel) (by decide +kernel)
set_option maxRecDepth 20000 in
theorem gX5_tied_X5_isAhead : GoodIn wsX5_tied (wsV RX5 59 RX5 yX5_isAhead wsX5_isAhead) := goodIn_app (goodIn_of _ (by decide +kernel)) ggX5_tied_X5_isAhead
theorem dX5_tied_0 : decode cX5_tied 0 = .ok (.iconst 0, 1) := by decide +kernel
theorem dX5_tied_1 : decode cX5_tied 1 = .ok (.istore_n 2, 1) := by decide +kernel
theorem dX5_tied_2 : decode cX5_tied 2 = .ok (.iconst 0, 1) := by decide +kernel
theorem dX5_tied_3 : decode cX5_tied 3 = .ok (.istore_n 3, 1) := by decide +kernel
theorem dX5_tied_4 : decode cX5_tied 4 = .ok (.iload_n 3, 1) := by decide +kernel
theorem dX5_tied_5 : decode cX5_tied 5 = .ok (.aload_n 0, 1) := by decide +kernel
theorem dX5_tied_6 : decode cX5_tied 6 = .ok (.getfield 7, 3) := by decide +kernel
theorem dX5_tied_9 : decode cX5_tied 9 = .ok (.iconst 4, 1) := by decide +kernel
theorem dX5_tied_10 : decode cX5_tied 10 = .ok (.iaload, 1) := by decide +kernel
theorem dX5_tied_11 : decode cX5_tied 11 = .ok (.if_icmp .ge 54, 3) := by decide +kernel
theorem dX5_tied_14 : decode cX5_tied 14 = .ok (.iload_n 3, 1) := by decide +kernel
theorem dX5_tied_15 : decode cX5_tied 15 = .ok (.iload_n 1, 1) := by decide +kernel
theorem dX5_tied_16 : decode cX5_tied 16 = .ok (.if_icmp .eq 25, 3) := by decide +kernel
theorem dX5_tied_19 : decode cX5_tied 19 = .ok (.aload_n 0, 1) := by decide +kernel
theorem dX5_tied_20 : decode cX5_tied 20 = .ok (.iload_n 3, 1) := by decide +kernel
theorem dX5_tied_21 : decode cX5_tied 21 = .ok (.iload_n 1, 1) := by decide +kernel
theorem dX5_tied_22 : decode cX5_tied 22 = .ok (.invokevirtual 59, 3) := by decide +kernel
theorem dX5_tied_25 : decode cX5_tied 25 = .ok (.ifCond .ne 16, 3) := by decide +kernel
theorem dX5_tied_28 : decode cX5_tied 28 = .ok (.aload_n 0, 1) := by decide +kernel
theorem dX5_tied_29 : decode cX5_tied 29 = .ok (.iload_n 1, 1) := by decide +kernel
theorem dX5_tied_30 : decode cX5_tied 30 = .ok (.iload_n 3, 1) := by decide +kernel
theorem dX5_tied_31 : decode cX5_tied 31 = .ok (.invokevirtual 59, 3) := by decide +kernel
theorem dX5_tied_34 : decode cX5_tied 34 = .ok (.ifCond .ne 7, 3) := by decide +kernel
theorem dX5_tied_37 : decode cX5_tied 37 = .ok (.iconst 1, 1) := by decide +kernel
theorem dX5_tied_38 : decode cX5_tied 38 = .ok (.goto 4, 3) := by decide +kernel
theorem dX5_tied_41 : decode cX5_tied 41 = .ok (.iconst 0, 1) := by decide +kernel
theorem dX5_tied_42 : decode cX5_tied 42 = .ok (.istore 4, 2) := by decide +kernel
theorem dX5_tied_44 : decode cX5_tied 44 = .ok (.iload_n 2, 1) := by decide +kernel
theorem dX5_tied_45 : decode cX5_tied 45 = .ok (.iload 4, 2) := by decide +kernel
theorem dX5_tied_47 : decode cX5_tied 47 = .ok (.ifCond .eq 9, 3) := by decide +kernel
theorem dX5_tied_50 : decode cX5_tied 50 = .ok (.iconst 1, 1) := by decide +kernel
theorem dX5_tied_51 : decode cX5_tied 51 = .ok (.iload_n 3, 1) := by decide +kernel
theorem dX5_tied_52 : decode cX5_tied 52 = .ok (.ishl, 1) := by decide +kernel
theorem dX5_tied_53 : decode cX5_tied 53 = .ok (.goto 4, 3) := by decide +kernel
theorem dX5_tied_56 : decode cX5_tied 56 = .ok (.iconst 0, 1) := by decide +kernel
theorem dX5_tied_57 : decode cX5_tied 57 = .ok (.ior, 1) := by decide +kernel
theorem dX5_tied_58 : decode cX5_tied 58 = .ok (.istore_n 2, 1) := by decide +kernel
theorem dX5_tied_59 : decode cX5_tied 59 = .ok (.iinc 3 1, 3) := by decide +kernel
theorem dX5_tied_62 : decode cX5_tied 62 = .ok (.goto (-58), 3) := by decide +kernel
theorem dX5_tied_65 : decode cX5_tied 65 = .ok (.iload_n 2, 1) := by decide +kernel
theorem dX5_tied_66 : decode cX5_tied 66 = .ok (.ireturn, 1) := by decide +kernel
set_option maxRecDepth 20000 in
theorem ggX5_entries_X5_t : GoodIn wsX5_entries wsX5_t := goodIn_r _ [5] (by decide +kernel) (by decide +kernel)
set_option maxRecDepth 20000 in
theorem gX5_entries_X5_t : GoodIn wsX5_entries (va_wsS RX5 46 yX5_t wsX5_t) := goodIn_app (goodIn_of _ (by decide +kernel)) ggX5_entries_X5_t
theorem dX5_entries_0 : decode cX5_entries 0 = .ok (.iconst 0, 1) := by decide +kernel
theorem dX5_entries_1 : decode cX5_entries 1 = .ok (.istore_n 1, 1) := by decide +kernel
theorem dX5_entries_2 : decode cX5_entries 2 = .ok (.iconst 0, 1) := by decide +kernel
theorem dX5_entries_3 : decode cX5_entries 3 = .ok (.istore_n 2, 1) := by decide +kernel
theorem dX5_entries_4 : decode cX5_entries 4 = .ok (.iload_n 2, 1) := by decide +kernel
theorem dX5_entries_5 : decode cX5_entries 5 = .ok (.aload_n 0, 1) := by decide +kernel
theorem dX5_entries_6 : decode cX5_entries 6 = .ok (.getfield 7, 3) := by decide +kernel
theorem dX5_entries_9 : decode cX5_entries 9 = .ok (.iconst 4, 1) := by decide +kernel
theorem dX5_entries_10 : decode cX5_entries 10 = .ok (.iaload, 1) := by decide +kernel
theorem dX5_entries_11 : decode cX5_entries 11 = .ok (.if_icmp .ge 23, 3) := by decide +kernel
theorem dX5_entries_14 : decode cX5_entries 14 = .ok (.iload_n 1, 1) := by decide +kernel
theorem dX5_entries_15 : decode cX5_entries 15 = .ok (.aload_n 0, 1) := by decide +kernel
theorem dX5_entries_16 : decode cX5_entries 16 = .ok (.getfield 7, 3) := by decide +kernel
theorem dX5_entries_19 : decode cX5_entries 19 = .ok (.iload_n 2, 1) := by decide +kernel
theorem dX5_entries_20 : decode cX5_entries 20 = .ok (.invokestatic 46, 3) := by decide +kernel
theorem dX5_entries_23 : decode cX5_entries 23 = .ok (.iconst 0, 1) := by decide +kernel
theorem dX5_entries_24 : decode cX5_entries 24 = .ok (.iadd, 1) := by decide +kernel
theorem dX5_entries_25 : decode cX5_entries 25 = .ok (.iaload, 1) := by decide +kernel
theorem dX5_entries_26 : decode cX5_entries 26 = .ok (.iadd, 1) := by decide +kernel
theorem dX5_entries_27 : decode cX5_entries 27 = .ok (.istore_n 1, 1) := by decide +kernel
theorem dX5_entries_28 : decode cX5_entries 28 = .ok (.iinc 2 1, 3) := by decide +kernel
theorem dX5_entries_31 : decode cX5_entries 31 = .ok (.goto (-27), 3) := by decide +kernel
theorem dX5_entries_34 : decode cX5_entries 34 = .ok (.iload_n 1, 1) := by decide +kernel
theorem dX5_entries_35 : decode cX5_entries 35 = .ok (.ireturn, 1) := by decide +kernel
set_option maxRecDepth 20000 in
theorem ggX5_kept_X5_entries : GoodIn wsX5_kept wsX5_entries := goodIn_r _ [6, 1, 7, 8, 5, 9, 10, 11, 12, 13, 14, 15, 16] (by decide +kernel) (by decide +kernel)
set_option maxRecDepth 20000 in
theorem gX5_kept_X5_entries : GoodIn wsX5_kept (wsV RX5 63 RX5 yX5_entries wsX5_entries) := goodIn_app (goodIn_of _ (by decide +kernel)) ggX5_kept_X5_entries
theorem dX5_kept_0 : decode cX5_kept 0 = .ok (.aload_n 0, 1) := by decide +kernel
theorem dX5_kept_1 : decode cX5_kept 1 = .ok (.invokevirtual 63, 3) := by decide +kernel
theorem dX5_kept_4 : decode cX5_kept 4 = .ok (.aload_n 0, 1) := by decide +kernel
theorem dX5_kept_5 : decode cX5_kept 5 = .ok (.getfield 7, 3) := by decide +kernel
theorem dX5_kept_8 : decode cX5_kept 8 = .ok (.iconst 1, 1) := by decide +kernel
theorem dX5_kept_9 : decode cX5_kept 9 = .ok (.iaload, 1) := by decide +kernel
theorem dX5_kept_10 : decode cX5_kept 10 = .ok (.imul, 1) := by decide +kernel
theorem dX5_kept_11 : decode cX5_kept 11 = .ok (.bipush 100, 2) := by decide +kernel
theorem dX5_kept_13 : decode cX5_kept 13 = .ok (.idiv, 1) := by decide +kernel
theorem dX5_kept_14 : decode cX5_kept 14 = .ok (.ireturn, 1) := by decide +kernel
set_option maxRecDepth 20000 in
theorem ggX5_placeGets_X5_entries : GoodIn wsX5_placeGets wsX5_entries := goodIn_r _ [6, 1, 7, 8, 5, 9, 14, 15, 16, 17, 18, 19, 20] (by decide +kernel) (by decide +kernel)
set_option maxRecDepth 20000 in
theorem gX5_placeGets_X5_entries : GoodIn wsX5_placeGets (wsV RX5 63 RX5 yX5_entries wsX5_entries) := goodIn_app (goodIn_of _ (by decide +kernel)) ggX5_placeGets_X5_entries
set_option maxRecDepth 20000 in
theorem ggX5_placeGets_X5_kept : GoodIn wsX5_placeGets wsX5_kept := goodIn_r _ [13, 1, 2, 3, 4, 5, 6, 7, 8, 9, 14, 15, 16, 17, 18, 19, 20] (by decide +kernel) (by decide +kernel)
set_option maxRecDepth 20000 in
theorem gX5_placeGets_X5_kept : GoodIn wsX5_placeGets (wsV RX5 67 RX5 yX5_kept wsX5_kept) := goodIn_app (goodIn_of _ (by decide +kernel)) ggX5_placeGets_X5_kept
theorem dX5_placeGets_0 : decode cX5_placeGets 0 = .ok (.aload_n 0, 1) := by decide +kernel
theorem dX5_placeGets_1 : decode cX5_placeGets 1 = .ok (.invokevirtual 63, 3) := by decide +kernel
theorem dX5_placeGets_4 : decode cX5_placeGets 4 = .ok (.aload_n 0, 1) := by decide +kernel
theorem dX5_placeGets_5 : decode cX5_placeGets 5 = .ok (.invokevirtual 67, 3) := by decide +kernel
theorem dX5_placeGets_8 : decode cX5_placeGets 8 = .ok (.isub, 1) := by decide +kernel
theorem dX5_placeGets_9 : decode cX5_placeGets 9 = .ok (.istore_n 2, 1) := by decide +kernel
theorem dX5_placeGets_10 : decode cX5_placeGets 10 = .ok (.aload_n 0, 1) := by decide +kernel
theorem dX5_placeGets_11 : decode cX5_placeGets 11 = .ok (.getfield 7, 3) := by decide +kernel
theorem dX5_placeGets_14 : decode cX5_placeGets 14 = .ok (.iconst 4, 1) := by decide +kernel
theorem dX5_placeGets_15 : decode cX5_placeGets 15 = .ok (.iaload, 1) := by decide +kernel
theorem dX5_placeGets_16 : decode cX5_placeGets 16 = .ok (.iconst 2, 1) := by decide +kernel
theorem dX5_placeGets_17 : decode cX5_placeGets 17 = .ok (.if_icmp .lt 13, 3) := by decide +kernel
theorem dX5_placeGets_20 : decode cX5_placeGets 20 = .ok (.iload_n 2, 1) := by decide +kernel
theorem dX5_placeGets_21 : decode cX5_placeGets 21 = .ok (.bipush 30, 2) := by decide +kernel
theorem dX5_placeGets_23 : decode cX5_placeGets 23 = .ok (.imul, 1) := by decide +kernel
theorem dX5_placeGets_24 : decode cX5_placeGets 24 = .ok (.bipush 100, 2) := by decide +kernel
theorem dX5_placeGets_26 : decode cX5_placeGets 26 = .ok (.idiv, 1) := by decide +kernel
theorem dX5_placeGets_27 : decode cX5_placeGets 27 = .ok (.goto 4, 3) := by decide +kernel
theorem dX5_placeGets_30 : decode cX5_placeGets 30 = .ok (.iconst 0, 1) := by decide +kernel
theorem dX5_placeGets_31 : decode cX5_placeGets 31 = .ok (.istore_n 3, 1) := by decide +kernel
theorem dX5_placeGets_32 : decode cX5_placeGets 32 = .ok (.aload_n 0, 1) := by decide +kernel
theorem dX5_placeGets_33 : decode cX5_placeGets 33 = .ok (.getfield 7, 3) := by decide +kernel
theorem dX5_placeGets_36 : decode cX5_placeGets 36 = .ok (.iconst 4, 1) := by decide +kernel
theorem dX5_placeGets_37 : decode cX5_placeGets 37 = .ok (.iaload, 1) := by decide +kernel
theorem dX5_placeGets_38 : decode cX5_placeGets 38 = .ok (.iconst 3, 1) := by decide +kernel
theorem dX5_placeGets_39 : decode cX5_placeGets 39 = .ok (.if_icmp .lt 13, 3) := by decide +kernel
theorem dX5_placeGets_42 : decode cX5_placeGets 42 = .ok (.iload_n 2, 1) := by decide +kernel
theorem dX5_placeGets_43 : decode cX5_placeGets 43 = .ok (.bipush 10, 2) := by decide +kernel
theorem dX5_placeGets_45 : decode cX5_placeGets 45 = .ok (.imul, 1) := by decide +kernel
theorem dX5_placeGets_46 : decode cX5_placeGets 46 = .ok (.bipush 100, 2) := by decide +kernel
theorem dX5_placeGets_48 : decode cX5_placeGets 48 = .ok (.idiv, 1) := by decide +kernel
theorem dX5_placeGets_49 : decode cX5_placeGets 49 = .ok (.goto 4, 3) := by decide +kernel
theorem dX5_placeGets_52 : decode cX5_placeGets 52 = .ok (.iconst 0, 1) := by decide +kernel
theorem dX5_placeGets_53 : decode cX5_placeGets 53 = .ok (.istore 4, 2) := by decide +kernel
theorem dX5_placeGets_55 : decode cX5_placeGets 55 = .ok (.iload_n 1, 1) := by decide +kernel
theorem dX5_placeGets_56 : decode cX5_placeGets 56 = .ok (.iconst 1, 1) := by decide +kernel
theorem dX5_placeGets_57 : decode cX5_placeGets 57 = .ok (.if_icmp .ne 12, 3) := by decide +kernel
theorem dX5_placeGets_60 : decode cX5_placeGets 60 = .ok (.iload_n 2, 1) := by decide +kernel
theorem dX5_placeGets_61 : decode cX5_placeGets 61 = .ok (.iload_n 3, 1) := by decide +kernel
theorem dX5_placeGets_62 : decode cX5_placeGets 62 = .ok (.isub, 1) := by decide +kernel
theorem dX5_placeGets_63 : decode cX5_placeGets 63 = .ok (.iload 4, 2) := by decide +kernel
theorem dX5_placeGets_65 : decode cX5_placeGets 65 = .ok (.isub, 1) := by decide +kernel
theorem dX5_placeGets_66 : decode cX5_placeGets 66 = .ok (.goto 23, 3) := by decide +kernel
theorem dX5_placeGets_69 : decode cX5_placeGets 69 = .ok (.iload_n 1, 1) := by decide +kernel
theorem dX5_placeGets_70 : decode cX5_placeGets 70 = .ok (.iconst 2, 1) := by decide +kernel
theorem dX5_placeGets_71 : decode cX5_placeGets 71 = .ok (.if_icmp .ne 7, 3) := by decide +kernel
theorem dX5_placeGets_74 : decode cX5_placeGets 74 = .ok (.iload_n 3, 1) := by decide +kernel
theorem dX5_placeGets_75 : decode cX5_placeGets 75 = .ok (.goto 14, 3) := by decide +kernel
theorem dX5_placeGets_78 : decode cX5_placeGets 78 = .ok (.iload_n 1, 1) := by decide +kernel
theorem dX5_placeGets_79 : decode cX5_placeGets 79 = .ok (.iconst 3, 1) := by decide +kernel
theorem dX5_placeGets_80 : decode cX5_placeGets 80 = .ok (.if_icmp .ne 8, 3) := by decide +kernel
theorem dX5_placeGets_83 : decode cX5_placeGets 83 = .ok (.iload 4, 2) := by decide +kernel
theorem dX5_placeGets_85 : decode cX5_placeGets 85 = .ok (.goto 4, 3) := by decide +kernel
theorem dX5_placeGets_88 : decode cX5_placeGets 88 = .ok (.iconst 0, 1) := by decide +kernel
theorem dX5_placeGets_89 : decode cX5_placeGets 89 = .ok (.ireturn, 1) := by decide +kernel
theorem dX5_bits_0 : decode cX5_bits 0 = .ok (.iconst 0, 1) := by decide +kernel
theorem dX5_bits_1 : decode cX5_bits 1 = .ok (.istore_n 1, 1) := by decide +kernel
theorem dX5_bits_2 : decode cX5_bits 2 = .ok (.iconst 0, 1) := by decide +kernel
theorem dX5_bits_3 : decode cX5_bits 3 = .ok (.istore_n 2, 1) := by decide +kernel
theorem dX5_bits_4 : decode cX5_bits 4 = .ok (.iload_n 2, 1) := by decide +kernel
theorem dX5_bits_5 : decode cX5_bits 5 = .ok (.bipush 10, 2) := by decide +kernel
theorem dX5_bits_7 : decode cX5_bits 7 = .ok (.if_icmp .ge 17, 3) := by decide +kernel
theorem dX5_bits_10 : decode cX5_bits 10 = .ok (.iload_n 1, 1) := by decide +kernel
theorem dX5_bits_11 : decode cX5_bits 11 = .ok (.iload_n 0, 1) := by decide +kernel
theorem dX5_bits_12 : decode cX5_bits 12 = .ok (.iload_n 2, 1) := by decide +kernel
theorem dX5_bits_13 : decode cX5_bits 13 = .ok (.ishr, 1) := by decide +kernel
theorem dX5_bits_14 : decode cX5_bits 14 = .ok (.iconst 1, 1) := by decide +kernel
theorem dX5_bits_15 : decode cX5_bits 15 = .ok (.iand, 1) := by decide +kernel
theorem dX5_bits_16 : decode cX5_bits 16 = .ok (.iadd, 1) := by decide +kernel
theorem dX5_bits_17 : decode cX5_bits 17 = .ok (.istore_n 1, 1) := by decide +kernel
theorem dX5_bits_18 : decode cX5_bits 18 = .ok (.iinc 2 1, 3) := by decide +kernel
theorem dX5_bits_21 : decode cX5_bits 21 = .ok (.goto (-17), 3) := by decide +kernel
theorem dX5_bits_24 : decode cX5_bits 24 = .ok (.iload_n 1, 1) := by decide +kernel
theorem dX5_bits_25 : decode cX5_bits 25 = .ok (.ireturn, 1) := by decide +kernel
set_option maxRecDepth 20000 in
theorem ggX5_prize_X5_tied : GoodIn wsX5_prize wsX5_tied := goodIn_r _ [5, 6, 7, 8, 9, 4, 10, 11, 12, 13, 14, 15, 16, 17, 18, 19, 20, 21, 22, 23, 24, 25, 26, 27, 28, 29, 30, 31, 32, 33, 53, 54, 55, 56, 57, 58, 59] (by decide +kernel) (by decide +kernel)
set_option maxRecDepth 20000 in
theorem gX5_prize_X5_tied : GoodIn wsX5_prize (wsV RX5 70 RX5 yX5_tied wsX5_tied) := goodIn_app (goodIn_of _ (by decide +kernel)) ggX5_prize_X5_tied
set_option maxRecDepth 20000 in
theorem ggX5_prize_X5_bits : GoodIn wsX5_prize wsX5_bits := goodIn_r _ [36] (by decide +kernel) (by decide +kernel)
set_option maxRecDepth 20000 in
theorem gX5_prize_X5_bits : GoodIn wsX5_prize (va_wsS RX5 73 yX5_bits wsX5_bits) := goodIn_app (goodIn_of _ (by decide +kernel)) ggX5_prize_X5_bits
set_option maxRecDepth 20000 in
theorem ggX5_prize_X5_rank : GoodIn wsX5_prize wsX5_rank := goodIn_r _ [40, 6, 7, 8, 9, 4, 10, 11, 12, 13, 14, 15, 16, 17, 18, 19, 20, 21, 22, 23, 24, 25, 26, 27, 28, 29, 30, 31, 32, 33, 53, 54, 55, 56, 57, 58, 59] (by decide +kernel) (by decide +kernel)
set_option maxRecDepth 20000 in
theorem gX5_prize_X5_rank : GoodIn wsX5_prize (wsV RX5 76 RX5 yX5_rank wsX5_rank) := goodIn_app (goodIn_of _ (by decide +kernel)) ggX5_prize_X5_rank
set_option maxRecDepth 20000 in
theorem ggX5_prize_X5_placeGets : GoodIn wsX5_prize wsX5_placeGets := goodIn_r _ [44, 6, 45, 46, 47, 4, 48, 15, 16, 17, 49, 50, 51, 52, 53, 54, 55, 56, 57, 58, 59] (by decide +kernel) (by decide +kernel)
set_option maxRecDepth 20000 in
theorem gX5_prize_X5_placeGets : GoodIn wsX5_prize (wsV RX5 79 RX5 yX5_placeGets wsX5_placeGets) := goodIn_app (goodIn_of _ (by decide +kernel)) ggX5_prize_X5_placeGets
theorem dX5_prize_0 : decode cX5_prize 0 = .ok (.aload_n 0, 1) := by decide +kernel
theorem dX5_prize_1 : decode cX5_prize 1 = .ok (.iload_n 1, 1) := by decide +kernel
theorem dX5_prize_2 : decode cX5_prize 2 = .ok (.invokevirtual 70, 3) := by decide +kernel
theorem dX5_prize_5 : decode cX5_prize 5 = .ok (.istore_n 2, 1) := by decide +kernel
theorem dX5_prize_6 : decode cX5_prize 6 = .ok (.iload_n 2, 1) := by decide +kernel
theorem dX5_prize_7 : decode cX5_prize 7 = .ok (.invokestatic 73, 3) := by decide +kernel
theorem dX5_prize_10 : decode cX5_prize 10 = .ok (.iconst 1, 1) := by decide +kernel
theorem dX5_prize_11 : decode cX5_prize 11 = .ok (.iadd, 1) := by decide +kernel
theorem dX5_prize_12 : decode cX5_prize 12 = .ok (.istore_n 3, 1) := by decide +kernel
theorem dX5_prize_13 : decode cX5_prize 13 = .ok (.aload_n 0, 1) := by decide +kernel
theorem dX5_prize_14 : decode cX5_prize 14 = .ok (.iload_n 1, 1) := by decide +kernel
theorem dX5_prize_15 : decode cX5_prize 15 = .ok (.invokevirtual 76, 3) := by decide +kernel
theorem dX5_prize_18 : decode cX5_prize 18 = .ok (.istore 4, 2) := by decide +kernel
theorem dX5_prize_20 : decode cX5_prize 20 = .ok (.iconst 0, 1) := by decide +kernel
theorem dX5_prize_21 : decode cX5_prize 21 = .ok (.istore 5, 2) := by decide +kernel
theorem dX5_prize_23 : decode cX5_prize 23 = .ok (.iload 4, 2) := by decide +kernel
theorem dX5_prize_25 : decode cX5_prize 25 = .ok (.istore 6, 2) := by decide +kernel
theorem dX5_prize_27 : decode cX5_prize 27 = .ok (.iload 6, 2) := by decide +kernel
theorem dX5_prize_29 : decode cX5_prize 29 = .ok (.iload 4, 2) := by decide +kernel
theorem dX5_prize_31 : decode cX5_prize 31 = .ok (.iload_n 3, 1) := by decide +kernel
theorem dX5_prize_32 : decode cX5_prize 32 = .ok (.iadd, 1) := by decide +kernel
theorem dX5_prize_33 : decode cX5_prize 33 = .ok (.if_icmp .ge 20, 3) := by decide +kernel
theorem dX5_prize_36 : decode cX5_prize 36 = .ok (.iload 5, 2) := by decide +kernel
theorem dX5_prize_38 : decode cX5_prize 38 = .ok (.aload_n 0, 1) := by decide +kernel
theorem dX5_prize_39 : decode cX5_prize 39 = .ok (.iload 6, 2) := by decide +kernel
theorem dX5_prize_41 : decode cX5_prize 41 = .ok (.invokevirtual 79, 3) := by decide +kernel
theorem dX5_prize_44 : decode cX5_prize 44 = .ok (.iadd, 1) := by decide +kernel
theorem dX5_prize_45 : decode cX5_prize 45 = .ok (.istore 5, 2) := by decide +kernel
theorem dX5_prize_47 : decode cX5_prize 47 = .ok (.iinc 6 1, 3) := by decide +kernel
theorem dX5_prize_50 : decode cX5_prize 50 = .ok (.goto (-23), 3) := by decide +kernel
theorem dX5_prize_53 : decode cX5_prize 53 = .ok (.iload_n 2, 1) := by decide +kernel
theorem dX5_prize_54 : decode cX5_prize 54 = .ok (.iconst 1, 1) := by decide +kernel
theorem dX5_prize_55 : decode cX5_prize 55 = .ok (.iload_n 1, 1) := by decide +kernel
theorem dX5_prize_56 : decode cX5_prize 56 = .ok (.ishl, 1) := by decide +kernel
theorem dX5_prize_57 : decode cX5_prize 57 = .ok (.iconst 1, 1) := by decide +kernel
theorem dX5_prize_58 : decode cX5_prize 58 = .ok (.isub, 1) := by decide +kernel
theorem dX5_prize_59 : decode cX5_prize 59 = .ok (.iand, 1) := by decide +kernel
theorem dX5_prize_60 : decode cX5_prize 60 = .ok (.invokestatic 73, 3) := by decide +kernel
theorem dX5_prize_63 : decode cX5_prize 63 = .ok (.istore 6, 2) := by decide +kernel
theorem dX5_prize_65 : decode cX5_prize 65 = .ok (.iload 5, 2) := by decide +kernel
theorem dX5_prize_67 : decode cX5_prize 67 = .ok (.iload_n 3, 1) := by decide +kernel
theorem dX5_prize_68 : decode cX5_prize 68 = .ok (.idiv, 1) := by decide +kernel
theorem dX5_prize_69 : decode cX5_prize 69 = .ok (.iload 6, 2) := by decide +kernel
theorem dX5_prize_71 : decode cX5_prize 71 = .ok (.iload 5, 2) := by decide +kernel
theorem dX5_prize_73 : decode cX5_prize 73 = .ok (.iload_n 3, 1) := by decide +kernel
theorem dX5_prize_74 : decode cX5_prize 74 = .ok (.irem, 1) := by decide +kernel
theorem dX5_prize_75 : decode cX5_prize 75 = .ok (.if_icmp .ge 7, 3) := by decide +kernel
theorem dX5_prize_78 : decode cX5_prize 78 = .ok (.iconst 1, 1) := by decide +kernel
theorem dX5_prize_79 : decode cX5_prize 79 = .ok (.goto 4, 3) := by decide +kernel
theorem dX5_prize_82 : decode cX5_prize 82 = .ok (.iconst 0, 1) := by decide +kernel
theorem dX5_prize_83 : decode cX5_prize 83 = .ok (.iadd, 1) := by decide +kernel
theorem dX5_prize_84 : decode cX5_prize 84 = .ok (.ireturn, 1) := by decide +kernel
set_option maxRecDepth 20000 in
theorem ggX5_set_X5_in : GoodIn wsX5_set wsX5_in := goodIn_r _ [5] (by decide +kernel) (by decide +kernel)
set_option maxRecDepth 20000 in
theorem gX5_set_X5_in : GoodIn wsX5_set (va_wsS RX5 27 yX5_in wsX5_in) := goodIn_app (goodIn_of _ (by decide +kernel)) ggX5_set_X5_in
set_option maxRecDepth 20000 in
theorem ggX5_set_X5_record : GoodIn wsX5_set wsX5_record := goodIn_r _ [9, 10, 11, 1, 12, 13, 14, 15, 16, 17, 18] (by decide +kernel) (by decide +kernel)
set_option maxRecDepth 20000 in
theorem gX5_set_X5_record : GoodIn wsX5_set (wsV RX5 82 RX5 yX5_record wsX5_record) := goodIn_app (goodIn_of _ (by decide +kernel)) ggX5_set_X5_record
theorem dX5_set_0 : decode cX5_set 0 = .ok (.iload_n 1, 1) := by decide +kernel
theorem dX5_set_1 : decode cX5_set 1 = .ok (.ifCond .ne 13, 3) := by decide +kernel
theorem dX5_set_4 : decode cX5_set 4 = .ok (.iload_n 2, 1) := by decide +kernel
theorem dX5_set_5 : decode cX5_set 5 = .ok (.iconst 1, 1) := by decide +kernel
theorem dX5_set_6 : decode cX5_set 6 = .ok (.bipush 100, 2) := by decide +kernel
theorem dX5_set_8 : decode cX5_set 8 = .ok (.invokestatic 27, 3) := by decide +kernel
theorem dX5_set_11 : decode cX5_set 11 = .ok (.goto 52, 3) := by decide +kernel
theorem dX5_set_14 : decode cX5_set 14 = .ok (.iload_n 1, 1) := by decide +kernel
theorem dX5_set_15 : decode cX5_set 15 = .ok (.iconst 1, 1) := by decide +kernel
theorem dX5_set_16 : decode cX5_set 16 = .ok (.if_icmp .ne 13, 3) := by decide +kernel
theorem dX5_set_19 : decode cX5_set 19 = .ok (.iload_n 2, 1) := by decide +kernel
theorem dX5_set_20 : decode cX5_set 20 = .ok (.iconst 0, 1) := by decide +kernel
theorem dX5_set_21 : decode cX5_set 21 = .ok (.bipush 50, 2) := by decide +kernel
theorem dX5_set_23 : decode cX5_set 23 = .ok (.invokestatic 27, 3) := by decide +kernel
theorem dX5_set_26 : decode cX5_set 26 = .ok (.goto 37, 3) := by decide +kernel
theorem dX5_set_29 : decode cX5_set 29 = .ok (.iload_n 1, 1) := by decide +kernel
theorem dX5_set_30 : decode cX5_set 30 = .ok (.iconst 2, 1) := by decide +kernel
theorem dX5_set_31 : decode cX5_set 31 = .ok (.if_icmp .ne 12, 3) := by decide +kernel
theorem dX5_set_34 : decode cX5_set 34 = .ok (.iload_n 2, 1) := by decide +kernel
theorem dX5_set_35 : decode cX5_set 35 = .ok (.iconst 0, 1) := by decide +kernel
theorem dX5_set_36 : decode cX5_set 36 = .ok (.iconst 2, 1) := by decide +kernel
theorem dX5_set_37 : decode cX5_set 37 = .ok (.invokestatic 27, 3) := by decide +kernel
theorem dX5_set_40 : decode cX5_set 40 = .ok (.goto 23, 3) := by decide +kernel
theorem dX5_set_43 : decode cX5_set 43 = .ok (.iload_n 1, 1) := by decide +kernel
theorem dX5_set_44 : decode cX5_set 44 = .ok (.iconst 3, 1) := by decide +kernel
theorem dX5_set_45 : decode cX5_set 45 = .ok (.if_icmp .ne 17, 3) := by decide +kernel
theorem dX5_set_48 : decode cX5_set 48 = .ok (.iload_n 2, 1) := by decide +kernel
theorem dX5_set_49 : decode cX5_set 49 = .ok (.iconst 0, 1) := by decide +kernel
theorem dX5_set_50 : decode cX5_set 50 = .ok (.bipush 9, 2) := by decide +kernel
theorem dX5_set_52 : decode cX5_set 52 = .ok (.invokestatic 27, 3) := by decide +kernel
theorem dX5_set_55 : decode cX5_set 55 = .ok (.ifCond .eq 7, 3) := by decide +kernel
theorem dX5_set_58 : decode cX5_set 58 = .ok (.iconst 1, 1) := by decide +kernel
theorem dX5_set_59 : decode cX5_set 59 = .ok (.goto 4, 3) := by decide +kernel
theorem dX5_set_62 : decode cX5_set 62 = .ok (.iconst 0, 1) := by decide +kernel
theorem dX5_set_63 : decode cX5_set 63 = .ok (.istore_n 3, 1) := by decide +kernel
theorem dX5_set_64 : decode cX5_set 64 = .ok (.iload_n 3, 1) := by decide +kernel
theorem dX5_set_65 : decode cX5_set 65 = .ok (.ifCond .ne 6, 3) := by decide +kernel
theorem dX5_set_68 : decode cX5_set 68 = .ok (.bipush (-2), 2) := by decide +kernel
theorem dX5_set_70 : decode cX5_set 70 = .ok (.ireturn, 1) := by decide +kernel
theorem dX5_set_71 : decode cX5_set 71 = .ok (.aload_n 0, 1) := by decide +kernel
theorem dX5_set_72 : decode cX5_set 72 = .ok (.invokevirtual 82, 3) := by decide +kernel
theorem dX5_set_75 : decode cX5_set 75 = .ok (.aload_n 0, 1) := by decide +kernel
theorem dX5_set_76 : decode cX5_set 76 = .ok (.getfield 7, 3) := by decide +kernel
theorem dX5_set_79 : decode cX5_set 79 = .ok (.iload_n 1, 1) := by decide +kernel
theorem dX5_set_80 : decode cX5_set 80 = .ok (.iaload, 1) := by decide +kernel
theorem dX5_set_81 : decode cX5_set 81 = .ok (.istore 4, 2) := by decide +kernel
theorem dX5_set_83 : decode cX5_set 83 = .ok (.aload_n 0, 1) := by decide +kernel
theorem dX5_set_84 : decode cX5_set 84 = .ok (.getfield 7, 3) := by decide +kernel
theorem dX5_set_87 : decode cX5_set 87 = .ok (.iload_n 1, 1) := by decide +kernel
theorem dX5_set_88 : decode cX5_set 88 = .ok (.iload_n 2, 1) := by decide +kernel
theorem dX5_set_89 : decode cX5_set 89 = .ok (.iastore, 1) := by decide +kernel
theorem dX5_set_90 : decode cX5_set 90 = .ok (.iload 4, 2) := by decide +kernel
theorem dX5_set_92 : decode cX5_set 92 = .ok (.ireturn, 1) := by decide +kernel
set_option maxRecDepth 20000 in
theorem ggX5_openRounds_X5_isOpen : GoodIn wsX5_openRounds wsX5_isOpen := goodIn_r _ [5, 6, 7, 8, 4, 9, 10, 11, 12, 13, 14, 15, 16] (by decide +kernel) (by decide +kernel)
set_option maxRecDepth 20000 in
theorem gX5_openRounds_X5_isOpen : GoodIn wsX5_openRounds (wsV RX5 85 RX5 yX5_isOpen wsX5_isOpen) := goodIn_app (goodIn_of _ (by decide +kernel)) ggX5_openRounds_X5_isOpen
theorem dX5_openRounds_0 : decode cX5_openRounds 0 = .ok (.iconst 0, 1) := by decide +kernel
theorem dX5_openRounds_1 : decode cX5_openRounds 1 = .ok (.istore_n 1, 1) := by decide +kernel
theorem dX5_openRounds_2 : decode cX5_openRounds 2 = .ok (.iconst 0, 1) := by decide +kernel
theorem dX5_openRounds_3 : decode cX5_openRounds 3 = .ok (.istore_n 2, 1) := by decide +kernel
theorem dX5_openRounds_4 : decode cX5_openRounds 4 = .ok (.iload_n 2, 1) := by decide +kernel
theorem dX5_openRounds_5 : decode cX5_openRounds 5 = .ok (.bipush 8, 2) := by decide +kernel
theorem dX5_openRounds_7 : decode cX5_openRounds 7 = .ok (.if_icmp .ge 27, 3) := by decide +kernel
theorem dX5_openRounds_10 : decode cX5_openRounds 10 = .ok (.iload_n 1, 1) := by decide +kernel
theorem dX5_openRounds_11 : decode cX5_openRounds 11 = .ok (.aload_n 0, 1) := by decide +kernel
theorem dX5_openRounds_12 : decode cX5_openRounds 12 = .ok (.iload_n 2, 1) := by decide +kernel
theorem dX5_openRounds_13 : decode cX5_openRounds 13 = .ok (.invokevirtual 85, 3) := by decide +kernel
theorem dX5_openRounds_16 : decode cX5_openRounds 16 = .ok (.ifCond .eq 9, 3) := by decide +kernel
theorem dX5_openRounds_19 : decode cX5_openRounds 19 = .ok (.iconst 1, 1) := by decide +kernel
theorem dX5_openRounds_20 : decode cX5_openRounds 20 = .ok (.iload_n 2, 1) := by decide +kernel
theorem dX5_openRounds_21 : decode cX5_openRounds 21 = .ok (.ishl, 1) := by decide +kernel
theorem dX5_openRounds_22 : decode cX5_openRounds 22 = .ok (.goto 4, 3) := by decide +kernel
theorem dX5_openRounds_25 : decode cX5_openRounds 25 = .ok (.iconst 0, 1) := by decide +kernel
theorem dX5_openRounds_26 : decode cX5_openRounds 26 = .ok (.ior, 1) := by decide +kernel
theorem dX5_openRounds_27 : decode cX5_openRounds 27 = .ok (.istore_n 1, 1) := by decide +kernel
theorem dX5_openRounds_28 : decode cX5_openRounds 28 = .ok (.iinc 2 1, 3) := by decide +kernel
theorem dX5_openRounds_31 : decode cX5_openRounds 31 = .ok (.goto (-27), 3) := by decide +kernel
theorem dX5_openRounds_34 : decode cX5_openRounds 34 = .ok (.iload_n 1, 1) := by decide +kernel
theorem dX5_openRounds_35 : decode cX5_openRounds 35 = .ok (.ireturn, 1) := by decide +kernel
set_option maxRecDepth 20000 in
theorem ggX5_team_X5_openRounds : GoodIn wsX5_team wsX5_openRounds := goodIn_r _ [6, 7, 8, 9, 5, 10, 1, 11, 12, 13, 23, 24, 25, 26, 27, 28, 29] (by decide +kernel) (by decide +kernel)
set_option maxRecDepth 20000 in
theorem gX5_team_X5_openRounds : GoodIn wsX5_team (wsV RX5 89 RX5 yX5_openRounds wsX5_openRounds) := goodIn_app (goodIn_of _ (by decide +kernel)) ggX5_team_X5_openRounds
set_option maxRecDepth 20000 in
theorem ggX5_team_X5_record : GoodIn wsX5_team wsX5_record := goodIn_r _ [17, 18, 19, 1, 23, 24, 25, 26, 27, 28, 29] (by decide +kernel) (by decide +kernel)
set_option maxRecDepth 20000 in
theorem gX5_team_X5_record : GoodIn wsX5_team (wsV RX5 82 RX5 yX5_record wsX5_record) := goodIn_app (goodIn_of _ (by decide +kernel)) ggX5_team_X5_record
set_option maxRecDepth 20000 in
theorem ggX5_team_X5_t : GoodIn wsX5_team wsX5_t := goodIn_r _ [22] (by decide +kernel) (by decide +kernel)
set_option maxRecDepth 20000 in
theorem gX5_team_X5_t : GoodIn wsX5_team (va_wsS RX5 46 yX5_t wsX5_t) := goodIn_app (goodIn_of _ (by decide +kernel)) ggX5_team_X5_t
theorem dX5_team_0 : decode cX5_team 0 = .ok (.aload_n 0, 1) := by decide +kernel
theorem dX5_team_1 : decode cX5_team 1 = .ok (.getfield 7, 3) := by decide +kernel
theorem dX5_team_4 : decode cX5_team 4 = .ok (.iconst 4, 1) := by decide +kernel
theorem dX5_team_5 : decode cX5_team 5 = .ok (.iaload, 1) := by decide +kernel
theorem dX5_team_6 : decode cX5_team 6 = .ok (.bipush 10, 2) := by decide +kernel
theorem dX5_team_8 : decode cX5_team 8 = .ok (.if_icmp .ne 6, 3) := by decide +kernel
theorem dX5_team_11 : decode cX5_team 11 = .ok (.bipush (-4), 2) := by decide +kernel
theorem dX5_team_13 : decode cX5_team 13 = .ok (.ireturn, 1) := by decide +kernel
theorem dX5_team_14 : decode cX5_team 14 = .ok (.aload_n 0, 1) := by decide +kernel
theorem dX5_team_15 : decode cX5_team 15 = .ok (.invokevirtual 89, 3) := by decide +kernel
theorem dX5_team_18 : decode cX5_team 18 = .ok (.sipush 255, 3) := by decide +kernel
theorem dX5_team_21 : decode cX5_team 21 = .ok (.if_icmp .eq 6, 3) := by decide +kernel
theorem dX5_team_24 : decode cX5_team 24 = .ok (.bipush (-5), 2) := by decide +kernel
theorem dX5_team_26 : decode cX5_team 26 = .ok (.ireturn, 1) := by decide +kernel
theorem dX5_team_27 : decode cX5_team 27 = .ok (.aload_n 0, 1) := by decide +kernel
theorem dX5_team_28 : decode cX5_team 28 = .ok (.invokevirtual 82, 3) := by decide +kernel
theorem dX5_team_31 : decode cX5_team 31 = .ok (.aload_n 0, 1) := by decide +kernel
theorem dX5_team_32 : decode cX5_team 32 = .ok (.getfield 7, 3) := by decide +kernel
theorem dX5_team_35 : decode cX5_team 35 = .ok (.iconst 4, 1) := by decide +kernel
theorem dX5_team_36 : decode cX5_team 36 = .ok (.iaload, 1) := by decide +kernel
theorem dX5_team_37 : decode cX5_team 37 = .ok (.istore_n 1, 1) := by decide +kernel
theorem dX5_team_38 : decode cX5_team 38 = .ok (.aload_n 0, 1) := by decide +kernel
theorem dX5_team_39 : decode cX5_team 39 = .ok (.getfield 7, 3) := by decide +kernel
theorem dX5_team_42 : decode cX5_team 42 = .ok (.iload_n 1, 1) := by decide +kernel
theorem dX5_team_43 : decode cX5_team 43 = .ok (.invokestatic 46, 3) := by decide +kernel
theorem dX5_team_46 : decode cX5_team 46 = .ok (.iconst 0, 1) := by decide +kernel
theorem dX5_team_47 : decode cX5_team 47 = .ok (.iadd, 1) := by decide +kernel
theorem dX5_team_48 : decode cX5_team 48 = .ok (.aload_n 0, 1) := by decide +kernel
theorem dX5_team_49 : decode cX5_team 49 = .ok (.getfield 7, 3) := by decide +kernel
theorem dX5_team_52 : decode cX5_team 52 = .ok (.iconst 0, 1) := by decide +kernel
theorem dX5_team_53 : decode cX5_team 53 = .ok (.iaload, 1) := by decide +kernel
theorem dX5_team_54 : decode cX5_team 54 = .ok (.iastore, 1) := by decide +kernel
theorem dX5_team_55 : decode cX5_team 55 = .ok (.aload_n 0, 1) := by decide +kernel
theorem dX5_team_56 : decode cX5_team 56 = .ok (.getfield 7, 3) := by decide +kernel
theorem dX5_team_59 : decode cX5_team 59 = .ok (.iconst 4, 1) := by decide +kernel
theorem dX5_team_60 : decode cX5_team 60 = .ok (.dup2, 1) := by decide +kernel
theorem dX5_team_61 : decode cX5_team 61 = .ok (.iaload, 1) := by decide +kernel
theorem dX5_team_62 : decode cX5_team 62 = .ok (.iconst 1, 1) := by decide +kernel
theorem dX5_team_63 : decode cX5_team 63 = .ok (.iadd, 1) := by decide +kernel
theorem dX5_team_64 : decode cX5_team 64 = .ok (.iastore, 1) := by decide +kernel
theorem dX5_team_65 : decode cX5_team 65 = .ok (.iload_n 1, 1) := by decide +kernel
theorem dX5_team_66 : decode cX5_team 66 = .ok (.ireturn, 1) := by decide +kernel
theorem dX5_tellsTen_0 : decode cX5_tellsTen 0 = .ok (.aload_n 0, 1) := by decide +kernel
theorem dX5_tellsTen_1 : decode cX5_tellsTen 1 = .ok (.getfield 92, 3) := by decide +kernel
theorem dX5_tellsTen_4 : decode cX5_tellsTen 4 = .ok (.bipush 10, 2) := by decide +kernel
theorem dX5_tellsTen_6 : decode cX5_tellsTen 6 = .ok (.if_icmp .ne 7, 3) := by decide +kernel
theorem dX5_tellsTen_9 : decode cX5_tellsTen 9 = .ok (.iconst 1, 1) := by decide +kernel
theorem dX5_tellsTen_10 : decode cX5_tellsTen 10 = .ok (.goto 4, 3) := by decide +kernel
theorem dX5_tellsTen_13 : decode cX5_tellsTen 13 = .ok (.iconst 0, 1) := by decide +kernel
theorem dX5_tellsTen_14 : decode cX5_tellsTen 14 = .ok (.istore_n 2, 1) := by decide +kernel
theorem dX5_tellsTen_15 : decode cX5_tellsTen 15 = .ok (.iconst 0, 1) := by decide +kernel
theorem dX5_tellsTen_16 : decode cX5_tellsTen 16 = .ok (.istore_n 3, 1) := by decide +kernel
theorem dX5_tellsTen_17 : decode cX5_tellsTen 17 = .ok (.iload_n 3, 1) := by decide +kernel
theorem dX5_tellsTen_18 : decode cX5_tellsTen 18 = .ok (.bipush 10, 2) := by decide +kernel
theorem dX5_tellsTen_20 : decode cX5_tellsTen 20 = .ok (.if_icmp .ge 56, 3) := by decide +kernel
theorem dX5_tellsTen_23 : decode cX5_tellsTen 23 = .ok (.iload_n 2, 1) := by decide +kernel
theorem dX5_tellsTen_24 : decode cX5_tellsTen 24 = .ok (.ifCond .eq 52, 3) := by decide +kernel
theorem dX5_tellsTen_27 : decode cX5_tellsTen 27 = .ok (.aload_n 0, 1) := by decide +kernel
theorem dX5_tellsTen_28 : decode cX5_tellsTen 28 = .ok (.getfield 23, 3) := by decide +kernel
theorem dX5_tellsTen_31 : decode cX5_tellsTen 31 = .ok (.iload_n 3, 1) := by decide +kernel
theorem dX5_tellsTen_32 : decode cX5_tellsTen 32 = .ok (.caload, 1) := by decide +kernel
theorem dX5_tellsTen_33 : decode cX5_tellsTen 33 = .ok (.bipush 48, 2) := by decide +kernel
theorem dX5_tellsTen_35 : decode cX5_tellsTen 35 = .ok (.if_icmp .lt 14, 3) := by decide +kernel
theorem dX5_tellsTen_38 : decode cX5_tellsTen 38 = .ok (.aload_n 0, 1) := by decide +kernel
theorem dX5_tellsTen_39 : decode cX5_tellsTen 39 = .ok (.getfield 23, 3) := by decide +kernel
theorem dX5_tellsTen_42 : decode cX5_tellsTen 42 = .ok (.iload_n 3, 1) := by decide +kernel
theorem dX5_tellsTen_43 : decode cX5_tellsTen 43 = .ok (.caload, 1) := by decide +kernel
theorem dX5_tellsTen_44 : decode cX5_tellsTen 44 = .ok (.bipush 57, 2) := by decide +kernel
theorem dX5_tellsTen_46 : decode cX5_tellsTen 46 = .ok (.if_icmp .le 18, 3) := by decide +kernel
theorem dX5_tellsTen_49 : decode cX5_tellsTen 49 = .ok (.iload_n 1, 1) := by decide +kernel
theorem dX5_tellsTen_50 : decode cX5_tellsTen 50 = .ok (.ifCond .ne 18, 3) := by decide +kernel
theorem dX5_tellsTen_53 : decode cX5_tellsTen 53 = .ok (.aload_n 0, 1) := by decide +kernel
theorem dX5_tellsTen_54 : decode cX5_tellsTen 54 = .ok (.getfield 23, 3) := by decide +kernel
theorem dX5_tellsTen_57 : decode cX5_tellsTen 57 = .ok (.iload_n 3, 1) := by decide +kernel
theorem dX5_tellsTen_58 : decode cX5_tellsTen 58 = .ok (.caload, 1) := by decide +kernel
theorem dX5_tellsTen_59 : decode cX5_tellsTen 59 = .ok (.bipush 45, 2) := by decide +kernel
theorem dX5_tellsTen_61 : decode cX5_tellsTen 61 = .ok (.if_icmp .ne 7, 3) := by decide +kernel
theorem dX5_tellsTen_64 : decode cX5_tellsTen 64 = .ok (.iconst 1, 1) := by decide +kernel
theorem dX5_tellsTen_65 : decode cX5_tellsTen 65 = .ok (.goto 4, 3) := by decide +kernel
theorem dX5_tellsTen_68 : decode cX5_tellsTen 68 = .ok (.iconst 0, 1) := by decide +kernel
theorem dX5_tellsTen_69 : decode cX5_tellsTen 69 = .ok (.istore_n 2, 1) := by decide +kernel
theorem dX5_tellsTen_70 : decode cX5_tellsTen 70 = .ok (.iinc 3 1, 3) := by decide +kernel
theorem dX5_tellsTen_73 : decode cX5_tellsTen 73 = .ok (.goto (-56), 3) := by decide +kernel
theorem dX5_tellsTen_76 : decode cX5_tellsTen 76 = .ok (.iload_n 2, 1) := by decide +kernel
theorem dX5_tellsTen_77 : decode cX5_tellsTen 77 = .ok (.ireturn, 1) := by decide +kernel
set_option maxRecDepth 20000 in
theorem ggX5_hand_X5_isTeam : GoodIn wsX5_hand wsX5_isTeam := goodIn_r _ [8, 1, 9, 10, 7, 11, 35, 36, 37, 38, 39, 40, 41] (by decide +kernel) (by decide +kernel)
set_option maxRecDepth 20000 in
theorem gX5_hand_X5_isTeam : GoodIn wsX5_hand (wsV RX5 95 RX5 yX5_isTeam wsX5_isTeam) := goodIn_app (goodIn_of _ (by decide +kernel)) ggX5_hand_X5_isTeam
set_option maxRecDepth 20000 in
theorem ggX5_hand_X5_isRound : GoodIn wsX5_hand wsX5_isRound := goodIn_r _ [14, 9, 10, 7, 11] (by decide +kernel) (by decide +kernel)
set_option maxRecDepth 20000 in
theorem gX5_hand_X5_isRound : GoodIn wsX5_hand (va_wsS RX5 98 yX5_isRound wsX5_isRound) := goodIn_app (goodIn_of _ (by decide +kernel)) ggX5_hand_X5_isRound
set_option maxRecDepth 20000 in
theorem ggX5_hand_X5_tellsTen : GoodIn wsX5_hand wsX5_tellsTen := goodIn_r _ [18, 3, 2, 35, 36, 37, 38, 39, 40, 41] (by decide +kernel) (by decide +kernel)
set_option maxRecDepth 20000 in
theorem gX5_hand_X5_tellsTen : GoodIn wsX5_hand (wsV RX5 101 RX5 yX5_tellsTen wsX5_tellsTen) := goodIn_app (goodIn_of _ (by decide +kernel)) ggX5_hand_X5_tellsTen
set_option maxRecDepth 20000 in
theorem ggX5_hand_X5_h : GoodIn wsX5_hand wsX5_h := goodIn_r _ [21] (by decide +kernel) (by decide +kernel)
set_option maxRecDepth 20000 in
theorem gX5_hand_X5_h : GoodIn wsX5_hand (va_wsS RX5 39 yX5_h wsX5_h) := goodIn_app (goodIn_of _ (by decide +kernel)) ggX5_hand_X5_h
set_option maxRecDepth 20000 in
theorem ggX5_hand_X5_isOpen : GoodIn wsX5_hand wsX5_isOpen := goodIn_r _ [25, 1, 26, 27, 7, 28, 35, 36, 37, 38, 39, 40, 41] (by decide +kernel) (by decide +kernel)
set_option maxRecDepth 20000 in
theorem gX5_hand_X5_isOpen : GoodIn wsX5_hand (wsV RX5 85 RX5 yX5_isOpen wsX5_isOpen) := goodIn_app (goodIn_of _ (by decide +kernel)) ggX5_hand_X5_isOpen
set_option maxRecDepth 20000 in
theorem ggX5_hand_X5_record : GoodIn wsX5_hand wsX5_record := goodIn_r _ [32, 33, 34, 1, 35, 36, 37, 38, 39, 40, 41] (by decide +kernel) (by decide +kernel)
set_option maxRecDepth 20000 in
theorem gX5_hand_X5_record : GoodIn wsX5_hand (wsV RX5 82 RX5 yX5_record wsX5_record) := goodIn_app (goodIn_of _ (by decide +kernel)) ggX5_hand_X5_record
theorem dX5_hand_0 : decode cX5_hand 0 = .ok (.aload_n 0, 1) := by decide +kernel
theorem dX5_hand_1 : decode cX5_hand 1 = .ok (.iload_n 1, 1) := by decide +kernel
theorem dX5_hand_2 : decode cX5_hand 2 = .ok (.invokevirtual 95, 3) := by decide +kernel
theorem dX5_hand_5 : decode cX5_hand 5 = .ok (.ifCond .eq 10, 3) := by decide +kernel
theorem dX5_hand_8 : decode cX5_hand 8 = .ok (.iload_n 2, 1) := by decide +kernel
theorem dX5_hand_9 : decode cX5_hand 9 = .ok (.invokestatic 98, 3) := by decide +kernel
theorem dX5_hand_12 : decode cX5_hand 12 = .ok (.ifCond .ne 5, 3) := by decide +kernel
theorem dX5_hand_15 : decode cX5_hand 15 = .ok (.iconst (-1), 1) := by decide +kernel
theorem dX5_hand_16 : decode cX5_hand 16 = .ok (.ireturn, 1) := by decide +kernel
theorem dX5_hand_17 : decode cX5_hand 17 = .ok (.aload_n 0, 1) := by decide +kernel
theorem dX5_hand_18 : decode cX5_hand 18 = .ok (.iconst 0, 1) := by decide +kernel
theorem dX5_hand_19 : decode cX5_hand 19 = .ok (.invokevirtual 101, 3) := by decide +kernel
theorem dX5_hand_22 : decode cX5_hand 22 = .ok (.ifCond .ne 6, 3) := by decide +kernel
theorem dX5_hand_25 : decode cX5_hand 25 = .ok (.bipush (-3), 2) := by decide +kernel
theorem dX5_hand_27 : decode cX5_hand 27 = .ok (.ireturn, 1) := by decide +kernel
theorem dX5_hand_28 : decode cX5_hand 28 = .ok (.iload_n 1, 1) := by decide +kernel
theorem dX5_hand_29 : decode cX5_hand 29 = .ok (.iload_n 2, 1) := by decide +kernel
theorem dX5_hand_30 : decode cX5_hand 30 = .ok (.invokestatic 39, 3) := by decide +kernel
theorem dX5_hand_33 : decode cX5_hand 33 = .ok (.istore_n 3, 1) := by decide +kernel
theorem dX5_hand_34 : decode cX5_hand 34 = .ok (.aload_n 0, 1) := by decide +kernel
theorem dX5_hand_35 : decode cX5_hand 35 = .ok (.iload_n 2, 1) := by decide +kernel
theorem dX5_hand_36 : decode cX5_hand 36 = .ok (.invokevirtual 85, 3) := by decide +kernel
theorem dX5_hand_39 : decode cX5_hand 39 = .ok (.ifCond .eq 15, 3) := by decide +kernel
theorem dX5_hand_42 : decode cX5_hand 42 = .ok (.aload_n 0, 1) := by decide +kernel
theorem dX5_hand_43 : decode cX5_hand 43 = .ok (.getfield 7, 3) := by decide +kernel
theorem dX5_hand_46 : decode cX5_hand 46 = .ok (.iload_n 3, 1) := by decide +kernel
theorem dX5_hand_47 : decode cX5_hand 47 = .ok (.iconst 0, 1) := by decide +kernel
theorem dX5_hand_48 : decode cX5_hand 48 = .ok (.iadd, 1) := by decide +kernel
theorem dX5_hand_49 : decode cX5_hand 49 = .ok (.iaload, 1) := by decide +kernel
theorem dX5_hand_50 : decode cX5_hand 50 = .ok (.iconst 1, 1) := by decide +kernel
theorem dX5_hand_51 : decode cX5_hand 51 = .ok (.if_icmp .ne 6, 3) := by decide +kernel
theorem dX5_hand_54 : decode cX5_hand 54 = .ok (.bipush (-5), 2) := by decide +kernel
theorem dX5_hand_56 : decode cX5_hand 56 = .ok (.ireturn, 1) := by decide +kernel
theorem dX5_hand_57 : decode cX5_hand 57 = .ok (.aload_n 0, 1) := by decide +kernel
theorem dX5_hand_58 : decode cX5_hand 58 = .ok (.invokevirtual 82, 3) := by decide +kernel
theorem dX5_hand_61 : decode cX5_hand 61 = .ok (.aload_n 0, 1) := by decide +kernel
theorem dX5_hand_62 : decode cX5_hand 62 = .ok (.getfield 7, 3) := by decide +kernel
theorem dX5_hand_65 : decode cX5_hand 65 = .ok (.iload_n 3, 1) := by decide +kernel
theorem dX5_hand_66 : decode cX5_hand 66 = .ok (.iconst 0, 1) := by decide +kernel
theorem dX5_hand_67 : decode cX5_hand 67 = .ok (.iadd, 1) := by decide +kernel
theorem dX5_hand_68 : decode cX5_hand 68 = .ok (.iconst 1, 1) := by decide +kernel
theorem dX5_hand_69 : decode cX5_hand 69 = .ok (.iastore, 1) := by decide +kernel
theorem dX5_hand_70 : decode cX5_hand 70 = .ok (.iconst 0, 1) := by decide +kernel
theorem dX5_hand_71 : decode cX5_hand 71 = .ok (.istore 4, 2) := by decide +kernel
theorem dX5_hand_73 : decode cX5_hand 73 = .ok (.iconst 0, 1) := by decide +kernel
theorem dX5_hand_74 : decode cX5_hand 74 = .ok (.istore 5, 2) := by decide +kernel
theorem dX5_hand_76 : decode cX5_hand 76 = .ok (.iload 5, 2) := by decide +kernel
theorem dX5_hand_78 : decode cX5_hand 78 = .ok (.bipush 10, 2) := by decide +kernel
theorem dX5_hand_80 : decode cX5_hand 80 = .ok (.if_icmp .ge 68, 3) := by decide +kernel
theorem dX5_hand_83 : decode cX5_hand 83 = .ok (.aload_n 0, 1) := by decide +kernel
theorem dX5_hand_84 : decode cX5_hand 84 = .ok (.getfield 7, 3) := by decide +kernel
theorem dX5_hand_87 : decode cX5_hand 87 = .ok (.iload_n 3, 1) := by decide +kernel
theorem dX5_hand_88 : decode cX5_hand 88 = .ok (.iconst 5, 1) := by decide +kernel
theorem dX5_hand_89 : decode cX5_hand 89 = .ok (.iadd, 1) := by decide +kernel
theorem dX5_hand_90 : decode cX5_hand 90 = .ok (.iload 5, 2) := by decide +kernel
theorem dX5_hand_92 : decode cX5_hand 92 = .ok (.iadd, 1) := by decide +kernel
theorem dX5_hand_93 : decode cX5_hand 93 = .ok (.aload_n 0, 1) := by decide +kernel
theorem dX5_hand_94 : decode cX5_hand 94 = .ok (.getfield 23, 3) := by decide +kernel
theorem dX5_hand_97 : decode cX5_hand 97 = .ok (.iload 5, 2) := by decide +kernel
theorem dX5_hand_99 : decode cX5_hand 99 = .ok (.caload, 1) := by decide +kernel
theorem dX5_hand_100 : decode cX5_hand 100 = .ok (.bipush 45, 2) := by decide +kernel
theorem dX5_hand_102 : decode cX5_hand 102 = .ok (.if_icmp .ne 7, 3) := by decide +kernel
theorem dX5_hand_105 : decode cX5_hand 105 = .ok (.iconst (-1), 1) := by decide +kernel
theorem dX5_hand_106 : decode cX5_hand 106 = .ok (.goto 13, 3) := by decide +kernel
theorem dX5_hand_109 : decode cX5_hand 109 = .ok (.aload_n 0, 1) := by decide +kernel
theorem dX5_hand_110 : decode cX5_hand 110 = .ok (.getfield 23, 3) := by decide +kernel
theorem dX5_hand_113 : decode cX5_hand 113 = .ok (.iload 5, 2) := by decide +kernel
theorem dX5_hand_115 : decode cX5_hand 115 = .ok (.caload, 1) := by decide +kernel
theorem dX5_hand_116 : decode cX5_hand 116 = .ok (.bipush 48, 2) := by decide +kernel
theorem dX5_hand_118 : decode cX5_hand 118 = .ok (.isub, 1) := by decide +kernel
theorem dX5_hand_119 : decode cX5_hand 119 = .ok (.iastore, 1) := by decide +kernel
theorem dX5_hand_120 : decode cX5_hand 120 = .ok (.iload 4, 2) := by decide +kernel
theorem dX5_hand_122 : decode cX5_hand 122 = .ok (.aload_n 0, 1) := by decide +kernel
theorem dX5_hand_123 : decode cX5_hand 123 = .ok (.getfield 23, 3) := by decide +kernel
theorem dX5_hand_126 : decode cX5_hand 126 = .ok (.iload 5, 2) := by decide +kernel
theorem dX5_hand_128 : decode cX5_hand 128 = .ok (.caload, 1) := by decide +kernel
theorem dX5_hand_129 : decode cX5_hand 129 = .ok (.bipush 45, 2) := by decide +kernel
theorem dX5_hand_131 : decode cX5_hand 131 = .ok (.if_icmp .ne 7, 3) := by decide +kernel
theorem dX5_hand_134 : decode cX5_hand 134 = .ok (.iconst 0, 1) := by decide +kernel
theorem dX5_hand_135 : decode cX5_hand 135 = .ok (.goto 4, 3) := by decide +kernel
theorem dX5_hand_138 : decode cX5_hand 138 = .ok (.iconst 1, 1) := by decide +kernel
theorem dX5_hand_139 : decode cX5_hand 139 = .ok (.iadd, 1) := by decide +kernel
theorem dX5_hand_140 : decode cX5_hand 140 = .ok (.istore 4, 2) := by decide +kernel
theorem dX5_hand_142 : decode cX5_hand 142 = .ok (.iinc 5 1, 3) := by decide +kernel
theorem dX5_hand_145 : decode cX5_hand 145 = .ok (.goto (-69), 3) := by decide +kernel
theorem dX5_hand_148 : decode cX5_hand 148 = .ok (.aload_n 0, 1) := by decide +kernel
theorem dX5_hand_149 : decode cX5_hand 149 = .ok (.iconst 0, 1) := by decide +kernel
theorem dX5_hand_150 : decode cX5_hand 150 = .ok (.putfield 92, 3) := by decide +kernel
theorem dX5_hand_153 : decode cX5_hand 153 = .ok (.iload 4, 2) := by decide +kernel
theorem dX5_hand_155 : decode cX5_hand 155 = .ok (.ireturn, 1) := by decide +kernel
set_option maxRecDepth 20000 in
theorem ggX5_teamsOf_X5_h : GoodIn wsX5_teamsOf wsX5_h := goodIn_r _ [5] (by decide +kernel) (by decide +kernel)
set_option maxRecDepth 20000 in
theorem gX5_teamsOf_X5_h : GoodIn wsX5_teamsOf (va_wsS RX5 39 yX5_h wsX5_h) := goodIn_app (goodIn_of _ (by decide +kernel)) ggX5_teamsOf_X5_h
set_option maxRecDepth 20000 in
theorem ggX5_teamsOf_X5_t : GoodIn wsX5_teamsOf wsX5_t := goodIn_r _ [8] (by decide +kernel) (by decide +kernel)
set_option maxRecDepth 20000 in
theorem gX5_teamsOf_X5_t : GoodIn wsX5_teamsOf (va_wsS RX5 46 yX5_t wsX5_t) := goodIn_app (goodIn_of _ (by decide +kernel)) ggX5_teamsOf_X5_t
theorem dX5_teamsOf_0 : decode cX5_teamsOf 0 = .ok (.iconst 0, 1) := by decide +kernel
theorem dX5_teamsOf_1 : decode cX5_teamsOf 1 = .ok (.istore_n 3, 1) := by decide +kernel
theorem dX5_teamsOf_2 : decode cX5_teamsOf 2 = .ok (.iconst 0, 1) := by decide +kernel
theorem dX5_teamsOf_3 : decode cX5_teamsOf 3 = .ok (.istore 4, 2) := by decide +kernel
theorem dX5_teamsOf_5 : decode cX5_teamsOf 5 = .ok (.iload 4, 2) := by decide +kernel
theorem dX5_teamsOf_7 : decode cX5_teamsOf 7 = .ok (.aload_n 0, 1) := by decide +kernel
theorem dX5_teamsOf_8 : decode cX5_teamsOf 8 = .ok (.getfield 7, 3) := by decide +kernel
theorem dX5_teamsOf_11 : decode cX5_teamsOf 11 = .ok (.iconst 4, 1) := by decide +kernel
theorem dX5_teamsOf_12 : decode cX5_teamsOf 12 = .ok (.iaload, 1) := by decide +kernel
theorem dX5_teamsOf_13 : decode cX5_teamsOf 13 = .ok (.if_icmp .ge 102, 3) := by decide +kernel
theorem dX5_teamsOf_16 : decode cX5_teamsOf 16 = .ok (.iload 4, 2) := by decide +kernel
theorem dX5_teamsOf_18 : decode cX5_teamsOf 18 = .ok (.iload_n 1, 1) := by decide +kernel
theorem dX5_teamsOf_19 : decode cX5_teamsOf 19 = .ok (.invokestatic 39, 3) := by decide +kernel
theorem dX5_teamsOf_22 : decode cX5_teamsOf 22 = .ok (.istore 5, 2) := by decide +kernel
theorem dX5_teamsOf_24 : decode cX5_teamsOf 24 = .ok (.iload_n 2, 1) := by decide +kernel
theorem dX5_teamsOf_25 : decode cX5_teamsOf 25 = .ok (.iconst 2, 1) := by decide +kernel
theorem dX5_teamsOf_26 : decode cX5_teamsOf 26 = .ok (.if_icmp .ne 29, 3) := by decide +kernel
theorem dX5_teamsOf_29 : decode cX5_teamsOf 29 = .ok (.aload_n 0, 1) := by decide +kernel
theorem dX5_teamsOf_30 : decode cX5_teamsOf 30 = .ok (.getfield 7, 3) := by decide +kernel
theorem dX5_teamsOf_33 : decode cX5_teamsOf 33 = .ok (.iload 4, 2) := by decide +kernel
theorem dX5_teamsOf_35 : decode cX5_teamsOf 35 = .ok (.invokestatic 46, 3) := by decide +kernel
theorem dX5_teamsOf_38 : decode cX5_teamsOf 38 = .ok (.iconst 1, 1) := by decide +kernel
theorem dX5_teamsOf_39 : decode cX5_teamsOf 39 = .ok (.iadd, 1) := by decide +kernel
theorem dX5_teamsOf_40 : decode cX5_teamsOf 40 = .ok (.iaload, 1) := by decide +kernel
theorem dX5_teamsOf_41 : decode cX5_teamsOf 41 = .ok (.iload_n 1, 1) := by decide +kernel
theorem dX5_teamsOf_42 : decode cX5_teamsOf 42 = .ok (.iconst 1, 1) := by decide +kernel
theorem dX5_teamsOf_43 : decode cX5_teamsOf 43 = .ok (.iadd, 1) := by decide +kernel
theorem dX5_teamsOf_44 : decode cX5_teamsOf 44 = .ok (.if_icmp .ne 7, 3) := by decide +kernel
theorem dX5_teamsOf_47 : decode cX5_teamsOf 47 = .ok (.iconst 1, 1) := by decide +kernel
theorem dX5_teamsOf_48 : decode cX5_teamsOf 48 = .ok (.goto 43, 3) := by decide +kernel
theorem dX5_teamsOf_51 : decode cX5_teamsOf 51 = .ok (.iconst 0, 1) := by decide +kernel
theorem dX5_teamsOf_52 : decode cX5_teamsOf 52 = .ok (.goto 39, 3) := by decide +kernel
theorem dX5_teamsOf_55 : decode cX5_teamsOf 55 = .ok (.aload_n 0, 1) := by decide +kernel
theorem dX5_teamsOf_56 : decode cX5_teamsOf 56 = .ok (.getfield 7, 3) := by decide +kernel
theorem dX5_teamsOf_59 : decode cX5_teamsOf 59 = .ok (.iload 5, 2) := by decide +kernel
theorem dX5_teamsOf_61 : decode cX5_teamsOf 61 = .ok (.iload_n 2, 1) := by decide +kernel
theorem dX5_teamsOf_62 : decode cX5_teamsOf 62 = .ok (.iconst 1, 1) := by decide +kernel
theorem dX5_teamsOf_63 : decode cX5_teamsOf 63 = .ok (.if_icmp .ne 7, 3) := by decide +kernel
theorem dX5_teamsOf_66 : decode cX5_teamsOf 66 = .ok (.iconst 0, 1) := by decide +kernel
theorem dX5_teamsOf_67 : decode cX5_teamsOf 67 = .ok (.goto 13, 3) := by decide +kernel
theorem dX5_teamsOf_70 : decode cX5_teamsOf 70 = .ok (.iload_n 2, 1) := by decide +kernel
theorem dX5_teamsOf_71 : decode cX5_teamsOf 71 = .ok (.iconst 3, 1) := by decide +kernel
theorem dX5_teamsOf_72 : decode cX5_teamsOf 72 = .ok (.if_icmp .ne 7, 3) := by decide +kernel
theorem dX5_teamsOf_75 : decode cX5_teamsOf 75 = .ok (.iconst 1, 1) := by decide +kernel
theorem dX5_teamsOf_76 : decode cX5_teamsOf 76 = .ok (.goto 4, 3) := by decide +kernel
theorem dX5_teamsOf_79 : decode cX5_teamsOf 79 = .ok (.iconst 4, 1) := by decide +kernel
theorem dX5_teamsOf_80 : decode cX5_teamsOf 80 = .ok (.iadd, 1) := by decide +kernel
theorem dX5_teamsOf_81 : decode cX5_teamsOf 81 = .ok (.iaload, 1) := by decide +kernel
theorem dX5_teamsOf_82 : decode cX5_teamsOf 82 = .ok (.iconst 1, 1) := by decide +kernel
theorem dX5_teamsOf_83 : decode cX5_teamsOf 83 = .ok (.if_icmp .ne 7, 3) := by decide +kernel
theorem dX5_teamsOf_86 : decode cX5_teamsOf 86 = .ok (.iconst 1, 1) := by decide +kernel
theorem dX5_teamsOf_87 : decode cX5_teamsOf 87 = .ok (.goto 4, 3) := by decide +kernel
theorem dX5_teamsOf_90 : decode cX5_teamsOf 90 = .ok (.iconst 0, 1) := by decide +kernel
theorem dX5_teamsOf_91 : decode cX5_teamsOf 91 = .ok (.istore 6, 2) := by decide +kernel
theorem dX5_teamsOf_93 : decode cX5_teamsOf 93 = .ok (.iload_n 3, 1) := by decide +kernel
theorem dX5_teamsOf_94 : decode cX5_teamsOf 94 = .ok (.iload 6, 2) := by decide +kernel
theorem dX5_teamsOf_96 : decode cX5_teamsOf 96 = .ok (.ifCond .eq 10, 3) := by decide +kernel
theorem dX5_teamsOf_99 : decode cX5_teamsOf 99 = .ok (.iconst 1, 1) := by decide +kernel
theorem dX5_teamsOf_100 : decode cX5_teamsOf 100 = .ok (.iload 4, 2) := by decide +kernel
theorem dX5_teamsOf_102 : decode cX5_teamsOf 102 = .ok (.ishl, 1) := by decide +kernel
theorem dX5_teamsOf_103 : decode cX5_teamsOf 103 = .ok (.goto 4, 3) := by decide +kernel
theorem dX5_teamsOf_106 : decode cX5_teamsOf 106 = .ok (.iconst 0, 1) := by decide +kernel
theorem dX5_teamsOf_107 : decode cX5_teamsOf 107 = .ok (.ior, 1) := by decide +kernel
theorem dX5_teamsOf_108 : decode cX5_teamsOf 108 = .ok (.istore_n 3, 1) := by decide +kernel
theorem dX5_teamsOf_109 : decode cX5_teamsOf 109 = .ok (.iinc 4 1, 3) := by decide +kernel
theorem dX5_teamsOf_112 : decode cX5_teamsOf 112 = .ok (.goto (-107), 3) := by decide +kernel
theorem dX5_teamsOf_115 : decode cX5_teamsOf 115 = .ok (.iload_n 3, 1) := by decide +kernel
theorem dX5_teamsOf_116 : decode cX5_teamsOf 116 = .ok (.ireturn, 1) := by decide +kernel
set_option maxRecDepth 20000 in
theorem ggX5_joker_X5_isTeam : GoodIn wsX5_joker wsX5_isTeam := goodIn_r _ [6, 1, 7, 8, 5, 9, 39, 40, 41, 42, 43, 44, 45] (by decide +kernel) (by decide +kernel)
set_option maxRecDepth 20000 in
theorem gX5_joker_X5_isTeam : GoodIn wsX5_joker (wsV RX5 95 RX5 yX5_isTeam wsX5_isTeam) := goodIn_app (goodIn_of _ (by decide +kernel)) ggX5_joker_X5_isTeam
set_option maxRecDepth 20000 in
theorem ggX5_joker_X5_isRound : GoodIn wsX5_joker wsX5_isRound := goodIn_r _ [12, 7, 8, 5, 9] (by decide +kernel) (by decide +kernel)
set_option maxRecDepth 20000 in
theorem gX5_joker_X5_isRound : GoodIn wsX5_joker (va_wsS RX5 98 yX5_isRound wsX5_isRound) := goodIn_app (goodIn_of _ (by decide +kernel)) ggX5_joker_X5_isRound
set_option maxRecDepth 20000 in
theorem ggX5_joker_X5_t : GoodIn wsX5_joker wsX5_t := goodIn_r _ [15] (by decide +kernel) (by decide +kernel)
set_option maxRecDepth 20000 in
theorem gX5_joker_X5_t : GoodIn wsX5_joker (va_wsS RX5 46 yX5_t wsX5_t) := goodIn_app (goodIn_of _ (by decide +kernel)) ggX5_joker_X5_t
set_option maxRecDepth 20000 in
theorem ggX5_joker_X5_isOpen : GoodIn wsX5_joker wsX5_isOpen := goodIn_r _ [19, 1, 20, 21, 5, 22, 39, 40, 41, 42, 43, 44, 45] (by decide +kernel) (by decide +kernel)
set_option maxRecDepth 20000 in
theorem gX5_joker_X5_isOpen : GoodIn wsX5_joker (wsV RX5 85 RX5 yX5_isOpen wsX5_isOpen) := goodIn_app (goodIn_of _ (by decide +kernel)) ggX5_joker_X5_isOpen
set_option maxRecDepth 20000 in
theorem ggX5_joker_X5_h : GoodIn wsX5_joker wsX5_h := goodIn_r _ [25] (by decide +kernel) (by decide +kernel)
set_option maxRecDepth 20000 in
theorem gX5_joker_X5_h : GoodIn wsX5_joker (va_wsS RX5 39 yX5_h wsX5_h) := goodIn_app (goodIn_of _ (by decide +kernel)) ggX5_joker_X5_h
set_option maxRecDepth 20000 in
theorem ggX5_joker_X5_record : GoodIn wsX5_joker wsX5_record := goodIn_r _ [29, 30, 31, 1, 39, 40, 41, 42, 43, 44, 45] (by decide +kernel) (by decide +kernel)
set_option maxRecDepth 20000 in
theorem gX5_joker_X5_record : GoodIn wsX5_joker (wsV RX5 82 RX5 yX5_record wsX5_record) := goodIn_app (goodIn_of _ (by decide +kernel)) ggX5_joker_X5_record
set_option maxRecDepth 20000 in
theorem ggX5_joker_X5_teamsOf : GoodIn wsX5_joker wsX5_teamsOf := goodIn_r _ [35, 1, 23, 24, 5, 25, 13, 14, 15, 39, 40, 41, 42, 43, 44, 45] (by decide +kernel) (by decide +kernel)
set_option maxRecDepth 20000 in
theorem gX5_joker_X5_teamsOf : GoodIn wsX5_joker (wsV RX5 105 RX5 yX5_teamsOf wsX5_teamsOf) := goodIn_app (goodIn_of _ (by decide +kernel)) ggX5_joker_X5_teamsOf
set_option maxRecDepth 20000 in
theorem ggX5_joker_X5_bits : GoodIn wsX5_joker wsX5_bits := goodIn_r _ [38] (by decide +kernel) (by decide +kernel)
set_option maxRecDepth 20000 in
theorem gX5_joker_X5_bits : GoodIn wsX5_joker (va_wsS RX5 73 yX5_bits wsX5_bits) := goodIn_app (goodIn_of _ (by decide +kernel)) ggX5_joker_X5_bits
theorem dX5_joker_0 : decode cX5_joker 0 = .ok (.aload_n 0, 1) := by decide +kernel
theorem dX5_joker_1 : decode cX5_joker 1 = .ok (.iload_n 1, 1) := by decide +kernel
theorem dX5_joker_2 : decode cX5_joker 2 = .ok (.invokevirtual 95, 3) := by decide +kernel
theorem dX5_joker_5 : decode cX5_joker 5 = .ok (.ifCond .eq 10, 3) := by decide +kernel
theorem dX5_joker_8 : decode cX5_joker 8 = .ok (.iload_n 2, 1) := by decide +kernel
theorem dX5_joker_9 : decode cX5_joker 9 = .ok (.invokestatic 98, 3) := by decide +kernel
theorem dX5_joker_12 : decode cX5_joker 12 = .ok (.ifCond .ne 5, 3) := by decide +kernel
theorem dX5_joker_15 : decode cX5_joker 15 = .ok (.iconst (-1), 1) := by decide +kernel
theorem dX5_joker_16 : decode cX5_joker 16 = .ok (.ireturn, 1) := by decide +kernel
theorem dX5_joker_17 : decode cX5_joker 17 = .ok (.aload_n 0, 1) := by decide +kernel
theorem dX5_joker_18 : decode cX5_joker 18 = .ok (.getfield 7, 3) := by decide +kernel
theorem dX5_joker_21 : decode cX5_joker 21 = .ok (.iload_n 1, 1) := by decide +kernel
theorem dX5_joker_22 : decode cX5_joker 22 = .ok (.invokestatic 46, 3) := by decide +kernel
theorem dX5_joker_25 : decode cX5_joker 25 = .ok (.iconst 1, 1) := by decide +kernel
theorem dX5_joker_26 : decode cX5_joker 26 = .ok (.iadd, 1) := by decide +kernel
theorem dX5_joker_27 : decode cX5_joker 27 = .ok (.iaload, 1) := by decide +kernel
theorem dX5_joker_28 : decode cX5_joker 28 = .ok (.ifCond .gt 27, 3) := by decide +kernel
theorem dX5_joker_31 : decode cX5_joker 31 = .ok (.aload_n 0, 1) := by decide +kernel
theorem dX5_joker_32 : decode cX5_joker 32 = .ok (.iload_n 2, 1) := by decide +kernel
theorem dX5_joker_33 : decode cX5_joker 33 = .ok (.invokevirtual 85, 3) := by decide +kernel
theorem dX5_joker_36 : decode cX5_joker 36 = .ok (.ifCond .eq 19, 3) := by decide +kernel
theorem dX5_joker_39 : decode cX5_joker 39 = .ok (.aload_n 0, 1) := by decide +kernel
theorem dX5_joker_40 : decode cX5_joker 40 = .ok (.getfield 7, 3) := by decide +kernel
theorem dX5_joker_43 : decode cX5_joker 43 = .ok (.iload_n 1, 1) := by decide +kernel
theorem dX5_joker_44 : decode cX5_joker 44 = .ok (.iload_n 2, 1) := by decide +kernel
theorem dX5_joker_45 : decode cX5_joker 45 = .ok (.invokestatic 39, 3) := by decide +kernel
theorem dX5_joker_48 : decode cX5_joker 48 = .ok (.iconst 0, 1) := by decide +kernel
theorem dX5_joker_49 : decode cX5_joker 49 = .ok (.iadd, 1) := by decide +kernel
theorem dX5_joker_50 : decode cX5_joker 50 = .ok (.iaload, 1) := by decide +kernel
theorem dX5_joker_51 : decode cX5_joker 51 = .ok (.iconst 1, 1) := by decide +kernel
theorem dX5_joker_52 : decode cX5_joker 52 = .ok (.if_icmp .ne 6, 3) := by decide +kernel
theorem dX5_joker_55 : decode cX5_joker 55 = .ok (.bipush (-5), 2) := by decide +kernel
theorem dX5_joker_57 : decode cX5_joker 57 = .ok (.ireturn, 1) := by decide +kernel
theorem dX5_joker_58 : decode cX5_joker 58 = .ok (.aload_n 0, 1) := by decide +kernel
theorem dX5_joker_59 : decode cX5_joker 59 = .ok (.invokevirtual 82, 3) := by decide +kernel
theorem dX5_joker_62 : decode cX5_joker 62 = .ok (.aload_n 0, 1) := by decide +kernel
theorem dX5_joker_63 : decode cX5_joker 63 = .ok (.getfield 7, 3) := by decide +kernel
theorem dX5_joker_66 : decode cX5_joker 66 = .ok (.iload_n 1, 1) := by decide +kernel
theorem dX5_joker_67 : decode cX5_joker 67 = .ok (.invokestatic 46, 3) := by decide +kernel
theorem dX5_joker_70 : decode cX5_joker 70 = .ok (.iconst 1, 1) := by decide +kernel
theorem dX5_joker_71 : decode cX5_joker 71 = .ok (.iadd, 1) := by decide +kernel
theorem dX5_joker_72 : decode cX5_joker 72 = .ok (.iload_n 2, 1) := by decide +kernel
theorem dX5_joker_73 : decode cX5_joker 73 = .ok (.iconst 1, 1) := by decide +kernel
theorem dX5_joker_74 : decode cX5_joker 74 = .ok (.iadd, 1) := by decide +kernel
theorem dX5_joker_75 : decode cX5_joker 75 = .ok (.iastore, 1) := by decide +kernel
theorem dX5_joker_76 : decode cX5_joker 76 = .ok (.aload_n 0, 1) := by decide +kernel
theorem dX5_joker_77 : decode cX5_joker 77 = .ok (.iload_n 2, 1) := by decide +kernel
theorem dX5_joker_78 : decode cX5_joker 78 = .ok (.iconst 2, 1) := by decide +kernel
theorem dX5_joker_79 : decode cX5_joker 79 = .ok (.invokevirtual 105, 3) := by decide +kernel
theorem dX5_joker_82 : decode cX5_joker 82 = .ok (.invokestatic 73, 3) := by decide +kernel
theorem dX5_joker_85 : decode cX5_joker 85 = .ok (.ireturn, 1) := by decide +kernel
set_option maxRecDepth 20000 in
theorem ggX5_key_X5_isRound : GoodIn wsX5_key wsX5_isRound := goodIn_r _ [7, 8, 9, 6, 10] (by decide +kernel) (by decide +kernel)
set_option maxRecDepth 20000 in
theorem gX5_key_X5_isRound : GoodIn wsX5_key (va_wsS RX5 98 yX5_isRound wsX5_isRound) := goodIn_app (goodIn_of _ (by decide +kernel)) ggX5_key_X5_isRound
set_option maxRecDepth 20000 in
theorem ggX5_key_X5_tellsTen : GoodIn wsX5_key wsX5_tellsTen := goodIn_r _ [14, 3, 2, 41, 42, 43, 44, 45, 46, 47] (by decide +kernel) (by decide +kernel)
set_option maxRecDepth 20000 in
theorem gX5_key_X5_tellsTen : GoodIn wsX5_key (wsV RX5 101 RX5 yX5_tellsTen wsX5_tellsTen) := goodIn_app (goodIn_of _ (by decide +kernel)) ggX5_key_X5_tellsTen
set_option maxRecDepth 20000 in
theorem ggX5_key_X5_isOpen : GoodIn wsX5_key wsX5_isOpen := goodIn_r _ [18, 1, 19, 20, 6, 21, 41, 42, 43, 44, 45, 46, 47] (by decide +kernel) (by decide +kernel)
set_option maxRecDepth 20000 in
theorem gX5_key_X5_isOpen : GoodIn wsX5_key (wsV RX5 85 RX5 yX5_isOpen wsX5_isOpen) := goodIn_app (goodIn_of _ (by decide +kernel)) ggX5_key_X5_isOpen
set_option maxRecDepth 20000 in
theorem ggX5_key_X5_record : GoodIn wsX5_key wsX5_record := goodIn_r _ [25, 26, 27, 1, 41, 42, 43, 44, 45, 46, 47] (by decide +kernel) (by decide +kernel)
set_option maxRecDepth 20000 in
theorem gX5_key_X5_record : GoodIn wsX5_key (wsV RX5 82 RX5 yX5_record wsX5_record) := goodIn_app (goodIn_of _ (by decide +kernel)) ggX5_key_X5_record
set_option maxRecDepth 20000 in
theorem ggX5_key_X5_r : GoodIn wsX5_key wsX5_r := goodIn_r _ [21] (by decide +kernel) (by decide +kernel)
set_option maxRecDepth 20000 in
theorem gX5_key_X5_r : GoodIn wsX5_key (va_wsS RX5 31 yX5_r wsX5_r) := goodIn_app (goodIn_of _ (by decide +kernel)) ggX5_key_X5_r
set_option maxRecDepth 20000 in
theorem ggX5_key_X5_teamsOf : GoodIn wsX5_key wsX5_teamsOf := goodIn_r _ [31, 1, 32, 33, 6, 34, 35, 36, 37, 41, 42, 43, 44, 45, 46, 47] (by decide +kernel) (by decide +kernel)
set_option maxRecDepth 20000 in
theorem gX5_key_X5_teamsOf : GoodIn wsX5_key (wsV RX5 105 RX5 yX5_teamsOf wsX5_teamsOf) := goodIn_app (goodIn_of _ (by decide +kernel)) ggX5_key_X5_teamsOf
set_option maxRecDepth 20000 in
theorem ggX5_key_X5_bits : GoodIn wsX5_key wsX5_bits := goodIn_r _ [40] (by decide +kernel) (by decide +kernel)
set_option maxRecDepth 20000 in
theorem gX5_key_X5_bits : GoodIn wsX5_key (va_wsS RX5 73 yX5_bits wsX5_bits) := goodIn_app (goodIn_of _ (by decide +kernel)) ggX5_key_X5_bits
theorem dX5_key_0 : decode cX5_key 0 = .ok (.iload_n 1, 1) := by decide +kernel
theorem dX5_key_1 : decode cX5_key 1 = .ok (.invokestatic 98, 3) := by decide +kernel
theorem dX5_key_4 : decode cX5_key 4 = .ok (.ifCond .ne 5, 3) := by decide +kernel
theorem dX5_key_7 : decode cX5_key 7 = .ok (.iconst (-1), 1) := by decide +kernel
theorem dX5_key_8 : decode cX5_key 8 = .ok (.ireturn, 1) := by decide +kernel
theorem dX5_key_9 : decode cX5_key 9 = .ok (.aload_n 0, 1) := by decide +kernel
theorem dX5_key_10 : decode cX5_key 10 = .ok (.iconst 1, 1) := by decide +kernel
theorem dX5_key_11 : decode cX5_key 11 = .ok (.invokevirtual 101, 3) := by decide +kernel
theorem dX5_key_14 : decode cX5_key 14 = .ok (.ifCond .ne 6, 3) := by decide +kernel
theorem dX5_key_17 : decode cX5_key 17 = .ok (.bipush (-3), 2) := by decide +kernel
theorem dX5_key_19 : decode cX5_key 19 = .ok (.ireturn, 1) := by decide +kernel
theorem dX5_key_20 : decode cX5_key 20 = .ok (.aload_n 0, 1) := by decide +kernel
theorem dX5_key_21 : decode cX5_key 21 = .ok (.iload_n 1, 1) := by decide +kernel
theorem dX5_key_22 : decode cX5_key 22 = .ok (.invokevirtual 85, 3) := by decide +kernel
theorem dX5_key_25 : decode cX5_key 25 = .ok (.ifCond .ne 6, 3) := by decide +kernel
theorem dX5_key_28 : decode cX5_key 28 = .ok (.bipush (-5), 2) := by decide +kernel
theorem dX5_key_30 : decode cX5_key 30 = .ok (.ireturn, 1) := by decide +kernel
theorem dX5_key_31 : decode cX5_key 31 = .ok (.aload_n 0, 1) := by decide +kernel
theorem dX5_key_32 : decode cX5_key 32 = .ok (.invokevirtual 82, 3) := by decide +kernel
theorem dX5_key_35 : decode cX5_key 35 = .ok (.aload_n 0, 1) := by decide +kernel
theorem dX5_key_36 : decode cX5_key 36 = .ok (.getfield 7, 3) := by decide +kernel
theorem dX5_key_39 : decode cX5_key 39 = .ok (.iload_n 1, 1) := by decide +kernel
theorem dX5_key_40 : decode cX5_key 40 = .ok (.invokestatic 31, 3) := by decide +kernel
theorem dX5_key_43 : decode cX5_key 43 = .ok (.iconst 1, 1) := by decide +kernel
theorem dX5_key_44 : decode cX5_key 44 = .ok (.iastore, 1) := by decide +kernel
theorem dX5_key_45 : decode cX5_key 45 = .ok (.iconst 0, 1) := by decide +kernel
theorem dX5_key_46 : decode cX5_key 46 = .ok (.istore_n 2, 1) := by decide +kernel
theorem dX5_key_47 : decode cX5_key 47 = .ok (.iload_n 2, 1) := by decide +kernel
theorem dX5_key_48 : decode cX5_key 48 = .ok (.bipush 10, 2) := by decide +kernel
theorem dX5_key_50 : decode cX5_key 50 = .ok (.if_icmp .ge 31, 3) := by decide +kernel
theorem dX5_key_53 : decode cX5_key 53 = .ok (.aload_n 0, 1) := by decide +kernel
theorem dX5_key_54 : decode cX5_key 54 = .ok (.getfield 7, 3) := by decide +kernel
theorem dX5_key_57 : decode cX5_key 57 = .ok (.iload_n 1, 1) := by decide +kernel
theorem dX5_key_58 : decode cX5_key 58 = .ok (.invokestatic 31, 3) := by decide +kernel
theorem dX5_key_61 : decode cX5_key 61 = .ok (.iconst 1, 1) := by decide +kernel
theorem dX5_key_62 : decode cX5_key 62 = .ok (.iadd, 1) := by decide +kernel
theorem dX5_key_63 : decode cX5_key 63 = .ok (.iload_n 2, 1) := by decide +kernel
theorem dX5_key_64 : decode cX5_key 64 = .ok (.iadd, 1) := by decide +kernel
theorem dX5_key_65 : decode cX5_key 65 = .ok (.aload_n 0, 1) := by decide +kernel
theorem dX5_key_66 : decode cX5_key 66 = .ok (.getfield 23, 3) := by decide +kernel
theorem dX5_key_69 : decode cX5_key 69 = .ok (.iload_n 2, 1) := by decide +kernel
theorem dX5_key_70 : decode cX5_key 70 = .ok (.caload, 1) := by decide +kernel
theorem dX5_key_71 : decode cX5_key 71 = .ok (.bipush 48, 2) := by decide +kernel
theorem dX5_key_73 : decode cX5_key 73 = .ok (.isub, 1) := by decide +kernel
theorem dX5_key_74 : decode cX5_key 74 = .ok (.iastore, 1) := by decide +kernel
theorem dX5_key_75 : decode cX5_key 75 = .ok (.iinc 2 1, 3) := by decide +kernel
theorem dX5_key_78 : decode cX5_key 78 = .ok (.goto (-31), 3) := by decide +kernel
theorem dX5_key_81 : decode cX5_key 81 = .ok (.aload_n 0, 1) := by decide +kernel
theorem dX5_key_82 : decode cX5_key 82 = .ok (.iconst 0, 1) := by decide +kernel
theorem dX5_key_83 : decode cX5_key 83 = .ok (.putfield 92, 3) := by decide +kernel
theorem dX5_key_86 : decode cX5_key 86 = .ok (.aload_n 0, 1) := by decide +kernel
theorem dX5_key_87 : decode cX5_key 87 = .ok (.iload_n 1, 1) := by decide +kernel
theorem dX5_key_88 : decode cX5_key 88 = .ok (.iconst 1, 1) := by decide +kernel
theorem dX5_key_89 : decode cX5_key 89 = .ok (.invokevirtual 105, 3) := by decide +kernel
theorem dX5_key_92 : decode cX5_key 92 = .ok (.invokestatic 73, 3) := by decide +kernel
theorem dX5_key_95 : decode cX5_key 95 = .ok (.ireturn, 1) := by decide +kernel
set_option maxRecDepth 20000 in
theorem ggX5_mark_X5_isTeam : GoodIn wsX5_mark wsX5_isTeam := goodIn_r _ [6, 1, 7, 8, 5, 9, 29, 30, 31, 32, 33, 34, 35] (by decide +kernel) (by decide +kernel)
set_option maxRecDepth 20000 in
theorem gX5_mark_X5_isTeam : GoodIn wsX5_mark (wsV RX5 95 RX5 yX5_isTeam wsX5_isTeam) := goodIn_app (goodIn_of _ (by decide +kernel)) ggX5_mark_X5_isTeam
set_option maxRecDepth 20000 in
theorem ggX5_mark_X5_isRound : GoodIn wsX5_mark wsX5_isRound := goodIn_r _ [12, 7, 8, 5, 9] (by decide +kernel) (by decide +kernel)
set_option maxRecDepth 20000 in
theorem gX5_mark_X5_isRound : GoodIn wsX5_mark (va_wsS RX5 98 yX5_isRound wsX5_isRound) := goodIn_app (goodIn_of _ (by decide +kernel)) ggX5_mark_X5_isRound
set_option maxRecDepth 20000 in
theorem ggX5_mark_X5_in : GoodIn wsX5_mark wsX5_in := goodIn_r _ [9] (by decide +kernel) (by decide +kernel)
set_option maxRecDepth 20000 in
theorem gX5_mark_X5_in : GoodIn wsX5_mark (va_wsS RX5 27 yX5_in wsX5_in) := goodIn_app (goodIn_of _ (by decide +kernel)) ggX5_mark_X5_in
set_option maxRecDepth 20000 in
theorem ggX5_mark_X5_h : GoodIn wsX5_mark wsX5_h := goodIn_r _ [15] (by decide +kernel) (by decide +kernel)
set_option maxRecDepth 20000 in
theorem gX5_mark_X5_h : GoodIn wsX5_mark (va_wsS RX5 39 yX5_h wsX5_h) := goodIn_app (goodIn_of _ (by decide +kernel)) ggX5_mark_X5_h
set_option maxRecDepth 20000 in
theorem ggX5_mark_X5_isOpen : GoodIn wsX5_mark wsX5_isOpen := goodIn_r _ [19, 1, 20, 21, 5, 22, 29, 30, 31, 32, 33, 34, 35] (by decide +kernel) (by decide +kernel)
set_option maxRecDepth 20000 in
theorem gX5_mark_X5_isOpen : GoodIn wsX5_mark (wsV RX5 85 RX5 yX5_isOpen wsX5_isOpen) := goodIn_app (goodIn_of _ (by decide +kernel)) ggX5_mark_X5_isOpen
set_option maxRecDepth 20000 in
theorem ggX5_mark_X5_record : GoodIn wsX5_mark wsX5_record := goodIn_r _ [26, 27, 28, 1, 29, 30, 31, 32, 33, 34, 35] (by decide +kernel) (by decide +kernel)
set_option maxRecDepth 20000 in
theorem gX5_mark_X5_record : GoodIn wsX5_mark (wsV RX5 82 RX5 yX5_record wsX5_record) := goodIn_app (goodIn_of _ (by decide +kernel)) ggX5_mark_X5_record
theorem dX5_mark_0 : decode cX5_mark 0 = .ok (.aload_n 0, 1) := by decide +kernel
theorem dX5_mark_1 : decode cX5_mark 1 = .ok (.iload_n 1, 1) := by decide +kernel
theorem dX5_mark_2 : decode cX5_mark 2 = .ok (.invokevirtual 95, 3) := by decide +kernel
theorem dX5_mark_5 : decode cX5_mark 5 = .ok (.ifCond .eq 18, 3) := by decide +kernel
theorem dX5_mark_8 : decode cX5_mark 8 = .ok (.aload_n 0, 1) := by decide +kernel
theorem dX5_mark_9 : decode cX5_mark 9 = .ok (.iload_n 2, 1) := by decide +kernel
theorem dX5_mark_10 : decode cX5_mark 10 = .ok (.invokevirtual 95, 3) := by decide +kernel
theorem dX5_mark_13 : decode cX5_mark 13 = .ok (.ifCond .eq 10, 3) := by decide +kernel
theorem dX5_mark_16 : decode cX5_mark 16 = .ok (.iload_n 3, 1) := by decide +kernel
theorem dX5_mark_17 : decode cX5_mark 17 = .ok (.invokestatic 98, 3) := by decide +kernel
theorem dX5_mark_20 : decode cX5_mark 20 = .ok (.ifCond .ne 5, 3) := by decide +kernel
theorem dX5_mark_23 : decode cX5_mark 23 = .ok (.iconst (-1), 1) := by decide +kernel
theorem dX5_mark_24 : decode cX5_mark 24 = .ok (.ireturn, 1) := by decide +kernel
theorem dX5_mark_25 : decode cX5_mark 25 = .ok (.iload_n 1, 1) := by decide +kernel
theorem dX5_mark_26 : decode cX5_mark 26 = .ok (.iload_n 2, 1) := by decide +kernel
theorem dX5_mark_27 : decode cX5_mark 27 = .ok (.if_icmp .eq 15, 3) := by decide +kernel
theorem dX5_mark_30 : decode cX5_mark 30 = .ok (.iload 4, 2) := by decide +kernel
theorem dX5_mark_32 : decode cX5_mark 32 = .ok (.bipush (-20), 2) := by decide +kernel
theorem dX5_mark_34 : decode cX5_mark 34 = .ok (.bipush 10, 2) := by decide +kernel
theorem dX5_mark_36 : decode cX5_mark 36 = .ok (.invokestatic 27, 3) := by decide +kernel
theorem dX5_mark_39 : decode cX5_mark 39 = .ok (.ifCond .ne 6, 3) := by decide +kernel
theorem dX5_mark_42 : decode cX5_mark 42 = .ok (.bipush (-2), 2) := by decide +kernel
theorem dX5_mark_44 : decode cX5_mark 44 = .ok (.ireturn, 1) := by decide +kernel
theorem dX5_mark_45 : decode cX5_mark 45 = .ok (.iload_n 2, 1) := by decide +kernel
theorem dX5_mark_46 : decode cX5_mark 46 = .ok (.iload_n 3, 1) := by decide +kernel
theorem dX5_mark_47 : decode cX5_mark 47 = .ok (.invokestatic 39, 3) := by decide +kernel
theorem dX5_mark_50 : decode cX5_mark 50 = .ok (.istore 5, 2) := by decide +kernel
theorem dX5_mark_52 : decode cX5_mark 52 = .ok (.aload_n 0, 1) := by decide +kernel
theorem dX5_mark_53 : decode cX5_mark 53 = .ok (.iload_n 3, 1) := by decide +kernel
theorem dX5_mark_54 : decode cX5_mark 54 = .ok (.invokevirtual 85, 3) := by decide +kernel
theorem dX5_mark_57 : decode cX5_mark 57 = .ok (.ifCond .ne 28, 3) := by decide +kernel
theorem dX5_mark_60 : decode cX5_mark 60 = .ok (.aload_n 0, 1) := by decide +kernel
theorem dX5_mark_61 : decode cX5_mark 61 = .ok (.getfield 7, 3) := by decide +kernel
theorem dX5_mark_64 : decode cX5_mark 64 = .ok (.iload 5, 2) := by decide +kernel
theorem dX5_mark_66 : decode cX5_mark 66 = .ok (.iconst 0, 1) := by decide +kernel
theorem dX5_mark_67 : decode cX5_mark 67 = .ok (.iadd, 1) := by decide +kernel
theorem dX5_mark_68 : decode cX5_mark 68 = .ok (.iaload, 1) := by decide +kernel
theorem dX5_mark_69 : decode cX5_mark 69 = .ok (.ifCond .eq 16, 3) := by decide +kernel
theorem dX5_mark_72 : decode cX5_mark 72 = .ok (.aload_n 0, 1) := by decide +kernel
theorem dX5_mark_73 : decode cX5_mark 73 = .ok (.getfield 7, 3) := by decide +kernel
theorem dX5_mark_76 : decode cX5_mark 76 = .ok (.iload 5, 2) := by decide +kernel
theorem dX5_mark_78 : decode cX5_mark 78 = .ok (.iconst 1, 1) := by decide +kernel
theorem dX5_mark_79 : decode cX5_mark 79 = .ok (.iadd, 1) := by decide +kernel
theorem dX5_mark_80 : decode cX5_mark 80 = .ok (.iaload, 1) := by decide +kernel
theorem dX5_mark_81 : decode cX5_mark 81 = .ok (.iconst 1, 1) := by decide +kernel
theorem dX5_mark_82 : decode cX5_mark 82 = .ok (.if_icmp .ne 6, 3) := by decide +kernel
theorem dX5_mark_85 : decode cX5_mark 85 = .ok (.bipush (-5), 2) := by decide +kernel
theorem dX5_mark_87 : decode cX5_mark 87 = .ok (.ireturn, 1) := by decide +kernel
theorem dX5_mark_88 : decode cX5_mark 88 = .ok (.aload_n 0, 1) := by decide +kernel
theorem dX5_mark_89 : decode cX5_mark 89 = .ok (.invokevirtual 82, 3) := by decide +kernel
theorem dX5_mark_92 : decode cX5_mark 92 = .ok (.aload_n 0, 1) := by decide +kernel
theorem dX5_mark_93 : decode cX5_mark 93 = .ok (.getfield 7, 3) := by decide +kernel
theorem dX5_mark_96 : decode cX5_mark 96 = .ok (.iload 5, 2) := by decide +kernel
theorem dX5_mark_98 : decode cX5_mark 98 = .ok (.iconst 1, 1) := by decide +kernel
theorem dX5_mark_99 : decode cX5_mark 99 = .ok (.iadd, 1) := by decide +kernel
theorem dX5_mark_100 : decode cX5_mark 100 = .ok (.iconst 1, 1) := by decide +kernel
theorem dX5_mark_101 : decode cX5_mark 101 = .ok (.iastore, 1) := by decide +kernel
theorem dX5_mark_102 : decode cX5_mark 102 = .ok (.aload_n 0, 1) := by decide +kernel
theorem dX5_mark_103 : decode cX5_mark 103 = .ok (.getfield 7, 3) := by decide +kernel
theorem dX5_mark_106 : decode cX5_mark 106 = .ok (.iload 5, 2) := by decide +kernel
theorem dX5_mark_108 : decode cX5_mark 108 = .ok (.iconst 2, 1) := by decide +kernel
theorem dX5_mark_109 : decode cX5_mark 109 = .ok (.iadd, 1) := by decide +kernel
theorem dX5_mark_110 : decode cX5_mark 110 = .ok (.iload 4, 2) := by decide +kernel
theorem dX5_mark_112 : decode cX5_mark 112 = .ok (.iastore, 1) := by decide +kernel
theorem dX5_mark_113 : decode cX5_mark 113 = .ok (.aload_n 0, 1) := by decide +kernel
theorem dX5_mark_114 : decode cX5_mark 114 = .ok (.getfield 7, 3) := by decide +kernel
theorem dX5_mark_117 : decode cX5_mark 117 = .ok (.iload 5, 2) := by decide +kernel
theorem dX5_mark_119 : decode cX5_mark 119 = .ok (.iconst 3, 1) := by decide +kernel
theorem dX5_mark_120 : decode cX5_mark 120 = .ok (.iadd, 1) := by decide +kernel
theorem dX5_mark_121 : decode cX5_mark 121 = .ok (.iload_n 1, 1) := by decide +kernel
theorem dX5_mark_122 : decode cX5_mark 122 = .ok (.iastore, 1) := by decide +kernel
theorem dX5_mark_123 : decode cX5_mark 123 = .ok (.iconst 1, 1) := by decide +kernel
theorem dX5_mark_124 : decode cX5_mark 124 = .ok (.ireturn, 1) := by decide +kernel
set_option maxRecDepth 20000 in
theorem ggX5_look_X5_isTeam : GoodIn wsX5_look wsX5_isTeam := goodIn_r _ [6, 1, 7, 8, 5, 9, 32, 33, 34, 35, 36, 37, 38] (by decide +kernel) (by decide +kernel)
set_option maxRecDepth 20000 in
theorem gX5_look_X5_isTeam : GoodIn wsX5_look (wsV RX5 95 RX5 yX5_isTeam wsX5_isTeam) := goodIn_app (goodIn_of _ (by decide +kernel)) ggX5_look_X5_isTeam
set_option maxRecDepth 20000 in
theorem ggX5_look_X5_isRound : GoodIn wsX5_look wsX5_isRound := goodIn_r _ [12, 7, 8, 5, 9] (by decide +kernel) (by decide +kernel)
set_option maxRecDepth 20000 in
theorem gX5_look_X5_isRound : GoodIn wsX5_look (va_wsS RX5 98 yX5_isRound wsX5_isRound) := goodIn_app (goodIn_of _ (by decide +kernel)) ggX5_look_X5_isRound
set_option maxRecDepth 20000 in
theorem ggX5_look_X5_h : GoodIn wsX5_look wsX5_h := goodIn_r _ [15] (by decide +kernel) (by decide +kernel)
set_option maxRecDepth 20000 in
theorem gX5_look_X5_h : GoodIn wsX5_look (va_wsS RX5 39 yX5_h wsX5_h) := goodIn_app (goodIn_of _ (by decide +kernel)) ggX5_look_X5_h
set_option maxRecDepth 20000 in
theorem ggX5_look_X5_record : GoodIn wsX5_look wsX5_record := goodIn_r _ [19, 20, 21, 1, 32, 33, 34, 35, 36, 37, 38] (by decide +kernel) (by decide +kernel)
set_option maxRecDepth 20000 in
theorem gX5_look_X5_record : GoodIn wsX5_look (wsV RX5 82 RX5 yX5_record wsX5_record) := goodIn_app (goodIn_of _ (by decide +kernel)) ggX5_look_X5_record
set_option maxRecDepth 20000 in
theorem ggX5_look_X5_trueMark : GoodIn wsX5_look wsX5_trueMark := goodIn_r _ [25, 1, 13, 14, 5, 15, 26, 27, 28, 32, 33, 34, 35, 36, 37, 38] (by decide +kernel) (by decide +kernel)
set_option maxRecDepth 20000 in
theorem gX5_look_X5_trueMark : GoodIn wsX5_look (wsV RX5 108 RX5 yX5_trueMark wsX5_trueMark) := goodIn_app (goodIn_of _ (by decide +kernel)) ggX5_look_X5_trueMark
set_option maxRecDepth 20000 in
theorem ggX5_look_X5_t : GoodIn wsX5_look wsX5_t := goodIn_r _ [31] (by decide +kernel) (by decide +kernel)
set_option maxRecDepth 20000 in
theorem gX5_look_X5_t : GoodIn wsX5_look (va_wsS RX5 46 yX5_t wsX5_t) := goodIn_app (goodIn_of _ (by decide +kernel)) ggX5_look_X5_t
theorem dX5_look_0 : decode cX5_look 0 = .ok (.aload_n 0, 1) := by decide +kernel
theorem dX5_look_1 : decode cX5_look 1 = .ok (.iload_n 1, 1) := by decide +kernel
theorem dX5_look_2 : decode cX5_look 2 = .ok (.invokevirtual 95, 3) := by decide +kernel
theorem dX5_look_5 : decode cX5_look 5 = .ok (.ifCond .eq 10, 3) := by decide +kernel
theorem dX5_look_8 : decode cX5_look 8 = .ok (.iload_n 2, 1) := by decide +kernel
theorem dX5_look_9 : decode cX5_look 9 = .ok (.invokestatic 98, 3) := by decide +kernel
theorem dX5_look_12 : decode cX5_look 12 = .ok (.ifCond .ne 5, 3) := by decide +kernel
theorem dX5_look_15 : decode cX5_look 15 = .ok (.iconst (-1), 1) := by decide +kernel
theorem dX5_look_16 : decode cX5_look 16 = .ok (.ireturn, 1) := by decide +kernel
theorem dX5_look_17 : decode cX5_look 17 = .ok (.iload_n 1, 1) := by decide +kernel
theorem dX5_look_18 : decode cX5_look 18 = .ok (.iload_n 2, 1) := by decide +kernel
theorem dX5_look_19 : decode cX5_look 19 = .ok (.invokestatic 39, 3) := by decide +kernel
theorem dX5_look_22 : decode cX5_look 22 = .ok (.istore_n 3, 1) := by decide +kernel
theorem dX5_look_23 : decode cX5_look 23 = .ok (.aload_n 0, 1) := by decide +kernel
theorem dX5_look_24 : decode cX5_look 24 = .ok (.getfield 7, 3) := by decide +kernel
theorem dX5_look_27 : decode cX5_look 27 = .ok (.iload_n 3, 1) := by decide +kernel
theorem dX5_look_28 : decode cX5_look 28 = .ok (.iconst 1, 1) := by decide +kernel
theorem dX5_look_29 : decode cX5_look 29 = .ok (.iadd, 1) := by decide +kernel
theorem dX5_look_30 : decode cX5_look 30 = .ok (.iaload, 1) := by decide +kernel
theorem dX5_look_31 : decode cX5_look 31 = .ok (.ifCond .eq 15, 3) := by decide +kernel
theorem dX5_look_34 : decode cX5_look 34 = .ok (.aload_n 0, 1) := by decide +kernel
theorem dX5_look_35 : decode cX5_look 35 = .ok (.getfield 7, 3) := by decide +kernel
theorem dX5_look_38 : decode cX5_look 38 = .ok (.iload_n 3, 1) := by decide +kernel
theorem dX5_look_39 : decode cX5_look 39 = .ok (.iconst 4, 1) := by decide +kernel
theorem dX5_look_40 : decode cX5_look 40 = .ok (.iadd, 1) := by decide +kernel
theorem dX5_look_41 : decode cX5_look 41 = .ok (.iaload, 1) := by decide +kernel
theorem dX5_look_42 : decode cX5_look 42 = .ok (.iconst 1, 1) := by decide +kernel
theorem dX5_look_43 : decode cX5_look 43 = .ok (.if_icmp .ne 6, 3) := by decide +kernel
theorem dX5_look_46 : decode cX5_look 46 = .ok (.bipush (-5), 2) := by decide +kernel
theorem dX5_look_48 : decode cX5_look 48 = .ok (.ireturn, 1) := by decide +kernel
theorem dX5_look_49 : decode cX5_look 49 = .ok (.aload_n 0, 1) := by decide +kernel
theorem dX5_look_50 : decode cX5_look 50 = .ok (.invokevirtual 82, 3) := by decide +kernel
theorem dX5_look_53 : decode cX5_look 53 = .ok (.aload_n 0, 1) := by decide +kernel
theorem dX5_look_54 : decode cX5_look 54 = .ok (.getfield 7, 3) := by decide +kernel
theorem dX5_look_57 : decode cX5_look 57 = .ok (.iload_n 3, 1) := by decide +kernel
theorem dX5_look_58 : decode cX5_look 58 = .ok (.iconst 2, 1) := by decide +kernel
theorem dX5_look_59 : decode cX5_look 59 = .ok (.iadd, 1) := by decide +kernel
theorem dX5_look_60 : decode cX5_look 60 = .ok (.iaload, 1) := by decide +kernel
theorem dX5_look_61 : decode cX5_look 61 = .ok (.aload_n 0, 1) := by decide +kernel
theorem dX5_look_62 : decode cX5_look 62 = .ok (.iload_n 1, 1) := by decide +kernel
theorem dX5_look_63 : decode cX5_look 63 = .ok (.iload_n 2, 1) := by decide +kernel
theorem dX5_look_64 : decode cX5_look 64 = .ok (.invokevirtual 108, 3) := by decide +kernel
theorem dX5_look_67 : decode cX5_look 67 = .ok (.if_icmp .ne 7, 3) := by decide +kernel
theorem dX5_look_70 : decode cX5_look 70 = .ok (.iconst 0, 1) := by decide +kernel
theorem dX5_look_71 : decode cX5_look 71 = .ok (.goto 4, 3) := by decide +kernel
theorem dX5_look_74 : decode cX5_look 74 = .ok (.iconst 1, 1) := by decide +kernel
theorem dX5_look_75 : decode cX5_look 75 = .ok (.istore 4, 2) := by decide +kernel
theorem dX5_look_77 : decode cX5_look 77 = .ok (.aload_n 0, 1) := by decide +kernel
theorem dX5_look_78 : decode cX5_look 78 = .ok (.getfield 7, 3) := by decide +kernel
theorem dX5_look_81 : decode cX5_look 81 = .ok (.iload_n 3, 1) := by decide +kernel
theorem dX5_look_82 : decode cX5_look 82 = .ok (.iconst 2, 1) := by decide +kernel
theorem dX5_look_83 : decode cX5_look 83 = .ok (.iadd, 1) := by decide +kernel
theorem dX5_look_84 : decode cX5_look 84 = .ok (.aload_n 0, 1) := by decide +kernel
theorem dX5_look_85 : decode cX5_look 85 = .ok (.iload_n 1, 1) := by decide +kernel
theorem dX5_look_86 : decode cX5_look 86 = .ok (.iload_n 2, 1) := by decide +kernel
theorem dX5_look_87 : decode cX5_look 87 = .ok (.invokevirtual 108, 3) := by decide +kernel
theorem dX5_look_90 : decode cX5_look 90 = .ok (.iastore, 1) := by decide +kernel
theorem dX5_look_91 : decode cX5_look 91 = .ok (.aload_n 0, 1) := by decide +kernel
theorem dX5_look_92 : decode cX5_look 92 = .ok (.getfield 7, 3) := by decide +kernel
theorem dX5_look_95 : decode cX5_look 95 = .ok (.iload_n 3, 1) := by decide +kernel
theorem dX5_look_96 : decode cX5_look 96 = .ok (.iconst 4, 1) := by decide +kernel
theorem dX5_look_97 : decode cX5_look 97 = .ok (.iadd, 1) := by decide +kernel
theorem dX5_look_98 : decode cX5_look 98 = .ok (.iconst 1, 1) := by decide +kernel
theorem dX5_look_99 : decode cX5_look 99 = .ok (.iastore, 1) := by decide +kernel
theorem dX5_look_100 : decode cX5_look 100 = .ok (.aload_n 0, 1) := by decide +kernel
theorem dX5_look_101 : decode cX5_look 101 = .ok (.getfield 7, 3) := by decide +kernel
theorem dX5_look_104 : decode cX5_look 104 = .ok (.aload_n 0, 1) := by decide +kernel
theorem dX5_look_105 : decode cX5_look 105 = .ok (.getfield 7, 3) := by decide +kernel
theorem dX5_look_108 : decode cX5_look 108 = .ok (.iload_n 3, 1) := by decide +kernel
theorem dX5_look_109 : decode cX5_look 109 = .ok (.iconst 3, 1) := by decide +kernel
theorem dX5_look_110 : decode cX5_look 110 = .ok (.iadd, 1) := by decide +kernel
theorem dX5_look_111 : decode cX5_look 111 = .ok (.iaload, 1) := by decide +kernel
theorem dX5_look_112 : decode cX5_look 112 = .ok (.invokestatic 46, 3) := by decide +kernel
theorem dX5_look_115 : decode cX5_look 115 = .ok (.iconst 2, 1) := by decide +kernel
theorem dX5_look_116 : decode cX5_look 116 = .ok (.iadd, 1) := by decide +kernel
theorem dX5_look_117 : decode cX5_look 117 = .ok (.dup2, 1) := by decide +kernel
theorem dX5_look_118 : decode cX5_look 118 = .ok (.iaload, 1) := by decide +kernel
theorem dX5_look_119 : decode cX5_look 119 = .ok (.iload 4, 2) := by decide +kernel
theorem dX5_look_121 : decode cX5_look 121 = .ok (.iadd, 1) := by decide +kernel
theorem dX5_look_122 : decode cX5_look 122 = .ok (.iastore, 1) := by decide +kernel
theorem dX5_look_123 : decode cX5_look 123 = .ok (.aload_n 0, 1) := by decide +kernel
theorem dX5_look_124 : decode cX5_look 124 = .ok (.getfield 7, 3) := by decide +kernel
theorem dX5_look_127 : decode cX5_look 127 = .ok (.bipush 7, 2) := by decide +kernel
theorem dX5_look_129 : decode cX5_look 129 = .ok (.dup2, 1) := by decide +kernel
theorem dX5_look_130 : decode cX5_look 130 = .ok (.iaload, 1) := by decide +kernel
theorem dX5_look_131 : decode cX5_look 131 = .ok (.iconst 1, 1) := by decide +kernel
theorem dX5_look_132 : decode cX5_look 132 = .ok (.iadd, 1) := by decide +kernel
theorem dX5_look_133 : decode cX5_look 133 = .ok (.iastore, 1) := by decide +kernel
theorem dX5_look_134 : decode cX5_look 134 = .ok (.iload 4, 2) := by decide +kernel
theorem dX5_look_136 : decode cX5_look 136 = .ok (.ireturn, 1) := by decide +kernel
set_option maxRecDepth 20000 in
theorem ggX5_guess_X5_isTeam : GoodIn wsX5_guess wsX5_isTeam := goodIn_r _ [6, 1, 7, 8, 5, 9, 19, 20, 21, 22, 23, 24, 25] (by decide +kernel) (by decide +kernel)
set_option maxRecDepth 20000 in
theorem gX5_guess_X5_isTeam : GoodIn wsX5_guess (wsV RX5 95 RX5 yX5_isTeam wsX5_isTeam) := goodIn_app (goodIn_of _ (by decide +kernel)) ggX5_guess_X5_isTeam
set_option maxRecDepth 20000 in
theorem ggX5_guess_X5_in : GoodIn wsX5_guess wsX5_in := goodIn_r _ [9] (by decide +kernel) (by decide +kernel)
set_option maxRecDepth 20000 in
theorem gX5_guess_X5_in : GoodIn wsX5_guess (va_wsS RX5 27 yX5_in wsX5_in) := goodIn_app (goodIn_of _ (by decide +kernel)) ggX5_guess_X5_in
set_option maxRecDepth 20000 in
theorem ggX5_guess_X5_record : GoodIn wsX5_guess wsX5_record := goodIn_r _ [13, 14, 15, 1, 19, 20, 21, 22, 23, 24, 25] (by decide +kernel) (by decide +kernel)
set_option maxRecDepth 20000 in
theorem gX5_guess_X5_record : GoodIn wsX5_guess (wsV RX5 82 RX5 yX5_record wsX5_record) := goodIn_app (goodIn_of _ (by decide +kernel)) ggX5_guess_X5_record
set_option maxRecDepth 20000 in
theorem ggX5_guess_X5_t : GoodIn wsX5_guess wsX5_t := goodIn_r _ [18] (by decide +kernel) (by decide +kernel)
set_option maxRecDepth 20000 in
theorem gX5_guess_X5_t : GoodIn wsX5_guess (va_wsS RX5 46 yX5_t wsX5_t) := goodIn_app (goodIn_of _ (by decide +kernel)) ggX5_guess_X5_t
theorem dX5_guess_0 : decode cX5_guess 0 = .ok (.aload_n 0, 1) := by decide +kernel
theorem dX5_guess_1 : decode cX5_guess 1 = .ok (.iload_n 1, 1) := by decide +kernel
theorem dX5_guess_2 : decode cX5_guess 2 = .ok (.invokevirtual 95, 3) := by decide +kernel
theorem dX5_guess_5 : decode cX5_guess 5 = .ok (.ifCond .ne 5, 3) := by decide +kernel
theorem dX5_guess_8 : decode cX5_guess 8 = .ok (.iconst (-1), 1) := by decide +kernel
theorem dX5_guess_9 : decode cX5_guess 9 = .ok (.ireturn, 1) := by decide +kernel
theorem dX5_guess_10 : decode cX5_guess 10 = .ok (.iload_n 2, 1) := by decide +kernel
theorem dX5_guess_11 : decode cX5_guess 11 = .ok (.iconst 0, 1) := by decide +kernel
theorem dX5_guess_12 : decode cX5_guess 12 = .ok (.sipush 9999, 3) := by decide +kernel
theorem dX5_guess_15 : decode cX5_guess 15 = .ok (.invokestatic 27, 3) := by decide +kernel
theorem dX5_guess_18 : decode cX5_guess 18 = .ok (.ifCond .ne 6, 3) := by decide +kernel
theorem dX5_guess_21 : decode cX5_guess 21 = .ok (.bipush (-2), 2) := by decide +kernel
theorem dX5_guess_23 : decode cX5_guess 23 = .ok (.ireturn, 1) := by decide +kernel
theorem dX5_guess_24 : decode cX5_guess 24 = .ok (.aload_n 0, 1) := by decide +kernel
theorem dX5_guess_25 : decode cX5_guess 25 = .ok (.getfield 7, 3) := by decide +kernel
theorem dX5_guess_28 : decode cX5_guess 28 = .ok (.iconst 5, 1) := by decide +kernel
theorem dX5_guess_29 : decode cX5_guess 29 = .ok (.iaload, 1) := by decide +kernel
theorem dX5_guess_30 : decode cX5_guess 30 = .ok (.iconst 1, 1) := by decide +kernel
theorem dX5_guess_31 : decode cX5_guess 31 = .ok (.if_icmp .ne 6, 3) := by decide +kernel
theorem dX5_guess_34 : decode cX5_guess 34 = .ok (.bipush (-5), 2) := by decide +kernel
theorem dX5_guess_36 : decode cX5_guess 36 = .ok (.ireturn, 1) := by decide +kernel
theorem dX5_guess_37 : decode cX5_guess 37 = .ok (.aload_n 0, 1) := by decide +kernel
theorem dX5_guess_38 : decode cX5_guess 38 = .ok (.invokevirtual 82, 3) := by decide +kernel
theorem dX5_guess_41 : decode cX5_guess 41 = .ok (.aload_n 0, 1) := by decide +kernel
theorem dX5_guess_42 : decode cX5_guess 42 = .ok (.getfield 7, 3) := by decide +kernel
theorem dX5_guess_45 : decode cX5_guess 45 = .ok (.iload_n 1, 1) := by decide +kernel
theorem dX5_guess_46 : decode cX5_guess 46 = .ok (.invokestatic 46, 3) := by decide +kernel
theorem dX5_guess_49 : decode cX5_guess 49 = .ok (.iconst 3, 1) := by decide +kernel
theorem dX5_guess_50 : decode cX5_guess 50 = .ok (.iadd, 1) := by decide +kernel
theorem dX5_guess_51 : decode cX5_guess 51 = .ok (.iaload, 1) := by decide +kernel
theorem dX5_guess_52 : decode cX5_guess 52 = .ok (.iconst 1, 1) := by decide +kernel
theorem dX5_guess_53 : decode cX5_guess 53 = .ok (.isub, 1) := by decide +kernel
theorem dX5_guess_54 : decode cX5_guess 54 = .ok (.istore_n 3, 1) := by decide +kernel
theorem dX5_guess_55 : decode cX5_guess 55 = .ok (.aload_n 0, 1) := by decide +kernel
theorem dX5_guess_56 : decode cX5_guess 56 = .ok (.getfield 7, 3) := by decide +kernel
theorem dX5_guess_59 : decode cX5_guess 59 = .ok (.iload_n 1, 1) := by decide +kernel
theorem dX5_guess_60 : decode cX5_guess 60 = .ok (.invokestatic 46, 3) := by decide +kernel
theorem dX5_guess_63 : decode cX5_guess 63 = .ok (.iconst 3, 1) := by decide +kernel
theorem dX5_guess_64 : decode cX5_guess 64 = .ok (.iadd, 1) := by decide +kernel
theorem dX5_guess_65 : decode cX5_guess 65 = .ok (.iload_n 2, 1) := by decide +kernel
theorem dX5_guess_66 : decode cX5_guess 66 = .ok (.iconst 1, 1) := by decide +kernel
theorem dX5_guess_67 : decode cX5_guess 67 = .ok (.iadd, 1) := by decide +kernel
theorem dX5_guess_68 : decode cX5_guess 68 = .ok (.iastore, 1) := by decide +kernel
theorem dX5_guess_69 : decode cX5_guess 69 = .ok (.iload_n 3, 1) := by decide +kernel
theorem dX5_guess_70 : decode cX5_guess 70 = .ok (.ifCond .ge 8, 3) := by decide +kernel
theorem dX5_guess_73 : decode cX5_guess 73 = .ok (.bipush (-6), 2) := by decide +kernel
theorem dX5_guess_75 : decode cX5_guess 75 = .ok (.goto 4, 3) := by decide +kernel
theorem dX5_guess_78 : decode cX5_guess 78 = .ok (.iload_n 3, 1) := by decide +kernel
theorem dX5_guess_79 : decode cX5_guess 79 = .ok (.ireturn, 1) := by decide +kernel
set_option maxRecDepth 20000 in
theorem ggX5_truth_X5_in : GoodIn wsX5_truth wsX5_in := goodIn_r _ [5] (by decide +kernel) (by decide +kernel)
set_option maxRecDepth 20000 in
theorem gX5_truth_X5_in : GoodIn wsX5_truth (va_wsS RX5 27 yX5_in wsX5_in) := goodIn_app (goodIn_of _ (by decide +kernel)) ggX5_truth_X5_in
set_option maxRecDepth 20000 in
theorem ggX5_truth_X5_record : GoodIn wsX5_truth wsX5_record := goodIn_r _ [9, 10, 11, 1, 15, 16, 17, 18, 19, 20, 21] (by decide +kernel) (by decide +kernel)
set_option maxRecDepth 20000 in
theorem gX5_truth_X5_record : GoodIn wsX5_truth (wsV RX5 82 RX5 yX5_record wsX5_record) := goodIn_app (goodIn_of _ (by decide +kernel)) ggX5_truth_X5_record
set_option maxRecDepth 20000 in
theorem ggX5_truth_X5_t : GoodIn wsX5_truth wsX5_t := goodIn_r _ [14] (by decide +kernel) (by decide +kernel)
set_option maxRecDepth 20000 in
theorem gX5_truth_X5_t : GoodIn wsX5_truth (va_wsS RX5 46 yX5_t wsX5_t) := goodIn_app (goodIn_of _ (by decide +kernel)) ggX5_truth_X5_t
theorem dX5_truth_0 : decode cX5_truth 0 = .ok (.iload_n 1, 1) := by decide +kernel
theorem dX5_truth_1 : decode cX5_truth 1 = .ok (.iconst 0, 1) := by decide +kernel
theorem dX5_truth_2 : decode cX5_truth 2 = .ok (.sipush 9999, 3) := by decide +kernel
theorem dX5_truth_5 : decode cX5_truth 5 = .ok (.invokestatic 27, 3) := by decide +kernel
theorem dX5_truth_8 : decode cX5_truth 8 = .ok (.ifCond .ne 6, 3) := by decide +kernel
theorem dX5_truth_11 : decode cX5_truth 11 = .ok (.bipush (-2), 2) := by decide +kernel
theorem dX5_truth_13 : decode cX5_truth 13 = .ok (.ireturn, 1) := by decide +kernel
theorem dX5_truth_14 : decode cX5_truth 14 = .ok (.aload_n 0, 1) := by decide +kernel
theorem dX5_truth_15 : decode cX5_truth 15 = .ok (.getfield 7, 3) := by decide +kernel
theorem dX5_truth_18 : decode cX5_truth 18 = .ok (.iconst 5, 1) := by decide +kernel
theorem dX5_truth_19 : decode cX5_truth 19 = .ok (.iaload, 1) := by decide +kernel
theorem dX5_truth_20 : decode cX5_truth 20 = .ok (.iconst 1, 1) := by decide +kernel
theorem dX5_truth_21 : decode cX5_truth 21 = .ok (.if_icmp .ne 6, 3) := by decide +kernel
theorem dX5_truth_24 : decode cX5_truth 24 = .ok (.bipush (-5), 2) := by decide +kernel
theorem dX5_truth_26 : decode cX5_truth 26 = .ok (.ireturn, 1) := by decide +kernel
theorem dX5_truth_27 : decode cX5_truth 27 = .ok (.aload_n 0, 1) := by decide +kernel
theorem dX5_truth_28 : decode cX5_truth 28 = .ok (.invokevirtual 82, 3) := by decide +kernel
theorem dX5_truth_31 : decode cX5_truth 31 = .ok (.aload_n 0, 1) := by decide +kernel
theorem dX5_truth_32 : decode cX5_truth 32 = .ok (.getfield 7, 3) := by decide +kernel
theorem dX5_truth_35 : decode cX5_truth 35 = .ok (.iconst 5, 1) := by decide +kernel
theorem dX5_truth_36 : decode cX5_truth 36 = .ok (.iconst 1, 1) := by decide +kernel
theorem dX5_truth_37 : decode cX5_truth 37 = .ok (.iastore, 1) := by decide +kernel
theorem dX5_truth_38 : decode cX5_truth 38 = .ok (.aload_n 0, 1) := by decide +kernel
theorem dX5_truth_39 : decode cX5_truth 39 = .ok (.getfield 7, 3) := by decide +kernel
theorem dX5_truth_42 : decode cX5_truth 42 = .ok (.bipush 6, 2) := by decide +kernel
theorem dX5_truth_44 : decode cX5_truth 44 = .ok (.iload_n 1, 1) := by decide +kernel
theorem dX5_truth_45 : decode cX5_truth 45 = .ok (.iastore, 1) := by decide +kernel
theorem dX5_truth_46 : decode cX5_truth 46 = .ok (.iconst 0, 1) := by decide +kernel
theorem dX5_truth_47 : decode cX5_truth 47 = .ok (.istore_n 2, 1) := by decide +kernel
theorem dX5_truth_48 : decode cX5_truth 48 = .ok (.iconst 0, 1) := by decide +kernel
theorem dX5_truth_49 : decode cX5_truth 49 = .ok (.istore_n 3, 1) := by decide +kernel
theorem dX5_truth_50 : decode cX5_truth 50 = .ok (.iload_n 3, 1) := by decide +kernel
theorem dX5_truth_51 : decode cX5_truth 51 = .ok (.aload_n 0, 1) := by decide +kernel
theorem dX5_truth_52 : decode cX5_truth 52 = .ok (.getfield 7, 3) := by decide +kernel
theorem dX5_truth_55 : decode cX5_truth 55 = .ok (.iconst 4, 1) := by decide +kernel
theorem dX5_truth_56 : decode cX5_truth 56 = .ok (.iaload, 1) := by decide +kernel
theorem dX5_truth_57 : decode cX5_truth 57 = .ok (.if_icmp .ge 31, 3) := by decide +kernel
theorem dX5_truth_60 : decode cX5_truth 60 = .ok (.iload_n 2, 1) := by decide +kernel
theorem dX5_truth_61 : decode cX5_truth 61 = .ok (.aload_n 0, 1) := by decide +kernel
theorem dX5_truth_62 : decode cX5_truth 62 = .ok (.getfield 7, 3) := by decide +kernel
theorem dX5_truth_65 : decode cX5_truth 65 = .ok (.iload_n 3, 1) := by decide +kernel
theorem dX5_truth_66 : decode cX5_truth 66 = .ok (.invokestatic 46, 3) := by decide +kernel
theorem dX5_truth_69 : decode cX5_truth 69 = .ok (.iconst 3, 1) := by decide +kernel
theorem dX5_truth_70 : decode cX5_truth 70 = .ok (.iadd, 1) := by decide +kernel
theorem dX5_truth_71 : decode cX5_truth 71 = .ok (.iaload, 1) := by decide +kernel
theorem dX5_truth_72 : decode cX5_truth 72 = .ok (.ifCond .le 7, 3) := by decide +kernel
theorem dX5_truth_75 : decode cX5_truth 75 = .ok (.iconst 1, 1) := by decide +kernel
theorem dX5_truth_76 : decode cX5_truth 76 = .ok (.goto 4, 3) := by decide +kernel
theorem dX5_truth_79 : decode cX5_truth 79 = .ok (.iconst 0, 1) := by decide +kernel
theorem dX5_truth_80 : decode cX5_truth 80 = .ok (.iadd, 1) := by decide +kernel
theorem dX5_truth_81 : decode cX5_truth 81 = .ok (.istore_n 2, 1) := by decide +kernel
theorem dX5_truth_82 : decode cX5_truth 82 = .ok (.iinc 3 1, 3) := by decide +kernel
theorem dX5_truth_85 : decode cX5_truth 85 = .ok (.goto (-35), 3) := by decide +kernel
theorem dX5_truth_88 : decode cX5_truth 88 = .ok (.iload_n 2, 1) := by decide +kernel
theorem dX5_truth_89 : decode cX5_truth 89 = .ok (.ireturn, 1) := by decide +kernel
set_option maxRecDepth 20000 in
theorem ggX5_roundsOf_X5_h : GoodIn wsX5_roundsOf wsX5_h := goodIn_r _ [5] (by decide +kernel) (by decide +kernel)
set_option maxRecDepth 20000 in
theorem gX5_roundsOf_X5_h : GoodIn wsX5_roundsOf (va_wsS RX5 39 yX5_h wsX5_h) := goodIn_app (goodIn_of _ (by decide +kernel)) ggX5_roundsOf_X5_h
theorem dX5_roundsOf_0 : decode cX5_roundsOf 0 = .ok (.iconst 0, 1) := by decide +kernel
theorem dX5_roundsOf_1 : decode cX5_roundsOf 1 = .ok (.istore_n 3, 1) := by decide +kernel
theorem dX5_roundsOf_2 : decode cX5_roundsOf 2 = .ok (.iconst 0, 1) := by decide +kernel
theorem dX5_roundsOf_3 : decode cX5_roundsOf 3 = .ok (.istore 4, 2) := by decide +kernel
theorem dX5_roundsOf_5 : decode cX5_roundsOf 5 = .ok (.iload 4, 2) := by decide +kernel
theorem dX5_roundsOf_7 : decode cX5_roundsOf 7 = .ok (.bipush 8, 2) := by decide +kernel
theorem dX5_roundsOf_9 : decode cX5_roundsOf 9 = .ok (.if_icmp .ge 47, 3) := by decide +kernel
theorem dX5_roundsOf_12 : decode cX5_roundsOf 12 = .ok (.iload_n 3, 1) := by decide +kernel
theorem dX5_roundsOf_13 : decode cX5_roundsOf 13 = .ok (.aload_n 0, 1) := by decide +kernel
theorem dX5_roundsOf_14 : decode cX5_roundsOf 14 = .ok (.getfield 7, 3) := by decide +kernel
theorem dX5_roundsOf_17 : decode cX5_roundsOf 17 = .ok (.iload_n 1, 1) := by decide +kernel
theorem dX5_roundsOf_18 : decode cX5_roundsOf 18 = .ok (.iload 4, 2) := by decide +kernel
theorem dX5_roundsOf_20 : decode cX5_roundsOf 20 = .ok (.invokestatic 39, 3) := by decide +kernel
theorem dX5_roundsOf_23 : decode cX5_roundsOf 23 = .ok (.iload_n 2, 1) := by decide +kernel
theorem dX5_roundsOf_24 : decode cX5_roundsOf 24 = .ok (.bipush 6, 2) := by decide +kernel
theorem dX5_roundsOf_26 : decode cX5_roundsOf 26 = .ok (.if_icmp .ne 7, 3) := by decide +kernel
theorem dX5_roundsOf_29 : decode cX5_roundsOf 29 = .ok (.iconst 0, 1) := by decide +kernel
theorem dX5_roundsOf_30 : decode cX5_roundsOf 30 = .ok (.goto 4, 3) := by decide +kernel
theorem dX5_roundsOf_33 : decode cX5_roundsOf 33 = .ok (.iconst 1, 1) := by decide +kernel
theorem dX5_roundsOf_34 : decode cX5_roundsOf 34 = .ok (.iadd, 1) := by decide +kernel
theorem dX5_roundsOf_35 : decode cX5_roundsOf 35 = .ok (.iaload, 1) := by decide +kernel
theorem dX5_roundsOf_36 : decode cX5_roundsOf 36 = .ok (.iconst 1, 1) := by decide +kernel
theorem dX5_roundsOf_37 : decode cX5_roundsOf 37 = .ok (.if_icmp .ne 10, 3) := by decide +kernel
theorem dX5_roundsOf_40 : decode cX5_roundsOf 40 = .ok (.iconst 1, 1) := by decide +kernel
theorem dX5_roundsOf_41 : decode cX5_roundsOf 41 = .ok (.iload 4, 2) := by decide +kernel
theorem dX5_roundsOf_43 : decode cX5_roundsOf 43 = .ok (.ishl, 1) := by decide +kernel
theorem dX5_roundsOf_44 : decode cX5_roundsOf 44 = .ok (.goto 4, 3) := by decide +kernel
theorem dX5_roundsOf_47 : decode cX5_roundsOf 47 = .ok (.iconst 0, 1) := by decide +kernel
theorem dX5_roundsOf_48 : decode cX5_roundsOf 48 = .ok (.ior, 1) := by decide +kernel
theorem dX5_roundsOf_49 : decode cX5_roundsOf 49 = .ok (.istore_n 3, 1) := by decide +kernel
theorem dX5_roundsOf_50 : decode cX5_roundsOf 50 = .ok (.iinc 4 1, 3) := by decide +kernel
theorem dX5_roundsOf_53 : decode cX5_roundsOf 53 = .ok (.goto (-48), 3) := by decide +kernel
theorem dX5_roundsOf_56 : decode cX5_roundsOf 56 = .ok (.iload_n 3, 1) := by decide +kernel
theorem dX5_roundsOf_57 : decode cX5_roundsOf 57 = .ok (.ireturn, 1) := by decide +kernel
set_option maxRecDepth 20000 in
theorem ggX5_ofTeam_X5_isTeam : GoodIn wsX5_ofTeam wsX5_isTeam := goodIn_r _ [6, 1, 7, 8, 5, 9, 68, 69, 70, 71, 72, 73, 74] (by decide +kernel) (by decide +kernel)
set_option maxRecDepth 20000 in
theorem gX5_ofTeam_X5_isTeam : GoodIn wsX5_ofTeam (wsV RX5 95 RX5 yX5_isTeam wsX5_isTeam) := goodIn_app (goodIn_of _ (by decide +kernel)) ggX5_ofTeam_X5_isTeam
set_option maxRecDepth 20000 in
theorem ggX5_ofTeam_X5_score : GoodIn wsX5_ofTeam wsX5_score := goodIn_r _ [13, 1, 14, 15, 5, 16, 17, 18, 19, 20, 21, 22, 23, 24, 25, 26, 27, 68, 69, 70, 71, 72, 73, 74] (by decide +kernel) (by decide +kernel)
set_option maxRecDepth 20000 in
theorem gX5_ofTeam_X5_score : GoodIn wsX5_ofTeam (wsV RX5 53 RX5 yX5_score wsX5_score) := goodIn_app (goodIn_of _ (by decide +kernel)) ggX5_ofTeam_X5_score
set_option maxRecDepth 20000 in
theorem ggX5_ofTeam_X5_rank : GoodIn wsX5_ofTeam wsX5_rank := goodIn_r _ [31, 1, 32, 33, 34, 5, 35, 10, 11, 12, 13, 14, 15, 16, 17, 18, 19, 20, 21, 22, 23, 24, 25, 26, 27, 36, 37, 38, 39, 40, 68, 69, 70, 71, 72, 73, 74] (by decide +kernel) (by decide +kernel)
set_option maxRecDepth 20000 in
theorem gX5_ofTeam_X5_rank : GoodIn wsX5_ofTeam (wsV RX5 76 RX5 yX5_rank wsX5_rank) := goodIn_app (goodIn_of _ (by decide +kernel)) ggX5_ofTeam_X5_rank
set_option maxRecDepth 20000 in
theorem ggX5_ofTeam_X5_prize : GoodIn wsX5_ofTeam wsX5_prize := goodIn_r _ [44, 45, 46, 47, 5, 48, 1, 32, 33, 34, 35, 10, 11, 12, 13, 14, 15, 16, 17, 18, 19, 20, 21, 22, 23, 24, 25, 26, 27, 36, 37, 38, 39, 40, 49, 50, 51, 28, 29, 30, 31, 52, 53, 54, 55, 56, 57, 58, 59, 60, 61, 62, 63, 68, 69, 70, 71, 72, 73, 74] (by decide +kernel) (by decide +kernel)
set_option maxRecDepth 20000 in
theorem gX5_ofTeam_X5_prize : GoodIn wsX5_ofTeam (wsV RX5 111 RX5 yX5_prize wsX5_prize) := goodIn_app (goodIn_of _ (by decide +kernel)) ggX5_ofTeam_X5_prize
set_option maxRecDepth 20000 in
theorem ggX5_ofTeam_X5_t : GoodIn wsX5_ofTeam wsX5_t := goodIn_r _ [16] (by decide +kernel) (by decide +kernel)
set_option maxRecDepth 20000 in
theorem gX5_ofTeam_X5_t : GoodIn wsX5_ofTeam (va_wsS RX5 46 yX5_t wsX5_t) := goodIn_app (goodIn_of _ (by decide +kernel)) ggX5_ofTeam_X5_t
set_option maxRecDepth 20000 in
theorem ggX5_ofTeam_X5_roundsOf : GoodIn wsX5_ofTeam wsX5_roundsOf := goodIn_r _ [67, 1, 25, 26, 5, 27, 68, 69, 70, 71, 72, 73, 74] (by decide +kernel) (by decide +kernel)
set_option maxRecDepth 20000 in
theorem gX5_ofTeam_X5_roundsOf : GoodIn wsX5_ofTeam (wsV RX5 114 RX5 yX5_roundsOf wsX5_roundsOf) := goodIn_app (goodIn_of _ (by decide +kernel)) ggX5_ofTeam_X5_roundsOf
set_option maxRecDepth 20000 in
theorem ggX5_ofTeam_X5_tied : GoodIn wsX5_ofTeam wsX5_tied := goodIn_r _ [48, 1, 32, 33, 34, 5, 35, 10, 11, 12, 13, 14, 15, 16, 17, 18, 19, 20, 21, 22, 23, 24, 25, 26, 27, 36, 37, 38, 39, 40, 68, 69, 70, 71, 72, 73, 74] (by decide +kernel) (by decide +kernel)
set_option maxRecDepth 20000 in
theorem gX5_ofTeam_X5_tied : GoodIn wsX5_ofTeam (wsV RX5 70 RX5 yX5_tied wsX5_tied) := goodIn_app (goodIn_of _ (by decide +kernel)) ggX5_ofTeam_X5_tied
theorem dX5_ofTeam_0 : decode cX5_ofTeam 0 = .ok (.aload_n 0, 1) := by decide +kernel
theorem dX5_ofTeam_1 : decode cX5_ofTeam 1 = .ok (.iload_n 1, 1) := by decide +kernel
theorem dX5_ofTeam_2 : decode cX5_ofTeam 2 = .ok (.invokevirtual 95, 3) := by decide +kernel
theorem dX5_ofTeam_5 : decode cX5_ofTeam 5 = .ok (.ifCond .ne 5, 3) := by decide +kernel
theorem dX5_ofTeam_8 : decode cX5_ofTeam 8 = .ok (.iconst (-1), 1) := by decide +kernel
theorem dX5_ofTeam_9 : decode cX5_ofTeam 9 = .ok (.ireturn, 1) := by decide +kernel
theorem dX5_ofTeam_10 : decode cX5_ofTeam 10 = .ok (.iload_n 2, 1) := by decide +kernel
theorem dX5_ofTeam_11 : decode cX5_ofTeam 11 = .ok (.tableswitch 178 0 9 #[53, 63, 69, 75, 108, 120, 153, 153, 160, 172], 53) := by decide +kernel
theorem dX5_ofTeam_64 : decode cX5_ofTeam 64 = .ok (.aload_n 0, 1) := by decide +kernel
theorem dX5_ofTeam_65 : decode cX5_ofTeam 65 = .ok (.iload_n 1, 1) := by decide +kernel
theorem dX5_ofTeam_66 : decode cX5_ofTeam 66 = .ok (.invokevirtual 53, 3) := by decide +kernel
theorem dX5_ofTeam_69 : decode cX5_ofTeam 69 = .ok (.sipush 1000, 3) := by decide +kernel
theorem dX5_ofTeam_72 : decode cX5_ofTeam 72 = .ok (.iadd, 1) := by decide +kernel
theorem dX5_ofTeam_73 : decode cX5_ofTeam 73 = .ok (.ireturn, 1) := by decide +kernel
theorem dX5_ofTeam_74 : decode cX5_ofTeam 74 = .ok (.aload_n 0, 1) := by decide +kernel
theorem dX5_ofTeam_75 : decode cX5_ofTeam 75 = .ok (.iload_n 1, 1) := by decide +kernel
theorem dX5_ofTeam_76 : decode cX5_ofTeam 76 = .ok (.invokevirtual 76, 3) := by decide +kernel
theorem dX5_ofTeam_79 : decode cX5_ofTeam 79 = .ok (.ireturn, 1) := by decide +kernel
theorem dX5_ofTeam_80 : decode cX5_ofTeam 80 = .ok (.aload_n 0, 1) := by decide +kernel
theorem dX5_ofTeam_81 : decode cX5_ofTeam 81 = .ok (.iload_n 1, 1) := by decide +kernel
theorem dX5_ofTeam_82 : decode cX5_ofTeam 82 = .ok (.invokevirtual 111, 3) := by decide +kernel
theorem dX5_ofTeam_85 : decode cX5_ofTeam 85 = .ok (.ireturn, 1) := by decide +kernel
theorem dX5_ofTeam_86 : decode cX5_ofTeam 86 = .ok (.aload_n 0, 1) := by decide +kernel
theorem dX5_ofTeam_87 : decode cX5_ofTeam 87 = .ok (.getfield 7, 3) := by decide +kernel
theorem dX5_ofTeam_90 : decode cX5_ofTeam 90 = .ok (.iload_n 1, 1) := by decide +kernel
theorem dX5_ofTeam_91 : decode cX5_ofTeam 91 = .ok (.invokestatic 46, 3) := by decide +kernel
theorem dX5_ofTeam_94 : decode cX5_ofTeam 94 = .ok (.iconst 1, 1) := by decide +kernel
theorem dX5_ofTeam_95 : decode cX5_ofTeam 95 = .ok (.iadd, 1) := by decide +kernel
theorem dX5_ofTeam_96 : decode cX5_ofTeam 96 = .ok (.iaload, 1) := by decide +kernel
theorem dX5_ofTeam_97 : decode cX5_ofTeam 97 = .ok (.ifCond .ne 8, 3) := by decide +kernel
theorem dX5_ofTeam_100 : decode cX5_ofTeam 100 = .ok (.bipush (-6), 2) := by decide +kernel
theorem dX5_ofTeam_102 : decode cX5_ofTeam 102 = .ok (.goto 16, 3) := by decide +kernel
theorem dX5_ofTeam_105 : decode cX5_ofTeam 105 = .ok (.aload_n 0, 1) := by decide +kernel
theorem dX5_ofTeam_106 : decode cX5_ofTeam 106 = .ok (.getfield 7, 3) := by decide +kernel
theorem dX5_ofTeam_109 : decode cX5_ofTeam 109 = .ok (.iload_n 1, 1) := by decide +kernel
theorem dX5_ofTeam_110 : decode cX5_ofTeam 110 = .ok (.invokestatic 46, 3) := by decide +kernel
theorem dX5_ofTeam_113 : decode cX5_ofTeam 113 = .ok (.iconst 1, 1) := by decide +kernel
theorem dX5_ofTeam_114 : decode cX5_ofTeam 114 = .ok (.iadd, 1) := by decide +kernel
theorem dX5_ofTeam_115 : decode cX5_ofTeam 115 = .ok (.iaload, 1) := by decide +kernel
theorem dX5_ofTeam_116 : decode cX5_ofTeam 116 = .ok (.iconst 1, 1) := by decide +kernel
theorem dX5_ofTeam_117 : decode cX5_ofTeam 117 = .ok (.isub, 1) := by decide +kernel
theorem dX5_ofTeam_118 : decode cX5_ofTeam 118 = .ok (.ireturn, 1) := by decide +kernel
theorem dX5_ofTeam_119 : decode cX5_ofTeam 119 = .ok (.aload_n 0, 1) := by decide +kernel
theorem dX5_ofTeam_120 : decode cX5_ofTeam 120 = .ok (.getfield 7, 3) := by decide +kernel
theorem dX5_ofTeam_123 : decode cX5_ofTeam 123 = .ok (.iload_n 1, 1) := by decide +kernel
theorem dX5_ofTeam_124 : decode cX5_ofTeam 124 = .ok (.invokestatic 46, 3) := by decide +kernel
theorem dX5_ofTeam_127 : decode cX5_ofTeam 127 = .ok (.iconst 2, 1) := by decide +kernel
theorem dX5_ofTeam_128 : decode cX5_ofTeam 128 = .ok (.iadd, 1) := by decide +kernel
theorem dX5_ofTeam_129 : decode cX5_ofTeam 129 = .ok (.iaload, 1) := by decide +kernel
theorem dX5_ofTeam_130 : decode cX5_ofTeam 130 = .ok (.ireturn, 1) := by decide +kernel
theorem dX5_ofTeam_131 : decode cX5_ofTeam 131 = .ok (.aload_n 0, 1) := by decide +kernel
theorem dX5_ofTeam_132 : decode cX5_ofTeam 132 = .ok (.getfield 7, 3) := by decide +kernel
theorem dX5_ofTeam_135 : decode cX5_ofTeam 135 = .ok (.iload_n 1, 1) := by decide +kernel
theorem dX5_ofTeam_136 : decode cX5_ofTeam 136 = .ok (.invokestatic 46, 3) := by decide +kernel
theorem dX5_ofTeam_139 : decode cX5_ofTeam 139 = .ok (.iconst 3, 1) := by decide +kernel
theorem dX5_ofTeam_140 : decode cX5_ofTeam 140 = .ok (.iadd, 1) := by decide +kernel
theorem dX5_ofTeam_141 : decode cX5_ofTeam 141 = .ok (.iaload, 1) := by decide +kernel
theorem dX5_ofTeam_142 : decode cX5_ofTeam 142 = .ok (.ifCond .ne 8, 3) := by decide +kernel
theorem dX5_ofTeam_145 : decode cX5_ofTeam 145 = .ok (.bipush (-6), 2) := by decide +kernel
theorem dX5_ofTeam_147 : decode cX5_ofTeam 147 = .ok (.goto 16, 3) := by decide +kernel
theorem dX5_ofTeam_150 : decode cX5_ofTeam 150 = .ok (.aload_n 0, 1) := by decide +kernel
theorem dX5_ofTeam_151 : decode cX5_ofTeam 151 = .ok (.getfield 7, 3) := by decide +kernel
theorem dX5_ofTeam_154 : decode cX5_ofTeam 154 = .ok (.iload_n 1, 1) := by decide +kernel
theorem dX5_ofTeam_155 : decode cX5_ofTeam 155 = .ok (.invokestatic 46, 3) := by decide +kernel
theorem dX5_ofTeam_158 : decode cX5_ofTeam 158 = .ok (.iconst 3, 1) := by decide +kernel
theorem dX5_ofTeam_159 : decode cX5_ofTeam 159 = .ok (.iadd, 1) := by decide +kernel
theorem dX5_ofTeam_160 : decode cX5_ofTeam 160 = .ok (.iaload, 1) := by decide +kernel
theorem dX5_ofTeam_161 : decode cX5_ofTeam 161 = .ok (.iconst 1, 1) := by decide +kernel
theorem dX5_ofTeam_162 : decode cX5_ofTeam 162 = .ok (.isub, 1) := by decide +kernel
theorem dX5_ofTeam_163 : decode cX5_ofTeam 163 = .ok (.ireturn, 1) := by decide +kernel
theorem dX5_ofTeam_164 : decode cX5_ofTeam 164 = .ok (.aload_n 0, 1) := by decide +kernel
theorem dX5_ofTeam_165 : decode cX5_ofTeam 165 = .ok (.iload_n 1, 1) := by decide +kernel
theorem dX5_ofTeam_166 : decode cX5_ofTeam 166 = .ok (.iload_n 2, 1) := by decide +kernel
theorem dX5_ofTeam_167 : decode cX5_ofTeam 167 = .ok (.invokevirtual 114, 3) := by decide +kernel
theorem dX5_ofTeam_170 : decode cX5_ofTeam 170 = .ok (.ireturn, 1) := by decide +kernel
theorem dX5_ofTeam_171 : decode cX5_ofTeam 171 = .ok (.aload_n 0, 1) := by decide +kernel
theorem dX5_ofTeam_172 : decode cX5_ofTeam 172 = .ok (.getfield 7, 3) := by decide +kernel
theorem dX5_ofTeam_175 : decode cX5_ofTeam 175 = .ok (.iload_n 1, 1) := by decide +kernel
theorem dX5_ofTeam_176 : decode cX5_ofTeam 176 = .ok (.invokestatic 46, 3) := by decide +kernel
theorem dX5_ofTeam_179 : decode cX5_ofTeam 179 = .ok (.iconst 0, 1) := by decide +kernel
theorem dX5_ofTeam_180 : decode cX5_ofTeam 180 = .ok (.iadd, 1) := by decide +kernel
theorem dX5_ofTeam_181 : decode cX5_ofTeam 181 = .ok (.iaload, 1) := by decide +kernel
theorem dX5_ofTeam_182 : decode cX5_ofTeam 182 = .ok (.ireturn, 1) := by decide +kernel
theorem dX5_ofTeam_183 : decode cX5_ofTeam 183 = .ok (.aload_n 0, 1) := by decide +kernel
theorem dX5_ofTeam_184 : decode cX5_ofTeam 184 = .ok (.iload_n 1, 1) := by decide +kernel
theorem dX5_ofTeam_185 : decode cX5_ofTeam 185 = .ok (.invokevirtual 70, 3) := by decide +kernel
theorem dX5_ofTeam_188 : decode cX5_ofTeam 188 = .ok (.ireturn, 1) := by decide +kernel
theorem dX5_ofTeam_189 : decode cX5_ofTeam 189 = .ok (.bipush (-2), 2) := by decide +kernel
theorem dX5_ofTeam_191 : decode cX5_ofTeam 191 = .ok (.ireturn, 1) := by decide +kernel
set_option maxRecDepth 20000 in
theorem ggX5_greatest_X5_points : GoodIn wsX5_greatest wsX5_points := goodIn_r _ [6, 1, 7, 8, 9, 5, 10, 11, 12, 13, 14, 15, 16, 17, 18, 19, 20, 21, 22, 23] (by decide +kernel) (by decide +kernel)
set_option maxRecDepth 20000 in
theorem gX5_greatest_X5_points : GoodIn wsX5_greatest (wsV RX5 49 RX5 yX5_points wsX5_points) := goodIn_app (goodIn_of _ (by decide +kernel)) ggX5_greatest_X5_points
theorem dX5_greatest_0 : decode cX5_greatest 0 = .ok (.bipush (-6), 2) := by decide +kernel
theorem dX5_greatest_2 : decode cX5_greatest 2 = .ok (.istore_n 2, 1) := by decide +kernel
theorem dX5_greatest_3 : decode cX5_greatest 3 = .ok (.iconst 0, 1) := by decide +kernel
theorem dX5_greatest_4 : decode cX5_greatest 4 = .ok (.istore_n 3, 1) := by decide +kernel
theorem dX5_greatest_5 : decode cX5_greatest 5 = .ok (.iload_n 3, 1) := by decide +kernel
theorem dX5_greatest_6 : decode cX5_greatest 6 = .ok (.aload_n 0, 1) := by decide +kernel
theorem dX5_greatest_7 : decode cX5_greatest 7 = .ok (.getfield 7, 3) := by decide +kernel
theorem dX5_greatest_10 : decode cX5_greatest 10 = .ok (.iconst 4, 1) := by decide +kernel
theorem dX5_greatest_11 : decode cX5_greatest 11 = .ok (.iaload, 1) := by decide +kernel
theorem dX5_greatest_12 : decode cX5_greatest 12 = .ok (.if_icmp .ge 40, 3) := by decide +kernel
theorem dX5_greatest_15 : decode cX5_greatest 15 = .ok (.iload_n 3, 1) := by decide +kernel
theorem dX5_greatest_16 : decode cX5_greatest 16 = .ok (.ifCond .eq 16, 3) := by decide +kernel
theorem dX5_greatest_19 : decode cX5_greatest 19 = .ok (.aload_n 0, 1) := by decide +kernel
theorem dX5_greatest_20 : decode cX5_greatest 20 = .ok (.iload_n 3, 1) := by decide +kernel
theorem dX5_greatest_21 : decode cX5_greatest 21 = .ok (.iload_n 1, 1) := by decide +kernel
theorem dX5_greatest_22 : decode cX5_greatest 22 = .ok (.invokevirtual 49, 3) := by decide +kernel
theorem dX5_greatest_25 : decode cX5_greatest 25 = .ok (.bipush 100, 2) := by decide +kernel
theorem dX5_greatest_27 : decode cX5_greatest 27 = .ok (.iadd, 1) := by decide +kernel
theorem dX5_greatest_28 : decode cX5_greatest 28 = .ok (.iload_n 2, 1) := by decide +kernel
theorem dX5_greatest_29 : decode cX5_greatest 29 = .ok (.if_icmp .le 15, 3) := by decide +kernel
theorem dX5_greatest_32 : decode cX5_greatest 32 = .ok (.aload_n 0, 1) := by decide +kernel
theorem dX5_greatest_33 : decode cX5_greatest 33 = .ok (.iload_n 3, 1) := by decide +kernel
theorem dX5_greatest_34 : decode cX5_greatest 34 = .ok (.iload_n 1, 1) := by decide +kernel
theorem dX5_greatest_35 : decode cX5_greatest 35 = .ok (.invokevirtual 49, 3) := by decide +kernel
theorem dX5_greatest_38 : decode cX5_greatest 38 = .ok (.bipush 100, 2) := by decide +kernel
theorem dX5_greatest_40 : decode cX5_greatest 40 = .ok (.iadd, 1) := by decide +kernel
theorem dX5_greatest_41 : decode cX5_greatest 41 = .ok (.goto 4, 3) := by decide +kernel
theorem dX5_greatest_44 : decode cX5_greatest 44 = .ok (.iload_n 2, 1) := by decide +kernel
theorem dX5_greatest_45 : decode cX5_greatest 45 = .ok (.istore_n 2, 1) := by decide +kernel
theorem dX5_greatest_46 : decode cX5_greatest 46 = .ok (.iinc 3 1, 3) := by decide +kernel
theorem dX5_greatest_49 : decode cX5_greatest 49 = .ok (.goto (-44), 3) := by decide +kernel
theorem dX5_greatest_52 : decode cX5_greatest 52 = .ok (.iload_n 2, 1) := by decide +kernel
theorem dX5_greatest_53 : decode cX5_greatest 53 = .ok (.ireturn, 1) := by decide +kernel
set_option maxRecDepth 20000 in
theorem ggX5_ofRound_X5_isRound : GoodIn wsX5_ofRound wsX5_isRound := goodIn_r _ [4, 5, 6, 3, 7] (by decide +kernel) (by decide +kernel)
set_option maxRecDepth 20000 in
theorem gX5_ofRound_X5_isRound : GoodIn wsX5_ofRound (va_wsS RX5 98 yX5_isRound wsX5_isRound) := goodIn_app (goodIn_of _ (by decide +kernel)) ggX5_ofRound_X5_isRound
set_option maxRecDepth 20000 in
theorem ggX5_ofRound_X5_isOpen : GoodIn wsX5_ofRound wsX5_isOpen := goodIn_r _ [11, 12, 13, 14, 3, 15, 38, 39, 40, 41, 42, 43, 44] (by decide +kernel) (by decide +kernel)
set_option maxRecDepth 20000 in
theorem gX5_ofRound_X5_isOpen : GoodIn wsX5_ofRound (wsV RX5 85 RX5 yX5_isOpen wsX5_isOpen) := goodIn_app (goodIn_of _ (by decide +kernel)) ggX5_ofRound_X5_isOpen
set_option maxRecDepth 20000 in
theorem ggX5_ofRound_X5_teamsOf : GoodIn wsX5_ofRound wsX5_teamsOf := goodIn_r _ [19, 12, 20, 21, 3, 22, 23, 24, 25, 38, 39, 40, 41, 42, 43, 44] (by decide +kernel) (by decide +kernel)
set_option maxRecDepth 20000 in
theorem gX5_ofRound_X5_teamsOf : GoodIn wsX5_ofRound (wsV RX5 105 RX5 yX5_teamsOf wsX5_teamsOf) := goodIn_app (goodIn_of _ (by decide +kernel)) ggX5_ofRound_X5_teamsOf
set_option maxRecDepth 20000 in
theorem ggX5_ofRound_X5_greatest : GoodIn wsX5_ofRound wsX5_greatest := goodIn_r _ [29, 12, 30, 31, 32, 3, 33, 34, 35, 36, 37, 20, 21, 22, 23, 24, 25, 38, 39, 40, 41, 42, 43, 44] (by decide +kernel) (by decide +kernel)
set_option maxRecDepth 20000 in
theorem gX5_ofRound_X5_greatest : GoodIn wsX5_ofRound (wsV RX5 117 RX5 yX5_greatest wsX5_greatest) := goodIn_app (goodIn_of _ (by decide +kernel)) ggX5_ofRound_X5_greatest
theorem dX5_ofRound_0 : decode cX5_ofRound 0 = .ok (.iload_n 1, 1) := by decide +kernel
theorem dX5_ofRound_1 : decode cX5_ofRound 1 = .ok (.invokestatic 98, 3) := by decide +kernel
theorem dX5_ofRound_4 : decode cX5_ofRound 4 = .ok (.ifCond .ne 5, 3) := by decide +kernel
theorem dX5_ofRound_7 : decode cX5_ofRound 7 = .ok (.iconst (-1), 1) := by decide +kernel
theorem dX5_ofRound_8 : decode cX5_ofRound 8 = .ok (.ireturn, 1) := by decide +kernel
theorem dX5_ofRound_9 : decode cX5_ofRound 9 = .ok (.iload_n 2, 1) := by decide +kernel
theorem dX5_ofRound_10 : decode cX5_ofRound 10 = .ok (.tableswitch 65 0 5 #[38, 52, 52, 52, 52, 59], 38) := by decide +kernel
theorem dX5_ofRound_48 : decode cX5_ofRound 48 = .ok (.aload_n 0, 1) := by decide +kernel
theorem dX5_ofRound_49 : decode cX5_ofRound 49 = .ok (.iload_n 1, 1) := by decide +kernel
theorem dX5_ofRound_50 : decode cX5_ofRound 50 = .ok (.invokevirtual 85, 3) := by decide +kernel
theorem dX5_ofRound_53 : decode cX5_ofRound 53 = .ok (.ifCond .eq 7, 3) := by decide +kernel
theorem dX5_ofRound_56 : decode cX5_ofRound 56 = .ok (.iconst 1, 1) := by decide +kernel
theorem dX5_ofRound_57 : decode cX5_ofRound 57 = .ok (.goto 4, 3) := by decide +kernel
theorem dX5_ofRound_60 : decode cX5_ofRound 60 = .ok (.iconst 0, 1) := by decide +kernel
theorem dX5_ofRound_61 : decode cX5_ofRound 61 = .ok (.ireturn, 1) := by decide +kernel
theorem dX5_ofRound_62 : decode cX5_ofRound 62 = .ok (.aload_n 0, 1) := by decide +kernel
theorem dX5_ofRound_63 : decode cX5_ofRound 63 = .ok (.iload_n 1, 1) := by decide +kernel
theorem dX5_ofRound_64 : decode cX5_ofRound 64 = .ok (.iload_n 2, 1) := by decide +kernel
theorem dX5_ofRound_65 : decode cX5_ofRound 65 = .ok (.invokevirtual 105, 3) := by decide +kernel
theorem dX5_ofRound_68 : decode cX5_ofRound 68 = .ok (.ireturn, 1) := by decide +kernel
theorem dX5_ofRound_69 : decode cX5_ofRound 69 = .ok (.aload_n 0, 1) := by decide +kernel
theorem dX5_ofRound_70 : decode cX5_ofRound 70 = .ok (.iload_n 1, 1) := by decide +kernel
theorem dX5_ofRound_71 : decode cX5_ofRound 71 = .ok (.invokevirtual 117, 3) := by decide +kernel
theorem dX5_ofRound_74 : decode cX5_ofRound 74 = .ok (.ireturn, 1) := by decide +kernel
theorem dX5_ofRound_75 : decode cX5_ofRound 75 = .ok (.bipush (-2), 2) := by decide +kernel
theorem dX5_ofRound_77 : decode cX5_ofRound 77 = .ok (.ireturn, 1) := by decide +kernel
set_option maxRecDepth 20000 in
theorem ggX5_isSheet_X5_isTeam : GoodIn wsX5_isSheet wsX5_isTeam := goodIn_r _ [6, 1, 7, 8, 5, 9, 16, 17, 18, 19, 20, 21, 22] (by decide +kernel) (by decide +kernel)
set_option maxRecDepth 20000 in
theorem gX5_isSheet_X5_isTeam : GoodIn wsX5_isSheet (wsV RX5 95 RX5 yX5_isTeam wsX5_isTeam) := goodIn_app (goodIn_of _ (by decide +kernel)) ggX5_isSheet_X5_isTeam
set_option maxRecDepth 20000 in
theorem ggX5_isSheet_X5_isRound : GoodIn wsX5_isSheet wsX5_isRound := goodIn_r _ [12, 7, 8, 5, 9] (by decide +kernel) (by decide +kernel)
set_option maxRecDepth 20000 in
theorem gX5_isSheet_X5_isRound : GoodIn wsX5_isSheet (va_wsS RX5 98 yX5_isRound wsX5_isRound) := goodIn_app (goodIn_of _ (by decide +kernel)) ggX5_isSheet_X5_isRound
set_option maxRecDepth 20000 in
theorem ggX5_isSheet_X5_h : GoodIn wsX5_isSheet wsX5_h := goodIn_r _ [15] (by decide +kernel) (by decide +kernel)
set_option maxRecDepth 20000 in
theorem gX5_isSheet_X5_h : GoodIn wsX5_isSheet (va_wsS RX5 39 yX5_h wsX5_h) := goodIn_app (goodIn_of _ (by decide +kernel)) ggX5_isSheet_X5_h
theorem dX5_isSheet_0 : decode cX5_isSheet 0 = .ok (.aload_n 0, 1) := by decide +kernel
theorem dX5_isSheet_1 : decode cX5_isSheet 1 = .ok (.iload_n 1, 1) := by decide +kernel
theorem dX5_isSheet_2 : decode cX5_isSheet 2 = .ok (.invokevirtual 95, 3) := by decide +kernel
theorem dX5_isSheet_5 : decode cX5_isSheet 5 = .ok (.ifCond .eq 30, 3) := by decide +kernel
theorem dX5_isSheet_8 : decode cX5_isSheet 8 = .ok (.iload_n 2, 1) := by decide +kernel
theorem dX5_isSheet_9 : decode cX5_isSheet 9 = .ok (.invokestatic 98, 3) := by decide +kernel
theorem dX5_isSheet_12 : decode cX5_isSheet 12 = .ok (.ifCond .eq 23, 3) := by decide +kernel
theorem dX5_isSheet_15 : decode cX5_isSheet 15 = .ok (.aload_n 0, 1) := by decide +kernel
theorem dX5_isSheet_16 : decode cX5_isSheet 16 = .ok (.getfield 7, 3) := by decide +kernel
theorem dX5_isSheet_19 : decode cX5_isSheet 19 = .ok (.iload_n 1, 1) := by decide +kernel
theorem dX5_isSheet_20 : decode cX5_isSheet 20 = .ok (.iload_n 2, 1) := by decide +kernel
theorem dX5_isSheet_21 : decode cX5_isSheet 21 = .ok (.invokestatic 39, 3) := by decide +kernel
theorem dX5_isSheet_24 : decode cX5_isSheet 24 = .ok (.iconst 0, 1) := by decide +kernel
theorem dX5_isSheet_25 : decode cX5_isSheet 25 = .ok (.iadd, 1) := by decide +kernel
theorem dX5_isSheet_26 : decode cX5_isSheet 26 = .ok (.iaload, 1) := by decide +kernel
theorem dX5_isSheet_27 : decode cX5_isSheet 27 = .ok (.iconst 1, 1) := by decide +kernel
theorem dX5_isSheet_28 : decode cX5_isSheet 28 = .ok (.if_icmp .ne 7, 3) := by decide +kernel
theorem dX5_isSheet_31 : decode cX5_isSheet 31 = .ok (.iconst 1, 1) := by decide +kernel
theorem dX5_isSheet_32 : decode cX5_isSheet 32 = .ok (.goto 4, 3) := by decide +kernel
theorem dX5_isSheet_35 : decode cX5_isSheet 35 = .ok (.iconst 0, 1) := by decide +kernel
theorem dX5_isSheet_36 : decode cX5_isSheet 36 = .ok (.ireturn, 1) := by decide +kernel
theorem dX5_answered_0 : decode cX5_answered 0 = .ok (.iconst 0, 1) := by decide +kernel
theorem dX5_answered_1 : decode cX5_answered 1 = .ok (.istore_n 2, 1) := by decide +kernel
theorem dX5_answered_2 : decode cX5_answered 2 = .ok (.iconst 0, 1) := by decide +kernel
theorem dX5_answered_3 : decode cX5_answered 3 = .ok (.istore_n 3, 1) := by decide +kernel
theorem dX5_answered_4 : decode cX5_answered 4 = .ok (.iload_n 3, 1) := by decide +kernel
theorem dX5_answered_5 : decode cX5_answered 5 = .ok (.bipush 10, 2) := by decide +kernel
theorem dX5_answered_7 : decode cX5_answered 7 = .ok (.if_icmp .ge 30, 3) := by decide +kernel
theorem dX5_answered_10 : decode cX5_answered 10 = .ok (.iload_n 2, 1) := by decide +kernel
theorem dX5_answered_11 : decode cX5_answered 11 = .ok (.aload_n 0, 1) := by decide +kernel
theorem dX5_answered_12 : decode cX5_answered 12 = .ok (.getfield 7, 3) := by decide +kernel
theorem dX5_answered_15 : decode cX5_answered 15 = .ok (.iload_n 1, 1) := by decide +kernel
theorem dX5_answered_16 : decode cX5_answered 16 = .ok (.iconst 5, 1) := by decide +kernel
theorem dX5_answered_17 : decode cX5_answered 17 = .ok (.iadd, 1) := by decide +kernel
theorem dX5_answered_18 : decode cX5_answered 18 = .ok (.iload_n 3, 1) := by decide +kernel
theorem dX5_answered_19 : decode cX5_answered 19 = .ok (.iadd, 1) := by decide +kernel
theorem dX5_answered_20 : decode cX5_answered 20 = .ok (.iaload, 1) := by decide +kernel
theorem dX5_answered_21 : decode cX5_answered 21 = .ok (.ifCond .ge 7, 3) := by decide +kernel
theorem dX5_answered_24 : decode cX5_answered 24 = .ok (.iconst 0, 1) := by decide +kernel
theorem dX5_answered_25 : decode cX5_answered 25 = .ok (.goto 4, 3) := by decide +kernel
theorem dX5_answered_28 : decode cX5_answered 28 = .ok (.iconst 1, 1) := by decide +kernel
theorem dX5_answered_29 : decode cX5_answered 29 = .ok (.iadd, 1) := by decide +kernel
theorem dX5_answered_30 : decode cX5_answered 30 = .ok (.istore_n 2, 1) := by decide +kernel
theorem dX5_answered_31 : decode cX5_answered 31 = .ok (.iinc 3 1, 3) := by decide +kernel
theorem dX5_answered_34 : decode cX5_answered 34 = .ok (.goto (-30), 3) := by decide +kernel
theorem dX5_answered_37 : decode cX5_answered 37 = .ok (.iload_n 2, 1) := by decide +kernel
theorem dX5_answered_38 : decode cX5_answered 38 = .ok (.ireturn, 1) := by decide +kernel
set_option maxRecDepth 20000 in
theorem ggX5_sheet_X5_isSheet : GoodIn wsX5_sheet wsX5_isSheet := goodIn_r _ [6, 1, 7, 8, 9, 5, 10, 11, 12, 13, 14, 15, 16, 17, 18, 19, 46, 47, 48, 49, 50, 51, 52] (by decide +kernel) (by decide +kernel)
set_option maxRecDepth 20000 in
theorem gX5_sheet_X5_isSheet : GoodIn wsX5_sheet (wsV RX5 120 RX5 yX5_isSheet wsX5_isSheet) := goodIn_app (goodIn_of _ (by decide +kernel)) ggX5_sheet_X5_isSheet
set_option maxRecDepth 20000 in
theorem ggX5_sheet_X5_h : GoodIn wsX5_sheet wsX5_h := goodIn_r _ [19] (by decide +kernel) (by decide +kernel)
set_option maxRecDepth 20000 in
theorem gX5_sheet_X5_h : GoodIn wsX5_sheet (va_wsS RX5 39 yX5_h wsX5_h) := goodIn_app (goodIn_of _ (by decide +kernel)) ggX5_sheet_X5_h
set_option maxRecDepth 20000 in
theorem ggX5_sheet_X5_points : GoodIn wsX5_sheet wsX5_points := goodIn_r _ [23, 1, 24, 25, 26, 5, 27, 17, 18, 19, 28, 29, 30, 46, 47, 48, 49, 50, 51, 52] (by decide +kernel) (by decide +kernel)
set_option maxRecDepth 20000 in
theorem gX5_sheet_X5_points : GoodIn wsX5_sheet (wsV RX5 49 RX5 yX5_points wsX5_points) := goodIn_app (goodIn_of _ (by decide +kernel)) ggX5_sheet_X5_points
set_option maxRecDepth 20000 in
theorem ggX5_sheet_X5_isOpen : GoodIn wsX5_sheet wsX5_isOpen := goodIn_r _ [34, 1, 35, 36, 5, 37, 46, 47, 48, 49, 50, 51, 52] (by decide +kernel) (by decide +kernel)
set_option maxRecDepth 20000 in
theorem gX5_sheet_X5_isOpen : GoodIn wsX5_sheet (wsV RX5 85 RX5 yX5_isOpen wsX5_isOpen) := goodIn_app (goodIn_of _ (by decide +kernel)) ggX5_sheet_X5_isOpen
set_option maxRecDepth 20000 in
theorem ggX5_sheet_X5_trueMark : GoodIn wsX5_sheet wsX5_trueMark := goodIn_r _ [41, 1, 17, 18, 5, 19, 35, 36, 37, 46, 47, 48, 49, 50, 51, 52] (by decide +kernel) (by decide +kernel)
set_option maxRecDepth 20000 in
theorem gX5_sheet_X5_trueMark : GoodIn wsX5_sheet (wsV RX5 108 RX5 yX5_trueMark wsX5_trueMark) := goodIn_app (goodIn_of _ (by decide +kernel)) ggX5_sheet_X5_trueMark
set_option maxRecDepth 20000 in
theorem ggX5_sheet_X5_answered : GoodIn wsX5_sheet wsX5_answered := goodIn_r _ [45, 1, 46, 47, 48, 49, 50, 51, 52] (by decide +kernel) (by decide +kernel)
set_option maxRecDepth 20000 in
theorem gX5_sheet_X5_answered : GoodIn wsX5_sheet (wsV RX5 123 RX5 yX5_answered wsX5_answered) := goodIn_app (goodIn_of _ (by decide +kernel)) ggX5_sheet_X5_answered
theorem dX5_sheet_0 : decode cX5_sheet 0 = .ok (.aload_n 0, 1) := by decide +kernel
theorem dX5_sheet_1 : decode cX5_sheet 1 = .ok (.iload_n 1, 1) := by decide +kernel
theorem dX5_sheet_2 : decode cX5_sheet 2 = .ok (.iload_n 2, 1) := by decide +kernel
theorem dX5_sheet_3 : decode cX5_sheet 3 = .ok (.invokevirtual 120, 3) := by decide +kernel
theorem dX5_sheet_6 : decode cX5_sheet 6 = .ok (.ifCond .ne 5, 3) := by decide +kernel
theorem dX5_sheet_9 : decode cX5_sheet 9 = .ok (.iconst (-1), 1) := by decide +kernel
theorem dX5_sheet_10 : decode cX5_sheet 10 = .ok (.ireturn, 1) := by decide +kernel
theorem dX5_sheet_11 : decode cX5_sheet 11 = .ok (.iload_n 1, 1) := by decide +kernel
theorem dX5_sheet_12 : decode cX5_sheet 12 = .ok (.iload_n 2, 1) := by decide +kernel
theorem dX5_sheet_13 : decode cX5_sheet 13 = .ok (.invokestatic 39, 3) := by decide +kernel
theorem dX5_sheet_16 : decode cX5_sheet 16 = .ok (.istore 4, 2) := by decide +kernel
theorem dX5_sheet_18 : decode cX5_sheet 18 = .ok (.aload_n 0, 1) := by decide +kernel
theorem dX5_sheet_19 : decode cX5_sheet 19 = .ok (.getfield 7, 3) := by decide +kernel
theorem dX5_sheet_22 : decode cX5_sheet 22 = .ok (.iload 4, 2) := by decide +kernel
theorem dX5_sheet_24 : decode cX5_sheet 24 = .ok (.iconst 1, 1) := by decide +kernel
theorem dX5_sheet_25 : decode cX5_sheet 25 = .ok (.iadd, 1) := by decide +kernel
theorem dX5_sheet_26 : decode cX5_sheet 26 = .ok (.iaload, 1) := by decide +kernel
theorem dX5_sheet_27 : decode cX5_sheet 27 = .ok (.iconst 1, 1) := by decide +kernel
theorem dX5_sheet_28 : decode cX5_sheet 28 = .ok (.if_icmp .ne 7, 3) := by decide +kernel
theorem dX5_sheet_31 : decode cX5_sheet 31 = .ok (.iconst 1, 1) := by decide +kernel
theorem dX5_sheet_32 : decode cX5_sheet 32 = .ok (.goto 4, 3) := by decide +kernel
theorem dX5_sheet_35 : decode cX5_sheet 35 = .ok (.iconst 0, 1) := by decide +kernel
theorem dX5_sheet_36 : decode cX5_sheet 36 = .ok (.istore 5, 2) := by decide +kernel
theorem dX5_sheet_38 : decode cX5_sheet 38 = .ok (.iload_n 3, 1) := by decide +kernel
theorem dX5_sheet_39 : decode cX5_sheet 39 = .ok (.tableswitch 116 0 4 #[33, 56, 76, 86, 109], 33) := by decide +kernel
theorem dX5_sheet_72 : decode cX5_sheet 72 = .ok (.iload 5, 2) := by decide +kernel
theorem dX5_sheet_74 : decode cX5_sheet 74 = .ok (.ifCond .eq 18, 3) := by decide +kernel
theorem dX5_sheet_77 : decode cX5_sheet 77 = .ok (.aload_n 0, 1) := by decide +kernel
theorem dX5_sheet_78 : decode cX5_sheet 78 = .ok (.getfield 7, 3) := by decide +kernel
theorem dX5_sheet_81 : decode cX5_sheet 81 = .ok (.iload 4, 2) := by decide +kernel
theorem dX5_sheet_83 : decode cX5_sheet 83 = .ok (.iconst 2, 1) := by decide +kernel
theorem dX5_sheet_84 : decode cX5_sheet 84 = .ok (.iadd, 1) := by decide +kernel
theorem dX5_sheet_85 : decode cX5_sheet 85 = .ok (.iaload, 1) := by decide +kernel
theorem dX5_sheet_86 : decode cX5_sheet 86 = .ok (.bipush 100, 2) := by decide +kernel
theorem dX5_sheet_88 : decode cX5_sheet 88 = .ok (.iadd, 1) := by decide +kernel
theorem dX5_sheet_89 : decode cX5_sheet 89 = .ok (.goto 5, 3) := by decide +kernel
theorem dX5_sheet_92 : decode cX5_sheet 92 = .ok (.bipush (-6), 2) := by decide +kernel
theorem dX5_sheet_94 : decode cX5_sheet 94 = .ok (.ireturn, 1) := by decide +kernel
theorem dX5_sheet_95 : decode cX5_sheet 95 = .ok (.iload 5, 2) := by decide +kernel
theorem dX5_sheet_97 : decode cX5_sheet 97 = .ok (.ifCond .eq 15, 3) := by decide +kernel
theorem dX5_sheet_100 : decode cX5_sheet 100 = .ok (.aload_n 0, 1) := by decide +kernel
theorem dX5_sheet_101 : decode cX5_sheet 101 = .ok (.getfield 7, 3) := by decide +kernel
theorem dX5_sheet_104 : decode cX5_sheet 104 = .ok (.iload 4, 2) := by decide +kernel
theorem dX5_sheet_106 : decode cX5_sheet 106 = .ok (.iconst 3, 1) := by decide +kernel
theorem dX5_sheet_107 : decode cX5_sheet 107 = .ok (.iadd, 1) := by decide +kernel
theorem dX5_sheet_108 : decode cX5_sheet 108 = .ok (.iaload, 1) := by decide +kernel
theorem dX5_sheet_109 : decode cX5_sheet 109 = .ok (.goto 5, 3) := by decide +kernel
theorem dX5_sheet_112 : decode cX5_sheet 112 = .ok (.bipush (-6), 2) := by decide +kernel
theorem dX5_sheet_114 : decode cX5_sheet 114 = .ok (.ireturn, 1) := by decide +kernel
theorem dX5_sheet_115 : decode cX5_sheet 115 = .ok (.aload_n 0, 1) := by decide +kernel
theorem dX5_sheet_116 : decode cX5_sheet 116 = .ok (.iload_n 1, 1) := by decide +kernel
theorem dX5_sheet_117 : decode cX5_sheet 117 = .ok (.iload_n 2, 1) := by decide +kernel
theorem dX5_sheet_118 : decode cX5_sheet 118 = .ok (.invokevirtual 49, 3) := by decide +kernel
theorem dX5_sheet_121 : decode cX5_sheet 121 = .ok (.bipush 100, 2) := by decide +kernel
theorem dX5_sheet_123 : decode cX5_sheet 123 = .ok (.iadd, 1) := by decide +kernel
theorem dX5_sheet_124 : decode cX5_sheet 124 = .ok (.ireturn, 1) := by decide +kernel
theorem dX5_sheet_125 : decode cX5_sheet 125 = .ok (.aload_n 0, 1) := by decide +kernel
theorem dX5_sheet_126 : decode cX5_sheet 126 = .ok (.iload_n 2, 1) := by decide +kernel
theorem dX5_sheet_127 : decode cX5_sheet 127 = .ok (.invokevirtual 85, 3) := by decide +kernel
theorem dX5_sheet_130 : decode cX5_sheet 130 = .ok (.ifCond .eq 8, 3) := by decide +kernel
theorem dX5_sheet_133 : decode cX5_sheet 133 = .ok (.bipush (-6), 2) := by decide +kernel
theorem dX5_sheet_135 : decode cX5_sheet 135 = .ok (.goto 12, 3) := by decide +kernel
theorem dX5_sheet_138 : decode cX5_sheet 138 = .ok (.aload_n 0, 1) := by decide +kernel
theorem dX5_sheet_139 : decode cX5_sheet 139 = .ok (.iload_n 1, 1) := by decide +kernel
theorem dX5_sheet_140 : decode cX5_sheet 140 = .ok (.iload_n 2, 1) := by decide +kernel
theorem dX5_sheet_141 : decode cX5_sheet 141 = .ok (.invokevirtual 108, 3) := by decide +kernel
theorem dX5_sheet_144 : decode cX5_sheet 144 = .ok (.bipush 100, 2) := by decide +kernel
theorem dX5_sheet_146 : decode cX5_sheet 146 = .ok (.iadd, 1) := by decide +kernel
theorem dX5_sheet_147 : decode cX5_sheet 147 = .ok (.ireturn, 1) := by decide +kernel
theorem dX5_sheet_148 : decode cX5_sheet 148 = .ok (.aload_n 0, 1) := by decide +kernel
theorem dX5_sheet_149 : decode cX5_sheet 149 = .ok (.iload 4, 2) := by decide +kernel
theorem dX5_sheet_151 : decode cX5_sheet 151 = .ok (.invokevirtual 123, 3) := by decide +kernel
theorem dX5_sheet_154 : decode cX5_sheet 154 = .ok (.ireturn, 1) := by decide +kernel
theorem dX5_sheet_155 : decode cX5_sheet 155 = .ok (.bipush (-2), 2) := by decide +kernel
theorem dX5_sheet_157 : decode cX5_sheet 157 = .ok (.ireturn, 1) := by decide +kernel
set_option maxRecDepth 20000 in
theorem ggX5_answer_X5_isRound : GoodIn wsX5_answer wsX5_isRound := goodIn_r _ [5, 6, 7, 4, 8] (by decide +kernel) (by decide +kernel)
set_option maxRecDepth 20000 in
theorem gX5_answer_X5_isRound : GoodIn wsX5_answer (va_wsS RX5 98 yX5_isRound wsX5_isRound) := goodIn_app (goodIn_of _ (by decide +kernel)) ggX5_answer_X5_isRound
set_option maxRecDepth 20000 in
theorem ggX5_answer_X5_isOpen : GoodIn wsX5_answer wsX5_isOpen := goodIn_r _ [12, 1, 13, 14, 4, 15, 27, 28, 29, 30, 31, 32, 33] (by decide +kernel) (by decide +kernel)
set_option maxRecDepth 20000 in
theorem gX5_answer_X5_isOpen : GoodIn wsX5_answer (wsV RX5 85 RX5 yX5_isOpen wsX5_isOpen) := goodIn_app (goodIn_of _ (by decide +kernel)) ggX5_answer_X5_isOpen
set_option maxRecDepth 20000 in
theorem ggX5_answer_X5_isSheet : GoodIn wsX5_answer wsX5_isSheet := goodIn_r _ [19, 1, 20, 21, 22, 4, 23, 6, 7, 8, 2, 3, 5, 24, 25, 26, 27, 28, 29, 30, 31, 32, 33] (by decide +kernel) (by decide +kernel)
set_option maxRecDepth 20000 in
theorem gX5_answer_X5_isSheet : GoodIn wsX5_answer (wsV RX5 120 RX5 yX5_isSheet wsX5_isSheet) := goodIn_app (goodIn_of _ (by decide +kernel)) ggX5_answer_X5_isSheet
set_option maxRecDepth 20000 in
theorem ggX5_answer_X5_in : GoodIn wsX5_answer wsX5_in := goodIn_r _ [8] (by decide +kernel) (by decide +kernel)
set_option maxRecDepth 20000 in
theorem gX5_answer_X5_in : GoodIn wsX5_answer (va_wsS RX5 27 yX5_in wsX5_in) := goodIn_app (goodIn_of _ (by decide +kernel)) ggX5_answer_X5_in
set_option maxRecDepth 20000 in
theorem ggX5_answer_X5_r : GoodIn wsX5_answer wsX5_r := goodIn_r _ [15] (by decide +kernel) (by decide +kernel)
set_option maxRecDepth 20000 in
theorem gX5_answer_X5_r : GoodIn wsX5_answer (va_wsS RX5 31 yX5_r wsX5_r) := goodIn_app (goodIn_of _ (by decide +kernel)) ggX5_answer_X5_r
set_option maxRecDepth 20000 in
theorem ggX5_answer_X5_h : GoodIn wsX5_answer wsX5_h := goodIn_r _ [26] (by decide +kernel) (by decide +kernel)
set_option maxRecDepth 20000 in
theorem gX5_answer_X5_h : GoodIn wsX5_answer (va_wsS RX5 39 yX5_h wsX5_h) := goodIn_app (goodIn_of _ (by decide +kernel)) ggX5_answer_X5_h
theorem dX5_answer_0 : decode cX5_answer 0 = .ok (.iload_n 1, 1) := by decide +kernel
theorem dX5_answer_1 : decode cX5_answer 1 = .ok (.bipush (-6), 2) := by decide +kernel
theorem dX5_answer_3 : decode cX5_answer 3 = .ok (.if_icmp .ne 26, 3) := by decide +kernel
theorem dX5_answer_6 : decode cX5_answer 6 = .ok (.iload_n 2, 1) := by decide +kernel
theorem dX5_answer_7 : decode cX5_answer 7 = .ok (.invokestatic 98, 3) := by decide +kernel
theorem dX5_answer_10 : decode cX5_answer 10 = .ok (.ifCond .eq 15, 3) := by decide +kernel
theorem dX5_answer_13 : decode cX5_answer 13 = .ok (.aload_n 0, 1) := by decide +kernel
theorem dX5_answer_14 : decode cX5_answer 14 = .ok (.iload_n 2, 1) := by decide +kernel
theorem dX5_answer_15 : decode cX5_answer 15 = .ok (.invokevirtual 85, 3) := by decide +kernel
theorem dX5_answer_18 : decode cX5_answer 18 = .ok (.ifCond .ne 7, 3) := by decide +kernel
theorem dX5_answer_21 : decode cX5_answer 21 = .ok (.iconst 1, 1) := by decide +kernel
theorem dX5_answer_22 : decode cX5_answer 22 = .ok (.goto 13, 3) := by decide +kernel
theorem dX5_answer_25 : decode cX5_answer 25 = .ok (.iconst 0, 1) := by decide +kernel
theorem dX5_answer_26 : decode cX5_answer 26 = .ok (.goto 9, 3) := by decide +kernel
theorem dX5_answer_29 : decode cX5_answer 29 = .ok (.aload_n 0, 1) := by decide +kernel
theorem dX5_answer_30 : decode cX5_answer 30 = .ok (.iload_n 1, 1) := by decide +kernel
theorem dX5_answer_31 : decode cX5_answer 31 = .ok (.iload_n 2, 1) := by decide +kernel
theorem dX5_answer_32 : decode cX5_answer 32 = .ok (.invokevirtual 120, 3) := by decide +kernel
theorem dX5_answer_35 : decode cX5_answer 35 = .ok (.istore 4, 2) := by decide +kernel
theorem dX5_answer_37 : decode cX5_answer 37 = .ok (.iload 4, 2) := by decide +kernel
theorem dX5_answer_39 : decode cX5_answer 39 = .ok (.ifCond .ne 5, 3) := by decide +kernel
theorem dX5_answer_42 : decode cX5_answer 42 = .ok (.iconst (-1), 1) := by decide +kernel
theorem dX5_answer_43 : decode cX5_answer 43 = .ok (.ireturn, 1) := by decide +kernel
theorem dX5_answer_44 : decode cX5_answer 44 = .ok (.iload_n 3, 1) := by decide +kernel
theorem dX5_answer_45 : decode cX5_answer 45 = .ok (.iconst 0, 1) := by decide +kernel
theorem dX5_answer_46 : decode cX5_answer 46 = .ok (.bipush 9, 2) := by decide +kernel
theorem dX5_answer_48 : decode cX5_answer 48 = .ok (.invokestatic 27, 3) := by decide +kernel
theorem dX5_answer_51 : decode cX5_answer 51 = .ok (.ifCond .ne 6, 3) := by decide +kernel
theorem dX5_answer_54 : decode cX5_answer 54 = .ok (.bipush (-2), 2) := by decide +kernel
theorem dX5_answer_56 : decode cX5_answer 56 = .ok (.ireturn, 1) := by decide +kernel
theorem dX5_answer_57 : decode cX5_answer 57 = .ok (.iload_n 1, 1) := by decide +kernel
theorem dX5_answer_58 : decode cX5_answer 58 = .ok (.bipush (-6), 2) := by decide +kernel
theorem dX5_answer_60 : decode cX5_answer 60 = .ok (.if_icmp .ne 19, 3) := by decide +kernel
theorem dX5_answer_63 : decode cX5_answer 63 = .ok (.aload_n 0, 1) := by decide +kernel
theorem dX5_answer_64 : decode cX5_answer 64 = .ok (.getfield 7, 3) := by decide +kernel
theorem dX5_answer_67 : decode cX5_answer 67 = .ok (.iload_n 2, 1) := by decide +kernel
theorem dX5_answer_68 : decode cX5_answer 68 = .ok (.invokestatic 31, 3) := by decide +kernel
theorem dX5_answer_71 : decode cX5_answer 71 = .ok (.iconst 1, 1) := by decide +kernel
theorem dX5_answer_72 : decode cX5_answer 72 = .ok (.iadd, 1) := by decide +kernel
theorem dX5_answer_73 : decode cX5_answer 73 = .ok (.iload_n 3, 1) := by decide +kernel
theorem dX5_answer_74 : decode cX5_answer 74 = .ok (.iadd, 1) := by decide +kernel
theorem dX5_answer_75 : decode cX5_answer 75 = .ok (.iaload, 1) := by decide +kernel
theorem dX5_answer_76 : decode cX5_answer 76 = .ok (.goto 17, 3) := by decide +kernel
theorem dX5_answer_79 : decode cX5_answer 79 = .ok (.aload_n 0, 1) := by decide +kernel
theorem dX5_answer_80 : decode cX5_answer 80 = .ok (.getfield 7, 3) := by decide +kernel
theorem dX5_answer_83 : decode cX5_answer 83 = .ok (.iload_n 1, 1) := by decide +kernel
theorem dX5_answer_84 : decode cX5_answer 84 = .ok (.iload_n 2, 1) := by decide +kernel
theorem dX5_answer_85 : decode cX5_answer 85 = .ok (.invokestatic 39, 3) := by decide +kernel
theorem dX5_answer_88 : decode cX5_answer 88 = .ok (.iconst 5, 1) := by decide +kernel
theorem dX5_answer_89 : decode cX5_answer 89 = .ok (.iadd, 1) := by decide +kernel
theorem dX5_answer_90 : decode cX5_answer 90 = .ok (.iload_n 3, 1) := by decide +kernel
theorem dX5_answer_91 : decode cX5_answer 91 = .ok (.iadd, 1) := by decide +kernel
theorem dX5_answer_92 : decode cX5_answer 92 = .ok (.iaload, 1) := by decide +kernel
theorem dX5_answer_93 : decode cX5_answer 93 = .ok (.istore 5, 2) := by decide +kernel
theorem dX5_answer_95 : decode cX5_answer 95 = .ok (.iload 5, 2) := by decide +kernel
theorem dX5_answer_97 : decode cX5_answer 97 = .ok (.ifCond .ge 8, 3) := by decide +kernel
theorem dX5_answer_100 : decode cX5_answer 100 = .ok (.bipush (-6), 2) := by decide +kernel
theorem dX5_answer_102 : decode cX5_answer 102 = .ok (.goto 5, 3) := by decide +kernel
theorem dX5_answer_105 : decode cX5_answer 105 = .ok (.iload 5, 2) := by decide +kernel
theorem dX5_answer_107 : decode cX5_answer 107 = .ok (.ireturn, 1) := by decide +kernel
set_option maxRecDepth 20000 in
theorem ggX5_at_X5_rank : GoodIn wsX5_at wsX5_rank := goodIn_r _ [6, 1, 7, 8, 9, 5, 10, 11, 12, 13, 14, 15, 16, 17, 18, 19, 20, 21, 22, 23, 24, 25, 26, 27, 28, 29, 30, 31, 32, 33, 41, 42, 43, 44, 45, 46, 47] (by decide +kernel) (by decide +kernel)
set_option maxRecDepth 20000 in
theorem gX5_at_X5_rank : GoodIn wsX5_at (wsV RX5 76 RX5 yX5_rank wsX5_rank) := goodIn_app (goodIn_of _ (by decide +kernel)) ggX5_at_X5_rank
set_option maxRecDepth 20000 in
theorem ggX5_at_X5_tied : GoodIn wsX5_at wsX5_tied := goodIn_r _ [37, 1, 7, 8, 9, 5, 10, 11, 12, 13, 14, 15, 16, 17, 18, 19, 20, 21, 22, 23, 24, 25, 26, 27, 28, 29, 30, 31, 32, 33, 41, 42, 43, 44, 45, 46, 47] (by decide +kernel) (by decide +kernel)
set_option maxRecDepth 20000 in
theorem gX5_at_X5_tied : GoodIn wsX5_at (wsV RX5 70 RX5 yX5_tied wsX5_tied) := goodIn_app (goodIn_of _ (by decide +kernel)) ggX5_at_X5_tied
set_option maxRecDepth 20000 in
theorem ggX5_at_X5_bits : GoodIn wsX5_at wsX5_bits := goodIn_r _ [40] (by decide +kernel) (by decide +kernel)
set_option maxRecDepth 20000 in
theorem gX5_at_X5_bits : GoodIn wsX5_at (va_wsS RX5 73 yX5_bits wsX5_bits) := goodIn_app (goodIn_of _ (by decide +kernel)) ggX5_at_X5_bits
theorem dX5_at_0 : decode cX5_at 0 = .ok (.iconst (-1), 1) := by decide +kernel
theorem dX5_at_1 : decode cX5_at 1 = .ok (.istore_n 2, 1) := by decide +kernel
theorem dX5_at_2 : decode cX5_at 2 = .ok (.iconst 0, 1) := by decide +kernel
theorem dX5_at_3 : decode cX5_at 3 = .ok (.istore_n 3, 1) := by decide +kernel
theorem dX5_at_4 : decode cX5_at 4 = .ok (.iload_n 3, 1) := by decide +kernel
theorem dX5_at_5 : decode cX5_at 5 = .ok (.aload_n 0, 1) := by decide +kernel
theorem dX5_at_6 : decode cX5_at 6 = .ok (.getfield 7, 3) := by decide +kernel
theorem dX5_at_9 : decode cX5_at 9 = .ok (.iconst 4, 1) := by decide +kernel
theorem dX5_at_10 : decode cX5_at 10 = .ok (.iaload, 1) := by decide +kernel
theorem dX5_at_11 : decode cX5_at 11 = .ok (.if_icmp .ge 45, 3) := by decide +kernel
theorem dX5_at_14 : decode cX5_at 14 = .ok (.aload_n 0, 1) := by decide +kernel
theorem dX5_at_15 : decode cX5_at 15 = .ok (.iload_n 3, 1) := by decide +kernel
theorem dX5_at_16 : decode cX5_at 16 = .ok (.invokevirtual 76, 3) := by decide +kernel
theorem dX5_at_19 : decode cX5_at 19 = .ok (.iconst 1, 1) := by decide +kernel
theorem dX5_at_20 : decode cX5_at 20 = .ok (.isub, 1) := by decide +kernel
theorem dX5_at_21 : decode cX5_at 21 = .ok (.aload_n 0, 1) := by decide +kernel
theorem dX5_at_22 : decode cX5_at 22 = .ok (.iload_n 3, 1) := by decide +kernel
theorem dX5_at_23 : decode cX5_at 23 = .ok (.invokevirtual 70, 3) := by decide +kernel
theorem dX5_at_26 : decode cX5_at 26 = .ok (.iconst 1, 1) := by decide +kernel
theorem dX5_at_27 : decode cX5_at 27 = .ok (.iload_n 3, 1) := by decide +kernel
theorem dX5_at_28 : decode cX5_at 28 = .ok (.ishl, 1) := by decide +kernel
theorem dX5_at_29 : decode cX5_at 29 = .ok (.iconst 1, 1) := by decide +kernel
theorem dX5_at_30 : decode cX5_at 30 = .ok (.isub, 1) := by decide +kernel
theorem dX5_at_31 : decode cX5_at 31 = .ok (.iand, 1) := by decide +kernel
theorem dX5_at_32 : decode cX5_at 32 = .ok (.invokestatic 73, 3) := by decide +kernel
theorem dX5_at_35 : decode cX5_at 35 = .ok (.iadd, 1) := by decide +kernel
theorem dX5_at_36 : decode cX5_at 36 = .ok (.istore 4, 2) := by decide +kernel
theorem dX5_at_38 : decode cX5_at 38 = .ok (.iload 4, 2) := by decide +kernel
theorem dX5_at_40 : decode cX5_at 40 = .ok (.iload_n 1, 1) := by decide +kernel
theorem dX5_at_41 : decode cX5_at 41 = .ok (.if_icmp .ne 7, 3) := by decide +kernel
theorem dX5_at_44 : decode cX5_at 44 = .ok (.iload_n 3, 1) := by decide +kernel
theorem dX5_at_45 : decode cX5_at 45 = .ok (.goto 4, 3) := by decide +kernel
theorem dX5_at_48 : decode cX5_at 48 = .ok (.iload_n 2, 1) := by decide +kernel
theorem dX5_at_49 : decode cX5_at 49 = .ok (.istore_n 2, 1) := by decide +kernel
theorem dX5_at_50 : decode cX5_at 50 = .ok (.iinc 3 1, 3) := by decide +kernel
theorem dX5_at_53 : decode cX5_at 53 = .ok (.goto (-49), 3) := by decide +kernel
theorem dX5_at_56 : decode cX5_at 56 = .ok (.iload_n 2, 1) := by decide +kernel
theorem dX5_at_57 : decode cX5_at 57 = .ok (.ireturn, 1) := by decide +kernel
set_option maxRecDepth 20000 in
theorem ggX5_fines_X5_t : GoodIn wsX5_fines wsX5_t := goodIn_r _ [5] (by decide +kernel) (by decide +kernel)
set_option maxRecDepth 20000 in
theorem gX5_fines_X5_t : GoodIn wsX5_fines (va_wsS RX5 46 yX5_t wsX5_t) := goodIn_app (goodIn_of _ (by decide +kernel)) ggX5_fines_X5_t
theorem dX5_fines_0 : decode cX5_fines 0 = .ok (.iconst 0, 1) := by decide +kernel
theorem dX5_fines_1 : decode cX5_fines 1 = .ok (.istore_n 1, 1) := by decide +kernel
theorem dX5_fines_2 : decode cX5_fines 2 = .ok (.iconst 0, 1) := by decide +kernel
theorem dX5_fines_3 : decode cX5_fines 3 = .ok (.istore_n 2, 1) := by decide +kernel
theorem dX5_fines_4 : decode cX5_fines 4 = .ok (.iload_n 2, 1) := by decide +kernel
theorem dX5_fines_5 : decode cX5_fines 5 = .ok (.aload_n 0, 1) := by decide +kernel
theorem dX5_fines_6 : decode cX5_fines 6 = .ok (.getfield 7, 3) := by decide +kernel
theorem dX5_fines_9 : decode cX5_fines 9 = .ok (.iconst 4, 1) := by decide +kernel
theorem dX5_fines_10 : decode cX5_fines 10 = .ok (.iaload, 1) := by decide +kernel
theorem dX5_fines_11 : decode cX5_fines 11 = .ok (.if_icmp .ge 23, 3) := by decide +kernel
theorem dX5_fines_14 : decode cX5_fines 14 = .ok (.iload_n 1, 1) := by decide +kernel
theorem dX5_fines_15 : decode cX5_fines 15 = .ok (.aload_n 0, 1) := by decide +kernel
theorem dX5_fines_16 : decode cX5_fines 16 = .ok (.getfield 7, 3) := by decide +kernel
theorem dX5_fines_19 : decode cX5_fines 19 = .ok (.iload_n 2, 1) := by decide +kernel
theorem dX5_fines_20 : decode cX5_fines 20 = .ok (.invokestatic 46, 3) := by decide +kernel
theorem dX5_fines_23 : decode cX5_fines 23 = .ok (.iconst 2, 1) := by decide +kernel
theorem dX5_fines_24 : decode cX5_fines 24 = .ok (.iadd, 1) := by decide +kernel
theorem dX5_fines_25 : decode cX5_fines 25 = .ok (.iaload, 1) := by decide +kernel
theorem dX5_fines_26 : decode cX5_fines 26 = .ok (.iadd, 1) := by decide +kernel
theorem dX5_fines_27 : decode cX5_fines 27 = .ok (.istore_n 1, 1) := by decide +kernel
theorem dX5_fines_28 : decode cX5_fines 28 = .ok (.iinc 2 1, 3) := by decide +kernel
theorem dX5_fines_31 : decode cX5_fines 31 = .ok (.goto (-27), 3) := by decide +kernel
theorem dX5_fines_34 : decode cX5_fines 34 = .ok (.iload_n 1, 1) := by decide +kernel
theorem dX5_fines_35 : decode cX5_fines 35 = .ok (.ireturn, 1) := by decide +kernel
set_option maxRecDepth 20000 in
theorem ggX5_unlike_X5_score : GoodIn wsX5_unlike wsX5_score := goodIn_r _ [6, 1, 7, 8, 5, 9, 10, 11, 12, 13, 14, 15, 16, 17, 18, 19, 20, 21, 22, 23, 24, 25, 26, 27] (by decide +kernel) (by decide +kernel)
set_option maxRecDepth 20000 in
theorem gX5_unlike_X5_score : GoodIn wsX5_unlike (wsV RX5 53 RX5 yX5_score wsX5_score) := goodIn_app (goodIn_of _ (by decide +kernel)) ggX5_unlike_X5_score
theorem dX5_unlike_0 : decode cX5_unlike 0 = .ok (.iconst 0, 1) := by decide +kernel
theorem dX5_unlike_1 : decode cX5_unlike 1 = .ok (.istore_n 1, 1) := by decide +kernel
theorem dX5_unlike_2 : decode cX5_unlike 2 = .ok (.iconst 0, 1) := by decide +kernel
theorem dX5_unlike_3 : decode cX5_unlike 3 = .ok (.istore_n 2, 1) := by decide +kernel
theorem dX5_unlike_4 : decode cX5_unlike 4 = .ok (.iload_n 2, 1) := by decide +kernel
theorem dX5_unlike_5 : decode cX5_unlike 5 = .ok (.aload_n 0, 1) := by decide +kernel
theorem dX5_unlike_6 : decode cX5_unlike 6 = .ok (.getfield 7, 3) := by decide +kernel
theorem dX5_unlike_9 : decode cX5_unlike 9 = .ok (.iconst 4, 1) := by decide +kernel
theorem dX5_unlike_10 : decode cX5_unlike 10 = .ok (.iaload, 1) := by decide +kernel
theorem dX5_unlike_11 : decode cX5_unlike 11 = .ok (.if_icmp .ge 62, 3) := by decide +kernel
theorem dX5_unlike_14 : decode cX5_unlike 14 = .ok (.iconst 1, 1) := by decide +kernel
theorem dX5_unlike_15 : decode cX5_unlike 15 = .ok (.istore_n 3, 1) := by decide +kernel
theorem dX5_unlike_16 : decode cX5_unlike 16 = .ok (.iconst 0, 1) := by decide +kernel
theorem dX5_unlike_17 : decode cX5_unlike 17 = .ok (.istore 4, 2) := by decide +kernel
theorem dX5_unlike_19 : decode cX5_unlike 19 = .ok (.iload 4, 2) := by decide +kernel
theorem dX5_unlike_21 : decode cX5_unlike 21 = .ok (.iload_n 2, 1) := by decide +kernel
theorem dX5_unlike_22 : decode cX5_unlike 22 = .ok (.if_icmp .ge 33, 3) := by decide +kernel
theorem dX5_unlike_25 : decode cX5_unlike 25 = .ok (.iload_n 3, 1) := by decide +kernel
theorem dX5_unlike_26 : decode cX5_unlike 26 = .ok (.ifCond .eq 21, 3) := by decide +kernel
theorem dX5_unlike_29 : decode cX5_unlike 29 = .ok (.aload_n 0, 1) := by decide +kernel
theorem dX5_unlike_30 : decode cX5_unlike 30 = .ok (.iload 4, 2) := by decide +kernel
theorem dX5_unlike_32 : decode cX5_unlike 32 = .ok (.invokevirtual 53, 3) := by decide +kernel
theorem dX5_unlike_35 : decode cX5_unlike 35 = .ok (.aload_n 0, 1) := by decide +kernel
theorem dX5_unlike_36 : decode cX5_unlike 36 = .ok (.iload_n 2, 1) := by decide +kernel
theorem dX5_unlike_37 : decode cX5_unlike 37 = .ok (.invokevirtual 53, 3) := by decide +kernel
theorem dX5_unlike_40 : decode cX5_unlike 40 = .ok (.if_icmp .eq 7, 3) := by decide +kernel
theorem dX5_unlike_43 : decode cX5_unlike 43 = .ok (.iconst 1, 1) := by decide +kernel
theorem dX5_unlike_44 : decode cX5_unlike 44 = .ok (.goto 4, 3) := by decide +kernel
theorem dX5_unlike_47 : decode cX5_unlike 47 = .ok (.iconst 0, 1) := by decide +kernel
theorem dX5_unlike_48 : decode cX5_unlike 48 = .ok (.istore_n 3, 1) := by decide +kernel
theorem dX5_unlike_49 : decode cX5_unlike 49 = .ok (.iinc 4 1, 3) := by decide +kernel
theorem dX5_unlike_52 : decode cX5_unlike 52 = .ok (.goto (-33), 3) := by decide +kernel
theorem dX5_unlike_55 : decode cX5_unlike 55 = .ok (.iload_n 1, 1) := by decide +kernel
theorem dX5_unlike_56 : decode cX5_unlike 56 = .ok (.iload_n 3, 1) := by decide +kernel
theorem dX5_unlike_57 : decode cX5_unlike 57 = .ok (.ifCond .eq 7, 3) := by decide +kernel
theorem dX5_unlike_60 : decode cX5_unlike 60 = .ok (.iconst 1, 1) := by decide +kernel
theorem dX5_unlike_61 : decode cX5_unlike 61 = .ok (.goto 4, 3) := by decide +kernel
theorem dX5_unlike_64 : decode cX5_unlike 64 = .ok (.iconst 0, 1) := by decide +kernel
theorem dX5_unlike_65 : decode cX5_unlike 65 = .ok (.iadd, 1) := by decide +kernel
theorem dX5_unlike_66 : decode cX5_unlike 66 = .ok (.istore_n 1, 1) := by decide +kernel
theorem dX5_unlike_67 : decode cX5_unlike 67 = .ok (.iinc 2 1, 3) := by decide +kernel
theorem dX5_unlike_70 : decode cX5_unlike 70 = .ok (.goto (-66), 3) := by decide +kernel
theorem dX5_unlike_73 : decode cX5_unlike 73 = .ok (.iload_n 1, 1) := by decide +kernel
theorem dX5_unlike_74 : decode cX5_unlike 74 = .ok (.ireturn, 1) := by decide +kernel
set_option maxRecDepth 20000 in
theorem ggX5_count_X5_entries : GoodIn wsX5_count wsX5_entries := goodIn_r _ [8, 1, 9, 10, 7, 11, 50, 51, 52, 53, 54, 55, 56] (by decide +kernel) (by decide +kernel)
set_option maxRecDepth 20000 in
theorem gX5_count_X5_entries : GoodIn wsX5_count (wsV RX5 63 RX5 yX5_entries wsX5_entries) := goodIn_app (goodIn_of _ (by decide +kernel)) ggX5_count_X5_entries
set_option maxRecDepth 20000 in
theorem ggX5_count_X5_kept : GoodIn wsX5_count wsX5_kept := goodIn_r _ [15, 1, 4, 5, 6, 7, 8, 9, 10, 11, 50, 51, 52, 53, 54, 55, 56] (by decide +kernel) (by decide +kernel)
set_option maxRecDepth 20000 in
theorem gX5_count_X5_kept : GoodIn wsX5_count (wsV RX5 67 RX5 yX5_kept wsX5_kept) := goodIn_app (goodIn_of _ (by decide +kernel)) ggX5_count_X5_kept
set_option maxRecDepth 20000 in
theorem ggX5_count_X5_openRounds : GoodIn wsX5_count wsX5_openRounds := goodIn_r _ [19, 20, 21, 22, 7, 23, 1, 24, 25, 26, 50, 51, 52, 53, 54, 55, 56] (by decide +kernel) (by decide +kernel)
set_option maxRecDepth 20000 in
theorem gX5_count_X5_openRounds : GoodIn wsX5_count (wsV RX5 89 RX5 yX5_openRounds wsX5_openRounds) := goodIn_app (goodIn_of _ (by decide +kernel)) ggX5_count_X5_openRounds
set_option maxRecDepth 20000 in
theorem ggX5_count_X5_fines : GoodIn wsX5_count wsX5_fines := goodIn_r _ [30, 1, 9, 10, 7, 11, 50, 51, 52, 53, 54, 55, 56] (by decide +kernel) (by decide +kernel)
set_option maxRecDepth 20000 in
theorem gX5_count_X5_fines : GoodIn wsX5_count (wsV RX5 126 RX5 yX5_fines wsX5_fines) := goodIn_app (goodIn_of _ (by decide +kernel)) ggX5_count_X5_fines
set_option maxRecDepth 20000 in
theorem ggX5_count_X5_unlike : GoodIn wsX5_count wsX5_unlike := goodIn_r _ [34, 1, 35, 36, 37, 7, 38, 9, 10, 11, 39, 40, 41, 42, 43, 44, 45, 46, 47, 48, 49, 50, 51, 52, 53, 54, 55, 56] (by decide +kernel) (by decide +kernel)
set_option maxRecDepth 20000 in
theorem gX5_count_X5_unlike : GoodIn wsX5_count (wsV RX5 129 RX5 yX5_unlike wsX5_unlike) := goodIn_app (goodIn_of _ (by decide +kernel)) ggX5_count_X5_unlike
theorem dX5_count_0 : decode cX5_count 0 = .ok (.iload_n 1, 1) := by decide +kernel
theorem dX5_count_1 : decode cX5_count 1 = .ok (.tableswitch 167 0 14 #[75, 82, 87, 92, 102, 107, 112, 120, 142, 147, 147, 147, 147, 157, 162], 75) := by decide +kernel
theorem dX5_count_76 : decode cX5_count 76 = .ok (.aload_n 0, 1) := by decide +kernel
theorem dX5_count_77 : decode cX5_count 77 = .ok (.getfield 7, 3) := by decide +kernel
theorem dX5_count_80 : decode cX5_count 80 = .ok (.iconst 4, 1) := by decide +kernel
theorem dX5_count_81 : decode cX5_count 81 = .ok (.iaload, 1) := by decide +kernel
theorem dX5_count_82 : decode cX5_count 82 = .ok (.ireturn, 1) := by decide +kernel
theorem dX5_count_83 : decode cX5_count 83 = .ok (.aload_n 0, 1) := by decide +kernel
theorem dX5_count_84 : decode cX5_count 84 = .ok (.invokevirtual 63, 3) := by decide +kernel
theorem dX5_count_87 : decode cX5_count 87 = .ok (.ireturn, 1) := by decide +kernel
theorem dX5_count_88 : decode cX5_count 88 = .ok (.aload_n 0, 1) := by decide +kernel
theorem dX5_count_89 : decode cX5_count 89 = .ok (.invokevirtual 67, 3) := by decide +kernel
theorem dX5_count_92 : decode cX5_count 92 = .ok (.ireturn, 1) := by decide +kernel
theorem dX5_count_93 : decode cX5_count 93 = .ok (.aload_n 0, 1) := by decide +kernel
theorem dX5_count_94 : decode cX5_count 94 = .ok (.invokevirtual 63, 3) := by decide +kernel
theorem dX5_count_97 : decode cX5_count 97 = .ok (.aload_n 0, 1) := by decide +kernel
theorem dX5_count_98 : decode cX5_count 98 = .ok (.invokevirtual 67, 3) := by decide +kernel
theorem dX5_count_101 : decode cX5_count 101 = .ok (.isub, 1) := by decide +kernel
theorem dX5_count_102 : decode cX5_count 102 = .ok (.ireturn, 1) := by decide +kernel
theorem dX5_count_103 : decode cX5_count 103 = .ok (.aload_n 0, 1) := by decide +kernel
theorem dX5_count_104 : decode cX5_count 104 = .ok (.invokevirtual 89, 3) := by decide +kernel
theorem dX5_count_107 : decode cX5_count 107 = .ok (.ireturn, 1) := by decide +kernel
theorem dX5_count_108 : decode cX5_count 108 = .ok (.aload_n 0, 1) := by decide +kernel
theorem dX5_count_109 : decode cX5_count 109 = .ok (.invokevirtual 126, 3) := by decide +kernel
theorem dX5_count_112 : decode cX5_count 112 = .ok (.ireturn, 1) := by decide +kernel
theorem dX5_count_113 : decode cX5_count 113 = .ok (.aload_n 0, 1) := by decide +kernel
theorem dX5_count_114 : decode cX5_count 114 = .ok (.getfield 7, 3) := by decide +kernel
theorem dX5_count_117 : decode cX5_count 117 = .ok (.bipush 7, 2) := by decide +kernel
theorem dX5_count_119 : decode cX5_count 119 = .ok (.iaload, 1) := by decide +kernel
theorem dX5_count_120 : decode cX5_count 120 = .ok (.ireturn, 1) := by decide +kernel
theorem dX5_count_121 : decode cX5_count 121 = .ok (.aload_n 0, 1) := by decide +kernel
theorem dX5_count_122 : decode cX5_count 122 = .ok (.getfield 7, 3) := by decide +kernel
theorem dX5_count_125 : decode cX5_count 125 = .ok (.iconst 5, 1) := by decide +kernel
theorem dX5_count_126 : decode cX5_count 126 = .ok (.iaload, 1) := by decide +kernel
theorem dX5_count_127 : decode cX5_count 127 = .ok (.ifCond .ne 8, 3) := by decide +kernel
theorem dX5_count_130 : decode cX5_count 130 = .ok (.bipush (-6), 2) := by decide +kernel
theorem dX5_count_132 : decode cX5_count 132 = .ok (.goto 10, 3) := by decide +kernel
theorem dX5_count_135 : decode cX5_count 135 = .ok (.aload_n 0, 1) := by decide +kernel
theorem dX5_count_136 : decode cX5_count 136 = .ok (.getfield 7, 3) := by decide +kernel
theorem dX5_count_139 : decode cX5_count 139 = .ok (.bipush 6, 2) := by decide +kernel
theorem dX5_count_141 : decode cX5_count 141 = .ok (.iaload, 1) := by decide +kernel
theorem dX5_count_142 : decode cX5_count 142 = .ok (.ireturn, 1) := by decide +kernel
theorem dX5_count_143 : decode cX5_count 143 = .ok (.aload_n 0, 1) := by decide +kernel
theorem dX5_count_144 : decode cX5_count 144 = .ok (.invokevirtual 129, 3) := by decide +kernel
theorem dX5_count_147 : decode cX5_count 147 = .ok (.ireturn, 1) := by decide +kernel
theorem dX5_count_148 : decode cX5_count 148 = .ok (.aload_n 0, 1) := by decide +kernel
theorem dX5_count_149 : decode cX5_count 149 = .ok (.getfield 7, 3) := by decide +kernel
theorem dX5_count_152 : decode cX5_count 152 = .ok (.iload_n 1, 1) := by decide +kernel
theorem dX5_count_153 : decode cX5_count 153 = .ok (.bipush 9, 2) := by decide +kernel
theorem dX5_count_155 : decode cX5_count 155 = .ok (.isub, 1) := by decide +kernel
theorem dX5_count_156 : decode cX5_count 156 = .ok (.iaload, 1) := by decide +kernel
theorem dX5_count_157 : decode cX5_count 157 = .ok (.ireturn, 1) := by decide +kernel
theorem dX5_count_158 : decode cX5_count 158 = .ok (.aload_n 0, 1) := by decide +kernel
theorem dX5_count_159 : decode cX5_count 159 = .ok (.getfield 92, 3) := by decide +kernel
theorem dX5_count_162 : decode cX5_count 162 = .ok (.ireturn, 1) := by decide +kernel
theorem dX5_count_163 : decode cX5_count 163 = .ok (.aload_n 0, 1) := by decide +kernel
theorem dX5_count_164 : decode cX5_count 164 = .ok (.getfield 35, 3) := by decide +kernel
theorem dX5_count_167 : decode cX5_count 167 = .ok (.ireturn, 1) := by decide +kernel
theorem dX5_count_168 : decode cX5_count 168 = .ok (.bipush (-2), 2) := by decide +kernel
theorem dX5_count_170 : decode cX5_count 170 = .ok (.ireturn, 1) := by decide +kernel
set_option maxRecDepth 20000 in
theorem ggX5_bestJoker_X5_isTeam : GoodIn wsX5_bestJoker wsX5_isTeam := goodIn_r _ [7, 1, 8, 9, 6, 10, 29, 30, 31, 32, 33, 34, 35] (by decide +kernel) (by decide +kernel)
set_option maxRecDepth 20000 in
theorem gX5_bestJoker_X5_isTeam : GoodIn wsX5_bestJoker (wsV RX5 95 RX5 yX5_isTeam wsX5_isTeam) := goodIn_app (goodIn_of _ (by decide +kernel)) ggX5_bestJoker_X5_isTeam
set_option maxRecDepth 20000 in
theorem ggX5_bestJoker_X5_in : GoodIn wsX5_bestJoker wsX5_in := goodIn_r _ [10] (by decide +kernel) (by decide +kernel)
set_option maxRecDepth 20000 in
theorem gX5_bestJoker_X5_in : GoodIn wsX5_bestJoker (va_wsS RX5 27 yX5_in wsX5_in) := goodIn_app (goodIn_of _ (by decide +kernel)) ggX5_bestJoker_X5_in
set_option maxRecDepth 20000 in
theorem ggX5_bestJoker_X5_t : GoodIn wsX5_bestJoker wsX5_t := goodIn_r _ [13] (by decide +kernel) (by decide +kernel)
set_option maxRecDepth 20000 in
theorem gX5_bestJoker_X5_t : GoodIn wsX5_bestJoker (va_wsS RX5 46 yX5_t wsX5_t) := goodIn_app (goodIn_of _ (by decide +kernel)) ggX5_bestJoker_X5_t
set_option maxRecDepth 20000 in
theorem ggX5_bestJoker_X5_score : GoodIn wsX5_bestJoker wsX5_score := goodIn_r _ [17, 1, 11, 12, 6, 13, 18, 19, 20, 21, 22, 23, 24, 25, 26, 27, 28, 29, 30, 31, 32, 33, 34, 35] (by decide +kernel) (by decide +kernel)
set_option maxRecDepth 20000 in
theorem gX5_bestJoker_X5_score : GoodIn wsX5_bestJoker (wsV RX5 53 RX5 yX5_score wsX5_score) := goodIn_app (goodIn_of _ (by decide +kernel)) ggX5_bestJoker_X5_score
theorem dX5_bestJoker_0 : decode cX5_bestJoker 0 = .ok (.aload_n 0, 1) := by decide +kernel
theorem dX5_bestJoker_1 : decode cX5_bestJoker 1 = .ok (.iload_n 1, 1) := by decide +kernel
theorem dX5_bestJoker_2 : decode cX5_bestJoker 2 = .ok (.invokevirtual 95, 3) := by decide +kernel
theorem dX5_bestJoker_5 : decode cX5_bestJoker 5 = .ok (.ifCond .ne 5, 3) := by decide +kernel
theorem dX5_bestJoker_8 : decode cX5_bestJoker 8 = .ok (.iconst (-1), 1) := by decide +kernel
theorem dX5_bestJoker_9 : decode cX5_bestJoker 9 = .ok (.ireturn, 1) := by decide +kernel
theorem dX5_bestJoker_10 : decode cX5_bestJoker 10 = .ok (.iload_n 2, 1) := by decide +kernel
theorem dX5_bestJoker_11 : decode cX5_bestJoker 11 = .ok (.iconst 0, 1) := by decide +kernel
theorem dX5_bestJoker_12 : decode cX5_bestJoker 12 = .ok (.iconst 1, 1) := by decide +kernel
theorem dX5_bestJoker_13 : decode cX5_bestJoker 13 = .ok (.invokestatic 27, 3) := by decide +kernel
theorem dX5_bestJoker_16 : decode cX5_bestJoker 16 = .ok (.ifCond .ne 6, 3) := by decide +kernel
theorem dX5_bestJoker_19 : decode cX5_bestJoker 19 = .ok (.bipush (-2), 2) := by decide +kernel
theorem dX5_bestJoker_21 : decode cX5_bestJoker 21 = .ok (.ireturn, 1) := by decide +kernel
theorem dX5_bestJoker_22 : decode cX5_bestJoker 22 = .ok (.aload_n 0, 1) := by decide +kernel
theorem dX5_bestJoker_23 : decode cX5_bestJoker 23 = .ok (.getfield 7, 3) := by decide +kernel
theorem dX5_bestJoker_26 : decode cX5_bestJoker 26 = .ok (.iload_n 1, 1) := by decide +kernel
theorem dX5_bestJoker_27 : decode cX5_bestJoker 27 = .ok (.invokestatic 46, 3) := by decide +kernel
theorem dX5_bestJoker_30 : decode cX5_bestJoker 30 = .ok (.iconst 1, 1) := by decide +kernel
theorem dX5_bestJoker_31 : decode cX5_bestJoker 31 = .ok (.iadd, 1) := by decide +kernel
theorem dX5_bestJoker_32 : decode cX5_bestJoker 32 = .ok (.iaload, 1) := by decide +kernel
theorem dX5_bestJoker_33 : decode cX5_bestJoker 33 = .ok (.istore_n 3, 1) := by decide +kernel
theorem dX5_bestJoker_34 : decode cX5_bestJoker 34 = .ok (.iconst 0, 1) := by decide +kernel
theorem dX5_bestJoker_35 : decode cX5_bestJoker 35 = .ok (.istore 4, 2) := by decide +kernel
theorem dX5_bestJoker_37 : decode cX5_bestJoker 37 = .ok (.ldc 132, 2) := by decide +kernel
theorem dX5_bestJoker_39 : decode cX5_bestJoker 39 = .ok (.istore 5, 2) := by decide +kernel
theorem dX5_bestJoker_41 : decode cX5_bestJoker 41 = .ok (.iconst 0, 1) := by decide +kernel
theorem dX5_bestJoker_42 : decode cX5_bestJoker 42 = .ok (.istore 6, 2) := by decide +kernel
theorem dX5_bestJoker_44 : decode cX5_bestJoker 44 = .ok (.iload 6, 2) := by decide +kernel
theorem dX5_bestJoker_46 : decode cX5_bestJoker 46 = .ok (.bipush 8, 2) := by decide +kernel
theorem dX5_bestJoker_48 : decode cX5_bestJoker 48 = .ok (.if_icmp .ge 63, 3) := by decide +kernel
theorem dX5_bestJoker_51 : decode cX5_bestJoker 51 = .ok (.aload_n 0, 1) := by decide +kernel
theorem dX5_bestJoker_52 : decode cX5_bestJoker 52 = .ok (.getfield 7, 3) := by decide +kernel
theorem dX5_bestJoker_55 : decode cX5_bestJoker 55 = .ok (.iload_n 1, 1) := by decide +kernel
theorem dX5_bestJoker_56 : decode cX5_bestJoker 56 = .ok (.invokestatic 46, 3) := by decide +kernel
theorem dX5_bestJoker_59 : decode cX5_bestJoker 59 = .ok (.iconst 1, 1) := by decide +kernel
theorem dX5_bestJoker_60 : decode cX5_bestJoker 60 = .ok (.iadd, 1) := by decide +kernel
theorem dX5_bestJoker_61 : decode cX5_bestJoker 61 = .ok (.iload 6, 2) := by decide +kernel
theorem dX5_bestJoker_63 : decode cX5_bestJoker 63 = .ok (.iconst 1, 1) := by decide +kernel
theorem dX5_bestJoker_64 : decode cX5_bestJoker 64 = .ok (.iadd, 1) := by decide +kernel
theorem dX5_bestJoker_65 : decode cX5_bestJoker 65 = .ok (.iastore, 1) := by decide +kernel
theorem dX5_bestJoker_66 : decode cX5_bestJoker 66 = .ok (.aload_n 0, 1) := by decide +kernel
theorem dX5_bestJoker_67 : decode cX5_bestJoker 67 = .ok (.iload_n 1, 1) := by decide +kernel
theorem dX5_bestJoker_68 : decode cX5_bestJoker 68 = .ok (.invokevirtual 53, 3) := by decide +kernel
theorem dX5_bestJoker_71 : decode cX5_bestJoker 71 = .ok (.istore 7, 2) := by decide +kernel
theorem dX5_bestJoker_73 : decode cX5_bestJoker 73 = .ok (.iload 7, 2) := by decide +kernel
theorem dX5_bestJoker_75 : decode cX5_bestJoker 75 = .ok (.iload 5, 2) := by decide +kernel
theorem dX5_bestJoker_77 : decode cX5_bestJoker 77 = .ok (.if_icmp .le 8, 3) := by decide +kernel
theorem dX5_bestJoker_80 : decode cX5_bestJoker 80 = .ok (.iload 6, 2) := by decide +kernel
theorem dX5_bestJoker_82 : decode cX5_bestJoker 82 = .ok (.goto 5, 3) := by decide +kernel
theorem dX5_bestJoker_85 : decode cX5_bestJoker 85 = .ok (.iload 4, 2) := by decide +kernel
theorem dX5_bestJoker_87 : decode cX5_bestJoker 87 = .ok (.istore 4, 2) := by decide +kernel
theorem dX5_bestJoker_89 : decode cX5_bestJoker 89 = .ok (.iload 7, 2) := by decide +kernel
theorem dX5_bestJoker_91 : decode cX5_bestJoker 91 = .ok (.iload 5, 2) := by decide +kernel
theorem dX5_bestJoker_93 : decode cX5_bestJoker 93 = .ok (.if_icmp .le 8, 3) := by decide +kernel
theorem dX5_bestJoker_96 : decode cX5_bestJoker 96 = .ok (.iload 7, 2) := by decide +kernel
theorem dX5_bestJoker_98 : decode cX5_bestJoker 98 = .ok (.goto 5, 3) := by decide +kernel
theorem dX5_bestJoker_101 : decode cX5_bestJoker 101 = .ok (.iload 5, 2) := by decide +kernel
theorem dX5_bestJoker_103 : decode cX5_bestJoker 103 = .ok (.istore 5, 2) := by decide +kernel
theorem dX5_bestJoker_105 : decode cX5_bestJoker 105 = .ok (.iinc 6 1, 3) := by decide +kernel
theorem dX5_bestJoker_108 : decode cX5_bestJoker 108 = .ok (.goto (-64), 3) := by decide +kernel
theorem dX5_bestJoker_111 : decode cX5_bestJoker 111 = .ok (.aload_n 0, 1) := by decide +kernel
theorem dX5_bestJoker_112 : decode cX5_bestJoker 112 = .ok (.getfield 7, 3) := by decide +kernel
theorem dX5_bestJoker_115 : decode cX5_bestJoker 115 = .ok (.iload_n 1, 1) := by decide +kernel
theorem dX5_bestJoker_116 : decode cX5_bestJoker 116 = .ok (.invokestatic 46, 3) := by decide +kernel
theorem dX5_bestJoker_119 : decode cX5_bestJoker 119 = .ok (.iconst 1, 1) := by decide +kernel
theorem dX5_bestJoker_120 : decode cX5_bestJoker 120 = .ok (.iadd, 1) := by decide +kernel
theorem dX5_bestJoker_121 : decode cX5_bestJoker 121 = .ok (.iload_n 3, 1) := by decide +kernel
theorem dX5_bestJoker_122 : decode cX5_bestJoker 122 = .ok (.iastore, 1) := by decide +kernel
theorem dX5_bestJoker_123 : decode cX5_bestJoker 123 = .ok (.iload_n 2, 1) := by decide +kernel
theorem dX5_bestJoker_124 : decode cX5_bestJoker 124 = .ok (.ifCond .ne 8, 3) := by decide +kernel
theorem dX5_bestJoker_127 : decode cX5_bestJoker 127 = .ok (.iload 4, 2) := by decide +kernel
theorem dX5_bestJoker_129 : decode cX5_bestJoker 129 = .ok (.goto 9, 3) := by decide +kernel
theorem dX5_bestJoker_132 : decode cX5_bestJoker 132 = .ok (.iload 5, 2) := by decide +kernel
theorem dX5_bestJoker_134 : decode cX5_bestJoker 134 = .ok (.sipush 1000, 3) := by decide +kernel
theorem dX5_bestJoker_137 : decode cX5_bestJoker 137 = .ok (.iadd, 1) := by decide +kernel
theorem dX5_bestJoker_138 : decode cX5_bestJoker 138 = .ok (.ireturn, 1) := by decide +kernel
set_option maxRecDepth 20000 in
theorem ggX5_reaches_X5_score : GoodIn wsX5_reaches wsX5_score := goodIn_r _ [6, 1, 7, 8, 5, 9, 10, 11, 12, 13, 14, 15, 16, 17, 18, 19, 20, 28, 29, 30, 31, 32, 33, 34] (by decide +kernel) (by decide +kernel)
set_option maxRecDepth 20000 in
theorem gX5_reaches_X5_score : GoodIn wsX5_reaches (wsV RX5 53 RX5 yX5_score wsX5_score) := goodIn_app (goodIn_of _ (by decide +kernel)) ggX5_reaches_X5_score
set_option maxRecDepth 20000 in
theorem ggX5_reaches_X5_h : GoodIn wsX5_reaches wsX5_h := goodIn_r _ [20] (by decide +kernel) (by decide +kernel)
set_option maxRecDepth 20000 in
theorem gX5_reaches_X5_h : GoodIn wsX5_reaches (va_wsS RX5 39 yX5_h wsX5_h) := goodIn_app (goodIn_of _ (by decide +kernel)) ggX5_reaches_X5_h
set_option maxRecDepth 20000 in
theorem ggX5_reaches_X5_isOpen : GoodIn wsX5_reaches wsX5_isOpen := goodIn_r _ [24, 1, 25, 26, 5, 27, 28, 29, 30, 31, 32, 33, 34] (by decide +kernel) (by decide +kernel)
set_option maxRecDepth 20000 in
theorem gX5_reaches_X5_isOpen : GoodIn wsX5_reaches (wsV RX5 85 RX5 yX5_isOpen wsX5_isOpen) := goodIn_app (goodIn_of _ (by decide +kernel)) ggX5_reaches_X5_isOpen
set_option maxRecDepth 20000 in
theorem ggX5_reaches_X5_t : GoodIn wsX5_reaches wsX5_t := goodIn_r _ [9] (by decide +kernel) (by decide +kernel)
set_option maxRecDepth 20000 in
theorem gX5_reaches_X5_t : GoodIn wsX5_reaches (va_wsS RX5 46 yX5_t wsX5_t) := goodIn_app (goodIn_of _ (by decide +kernel)) ggX5_reaches_X5_t
theorem dX5_reaches_0 : decode cX5_reaches 0 = .ok (.aload_n 0, 1) := by decide +kernel
theorem dX5_reaches_1 : decode cX5_reaches 1 = .ok (.iload_n 1, 1) := by decide +kernel
theorem dX5_reaches_2 : decode cX5_reaches 2 = .ok (.invokevirtual 53, 3) := by decide +kernel
theorem dX5_reaches_5 : decode cX5_reaches 5 = .ok (.istore_n 2, 1) := by decide +kernel
theorem dX5_reaches_6 : decode cX5_reaches 6 = .ok (.iconst 0, 1) := by decide +kernel
theorem dX5_reaches_7 : decode cX5_reaches 7 = .ok (.istore_n 3, 1) := by decide +kernel
theorem dX5_reaches_8 : decode cX5_reaches 8 = .ok (.iconst 0, 1) := by decide +kernel
theorem dX5_reaches_9 : decode cX5_reaches 9 = .ok (.istore 4, 2) := by decide +kernel
theorem dX5_reaches_11 : decode cX5_reaches 11 = .ok (.iload 4, 2) := by decide +kernel
theorem dX5_reaches_13 : decode cX5_reaches 13 = .ok (.bipush 8, 2) := by decide +kernel
theorem dX5_reaches_15 : decode cX5_reaches 15 = .ok (.if_icmp .ge 134, 3) := by decide +kernel
theorem dX5_reaches_18 : decode cX5_reaches 18 = .ok (.iload_n 1, 1) := by decide +kernel
theorem dX5_reaches_19 : decode cX5_reaches 19 = .ok (.iload 4, 2) := by decide +kernel
theorem dX5_reaches_21 : decode cX5_reaches 21 = .ok (.invokestatic 39, 3) := by decide +kernel
theorem dX5_reaches_24 : decode cX5_reaches 24 = .ok (.istore 5, 2) := by decide +kernel
theorem dX5_reaches_26 : decode cX5_reaches 26 = .ok (.aload_n 0, 1) := by decide +kernel
theorem dX5_reaches_27 : decode cX5_reaches 27 = .ok (.getfield 7, 3) := by decide +kernel
theorem dX5_reaches_30 : decode cX5_reaches 30 = .ok (.iload 5, 2) := by decide +kernel
theorem dX5_reaches_32 : decode cX5_reaches 32 = .ok (.iconst 0, 1) := by decide +kernel
theorem dX5_reaches_33 : decode cX5_reaches 33 = .ok (.iadd, 1) := by decide +kernel
theorem dX5_reaches_34 : decode cX5_reaches 34 = .ok (.iaload, 1) := by decide +kernel
theorem dX5_reaches_35 : decode cX5_reaches 35 = .ok (.ifCond .ne 16, 3) := by decide +kernel
theorem dX5_reaches_38 : decode cX5_reaches 38 = .ok (.aload_n 0, 1) := by decide +kernel
theorem dX5_reaches_39 : decode cX5_reaches 39 = .ok (.iload 4, 2) := by decide +kernel
theorem dX5_reaches_41 : decode cX5_reaches 41 = .ok (.invokevirtual 85, 3) := by decide +kernel
theorem dX5_reaches_44 : decode cX5_reaches 44 = .ok (.ifCond .eq 7, 3) := by decide +kernel
theorem dX5_reaches_47 : decode cX5_reaches 47 = .ok (.iconst 1, 1) := by decide +kernel
theorem dX5_reaches_48 : decode cX5_reaches 48 = .ok (.goto 4, 3) := by decide +kernel
theorem dX5_reaches_51 : decode cX5_reaches 51 = .ok (.iconst 0, 1) := by decide +kernel
theorem dX5_reaches_52 : decode cX5_reaches 52 = .ok (.istore 6, 2) := by decide +kernel
theorem dX5_reaches_54 : decode cX5_reaches 54 = .ok (.iload 6, 2) := by decide +kernel
theorem dX5_reaches_56 : decode cX5_reaches 56 = .ok (.ifCond .ne 28, 3) := by decide +kernel
theorem dX5_reaches_59 : decode cX5_reaches 59 = .ok (.aload_n 0, 1) := by decide +kernel
theorem dX5_reaches_60 : decode cX5_reaches 60 = .ok (.getfield 7, 3) := by decide +kernel
theorem dX5_reaches_63 : decode cX5_reaches 63 = .ok (.iload 5, 2) := by decide +kernel
theorem dX5_reaches_65 : decode cX5_reaches 65 = .ok (.iconst 0, 1) := by decide +kernel
theorem dX5_reaches_66 : decode cX5_reaches 66 = .ok (.iadd, 1) := by decide +kernel
theorem dX5_reaches_67 : decode cX5_reaches 67 = .ok (.iaload, 1) := by decide +kernel
theorem dX5_reaches_68 : decode cX5_reaches 68 = .ok (.iconst 1, 1) := by decide +kernel
theorem dX5_reaches_69 : decode cX5_reaches 69 = .ok (.if_icmp .ne 19, 3) := by decide +kernel
theorem dX5_reaches_72 : decode cX5_reaches 72 = .ok (.aload_n 0, 1) := by decide +kernel
theorem dX5_reaches_73 : decode cX5_reaches 73 = .ok (.getfield 7, 3) := by decide +kernel
theorem dX5_reaches_76 : decode cX5_reaches 76 = .ok (.iload 5, 2) := by decide +kernel
theorem dX5_reaches_78 : decode cX5_reaches 78 = .ok (.iconst 1, 1) := by decide +kernel
theorem dX5_reaches_79 : decode cX5_reaches 79 = .ok (.iadd, 1) := by decide +kernel
theorem dX5_reaches_80 : decode cX5_reaches 80 = .ok (.iaload, 1) := by decide +kernel
theorem dX5_reaches_81 : decode cX5_reaches 81 = .ok (.ifCond .ne 7, 3) := by decide +kernel
theorem dX5_reaches_84 : decode cX5_reaches 84 = .ok (.iconst 1, 1) := by decide +kernel
theorem dX5_reaches_85 : decode cX5_reaches 85 = .ok (.goto 4, 3) := by decide +kernel
theorem dX5_reaches_88 : decode cX5_reaches 88 = .ok (.iconst 0, 1) := by decide +kernel
theorem dX5_reaches_89 : decode cX5_reaches 89 = .ok (.istore 7, 2) := by decide +kernel
theorem dX5_reaches_91 : decode cX5_reaches 91 = .ok (.iload_n 2, 1) := by decide +kernel
theorem dX5_reaches_92 : decode cX5_reaches 92 = .ok (.iload 7, 2) := by decide +kernel
theorem dX5_reaches_94 : decode cX5_reaches 94 = .ok (.ifCond .ne 7, 3) := by decide +kernel
theorem dX5_reaches_97 : decode cX5_reaches 97 = .ok (.iconst 0, 1) := by decide +kernel
theorem dX5_reaches_98 : decode cX5_reaches 98 = .ok (.goto 28, 3) := by decide +kernel
theorem dX5_reaches_101 : decode cX5_reaches 101 = .ok (.aload_n 0, 1) := by decide +kernel
theorem dX5_reaches_102 : decode cX5_reaches 102 = .ok (.getfield 7, 3) := by decide +kernel
theorem dX5_reaches_105 : decode cX5_reaches 105 = .ok (.iload_n 1, 1) := by decide +kernel
theorem dX5_reaches_106 : decode cX5_reaches 106 = .ok (.invokestatic 46, 3) := by decide +kernel
theorem dX5_reaches_109 : decode cX5_reaches 109 = .ok (.iconst 1, 1) := by decide +kernel
theorem dX5_reaches_110 : decode cX5_reaches 110 = .ok (.iadd, 1) := by decide +kernel
theorem dX5_reaches_111 : decode cX5_reaches 111 = .ok (.iaload, 1) := by decide +kernel
theorem dX5_reaches_112 : decode cX5_reaches 112 = .ok (.iload 4, 2) := by decide +kernel
theorem dX5_reaches_114 : decode cX5_reaches 114 = .ok (.iconst 1, 1) := by decide +kernel
theorem dX5_reaches_115 : decode cX5_reaches 115 = .ok (.iadd, 1) := by decide +kernel
theorem dX5_reaches_116 : decode cX5_reaches 116 = .ok (.if_icmp .ne 8, 3) := by decide +kernel
theorem dX5_reaches_119 : decode cX5_reaches 119 = .ok (.bipush 20, 2) := by decide +kernel
theorem dX5_reaches_121 : decode cX5_reaches 121 = .ok (.goto 5, 3) := by decide +kernel
theorem dX5_reaches_124 : decode cX5_reaches 124 = .ok (.bipush 10, 2) := by decide +kernel
theorem dX5_reaches_126 : decode cX5_reaches 126 = .ok (.iadd, 1) := by decide +kernel
theorem dX5_reaches_127 : decode cX5_reaches 127 = .ok (.istore_n 2, 1) := by decide +kernel
theorem dX5_reaches_128 : decode cX5_reaches 128 = .ok (.iload_n 3, 1) := by decide +kernel
theorem dX5_reaches_129 : decode cX5_reaches 129 = .ok (.ifCond .ne 8, 3) := by decide +kernel
theorem dX5_reaches_132 : decode cX5_reaches 132 = .ok (.iload 6, 2) := by decide +kernel
theorem dX5_reaches_134 : decode cX5_reaches 134 = .ok (.ifCond .eq 7, 3) := by decide +kernel
theorem dX5_reaches_137 : decode cX5_reaches 137 = .ok (.iconst 1, 1) := by decide +kernel
theorem dX5_reaches_138 : decode cX5_reaches 138 = .ok (.goto 4, 3) := by decide +kernel
theorem dX5_reaches_141 : decode cX5_reaches 141 = .ok (.iconst 0, 1) := by decide +kernel
theorem dX5_reaches_142 : decode cX5_reaches 142 = .ok (.istore_n 3, 1) := by decide +kernel
theorem dX5_reaches_143 : decode cX5_reaches 143 = .ok (.iinc 4 1, 3) := by decide +kernel
theorem dX5_reaches_146 : decode cX5_reaches 146 = .ok (.goto (-135), 3) := by decide +kernel
theorem dX5_reaches_149 : decode cX5_reaches 149 = .ok (.iload_n 2, 1) := by decide +kernel
theorem dX5_reaches_150 : decode cX5_reaches 150 = .ok (.iload_n 3, 1) := by decide +kernel
theorem dX5_reaches_151 : decode cX5_reaches 151 = .ok (.ifCond .eq 22, 3) := by decide +kernel
theorem dX5_reaches_154 : decode cX5_reaches 154 = .ok (.aload_n 0, 1) := by decide +kernel
theorem dX5_reaches_155 : decode cX5_reaches 155 = .ok (.getfield 7, 3) := by decide +kernel
theorem dX5_reaches_158 : decode cX5_reaches 158 = .ok (.iload_n 1, 1) := by decide +kernel
theorem dX5_reaches_159 : decode cX5_reaches 159 = .ok (.invokestatic 46, 3) := by decide +kernel
theorem dX5_reaches_162 : decode cX5_reaches 162 = .ok (.iconst 1, 1) := by decide +kernel
theorem dX5_reaches_163 : decode cX5_reaches 163 = .ok (.iadd, 1) := by decide +kernel
theorem dX5_reaches_164 : decode cX5_reaches 164 = .ok (.iaload, 1) := by decide +kernel
theorem dX5_reaches_165 : decode cX5_reaches 165 = .ok (.ifCond .ne 8, 3) := by decide +kernel
theorem dX5_reaches_168 : decode cX5_reaches 168 = .ok (.bipush 10, 2) := by decide +kernel
theorem dX5_reaches_170 : decode cX5_reaches 170 = .ok (.goto 4, 3) := by decide +kernel
theorem dX5_reaches_173 : decode cX5_reaches 173 = .ok (.iconst 0, 1) := by decide +kernel
theorem dX5_reaches_174 : decode cX5_reaches 174 = .ok (.iadd, 1) := by decide +kernel
theorem dX5_reaches_175 : decode cX5_reaches 175 = .ok (.ireturn, 1) := by decide +kernel
set_option maxRecDepth 20000 in
theorem ggX5_most_X5_isTeam : GoodIn wsX5_most wsX5_isTeam := goodIn_r _ [5, 6, 7, 8, 4, 9, 39, 40, 41, 42, 43, 44, 45] (by decide +kernel) (by decide +kernel)
set_option maxRecDepth 20000 in
theorem gX5_most_X5_isTeam : GoodIn wsX5_most (wsV RX5 95 RX5 yX5_isTeam wsX5_isTeam) := goodIn_app (goodIn_of _ (by decide +kernel)) ggX5_most_X5_isTeam
set_option maxRecDepth 20000 in
theorem ggX5_most_X5_reaches : GoodIn wsX5_most wsX5_reaches := goodIn_r _ [13, 6, 14, 15, 16, 4, 17, 18, 19, 20, 21, 22, 23, 24, 25, 26, 27, 28, 29, 30, 31, 32, 33, 34, 35, 36, 37, 38, 39, 40, 41, 42, 43, 44, 45] (by decide +kernel) (by decide +kernel)
set_option maxRecDepth 20000 in
theorem gX5_most_X5_reaches : GoodIn wsX5_most (wsV RX5 133 RX5 yX5_reaches wsX5_reaches) := goodIn_app (goodIn_of _ (by decide +kernel)) ggX5_most_X5_reaches
theorem dX5_most_0 : decode cX5_most 0 = .ok (.aload_n 0, 1) := by decide +kernel
theorem dX5_most_1 : decode cX5_most 1 = .ok (.iload_n 1, 1) := by decide +kernel
theorem dX5_most_2 : decode cX5_most 2 = .ok (.invokevirtual 95, 3) := by decide +kernel
theorem dX5_most_5 : decode cX5_most 5 = .ok (.ifCond .eq 15, 3) := by decide +kernel
theorem dX5_most_8 : decode cX5_most 8 = .ok (.aload_n 0, 1) := by decide +kernel
theorem dX5_most_9 : decode cX5_most 9 = .ok (.iload_n 1, 1) := by decide +kernel
theorem dX5_most_10 : decode cX5_most 10 = .ok (.invokevirtual 133, 3) := by decide +kernel
theorem dX5_most_13 : decode cX5_most 13 = .ok (.sipush 1000, 3) := by decide +kernel
theorem dX5_most_16 : decode cX5_most 16 = .ok (.iadd, 1) := by decide +kernel
theorem dX5_most_17 : decode cX5_most 17 = .ok (.goto 4, 3) := by decide +kernel
theorem dX5_most_20 : decode cX5_most 20 = .ok (.iconst (-1), 1) := by decide +kernel
theorem dX5_most_21 : decode cX5_most 21 = .ok (.ireturn, 1) := by decide +kernel
set_option maxRecDepth 20000 in
theorem ggX5_canWin_X5_reaches : GoodIn wsX5_canWin wsX5_reaches := goodIn_r _ [6, 1, 7, 8, 9, 5, 10, 11, 12, 13, 14, 15, 16, 17, 18, 19, 20, 21, 22, 23, 24, 25, 26, 27, 28, 29, 30, 31, 32, 33, 34, 35, 36, 37, 38] (by decide +kernel) (by decide +kernel)
set_option maxRecDepth 20000 in
theorem gX5_canWin_X5_reaches : GoodIn wsX5_canWin (wsV RX5 133 RX5 yX5_reaches wsX5_reaches) := goodIn_app (goodIn_of _ (by decide +kernel)) ggX5_canWin_X5_reaches
set_option maxRecDepth 20000 in
theorem ggX5_canWin_X5_score : GoodIn wsX5_canWin wsX5_score := goodIn_r _ [10, 1, 11, 12, 5, 13, 14, 15, 16, 17, 18, 19, 20, 21, 22, 23, 24, 32, 33, 34, 35, 36, 37, 38] (by decide +kernel) (by decide +kernel)
set_option maxRecDepth 20000 in
theorem gX5_canWin_X5_score : GoodIn wsX5_canWin (wsV RX5 53 RX5 yX5_score wsX5_score) := goodIn_app (goodIn_of _ (by decide +kernel)) ggX5_canWin_X5_score
theorem dX5_canWin_0 : decode cX5_canWin 0 = .ok (.iconst 0, 1) := by decide +kernel
theorem dX5_canWin_1 : decode cX5_canWin 1 = .ok (.istore_n 1, 1) := by decide +kernel
theorem dX5_canWin_2 : decode cX5_canWin 2 = .ok (.iconst 0, 1) := by decide +kernel
theorem dX5_canWin_3 : decode cX5_canWin 3 = .ok (.istore_n 2, 1) := by decide +kernel
theorem dX5_canWin_4 : decode cX5_canWin 4 = .ok (.iload_n 2, 1) := by decide +kernel
theorem dX5_canWin_5 : decode cX5_canWin 5 = .ok (.aload_n 0, 1) := by decide +kernel
theorem dX5_canWin_6 : decode cX5_canWin 6 = .ok (.getfield 7, 3) := by decide +kernel
theorem dX5_canWin_9 : decode cX5_canWin 9 = .ok (.iconst 4, 1) := by decide +kernel
theorem dX5_canWin_10 : decode cX5_canWin 10 = .ok (.iaload, 1) := by decide +kernel
theorem dX5_canWin_11 : decode cX5_canWin 11 = .ok (.if_icmp .ge 75, 3) := by decide +kernel
theorem dX5_canWin_14 : decode cX5_canWin 14 = .ok (.iconst 1, 1) := by decide +kernel
theorem dX5_canWin_15 : decode cX5_canWin 15 = .ok (.istore_n 3, 1) := by decide +kernel
theorem dX5_canWin_16 : decode cX5_canWin 16 = .ok (.iconst 0, 1) := by decide +kernel
theorem dX5_canWin_17 : decode cX5_canWin 17 = .ok (.istore 4, 2) := by decide +kernel
theorem dX5_canWin_19 : decode cX5_canWin 19 = .ok (.iload 4, 2) := by decide +kernel
theorem dX5_canWin_21 : decode cX5_canWin 21 = .ok (.aload_n 0, 1) := by decide +kernel
theorem dX5_canWin_22 : decode cX5_canWin 22 = .ok (.getfield 7, 3) := by decide +kernel
theorem dX5_canWin_25 : decode cX5_canWin 25 = .ok (.iconst 4, 1) := by decide +kernel
theorem dX5_canWin_26 : decode cX5_canWin 26 = .ok (.iaload, 1) := by decide +kernel
theorem dX5_canWin_27 : decode cX5_canWin 27 = .ok (.if_icmp .ge 39, 3) := by decide +kernel
theorem dX5_canWin_30 : decode cX5_canWin 30 = .ok (.iload_n 3, 1) := by decide +kernel
theorem dX5_canWin_31 : decode cX5_canWin 31 = .ok (.ifCond .eq 27, 3) := by decide +kernel
theorem dX5_canWin_34 : decode cX5_canWin 34 = .ok (.iload 4, 2) := by decide +kernel
theorem dX5_canWin_36 : decode cX5_canWin 36 = .ok (.iload_n 2, 1) := by decide +kernel
theorem dX5_canWin_37 : decode cX5_canWin 37 = .ok (.if_icmp .eq 17, 3) := by decide +kernel
theorem dX5_canWin_40 : decode cX5_canWin 40 = .ok (.aload_n 0, 1) := by decide +kernel
theorem dX5_canWin_41 : decode cX5_canWin 41 = .ok (.iload_n 2, 1) := by decide +kernel
theorem dX5_canWin_42 : decode cX5_canWin 42 = .ok (.invokevirtual 133, 3) := by decide +kernel
theorem dX5_canWin_45 : decode cX5_canWin 45 = .ok (.aload_n 0, 1) := by decide +kernel
theorem dX5_canWin_46 : decode cX5_canWin 46 = .ok (.iload 4, 2) := by decide +kernel
theorem dX5_canWin_48 : decode cX5_canWin 48 = .ok (.invokevirtual 53, 3) := by decide +kernel
theorem dX5_canWin_51 : decode cX5_canWin 51 = .ok (.if_icmp .lt 7, 3) := by decide +kernel
theorem dX5_canWin_54 : decode cX5_canWin 54 = .ok (.iconst 1, 1) := by decide +kernel
theorem dX5_canWin_55 : decode cX5_canWin 55 = .ok (.goto 4, 3) := by decide +kernel
theorem dX5_canWin_58 : decode cX5_canWin 58 = .ok (.iconst 0, 1) := by decide +kernel
theorem dX5_canWin_59 : decode cX5_canWin 59 = .ok (.istore_n 3, 1) := by decide +kernel
theorem dX5_canWin_60 : decode cX5_canWin 60 = .ok (.iinc 4 1, 3) := by decide +kernel
theorem dX5_canWin_63 : decode cX5_canWin 63 = .ok (.goto (-44), 3) := by decide +kernel
theorem dX5_canWin_66 : decode cX5_canWin 66 = .ok (.iload_n 1, 1) := by decide +kernel
theorem dX5_canWin_67 : decode cX5_canWin 67 = .ok (.iload_n 3, 1) := by decide +kernel
theorem dX5_canWin_68 : decode cX5_canWin 68 = .ok (.ifCond .eq 9, 3) := by decide +kernel
theorem dX5_canWin_71 : decode cX5_canWin 71 = .ok (.iconst 1, 1) := by decide +kernel
theorem dX5_canWin_72 : decode cX5_canWin 72 = .ok (.iload_n 2, 1) := by decide +kernel
theorem dX5_canWin_73 : decode cX5_canWin 73 = .ok (.ishl, 1) := by decide +kernel
theorem dX5_canWin_74 : decode cX5_canWin 74 = .ok (.goto 4, 3) := by decide +kernel
theorem dX5_canWin_77 : decode cX5_canWin 77 = .ok (.iconst 0, 1) := by decide +kernel
theorem dX5_canWin_78 : decode cX5_canWin 78 = .ok (.ior, 1) := by decide +kernel
theorem dX5_canWin_79 : decode cX5_canWin 79 = .ok (.istore_n 1, 1) := by decide +kernel
theorem dX5_canWin_80 : decode cX5_canWin 80 = .ok (.iinc 2 1, 3) := by decide +kernel
theorem dX5_canWin_83 : decode cX5_canWin 83 = .ok (.goto (-79), 3) := by decide +kernel
theorem dX5_canWin_86 : decode cX5_canWin 86 = .ok (.iload_n 1, 1) := by decide +kernel
theorem dX5_canWin_87 : decode cX5_canWin 87 = .ok (.ireturn, 1) := by decide +kernel
set_option maxRecDepth 20000 in
theorem ggX5_isWrong_X5_h : GoodIn wsX5_isWrong wsX5_h := goodIn_r _ [5] (by decide +kernel) (by decide +kernel)
set_option maxRecDepth 20000 in
theorem gX5_isWrong_X5_h : GoodIn wsX5_isWrong (va_wsS RX5 39 yX5_h wsX5_h) := goodIn_app (goodIn_of _ (by decide +kernel)) ggX5_isWrong_X5_h
set_option maxRecDepth 20000 in
theorem ggX5_isWrong_X5_trueMark : GoodIn wsX5_isWrong wsX5_trueMark := goodIn_r _ [9, 1, 2, 3, 4, 5, 10, 11, 12, 13, 14, 15, 16, 17, 18, 19] (by decide +kernel) (by decide +kernel)
set_option maxRecDepth 20000 in
theorem gX5_isWrong_X5_trueMark : GoodIn wsX5_isWrong (wsV RX5 108 RX5 yX5_trueMark wsX5_trueMark) := goodIn_app (goodIn_of _ (by decide +kernel)) ggX5_isWrong_X5_trueMark
theorem dX5_isWrong_0 : decode cX5_isWrong 0 = .ok (.iload_n 1, 1) := by decide +kernel
theorem dX5_isWrong_1 : decode cX5_isWrong 1 = .ok (.iload_n 2, 1) := by decide +kernel
theorem dX5_isWrong_2 : decode cX5_isWrong 2 = .ok (.invokestatic 39, 3) := by decide +kernel
theorem dX5_isWrong_5 : decode cX5_isWrong 5 = .ok (.istore_n 3, 1) := by decide +kernel
theorem dX5_isWrong_6 : decode cX5_isWrong 6 = .ok (.aload_n 0, 1) := by decide +kernel
theorem dX5_isWrong_7 : decode cX5_isWrong 7 = .ok (.getfield 7, 3) := by decide +kernel
theorem dX5_isWrong_10 : decode cX5_isWrong 10 = .ok (.iload_n 3, 1) := by decide +kernel
theorem dX5_isWrong_11 : decode cX5_isWrong 11 = .ok (.iconst 1, 1) := by decide +kernel
theorem dX5_isWrong_12 : decode cX5_isWrong 12 = .ok (.iadd, 1) := by decide +kernel
theorem dX5_isWrong_13 : decode cX5_isWrong 13 = .ok (.iaload, 1) := by decide +kernel
theorem dX5_isWrong_14 : decode cX5_isWrong 14 = .ok (.iconst 1, 1) := by decide +kernel
theorem dX5_isWrong_15 : decode cX5_isWrong 15 = .ok (.if_icmp .ne 35, 3) := by decide +kernel
theorem dX5_isWrong_18 : decode cX5_isWrong 18 = .ok (.aload_n 0, 1) := by decide +kernel
theorem dX5_isWrong_19 : decode cX5_isWrong 19 = .ok (.getfield 7, 3) := by decide +kernel
theorem dX5_isWrong_22 : decode cX5_isWrong 22 = .ok (.iload_n 3, 1) := by decide +kernel
theorem dX5_isWrong_23 : decode cX5_isWrong 23 = .ok (.iconst 4, 1) := by decide +kernel
theorem dX5_isWrong_24 : decode cX5_isWrong 24 = .ok (.iadd, 1) := by decide +kernel
theorem dX5_isWrong_25 : decode cX5_isWrong 25 = .ok (.iaload, 1) := by decide +kernel
theorem dX5_isWrong_26 : decode cX5_isWrong 26 = .ok (.ifCond .ne 24, 3) := by decide +kernel
theorem dX5_isWrong_29 : decode cX5_isWrong 29 = .ok (.aload_n 0, 1) := by decide +kernel
theorem dX5_isWrong_30 : decode cX5_isWrong 30 = .ok (.getfield 7, 3) := by decide +kernel
theorem dX5_isWrong_33 : decode cX5_isWrong 33 = .ok (.iload_n 3, 1) := by decide +kernel
theorem dX5_isWrong_34 : decode cX5_isWrong 34 = .ok (.iconst 2, 1) := by decide +kernel
theorem dX5_isWrong_35 : decode cX5_isWrong 35 = .ok (.iadd, 1) := by decide +kernel
theorem dX5_isWrong_36 : decode cX5_isWrong 36 = .ok (.iaload, 1) := by decide +kernel
theorem dX5_isWrong_37 : decode cX5_isWrong 37 = .ok (.aload_n 0, 1) := by decide +kernel
theorem dX5_isWrong_38 : decode cX5_isWrong 38 = .ok (.iload_n 1, 1) := by decide +kernel
theorem dX5_isWrong_39 : decode cX5_isWrong 39 = .ok (.iload_n 2, 1) := by decide +kernel
theorem dX5_isWrong_40 : decode cX5_isWrong 40 = .ok (.invokevirtual 108, 3) := by decide +kernel
theorem dX5_isWrong_43 : decode cX5_isWrong 43 = .ok (.if_icmp .eq 7, 3) := by decide +kernel
theorem dX5_isWrong_46 : decode cX5_isWrong 46 = .ok (.iconst 1, 1) := by decide +kernel
theorem dX5_isWrong_47 : decode cX5_isWrong 47 = .ok (.goto 4, 3) := by decide +kernel
theorem dX5_isWrong_50 : decode cX5_isWrong 50 = .ok (.iconst 0, 1) := by decide +kernel
theorem dX5_isWrong_51 : decode cX5_isWrong 51 = .ok (.ireturn, 1) := by decide +kernel
set_option maxRecDepth 20000 in
theorem ggX5_ifLooked_X5_isTeam : GoodIn wsX5_ifLooked wsX5_isTeam := goodIn_r _ [6, 1, 7, 8, 5, 9, 39, 40, 41, 42, 43, 44, 45] (by decide +kernel) (by decide +kernel)
set_option maxRecDepth 20000 in
theorem gX5_ifLooked_X5_isTeam : GoodIn wsX5_ifLooked (wsV RX5 95 RX5 yX5_isTeam wsX5_isTeam) := goodIn_app (goodIn_of _ (by decide +kernel)) ggX5_ifLooked_X5_isTeam
set_option maxRecDepth 20000 in
theorem ggX5_ifLooked_X5_score : GoodIn wsX5_ifLooked wsX5_score := goodIn_r _ [13, 1, 14, 15, 5, 16, 17, 18, 19, 20, 21, 22, 23, 24, 25, 26, 27, 39, 40, 41, 42, 43, 44, 45] (by decide +kernel) (by decide +kernel)
set_option maxRecDepth 20000 in
theorem gX5_ifLooked_X5_score : GoodIn wsX5_ifLooked (wsV RX5 53 RX5 yX5_score wsX5_score) := goodIn_app (goodIn_of _ (by decide +kernel)) ggX5_ifLooked_X5_score
set_option maxRecDepth 20000 in
theorem ggX5_ifLooked_X5_h : GoodIn wsX5_ifLooked wsX5_h := goodIn_r _ [27] (by decide +kernel) (by decide +kernel)
set_option maxRecDepth 20000 in
theorem gX5_ifLooked_X5_h : GoodIn wsX5_ifLooked (va_wsS RX5 39 yX5_h wsX5_h) := goodIn_app (goodIn_of _ (by decide +kernel)) ggX5_ifLooked_X5_h
set_option maxRecDepth 20000 in
theorem ggX5_ifLooked_X5_isWrong : GoodIn wsX5_ifLooked wsX5_isWrong := goodIn_r _ [31, 1, 25, 26, 5, 27, 32, 33, 34, 35, 36, 37, 38, 39, 40, 41, 42, 43, 44, 45] (by decide +kernel) (by decide +kernel)
set_option maxRecDepth 20000 in
theorem gX5_ifLooked_X5_isWrong : GoodIn wsX5_ifLooked (wsV RX5 136 RX5 yX5_isWrong wsX5_isWrong) := goodIn_app (goodIn_of _ (by decide +kernel)) ggX5_ifLooked_X5_isWrong
set_option maxRecDepth 20000 in
theorem ggX5_ifLooked_X5_t : GoodIn wsX5_ifLooked wsX5_t := goodIn_r _ [16] (by decide +kernel) (by decide +kernel)
set_option maxRecDepth 20000 in
theorem gX5_ifLooked_X5_t : GoodIn wsX5_ifLooked (va_wsS RX5 46 yX5_t wsX5_t) := goodIn_app (goodIn_of _ (by decide +kernel)) ggX5_ifLooked_X5_t
set_option maxRecDepth 20000 in
theorem ggX5_ifLooked_X5_trueMark : GoodIn wsX5_ifLooked wsX5_trueMark := goodIn_r _ [35, 1, 25, 26, 5, 27, 36, 37, 38, 39, 40, 41, 42, 43, 44, 45] (by decide +kernel) (by decide +kernel)
set_option maxRecDepth 20000 in
theorem gX5_ifLooked_X5_trueMark : GoodIn wsX5_ifLooked (wsV RX5 108 RX5 yX5_trueMark wsX5_trueMark) := goodIn_app (goodIn_of _ (by decide +kernel)) ggX5_ifLooked_X5_trueMark
theorem dX5_ifLooked_0 : decode cX5_ifLooked 0 = .ok (.aload_n 0, 1) := by decide +kernel
theorem dX5_ifLooked_1 : decode cX5_ifLooked 1 = .ok (.iload_n 1, 1) := by decide +kernel
theorem dX5_ifLooked_2 : decode cX5_ifLooked 2 = .ok (.invokevirtual 95, 3) := by decide +kernel
theorem dX5_ifLooked_5 : decode cX5_ifLooked 5 = .ok (.ifCond .ne 5, 3) := by decide +kernel
theorem dX5_ifLooked_8 : decode cX5_ifLooked 8 = .ok (.iconst (-1), 1) := by decide +kernel
theorem dX5_ifLooked_9 : decode cX5_ifLooked 9 = .ok (.ireturn, 1) := by decide +kernel
theorem dX5_ifLooked_10 : decode cX5_ifLooked 10 = .ok (.aload_n 0, 1) := by decide +kernel
theorem dX5_ifLooked_11 : decode cX5_ifLooked 11 = .ok (.iload_n 1, 1) := by decide +kernel
theorem dX5_ifLooked_12 : decode cX5_ifLooked 12 = .ok (.invokevirtual 53, 3) := by decide +kernel
theorem dX5_ifLooked_15 : decode cX5_ifLooked 15 = .ok (.istore_n 2, 1) := by decide +kernel
theorem dX5_ifLooked_16 : decode cX5_ifLooked 16 = .ok (.iconst 0, 1) := by decide +kernel
theorem dX5_ifLooked_17 : decode cX5_ifLooked 17 = .ok (.istore_n 3, 1) := by decide +kernel
theorem dX5_ifLooked_18 : decode cX5_ifLooked 18 = .ok (.iload_n 3, 1) := by decide +kernel
theorem dX5_ifLooked_19 : decode cX5_ifLooked 19 = .ok (.bipush 8, 2) := by decide +kernel
theorem dX5_ifLooked_21 : decode cX5_ifLooked 21 = .ok (.aload_n 0, 1) := by decide +kernel
theorem dX5_ifLooked_22 : decode cX5_ifLooked 22 = .ok (.getfield 7, 3) := by decide +kernel
theorem dX5_ifLooked_25 : decode cX5_ifLooked 25 = .ok (.iconst 4, 1) := by decide +kernel
theorem dX5_ifLooked_26 : decode cX5_ifLooked 26 = .ok (.iaload, 1) := by decide +kernel
theorem dX5_ifLooked_27 : decode cX5_ifLooked 27 = .ok (.imul, 1) := by decide +kernel
theorem dX5_ifLooked_28 : decode cX5_ifLooked 28 = .ok (.if_icmp .ge 127, 3) := by decide +kernel
theorem dX5_ifLooked_31 : decode cX5_ifLooked 31 = .ok (.iload_n 3, 1) := by decide +kernel
theorem dX5_ifLooked_32 : decode cX5_ifLooked 32 = .ok (.bipush 8, 2) := by decide +kernel
theorem dX5_ifLooked_34 : decode cX5_ifLooked 34 = .ok (.idiv, 1) := by decide +kernel
theorem dX5_ifLooked_35 : decode cX5_ifLooked 35 = .ok (.iload_n 3, 1) := by decide +kernel
theorem dX5_ifLooked_36 : decode cX5_ifLooked 36 = .ok (.bipush 8, 2) := by decide +kernel
theorem dX5_ifLooked_38 : decode cX5_ifLooked 38 = .ok (.irem, 1) := by decide +kernel
theorem dX5_ifLooked_39 : decode cX5_ifLooked 39 = .ok (.invokestatic 39, 3) := by decide +kernel
theorem dX5_ifLooked_42 : decode cX5_ifLooked 42 = .ok (.istore 4, 2) := by decide +kernel
theorem dX5_ifLooked_44 : decode cX5_ifLooked 44 = .ok (.aload_n 0, 1) := by decide +kernel
theorem dX5_ifLooked_45 : decode cX5_ifLooked 45 = .ok (.iload_n 3, 1) := by decide +kernel
theorem dX5_ifLooked_46 : decode cX5_ifLooked 46 = .ok (.bipush 8, 2) := by decide +kernel
theorem dX5_ifLooked_48 : decode cX5_ifLooked 48 = .ok (.idiv, 1) := by decide +kernel
theorem dX5_ifLooked_49 : decode cX5_ifLooked 49 = .ok (.iload_n 3, 1) := by decide +kernel
theorem dX5_ifLooked_50 : decode cX5_ifLooked 50 = .ok (.bipush 8, 2) := by decide +kernel
theorem dX5_ifLooked_52 : decode cX5_ifLooked 52 = .ok (.irem, 1) := by decide +kernel
theorem dX5_ifLooked_53 : decode cX5_ifLooked 53 = .ok (.invokevirtual 136, 3) := by decide +kernel
theorem dX5_ifLooked_56 : decode cX5_ifLooked 56 = .ok (.ifCond .eq 93, 3) := by decide +kernel
theorem dX5_ifLooked_59 : decode cX5_ifLooked 59 = .ok (.aload_n 0, 1) := by decide +kernel
theorem dX5_ifLooked_60 : decode cX5_ifLooked 60 = .ok (.getfield 7, 3) := by decide +kernel
theorem dX5_ifLooked_63 : decode cX5_ifLooked 63 = .ok (.iload_n 1, 1) := by decide +kernel
theorem dX5_ifLooked_64 : decode cX5_ifLooked 64 = .ok (.invokestatic 46, 3) := by decide +kernel
theorem dX5_ifLooked_67 : decode cX5_ifLooked 67 = .ok (.iconst 1, 1) := by decide +kernel
theorem dX5_ifLooked_68 : decode cX5_ifLooked 68 = .ok (.iadd, 1) := by decide +kernel
theorem dX5_ifLooked_69 : decode cX5_ifLooked 69 = .ok (.iaload, 1) := by decide +kernel
theorem dX5_ifLooked_70 : decode cX5_ifLooked 70 = .ok (.iload_n 3, 1) := by decide +kernel
theorem dX5_ifLooked_71 : decode cX5_ifLooked 71 = .ok (.bipush 8, 2) := by decide +kernel
theorem dX5_ifLooked_73 : decode cX5_ifLooked 73 = .ok (.irem, 1) := by decide +kernel
theorem dX5_ifLooked_74 : decode cX5_ifLooked 74 = .ok (.iconst 1, 1) := by decide +kernel
theorem dX5_ifLooked_75 : decode cX5_ifLooked 75 = .ok (.iadd, 1) := by decide +kernel
theorem dX5_ifLooked_76 : decode cX5_ifLooked 76 = .ok (.if_icmp .ne 7, 3) := by decide +kernel
theorem dX5_ifLooked_79 : decode cX5_ifLooked 79 = .ok (.iconst 2, 1) := by decide +kernel
theorem dX5_ifLooked_80 : decode cX5_ifLooked 80 = .ok (.goto 4, 3) := by decide +kernel
theorem dX5_ifLooked_83 : decode cX5_ifLooked 83 = .ok (.iconst 1, 1) := by decide +kernel
theorem dX5_ifLooked_84 : decode cX5_ifLooked 84 = .ok (.istore 5, 2) := by decide +kernel
theorem dX5_ifLooked_86 : decode cX5_ifLooked 86 = .ok (.iload_n 2, 1) := by decide +kernel
theorem dX5_ifLooked_87 : decode cX5_ifLooked 87 = .ok (.iload_n 3, 1) := by decide +kernel
theorem dX5_ifLooked_88 : decode cX5_ifLooked 88 = .ok (.bipush 8, 2) := by decide +kernel
theorem dX5_ifLooked_90 : decode cX5_ifLooked 90 = .ok (.idiv, 1) := by decide +kernel
theorem dX5_ifLooked_91 : decode cX5_ifLooked 91 = .ok (.iload_n 1, 1) := by decide +kernel
theorem dX5_ifLooked_92 : decode cX5_ifLooked 92 = .ok (.if_icmp .ne 28, 3) := by decide +kernel
theorem dX5_ifLooked_95 : decode cX5_ifLooked 95 = .ok (.iload 5, 2) := by decide +kernel
theorem dX5_ifLooked_97 : decode cX5_ifLooked 97 = .ok (.aload_n 0, 1) := by decide +kernel
theorem dX5_ifLooked_98 : decode cX5_ifLooked 98 = .ok (.iload_n 1, 1) := by decide +kernel
theorem dX5_ifLooked_99 : decode cX5_ifLooked 99 = .ok (.iload_n 3, 1) := by decide +kernel
theorem dX5_ifLooked_100 : decode cX5_ifLooked 100 = .ok (.bipush 8, 2) := by decide +kernel
theorem dX5_ifLooked_102 : decode cX5_ifLooked 102 = .ok (.irem, 1) := by decide +kernel
theorem dX5_ifLooked_103 : decode cX5_ifLooked 103 = .ok (.invokevirtual 108, 3) := by decide +kernel
theorem dX5_ifLooked_106 : decode cX5_ifLooked 106 = .ok (.aload_n 0, 1) := by decide +kernel
theorem dX5_ifLooked_107 : decode cX5_ifLooked 107 = .ok (.getfield 7, 3) := by decide +kernel
theorem dX5_ifLooked_110 : decode cX5_ifLooked 110 = .ok (.iload 4, 2) := by decide +kernel
theorem dX5_ifLooked_112 : decode cX5_ifLooked 112 = .ok (.iconst 2, 1) := by decide +kernel
theorem dX5_ifLooked_113 : decode cX5_ifLooked 113 = .ok (.iadd, 1) := by decide +kernel
theorem dX5_ifLooked_114 : decode cX5_ifLooked 114 = .ok (.iaload, 1) := by decide +kernel
theorem dX5_ifLooked_115 : decode cX5_ifLooked 115 = .ok (.isub, 1) := by decide +kernel
theorem dX5_ifLooked_116 : decode cX5_ifLooked 116 = .ok (.imul, 1) := by decide +kernel
theorem dX5_ifLooked_117 : decode cX5_ifLooked 117 = .ok (.goto 4, 3) := by decide +kernel
theorem dX5_ifLooked_120 : decode cX5_ifLooked 120 = .ok (.iconst 0, 1) := by decide +kernel
theorem dX5_ifLooked_121 : decode cX5_ifLooked 121 = .ok (.iadd, 1) := by decide +kernel
theorem dX5_ifLooked_122 : decode cX5_ifLooked 122 = .ok (.istore_n 2, 1) := by decide +kernel
theorem dX5_ifLooked_123 : decode cX5_ifLooked 123 = .ok (.iload_n 2, 1) := by decide +kernel
theorem dX5_ifLooked_124 : decode cX5_ifLooked 124 = .ok (.aload_n 0, 1) := by decide +kernel
theorem dX5_ifLooked_125 : decode cX5_ifLooked 125 = .ok (.getfield 7, 3) := by decide +kernel
theorem dX5_ifLooked_128 : decode cX5_ifLooked 128 = .ok (.iload 4, 2) := by decide +kernel
theorem dX5_ifLooked_130 : decode cX5_ifLooked 130 = .ok (.iconst 3, 1) := by decide +kernel
theorem dX5_ifLooked_131 : decode cX5_ifLooked 131 = .ok (.iadd, 1) := by decide +kernel
theorem dX5_ifLooked_132 : decode cX5_ifLooked 132 = .ok (.iaload, 1) := by decide +kernel
theorem dX5_ifLooked_133 : decode cX5_ifLooked 133 = .ok (.iload_n 1, 1) := by decide +kernel
theorem dX5_ifLooked_134 : decode cX5_ifLooked 134 = .ok (.if_icmp .ne 12, 3) := by decide +kernel
theorem dX5_ifLooked_137 : decode cX5_ifLooked 137 = .ok (.aload_n 0, 1) := by decide +kernel
theorem dX5_ifLooked_138 : decode cX5_ifLooked 138 = .ok (.getfield 7, 3) := by decide +kernel
theorem dX5_ifLooked_141 : decode cX5_ifLooked 141 = .ok (.iconst 3, 1) := by decide +kernel
theorem dX5_ifLooked_142 : decode cX5_ifLooked 142 = .ok (.iaload, 1) := by decide +kernel
theorem dX5_ifLooked_143 : decode cX5_ifLooked 143 = .ok (.goto 4, 3) := by decide +kernel
theorem dX5_ifLooked_146 : decode cX5_ifLooked 146 = .ok (.iconst 0, 1) := by decide +kernel
theorem dX5_ifLooked_147 : decode cX5_ifLooked 147 = .ok (.isub, 1) := by decide +kernel
theorem dX5_ifLooked_148 : decode cX5_ifLooked 148 = .ok (.istore_n 2, 1) := by decide +kernel
theorem dX5_ifLooked_149 : decode cX5_ifLooked 149 = .ok (.iinc 3 1, 3) := by decide +kernel
theorem dX5_ifLooked_152 : decode cX5_ifLooked 152 = .ok (.goto (-134), 3) := by decide +kernel
theorem dX5_ifLooked_155 : decode cX5_ifLooked 155 = .ok (.iload_n 2, 1) := by decide +kernel
theorem dX5_ifLooked_156 : decode cX5_ifLooked 156 = .ok (.sipush 1000, 3) := by decide +kernel
theorem dX5_ifLooked_159 : decode cX5_ifLooked 159 = .ok (.iadd, 1) := by decide +kernel
theorem dX5_ifLooked_160 : decode cX5_ifLooked 160 = .ok (.ireturn, 1) := by decide +kernel
set_option maxRecDepth 20000 in
theorem ggX5_wrongMarks_X5_isWrong : GoodIn wsX5_wrongMarks wsX5_isWrong := goodIn_r _ [6, 1, 7, 8, 5, 9, 10, 11, 12, 13, 14, 15, 16, 17, 18, 19, 20, 21, 22, 23] (by decide +kernel) (by decide +kernel)
set_option maxRecDepth 20000 in
theorem gX5_wrongMarks_X5_isWrong : GoodIn wsX5_wrongMarks (wsV RX5 136 RX5 yX5_isWrong wsX5_isWrong) := goodIn_app (goodIn_of _ (by decide +kernel)) ggX5_wrongMarks_X5_isWrong
theorem dX5_wrongMarks_0 : decode cX5_wrongMarks 0 = .ok (.iconst 0, 1) := by decide +kernel
theorem dX5_wrongMarks_1 : decode cX5_wrongMarks 1 = .ok (.istore_n 1, 1) := by decide +kernel
theorem dX5_wrongMarks_2 : decode cX5_wrongMarks 2 = .ok (.iconst 0, 1) := by decide +kernel
theorem dX5_wrongMarks_3 : decode cX5_wrongMarks 3 = .ok (.istore_n 2, 1) := by decide +kernel
theorem dX5_wrongMarks_4 : decode cX5_wrongMarks 4 = .ok (.iload_n 2, 1) := by decide +kernel
theorem dX5_wrongMarks_5 : decode cX5_wrongMarks 5 = .ok (.bipush 8, 2) := by decide +kernel
theorem dX5_wrongMarks_7 : decode cX5_wrongMarks 7 = .ok (.aload_n 0, 1) := by decide +kernel
theorem dX5_wrongMarks_8 : decode cX5_wrongMarks 8 = .ok (.getfield 7, 3) := by decide +kernel
theorem dX5_wrongMarks_11 : decode cX5_wrongMarks 11 = .ok (.iconst 4, 1) := by decide +kernel
theorem dX5_wrongMarks_12 : decode cX5_wrongMarks 12 = .ok (.iaload, 1) := by decide +kernel
theorem dX5_wrongMarks_13 : decode cX5_wrongMarks 13 = .ok (.imul, 1) := by decide +kernel
theorem dX5_wrongMarks_14 : decode cX5_wrongMarks 14 = .ok (.if_icmp .ge 32, 3) := by decide +kernel
theorem dX5_wrongMarks_17 : decode cX5_wrongMarks 17 = .ok (.iload_n 1, 1) := by decide +kernel
theorem dX5_wrongMarks_18 : decode cX5_wrongMarks 18 = .ok (.aload_n 0, 1) := by decide +kernel
theorem dX5_wrongMarks_19 : decode cX5_wrongMarks 19 = .ok (.iload_n 2, 1) := by decide +kernel
theorem dX5_wrongMarks_20 : decode cX5_wrongMarks 20 = .ok (.bipush 8, 2) := by decide +kernel
theorem dX5_wrongMarks_22 : decode cX5_wrongMarks 22 = .ok (.idiv, 1) := by decide +kernel
theorem dX5_wrongMarks_23 : decode cX5_wrongMarks 23 = .ok (.iload_n 2, 1) := by decide +kernel
theorem dX5_wrongMarks_24 : decode cX5_wrongMarks 24 = .ok (.bipush 8, 2) := by decide +kernel
theorem dX5_wrongMarks_26 : decode cX5_wrongMarks 26 = .ok (.irem, 1) := by decide +kernel
theorem dX5_wrongMarks_27 : decode cX5_wrongMarks 27 = .ok (.invokevirtual 136, 3) := by decide +kernel
theorem dX5_wrongMarks_30 : decode cX5_wrongMarks 30 = .ok (.ifCond .eq 7, 3) := by decide +kernel
theorem dX5_wrongMarks_33 : decode cX5_wrongMarks 33 = .ok (.iconst 1, 1) := by decide +kernel
theorem dX5_wrongMarks_34 : decode cX5_wrongMarks 34 = .ok (.goto 4, 3) := by decide +kernel
theorem dX5_wrongMarks_37 : decode cX5_wrongMarks 37 = .ok (.iconst 0, 1) := by decide +kernel
theorem dX5_wrongMarks_38 : decode cX5_wrongMarks 38 = .ok (.iadd, 1) := by decide +kernel
theorem dX5_wrongMarks_39 : decode cX5_wrongMarks 39 = .ok (.istore_n 1, 1) := by decide +kernel
theorem dX5_wrongMarks_40 : decode cX5_wrongMarks 40 = .ok (.iinc 2 1, 3) := by decide +kernel
theorem dX5_wrongMarks_43 : decode cX5_wrongMarks 43 = .ok (.goto (-39), 3) := by decide +kernel
theorem dX5_wrongMarks_46 : decode cX5_wrongMarks 46 = .ok (.iload_n 1, 1) := by decide +kernel
theorem dX5_wrongMarks_47 : decode cX5_wrongMarks 47 = .ok (.ireturn, 1) := by decide +kernel
theorem dX5_put_0 : decode cX5_put 0 = .ok (.iconst 0, 1) := by decide +kernel
theorem dX5_put_1 : decode cX5_put 1 = .ok (.istore_n 3, 1) := by decide +kernel
theorem dX5_put_2 : decode cX5_put 2 = .ok (.lload_n 1, 1) := by decide +kernel
theorem dX5_put_3 : decode cX5_put 3 = .ok (.lstore 4, 2) := by decide +kernel
theorem dX5_put_5 : decode cX5_put 5 = .ok (.iload_n 3, 1) := by decide +kernel
theorem dX5_put_6 : decode cX5_put 6 = .ok (.bipush 8, 2) := by decide +kernel
theorem dX5_put_8 : decode cX5_put 8 = .ok (.if_icmp .ge 52, 3) := by decide +kernel
theorem dX5_put_11 : decode cX5_put 11 = .ok (.lload 4, 2) := by decide +kernel
theorem dX5_put_13 : decode cX5_put 13 = .ok (.lconst 0, 1) := by decide +kernel
theorem dX5_put_14 : decode cX5_put 14 = .ok (.lcmp, 1) := by decide +kernel
theorem dX5_put_15 : decode cX5_put 15 = .ok (.ifCond .eq 45, 3) := by decide +kernel
theorem dX5_put_18 : decode cX5_put 18 = .ok (.lload 4, 2) := by decide +kernel
theorem dX5_put_20 : decode cX5_put 20 = .ok (.ldc2_w 139, 3) := by decide +kernel
theorem dX5_put_23 : decode cX5_put 23 = .ok (.land, 1) := by decide +kernel
theorem dX5_put_24 : decode cX5_put 24 = .ok (.lstore 6, 2) := by decide +kernel
theorem dX5_put_26 : decode cX5_put 26 = .ok (.lload 6, 2) := by decide +kernel
theorem dX5_put_28 : decode cX5_put 28 = .ok (.ldc2_w 141, 3) := by decide +kernel
theorem dX5_put_31 : decode cX5_put 31 = .ok (.lcmp, 1) := by decide +kernel
theorem dX5_put_32 : decode cX5_put 32 = .ok (.ifCond .lt 12, 3) := by decide +kernel
theorem dX5_put_35 : decode cX5_put 35 = .ok (.lload 6, 2) := by decide +kernel
theorem dX5_put_37 : decode cX5_put 37 = .ok (.ldc2_w 143, 3) := by decide +kernel
theorem dX5_put_40 : decode cX5_put 40 = .ok (.lcmp, 1) := by decide +kernel
theorem dX5_put_41 : decode cX5_put 41 = .ok (.ifCond .le 6, 3) := by decide +kernel
theorem dX5_put_44 : decode cX5_put 44 = .ok (.bipush (-2), 2) := by decide +kernel
theorem dX5_put_46 : decode cX5_put 46 = .ok (.ireturn, 1) := by decide +kernel
theorem dX5_put_47 : decode cX5_put 47 = .ok (.lload 4, 2) := by decide +kernel
theorem dX5_put_49 : decode cX5_put 49 = .ok (.bipush 8, 2) := by decide +kernel
theorem dX5_put_51 : decode cX5_put 51 = .ok (.lushr, 1) := by decide +kernel
theorem dX5_put_52 : decode cX5_put 52 = .ok (.lstore 4, 2) := by decide +kernel
theorem dX5_put_54 : decode cX5_put 54 = .ok (.iinc 3 1, 3) := by decide +kernel
theorem dX5_put_57 : decode cX5_put 57 = .ok (.goto (-52), 3) := by decide +kernel
theorem dX5_put_60 : decode cX5_put 60 = .ok (.iload_n 3, 1) := by decide +kernel
theorem dX5_put_61 : decode cX5_put 61 = .ok (.ifCond .ne 6, 3) := by decide +kernel
theorem dX5_put_64 : decode cX5_put 64 = .ok (.bipush (-2), 2) := by decide +kernel
theorem dX5_put_66 : decode cX5_put 66 = .ok (.ireturn, 1) := by decide +kernel
theorem dX5_put_67 : decode cX5_put 67 = .ok (.aload_n 0, 1) := by decide +kernel
theorem dX5_put_68 : decode cX5_put 68 = .ok (.getfield 92, 3) := by decide +kernel
theorem dX5_put_71 : decode cX5_put 71 = .ok (.iload_n 3, 1) := by decide +kernel
theorem dX5_put_72 : decode cX5_put 72 = .ok (.iadd, 1) := by decide +kernel
theorem dX5_put_73 : decode cX5_put 73 = .ok (.bipush 80, 2) := by decide +kernel
theorem dX5_put_75 : decode cX5_put 75 = .ok (.if_icmp .le 6, 3) := by decide +kernel
theorem dX5_put_78 : decode cX5_put 78 = .ok (.bipush (-4), 2) := by decide +kernel
theorem dX5_put_80 : decode cX5_put 80 = .ok (.ireturn, 1) := by decide +kernel
theorem dX5_put_81 : decode cX5_put 81 = .ok (.iload_n 3, 1) := by decide +kernel
theorem dX5_put_82 : decode cX5_put 82 = .ok (.iconst 1, 1) := by decide +kernel
theorem dX5_put_83 : decode cX5_put 83 = .ok (.isub, 1) := by decide +kernel
theorem dX5_put_84 : decode cX5_put 84 = .ok (.istore 6, 2) := by decide +kernel
theorem dX5_put_86 : decode cX5_put 86 = .ok (.iload 6, 2) := by decide +kernel
theorem dX5_put_88 : decode cX5_put 88 = .ok (.ifCond .lt 41, 3) := by decide +kernel
theorem dX5_put_91 : decode cX5_put 91 = .ok (.aload_n 0, 1) := by decide +kernel
theorem dX5_put_92 : decode cX5_put 92 = .ok (.getfield 23, 3) := by decide +kernel
theorem dX5_put_95 : decode cX5_put 95 = .ok (.aload_n 0, 1) := by decide +kernel
theorem dX5_put_96 : decode cX5_put 96 = .ok (.getfield 92, 3) := by decide +kernel
theorem dX5_put_99 : decode cX5_put 99 = .ok (.lload_n 1, 1) := by decide +kernel
theorem dX5_put_100 : decode cX5_put 100 = .ok (.bipush 8, 2) := by decide +kernel
theorem dX5_put_102 : decode cX5_put 102 = .ok (.iload 6, 2) := by decide +kernel
theorem dX5_put_104 : decode cX5_put 104 = .ok (.imul, 1) := by decide +kernel
theorem dX5_put_105 : decode cX5_put 105 = .ok (.lushr, 1) := by decide +kernel
theorem dX5_put_106 : decode cX5_put 106 = .ok (.ldc2_w 139, 3) := by decide +kernel
theorem dX5_put_109 : decode cX5_put 109 = .ok (.land, 1) := by decide +kernel
theorem dX5_put_110 : decode cX5_put 110 = .ok (.l2i, 1) := by decide +kernel
theorem dX5_put_111 : decode cX5_put 111 = .ok (.i2c, 1) := by decide +kernel
theorem dX5_put_112 : decode cX5_put 112 = .ok (.castore, 1) := by decide +kernel
theorem dX5_put_113 : decode cX5_put 113 = .ok (.aload_n 0, 1) := by decide +kernel
theorem dX5_put_114 : decode cX5_put 114 = .ok (.dup, 1) := by decide +kernel
theorem dX5_put_115 : decode cX5_put 115 = .ok (.getfield 92, 3) := by decide +kernel
theorem dX5_put_118 : decode cX5_put 118 = .ok (.iconst 1, 1) := by decide +kernel
theorem dX5_put_119 : decode cX5_put 119 = .ok (.iadd, 1) := by decide +kernel
theorem dX5_put_120 : decode cX5_put 120 = .ok (.putfield 92, 3) := by decide +kernel
theorem dX5_put_123 : decode cX5_put 123 = .ok (.iinc 6 (-1), 3) := by decide +kernel
theorem dX5_put_126 : decode cX5_put 126 = .ok (.goto (-40), 3) := by decide +kernel
theorem dX5_put_129 : decode cX5_put 129 = .ok (.aload_n 0, 1) := by decide +kernel
theorem dX5_put_130 : decode cX5_put 130 = .ok (.getfield 92, 3) := by decide +kernel
theorem dX5_put_133 : decode cX5_put 133 = .ok (.ireturn, 1) := by decide +kernel
theorem dX5_wipe_0 : decode cX5_wipe 0 = .ok (.aload_n 0, 1) := by decide +kernel
theorem dX5_wipe_1 : decode cX5_wipe 1 = .ok (.getfield 92, 3) := by decide +kernel
theorem dX5_wipe_4 : decode cX5_wipe 4 = .ok (.istore_n 1, 1) := by decide +kernel
theorem dX5_wipe_5 : decode cX5_wipe 5 = .ok (.aload_n 0, 1) := by decide +kernel
theorem dX5_wipe_6 : decode cX5_wipe 6 = .ok (.iconst 0, 1) := by decide +kernel
theorem dX5_wipe_7 : decode cX5_wipe 7 = .ok (.putfield 92, 3) := by decide +kernel
theorem dX5_wipe_10 : decode cX5_wipe 10 = .ok (.iload_n 1, 1) := by decide +kernel
theorem dX5_wipe_11 : decode cX5_wipe 11 = .ok (.ireturn, 1) := by decide +kernel
theorem dX5_fault_0 : decode cX5_fault 0 = .ok (.iconst 0, 1) := by decide +kernel
theorem dX5_fault_1 : decode cX5_fault 1 = .ok (.istore_n 1, 1) := by decide +kernel
theorem dX5_fault_2 : decode cX5_fault 2 = .ok (.iload_n 1, 1) := by decide +kernel
theorem dX5_fault_3 : decode cX5_fault 3 = .ok (.aload_n 0, 1) := by decide +kernel
theorem dX5_fault_4 : decode cX5_fault 4 = .ok (.getfield 92, 3) := by decide +kernel
theorem dX5_fault_7 : decode cX5_fault 7 = .ok (.if_icmp .ge 48, 3) := by decide +kernel
theorem dX5_fault_10 : decode cX5_fault 10 = .ok (.iload_n 1, 1) := by decide +kernel
theorem dX5_fault_11 : decode cX5_fault 11 = .ok (.bipush 10, 2) := by decide +kernel
theorem dX5_fault_13 : decode cX5_fault 13 = .ok (.if_icmp .ge 42, 3) := by decide +kernel
theorem dX5_fault_16 : decode cX5_fault 16 = .ok (.aload_n 0, 1) := by decide +kernel
theorem dX5_fault_17 : decode cX5_fault 17 = .ok (.getfield 23, 3) := by decide +kernel
theorem dX5_fault_20 : decode cX5_fault 20 = .ok (.iload_n 1, 1) := by decide +kernel
theorem dX5_fault_21 : decode cX5_fault 21 = .ok (.caload, 1) := by decide +kernel
theorem dX5_fault_22 : decode cX5_fault 22 = .ok (.bipush 48, 2) := by decide +kernel
theorem dX5_fault_24 : decode cX5_fault 24 = .ok (.if_icmp .lt 14, 3) := by decide +kernel
theorem dX5_fault_27 : decode cX5_fault 27 = .ok (.aload_n 0, 1) := by decide +kernel
theorem dX5_fault_28 : decode cX5_fault 28 = .ok (.getfield 23, 3) := by decide +kernel
theorem dX5_fault_31 : decode cX5_fault 31 = .ok (.iload_n 1, 1) := by decide +kernel
theorem dX5_fault_32 : decode cX5_fault 32 = .ok (.caload, 1) := by decide +kernel
theorem dX5_fault_33 : decode cX5_fault 33 = .ok (.bipush 57, 2) := by decide +kernel
theorem dX5_fault_35 : decode cX5_fault 35 = .ok (.if_icmp .le 14, 3) := by decide +kernel
theorem dX5_fault_38 : decode cX5_fault 38 = .ok (.aload_n 0, 1) := by decide +kernel
theorem dX5_fault_39 : decode cX5_fault 39 = .ok (.getfield 23, 3) := by decide +kernel
theorem dX5_fault_42 : decode cX5_fault 42 = .ok (.iload_n 1, 1) := by decide +kernel
theorem dX5_fault_43 : decode cX5_fault 43 = .ok (.caload, 1) := by decide +kernel
theorem dX5_fault_44 : decode cX5_fault 44 = .ok (.bipush 45, 2) := by decide +kernel
theorem dX5_fault_46 : decode cX5_fault 46 = .ok (.if_icmp .ne 9, 3) := by decide +kernel
theorem dX5_fault_49 : decode cX5_fault 49 = .ok (.iinc 1 1, 3) := by decide +kernel
theorem dX5_fault_52 : decode cX5_fault 52 = .ok (.goto (-50), 3) := by decide +kernel
theorem dX5_fault_55 : decode cX5_fault 55 = .ok (.iload_n 1, 1) := by decide +kernel
theorem dX5_fault_56 : decode cX5_fault 56 = .ok (.bipush 10, 2) := by decide +kernel
theorem dX5_fault_58 : decode cX5_fault 58 = .ok (.if_icmp .ne 17, 3) := by decide +kernel
theorem dX5_fault_61 : decode cX5_fault 61 = .ok (.aload_n 0, 1) := by decide +kernel
theorem dX5_fault_62 : decode cX5_fault 62 = .ok (.getfield 92, 3) := by decide +kernel
theorem dX5_fault_65 : decode cX5_fault 65 = .ok (.bipush 10, 2) := by decide +kernel
theorem dX5_fault_67 : decode cX5_fault 67 = .ok (.if_icmp .ne 8, 3) := by decide +kernel
theorem dX5_fault_70 : decode cX5_fault 70 = .ok (.bipush (-6), 2) := by decide +kernel
theorem dX5_fault_72 : decode cX5_fault 72 = .ok (.goto 4, 3) := by decide +kernel
theorem dX5_fault_75 : decode cX5_fault 75 = .ok (.iload_n 1, 1) := by decide +kernel
theorem dX5_fault_76 : decode cX5_fault 76 = .ok (.ireturn, 1) := by decide +kernel
theorem dX5_undo_0 : decode cX5_undo 0 = .ok (.aload_n 0, 1) := by decide +kernel
theorem dX5_undo_1 : decode cX5_undo 1 = .ok (.getfield 35, 3) := by decide +kernel
theorem dX5_undo_4 : decode cX5_undo 4 = .ok (.ifCond .ne 6, 3) := by decide +kernel
theorem dX5_undo_7 : decode cX5_undo 7 = .ok (.bipush (-5), 2) := by decide +kernel
theorem dX5_undo_9 : decode cX5_undo 9 = .ok (.ireturn, 1) := by decide +kernel
theorem dX5_undo_10 : decode cX5_undo 10 = .ok (.aload_n 0, 1) := by decide +kernel
theorem dX5_undo_11 : decode cX5_undo 11 = .ok (.dup, 1) := by decide +kernel
theorem dX5_undo_12 : decode cX5_undo 12 = .ok (.getfield 35, 3) := by decide +kernel
theorem dX5_undo_15 : decode cX5_undo 15 = .ok (.iconst 1, 1) := by decide +kernel
theorem dX5_undo_16 : decode cX5_undo 16 = .ok (.isub, 1) := by decide +kernel
theorem dX5_undo_17 : decode cX5_undo 17 = .ok (.putfield 35, 3) := by decide +kernel
theorem dX5_undo_20 : decode cX5_undo 20 = .ok (.iconst 0, 1) := by decide +kernel
theorem dX5_undo_21 : decode cX5_undo 21 = .ok (.istore_n 1, 1) := by decide +kernel
theorem dX5_undo_22 : decode cX5_undo 22 = .ok (.iload_n 1, 1) := by decide +kernel
theorem dX5_undo_23 : decode cX5_undo 23 = .ok (.sipush 1336, 3) := by decide +kernel
theorem dX5_undo_26 : decode cX5_undo 26 = .ok (.if_icmp .ge 30, 3) := by decide +kernel
theorem dX5_undo_29 : decode cX5_undo 29 = .ok (.aload_n 0, 1) := by decide +kernel
theorem dX5_undo_30 : decode cX5_undo 30 = .ok (.getfield 7, 3) := by decide +kernel
theorem dX5_undo_33 : decode cX5_undo 33 = .ok (.iload_n 1, 1) := by decide +kernel
theorem dX5_undo_34 : decode cX5_undo 34 = .ok (.aload_n 0, 1) := by decide +kernel
theorem dX5_undo_35 : decode cX5_undo 35 = .ok (.getfield 13, 3) := by decide +kernel
theorem dX5_undo_38 : decode cX5_undo 38 = .ok (.sipush 1336, 3) := by decide +kernel
theorem dX5_undo_41 : decode cX5_undo 41 = .ok (.aload_n 0, 1) := by decide +kernel
theorem dX5_undo_42 : decode cX5_undo 42 = .ok (.getfield 35, 3) := by decide +kernel
theorem dX5_undo_45 : decode cX5_undo 45 = .ok (.imul, 1) := by decide +kernel
theorem dX5_undo_46 : decode cX5_undo 46 = .ok (.iload_n 1, 1) := by decide +kernel
theorem dX5_undo_47 : decode cX5_undo 47 = .ok (.iadd, 1) := by decide +kernel
theorem dX5_undo_48 : decode cX5_undo 48 = .ok (.iaload, 1) := by decide +kernel
theorem dX5_undo_49 : decode cX5_undo 49 = .ok (.iastore, 1) := by decide +kernel
theorem dX5_undo_50 : decode cX5_undo 50 = .ok (.iinc 1 1, 3) := by decide +kernel
theorem dX5_undo_53 : decode cX5_undo 53 = .ok (.goto (-31), 3) := by decide +kernel
theorem dX5_undo_56 : decode cX5_undo 56 = .ok (.aload_n 0, 1) := by decide +kernel
theorem dX5_undo_57 : decode cX5_undo 57 = .ok (.getfield 35, 3) := by decide +kernel
theorem dX5_undo_60 : decode cX5_undo 60 = .ok (.ireturn, 1) := by decide +kernel
set_option maxRecDepth 20000 in
theorem ggX5_save_X5_in : GoodIn wsX5_save wsX5_in := goodIn_r _ [7] (by decide +kernel) (by decide +kernel)
set_option maxRecDepth 20000 in
theorem gX5_save_X5_in : GoodIn wsX5_save (va_wsS RX5 27 yX5_in wsX5_in) := goodIn_app (goodIn_of _ (by decide +kernel)) ggX5_save_X5_in
theorem dX5_save_0 : decode cX5_save 0 = .ok (.iload_n 1, 1) := by decide +kernel
theorem dX5_save_1 : decode cX5_save 1 = .ok (.iconst 0, 1) := by decide +kernel
theorem dX5_save_2 : decode cX5_save 2 = .ok (.iconst 1, 1) := by decide +kernel
theorem dX5_save_3 : decode cX5_save 3 = .ok (.invokestatic 27, 3) := by decide +kernel
theorem dX5_save_6 : decode cX5_save 6 = .ok (.ifCond .ne 6, 3) := by decide +kernel
theorem dX5_save_9 : decode cX5_save 9 = .ok (.bipush (-2), 2) := by decide +kernel
theorem dX5_save_11 : decode cX5_save 11 = .ok (.ireturn, 1) := by decide +kernel
theorem dX5_save_12 : decode cX5_save 12 = .ok (.iconst 0, 1) := by decide +kernel
theorem dX5_save_13 : decode cX5_save 13 = .ok (.istore_n 2, 1) := by decide +kernel
theorem dX5_save_14 : decode cX5_save 14 = .ok (.iload_n 2, 1) := by decide +kernel
theorem dX5_save_15 : decode cX5_save 15 = .ok (.sipush 1336, 3) := by decide +kernel
theorem dX5_save_18 : decode cX5_save 18 = .ok (.if_icmp .ge 27, 3) := by decide +kernel
theorem dX5_save_21 : decode cX5_save 21 = .ok (.aload_n 0, 1) := by decide +kernel
theorem dX5_save_22 : decode cX5_save 22 = .ok (.getfield 16, 3) := by decide +kernel
theorem dX5_save_25 : decode cX5_save 25 = .ok (.sipush 1336, 3) := by decide +kernel
theorem dX5_save_28 : decode cX5_save 28 = .ok (.iload_n 1, 1) := by decide +kernel
theorem dX5_save_29 : decode cX5_save 29 = .ok (.imul, 1) := by decide +kernel
theorem dX5_save_30 : decode cX5_save 30 = .ok (.iload_n 2, 1) := by decide +kernel
theorem dX5_save_31 : decode cX5_save 31 = .ok (.iadd, 1) := by decide +kernel
theorem dX5_save_32 : decode cX5_save 32 = .ok (.aload_n 0, 1) := by decide +kernel
theorem dX5_save_33 : decode cX5_save 33 = .ok (.getfield 7, 3) := by decide +kernel
theorem dX5_save_36 : decode cX5_save 36 = .ok (.iload_n 2, 1) := by decide +kernel
theorem dX5_save_37 : decode cX5_save 37 = .ok (.iaload, 1) := by decide +kernel
theorem dX5_save_38 : decode cX5_save 38 = .ok (.iastore, 1) := by decide +kernel
theorem dX5_save_39 : decode cX5_save 39 = .ok (.iinc 2 1, 3) := by decide +kernel
theorem dX5_save_42 : decode cX5_save 42 = .ok (.goto (-28), 3) := by decide +kernel
theorem dX5_save_45 : decode cX5_save 45 = .ok (.aload_n 0, 1) := by decide +kernel
theorem dX5_save_46 : decode cX5_save 46 = .ok (.getfield 19, 3) := by decide +kernel
theorem dX5_save_49 : decode cX5_save 49 = .ok (.iload_n 1, 1) := by decide +kernel
theorem dX5_save_50 : decode cX5_save 50 = .ok (.iconst 1, 1) := by decide +kernel
theorem dX5_save_51 : decode cX5_save 51 = .ok (.bastore, 1) := by decide +kernel
theorem dX5_save_52 : decode cX5_save 52 = .ok (.aload_n 0, 1) := by decide +kernel
theorem dX5_save_53 : decode cX5_save 53 = .ok (.getfield 7, 3) := by decide +kernel
theorem dX5_save_56 : decode cX5_save 56 = .ok (.iconst 4, 1) := by decide +kernel
theorem dX5_save_57 : decode cX5_save 57 = .ok (.iaload, 1) := by decide +kernel
theorem dX5_save_58 : decode cX5_save 58 = .ok (.ireturn, 1) := by decide +kernel
set_option maxRecDepth 20000 in
theorem ggX5_restore_X5_in : GoodIn wsX5_restore wsX5_in := goodIn_r _ [7] (by decide +kernel) (by decide +kernel)
set_option maxRecDepth 20000 in
theorem gX5_restore_X5_in : GoodIn wsX5_restore (va_wsS RX5 27 yX5_in wsX5_in) := goodIn_app (goodIn_of _ (by decide +kernel)) ggX5_restore_X5_in
set_option maxRecDepth 20000 in
theorem ggX5_restore_X5_record : GoodIn wsX5_restore wsX5_record := goodIn_r _ [11, 12, 13, 2, 14, 15, 16, 17, 18, 19, 20] (by decide +kernel) (by decide +kernel)
set_option maxRecDepth 20000 in
theorem gX5_restore_X5_record : GoodIn wsX5_restore (wsV RX5 82 RX5 yX5_record wsX5_record) := goodIn_app (goodIn_of _ (by decide +kernel)) ggX5_restore_X5_record
theorem dX5_restore_0 : decode cX5_restore 0 = .ok (.iload_n 1, 1) := by decide +kernel
theorem dX5_restore_1 : decode cX5_restore 1 = .ok (.iconst 0, 1) := by decide +kernel
theorem dX5_restore_2 : decode cX5_restore 2 = .ok (.iconst 1, 1) := by decide +kernel
theorem dX5_restore_3 : decode cX5_restore 3 = .ok (.invokestatic 27, 3) := by decide +kernel
theorem dX5_restore_6 : decode cX5_restore 6 = .ok (.ifCond .ne 6, 3) := by decide +kernel
theorem dX5_restore_9 : decode cX5_restore 9 = .ok (.bipush (-2), 2) := by decide +kernel
theorem dX5_restore_11 : decode cX5_restore 11 = .ok (.ireturn, 1) := by decide +kernel
theorem dX5_restore_12 : decode cX5_restore 12 = .ok (.aload_n 0, 1) := by decide +kernel
theorem dX5_restore_13 : decode cX5_restore 13 = .ok (.getfield 19, 3) := by decide +kernel
theorem dX5_restore_16 : decode cX5_restore 16 = .ok (.iload_n 1, 1) := by decide +kernel
theorem dX5_restore_17 : decode cX5_restore 17 = .ok (.baload, 1) := by decide +kernel
theorem dX5_restore_18 : decode cX5_restore 18 = .ok (.ifCond .ne 6, 3) := by decide +kernel
theorem dX5_restore_21 : decode cX5_restore 21 = .ok (.bipush (-5), 2) := by decide +kernel
theorem dX5_restore_23 : decode cX5_restore 23 = .ok (.ireturn, 1) := by decide +kernel
theorem dX5_restore_24 : decode cX5_restore 24 = .ok (.aload_n 0, 1) := by decide +kernel
theorem dX5_restore_25 : decode cX5_restore 25 = .ok (.invokevirtual 82, 3) := by decide +kernel
theorem dX5_restore_28 : decode cX5_restore 28 = .ok (.iconst 0, 1) := by decide +kernel
theorem dX5_restore_29 : decode cX5_restore 29 = .ok (.istore_n 2, 1) := by decide +kernel
theorem dX5_restore_30 : decode cX5_restore 30 = .ok (.iload_n 2, 1) := by decide +kernel
theorem dX5_restore_31 : decode cX5_restore 31 = .ok (.sipush 1336, 3) := by decide +kernel
theorem dX5_restore_34 : decode cX5_restore 34 = .ok (.if_icmp .ge 27, 3) := by decide +kernel
theorem dX5_restore_37 : decode cX5_restore 37 = .ok (.aload_n 0, 1) := by decide +kernel
theorem dX5_restore_38 : decode cX5_restore 38 = .ok (.getfield 7, 3) := by decide +kernel
theorem dX5_restore_41 : decode cX5_restore 41 = .ok (.iload_n 2, 1) := by decide +kernel
theorem dX5_restore_42 : decode cX5_restore 42 = .ok (.aload_n 0, 1) := by decide +kernel
theorem dX5_restore_43 : decode cX5_restore 43 = .ok (.getfield 16, 3) := by decide +kernel
theorem dX5_restore_46 : decode cX5_restore 46 = .ok (.sipush 1336, 3) := by decide +kernel
theorem dX5_restore_49 : decode cX5_restore 49 = .ok (.iload_n 1, 1) := by decide +kernel
theorem dX5_restore_50 : decode cX5_restore 50 = .ok (.imul, 1) := by decide +kernel
theorem dX5_restore_51 : decode cX5_restore 51 = .ok (.iload_n 2, 1) := by decide +kernel
theorem dX5_restore_52 : decode cX5_restore 52 = .ok (.iadd, 1) := by decide +kernel
theorem dX5_restore_53 : decode cX5_restore 53 = .ok (.iaload, 1) := by decide +kernel
theorem dX5_restore_54 : decode cX5_restore 54 = .ok (.iastore, 1) := by decide +kernel
theorem dX5_restore_55 : decode cX5_restore 55 = .ok (.iinc 2 1, 3) := by decide +kernel
theorem dX5_restore_58 : decode cX5_restore 58 = .ok (.goto (-28), 3) := by decide +kernel
theorem dX5_restore_61 : decode cX5_restore 61 = .ok (.aload_n 0, 1) := by decide +kernel
theorem dX5_restore_62 : decode cX5_restore 62 = .ok (.getfield 7, 3) := by decide +kernel
theorem dX5_restore_65 : decode cX5_restore 65 = .ok (.iconst 4, 1) := by decide +kernel
theorem dX5_restore_66 : decode cX5_restore 66 = .ok (.iaload, 1) := by decide +kernel
theorem dX5_restore_67 : decode cX5_restore 67 = .ok (.ireturn, 1) := by decide +kernel
