set_option maxRecDepth 20000 in
theorem ggX0_init_X3_init : GoodIn wsX0_init wsX3_init := goodIn_r _ [10, 11, 2, 3, 12, 13, 14, 15, 16, 17, 18, 19, 20, 21, 22, 23, 24, 25, 26, 27, 28, 29, 30, 31, 32, 36, 37, 38, 39, 40, 41, 42, 43, 44, 45, 46, 47] (by decide +kernel) (by decide +kernel)
set_option maxRecDepth 20000 in
theorem gX0_init_X3_init : GoodIn wsX0_init (wsX3_init) := ggX0_init_X3_init
theorem dX0_init_0 : decode cX0_init 0 = .ok (.aload_n 0, 1) := by decide +kernel
theorem dX0_init_1 : decode cX0_init 1 = .ok (.invokespecial 1, 3) := by decide +kernel
theorem dX0_init_4 : decode cX0_init 4 = .ok (.aload_n 0, 1) := by decide +kernel
theorem dX0_init_5 : decode cX0_init 5 = .ok (.bipush 6, 2) := by decide +kernel
theorem dX0_init_7 : decode cX0_init 7 = .ok (.anewarray 9, 3) := by decide +kernel
theorem dX0_init_10 : decode cX0_init 10 = .ok (.putfield 11, 3) := by decide +kernel
theorem dX0_init_13 : decode cX0_init 13 = .ok (.iconst 0, 1) := by decide +kernel
theorem dX0_init_14 : decode cX0_init 14 = .ok (.istore_n 1, 1) := by decide +kernel
theorem dX0_init_15 : decode cX0_init 15 = .ok (.iload_n 1, 1) := by decide +kernel
theorem dX0_init_16 : decode cX0_init 16 = .ok (.bipush 6, 2) := by decide +kernel
theorem dX0_init_18 : decode cX0_init 18 = .ok (.if_icmp .ge 22, 3) := by decide +kernel
theorem dX0_init_21 : decode cX0_init 21 = .ok (.aload_n 0, 1) := by decide +kernel
theorem dX0_init_22 : decode cX0_init 22 = .ok (.getfield 11, 3) := by decide +kernel
theorem dX0_init_25 : decode cX0_init 25 = .ok (.iload_n 1, 1) := by decide +kernel
theorem dX0_init_26 : decode cX0_init 26 = .ok (.new 9, 3) := by decide +kernel
theorem dX0_init_29 : decode cX0_init 29 = .ok (.dup, 1) := by decide +kernel
theorem dX0_init_30 : decode cX0_init 30 = .ok (.invokespecial 15, 3) := by decide +kernel
theorem dX0_init_33 : decode cX0_init 33 = .ok (.aastore, 1) := by decide +kernel
theorem dX0_init_34 : decode cX0_init 34 = .ok (.iinc 1 1, 3) := by decide +kernel
theorem dX0_init_37 : decode cX0_init 37 = .ok (.goto (-22), 3) := by decide +kernel
theorem dX0_init_40 : decode cX0_init 40 = .ok (.return_, 1) := by decide +kernel
theorem dX0_length_0 : decode cX0_length 0 = .ok (.aload_n 0, 1) := by decide +kernel
theorem dX0_length_1 : decode cX0_length 1 = .ok (.getfield 16, 3) := by decide +kernel
theorem dX0_length_4 : decode cX0_length 4 = .ok (.ireturn, 1) := by decide +kernel
set_option maxRecDepth 20000 in
theorem ggX0_record_X3_copy : GoodIn wsX0_record wsX3_copy := goodIn_r _ [11, 12, 13, 14, 15, 16, 17, 18, 19, 20, 21, 22, 23, 24, 25, 26, 27, 31, 32, 33, 34, 35, 36, 37, 38, 39, 40, 41, 42] (by decide +kernel) (by decide +kernel)
set_option maxRecDepth 20000 in
theorem gX0_record_X3_copy : GoodIn wsX0_record (va_wsS RX0 23 yX3_copy wsX3_copy) := goodIn_app (goodIn_of _ (by decide +kernel)) ggX0_record_X3_copy
theorem dX0_record_0 : decode cX0_record 0 = .ok (.aload_n 0, 1) := by decide +kernel
theorem dX0_record_1 : decode cX0_record 1 = .ok (.getfield 20, 3) := by decide +kernel
theorem dX0_record_4 : decode cX0_record 4 = .ok (.ifCond .lt 12, 3) := by decide +kernel
theorem dX0_record_7 : decode cX0_record 7 = .ok (.aload_n 0, 1) := by decide +kernel
theorem dX0_record_8 : decode cX0_record 8 = .ok (.getfield 20, 3) := by decide +kernel
theorem dX0_record_11 : decode cX0_record 11 = .ok (.bipush 6, 2) := by decide +kernel
theorem dX0_record_13 : decode cX0_record 13 = .ok (.if_icmp .lt 4, 3) := by decide +kernel
theorem dX0_record_16 : decode cX0_record 16 = .ok (.return_, 1) := by decide +kernel
theorem dX0_record_17 : decode cX0_record 17 = .ok (.aload_n 1, 1) := by decide +kernel
theorem dX0_record_18 : decode cX0_record 18 = .ok (.aload_n 0, 1) := by decide +kernel
theorem dX0_record_19 : decode cX0_record 19 = .ok (.getfield 11, 3) := by decide +kernel
theorem dX0_record_22 : decode cX0_record 22 = .ok (.aload_n 0, 1) := by decide +kernel
theorem dX0_record_23 : decode cX0_record 23 = .ok (.getfield 20, 3) := by decide +kernel
theorem dX0_record_26 : decode cX0_record 26 = .ok (.aaload, 1) := by decide +kernel
theorem dX0_record_27 : decode cX0_record 27 = .ok (.invokestatic 23, 3) := by decide +kernel
theorem dX0_record_30 : decode cX0_record 30 = .ok (.aload_n 0, 1) := by decide +kernel
theorem dX0_record_31 : decode cX0_record 31 = .ok (.aload_n 0, 1) := by decide +kernel
theorem dX0_record_32 : decode cX0_record 32 = .ok (.getfield 20, 3) := by decide +kernel
theorem dX0_record_35 : decode cX0_record 35 = .ok (.iconst 5, 1) := by decide +kernel
theorem dX0_record_36 : decode cX0_record 36 = .ok (.if_icmp .ne 7, 3) := by decide +kernel
theorem dX0_record_39 : decode cX0_record 39 = .ok (.iconst 0, 1) := by decide +kernel
theorem dX0_record_40 : decode cX0_record 40 = .ok (.goto 9, 3) := by decide +kernel
theorem dX0_record_43 : decode cX0_record 43 = .ok (.aload_n 0, 1) := by decide +kernel
theorem dX0_record_44 : decode cX0_record 44 = .ok (.getfield 20, 3) := by decide +kernel
theorem dX0_record_47 : decode cX0_record 47 = .ok (.iconst 1, 1) := by decide +kernel
theorem dX0_record_48 : decode cX0_record 48 = .ok (.iadd, 1) := by decide +kernel
theorem dX0_record_49 : decode cX0_record 49 = .ok (.putfield 20, 3) := by decide +kernel
theorem dX0_record_52 : decode cX0_record 52 = .ok (.aload_n 0, 1) := by decide +kernel
theorem dX0_record_53 : decode cX0_record 53 = .ok (.aload_n 0, 1) := by decide +kernel
theorem dX0_record_54 : decode cX0_record 54 = .ok (.getfield 16, 3) := by decide +kernel
theorem dX0_record_57 : decode cX0_record 57 = .ok (.iconst 1, 1) := by decide +kernel
theorem dX0_record_58 : decode cX0_record 58 = .ok (.iadd, 1) := by decide +kernel
theorem dX0_record_59 : decode cX0_record 59 = .ok (.bipush 6, 2) := by decide +kernel
theorem dX0_record_61 : decode cX0_record 61 = .ok (.invokestatic 27, 3) := by decide +kernel
theorem dX0_record_64 : decode cX0_record 64 = .ok (.putfield 16, 3) := by decide +kernel
theorem dX0_record_67 : decode cX0_record 67 = .ok (.return_, 1) := by decide +kernel
set_option maxRecDepth 20000 in
theorem ggX0_takeBack_X3_copy : GoodIn wsX0_takeBack wsX3_copy := goodIn_r _ [7, 8, 9, 10, 11, 12, 13, 14, 15, 16, 17, 18, 19, 20, 21, 22, 23, 27, 28, 29, 30, 31, 32, 33, 34, 35, 36, 37, 38] (by decide +kernel) (by decide +kernel)
set_option maxRecDepth 20000 in
theorem gX0_takeBack_X3_copy : GoodIn wsX0_takeBack (va_wsS RX0 23 yX3_copy wsX3_copy) := goodIn_app (goodIn_of _ (by decide +kernel)) ggX0_takeBack_X3_copy
theorem dX0_takeBack_0 : decode cX0_takeBack 0 = .ok (.aload_n 0, 1) := by decide +kernel
theorem dX0_takeBack_1 : decode cX0_takeBack 1 = .ok (.getfield 20, 3) := by decide +kernel
theorem dX0_takeBack_4 : decode cX0_takeBack 4 = .ok (.ifCond .ne 7, 3) := by decide +kernel
theorem dX0_takeBack_7 : decode cX0_takeBack 7 = .ok (.iconst 5, 1) := by decide +kernel
theorem dX0_takeBack_8 : decode cX0_takeBack 8 = .ok (.goto 9, 3) := by decide +kernel
theorem dX0_takeBack_11 : decode cX0_takeBack 11 = .ok (.aload_n 0, 1) := by decide +kernel
theorem dX0_takeBack_12 : decode cX0_takeBack 12 = .ok (.getfield 20, 3) := by decide +kernel
theorem dX0_takeBack_15 : decode cX0_takeBack 15 = .ok (.iconst 1, 1) := by decide +kernel
theorem dX0_takeBack_16 : decode cX0_takeBack 16 = .ok (.isub, 1) := by decide +kernel
theorem dX0_takeBack_17 : decode cX0_takeBack 17 = .ok (.istore_n 2, 1) := by decide +kernel
theorem dX0_takeBack_18 : decode cX0_takeBack 18 = .ok (.aload_n 0, 1) := by decide +kernel
theorem dX0_takeBack_19 : decode cX0_takeBack 19 = .ok (.getfield 16, 3) := by decide +kernel
theorem dX0_takeBack_22 : decode cX0_takeBack 22 = .ok (.ifCond .eq 13, 3) := by decide +kernel
theorem dX0_takeBack_25 : decode cX0_takeBack 25 = .ok (.iload_n 2, 1) := by decide +kernel
theorem dX0_takeBack_26 : decode cX0_takeBack 26 = .ok (.ifCond .lt 9, 3) := by decide +kernel
theorem dX0_takeBack_29 : decode cX0_takeBack 29 = .ok (.iload_n 2, 1) := by decide +kernel
theorem dX0_takeBack_30 : decode cX0_takeBack 30 = .ok (.bipush 6, 2) := by decide +kernel
theorem dX0_takeBack_32 : decode cX0_takeBack 32 = .ok (.if_icmp .lt 4, 3) := by decide +kernel
theorem dX0_takeBack_35 : decode cX0_takeBack 35 = .ok (.return_, 1) := by decide +kernel
theorem dX0_takeBack_36 : decode cX0_takeBack 36 = .ok (.aload_n 0, 1) := by decide +kernel
theorem dX0_takeBack_37 : decode cX0_takeBack 37 = .ok (.getfield 11, 3) := by decide +kernel
theorem dX0_takeBack_40 : decode cX0_takeBack 40 = .ok (.iload_n 2, 1) := by decide +kernel
theorem dX0_takeBack_41 : decode cX0_takeBack 41 = .ok (.aaload, 1) := by decide +kernel
theorem dX0_takeBack_42 : decode cX0_takeBack 42 = .ok (.aload_n 1, 1) := by decide +kernel
theorem dX0_takeBack_43 : decode cX0_takeBack 43 = .ok (.invokestatic 23, 3) := by decide +kernel
theorem dX0_takeBack_46 : decode cX0_takeBack 46 = .ok (.aload_n 0, 1) := by decide +kernel
theorem dX0_takeBack_47 : decode cX0_takeBack 47 = .ok (.iload_n 2, 1) := by decide +kernel
theorem dX0_takeBack_48 : decode cX0_takeBack 48 = .ok (.putfield 20, 3) := by decide +kernel
theorem dX0_takeBack_51 : decode cX0_takeBack 51 = .ok (.aload_n 0, 1) := by decide +kernel
theorem dX0_takeBack_52 : decode cX0_takeBack 52 = .ok (.dup, 1) := by decide +kernel
theorem dX0_takeBack_53 : decode cX0_takeBack 53 = .ok (.getfield 16, 3) := by decide +kernel
theorem dX0_takeBack_56 : decode cX0_takeBack 56 = .ok (.iconst 1, 1) := by decide +kernel
theorem dX0_takeBack_57 : decode cX0_takeBack 57 = .ok (.isub, 1) := by decide +kernel
theorem dX0_takeBack_58 : decode cX0_takeBack 58 = .ok (.putfield 16, 3) := by decide +kernel
theorem dX0_takeBack_61 : decode cX0_takeBack 61 = .ok (.return_, 1) := by decide +kernel
theorem dX1_init_0 : decode cX1_init 0 = .ok (.aload_n 0, 1) := by decide +kernel
theorem dX1_init_1 : decode cX1_init 1 = .ok (.invokespecial 3, 3) := by decide +kernel
theorem dX1_init_4 : decode cX1_init 4 = .ok (.aload_n 0, 1) := by decide +kernel
theorem dX1_init_5 : decode cX1_init 5 = .ok (.bipush 80, 2) := by decide +kernel
theorem dX1_init_7 : decode cX1_init 7 = .ok (.newarray .int, 2) := by decide +kernel
theorem dX1_init_9 : decode cX1_init 9 = .ok (.putfield 11, 3) := by decide +kernel
theorem dX1_init_12 : decode cX1_init 12 = .ok (.return_, 1) := by decide +kernel
theorem dX1_charactersIn_0 : decode cX1_charactersIn 0 = .ok (.lload_n 0, 1) := by decide +kernel
theorem dX1_charactersIn_1 : decode cX1_charactersIn 1 = .ok (.lstore_n 2, 1) := by decide +kernel
theorem dX1_charactersIn_2 : decode cX1_charactersIn 2 = .ok (.iconst 0, 1) := by decide +kernel
theorem dX1_charactersIn_3 : decode cX1_charactersIn 3 = .ok (.istore 4, 2) := by decide +kernel
theorem dX1_charactersIn_5 : decode cX1_charactersIn 5 = .ok (.iload 4, 2) := by decide +kernel
theorem dX1_charactersIn_7 : decode cX1_charactersIn 7 = .ok (.bipush 8, 2) := by decide +kernel
theorem dX1_charactersIn_9 : decode cX1_charactersIn 9 = .ok (.if_icmp .ge 48, 3) := by decide +kernel
theorem dX1_charactersIn_12 : decode cX1_charactersIn 12 = .ok (.lload_n 2, 1) := by decide +kernel
theorem dX1_charactersIn_13 : decode cX1_charactersIn 13 = .ok (.ldc2_w 15, 3) := by decide +kernel
theorem dX1_charactersIn_16 : decode cX1_charactersIn 16 = .ok (.land, 1) := by decide +kernel
theorem dX1_charactersIn_17 : decode cX1_charactersIn 17 = .ok (.lconst 0, 1) := by decide +kernel
theorem dX1_charactersIn_18 : decode cX1_charactersIn 18 = .ok (.lcmp, 1) := by decide +kernel
theorem dX1_charactersIn_19 : decode cX1_charactersIn 19 = .ok (.ifCond .eq 38, 3) := by decide +kernel
theorem dX1_charactersIn_22 : decode cX1_charactersIn 22 = .ok (.lload_n 2, 1) := by decide +kernel
theorem dX1_charactersIn_23 : decode cX1_charactersIn 23 = .ok (.ldc2_w 15, 3) := by decide +kernel
theorem dX1_charactersIn_26 : decode cX1_charactersIn 26 = .ok (.land, 1) := by decide +kernel
theorem dX1_charactersIn_27 : decode cX1_charactersIn 27 = .ok (.l2i, 1) := by decide +kernel
theorem dX1_charactersIn_28 : decode cX1_charactersIn 28 = .ok (.istore 5, 2) := by decide +kernel
theorem dX1_charactersIn_30 : decode cX1_charactersIn 30 = .ok (.iload 5, 2) := by decide +kernel
theorem dX1_charactersIn_32 : decode cX1_charactersIn 32 = .ok (.bipush 33, 2) := by decide +kernel
theorem dX1_charactersIn_34 : decode cX1_charactersIn 34 = .ok (.if_icmp .lt 10, 3) := by decide +kernel
theorem dX1_charactersIn_37 : decode cX1_charactersIn 37 = .ok (.iload 5, 2) := by decide +kernel
theorem dX1_charactersIn_39 : decode cX1_charactersIn 39 = .ok (.bipush 126, 2) := by decide +kernel
theorem dX1_charactersIn_41 : decode cX1_charactersIn 41 = .ok (.if_icmp .le 5, 3) := by decide +kernel
theorem dX1_charactersIn_44 : decode cX1_charactersIn 44 = .ok (.iconst 0, 1) := by decide +kernel
theorem dX1_charactersIn_45 : decode cX1_charactersIn 45 = .ok (.ireturn, 1) := by decide +kernel
theorem dX1_charactersIn_46 : decode cX1_charactersIn 46 = .ok (.lload_n 2, 1) := by decide +kernel
theorem dX1_charactersIn_47 : decode cX1_charactersIn 47 = .ok (.bipush 8, 2) := by decide +kernel
theorem dX1_charactersIn_49 : decode cX1_charactersIn 49 = .ok (.lushr, 1) := by decide +kernel
theorem dX1_charactersIn_50 : decode cX1_charactersIn 50 = .ok (.lstore_n 2, 1) := by decide +kernel
theorem dX1_charactersIn_51 : decode cX1_charactersIn 51 = .ok (.iinc 4 1, 3) := by decide +kernel
theorem dX1_charactersIn_54 : decode cX1_charactersIn 54 = .ok (.goto (-49), 3) := by decide +kernel
theorem dX1_charactersIn_57 : decode cX1_charactersIn 57 = .ok (.lload_n 2, 1) := by decide +kernel
theorem dX1_charactersIn_58 : decode cX1_charactersIn 58 = .ok (.lconst 0, 1) := by decide +kernel
theorem dX1_charactersIn_59 : decode cX1_charactersIn 59 = .ok (.lcmp, 1) := by decide +kernel
theorem dX1_charactersIn_60 : decode cX1_charactersIn 60 = .ok (.ifCond .ne 8, 3) := by decide +kernel
theorem dX1_charactersIn_63 : decode cX1_charactersIn 63 = .ok (.iload 4, 2) := by decide +kernel
theorem dX1_charactersIn_65 : decode cX1_charactersIn 65 = .ok (.goto 4, 3) := by decide +kernel
theorem dX1_charactersIn_68 : decode cX1_charactersIn 68 = .ok (.iconst 0, 1) := by decide +kernel
theorem dX1_charactersIn_69 : decode cX1_charactersIn 69 = .ok (.ireturn, 1) := by decide +kernel
theorem dX1_length_0 : decode cX1_length 0 = .ok (.aload_n 0, 1) := by decide +kernel
theorem dX1_length_1 : decode cX1_length 1 = .ok (.getfield 17, 3) := by decide +kernel
theorem dX1_length_4 : decode cX1_length 4 = .ok (.ireturn, 1) := by decide +kernel
theorem dX1_clear_0 : decode cX1_clear 0 = .ok (.aload_n 0, 1) := by decide +kernel
theorem dX1_clear_1 : decode cX1_clear 1 = .ok (.iconst 0, 1) := by decide +kernel
theorem dX1_clear_2 : decode cX1_clear 2 = .ok (.putfield 17, 3) := by decide +kernel
theorem dX1_clear_5 : decode cX1_clear 5 = .ok (.return_, 1) := by decide +kernel
theorem dX1_append_0 : decode cX1_append 0 = .ok (.aload_n 0, 1) := by decide +kernel
theorem dX1_append_1 : decode cX1_append 1 = .ok (.getfield 17, 3) := by decide +kernel
theorem dX1_append_4 : decode cX1_append 4 = .ok (.iload_n 3, 1) := by decide +kernel
theorem dX1_append_5 : decode cX1_append 5 = .ok (.iadd, 1) := by decide +kernel
theorem dX1_append_6 : decode cX1_append 6 = .ok (.istore 4, 2) := by decide +kernel
theorem dX1_append_8 : decode cX1_append 8 = .ok (.iload 4, 2) := by decide +kernel
theorem dX1_append_10 : decode cX1_append 10 = .ok (.bipush 80, 2) := by decide +kernel
theorem dX1_append_12 : decode cX1_append 12 = .ok (.if_icmp .le 5, 3) := by decide +kernel
theorem dX1_append_15 : decode cX1_append 15 = .ok (.iconst 0, 1) := by decide +kernel
theorem dX1_append_16 : decode cX1_append 16 = .ok (.ireturn, 1) := by decide +kernel
theorem dX1_append_17 : decode cX1_append 17 = .ok (.lload_n 1, 1) := by decide +kernel
theorem dX1_append_18 : decode cX1_append 18 = .ok (.lstore 5, 2) := by decide +kernel
theorem dX1_append_20 : decode cX1_append 20 = .ok (.iload 4, 2) := by decide +kernel
theorem dX1_append_22 : decode cX1_append 22 = .ok (.iconst 1, 1) := by decide +kernel
theorem dX1_append_23 : decode cX1_append 23 = .ok (.isub, 1) := by decide +kernel
theorem dX1_append_24 : decode cX1_append 24 = .ok (.istore 7, 2) := by decide +kernel
theorem dX1_append_26 : decode cX1_append 26 = .ok (.iload 7, 2) := by decide +kernel
theorem dX1_append_28 : decode cX1_append 28 = .ok (.aload_n 0, 1) := by decide +kernel
theorem dX1_append_29 : decode cX1_append 29 = .ok (.getfield 17, 3) := by decide +kernel
theorem dX1_append_32 : decode cX1_append 32 = .ok (.if_icmp .lt 35, 3) := by decide +kernel
theorem dX1_append_35 : decode cX1_append 35 = .ok (.iload 7, 2) := by decide +kernel
theorem dX1_append_37 : decode cX1_append 37 = .ok (.ifCond .lt 30, 3) := by decide +kernel
theorem dX1_append_40 : decode cX1_append 40 = .ok (.aload_n 0, 1) := by decide +kernel
theorem dX1_append_41 : decode cX1_append 41 = .ok (.getfield 11, 3) := by decide +kernel
theorem dX1_append_44 : decode cX1_append 44 = .ok (.iload 7, 2) := by decide +kernel
theorem dX1_append_46 : decode cX1_append 46 = .ok (.lload 5, 2) := by decide +kernel
theorem dX1_append_48 : decode cX1_append 48 = .ok (.ldc2_w 15, 3) := by decide +kernel
theorem dX1_append_51 : decode cX1_append 51 = .ok (.land, 1) := by decide +kernel
theorem dX1_append_52 : decode cX1_append 52 = .ok (.l2i, 1) := by decide +kernel
theorem dX1_append_53 : decode cX1_append 53 = .ok (.iastore, 1) := by decide +kernel
theorem dX1_append_54 : decode cX1_append 54 = .ok (.lload 5, 2) := by decide +kernel
theorem dX1_append_56 : decode cX1_append 56 = .ok (.bipush 8, 2) := by decide +kernel
theorem dX1_append_58 : decode cX1_append 58 = .ok (.lushr, 1) := by decide +kernel
theorem dX1_append_59 : decode cX1_append 59 = .ok (.lstore 5, 2) := by decide +kernel
theorem dX1_append_61 : decode cX1_append 61 = .ok (.iinc 7 (-1), 3) := by decide +kernel
theorem dX1_append_64 : decode cX1_append 64 = .ok (.goto (-38), 3) := by decide +kernel
theorem dX1_append_67 : decode cX1_append 67 = .ok (.aload_n 0, 1) := by decide +kernel
theorem dX1_append_68 : decode cX1_append 68 = .ok (.iload 4, 2) := by decide +kernel
theorem dX1_append_70 : decode cX1_append 70 = .ok (.putfield 17, 3) := by decide +kernel
theorem dX1_append_73 : decode cX1_append 73 = .ok (.iconst 1, 1) := by decide +kernel
theorem dX1_append_74 : decode cX1_append 74 = .ok (.ireturn, 1) := by decide +kernel
set_option maxRecDepth 20000 in
theorem ggX1_faultIndex_X1_isSign : GoodIn wsX1_faultIndex wsX1_isSign := goodIn_r _ [6, 7, 8, 5, 9] (by decide +kernel) (by decide +kernel)
set_option maxRecDepth 20000 in
theorem gX1_faultIndex_X1_isSign : GoodIn wsX1_faultIndex (va_wsS RX1 21 yX1_isSign wsX1_isSign) := goodIn_app (goodIn_of _ (by decide +kernel)) ggX1_faultIndex_X1_isSign
theorem dX1_faultIndex_0 : decode cX1_faultIndex 0 = .ok (.iconst 0, 1) := by decide +kernel
theorem dX1_faultIndex_1 : decode cX1_faultIndex 1 = .ok (.istore_n 1, 1) := by decide +kernel
theorem dX1_faultIndex_2 : decode cX1_faultIndex 2 = .ok (.iload_n 1, 1) := by decide +kernel
theorem dX1_faultIndex_3 : decode cX1_faultIndex 3 = .ok (.aload_n 0, 1) := by decide +kernel
theorem dX1_faultIndex_4 : decode cX1_faultIndex 4 = .ok (.getfield 17, 3) := by decide +kernel
theorem dX1_faultIndex_7 : decode cX1_faultIndex 7 = .ok (.if_icmp .ge 35, 3) := by decide +kernel
theorem dX1_faultIndex_10 : decode cX1_faultIndex 10 = .ok (.iload_n 1, 1) := by decide +kernel
theorem dX1_faultIndex_11 : decode cX1_faultIndex 11 = .ok (.bipush 80, 2) := by decide +kernel
theorem dX1_faultIndex_13 : decode cX1_faultIndex 13 = .ok (.if_icmp .ge 29, 3) := by decide +kernel
theorem dX1_faultIndex_16 : decode cX1_faultIndex 16 = .ok (.iload_n 1, 1) := by decide +kernel
theorem dX1_faultIndex_17 : decode cX1_faultIndex 17 = .ok (.bipush 10, 2) := by decide +kernel
theorem dX1_faultIndex_19 : decode cX1_faultIndex 19 = .ok (.if_icmp .ge 15, 3) := by decide +kernel
theorem dX1_faultIndex_22 : decode cX1_faultIndex 22 = .ok (.aload_n 0, 1) := by decide +kernel
theorem dX1_faultIndex_23 : decode cX1_faultIndex 23 = .ok (.getfield 11, 3) := by decide +kernel
theorem dX1_faultIndex_26 : decode cX1_faultIndex 26 = .ok (.iload_n 1, 1) := by decide +kernel
theorem dX1_faultIndex_27 : decode cX1_faultIndex 27 = .ok (.iaload, 1) := by decide +kernel
theorem dX1_faultIndex_28 : decode cX1_faultIndex 28 = .ok (.invokestatic 21, 3) := by decide +kernel
theorem dX1_faultIndex_31 : decode cX1_faultIndex 31 = .ok (.ifCond .ne 5, 3) := by decide +kernel
theorem dX1_faultIndex_34 : decode cX1_faultIndex 34 = .ok (.iload_n 1, 1) := by decide +kernel
theorem dX1_faultIndex_35 : decode cX1_faultIndex 35 = .ok (.ireturn, 1) := by decide +kernel
theorem dX1_faultIndex_36 : decode cX1_faultIndex 36 = .ok (.iinc 1 1, 3) := by decide +kernel
theorem dX1_faultIndex_39 : decode cX1_faultIndex 39 = .ok (.goto (-37), 3) := by decide +kernel
theorem dX1_faultIndex_42 : decode cX1_faultIndex 42 = .ok (.aload_n 0, 1) := by decide +kernel
theorem dX1_faultIndex_43 : decode cX1_faultIndex 43 = .ok (.getfield 17, 3) := by decide +kernel
theorem dX1_faultIndex_46 : decode cX1_faultIndex 46 = .ok (.bipush 10, 2) := by decide +kernel
theorem dX1_faultIndex_48 : decode cX1_faultIndex 48 = .ok (.if_icmp .ge 10, 3) := by decide +kernel
theorem dX1_faultIndex_51 : decode cX1_faultIndex 51 = .ok (.aload_n 0, 1) := by decide +kernel
theorem dX1_faultIndex_52 : decode cX1_faultIndex 52 = .ok (.getfield 17, 3) := by decide +kernel
theorem dX1_faultIndex_55 : decode cX1_faultIndex 55 = .ok (.goto 5, 3) := by decide +kernel
theorem dX1_faultIndex_58 : decode cX1_faultIndex 58 = .ok (.bipush (-6), 2) := by decide +kernel
theorem dX1_faultIndex_60 : decode cX1_faultIndex 60 = .ok (.ireturn, 1) := by decide +kernel
set_option maxRecDepth 20000 in
theorem ggX1_tellsSheet_X1_faultIndex : GoodIn wsX1_tellsSheet wsX1_faultIndex := goodIn_r _ [5, 6, 7, 8, 9, 4, 10, 11, 12, 13, 14, 15] (by decide +kernel) (by decide +kernel)
set_option maxRecDepth 20000 in
theorem gX1_tellsSheet_X1_faultIndex : GoodIn wsX1_tellsSheet (wsV RX1 25 RX1 yX1_faultIndex wsX1_faultIndex) := goodIn_app (goodIn_of _ (by decide +kernel)) ggX1_tellsSheet_X1_faultIndex
theorem dX1_tellsSheet_0 : decode cX1_tellsSheet 0 = .ok (.aload_n 0, 1) := by decide +kernel
theorem dX1_tellsSheet_1 : decode cX1_tellsSheet 1 = .ok (.invokevirtual 25, 3) := by decide +kernel
theorem dX1_tellsSheet_4 : decode cX1_tellsSheet 4 = .ok (.bipush (-6), 2) := by decide +kernel
theorem dX1_tellsSheet_6 : decode cX1_tellsSheet 6 = .ok (.if_icmp .ne 7, 3) := by decide +kernel
theorem dX1_tellsSheet_9 : decode cX1_tellsSheet 9 = .ok (.iconst 1, 1) := by decide +kernel
theorem dX1_tellsSheet_10 : decode cX1_tellsSheet 10 = .ok (.goto 4, 3) := by decide +kernel
theorem dX1_tellsSheet_13 : decode cX1_tellsSheet 13 = .ok (.iconst 0, 1) := by decide +kernel
theorem dX1_tellsSheet_14 : decode cX1_tellsSheet 14 = .ok (.ireturn, 1) := by decide +kernel
set_option maxRecDepth 20000 in
theorem ggX1_tellsKey_X1_tellsSheet : GoodIn wsX1_tellsKey wsX1_tellsSheet := goodIn_r _ [6, 7, 8, 9, 5, 10, 11, 1, 12, 13, 14, 15, 16, 17, 18, 19] (by decide +kernel) (by decide +kernel)
set_option maxRecDepth 20000 in
theorem gX1_tellsKey_X1_tellsSheet : GoodIn wsX1_tellsKey (wsV RX1 29 RX1 yX1_tellsSheet wsX1_tellsSheet) := goodIn_app (goodIn_of _ (by decide +kernel)) ggX1_tellsKey_X1_tellsSheet
set_option maxRecDepth 20000 in
theorem ggX1_tellsKey_X1_isDigit : GoodIn wsX1_tellsKey wsX1_isDigit := goodIn_r _ [17] (by decide +kernel) (by decide +kernel)
set_option maxRecDepth 20000 in
theorem gX1_tellsKey_X1_isDigit : GoodIn wsX1_tellsKey (va_wsS RX1 33 yX1_isDigit wsX1_isDigit) := goodIn_app (goodIn_of _ (by decide +kernel)) ggX1_tellsKey_X1_isDigit
theorem dX1_tellsKey_0 : decode cX1_tellsKey 0 = .ok (.aload_n 0, 1) := by decide +kernel
theorem dX1_tellsKey_1 : decode cX1_tellsKey 1 = .ok (.invokevirtual 29, 3) := by decide +kernel
theorem dX1_tellsKey_4 : decode cX1_tellsKey 4 = .ok (.ifCond .ne 5, 3) := by decide +kernel
theorem dX1_tellsKey_7 : decode cX1_tellsKey 7 = .ok (.iconst 0, 1) := by decide +kernel
theorem dX1_tellsKey_8 : decode cX1_tellsKey 8 = .ok (.ireturn, 1) := by decide +kernel
theorem dX1_tellsKey_9 : decode cX1_tellsKey 9 = .ok (.iconst 0, 1) := by decide +kernel
theorem dX1_tellsKey_10 : decode cX1_tellsKey 10 = .ok (.istore_n 1, 1) := by decide +kernel
theorem dX1_tellsKey_11 : decode cX1_tellsKey 11 = .ok (.iload_n 1, 1) := by decide +kernel
theorem dX1_tellsKey_12 : decode cX1_tellsKey 12 = .ok (.bipush 10, 2) := by decide +kernel
theorem dX1_tellsKey_14 : decode cX1_tellsKey 14 = .ok (.if_icmp .ge 23, 3) := by decide +kernel
theorem dX1_tellsKey_17 : decode cX1_tellsKey 17 = .ok (.aload_n 0, 1) := by decide +kernel
theorem dX1_tellsKey_18 : decode cX1_tellsKey 18 = .ok (.getfield 11, 3) := by decide +kernel
theorem dX1_tellsKey_21 : decode cX1_tellsKey 21 = .ok (.iload_n 1, 1) := by decide +kernel
theorem dX1_tellsKey_22 : decode cX1_tellsKey 22 = .ok (.iaload, 1) := by decide +kernel
theorem dX1_tellsKey_23 : decode cX1_tellsKey 23 = .ok (.invokestatic 33, 3) := by decide +kernel
theorem dX1_tellsKey_26 : decode cX1_tellsKey 26 = .ok (.ifCond .ne 5, 3) := by decide +kernel
theorem dX1_tellsKey_29 : decode cX1_tellsKey 29 = .ok (.iconst 0, 1) := by decide +kernel
theorem dX1_tellsKey_30 : decode cX1_tellsKey 30 = .ok (.ireturn, 1) := by decide +kernel
theorem dX1_tellsKey_31 : decode cX1_tellsKey 31 = .ok (.iinc 1 1, 3) := by decide +kernel
theorem dX1_tellsKey_34 : decode cX1_tellsKey 34 = .ok (.goto (-23), 3) := by decide +kernel
theorem dX1_tellsKey_37 : decode cX1_tellsKey 37 = .ok (.iconst 1, 1) := by decide +kernel
theorem dX1_tellsKey_38 : decode cX1_tellsKey 38 = .ok (.ireturn, 1) := by decide +kernel
set_option maxRecDepth 20000 in
theorem ggX1_signs_X1_isDigit : GoodIn wsX1_signs wsX1_isDigit := goodIn_r _ [5] (by decide +kernel) (by decide +kernel)
set_option maxRecDepth 20000 in
theorem gX1_signs_X1_isDigit : GoodIn wsX1_signs (va_wsS RX1 33 yX1_isDigit wsX1_isDigit) := goodIn_app (goodIn_of _ (by decide +kernel)) ggX1_signs_X1_isDigit
set_option maxRecDepth 20000 in
theorem ggX1_signs_X2_withSign : GoodIn wsX1_signs wsX2_withSign := goodIn_r _ [9] (by decide +kernel) (by decide +kernel)
set_option maxRecDepth 20000 in
theorem gX1_signs_X2_withSign : GoodIn wsX1_signs (va_wsS RX1 38 yX2_withSign wsX2_withSign) := goodIn_app (goodIn_of _ (by decide +kernel)) ggX1_signs_X2_withSign
theorem dX1_signs_0 : decode cX1_signs 0 = .ok (.lconst 0, 1) := by decide +kernel
theorem dX1_signs_1 : decode cX1_signs 1 = .ok (.lstore_n 1, 1) := by decide +kernel
theorem dX1_signs_2 : decode cX1_signs 2 = .ok (.iconst 0, 1) := by decide +kernel
theorem dX1_signs_3 : decode cX1_signs 3 = .ok (.istore_n 3, 1) := by decide +kernel
theorem dX1_signs_4 : decode cX1_signs 4 = .ok (.iload_n 3, 1) := by decide +kernel
theorem dX1_signs_5 : decode cX1_signs 5 = .ok (.bipush 10, 2) := by decide +kernel
theorem dX1_signs_7 : decode cX1_signs 7 = .ok (.if_icmp .ge 45, 3) := by decide +kernel
theorem dX1_signs_10 : decode cX1_signs 10 = .ok (.aload_n 0, 1) := by decide +kernel
theorem dX1_signs_11 : decode cX1_signs 11 = .ok (.getfield 11, 3) := by decide +kernel
theorem dX1_signs_14 : decode cX1_signs 14 = .ok (.iload_n 3, 1) := by decide +kernel
theorem dX1_signs_15 : decode cX1_signs 15 = .ok (.iaload, 1) := by decide +kernel
theorem dX1_signs_16 : decode cX1_signs 16 = .ok (.invokestatic 33, 3) := by decide +kernel
theorem dX1_signs_19 : decode cX1_signs 19 = .ok (.ifCond .eq 15, 3) := by decide +kernel
theorem dX1_signs_22 : decode cX1_signs 22 = .ok (.aload_n 0, 1) := by decide +kernel
theorem dX1_signs_23 : decode cX1_signs 23 = .ok (.getfield 11, 3) := by decide +kernel
theorem dX1_signs_26 : decode cX1_signs 26 = .ok (.iload_n 3, 1) := by decide +kernel
theorem dX1_signs_27 : decode cX1_signs 27 = .ok (.iaload, 1) := by decide +kernel
theorem dX1_signs_28 : decode cX1_signs 28 = .ok (.bipush 48, 2) := by decide +kernel
theorem dX1_signs_30 : decode cX1_signs 30 = .ok (.isub, 1) := by decide +kernel
theorem dX1_signs_31 : decode cX1_signs 31 = .ok (.goto 5, 3) := by decide +kernel
theorem dX1_signs_34 : decode cX1_signs 34 = .ok (.bipush 15, 2) := by decide +kernel
theorem dX1_signs_36 : decode cX1_signs 36 = .ok (.istore 4, 2) := by decide +kernel
theorem dX1_signs_38 : decode cX1_signs 38 = .ok (.lload_n 1, 1) := by decide +kernel
theorem dX1_signs_39 : decode cX1_signs 39 = .ok (.iload_n 3, 1) := by decide +kernel
theorem dX1_signs_40 : decode cX1_signs 40 = .ok (.iload 4, 2) := by decide +kernel
theorem dX1_signs_42 : decode cX1_signs 42 = .ok (.invokestatic 38, 3) := by decide +kernel
theorem dX1_signs_45 : decode cX1_signs 45 = .ok (.lstore_n 1, 1) := by decide +kernel
theorem dX1_signs_46 : decode cX1_signs 46 = .ok (.iinc 3 1, 3) := by decide +kernel
theorem dX1_signs_49 : decode cX1_signs 49 = .ok (.goto (-45), 3) := by decide +kernel
theorem dX1_signs_52 : decode cX1_signs 52 = .ok (.lload_n 1, 1) := by decide +kernel
theorem dX1_signs_53 : decode cX1_signs 53 = .ok (.lreturn, 1) := by decide +kernel
set_option maxRecDepth 20000 in
theorem ggX1_isSign_X1_isDigit : GoodIn wsX1_isSign wsX1_isDigit := goodIn_r _ [4] (by decide +kernel) (by decide +kernel)
set_option maxRecDepth 20000 in
theorem gX1_isSign_X1_isDigit : GoodIn wsX1_isSign (va_wsS RX1 33 yX1_isDigit wsX1_isDigit) := goodIn_app (goodIn_of _ (by decide +kernel)) ggX1_isSign_X1_isDigit
theorem dX1_isSign_0 : decode cX1_isSign 0 = .ok (.iload_n 0, 1) := by decide +kernel
theorem dX1_isSign_1 : decode cX1_isSign 1 = .ok (.bipush 45, 2) := by decide +kernel
theorem dX1_isSign_3 : decode cX1_isSign 3 = .ok (.if_icmp .eq 10, 3) := by decide +kernel
theorem dX1_isSign_6 : decode cX1_isSign 6 = .ok (.iload_n 0, 1) := by decide +kernel
theorem dX1_isSign_7 : decode cX1_isSign 7 = .ok (.invokestatic 33, 3) := by decide +kernel
theorem dX1_isSign_10 : decode cX1_isSign 10 = .ok (.ifCond .eq 7, 3) := by decide +kernel
theorem dX1_isSign_13 : decode cX1_isSign 13 = .ok (.iconst 1, 1) := by decide +kernel
theorem dX1_isSign_14 : decode cX1_isSign 14 = .ok (.goto 4, 3) := by decide +kernel
theorem dX1_isSign_17 : decode cX1_isSign 17 = .ok (.iconst 0, 1) := by decide +kernel
theorem dX1_isSign_18 : decode cX1_isSign 18 = .ok (.ireturn, 1) := by decide +kernel
theorem dX1_isDigit_0 : decode cX1_isDigit 0 = .ok (.iload_n 0, 1) := by decide +kernel
theorem dX1_isDigit_1 : decode cX1_isDigit 1 = .ok (.bipush 48, 2) := by decide +kernel
theorem dX1_isDigit_3 : decode cX1_isDigit 3 = .ok (.if_icmp .lt 13, 3) := by decide +kernel
theorem dX1_isDigit_6 : decode cX1_isDigit 6 = .ok (.iload_n 0, 1) := by decide +kernel
theorem dX1_isDigit_7 : decode cX1_isDigit 7 = .ok (.bipush 57, 2) := by decide +kernel
theorem dX1_isDigit_9 : decode cX1_isDigit 9 = .ok (.if_icmp .gt 7, 3) := by decide +kernel
theorem dX1_isDigit_12 : decode cX1_isDigit 12 = .ok (.iconst 1, 1) := by decide +kernel
theorem dX1_isDigit_13 : decode cX1_isDigit 13 = .ok (.goto 4, 3) := by decide +kernel
theorem dX1_isDigit_16 : decode cX1_isDigit 16 = .ok (.iconst 0, 1) := by decide +kernel
theorem dX1_isDigit_17 : decode cX1_isDigit 17 = .ok (.ireturn, 1) := by decide +kernel
theorem dX2_signAt_0 : decode cX2_signAt 0 = .ok (.lload_n 0, 1) := by decide +kernel
theorem dX2_signAt_1 : decode cX2_signAt 1 = .ok (.iconst 4, 1) := by decide +kernel
theorem dX2_signAt_2 : decode cX2_signAt 2 = .ok (.iload_n 2, 1) := by decide +kernel
theorem dX2_signAt_3 : decode cX2_signAt 3 = .ok (.imul, 1) := by decide +kernel
theorem dX2_signAt_4 : decode cX2_signAt 4 = .ok (.lushr, 1) := by decide +kernel
theorem dX2_signAt_5 : decode cX2_signAt 5 = .ok (.l2i, 1) := by decide +kernel
theorem dX2_signAt_6 : decode cX2_signAt 6 = .ok (.bipush 15, 2) := by decide +kernel
theorem dX2_signAt_8 : decode cX2_signAt 8 = .ok (.iand, 1) := by decide +kernel
theorem dX2_signAt_9 : decode cX2_signAt 9 = .ok (.ireturn, 1) := by decide +kernel
theorem dX2_withSign_0 : decode cX2_withSign 0 = .ok (.lload_n 0, 1) := by decide +kernel
theorem dX2_withSign_1 : decode cX2_withSign 1 = .ok (.iload_n 3, 1) := by decide +kernel
theorem dX2_withSign_2 : decode cX2_withSign 2 = .ok (.i2l, 1) := by decide +kernel
theorem dX2_withSign_3 : decode cX2_withSign 3 = .ok (.iconst 4, 1) := by decide +kernel
theorem dX2_withSign_4 : decode cX2_withSign 4 = .ok (.iload_n 2, 1) := by decide +kernel
theorem dX2_withSign_5 : decode cX2_withSign 5 = .ok (.imul, 1) := by decide +kernel
theorem dX2_withSign_6 : decode cX2_withSign 6 = .ok (.lshl, 1) := by decide +kernel
theorem dX2_withSign_7 : decode cX2_withSign 7 = .ok (.lor, 1) := by decide +kernel
theorem dX2_withSign_8 : decode cX2_withSign 8 = .ok (.lreturn, 1) := by decide +kernel
set_option maxRecDepth 20000 in
theorem ggX3_init_J7_fill_53178 : GoodIn wsX3_init wsJ7_fill_53178 := goodIn_r _ [21] (by decide +kernel) (by decide +kernel)
set_option maxRecDepth 20000 in
theorem gX3_init_J7_fill_53178 : GoodIn wsX3_init (va_wsS RX3 47 yJ7_fill_53178 wsJ7_fill_53178) := goodIn_app (goodIn_of _ (by decide +kernel)) ggX3_init_J7_fill_53178
set_option maxRecDepth 20000 in
theorem ggX3_init_J7_fill_d0a16 : GoodIn wsX3_init wsJ7_fill_d0a16 := goodIn_r _ [24] (by decide +kernel) (by decide +kernel)
set_option maxRecDepth 20000 in
theorem gX3_init_J7_fill_d0a16 : GoodIn wsX3_init (va_wsS RX3 57 yJ7_fill_d0a16 wsJ7_fill_d0a16) := goodIn_app (goodIn_of _ (by decide +kernel)) ggX3_init_J7_fill_d0a16
theorem dX3_init_0 : decode cX3_init 0 = .ok (.aload_n 0, 1) := by decide +kernel
theorem dX3_init_1 : decode cX3_init 1 = .ok (.invokespecial 3, 3) := by decide +kernel
theorem dX3_init_4 : decode cX3_init 4 = .ok (.aload_n 0, 1) := by decide +kernel
theorem dX3_init_5 : decode cX3_init 5 = .ok (.iconst 4, 1) := by decide +kernel
theorem dX3_init_6 : decode cX3_init 6 = .ok (.newarray .int, 2) := by decide +kernel
theorem dX3_init_8 : decode cX3_init 8 = .ok (.dup, 1) := by decide +kernel
theorem dX3_init_9 : decode cX3_init 9 = .ok (.iconst 0, 1) := by decide +kernel
theorem dX3_init_10 : decode cX3_init 10 = .ok (.bipush 10, 2) := by decide +kernel
theorem dX3_init_12 : decode cX3_init 12 = .ok (.iastore, 1) := by decide +kernel
theorem dX3_init_13 : decode cX3_init 13 = .ok (.dup, 1) := by decide +kernel
theorem dX3_init_14 : decode cX3_init 14 = .ok (.iconst 1, 1) := by decide +kernel
theorem dX3_init_15 : decode cX3_init 15 = .ok (.bipush 10, 2) := by decide +kernel
theorem dX3_init_17 : decode cX3_init 17 = .ok (.iastore, 1) := by decide +kernel
theorem dX3_init_18 : decode cX3_init 18 = .ok (.dup, 1) := by decide +kernel
theorem dX3_init_19 : decode cX3_init 19 = .ok (.iconst 2, 1) := by decide +kernel
theorem dX3_init_20 : decode cX3_init 20 = .ok (.iconst 0, 1) := by decide +kernel
theorem dX3_init_21 : decode cX3_init 21 = .ok (.iastore, 1) := by decide +kernel
theorem dX3_init_22 : decode cX3_init 22 = .ok (.dup, 1) := by decide +kernel
theorem dX3_init_23 : decode cX3_init 23 = .ok (.iconst 3, 1) := by decide +kernel
theorem dX3_init_24 : decode cX3_init 24 = .ok (.iconst 2, 1) := by decide +kernel
theorem dX3_init_25 : decode cX3_init 25 = .ok (.iastore, 1) := by decide +kernel
theorem dX3_init_26 : decode cX3_init 26 = .ok (.putfield 9, 3) := by decide +kernel
theorem dX3_init_29 : decode cX3_init 29 = .ok (.aload_n 0, 1) := by decide +kernel
theorem dX3_init_30 : decode cX3_init 30 = .ok (.bipush 10, 2) := by decide +kernel
theorem dX3_init_32 : decode cX3_init 32 = .ok (.newarray .int, 2) := by decide +kernel
theorem dX3_init_34 : decode cX3_init 34 = .ok (.putfield 15, 3) := by decide +kernel
theorem dX3_init_37 : decode cX3_init 37 = .ok (.aload_n 0, 1) := by decide +kernel
theorem dX3_init_38 : decode cX3_init 38 = .ok (.bipush 10, 2) := by decide +kernel
theorem dX3_init_40 : decode cX3_init 40 = .ok (.newarray .int, 2) := by decide +kernel
theorem dX3_init_42 : decode cX3_init 42 = .ok (.putfield 18, 3) := by decide +kernel
theorem dX3_init_45 : decode cX3_init 45 = .ok (.aload_n 0, 1) := by decide +kernel
theorem dX3_init_46 : decode cX3_init 46 = .ok (.bipush 10, 2) := by decide +kernel
theorem dX3_init_48 : decode cX3_init 48 = .ok (.newarray .int, 2) := by decide +kernel
theorem dX3_init_50 : decode cX3_init 50 = .ok (.putfield 21, 3) := by decide +kernel
theorem dX3_init_53 : decode cX3_init 53 = .ok (.aload_n 0, 1) := by decide +kernel
theorem dX3_init_54 : decode cX3_init 54 = .ok (.bipush 10, 2) := by decide +kernel
theorem dX3_init_56 : decode cX3_init 56 = .ok (.newarray .int, 2) := by decide +kernel
theorem dX3_init_58 : decode cX3_init 58 = .ok (.putfield 24, 3) := by decide +kernel
theorem dX3_init_61 : decode cX3_init 61 = .ok (.aload_n 0, 1) := by decide +kernel
theorem dX3_init_62 : decode cX3_init 62 = .ok (.bipush 8, 2) := by decide +kernel
theorem dX3_init_64 : decode cX3_init 64 = .ok (.newarray .long, 2) := by decide +kernel
theorem dX3_init_66 : decode cX3_init 66 = .ok (.putfield 27, 3) := by decide +kernel
theorem dX3_init_69 : decode cX3_init 69 = .ok (.aload_n 0, 1) := by decide +kernel
theorem dX3_init_70 : decode cX3_init 70 = .ok (.bipush 80, 2) := by decide +kernel
theorem dX3_init_72 : decode cX3_init 72 = .ok (.newarray .long, 2) := by decide +kernel
theorem dX3_init_74 : decode cX3_init 74 = .ok (.putfield 31, 3) := by decide +kernel
theorem dX3_init_77 : decode cX3_init 77 = .ok (.aload_n 0, 1) := by decide +kernel
theorem dX3_init_78 : decode cX3_init 78 = .ok (.bipush 80, 2) := by decide +kernel
theorem dX3_init_80 : decode cX3_init 80 = .ok (.newarray .int, 2) := by decide +kernel
theorem dX3_init_82 : decode cX3_init 82 = .ok (.putfield 34, 3) := by decide +kernel
theorem dX3_init_85 : decode cX3_init 85 = .ok (.aload_n 0, 1) := by decide +kernel
theorem dX3_init_86 : decode cX3_init 86 = .ok (.bipush 80, 2) := by decide +kernel
theorem dX3_init_88 : decode cX3_init 88 = .ok (.newarray .int, 2) := by decide +kernel
theorem dX3_init_90 : decode cX3_init 90 = .ok (.putfield 37, 3) := by decide +kernel
theorem dX3_init_93 : decode cX3_init 93 = .ok (.aload_n 0, 1) := by decide +kernel
theorem dX3_init_94 : decode cX3_init 94 = .ok (.bipush 8, 2) := by decide +kernel
theorem dX3_init_96 : decode cX3_init 96 = .ok (.newarray .int, 2) := by decide +kernel
theorem dX3_init_98 : decode cX3_init 98 = .ok (.putfield 40, 3) := by decide +kernel
theorem dX3_init_101 : decode cX3_init 101 = .ok (.aload_n 0, 1) := by decide +kernel
theorem dX3_init_102 : decode cX3_init 102 = .ok (.bipush (-6), 2) := by decide +kernel
theorem dX3_init_104 : decode cX3_init 104 = .ok (.putfield 43, 3) := by decide +kernel
theorem dX3_init_107 : decode cX3_init 107 = .ok (.aload_n 0, 1) := by decide +kernel
theorem dX3_init_108 : decode cX3_init 108 = .ok (.getfield 18, 3) := by decide +kernel
theorem dX3_init_111 : decode cX3_init 111 = .ok (.bipush (-6), 2) := by decide +kernel
theorem dX3_init_113 : decode cX3_init 113 = .ok (.invokestatic 47, 3) := by decide +kernel
theorem dX3_init_116 : decode cX3_init 116 = .ok (.aload_n 0, 1) := by decide +kernel
theorem dX3_init_117 : decode cX3_init 117 = .ok (.getfield 24, 3) := by decide +kernel
theorem dX3_init_120 : decode cX3_init 120 = .ok (.bipush (-6), 2) := by decide +kernel
theorem dX3_init_122 : decode cX3_init 122 = .ok (.invokestatic 47, 3) := by decide +kernel
theorem dX3_init_125 : decode cX3_init 125 = .ok (.aload_n 0, 1) := by decide +kernel
theorem dX3_init_126 : decode cX3_init 126 = .ok (.getfield 27, 3) := by decide +kernel
theorem dX3_init_129 : decode cX3_init 129 = .ok (.ldc2_w 55, 3) := by decide +kernel
theorem dX3_init_132 : decode cX3_init 132 = .ok (.invokestatic 57, 3) := by decide +kernel
theorem dX3_init_135 : decode cX3_init 135 = .ok (.aload_n 0, 1) := by decide +kernel
theorem dX3_init_136 : decode cX3_init 136 = .ok (.getfield 31, 3) := by decide +kernel
theorem dX3_init_139 : decode cX3_init 139 = .ok (.ldc2_w 55, 3) := by decide +kernel
theorem dX3_init_142 : decode cX3_init 142 = .ok (.invokestatic 57, 3) := by decide +kernel
theorem dX3_init_145 : decode cX3_init 145 = .ok (.aload_n 0, 1) := by decide +kernel
theorem dX3_init_146 : decode cX3_init 146 = .ok (.getfield 37, 3) := by decide +kernel
theorem dX3_init_149 : decode cX3_init 149 = .ok (.bipush (-6), 2) := by decide +kernel
theorem dX3_init_151 : decode cX3_init 151 = .ok (.invokestatic 47, 3) := by decide +kernel
theorem dX3_init_154 : decode cX3_init 154 = .ok (.return_, 1) := by decide +kernel
theorem dX3_copy_0 : decode cX3_copy 0 = .ok (.aload_n 0, 1) := by decide +kernel
theorem dX3_copy_1 : decode cX3_copy 1 = .ok (.ifnull 7, 3) := by decide +kernel
theorem dX3_copy_4 : decode cX3_copy 4 = .ok (.aload_n 1, 1) := by decide +kernel
theorem dX3_copy_5 : decode cX3_copy 5 = .ok (.ifnonnull 4, 3) := by decide +kernel
theorem dX3_copy_8 : decode cX3_copy 8 = .ok (.return_, 1) := by decide +kernel
theorem dX3_copy_9 : decode cX3_copy 9 = .ok (.aload_n 0, 1) := by decide +kernel
theorem dX3_copy_10 : decode cX3_copy 10 = .ok (.getfield 9, 3) := by decide +kernel
theorem dX3_copy_13 : decode cX3_copy 13 = .ok (.iconst 0, 1) := by decide +kernel
theorem dX3_copy_14 : decode cX3_copy 14 = .ok (.aload_n 1, 1) := by decide +kernel
theorem dX3_copy_15 : decode cX3_copy 15 = .ok (.getfield 9, 3) := by decide +kernel
theorem dX3_copy_18 : decode cX3_copy 18 = .ok (.iconst 0, 1) := by decide +kernel
theorem dX3_copy_19 : decode cX3_copy 19 = .ok (.iconst 4, 1) := by decide +kernel
theorem dX3_copy_20 : decode cX3_copy 20 = .ok (.invokestatic 60, 3) := by decide +kernel
theorem dX3_copy_23 : decode cX3_copy 23 = .ok (.aload_n 0, 1) := by decide +kernel
theorem dX3_copy_24 : decode cX3_copy 24 = .ok (.getfield 15, 3) := by decide +kernel
theorem dX3_copy_27 : decode cX3_copy 27 = .ok (.iconst 0, 1) := by decide +kernel
theorem dX3_copy_28 : decode cX3_copy 28 = .ok (.aload_n 1, 1) := by decide +kernel
theorem dX3_copy_29 : decode cX3_copy 29 = .ok (.getfield 15, 3) := by decide +kernel
theorem dX3_copy_32 : decode cX3_copy 32 = .ok (.iconst 0, 1) := by decide +kernel
theorem dX3_copy_33 : decode cX3_copy 33 = .ok (.bipush 10, 2) := by decide +kernel
theorem dX3_copy_35 : decode cX3_copy 35 = .ok (.invokestatic 60, 3) := by decide +kernel
theorem dX3_copy_38 : decode cX3_copy 38 = .ok (.aload_n 0, 1) := by decide +kernel
theorem dX3_copy_39 : decode cX3_copy 39 = .ok (.getfield 18, 3) := by decide +kernel
theorem dX3_copy_42 : decode cX3_copy 42 = .ok (.iconst 0, 1) := by decide +kernel
theorem dX3_copy_43 : decode cX3_copy 43 = .ok (.aload_n 1, 1) := by decide +kernel
theorem dX3_copy_44 : decode cX3_copy 44 = .ok (.getfield 18, 3) := by decide +kernel
theorem dX3_copy_47 : decode cX3_copy 47 = .ok (.iconst 0, 1) := by decide +kernel
theorem dX3_copy_48 : decode cX3_copy 48 = .ok (.bipush 10, 2) := by decide +kernel
theorem dX3_copy_50 : decode cX3_copy 50 = .ok (.invokestatic 60, 3) := by decide +kernel
theorem dX3_copy_53 : decode cX3_copy 53 = .ok (.aload_n 0, 1) := by decide +kernel
theorem dX3_copy_54 : decode cX3_copy 54 = .ok (.getfield 21, 3) := by decide +kernel
theorem dX3_copy_57 : decode cX3_copy 57 = .ok (.iconst 0, 1) := by decide +kernel
theorem dX3_copy_58 : decode cX3_copy 58 = .ok (.aload_n 1, 1) := by decide +kernel
theorem dX3_copy_59 : decode cX3_copy 59 = .ok (.getfield 21, 3) := by decide +kernel
theorem dX3_copy_62 : decode cX3_copy 62 = .ok (.iconst 0, 1) := by decide +kernel
theorem dX3_copy_63 : decode cX3_copy 63 = .ok (.bipush 10, 2) := by decide +kernel
theorem dX3_copy_65 : decode cX3_copy 65 = .ok (.invokestatic 60, 3) := by decide +kernel
theorem dX3_copy_68 : decode cX3_copy 68 = .ok (.aload_n 0, 1) := by decide +kernel
theorem dX3_copy_69 : decode cX3_copy 69 = .ok (.getfield 24, 3) := by decide +kernel
theorem dX3_copy_72 : decode cX3_copy 72 = .ok (.iconst 0, 1) := by decide +kernel
theorem dX3_copy_73 : decode cX3_copy 73 = .ok (.aload_n 1, 1) := by decide +kernel
theorem dX3_copy_74 : decode cX3_copy 74 = .ok (.getfield 24, 3) := by decide +kernel
theorem dX3_copy_77 : decode cX3_copy 77 = .ok (.iconst 0, 1) := by decide +kernel
theorem dX3_copy_78 : decode cX3_copy 78 = .ok (.bipush 10, 2) := by decide +kernel
theorem dX3_copy_80 : decode cX3_copy 80 = .ok (.invokestatic 60, 3) := by decide +kernel
theorem dX3_copy_83 : decode cX3_copy 83 = .ok (.aload_n 0, 1) := by decide +kernel
theorem dX3_copy_84 : decode cX3_copy 84 = .ok (.getfield 27, 3) := by decide +kernel
theorem dX3_copy_87 : decode cX3_copy 87 = .ok (.iconst 0, 1) := by decide +kernel
theorem dX3_copy_88 : decode cX3_copy 88 = .ok (.aload_n 1, 1) := by decide +kernel
theorem dX3_copy_89 : decode cX3_copy 89 = .ok (.getfield 27, 3) := by decide +kernel
theorem dX3_copy_92 : decode cX3_copy 92 = .ok (.iconst 0, 1) := by decide +kernel
theorem dX3_copy_93 : decode cX3_copy 93 = .ok (.bipush 8, 2) := by decide +kernel
theorem dX3_copy_95 : decode cX3_copy 95 = .ok (.invokestatic 60, 3) := by decide +kernel
theorem dX3_copy_98 : decode cX3_copy 98 = .ok (.aload_n 0, 1) := by decide +kernel
theorem dX3_copy_99 : decode cX3_copy 99 = .ok (.getfield 31, 3) := by decide +kernel
theorem dX3_copy_102 : decode cX3_copy 102 = .ok (.iconst 0, 1) := by decide +kernel
theorem dX3_copy_103 : decode cX3_copy 103 = .ok (.aload_n 1, 1) := by decide +kernel
theorem dX3_copy_104 : decode cX3_copy 104 = .ok (.getfield 31, 3) := by decide +kernel
theorem dX3_copy_107 : decode cX3_copy 107 = .ok (.iconst 0, 1) := by decide +kernel
theorem dX3_copy_108 : decode cX3_copy 108 = .ok (.bipush 80, 2) := by decide +kernel
theorem dX3_copy_110 : decode cX3_copy 110 = .ok (.invokestatic 60, 3) := by decide +kernel
theorem dX3_copy_113 : decode cX3_copy 113 = .ok (.aload_n 0, 1) := by decide +kernel
theorem dX3_copy_114 : decode cX3_copy 114 = .ok (.getfield 34, 3) := by decide +kernel
theorem dX3_copy_117 : decode cX3_copy 117 = .ok (.iconst 0, 1) := by decide +kernel
theorem dX3_copy_118 : decode cX3_copy 118 = .ok (.aload_n 1, 1) := by decide +kernel
theorem dX3_copy_119 : decode cX3_copy 119 = .ok (.getfield 34, 3) := by decide +kernel
theorem dX3_copy_122 : decode cX3_copy 122 = .ok (.iconst 0, 1) := by decide +kernel
theorem dX3_copy_123 : decode cX3_copy 123 = .ok (.bipush 80, 2) := by decide +kernel
theorem dX3_copy_125 : decode cX3_copy 125 = .ok (.invokestatic 60, 3) := by decide +kernel
theorem dX3_copy_128 : decode cX3_copy 128 = .ok (.aload_n 0, 1) := by decide +kernel
theorem dX3_copy_129 : decode cX3_copy 129 = .ok (.getfield 37, 3) := by decide +kernel
theorem dX3_copy_132 : decode cX3_copy 132 = .ok (.iconst 0, 1) := by decide +kernel
theorem dX3_copy_133 : decode cX3_copy 133 = .ok (.aload_n 1, 1) := by decide +kernel
theorem dX3_copy_134 : decode cX3_copy 134 = .ok (.getfield 37, 3) := by decide +kernel
theorem dX3_copy_137 : decode cX3_copy 137 = .ok (.iconst 0, 1) := by decide +kernel
theorem dX3_copy_138 : decode cX3_copy 138 = .ok (.bipush 80, 2) := by decide +kernel
theorem dX3_copy_140 : decode cX3_copy 140 = .ok (.invokestatic 60, 3) := by decide +kernel
theorem dX3_copy_143 : decode cX3_copy 143 = .ok (.aload_n 0, 1) := by decide +kernel
theorem dX3_copy_144 : decode cX3_copy 144 = .ok (.getfield 40, 3) := by decide +kernel
theorem dX3_copy_147 : decode cX3_copy 147 = .ok (.iconst 0, 1) := by decide +kernel
theorem dX3_copy_148 : decode cX3_copy 148 = .ok (.aload_n 1, 1) := by decide +kernel
theorem dX3_copy_149 : decode cX3_copy 149 = .ok (.getfield 40, 3) := by decide +kernel
theorem dX3_copy_152 : decode cX3_copy 152 = .ok (.iconst 0, 1) := by decide +kernel
theorem dX3_copy_153 : decode cX3_copy 153 = .ok (.bipush 8, 2) := by decide +kernel
theorem dX3_copy_155 : decode cX3_copy 155 = .ok (.invokestatic 60, 3) := by decide +kernel
theorem dX3_copy_158 : decode cX3_copy 158 = .ok (.aload_n 1, 1) := by decide +kernel
theorem dX3_copy_159 : decode cX3_copy 159 = .ok (.aload_n 0, 1) := by decide +kernel
theorem dX3_copy_160 : decode cX3_copy 160 = .ok (.getfield 66, 3) := by decide +kernel
theorem dX3_copy_163 : decode cX3_copy 163 = .ok (.putfield 66, 3) := by decide +kernel
theorem dX3_copy_166 : decode cX3_copy 166 = .ok (.aload_n 1, 1) := by decide +kernel
theorem dX3_copy_167 : decode cX3_copy 167 = .ok (.aload_n 0, 1) := by decide +kernel
theorem dX3_copy_168 : decode cX3_copy 168 = .ok (.getfield 43, 3) := by decide +kernel
theorem dX3_copy_171 : decode cX3_copy 171 = .ok (.putfield 43, 3) := by decide +kernel
theorem dX3_copy_174 : decode cX3_copy 174 = .ok (.return_, 1) := by decide +kernel
theorem dX3_isTeam_0 : decode cX3_isTeam 0 = .ok (.iload_n 1, 1) := by decide +kernel
theorem dX3_isTeam_1 : decode cX3_isTeam 1 = .ok (.ifCond .lt 21, 3) := by decide +kernel
theorem dX3_isTeam_4 : decode cX3_isTeam 4 = .ok (.iload_n 1, 1) := by decide +kernel
theorem dX3_isTeam_5 : decode cX3_isTeam 5 = .ok (.aload_n 0, 1) := by decide +kernel
theorem dX3_isTeam_6 : decode cX3_isTeam 6 = .ok (.getfield 66, 3) := by decide +kernel
theorem dX3_isTeam_9 : decode cX3_isTeam 9 = .ok (.if_icmp .ge 13, 3) := by decide +kernel
theorem dX3_isTeam_12 : decode cX3_isTeam 12 = .ok (.iload_n 1, 1) := by decide +kernel
theorem dX3_isTeam_13 : decode cX3_isTeam 13 = .ok (.bipush 10, 2) := by decide +kernel
theorem dX3_isTeam_15 : decode cX3_isTeam 15 = .ok (.if_icmp .ge 7, 3) := by decide +kernel
theorem dX3_isTeam_18 : decode cX3_isTeam 18 = .ok (.iconst 1, 1) := by decide +kernel
theorem dX3_isTeam_19 : decode cX3_isTeam 19 = .ok (.goto 4, 3) := by decide +kernel
theorem dX3_isTeam_22 : decode cX3_isTeam 22 = .ok (.iconst 0, 1) := by decide +kernel
theorem dX3_isTeam_23 : decode cX3_isTeam 23 = .ok (.ireturn, 1) := by decide +kernel
theorem dX3_isOpen_0 : decode cX3_isOpen 0 = .ok (.aload_n 0, 1) := by decide +kernel
theorem dX3_isOpen_1 : decode cX3_isOpen 1 = .ok (.getfield 27, 3) := by decide +kernel
theorem dX3_isOpen_4 : decode cX3_isOpen 4 = .ok (.iload_n 1, 1) := by decide +kernel
theorem dX3_isOpen_5 : decode cX3_isOpen 5 = .ok (.laload, 1) := by decide +kernel
theorem dX3_isOpen_6 : decode cX3_isOpen 6 = .ok (.ldc2_w 55, 3) := by decide +kernel
theorem dX3_isOpen_9 : decode cX3_isOpen 9 = .ok (.lcmp, 1) := by decide +kernel
theorem dX3_isOpen_10 : decode cX3_isOpen 10 = .ok (.ifCond .ne 7, 3) := by decide +kernel
theorem dX3_isOpen_13 : decode cX3_isOpen 13 = .ok (.iconst 1, 1) := by decide +kernel
theorem dX3_isOpen_14 : decode cX3_isOpen 14 = .ok (.goto 4, 3) := by decide +kernel
theorem dX3_isOpen_17 : decode cX3_isOpen 17 = .ok (.iconst 0, 1) := by decide +kernel
theorem dX3_isOpen_18 : decode cX3_isOpen 18 = .ok (.ireturn, 1) := by decide +kernel
set_option maxRecDepth 20000 in
theorem ggX3_hasSheet_X4_indexOf : GoodIn wsX3_hasSheet wsX4_indexOf := goodIn_r _ [5] (by decide +kernel) (by decide +kernel)
set_option maxRecDepth 20000 in
theorem gX3_hasSheet_X4_indexOf_n69 : GoodIn wsX3_hasSheet (wsX4_indexOf) := ggX3_hasSheet_X4_indexOf
theorem dX3_hasSheet_0 : decode cX3_hasSheet 0 = .ok (.aload_n 0, 1) := by decide +kernel
theorem dX3_hasSheet_1 : decode cX3_hasSheet 1 = .ok (.getfield 31, 3) := by decide +kernel
theorem dX3_hasSheet_4 : decode cX3_hasSheet 4 = .ok (.iload_n 1, 1) := by decide +kernel
theorem dX3_hasSheet_5 : decode cX3_hasSheet 5 = .ok (.iload_n 2, 1) := by decide +kernel
theorem dX3_hasSheet_6 : decode cX3_hasSheet 6 = .ok (.invokestatic 69, 3) := by decide +kernel
theorem dX3_hasSheet_9 : decode cX3_hasSheet 9 = .ok (.laload, 1) := by decide +kernel
theorem dX3_hasSheet_10 : decode cX3_hasSheet 10 = .ok (.ldc2_w 55, 3) := by decide +kernel
theorem dX3_hasSheet_13 : decode cX3_hasSheet 13 = .ok (.lcmp, 1) := by decide +kernel
theorem dX3_hasSheet_14 : decode cX3_hasSheet 14 = .ok (.ifCond .eq 7, 3) := by decide +kernel
theorem dX3_hasSheet_17 : decode cX3_hasSheet 17 = .ok (.iconst 1, 1) := by decide +kernel
theorem dX3_hasSheet_18 : decode cX3_hasSheet 18 = .ok (.goto 4, 3) := by decide +kernel
theorem dX3_hasSheet_21 : decode cX3_hasSheet 21 = .ok (.iconst 0, 1) := by decide +kernel
theorem dX3_hasSheet_22 : decode cX3_hasSheet 22 = .ok (.ireturn, 1) := by decide +kernel
set_option maxRecDepth 20000 in
theorem ggX3_isTold_X3_markerOf : GoodIn wsX3_isTold wsX3_markerOf := goodIn_r _ [5, 6, 7, 8, 9, 10, 11, 12, 13, 14, 15, 16, 17, 18, 19, 20, 21] (by decide +kernel) (by decide +kernel)
set_option maxRecDepth 20000 in
theorem gX3_isTold_X3_markerOf : GoodIn wsX3_isTold (wsV RX3 73 RX3 yX3_markerOf wsX3_markerOf) := goodIn_app (goodIn_of _ (by decide +kernel)) ggX3_isTold_X3_markerOf
theorem dX3_isTold_0 : decode cX3_isTold 0 = .ok (.aload_n 0, 1) := by decide +kernel
theorem dX3_isTold_1 : decode cX3_isTold 1 = .ok (.iload_n 1, 1) := by decide +kernel
theorem dX3_isTold_2 : decode cX3_isTold 2 = .ok (.iload_n 2, 1) := by decide +kernel
theorem dX3_isTold_3 : decode cX3_isTold 3 = .ok (.invokevirtual 73, 3) := by decide +kernel
theorem dX3_isTold_6 : decode cX3_isTold 6 = .ok (.bipush (-6), 2) := by decide +kernel
theorem dX3_isTold_8 : decode cX3_isTold 8 = .ok (.if_icmp .eq 7, 3) := by decide +kernel
theorem dX3_isTold_11 : decode cX3_isTold 11 = .ok (.iconst 1, 1) := by decide +kernel
theorem dX3_isTold_12 : decode cX3_isTold 12 = .ok (.goto 4, 3) := by decide +kernel
theorem dX3_isTold_15 : decode cX3_isTold 15 = .ok (.iconst 0, 1) := by decide +kernel
theorem dX3_isTold_16 : decode cX3_isTold 16 = .ok (.ireturn, 1) := by decide +kernel
theorem dX3_isLooked_0 : decode cX3_isLooked 0 = .ok (.aload_n 0, 1) := by decide +kernel
theorem dX3_isLooked_1 : decode cX3_isLooked 1 = .ok (.getfield 40, 3) := by decide +kernel
theorem dX3_isLooked_4 : decode cX3_isLooked 4 = .ok (.iload_n 2, 1) := by decide +kernel
theorem dX3_isLooked_5 : decode cX3_isLooked 5 = .ok (.iaload, 1) := by decide +kernel
theorem dX3_isLooked_6 : decode cX3_isLooked 6 = .ok (.iconst 1, 1) := by decide +kernel
theorem dX3_isLooked_7 : decode cX3_isLooked 7 = .ok (.iload_n 1, 1) := by decide +kernel
theorem dX3_isLooked_8 : decode cX3_isLooked 8 = .ok (.ishl, 1) := by decide +kernel
theorem dX3_isLooked_9 : decode cX3_isLooked 9 = .ok (.iand, 1) := by decide +kernel
theorem dX3_isLooked_10 : decode cX3_isLooked 10 = .ok (.ifCond .eq 7, 3) := by decide +kernel
theorem dX3_isLooked_13 : decode cX3_isLooked 13 = .ok (.iconst 1, 1) := by decide +kernel
theorem dX3_isLooked_14 : decode cX3_isLooked 14 = .ok (.goto 4, 3) := by decide +kernel
theorem dX3_isLooked_17 : decode cX3_isLooked 17 = .ok (.iconst 0, 1) := by decide +kernel
theorem dX3_isLooked_18 : decode cX3_isLooked 18 = .ok (.ireturn, 1) := by decide +kernel
set_option maxRecDepth 20000 in
theorem ggX3_markerOf_X4_indexOf : GoodIn wsX3_markerOf wsX4_indexOf := goodIn_r _ [4] (by decide +kernel) (by decide +kernel)
set_option maxRecDepth 20000 in
theorem gX3_markerOf_X4_indexOf_n69 : GoodIn wsX3_markerOf (wsX4_indexOf) := ggX3_markerOf_X4_indexOf
theorem dX3_markerOf_0 : decode cX3_markerOf 0 = .ok (.aload_n 0, 1) := by decide +kernel
theorem dX3_markerOf_1 : decode cX3_markerOf 1 = .ok (.getfield 37, 3) := by decide +kernel
theorem dX3_markerOf_4 : decode cX3_markerOf 4 = .ok (.iload_n 1, 1) := by decide +kernel
theorem dX3_markerOf_5 : decode cX3_markerOf 5 = .ok (.iload_n 2, 1) := by decide +kernel
theorem dX3_markerOf_6 : decode cX3_markerOf 6 = .ok (.invokestatic 69, 3) := by decide +kernel
theorem dX3_markerOf_9 : decode cX3_markerOf 9 = .ok (.iaload, 1) := by decide +kernel
theorem dX3_markerOf_10 : decode cX3_markerOf 10 = .ok (.ireturn, 1) := by decide +kernel
set_option maxRecDepth 20000 in
theorem ggX3_markOf_X4_indexOf : GoodIn wsX3_markOf wsX4_indexOf := goodIn_r _ [4] (by decide +kernel) (by decide +kernel)
set_option maxRecDepth 20000 in
theorem gX3_markOf_X4_indexOf_n69 : GoodIn wsX3_markOf (wsX4_indexOf) := ggX3_markOf_X4_indexOf
theorem dX3_markOf_0 : decode cX3_markOf 0 = .ok (.aload_n 0, 1) := by decide +kernel
theorem dX3_markOf_1 : decode cX3_markOf 1 = .ok (.getfield 34, 3) := by decide +kernel
theorem dX3_markOf_4 : decode cX3_markOf 4 = .ok (.iload_n 1, 1) := by decide +kernel
theorem dX3_markOf_5 : decode cX3_markOf 5 = .ok (.iload_n 2, 1) := by decide +kernel
theorem dX3_markOf_6 : decode cX3_markOf 6 = .ok (.invokestatic 69, 3) := by decide +kernel
theorem dX3_markOf_9 : decode cX3_markOf 9 = .ok (.iaload, 1) := by decide +kernel
theorem dX3_markOf_10 : decode cX3_markOf 10 = .ok (.ireturn, 1) := by decide +kernel
set_option maxRecDepth 20000 in
theorem ggX3_isWrong_X3_isTold : GoodIn wsX3_isWrong wsX3_isTold := goodIn_r _ [5, 6, 7, 8, 4, 9, 10, 11, 12, 13, 35, 36, 37, 38, 39, 40, 41, 42, 43, 44, 45, 46] (by decide +kernel) (by decide +kernel)
set_option maxRecDepth 20000 in
theorem gX3_isWrong_X3_isTold : GoodIn wsX3_isWrong (wsV RX3 76 RX3 yX3_isTold wsX3_isTold) := goodIn_app (goodIn_of _ (by decide +kernel)) ggX3_isWrong_X3_isTold
set_option maxRecDepth 20000 in
theorem ggX3_isWrong_X3_isLooked : GoodIn wsX3_isWrong wsX3_isLooked := goodIn_r _ [17, 18, 35, 36, 37, 38, 39, 40, 41, 42, 43, 44, 45, 46] (by decide +kernel) (by decide +kernel)
set_option maxRecDepth 20000 in
theorem gX3_isWrong_X3_isLooked : GoodIn wsX3_isWrong (wsV RX3 80 RX3 yX3_isLooked wsX3_isLooked) := goodIn_app (goodIn_of _ (by decide +kernel)) ggX3_isWrong_X3_isLooked
set_option maxRecDepth 20000 in
theorem ggX3_isWrong_X3_markOf : GoodIn wsX3_isWrong wsX3_markOf := goodIn_r _ [22, 23, 11, 12, 13, 35, 36, 37, 38, 39, 40, 41, 42, 43, 44, 45, 46] (by decide +kernel) (by decide +kernel)
set_option maxRecDepth 20000 in
theorem gX3_isWrong_X3_markOf : GoodIn wsX3_isWrong (wsV RX3 83 RX3 yX3_markOf wsX3_markOf) := goodIn_app (goodIn_of _ (by decide +kernel)) ggX3_isWrong_X3_markOf
set_option maxRecDepth 20000 in
theorem ggX3_isWrong_X3_trueMark : GoodIn wsX3_isWrong wsX3_trueMark := goodIn_r _ [27, 28, 29, 30, 11, 12, 13, 31, 32, 33, 34, 35, 36, 37, 38, 39, 40, 41, 42, 43, 44, 45, 46] (by decide +kernel) (by decide +kernel)
set_option maxRecDepth 20000 in
theorem gX3_isWrong_X3_trueMark : GoodIn wsX3_isWrong (wsV RX3 86 RX3 yX3_trueMark wsX3_trueMark) := goodIn_app (goodIn_of _ (by decide +kernel)) ggX3_isWrong_X3_trueMark
theorem dX3_isWrong_0 : decode cX3_isWrong 0 = .ok (.aload_n 0, 1) := by decide +kernel
theorem dX3_isWrong_1 : decode cX3_isWrong 1 = .ok (.iload_n 1, 1) := by decide +kernel
theorem dX3_isWrong_2 : decode cX3_isWrong 2 = .ok (.iload_n 2, 1) := by decide +kernel
theorem dX3_isWrong_3 : decode cX3_isWrong 3 = .ok (.invokevirtual 76, 3) := by decide +kernel
theorem dX3_isWrong_6 : decode cX3_isWrong 6 = .ok (.ifCond .eq 31, 3) := by decide +kernel
theorem dX3_isWrong_9 : decode cX3_isWrong 9 = .ok (.aload_n 0, 1) := by decide +kernel
theorem dX3_isWrong_10 : decode cX3_isWrong 10 = .ok (.iload_n 1, 1) := by decide +kernel
theorem dX3_isWrong_11 : decode cX3_isWrong 11 = .ok (.iload_n 2, 1) := by decide +kernel
theorem dX3_isWrong_12 : decode cX3_isWrong 12 = .ok (.invokevirtual 80, 3) := by decide +kernel
theorem dX3_isWrong_15 : decode cX3_isWrong 15 = .ok (.ifCond .ne 22, 3) := by decide +kernel
theorem dX3_isWrong_18 : decode cX3_isWrong 18 = .ok (.aload_n 0, 1) := by decide +kernel
theorem dX3_isWrong_19 : decode cX3_isWrong 19 = .ok (.iload_n 1, 1) := by decide +kernel
theorem dX3_isWrong_20 : decode cX3_isWrong 20 = .ok (.iload_n 2, 1) := by decide +kernel
theorem dX3_isWrong_21 : decode cX3_isWrong 21 = .ok (.invokevirtual 83, 3) := by decide +kernel
theorem dX3_isWrong_24 : decode cX3_isWrong 24 = .ok (.aload_n 0, 1) := by decide +kernel
theorem dX3_isWrong_25 : decode cX3_isWrong 25 = .ok (.iload_n 1, 1) := by decide +kernel
theorem dX3_isWrong_26 : decode cX3_isWrong 26 = .ok (.iload_n 2, 1) := by decide +kernel
theorem dX3_isWrong_27 : decode cX3_isWrong 27 = .ok (.invokevirtual 86, 3) := by decide +kernel
theorem dX3_isWrong_30 : decode cX3_isWrong 30 = .ok (.if_icmp .eq 7, 3) := by decide +kernel
theorem dX3_isWrong_33 : decode cX3_isWrong 33 = .ok (.iconst 1, 1) := by decide +kernel
theorem dX3_isWrong_34 : decode cX3_isWrong 34 = .ok (.goto 4, 3) := by decide +kernel
theorem dX3_isWrong_37 : decode cX3_isWrong 37 = .ok (.iconst 0, 1) := by decide +kernel
theorem dX3_isWrong_38 : decode cX3_isWrong 38 = .ok (.ireturn, 1) := by decide +kernel
set_option maxRecDepth 20000 in
theorem ggX3_trueMark_X4_indexOf : GoodIn wsX3_trueMark wsX4_indexOf := goodIn_r _ [6] (by decide +kernel) (by decide +kernel)
set_option maxRecDepth 20000 in
theorem gX3_trueMark_X4_indexOf_n69 : GoodIn wsX3_trueMark (wsX4_indexOf) := ggX3_trueMark_X4_indexOf
set_option maxRecDepth 20000 in
theorem ggX3_trueMark_X2_signAt : GoodIn wsX3_trueMark wsX2_signAt := goodIn_r _ [10] (by decide +kernel) (by decide +kernel)
set_option maxRecDepth 20000 in
theorem gX3_trueMark_X2_signAt : GoodIn wsX3_trueMark (va_wsS RX3 89 yX2_signAt wsX2_signAt) := goodIn_app (goodIn_of _ (by decide +kernel)) ggX3_trueMark_X2_signAt
theorem dX3_trueMark_0 : decode cX3_trueMark 0 = .ok (.aload_n 0, 1) := by decide +kernel
theorem dX3_trueMark_1 : decode cX3_trueMark 1 = .ok (.getfield 31, 3) := by decide +kernel
theorem dX3_trueMark_4 : decode cX3_trueMark 4 = .ok (.iload_n 1, 1) := by decide +kernel
theorem dX3_trueMark_5 : decode cX3_trueMark 5 = .ok (.iload_n 2, 1) := by decide +kernel
theorem dX3_trueMark_6 : decode cX3_trueMark 6 = .ok (.invokestatic 69, 3) := by decide +kernel
theorem dX3_trueMark_9 : decode cX3_trueMark 9 = .ok (.laload, 1) := by decide +kernel
theorem dX3_trueMark_10 : decode cX3_trueMark 10 = .ok (.lstore_n 3, 1) := by decide +kernel
theorem dX3_trueMark_11 : decode cX3_trueMark 11 = .ok (.aload_n 0, 1) := by decide +kernel
theorem dX3_trueMark_12 : decode cX3_trueMark 12 = .ok (.getfield 27, 3) := by decide +kernel
theorem dX3_trueMark_15 : decode cX3_trueMark 15 = .ok (.iload_n 2, 1) := by decide +kernel
theorem dX3_trueMark_16 : decode cX3_trueMark 16 = .ok (.laload, 1) := by decide +kernel
theorem dX3_trueMark_17 : decode cX3_trueMark 17 = .ok (.lstore 5, 2) := by decide +kernel
theorem dX3_trueMark_19 : decode cX3_trueMark 19 = .ok (.iconst 0, 1) := by decide +kernel
theorem dX3_trueMark_20 : decode cX3_trueMark 20 = .ok (.istore 7, 2) := by decide +kernel
theorem dX3_trueMark_22 : decode cX3_trueMark 22 = .ok (.iconst 0, 1) := by decide +kernel
theorem dX3_trueMark_23 : decode cX3_trueMark 23 = .ok (.istore 8, 2) := by decide +kernel
theorem dX3_trueMark_25 : decode cX3_trueMark 25 = .ok (.iload 8, 2) := by decide +kernel
theorem dX3_trueMark_27 : decode cX3_trueMark 27 = .ok (.bipush 10, 2) := by decide +kernel
theorem dX3_trueMark_29 : decode cX3_trueMark 29 = .ok (.if_icmp .ge 53, 3) := by decide +kernel
theorem dX3_trueMark_32 : decode cX3_trueMark 32 = .ok (.lload_n 3, 1) := by decide +kernel
theorem dX3_trueMark_33 : decode cX3_trueMark 33 = .ok (.iload 8, 2) := by decide +kernel
theorem dX3_trueMark_35 : decode cX3_trueMark 35 = .ok (.invokestatic 89, 3) := by decide +kernel
theorem dX3_trueMark_38 : decode cX3_trueMark 38 = .ok (.istore 9, 2) := by decide +kernel
theorem dX3_trueMark_40 : decode cX3_trueMark 40 = .ok (.iload 9, 2) := by decide +kernel
theorem dX3_trueMark_42 : decode cX3_trueMark 42 = .ok (.lload 5, 2) := by decide +kernel
theorem dX3_trueMark_44 : decode cX3_trueMark 44 = .ok (.iload 8, 2) := by decide +kernel
theorem dX3_trueMark_46 : decode cX3_trueMark 46 = .ok (.invokestatic 89, 3) := by decide +kernel
theorem dX3_trueMark_49 : decode cX3_trueMark 49 = .ok (.if_icmp .ne 9, 3) := by decide +kernel
theorem dX3_trueMark_52 : decode cX3_trueMark 52 = .ok (.iinc 7 1, 3) := by decide +kernel
theorem dX3_trueMark_55 : decode cX3_trueMark 55 = .ok (.goto 21, 3) := by decide +kernel
theorem dX3_trueMark_58 : decode cX3_trueMark 58 = .ok (.iload 9, 2) := by decide +kernel
theorem dX3_trueMark_60 : decode cX3_trueMark 60 = .ok (.bipush 15, 2) := by decide +kernel
theorem dX3_trueMark_62 : decode cX3_trueMark 62 = .ok (.if_icmp .eq 14, 3) := by decide +kernel
theorem dX3_trueMark_65 : decode cX3_trueMark 65 = .ok (.iload 7, 2) := by decide +kernel
theorem dX3_trueMark_67 : decode cX3_trueMark 67 = .ok (.aload_n 0, 1) := by decide +kernel
theorem dX3_trueMark_68 : decode cX3_trueMark 68 = .ok (.getfield 9, 3) := by decide +kernel
theorem dX3_trueMark_71 : decode cX3_trueMark 71 = .ok (.iconst 2, 1) := by decide +kernel
theorem dX3_trueMark_72 : decode cX3_trueMark 72 = .ok (.iaload, 1) := by decide +kernel
theorem dX3_trueMark_73 : decode cX3_trueMark 73 = .ok (.isub, 1) := by decide +kernel
theorem dX3_trueMark_74 : decode cX3_trueMark 74 = .ok (.istore 7, 2) := by decide +kernel
theorem dX3_trueMark_76 : decode cX3_trueMark 76 = .ok (.iinc 8 1, 3) := by decide +kernel
theorem dX3_trueMark_79 : decode cX3_trueMark 79 = .ok (.goto (-54), 3) := by decide +kernel
theorem dX3_trueMark_82 : decode cX3_trueMark 82 = .ok (.iload 7, 2) := by decide +kernel
theorem dX3_trueMark_84 : decode cX3_trueMark 84 = .ok (.ireturn, 1) := by decide +kernel
set_option maxRecDepth 20000 in
theorem ggX3_answered_X4_indexOf : GoodIn wsX3_answered wsX4_indexOf := goodIn_r _ [4] (by decide +kernel) (by decide +kernel)
set_option maxRecDepth 20000 in
theorem gX3_answered_X4_indexOf_n69 : GoodIn wsX3_answered (wsX4_indexOf) := ggX3_answered_X4_indexOf
set_option maxRecDepth 20000 in
theorem ggX3_answered_X2_signAt : GoodIn wsX3_answered wsX2_signAt := goodIn_r _ [8] (by decide +kernel) (by decide +kernel)
set_option maxRecDepth 20000 in
theorem gX3_answered_X2_signAt : GoodIn wsX3_answered (va_wsS RX3 89 yX2_signAt wsX2_signAt) := goodIn_app (goodIn_of _ (by decide +kernel)) ggX3_answered_X2_signAt
theorem dX3_answered_0 : decode cX3_answered 0 = .ok (.aload_n 0, 1) := by decide +kernel
theorem dX3_answered_1 : decode cX3_answered 1 = .ok (.getfield 31, 3) := by decide +kernel
theorem dX3_answered_4 : decode cX3_answered 4 = .ok (.iload_n 1, 1) := by decide +kernel
theorem dX3_answered_5 : decode cX3_answered 5 = .ok (.iload_n 2, 1) := by decide +kernel
theorem dX3_answered_6 : decode cX3_answered 6 = .ok (.invokestatic 69, 3) := by decide +kernel
theorem dX3_answered_9 : decode cX3_answered 9 = .ok (.laload, 1) := by decide +kernel
theorem dX3_answered_10 : decode cX3_answered 10 = .ok (.lstore_n 3, 1) := by decide +kernel
theorem dX3_answered_11 : decode cX3_answered 11 = .ok (.iconst 0, 1) := by decide +kernel
theorem dX3_answered_12 : decode cX3_answered 12 = .ok (.istore 5, 2) := by decide +kernel
theorem dX3_answered_14 : decode cX3_answered 14 = .ok (.iconst 0, 1) := by decide +kernel
theorem dX3_answered_15 : decode cX3_answered 15 = .ok (.istore 6, 2) := by decide +kernel
theorem dX3_answered_17 : decode cX3_answered 17 = .ok (.iload 6, 2) := by decide +kernel
theorem dX3_answered_19 : decode cX3_answered 19 = .ok (.bipush 10, 2) := by decide +kernel
theorem dX3_answered_21 : decode cX3_answered 21 = .ok (.if_icmp .ge 23, 3) := by decide +kernel
theorem dX3_answered_24 : decode cX3_answered 24 = .ok (.lload_n 3, 1) := by decide +kernel
theorem dX3_answered_25 : decode cX3_answered 25 = .ok (.iload 6, 2) := by decide +kernel
theorem dX3_answered_27 : decode cX3_answered 27 = .ok (.invokestatic 89, 3) := by decide +kernel
theorem dX3_answered_30 : decode cX3_answered 30 = .ok (.bipush 15, 2) := by decide +kernel
theorem dX3_answered_32 : decode cX3_answered 32 = .ok (.if_icmp .eq 6, 3) := by decide +kernel
theorem dX3_answered_35 : decode cX3_answered 35 = .ok (.iinc 5 1, 3) := by decide +kernel
theorem dX3_answered_38 : decode cX3_answered 38 = .ok (.iinc 6 1, 3) := by decide +kernel
theorem dX3_answered_41 : decode cX3_answered 41 = .ok (.goto (-24), 3) := by decide +kernel
theorem dX3_answered_44 : decode cX3_answered 44 = .ok (.iload 5, 2) := by decide +kernel
theorem dX3_answered_46 : decode cX3_answered 46 = .ok (.ireturn, 1) := by decide +kernel
set_option maxRecDepth 20000 in
theorem ggX3_addFine_X3_isTeam : GoodIn wsX3_addFine wsX3_isTeam := goodIn_r _ [6, 7, 8, 9, 10, 11, 12, 13, 14, 15, 16, 17, 18, 19] (by decide +kernel) (by decide +kernel)
set_option maxRecDepth 20000 in
theorem gX3_addFine_X3_isTeam : GoodIn wsX3_addFine (wsV RX3 93 RX3 yX3_isTeam wsX3_isTeam) := goodIn_app (goodIn_of _ (by decide +kernel)) ggX3_addFine_X3_isTeam
theorem dX3_addFine_0 : decode cX3_addFine 0 = .ok (.aload_n 0, 1) := by decide +kernel
theorem dX3_addFine_1 : decode cX3_addFine 1 = .ok (.iload_n 1, 1) := by decide +kernel
theorem dX3_addFine_2 : decode cX3_addFine 2 = .ok (.invokevirtual 93, 3) := by decide +kernel
theorem dX3_addFine_5 : decode cX3_addFine 5 = .ok (.ifCond .eq 13, 3) := by decide +kernel
theorem dX3_addFine_8 : decode cX3_addFine 8 = .ok (.aload_n 0, 1) := by decide +kernel
theorem dX3_addFine_9 : decode cX3_addFine 9 = .ok (.getfield 21, 3) := by decide +kernel
theorem dX3_addFine_12 : decode cX3_addFine 12 = .ok (.iload_n 1, 1) := by decide +kernel
theorem dX3_addFine_13 : decode cX3_addFine 13 = .ok (.dup2, 1) := by decide +kernel
theorem dX3_addFine_14 : decode cX3_addFine 14 = .ok (.iaload, 1) := by decide +kernel
theorem dX3_addFine_15 : decode cX3_addFine 15 = .ok (.iconst 1, 1) := by decide +kernel
theorem dX3_addFine_16 : decode cX3_addFine 16 = .ok (.iadd, 1) := by decide +kernel
theorem dX3_addFine_17 : decode cX3_addFine 17 = .ok (.iastore, 1) := by decide +kernel
theorem dX3_addFine_18 : decode cX3_addFine 18 = .ok (.return_, 1) := by decide +kernel
set_option maxRecDepth 20000 in
theorem ggX3_openRounds_X3_isOpen : GoodIn wsX3_openRounds wsX3_isOpen := goodIn_r _ [5, 6, 7, 8, 9, 10, 11, 12, 13, 14, 15, 16, 17, 18, 19] (by decide +kernel) (by decide +kernel)
set_option maxRecDepth 20000 in
theorem gX3_openRounds_X3_isOpen : GoodIn wsX3_openRounds (wsV RX3 97 RX3 yX3_isOpen wsX3_isOpen) := goodIn_app (goodIn_of _ (by decide +kernel)) ggX3_openRounds_X3_isOpen
theorem dX3_openRounds_0 : decode cX3_openRounds 0 = .ok (.iconst 0, 1) := by decide +kernel
theorem dX3_openRounds_1 : decode cX3_openRounds 1 = .ok (.istore_n 1, 1) := by decide +kernel
theorem dX3_openRounds_2 : decode cX3_openRounds 2 = .ok (.iconst 0, 1) := by decide +kernel
theorem dX3_openRounds_3 : decode cX3_openRounds 3 = .ok (.istore_n 2, 1) := by decide +kernel
theorem dX3_openRounds_4 : decode cX3_openRounds 4 = .ok (.iload_n 2, 1) := by decide +kernel
theorem dX3_openRounds_5 : decode cX3_openRounds 5 = .ok (.bipush 8, 2) := by decide +kernel
theorem dX3_openRounds_7 : decode cX3_openRounds 7 = .ok (.if_icmp .ge 27, 3) := by decide +kernel
theorem dX3_openRounds_10 : decode cX3_openRounds 10 = .ok (.iload_n 1, 1) := by decide +kernel
theorem dX3_openRounds_11 : decode cX3_openRounds 11 = .ok (.aload_n 0, 1) := by decide +kernel
theorem dX3_openRounds_12 : decode cX3_openRounds 12 = .ok (.iload_n 2, 1) := by decide +kernel
theorem dX3_openRounds_13 : decode cX3_openRounds 13 = .ok (.invokevirtual 97, 3) := by decide +kernel
theorem dX3_openRounds_16 : decode cX3_openRounds 16 = .ok (.ifCond .eq 9, 3) := by decide +kernel
theorem dX3_openRounds_19 : decode cX3_openRounds 19 = .ok (.iconst 1, 1) := by decide +kernel
theorem dX3_openRounds_20 : decode cX3_openRounds 20 = .ok (.iload_n 2, 1) := by decide +kernel
theorem dX3_openRounds_21 : decode cX3_openRounds 21 = .ok (.ishl, 1) := by decide +kernel
theorem dX3_openRounds_22 : decode cX3_openRounds 22 = .ok (.goto 4, 3) := by decide +kernel
theorem dX3_openRounds_25 : decode cX3_openRounds 25 = .ok (.iconst 0, 1) := by decide +kernel
theorem dX3_openRounds_26 : decode cX3_openRounds 26 = .ok (.ior, 1) := by decide +kernel
theorem dX3_openRounds_27 : decode cX3_openRounds 27 = .ok (.istore_n 1, 1) := by decide +kernel
theorem dX3_openRounds_28 : decode cX3_openRounds 28 = .ok (.iinc 2 1, 3) := by decide +kernel
theorem dX3_openRounds_31 : decode cX3_openRounds 31 = .ok (.goto (-27), 3) := by decide +kernel
theorem dX3_openRounds_34 : decode cX3_openRounds 34 = .ok (.iload_n 1, 1) := by decide +kernel
theorem dX3_openRounds_35 : decode cX3_openRounds 35 = .ok (.ireturn, 1) := by decide +kernel
set_option maxRecDepth 20000 in
theorem ggX3_roundsWithSheet_X3_hasSheet : GoodIn wsX3_roundsWithSheet wsX3_hasSheet := goodIn_r _ [5, 6, 7, 8, 9, 10, 11, 12, 13, 14, 15, 16, 17, 18, 19, 20, 21, 22] (by decide +kernel) (by decide +kernel)
set_option maxRecDepth 20000 in
theorem gX3_roundsWithSheet_X3_hasSheet : GoodIn wsX3_roundsWithSheet (wsV RX3 100 RX3 yX3_hasSheet wsX3_hasSheet) := goodIn_app (goodIn_of _ (by decide +kernel)) ggX3_roundsWithSheet_X3_hasSheet
theorem dX3_roundsWithSheet_0 : decode cX3_roundsWithSheet 0 = .ok (.iconst 0, 1) := by decide +kernel
theorem dX3_roundsWithSheet_1 : decode cX3_roundsWithSheet 1 = .ok (.istore_n 2, 1) := by decide +kernel
theorem dX3_roundsWithSheet_2 : decode cX3_roundsWithSheet 2 = .ok (.iconst 0, 1) := by decide +kernel
theorem dX3_roundsWithSheet_3 : decode cX3_roundsWithSheet 3 = .ok (.istore_n 3, 1) := by decide +kernel
theorem dX3_roundsWithSheet_4 : decode cX3_roundsWithSheet 4 = .ok (.iload_n 3, 1) := by decide +kernel
theorem dX3_roundsWithSheet_5 : decode cX3_roundsWithSheet 5 = .ok (.bipush 8, 2) := by decide +kernel
theorem dX3_roundsWithSheet_7 : decode cX3_roundsWithSheet 7 = .ok (.if_icmp .ge 28, 3) := by decide +kernel
theorem dX3_roundsWithSheet_10 : decode cX3_roundsWithSheet 10 = .ok (.iload_n 2, 1) := by decide +kernel
theorem dX3_roundsWithSheet_11 : decode cX3_roundsWithSheet 11 = .ok (.aload_n 0, 1) := by decide +kernel
theorem dX3_roundsWithSheet_12 : decode cX3_roundsWithSheet 12 = .ok (.iload_n 1, 1) := by decide +kernel
theorem dX3_roundsWithSheet_13 : decode cX3_roundsWithSheet 13 = .ok (.iload_n 3, 1) := by decide +kernel
theorem dX3_roundsWithSheet_14 : decode cX3_roundsWithSheet 14 = .ok (.invokevirtual 100, 3) := by decide +kernel
theorem dX3_roundsWithSheet_17 : decode cX3_roundsWithSheet 17 = .ok (.ifCond .eq 9, 3) := by decide +kernel
theorem dX3_roundsWithSheet_20 : decode cX3_roundsWithSheet 20 = .ok (.iconst 1, 1) := by decide +kernel
theorem dX3_roundsWithSheet_21 : decode cX3_roundsWithSheet 21 = .ok (.iload_n 3, 1) := by decide +kernel
theorem dX3_roundsWithSheet_22 : decode cX3_roundsWithSheet 22 = .ok (.ishl, 1) := by decide +kernel
theorem dX3_roundsWithSheet_23 : decode cX3_roundsWithSheet 23 = .ok (.goto 4, 3) := by decide +kernel
theorem dX3_roundsWithSheet_26 : decode cX3_roundsWithSheet 26 = .ok (.iconst 0, 1) := by decide +kernel
theorem dX3_roundsWithSheet_27 : decode cX3_roundsWithSheet 27 = .ok (.ior, 1) := by decide +kernel
theorem dX3_roundsWithSheet_28 : decode cX3_roundsWithSheet 28 = .ok (.istore_n 2, 1) := by decide +kernel
theorem dX3_roundsWithSheet_29 : decode cX3_roundsWithSheet 29 = .ok (.iinc 3 1, 3) := by decide +kernel
theorem dX3_roundsWithSheet_32 : decode cX3_roundsWithSheet 32 = .ok (.goto (-28), 3) := by decide +kernel
theorem dX3_roundsWithSheet_35 : decode cX3_roundsWithSheet 35 = .ok (.iload_n 2, 1) := by decide +kernel
theorem dX3_roundsWithSheet_36 : decode cX3_roundsWithSheet 36 = .ok (.ireturn, 1) := by decide +kernel
set_option maxRecDepth 20000 in
theorem ggX3_roundsTold_X3_isTold : GoodIn wsX3_roundsTold wsX3_isTold := goodIn_r _ [5, 6, 7, 8, 4, 9, 10, 11, 12, 13, 14, 15, 16, 17, 18, 19, 20, 21, 22, 23, 24, 25] (by decide +kernel) (by decide +kernel)
set_option maxRecDepth 20000 in
theorem gX3_roundsTold_X3_isTold : GoodIn wsX3_roundsTold (wsV RX3 76 RX3 yX3_isTold wsX3_isTold) := goodIn_app (goodIn_of _ (by decide +kernel)) ggX3_roundsTold_X3_isTold
theorem dX3_roundsTold_0 : decode cX3_roundsTold 0 = .ok (.iconst 0, 1) := by decide +kernel
theorem dX3_roundsTold_1 : decode cX3_roundsTold 1 = .ok (.istore_n 2, 1) := by decide +kernel
theorem dX3_roundsTold_2 : decode cX3_roundsTold 2 = .ok (.iconst 0, 1) := by decide +kernel
theorem dX3_roundsTold_3 : decode cX3_roundsTold 3 = .ok (.istore_n 3, 1) := by decide +kernel
theorem dX3_roundsTold_4 : decode cX3_roundsTold 4 = .ok (.iload_n 3, 1) := by decide +kernel
theorem dX3_roundsTold_5 : decode cX3_roundsTold 5 = .ok (.bipush 8, 2) := by decide +kernel
theorem dX3_roundsTold_7 : decode cX3_roundsTold 7 = .ok (.if_icmp .ge 28, 3) := by decide +kernel
theorem dX3_roundsTold_10 : decode cX3_roundsTold 10 = .ok (.iload_n 2, 1) := by decide +kernel
theorem dX3_roundsTold_11 : decode cX3_roundsTold 11 = .ok (.aload_n 0, 1) := by decide +kernel
theorem dX3_roundsTold_12 : decode cX3_roundsTold 12 = .ok (.iload_n 1, 1) := by decide +kernel
theorem dX3_roundsTold_13 : decode cX3_roundsTold 13 = .ok (.iload_n 3, 1) := by decide +kernel
theorem dX3_roundsTold_14 : decode cX3_roundsTold 14 = .ok (.invokevirtual 76, 3) := by decide +kernel
theorem dX3_roundsTold_17 : decode cX3_roundsTold 17 = .ok (.ifCond .eq 9, 3) := by decide +kernel
theorem dX3_roundsTold_20 : decode cX3_roundsTold 20 = .ok (.iconst 1, 1) := by decide +kernel
theorem dX3_roundsTold_21 : decode cX3_roundsTold 21 = .ok (.iload_n 3, 1) := by decide +kernel
theorem dX3_roundsTold_22 : decode cX3_roundsTold 22 = .ok (.ishl, 1) := by decide +kernel
theorem dX3_roundsTold_23 : decode cX3_roundsTold 23 = .ok (.goto 4, 3) := by decide +kernel
theorem dX3_roundsTold_26 : decode cX3_roundsTold 26 = .ok (.iconst 0, 1) := by decide +kernel
theorem dX3_roundsTold_27 : decode cX3_roundsTold 27 = .ok (.ior, 1) := by decide +kernel
theorem dX3_roundsTold_28 : decode cX3_roundsTold 28 = .ok (.istore_n 2, 1) := by decide +kernel
theorem dX3_roundsTold_29 : decode cX3_roundsTold 29 = .ok (.iinc 3 1, 3) := by decide +kernel
theorem dX3_roundsTold_32 : decode cX3_roundsTold 32 = .ok (.goto (-28), 3) := by decide +kernel
theorem dX3_roundsTold_35 : decode cX3_roundsTold 35 = .ok (.iload_n 2, 1) := by decide +kernel
theorem dX3_roundsTold_36 : decode cX3_roundsTold 36 = .ok (.ireturn, 1) := by decide +kernel
set_option maxRecDepth 20000 in
theorem ggX3_teamsWithSheet_X3_hasSheet : GoodIn wsX3_teamsWithSheet wsX3_hasSheet := goodIn_r _ [6, 7, 8, 9, 10, 11, 12, 13, 14, 15, 16, 17, 18, 19, 20, 21, 22, 23] (by decide +kernel) (by decide +kernel)
set_option maxRecDepth 20000 in
theorem gX3_teamsWithSheet_X3_hasSheet : GoodIn wsX3_teamsWithSheet (wsV RX3 100 RX3 yX3_hasSheet wsX3_hasSheet) := goodIn_app (goodIn_of _ (by decide +kernel)) ggX3_teamsWithSheet_X3_hasSheet
theorem dX3_teamsWithSheet_0 : decode cX3_teamsWithSheet 0 = .ok (.iconst 0, 1) := by decide +kernel
theorem dX3_teamsWithSheet_1 : decode cX3_teamsWithSheet 1 = .ok (.istore_n 2, 1) := by decide +kernel
theorem dX3_teamsWithSheet_2 : decode cX3_teamsWithSheet 2 = .ok (.iconst 0, 1) := by decide +kernel
theorem dX3_teamsWithSheet_3 : decode cX3_teamsWithSheet 3 = .ok (.istore_n 3, 1) := by decide +kernel
theorem dX3_teamsWithSheet_4 : decode cX3_teamsWithSheet 4 = .ok (.iload_n 3, 1) := by decide +kernel
theorem dX3_teamsWithSheet_5 : decode cX3_teamsWithSheet 5 = .ok (.aload_n 0, 1) := by decide +kernel
theorem dX3_teamsWithSheet_6 : decode cX3_teamsWithSheet 6 = .ok (.getfield 66, 3) := by decide +kernel
theorem dX3_teamsWithSheet_9 : decode cX3_teamsWithSheet 9 = .ok (.if_icmp .ge 28, 3) := by decide +kernel
theorem dX3_teamsWithSheet_12 : decode cX3_teamsWithSheet 12 = .ok (.iload_n 2, 1) := by decide +kernel
theorem dX3_teamsWithSheet_13 : decode cX3_teamsWithSheet 13 = .ok (.aload_n 0, 1) := by decide +kernel
theorem dX3_teamsWithSheet_14 : decode cX3_teamsWithSheet 14 = .ok (.iload_n 3, 1) := by decide +kernel
theorem dX3_teamsWithSheet_15 : decode cX3_teamsWithSheet 15 = .ok (.iload_n 1, 1) := by decide +kernel
theorem dX3_teamsWithSheet_16 : decode cX3_teamsWithSheet 16 = .ok (.invokevirtual 100, 3) := by decide +kernel
theorem dX3_teamsWithSheet_19 : decode cX3_teamsWithSheet 19 = .ok (.ifCond .eq 9, 3) := by decide +kernel
theorem dX3_teamsWithSheet_22 : decode cX3_teamsWithSheet 22 = .ok (.iconst 1, 1) := by decide +kernel
theorem dX3_teamsWithSheet_23 : decode cX3_teamsWithSheet 23 = .ok (.iload_n 3, 1) := by decide +kernel
theorem dX3_teamsWithSheet_24 : decode cX3_teamsWithSheet 24 = .ok (.ishl, 1) := by decide +kernel
theorem dX3_teamsWithSheet_25 : decode cX3_teamsWithSheet 25 = .ok (.goto 4, 3) := by decide +kernel
theorem dX3_teamsWithSheet_28 : decode cX3_teamsWithSheet 28 = .ok (.iconst 0, 1) := by decide +kernel
theorem dX3_teamsWithSheet_29 : decode cX3_teamsWithSheet 29 = .ok (.ior, 1) := by decide +kernel
theorem dX3_teamsWithSheet_30 : decode cX3_teamsWithSheet 30 = .ok (.istore_n 2, 1) := by decide +kernel
theorem dX3_teamsWithSheet_31 : decode cX3_teamsWithSheet 31 = .ok (.iinc 3 1, 3) := by decide +kernel
theorem dX3_teamsWithSheet_34 : decode cX3_teamsWithSheet 34 = .ok (.goto (-30), 3) := by decide +kernel
theorem dX3_teamsWithSheet_37 : decode cX3_teamsWithSheet 37 = .ok (.iload_n 2, 1) := by decide +kernel
theorem dX3_teamsWithSheet_38 : decode cX3_teamsWithSheet 38 = .ok (.ireturn, 1) := by decide +kernel
theorem dX3_teamsWithJoker_0 : decode cX3_teamsWithJoker 0 = .ok (.iconst 0, 1) := by decide +kernel
theorem dX3_teamsWithJoker_1 : decode cX3_teamsWithJoker 1 = .ok (.istore_n 2, 1) := by decide +kernel
theorem dX3_teamsWithJoker_2 : decode cX3_teamsWithJoker 2 = .ok (.iconst 0, 1) := by decide +kernel
theorem dX3_teamsWithJoker_3 : decode cX3_teamsWithJoker 3 = .ok (.istore_n 3, 1) := by decide +kernel
theorem dX3_teamsWithJoker_4 : decode cX3_teamsWithJoker 4 = .ok (.iload_n 3, 1) := by decide +kernel
theorem dX3_teamsWithJoker_5 : decode cX3_teamsWithJoker 5 = .ok (.aload_n 0, 1) := by decide +kernel
theorem dX3_teamsWithJoker_6 : decode cX3_teamsWithJoker 6 = .ok (.getfield 66, 3) := by decide +kernel
theorem dX3_teamsWithJoker_9 : decode cX3_teamsWithJoker 9 = .ok (.if_icmp .ge 29, 3) := by decide +kernel
theorem dX3_teamsWithJoker_12 : decode cX3_teamsWithJoker 12 = .ok (.iload_n 2, 1) := by decide +kernel
theorem dX3_teamsWithJoker_13 : decode cX3_teamsWithJoker 13 = .ok (.aload_n 0, 1) := by decide +kernel
theorem dX3_teamsWithJoker_14 : decode cX3_teamsWithJoker 14 = .ok (.getfield 18, 3) := by decide +kernel
theorem dX3_teamsWithJoker_17 : decode cX3_teamsWithJoker 17 = .ok (.iload_n 3, 1) := by decide +kernel
theorem dX3_teamsWithJoker_18 : decode cX3_teamsWithJoker 18 = .ok (.iaload, 1) := by decide +kernel
theorem dX3_teamsWithJoker_19 : decode cX3_teamsWithJoker 19 = .ok (.iload_n 1, 1) := by decide +kernel
theorem dX3_teamsWithJoker_20 : decode cX3_teamsWithJoker 20 = .ok (.if_icmp .ne 9, 3) := by decide +kernel
theorem dX3_teamsWithJoker_23 : decode cX3_teamsWithJoker 23 = .ok (.iconst 1, 1) := by decide +kernel
theorem dX3_teamsWithJoker_24 : decode cX3_teamsWithJoker 24 = .ok (.iload_n 3, 1) := by decide +kernel
theorem dX3_teamsWithJoker_25 : decode cX3_teamsWithJoker 25 = .ok (.ishl, 1) := by decide +kernel
theorem dX3_teamsWithJoker_26 : decode cX3_teamsWithJoker 26 = .ok (.goto 4, 3) := by decide +kernel
theorem dX3_teamsWithJoker_29 : decode cX3_teamsWithJoker 29 = .ok (.iconst 0, 1) := by decide +kernel
theorem dX3_teamsWithJoker_30 : decode cX3_teamsWithJoker 30 = .ok (.ior, 1) := by decide +kernel
theorem dX3_teamsWithJoker_31 : decode cX3_teamsWithJoker 31 = .ok (.istore_n 2, 1) := by decide +kernel
theorem dX3_teamsWithJoker_32 : decode cX3_teamsWithJoker 32 = .ok (.iinc 3 1, 3) := by decide +kernel
theorem dX3_teamsWithJoker_35 : decode cX3_teamsWithJoker 35 = .ok (.goto (-31), 3) := by decide +kernel
theorem dX3_teamsWithJoker_38 : decode cX3_teamsWithJoker 38 = .ok (.iload_n 2, 1) := by decide +kernel
theorem dX3_teamsWithJoker_39 : decode cX3_teamsWithJoker 39 = .ok (.ireturn, 1) := by decide +kernel
set_option maxRecDepth 20000 in
theorem ggX3_teamsTold_X3_isTold : GoodIn wsX3_teamsTold wsX3_isTold := goodIn_r _ [6, 7, 8, 9, 5, 10, 11, 12, 13, 14, 15, 16, 17, 18, 19, 20, 21, 22, 23, 24, 25, 26] (by decide +kernel) (by decide +kernel)
set_option maxRecDepth 20000 in
theorem gX3_teamsTold_X3_isTold : GoodIn wsX3_teamsTold (wsV RX3 76 RX3 yX3_isTold wsX3_isTold) := goodIn_app (goodIn_of _ (by decide +kernel)) ggX3_teamsTold_X3_isTold
theorem dX3_teamsTold_0 : decode cX3_teamsTold 0 = .ok (.iconst 0, 1) := by decide +kernel
theorem dX3_teamsTold_1 : decode cX3_teamsTold 1 = .ok (.istore_n 2, 1) := by decide +kernel
theorem dX3_teamsTold_2 : decode cX3_teamsTold 2 = .ok (.iconst 0, 1) := by decide +kernel
theorem dX3_teamsTold_3 : decode cX3_teamsTold 3 = .ok (.istore_n 3, 1) := by decide +kernel
theorem dX3_teamsTold_4 : decode cX3_teamsTold 4 = .ok (.iload_n 3, 1) := by decide +kernel
theorem dX3_teamsTold_5 : decode cX3_teamsTold 5 = .ok (.aload_n 0, 1) := by decide +kernel
theorem dX3_teamsTold_6 : decode cX3_teamsTold 6 = .ok (.getfield 66, 3) := by decide +kernel
theorem dX3_teamsTold_9 : decode cX3_teamsTold 9 = .ok (.if_icmp .ge 28, 3) := by decide +kernel
theorem dX3_teamsTold_12 : decode cX3_teamsTold 12 = .ok (.iload_n 2, 1) := by decide +kernel
theorem dX3_teamsTold_13 : decode cX3_teamsTold 13 = .ok (.aload_n 0, 1) := by decide +kernel
theorem dX3_teamsTold_14 : decode cX3_teamsTold 14 = .ok (.iload_n 3, 1) := by decide +kernel
theorem dX3_teamsTold_15 : decode cX3_teamsTold 15 = .ok (.iload_n 1, 1) := by decide +kernel
theorem dX3_teamsTold_16 : decode cX3_teamsTold 16 = .ok (.invokevirtual 76, 3) := by decide +kernel
theorem dX3_teamsTold_19 : decode cX3_teamsTold 19 = .ok (.ifCond .eq 9, 3) := by decide +kernel
theorem dX3_teamsTold_22 : decode cX3_teamsTold 22 = .ok (.iconst 1, 1) := by decide +kernel
theorem dX3_teamsTold_23 : decode cX3_teamsTold 23 = .ok (.iload_n 3, 1) := by decide +kernel
theorem dX3_teamsTold_24 : decode cX3_teamsTold 24 = .ok (.ishl, 1) := by decide +kernel
theorem dX3_teamsTold_25 : decode cX3_teamsTold 25 = .ok (.goto 4, 3) := by decide +kernel
theorem dX3_teamsTold_28 : decode cX3_teamsTold 28 = .ok (.iconst 0, 1) := by decide +kernel
theorem dX3_teamsTold_29 : decode cX3_teamsTold 29 = .ok (.ior, 1) := by decide +kernel
theorem dX3_teamsTold_30 : decode cX3_teamsTold 30 = .ok (.istore_n 2, 1) := by decide +kernel
theorem dX3_teamsTold_31 : decode cX3_teamsTold 31 = .ok (.iinc 3 1, 3) := by decide +kernel
theorem dX3_teamsTold_34 : decode cX3_teamsTold 34 = .ok (.goto (-30), 3) := by decide +kernel
theorem dX3_teamsTold_37 : decode cX3_teamsTold 37 = .ok (.iload_n 2, 1) := by decide +kernel
theorem dX3_teamsTold_38 : decode cX3_teamsTold 38 = .ok (.ireturn, 1) := by decide +kernel
theorem dX3_withJoker_0 : decode cX3_withJoker 0 = .ok (.aload_n 0, 1) := by decide +kernel
theorem dX3_withJoker_1 : decode cX3_withJoker 1 = .ok (.getfield 18, 3) := by decide +kernel
theorem dX3_withJoker_4 : decode cX3_withJoker 4 = .ok (.iload_n 1, 1) := by decide +kernel
theorem dX3_withJoker_5 : decode cX3_withJoker 5 = .ok (.iaload, 1) := by decide +kernel
theorem dX3_withJoker_6 : decode cX3_withJoker 6 = .ok (.iload_n 2, 1) := by decide +kernel
theorem dX3_withJoker_7 : decode cX3_withJoker 7 = .ok (.if_icmp .ne 9, 3) := by decide +kernel
theorem dX3_withJoker_10 : decode cX3_withJoker 10 = .ok (.iconst 2, 1) := by decide +kernel
theorem dX3_withJoker_11 : decode cX3_withJoker 11 = .ok (.iload_n 3, 1) := by decide +kernel
theorem dX3_withJoker_12 : decode cX3_withJoker 12 = .ok (.imul, 1) := by decide +kernel
theorem dX3_withJoker_13 : decode cX3_withJoker 13 = .ok (.goto 4, 3) := by decide +kernel
theorem dX3_withJoker_16 : decode cX3_withJoker 16 = .ok (.iload_n 3, 1) := by decide +kernel
theorem dX3_withJoker_17 : decode cX3_withJoker 17 = .ok (.ireturn, 1) := by decide +kernel
set_option maxRecDepth 20000 in
theorem ggX3_pointsOf_X4_indexOf : GoodIn wsX3_pointsOf wsX4_indexOf := goodIn_r _ [5] (by decide +kernel) (by decide +kernel)
set_option maxRecDepth 20000 in
theorem gX3_pointsOf_X4_indexOf_n69 : GoodIn wsX3_pointsOf (wsX4_indexOf) := ggX3_pointsOf_X4_indexOf
set_option maxRecDepth 20000 in
theorem ggX3_pointsOf_X3_withJoker : GoodIn wsX3_pointsOf wsX3_withJoker := goodIn_r _ [10, 11, 12, 13, 14, 15, 16, 17, 18, 19, 20, 21, 22, 23] (by decide +kernel) (by decide +kernel)
set_option maxRecDepth 20000 in
theorem gX3_pointsOf_X3_withJoker : GoodIn wsX3_pointsOf (wsV RX3 103 RX3 yX3_withJoker wsX3_withJoker) := goodIn_app (goodIn_of _ (by decide +kernel)) ggX3_pointsOf_X3_withJoker
theorem dX3_pointsOf_0 : decode cX3_pointsOf 0 = .ok (.iload_n 1, 1) := by decide +kernel
theorem dX3_pointsOf_1 : decode cX3_pointsOf 1 = .ok (.iload_n 2, 1) := by decide +kernel
theorem dX3_pointsOf_2 : decode cX3_pointsOf 2 = .ok (.invokestatic 69, 3) := by decide +kernel
theorem dX3_pointsOf_5 : decode cX3_pointsOf 5 = .ok (.istore_n 3, 1) := by decide +kernel
theorem dX3_pointsOf_6 : decode cX3_pointsOf 6 = .ok (.aload_n 0, 1) := by decide +kernel
theorem dX3_pointsOf_7 : decode cX3_pointsOf 7 = .ok (.getfield 37, 3) := by decide +kernel
theorem dX3_pointsOf_10 : decode cX3_pointsOf 10 = .ok (.iload_n 3, 1) := by decide +kernel
theorem dX3_pointsOf_11 : decode cX3_pointsOf 11 = .ok (.iaload, 1) := by decide +kernel
theorem dX3_pointsOf_12 : decode cX3_pointsOf 12 = .ok (.bipush (-6), 2) := by decide +kernel
theorem dX3_pointsOf_14 : decode cX3_pointsOf 14 = .ok (.if_icmp .ne 7, 3) := by decide +kernel
theorem dX3_pointsOf_17 : decode cX3_pointsOf 17 = .ok (.iconst 0, 1) := by decide +kernel
theorem dX3_pointsOf_18 : decode cX3_pointsOf 18 = .ok (.goto 15, 3) := by decide +kernel
theorem dX3_pointsOf_21 : decode cX3_pointsOf 21 = .ok (.aload_n 0, 1) := by decide +kernel
theorem dX3_pointsOf_22 : decode cX3_pointsOf 22 = .ok (.iload_n 1, 1) := by decide +kernel
theorem dX3_pointsOf_23 : decode cX3_pointsOf 23 = .ok (.iload_n 2, 1) := by decide +kernel
theorem dX3_pointsOf_24 : decode cX3_pointsOf 24 = .ok (.aload_n 0, 1) := by decide +kernel
theorem dX3_pointsOf_25 : decode cX3_pointsOf 25 = .ok (.getfield 34, 3) := by decide +kernel
theorem dX3_pointsOf_28 : decode cX3_pointsOf 28 = .ok (.iload_n 3, 1) := by decide +kernel
theorem dX3_pointsOf_29 : decode cX3_pointsOf 29 = .ok (.iaload, 1) := by decide +kernel
theorem dX3_pointsOf_30 : decode cX3_pointsOf 30 = .ok (.invokevirtual 103, 3) := by decide +kernel
theorem dX3_pointsOf_33 : decode cX3_pointsOf 33 = .ok (.ireturn, 1) := by decide +kernel
set_option maxRecDepth 20000 in
theorem ggX3_greatestPoints_X3_pointsOf : GoodIn wsX3_greatestPoints wsX3_pointsOf := goodIn_r _ [10, 11, 12, 13, 14, 15, 16, 17, 18, 9, 19, 20, 21, 22, 23, 24, 25, 26, 27, 28, 29, 30, 31, 32] (by decide +kernel) (by decide +kernel)
set_option maxRecDepth 20000 in
theorem gX3_greatestPoints_X3_pointsOf : GoodIn wsX3_greatestPoints (wsV RX3 107 RX3 yX3_pointsOf wsX3_pointsOf) := goodIn_app (goodIn_of _ (by decide +kernel)) ggX3_greatestPoints_X3_pointsOf
theorem dX3_greatestPoints_0 : decode cX3_greatestPoints 0 = .ok (.aload_n 0, 1) := by decide +kernel
theorem dX3_greatestPoints_1 : decode cX3_greatestPoints 1 = .ok (.iconst 0, 1) := by decide +kernel
theorem dX3_greatestPoints_2 : decode cX3_greatestPoints 2 = .ok (.iload_n 1, 1) := by decide +kernel
theorem dX3_greatestPoints_3 : decode cX3_greatestPoints 3 = .ok (.invokevirtual 107, 3) := by decide +kernel
theorem dX3_greatestPoints_6 : decode cX3_greatestPoints 6 = .ok (.istore_n 2, 1) := by decide +kernel
theorem dX3_greatestPoints_7 : decode cX3_greatestPoints 7 = .ok (.iconst 1, 1) := by decide +kernel
theorem dX3_greatestPoints_8 : decode cX3_greatestPoints 8 = .ok (.istore_n 3, 1) := by decide +kernel
theorem dX3_greatestPoints_9 : decode cX3_greatestPoints 9 = .ok (.iload_n 3, 1) := by decide +kernel
theorem dX3_greatestPoints_10 : decode cX3_greatestPoints 10 = .ok (.aload_n 0, 1) := by decide +kernel
theorem dX3_greatestPoints_11 : decode cX3_greatestPoints 11 = .ok (.getfield 66, 3) := by decide +kernel
theorem dX3_greatestPoints_14 : decode cX3_greatestPoints 14 = .ok (.if_icmp .ge 20, 3) := by decide +kernel
theorem dX3_greatestPoints_17 : decode cX3_greatestPoints 17 = .ok (.iload_n 2, 1) := by decide +kernel
theorem dX3_greatestPoints_18 : decode cX3_greatestPoints 18 = .ok (.aload_n 0, 1) := by decide +kernel
theorem dX3_greatestPoints_19 : decode cX3_greatestPoints 19 = .ok (.iload_n 3, 1) := by decide +kernel
theorem dX3_greatestPoints_20 : decode cX3_greatestPoints 20 = .ok (.iload_n 1, 1) := by decide +kernel
theorem dX3_greatestPoints_21 : decode cX3_greatestPoints 21 = .ok (.invokevirtual 107, 3) := by decide +kernel
theorem dX3_greatestPoints_24 : decode cX3_greatestPoints 24 = .ok (.invokestatic 110, 3) := by decide +kernel
theorem dX3_greatestPoints_27 : decode cX3_greatestPoints 27 = .ok (.istore_n 2, 1) := by decide +kernel
theorem dX3_greatestPoints_28 : decode cX3_greatestPoints 28 = .ok (.iinc 3 1, 3) := by decide +kernel
theorem dX3_greatestPoints_31 : decode cX3_greatestPoints 31 = .ok (.goto (-22), 3) := by decide +kernel
theorem dX3_greatestPoints_34 : decode cX3_greatestPoints 34 = .ok (.iload_n 2, 1) := by decide +kernel
theorem dX3_greatestPoints_35 : decode cX3_greatestPoints 35 = .ok (.ireturn, 1) := by decide +kernel
set_option maxRecDepth 20000 in
theorem ggX3_scoreOf_X3_pointsOf : GoodIn wsX3_scoreOf wsX3_pointsOf := goodIn_r _ [7, 8, 9, 10, 11, 12, 13, 14, 15, 6, 16, 17, 18, 19, 20, 21, 22, 23, 24, 25, 26, 27, 28, 29] (by decide +kernel) (by decide +kernel)
set_option maxRecDepth 20000 in
theorem gX3_scoreOf_X3_pointsOf : GoodIn wsX3_scoreOf (wsV RX3 107 RX3 yX3_pointsOf wsX3_pointsOf) := goodIn_app (goodIn_of _ (by decide +kernel)) ggX3_scoreOf_X3_pointsOf
theorem dX3_scoreOf_0 : decode cX3_scoreOf 0 = .ok (.aload_n 0, 1) := by decide +kernel
theorem dX3_scoreOf_1 : decode cX3_scoreOf 1 = .ok (.getfield 9, 3) := by decide +kernel
theorem dX3_scoreOf_4 : decode cX3_scoreOf 4 = .ok (.iconst 3, 1) := by decide +kernel
theorem dX3_scoreOf_5 : decode cX3_scoreOf 5 = .ok (.iaload, 1) := by decide +kernel
theorem dX3_scoreOf_6 : decode cX3_scoreOf 6 = .ok (.ineg, 1) := by decide +kernel
theorem dX3_scoreOf_7 : decode cX3_scoreOf 7 = .ok (.aload_n 0, 1) := by decide +kernel
theorem dX3_scoreOf_8 : decode cX3_scoreOf 8 = .ok (.getfield 21, 3) := by decide +kernel
theorem dX3_scoreOf_11 : decode cX3_scoreOf 11 = .ok (.iload_n 1, 1) := by decide +kernel
theorem dX3_scoreOf_12 : decode cX3_scoreOf 12 = .ok (.iaload, 1) := by decide +kernel
theorem dX3_scoreOf_13 : decode cX3_scoreOf 13 = .ok (.imul, 1) := by decide +kernel
theorem dX3_scoreOf_14 : decode cX3_scoreOf 14 = .ok (.istore_n 2, 1) := by decide +kernel
theorem dX3_scoreOf_15 : decode cX3_scoreOf 15 = .ok (.iconst 0, 1) := by decide +kernel
theorem dX3_scoreOf_16 : decode cX3_scoreOf 16 = .ok (.istore_n 3, 1) := by decide +kernel
theorem dX3_scoreOf_17 : decode cX3_scoreOf 17 = .ok (.iload_n 3, 1) := by decide +kernel
theorem dX3_scoreOf_18 : decode cX3_scoreOf 18 = .ok (.bipush 8, 2) := by decide +kernel
theorem dX3_scoreOf_20 : decode cX3_scoreOf 20 = .ok (.if_icmp .ge 18, 3) := by decide +kernel
theorem dX3_scoreOf_23 : decode cX3_scoreOf 23 = .ok (.iload_n 2, 1) := by decide +kernel
theorem dX3_scoreOf_24 : decode cX3_scoreOf 24 = .ok (.aload_n 0, 1) := by decide +kernel
theorem dX3_scoreOf_25 : decode cX3_scoreOf 25 = .ok (.iload_n 1, 1) := by decide +kernel
theorem dX3_scoreOf_26 : decode cX3_scoreOf 26 = .ok (.iload_n 3, 1) := by decide +kernel
theorem dX3_scoreOf_27 : decode cX3_scoreOf 27 = .ok (.invokevirtual 107, 3) := by decide +kernel
theorem dX3_scoreOf_30 : decode cX3_scoreOf 30 = .ok (.iadd, 1) := by decide +kernel
theorem dX3_scoreOf_31 : decode cX3_scoreOf 31 = .ok (.istore_n 2, 1) := by decide +kernel
theorem dX3_scoreOf_32 : decode cX3_scoreOf 32 = .ok (.iinc 3 1, 3) := by decide +kernel
theorem dX3_scoreOf_35 : decode cX3_scoreOf 35 = .ok (.goto (-18), 3) := by decide +kernel
theorem dX3_scoreOf_38 : decode cX3_scoreOf 38 = .ok (.iload_n 2, 1) := by decide +kernel
theorem dX3_scoreOf_39 : decode cX3_scoreOf 39 = .ok (.ireturn, 1) := by decide +kernel
set_option maxRecDepth 20000 in
theorem ggX3_unlikeScores_X3_isFirstWithItsScore : GoodIn wsX3_unlikeScores wsX3_isFirstWithItsScore := goodIn_r _ [6, 7, 8, 9, 5, 10, 11, 12, 13, 14, 15, 16, 17, 18, 19, 20, 21, 22, 23, 24, 25, 26, 27, 28, 29, 30, 31, 32, 33, 34, 35, 36, 37, 38] (by decide +kernel) (by decide +kernel)
set_option maxRecDepth 20000 in
theorem gX3_unlikeScores_X3_isFirstWithItsScore : GoodIn wsX3_unlikeScores (wsV RX3 115 RX3 yX3_isFirstWithItsScore wsX3_isFirstWithItsScore) := goodIn_app (goodIn_of _ (by decide +kernel)) ggX3_unlikeScores_X3_isFirstWithItsScore
theorem dX3_unlikeScores_0 : decode cX3_unlikeScores 0 = .ok (.iconst 0, 1) := by decide +kernel
theorem dX3_unlikeScores_1 : decode cX3_unlikeScores 1 = .ok (.istore_n 1, 1) := by decide +kernel
theorem dX3_unlikeScores_2 : decode cX3_unlikeScores 2 = .ok (.iconst 0, 1) := by decide +kernel
theorem dX3_unlikeScores_3 : decode cX3_unlikeScores 3 = .ok (.istore_n 2, 1) := by decide +kernel
theorem dX3_unlikeScores_4 : decode cX3_unlikeScores 4 = .ok (.iload_n 2, 1) := by decide +kernel
theorem dX3_unlikeScores_5 : decode cX3_unlikeScores 5 = .ok (.aload_n 0, 1) := by decide +kernel
theorem dX3_unlikeScores_6 : decode cX3_unlikeScores 6 = .ok (.getfield 66, 3) := by decide +kernel
theorem dX3_unlikeScores_9 : decode cX3_unlikeScores 9 = .ok (.if_icmp .ge 25, 3) := by decide +kernel
theorem dX3_unlikeScores_12 : decode cX3_unlikeScores 12 = .ok (.iload_n 1, 1) := by decide +kernel
theorem dX3_unlikeScores_13 : decode cX3_unlikeScores 13 = .ok (.aload_n 0, 1) := by decide +kernel
theorem dX3_unlikeScores_14 : decode cX3_unlikeScores 14 = .ok (.iload_n 2, 1) := by decide +kernel
theorem dX3_unlikeScores_15 : decode cX3_unlikeScores 15 = .ok (.invokevirtual 115, 3) := by decide +kernel
theorem dX3_unlikeScores_18 : decode cX3_unlikeScores 18 = .ok (.ifCond .eq 7, 3) := by decide +kernel
theorem dX3_unlikeScores_21 : decode cX3_unlikeScores 21 = .ok (.iconst 1, 1) := by decide +kernel
theorem dX3_unlikeScores_22 : decode cX3_unlikeScores 22 = .ok (.goto 4, 3) := by decide +kernel
theorem dX3_unlikeScores_25 : decode cX3_unlikeScores 25 = .ok (.iconst 0, 1) := by decide +kernel
theorem dX3_unlikeScores_26 : decode cX3_unlikeScores 26 = .ok (.iadd, 1) := by decide +kernel
theorem dX3_unlikeScores_27 : decode cX3_unlikeScores 27 = .ok (.istore_n 1, 1) := by decide +kernel
theorem dX3_unlikeScores_28 : decode cX3_unlikeScores 28 = .ok (.iinc 2 1, 3) := by decide +kernel
theorem dX3_unlikeScores_31 : decode cX3_unlikeScores 31 = .ok (.goto (-27), 3) := by decide +kernel
theorem dX3_unlikeScores_34 : decode cX3_unlikeScores 34 = .ok (.iload_n 1, 1) := by decide +kernel
theorem dX3_unlikeScores_35 : decode cX3_unlikeScores 35 = .ok (.ireturn, 1) := by decide +kernel
set_option maxRecDepth 20000 in
theorem ggX3_isFirstWithItsScore_X3_scoreOf : GoodIn wsX3_isFirstWithItsScore wsX3_scoreOf := goodIn_r _ [5, 6, 7, 8, 9, 10, 4, 11, 12, 13, 14, 15, 16, 17, 18, 19, 20, 21, 22, 23, 24, 25, 26, 27, 28, 29, 30, 31, 32, 33] (by decide +kernel) (by decide +kernel)
set_option maxRecDepth 20000 in
theorem gX3_isFirstWithItsScore_X3_scoreOf : GoodIn wsX3_isFirstWithItsScore (wsV RX3 118 RX3 yX3_scoreOf wsX3_scoreOf) := goodIn_app (goodIn_of _ (by decide +kernel)) ggX3_isFirstWithItsScore_X3_scoreOf
theorem dX3_isFirstWithItsScore_0 : decode cX3_isFirstWithItsScore 0 = .ok (.aload_n 0, 1) := by decide +kernel
theorem dX3_isFirstWithItsScore_1 : decode cX3_isFirstWithItsScore 1 = .ok (.iload_n 1, 1) := by decide +kernel
theorem dX3_isFirstWithItsScore_2 : decode cX3_isFirstWithItsScore 2 = .ok (.invokevirtual 118, 3) := by decide +kernel
theorem dX3_isFirstWithItsScore_5 : decode cX3_isFirstWithItsScore 5 = .ok (.istore_n 2, 1) := by decide +kernel
theorem dX3_isFirstWithItsScore_6 : decode cX3_isFirstWithItsScore 6 = .ok (.iconst 0, 1) := by decide +kernel
theorem dX3_isFirstWithItsScore_7 : decode cX3_isFirstWithItsScore 7 = .ok (.istore_n 3, 1) := by decide +kernel
theorem dX3_isFirstWithItsScore_8 : decode cX3_isFirstWithItsScore 8 = .ok (.iload_n 3, 1) := by decide +kernel
theorem dX3_isFirstWithItsScore_9 : decode cX3_isFirstWithItsScore 9 = .ok (.iload_n 1, 1) := by decide +kernel
theorem dX3_isFirstWithItsScore_10 : decode cX3_isFirstWithItsScore 10 = .ok (.if_icmp .ge 20, 3) := by decide +kernel
theorem dX3_isFirstWithItsScore_13 : decode cX3_isFirstWithItsScore 13 = .ok (.aload_n 0, 1) := by decide +kernel
theorem dX3_isFirstWithItsScore_14 : decode cX3_isFirstWithItsScore 14 = .ok (.iload_n 3, 1) := by decide +kernel
theorem dX3_isFirstWithItsScore_15 : decode cX3_isFirstWithItsScore 15 = .ok (.invokevirtual 118, 3) := by decide +kernel
theorem dX3_isFirstWithItsScore_18 : decode cX3_isFirstWithItsScore 18 = .ok (.iload_n 2, 1) := by decide +kernel
theorem dX3_isFirstWithItsScore_19 : decode cX3_isFirstWithItsScore 19 = .ok (.if_icmp .ne 5, 3) := by decide +kernel
theorem dX3_isFirstWithItsScore_22 : decode cX3_isFirstWithItsScore 22 = .ok (.iconst 0, 1) := by decide +kernel
theorem dX3_isFirstWithItsScore_23 : decode cX3_isFirstWithItsScore 23 = .ok (.ireturn, 1) := by decide +kernel
theorem dX3_isFirstWithItsScore_24 : decode cX3_isFirstWithItsScore 24 = .ok (.iinc 3 1, 3) := by decide +kernel
theorem dX3_isFirstWithItsScore_27 : decode cX3_isFirstWithItsScore 27 = .ok (.goto (-19), 3) := by decide +kernel
theorem dX3_isFirstWithItsScore_30 : decode cX3_isFirstWithItsScore 30 = .ok (.iconst 1, 1) := by decide +kernel
theorem dX3_isFirstWithItsScore_31 : decode cX3_isFirstWithItsScore 31 = .ok (.ireturn, 1) := by decide +kernel
theorem dX3_allFines_0 : decode cX3_allFines 0 = .ok (.iconst 0, 1) := by decide +kernel
theorem dX3_allFines_1 : decode cX3_allFines 1 = .ok (.istore_n 1, 1) := by decide +kernel
theorem dX3_allFines_2 : decode cX3_allFines 2 = .ok (.iconst 0, 1) := by decide +kernel
theorem dX3_allFines_3 : decode cX3_allFines 3 = .ok (.istore_n 2, 1) := by decide +kernel
theorem dX3_allFines_4 : decode cX3_allFines 4 = .ok (.iload_n 2, 1) := by decide +kernel
theorem dX3_allFines_5 : decode cX3_allFines 5 = .ok (.aload_n 0, 1) := by decide +kernel
theorem dX3_allFines_6 : decode cX3_allFines 6 = .ok (.getfield 66, 3) := by decide +kernel
theorem dX3_allFines_9 : decode cX3_allFines 9 = .ok (.if_icmp .ge 18, 3) := by decide +kernel
theorem dX3_allFines_12 : decode cX3_allFines 12 = .ok (.iload_n 1, 1) := by decide +kernel
theorem dX3_allFines_13 : decode cX3_allFines 13 = .ok (.aload_n 0, 1) := by decide +kernel
theorem dX3_allFines_14 : decode cX3_allFines 14 = .ok (.getfield 21, 3) := by decide +kernel
theorem dX3_allFines_17 : decode cX3_allFines 17 = .ok (.iload_n 2, 1) := by decide +kernel
theorem dX3_allFines_18 : decode cX3_allFines 18 = .ok (.iaload, 1) := by decide +kernel
theorem dX3_allFines_19 : decode cX3_allFines 19 = .ok (.iadd, 1) := by decide +kernel
theorem dX3_allFines_20 : decode cX3_allFines 20 = .ok (.istore_n 1, 1) := by decide +kernel
theorem dX3_allFines_21 : decode cX3_allFines 21 = .ok (.iinc 2 1, 3) := by decide +kernel
theorem dX3_allFines_24 : decode cX3_allFines 24 = .ok (.goto (-20), 3) := by decide +kernel
theorem dX3_allFines_27 : decode cX3_allFines 27 = .ok (.iload_n 1, 1) := by decide +kernel
theorem dX3_allFines_28 : decode cX3_allFines 28 = .ok (.ireturn, 1) := by decide +kernel
set_option maxRecDepth 20000 in
theorem ggX3_allLooks_J6_bitCount_0f7a4 : GoodIn wsX3_allLooks wsJ6_bitCount_0f7a4 := goodIn_r _ [5, 6, 7, 8] (by decide +kernel) (by decide +kernel)
set_option maxRecDepth 20000 in
theorem gX3_allLooks_J6_bitCount_0f7a4 : GoodIn wsX3_allLooks (va_wsS RX3 122 yJ6_bitCount_0f7a4 wsJ6_bitCount_0f7a4) := goodIn_app (goodIn_of _ (by decide +kernel)) ggX3_allLooks_J6_bitCount_0f7a4
theorem dX3_allLooks_0 : decode cX3_allLooks 0 = .ok (.iconst 0, 1) := by decide +kernel
theorem dX3_allLooks_1 : decode cX3_allLooks 1 = .ok (.istore_n 1, 1) := by decide +kernel
theorem dX3_allLooks_2 : decode cX3_allLooks 2 = .ok (.iconst 0, 1) := by decide +kernel
theorem dX3_allLooks_3 : decode cX3_allLooks 3 = .ok (.istore_n 2, 1) := by decide +kernel
theorem dX3_allLooks_4 : decode cX3_allLooks 4 = .ok (.iload_n 2, 1) := by decide +kernel
theorem dX3_allLooks_5 : decode cX3_allLooks 5 = .ok (.bipush 8, 2) := by decide +kernel
theorem dX3_allLooks_7 : decode cX3_allLooks 7 = .ok (.if_icmp .ge 21, 3) := by decide +kernel
theorem dX3_allLooks_10 : decode cX3_allLooks 10 = .ok (.iload_n 1, 1) := by decide +kernel
theorem dX3_allLooks_11 : decode cX3_allLooks 11 = .ok (.aload_n 0, 1) := by decide +kernel
theorem dX3_allLooks_12 : decode cX3_allLooks 12 = .ok (.getfield 40, 3) := by decide +kernel
theorem dX3_allLooks_15 : decode cX3_allLooks 15 = .ok (.iload_n 2, 1) := by decide +kernel
theorem dX3_allLooks_16 : decode cX3_allLooks 16 = .ok (.iaload, 1) := by decide +kernel
theorem dX3_allLooks_17 : decode cX3_allLooks 17 = .ok (.invokestatic 122, 3) := by decide +kernel
theorem dX3_allLooks_20 : decode cX3_allLooks 20 = .ok (.iadd, 1) := by decide +kernel
theorem dX3_allLooks_21 : decode cX3_allLooks 21 = .ok (.istore_n 1, 1) := by decide +kernel
theorem dX3_allLooks_22 : decode cX3_allLooks 22 = .ok (.iinc 2 1, 3) := by decide +kernel
theorem dX3_allLooks_25 : decode cX3_allLooks 25 = .ok (.goto (-21), 3) := by decide +kernel
theorem dX3_allLooks_28 : decode cX3_allLooks 28 = .ok (.iload_n 1, 1) := by decide +kernel
theorem dX3_allLooks_29 : decode cX3_allLooks 29 = .ok (.ireturn, 1) := by decide +kernel
theorem dX3_guessers_0 : decode cX3_guessers 0 = .ok (.iconst 0, 1) := by decide +kernel
theorem dX3_guessers_1 : decode cX3_guessers 1 = .ok (.istore_n 1, 1) := by decide +kernel
theorem dX3_guessers_2 : decode cX3_guessers 2 = .ok (.iconst 0, 1) := by decide +kernel
theorem dX3_guessers_3 : decode cX3_guessers 3 = .ok (.istore_n 2, 1) := by decide +kernel
theorem dX3_guessers_4 : decode cX3_guessers 4 = .ok (.iload_n 2, 1) := by decide +kernel
theorem dX3_guessers_5 : decode cX3_guessers 5 = .ok (.aload_n 0, 1) := by decide +kernel
theorem dX3_guessers_6 : decode cX3_guessers 6 = .ok (.getfield 66, 3) := by decide +kernel
theorem dX3_guessers_9 : decode cX3_guessers 9 = .ok (.if_icmp .ge 28, 3) := by decide +kernel
theorem dX3_guessers_12 : decode cX3_guessers 12 = .ok (.iload_n 1, 1) := by decide +kernel
theorem dX3_guessers_13 : decode cX3_guessers 13 = .ok (.aload_n 0, 1) := by decide +kernel
theorem dX3_guessers_14 : decode cX3_guessers 14 = .ok (.getfield 24, 3) := by decide +kernel
theorem dX3_guessers_17 : decode cX3_guessers 17 = .ok (.iload_n 2, 1) := by decide +kernel
theorem dX3_guessers_18 : decode cX3_guessers 18 = .ok (.iaload, 1) := by decide +kernel
theorem dX3_guessers_19 : decode cX3_guessers 19 = .ok (.bipush (-6), 2) := by decide +kernel
theorem dX3_guessers_21 : decode cX3_guessers 21 = .ok (.if_icmp .ne 7, 3) := by decide +kernel
theorem dX3_guessers_24 : decode cX3_guessers 24 = .ok (.iconst 0, 1) := by decide +kernel
theorem dX3_guessers_25 : decode cX3_guessers 25 = .ok (.goto 4, 3) := by decide +kernel
theorem dX3_guessers_28 : decode cX3_guessers 28 = .ok (.iconst 1, 1) := by decide +kernel
theorem dX3_guessers_29 : decode cX3_guessers 29 = .ok (.iadd, 1) := by decide +kernel
theorem dX3_guessers_30 : decode cX3_guessers 30 = .ok (.istore_n 1, 1) := by decide +kernel
theorem dX3_guessers_31 : decode cX3_guessers 31 = .ok (.iinc 2 1, 3) := by decide +kernel
theorem dX3_guessers_34 : decode cX3_guessers 34 = .ok (.goto (-30), 3) := by decide +kernel
theorem dX3_guessers_37 : decode cX3_guessers 37 = .ok (.iload_n 1, 1) := by decide +kernel
theorem dX3_guessers_38 : decode cX3_guessers 38 = .ok (.ireturn, 1) := by decide +kernel
theorem dX3_distanceOf_0 : decode cX3_distanceOf 0 = .ok (.aload_n 0, 1) := by decide +kernel
theorem dX3_distanceOf_1 : decode cX3_distanceOf 1 = .ok (.getfield 43, 3) := by decide +kernel
theorem dX3_distanceOf_4 : decode cX3_distanceOf 4 = .ok (.bipush (-6), 2) := by decide +kernel
theorem dX3_distanceOf_6 : decode cX3_distanceOf 6 = .ok (.if_icmp .eq 14, 3) := by decide +kernel
theorem dX3_distanceOf_9 : decode cX3_distanceOf 9 = .ok (.aload_n 0, 1) := by decide +kernel
theorem dX3_distanceOf_10 : decode cX3_distanceOf 10 = .ok (.getfield 24, 3) := by decide +kernel
theorem dX3_distanceOf_13 : decode cX3_distanceOf 13 = .ok (.iload_n 1, 1) := by decide +kernel
theorem dX3_distanceOf_14 : decode cX3_distanceOf 14 = .ok (.iaload, 1) := by decide +kernel
theorem dX3_distanceOf_15 : decode cX3_distanceOf 15 = .ok (.bipush (-6), 2) := by decide +kernel
theorem dX3_distanceOf_17 : decode cX3_distanceOf 17 = .ok (.if_icmp .ne 7, 3) := by decide +kernel
theorem dX3_distanceOf_20 : decode cX3_distanceOf 20 = .ok (.sipush 10000, 3) := by decide +kernel
theorem dX3_distanceOf_23 : decode cX3_distanceOf 23 = .ok (.ireturn, 1) := by decide +kernel
theorem dX3_distanceOf_24 : decode cX3_distanceOf 24 = .ok (.aload_n 0, 1) := by decide +kernel
theorem dX3_distanceOf_25 : decode cX3_distanceOf 25 = .ok (.getfield 24, 3) := by decide +kernel
theorem dX3_distanceOf_28 : decode cX3_distanceOf 28 = .ok (.iload_n 1, 1) := by decide +kernel
theorem dX3_distanceOf_29 : decode cX3_distanceOf 29 = .ok (.iaload, 1) := by decide +kernel
theorem dX3_distanceOf_30 : decode cX3_distanceOf 30 = .ok (.aload_n 0, 1) := by decide +kernel
theorem dX3_distanceOf_31 : decode cX3_distanceOf 31 = .ok (.getfield 43, 3) := by decide +kernel
theorem dX3_distanceOf_34 : decode cX3_distanceOf 34 = .ok (.isub, 1) := by decide +kernel
theorem dX3_distanceOf_35 : decode cX3_distanceOf 35 = .ok (.invokestatic 127, 3) := by decide +kernel
theorem dX3_distanceOf_38 : decode cX3_distanceOf 38 = .ok (.ireturn, 1) := by decide +kernel
set_option maxRecDepth 20000 in
theorem ggX3_isAhead_X3_scoreOf : GoodIn wsX3_isAhead wsX3_scoreOf := goodIn_r _ [5, 6, 7, 8, 9, 10, 4, 11, 12, 13, 14, 15, 16, 17, 18, 19, 20, 21, 32, 33, 34, 35, 36, 37, 38, 39, 40, 41, 42, 43] (by decide +kernel) (by decide +kernel)
set_option maxRecDepth 20000 in
theorem gX3_isAhead_X3_scoreOf : GoodIn wsX3_isAhead (wsV RX3 118 RX3 yX3_scoreOf wsX3_scoreOf) := goodIn_app (goodIn_of _ (by decide +kernel)) ggX3_isAhead_X3_scoreOf
set_option maxRecDepth 20000 in
theorem ggX3_isAhead_X3_distanceOf : GoodIn wsX3_isAhead wsX3_distanceOf := goodIn_r _ [25, 26, 27, 28, 29, 30, 31, 32, 33, 34, 35, 36, 37, 38, 39, 40, 41, 42, 43] (by decide +kernel) (by decide +kernel)
set_option maxRecDepth 20000 in
theorem gX3_isAhead_X3_distanceOf : GoodIn wsX3_isAhead (wsV RX3 130 RX3 yX3_distanceOf wsX3_distanceOf) := goodIn_app (goodIn_of _ (by decide +kernel)) ggX3_isAhead_X3_distanceOf
theorem dX3_isAhead_0 : decode cX3_isAhead 0 = .ok (.aload_n 0, 1) := by decide +kernel
theorem dX3_isAhead_1 : decode cX3_isAhead 1 = .ok (.iload_n 1, 1) := by decide +kernel
theorem dX3_isAhead_2 : decode cX3_isAhead 2 = .ok (.invokevirtual 118, 3) := by decide +kernel
theorem dX3_isAhead_5 : decode cX3_isAhead 5 = .ok (.aload_n 0, 1) := by decide +kernel
theorem dX3_isAhead_6 : decode cX3_isAhead 6 = .ok (.iload_n 2, 1) := by decide +kernel
theorem dX3_isAhead_7 : decode cX3_isAhead 7 = .ok (.invokevirtual 118, 3) := by decide +kernel
theorem dX3_isAhead_10 : decode cX3_isAhead 10 = .ok (.isub, 1) := by decide +kernel
theorem dX3_isAhead_11 : decode cX3_isAhead 11 = .ok (.istore_n 3, 1) := by decide +kernel
theorem dX3_isAhead_12 : decode cX3_isAhead 12 = .ok (.iload_n 3, 1) := by decide +kernel
theorem dX3_isAhead_13 : decode cX3_isAhead 13 = .ok (.ifCond .gt 20, 3) := by decide +kernel
theorem dX3_isAhead_16 : decode cX3_isAhead 16 = .ok (.iload_n 3, 1) := by decide +kernel
theorem dX3_isAhead_17 : decode cX3_isAhead 17 = .ok (.ifCond .ne 20, 3) := by decide +kernel
theorem dX3_isAhead_20 : decode cX3_isAhead 20 = .ok (.aload_n 0, 1) := by decide +kernel
theorem dX3_isAhead_21 : decode cX3_isAhead 21 = .ok (.iload_n 1, 1) := by decide +kernel
theorem dX3_isAhead_22 : decode cX3_isAhead 22 = .ok (.invokevirtual 130, 3) := by decide +kernel
theorem dX3_isAhead_25 : decode cX3_isAhead 25 = .ok (.aload_n 0, 1) := by decide +kernel
theorem dX3_isAhead_26 : decode cX3_isAhead 26 = .ok (.iload_n 2, 1) := by decide +kernel
theorem dX3_isAhead_27 : decode cX3_isAhead 27 = .ok (.invokevirtual 130, 3) := by decide +kernel
theorem dX3_isAhead_30 : decode cX3_isAhead 30 = .ok (.if_icmp .ge 7, 3) := by decide +kernel
theorem dX3_isAhead_33 : decode cX3_isAhead 33 = .ok (.iconst 1, 1) := by decide +kernel
theorem dX3_isAhead_34 : decode cX3_isAhead 34 = .ok (.goto 4, 3) := by decide +kernel
theorem dX3_isAhead_37 : decode cX3_isAhead 37 = .ok (.iconst 0, 1) := by decide +kernel
theorem dX3_isAhead_38 : decode cX3_isAhead 38 = .ok (.ireturn, 1) := by decide +kernel
set_option maxRecDepth 20000 in
theorem ggX3_rankOf_X3_isAhead : GoodIn wsX3_rankOf wsX3_isAhead := goodIn_r _ [6, 7, 8, 9, 5, 10, 11, 12, 13, 14, 15, 16, 17, 18, 19, 20, 21, 22, 23, 24, 25, 26, 27, 28, 29, 30, 31, 32, 33, 34, 35, 36, 37, 38, 39, 40, 41, 42, 43, 44, 45, 46, 47, 48] (by decide +kernel) (by decide +kernel)
set_option maxRecDepth 20000 in
theorem gX3_rankOf_X3_isAhead : GoodIn wsX3_rankOf (wsV RX3 133 RX3 yX3_isAhead wsX3_isAhead) := goodIn_app (goodIn_of _ (by decide +kernel)) ggX3_rankOf_X3_isAhead
theorem dX3_rankOf_0 : decode cX3_rankOf 0 = .ok (.iconst 1, 1) := by decide +kernel
theorem dX3_rankOf_1 : decode cX3_rankOf 1 = .ok (.istore_n 2, 1) := by decide +kernel
theorem dX3_rankOf_2 : decode cX3_rankOf 2 = .ok (.iconst 0, 1) := by decide +kernel
theorem dX3_rankOf_3 : decode cX3_rankOf 3 = .ok (.istore_n 3, 1) := by decide +kernel
theorem dX3_rankOf_4 : decode cX3_rankOf 4 = .ok (.iload_n 3, 1) := by decide +kernel
theorem dX3_rankOf_5 : decode cX3_rankOf 5 = .ok (.aload_n 0, 1) := by decide +kernel
theorem dX3_rankOf_6 : decode cX3_rankOf 6 = .ok (.getfield 66, 3) := by decide +kernel
theorem dX3_rankOf_9 : decode cX3_rankOf 9 = .ok (.if_icmp .ge 26, 3) := by decide +kernel
theorem dX3_rankOf_12 : decode cX3_rankOf 12 = .ok (.iload_n 2, 1) := by decide +kernel
theorem dX3_rankOf_13 : decode cX3_rankOf 13 = .ok (.aload_n 0, 1) := by decide +kernel
theorem dX3_rankOf_14 : decode cX3_rankOf 14 = .ok (.iload_n 3, 1) := by decide +kernel
theorem dX3_rankOf_15 : decode cX3_rankOf 15 = .ok (.iload_n 1, 1) := by decide +kernel
theorem dX3_rankOf_16 : decode cX3_rankOf 16 = .ok (.invokevirtual 133, 3) := by decide +kernel
theorem dX3_rankOf_19 : decode cX3_rankOf 19 = .ok (.ifCond .eq 7, 3) := by decide +kernel
theorem dX3_rankOf_22 : decode cX3_rankOf 22 = .ok (.iconst 1, 1) := by decide +kernel
theorem dX3_rankOf_23 : decode cX3_rankOf 23 = .ok (.goto 4, 3) := by decide +kernel
theorem dX3_rankOf_26 : decode cX3_rankOf 26 = .ok (.iconst 0, 1) := by decide +kernel
theorem dX3_rankOf_27 : decode cX3_rankOf 27 = .ok (.iadd, 1) := by decide +kernel
theorem dX3_rankOf_28 : decode cX3_rankOf 28 = .ok (.istore_n 2, 1) := by decide +kernel
theorem dX3_rankOf_29 : decode cX3_rankOf 29 = .ok (.iinc 3 1, 3) := by decide +kernel
theorem dX3_rankOf_32 : decode cX3_rankOf 32 = .ok (.goto (-28), 3) := by decide +kernel
theorem dX3_rankOf_35 : decode cX3_rankOf 35 = .ok (.iload_n 2, 1) := by decide +kernel
theorem dX3_rankOf_36 : decode cX3_rankOf 36 = .ok (.ireturn, 1) := by decide +kernel
set_option maxRecDepth 20000 in
theorem ggX3_tiedWith_X3_isAhead : GoodIn wsX3_tiedWith wsX3_isAhead := goodIn_r _ [6, 7, 8, 9, 5, 10, 11, 12, 13, 14, 15, 16, 17, 18, 19, 20, 21, 22, 23, 24, 25, 26, 27, 28, 29, 30, 31, 32, 33, 34, 35, 36, 37, 38, 39, 40, 41, 42, 43, 44, 45, 46, 47, 48] (by decide +kernel) (by decide +kernel)
set_option maxRecDepth 20000 in
theorem gX3_tiedWith_X3_isAhead : GoodIn wsX3_tiedWith (wsV RX3 133 RX3 yX3_isAhead wsX3_isAhead) := goodIn_app (goodIn_of _ (by decide +kernel)) ggX3_tiedWith_X3_isAhead
theorem dX3_tiedWith_0 : decode cX3_tiedWith 0 = .ok (.iconst 0, 1) := by decide +kernel
theorem dX3_tiedWith_1 : decode cX3_tiedWith 1 = .ok (.istore_n 2, 1) := by decide +kernel
theorem dX3_tiedWith_2 : decode cX3_tiedWith 2 = .ok (.iconst 0, 1) := by decide +kernel
theorem dX3_tiedWith_3 : decode cX3_tiedWith 3 = .ok (.istore_n 3, 1) := by decide +kernel
theorem dX3_tiedWith_4 : decode cX3_tiedWith 4 = .ok (.iload_n 3, 1) := by decide +kernel
theorem dX3_tiedWith_5 : decode cX3_tiedWith 5 = .ok (.aload_n 0, 1) := by decide +kernel
theorem dX3_tiedWith_6 : decode cX3_tiedWith 6 = .ok (.getfield 66, 3) := by decide +kernel
theorem dX3_tiedWith_9 : decode cX3_tiedWith 9 = .ok (.if_icmp .ge 38, 3) := by decide +kernel
theorem dX3_tiedWith_12 : decode cX3_tiedWith 12 = .ok (.iload_n 3, 1) := by decide +kernel
theorem dX3_tiedWith_13 : decode cX3_tiedWith 13 = .ok (.iload_n 1, 1) := by decide +kernel
theorem dX3_tiedWith_14 : decode cX3_tiedWith 14 = .ok (.if_icmp .eq 27, 3) := by decide +kernel
theorem dX3_tiedWith_17 : decode cX3_tiedWith 17 = .ok (.aload_n 0, 1) := by decide +kernel
theorem dX3_tiedWith_18 : decode cX3_tiedWith 18 = .ok (.iload_n 3, 1) := by decide +kernel
theorem dX3_tiedWith_19 : decode cX3_tiedWith 19 = .ok (.iload_n 1, 1) := by decide +kernel
theorem dX3_tiedWith_20 : decode cX3_tiedWith 20 = .ok (.invokevirtual 133, 3) := by decide +kernel
theorem dX3_tiedWith_23 : decode cX3_tiedWith 23 = .ok (.ifCond .ne 18, 3) := by decide +kernel
theorem dX3_tiedWith_26 : decode cX3_tiedWith 26 = .ok (.aload_n 0, 1) := by decide +kernel
theorem dX3_tiedWith_27 : decode cX3_tiedWith 27 = .ok (.iload_n 1, 1) := by decide +kernel
theorem dX3_tiedWith_28 : decode cX3_tiedWith 28 = .ok (.iload_n 3, 1) := by decide +kernel
theorem dX3_tiedWith_29 : decode cX3_tiedWith 29 = .ok (.invokevirtual 133, 3) := by decide +kernel
theorem dX3_tiedWith_32 : decode cX3_tiedWith 32 = .ok (.ifCond .ne 9, 3) := by decide +kernel
theorem dX3_tiedWith_35 : decode cX3_tiedWith 35 = .ok (.iload_n 2, 1) := by decide +kernel
theorem dX3_tiedWith_36 : decode cX3_tiedWith 36 = .ok (.iconst 1, 1) := by decide +kernel
theorem dX3_tiedWith_37 : decode cX3_tiedWith 37 = .ok (.iload_n 3, 1) := by decide +kernel
theorem dX3_tiedWith_38 : decode cX3_tiedWith 38 = .ok (.ishl, 1) := by decide +kernel
theorem dX3_tiedWith_39 : decode cX3_tiedWith 39 = .ok (.ior, 1) := by decide +kernel
theorem dX3_tiedWith_40 : decode cX3_tiedWith 40 = .ok (.istore_n 2, 1) := by decide +kernel
theorem dX3_tiedWith_41 : decode cX3_tiedWith 41 = .ok (.iinc 3 1, 3) := by decide +kernel
theorem dX3_tiedWith_44 : decode cX3_tiedWith 44 = .ok (.goto (-40), 3) := by decide +kernel
theorem dX3_tiedWith_47 : decode cX3_tiedWith 47 = .ok (.iload_n 2, 1) := by decide +kernel
theorem dX3_tiedWith_48 : decode cX3_tiedWith 48 = .ok (.ireturn, 1) := by decide +kernel
set_option maxRecDepth 20000 in
theorem ggX3_lowerIn_J6_bitCount_0f7a4 : GoodIn wsX3_lowerIn wsJ6_bitCount_0f7a4 := goodIn_r _ [4, 5, 6, 7] (by decide +kernel) (by decide +kernel)
set_option maxRecDepth 20000 in
theorem gX3_lowerIn_J6_bitCount_0f7a4 : GoodIn wsX3_lowerIn (va_wsS RX3 122 yJ6_bitCount_0f7a4 wsJ6_bitCount_0f7a4) := goodIn_app (goodIn_of _ (by decide +kernel)) ggX3_lowerIn_J6_bitCount_0f7a4
theorem dX3_lowerIn_0 : decode cX3_lowerIn 0 = .ok (.iload_n 0, 1) := by decide +kernel
theorem dX3_lowerIn_1 : decode cX3_lowerIn 1 = .ok (.iconst 1, 1) := by decide +kernel
theorem dX3_lowerIn_2 : decode cX3_lowerIn 2 = .ok (.iload_n 1, 1) := by decide +kernel
theorem dX3_lowerIn_3 : decode cX3_lowerIn 3 = .ok (.ishl, 1) := by decide +kernel
theorem dX3_lowerIn_4 : decode cX3_lowerIn 4 = .ok (.iconst 1, 1) := by decide +kernel
theorem dX3_lowerIn_5 : decode cX3_lowerIn 5 = .ok (.isub, 1) := by decide +kernel
theorem dX3_lowerIn_6 : decode cX3_lowerIn 6 = .ok (.iand, 1) := by decide +kernel
theorem dX3_lowerIn_7 : decode cX3_lowerIn 7 = .ok (.invokestatic 122, 3) := by decide +kernel
theorem dX3_lowerIn_10 : decode cX3_lowerIn 10 = .ok (.ireturn, 1) := by decide +kernel
set_option maxRecDepth 20000 in
theorem ggX3_placeOf_X3_rankOf : GoodIn wsX3_placeOf wsX3_rankOf := goodIn_r _ [5, 6, 7, 8, 9, 4, 10, 11, 12, 13, 14, 15, 16, 17, 18, 19, 20, 21, 22, 23, 24, 25, 26, 27, 28, 29, 30, 31, 32, 33, 34, 35, 36, 37, 38, 39, 40, 55, 56, 57, 58, 59, 60, 61, 62, 63, 64, 65, 66] (by decide +kernel) (by decide +kernel)
set_option maxRecDepth 20000 in
theorem gX3_placeOf_X3_rankOf : GoodIn wsX3_placeOf (wsV RX3 136 RX3 yX3_rankOf wsX3_rankOf) := goodIn_app (goodIn_of _ (by decide +kernel)) ggX3_placeOf_X3_rankOf
set_option maxRecDepth 20000 in
theorem ggX3_placeOf_X3_tiedWith : GoodIn wsX3_placeOf wsX3_tiedWith := goodIn_r _ [44, 6, 7, 8, 9, 4, 10, 11, 12, 13, 14, 15, 16, 17, 18, 19, 20, 21, 22, 23, 24, 25, 26, 27, 28, 29, 30, 31, 32, 33, 34, 35, 36, 37, 38, 39, 40, 55, 56, 57, 58, 59, 60, 61, 62, 63, 64, 65, 66] (by decide +kernel) (by decide +kernel)
set_option maxRecDepth 20000 in
theorem gX3_placeOf_X3_tiedWith : GoodIn wsX3_placeOf (wsV RX3 139 RX3 yX3_tiedWith wsX3_tiedWith) := goodIn_app (goodIn_of _ (by decide +kernel)) ggX3_placeOf_X3_tiedWith
set_option maxRecDepth 20000 in
theorem ggX3_placeOf_X3_lowerIn : GoodIn wsX3_placeOf wsX3_lowerIn := goodIn_r _ [47, 48, 49, 50, 51, 52, 53, 54] (by decide +kernel) (by decide +kernel)
set_option maxRecDepth 20000 in
theorem gX3_placeOf_X3_lowerIn : GoodIn wsX3_placeOf (va_wsS RX3 142 yX3_lowerIn wsX3_lowerIn) := goodIn_app (goodIn_of _ (by decide +kernel)) ggX3_placeOf_X3_lowerIn
theorem dX3_placeOf_0 : decode cX3_placeOf 0 = .ok (.aload_n 0, 1) := by decide +kernel
theorem dX3_placeOf_1 : decode cX3_placeOf 1 = .ok (.iload_n 1, 1) := by decide +kernel
theorem dX3_placeOf_2 : decode cX3_placeOf 2 = .ok (.invokevirtual 136, 3) := by decide +kernel
theorem dX3_placeOf_5 : decode cX3_placeOf 5 = .ok (.iconst 1, 1) := by decide +kernel
theorem dX3_placeOf_6 : decode cX3_placeOf 6 = .ok (.isub, 1) := by decide +kernel
theorem dX3_placeOf_7 : decode cX3_placeOf 7 = .ok (.aload_n 0, 1) := by decide +kernel
theorem dX3_placeOf_8 : decode cX3_placeOf 8 = .ok (.iload_n 1, 1) := by decide +kernel
theorem dX3_placeOf_9 : decode cX3_placeOf 9 = .ok (.invokevirtual 139, 3) := by decide +kernel
theorem dX3_placeOf_12 : decode cX3_placeOf 12 = .ok (.iload_n 1, 1) := by decide +kernel
theorem dX3_placeOf_13 : decode cX3_placeOf 13 = .ok (.invokestatic 142, 3) := by decide +kernel
theorem dX3_placeOf_16 : decode cX3_placeOf 16 = .ok (.iadd, 1) := by decide +kernel
theorem dX3_placeOf_17 : decode cX3_placeOf 17 = .ok (.ireturn, 1) := by decide +kernel
theorem dX3_entries_0 : decode cX3_entries 0 = .ok (.iconst 0, 1) := by decide +kernel
theorem dX3_entries_1 : decode cX3_entries 1 = .ok (.istore_n 1, 1) := by decide +kernel
theorem dX3_entries_2 : decode cX3_entries 2 = .ok (.iconst 0, 1) := by decide +kernel
theorem dX3_entries_3 : decode cX3_entries 3 = .ok (.istore_n 2, 1) := by decide +kernel
theorem dX3_entries_4 : decode cX3_entries 4 = .ok (.iload_n 2, 1) := by decide +kernel
theorem dX3_entries_5 : decode cX3_entries 5 = .ok (.aload_n 0, 1) := by decide +kernel
theorem dX3_entries_6 : decode cX3_entries 6 = .ok (.getfield 66, 3) := by decide +kernel
theorem dX3_entries_9 : decode cX3_entries 9 = .ok (.if_icmp .ge 18, 3) := by decide +kernel
theorem dX3_entries_12 : decode cX3_entries 12 = .ok (.iload_n 1, 1) := by decide +kernel
theorem dX3_entries_13 : decode cX3_entries 13 = .ok (.aload_n 0, 1) := by decide +kernel
theorem dX3_entries_14 : decode cX3_entries 14 = .ok (.getfield 15, 3) := by decide +kernel
theorem dX3_entries_17 : decode cX3_entries 17 = .ok (.iload_n 2, 1) := by decide +kernel
theorem dX3_entries_18 : decode cX3_entries 18 = .ok (.iaload, 1) := by decide +kernel
theorem dX3_entries_19 : decode cX3_entries 19 = .ok (.iadd, 1) := by decide +kernel
theorem dX3_entries_20 : decode cX3_entries 20 = .ok (.istore_n 1, 1) := by decide +kernel
theorem dX3_entries_21 : decode cX3_entries 21 = .ok (.iinc 2 1, 3) := by decide +kernel
theorem dX3_entries_24 : decode cX3_entries 24 = .ok (.goto (-20), 3) := by decide +kernel
theorem dX3_entries_27 : decode cX3_entries 27 = .ok (.iload_n 1, 1) := by decide +kernel
theorem dX3_entries_28 : decode cX3_entries 28 = .ok (.ireturn, 1) := by decide +kernel
set_option maxRecDepth 20000 in
theorem ggX3_ofTheHouse_X3_entries : GoodIn wsX3_ofTheHouse wsX3_entries := goodIn_r _ [6, 7, 8, 9, 10, 11, 12, 13, 14, 15, 16, 17, 18, 19, 20] (by decide +kernel) (by decide +kernel)
set_option maxRecDepth 20000 in
theorem gX3_ofTheHouse_X3_entries : GoodIn wsX3_ofTheHouse (wsV RX3 145 RX3 yX3_entries wsX3_entries) := goodIn_app (goodIn_of _ (by decide +kernel)) ggX3_ofTheHouse_X3_entries
theorem dX3_ofTheHouse_0 : decode cX3_ofTheHouse 0 = .ok (.aload_n 0, 1) := by decide +kernel
theorem dX3_ofTheHouse_1 : decode cX3_ofTheHouse 1 = .ok (.invokevirtual 145, 3) := by decide +kernel
theorem dX3_ofTheHouse_4 : decode cX3_ofTheHouse 4 = .ok (.aload_n 0, 1) := by decide +kernel
theorem dX3_ofTheHouse_5 : decode cX3_ofTheHouse 5 = .ok (.getfield 9, 3) := by decide +kernel
theorem dX3_ofTheHouse_8 : decode cX3_ofTheHouse 8 = .ok (.iconst 1, 1) := by decide +kernel
theorem dX3_ofTheHouse_9 : decode cX3_ofTheHouse 9 = .ok (.iaload, 1) := by decide +kernel
theorem dX3_ofTheHouse_10 : decode cX3_ofTheHouse 10 = .ok (.imul, 1) := by decide +kernel
theorem dX3_ofTheHouse_11 : decode cX3_ofTheHouse 11 = .ok (.bipush 100, 2) := by decide +kernel
theorem dX3_ofTheHouse_13 : decode cX3_ofTheHouse 13 = .ok (.idiv, 1) := by decide +kernel
theorem dX3_ofTheHouse_14 : decode cX3_ofTheHouse 14 = .ok (.ireturn, 1) := by decide +kernel
set_option maxRecDepth 20000 in
theorem ggX3_pot_X3_entries : GoodIn wsX3_pot wsX3_entries := goodIn_r _ [5, 6, 7, 13, 14, 15, 16, 17, 18, 19, 20, 21, 22, 23, 24] (by decide +kernel) (by decide +kernel)
set_option maxRecDepth 20000 in
theorem gX3_pot_X3_entries : GoodIn wsX3_pot (wsV RX3 145 RX3 yX3_entries wsX3_entries) := goodIn_app (goodIn_of _ (by decide +kernel)) ggX3_pot_X3_entries
set_option maxRecDepth 20000 in
theorem ggX3_pot_X3_ofTheHouse : GoodIn wsX3_pot wsX3_ofTheHouse := goodIn_r _ [11, 12, 1, 2, 3, 4, 5, 6, 7, 13, 14, 15, 16, 17, 18, 19, 20, 21, 22, 23, 24] (by decide +kernel) (by decide +kernel)
set_option maxRecDepth 20000 in
theorem gX3_pot_X3_ofTheHouse : GoodIn wsX3_pot (wsV RX3 149 RX3 yX3_ofTheHouse wsX3_ofTheHouse) := goodIn_app (goodIn_of _ (by decide +kernel)) ggX3_pot_X3_ofTheHouse
theorem dX3_pot_0 : decode cX3_pot 0 = .ok (.aload_n 0, 1) := by decide +kernel
theorem dX3_pot_1 : decode cX3_pot 1 = .ok (.invokevirtual 145, 3) := by decide +kernel
theorem dX3_pot_4 : decode cX3_pot 4 = .ok (.aload_n 0, 1) := by decide +kernel
theorem dX3_pot_5 : decode cX3_pot 5 = .ok (.invokevirtual 149, 3) := by decide +kernel
theorem dX3_pot_8 : decode cX3_pot 8 = .ok (.isub, 1) := by decide +kernel
theorem dX3_pot_9 : decode cX3_pot 9 = .ok (.ireturn, 1) := by decide +kernel
set_option maxRecDepth 20000 in
theorem ggX3_prizeOfPlace_X3_pot : GoodIn wsX3_prizeOfPlace wsX3_pot := goodIn_r _ [6, 7, 8, 9, 5, 10, 1, 11, 12, 13, 14, 15, 16, 17, 18, 19, 20, 21, 22, 23, 24, 25, 26, 27, 28] (by decide +kernel) (by decide +kernel)
set_option maxRecDepth 20000 in
theorem gX3_prizeOfPlace_X3_pot : GoodIn wsX3_prizeOfPlace (wsV RX3 152 RX3 yX3_pot wsX3_pot) := goodIn_app (goodIn_of _ (by decide +kernel)) ggX3_prizeOfPlace_X3_pot
theorem dX3_prizeOfPlace_0 : decode cX3_prizeOfPlace 0 = .ok (.aload_n 0, 1) := by decide +kernel
theorem dX3_prizeOfPlace_1 : decode cX3_prizeOfPlace 1 = .ok (.invokevirtual 152, 3) := by decide +kernel
theorem dX3_prizeOfPlace_4 : decode cX3_prizeOfPlace 4 = .ok (.istore_n 2, 1) := by decide +kernel
theorem dX3_prizeOfPlace_5 : decode cX3_prizeOfPlace 5 = .ok (.aload_n 0, 1) := by decide +kernel
theorem dX3_prizeOfPlace_6 : decode cX3_prizeOfPlace 6 = .ok (.getfield 66, 3) := by decide +kernel
theorem dX3_prizeOfPlace_9 : decode cX3_prizeOfPlace 9 = .ok (.iconst 2, 1) := by decide +kernel
theorem dX3_prizeOfPlace_10 : decode cX3_prizeOfPlace 10 = .ok (.if_icmp .lt 13, 3) := by decide +kernel
theorem dX3_prizeOfPlace_13 : decode cX3_prizeOfPlace 13 = .ok (.iload_n 2, 1) := by decide +kernel
theorem dX3_prizeOfPlace_14 : decode cX3_prizeOfPlace 14 = .ok (.bipush 30, 2) := by decide +kernel
theorem dX3_prizeOfPlace_16 : decode cX3_prizeOfPlace 16 = .ok (.imul, 1) := by decide +kernel
theorem dX3_prizeOfPlace_17 : decode cX3_prizeOfPlace 17 = .ok (.bipush 100, 2) := by decide +kernel
theorem dX3_prizeOfPlace_19 : decode cX3_prizeOfPlace 19 = .ok (.idiv, 1) := by decide +kernel
theorem dX3_prizeOfPlace_20 : decode cX3_prizeOfPlace 20 = .ok (.goto 4, 3) := by decide +kernel
theorem dX3_prizeOfPlace_23 : decode cX3_prizeOfPlace 23 = .ok (.iconst 0, 1) := by decide +kernel
theorem dX3_prizeOfPlace_24 : decode cX3_prizeOfPlace 24 = .ok (.istore_n 3, 1) := by decide +kernel
theorem dX3_prizeOfPlace_25 : decode cX3_prizeOfPlace 25 = .ok (.aload_n 0, 1) := by decide +kernel
theorem dX3_prizeOfPlace_26 : decode cX3_prizeOfPlace 26 = .ok (.getfield 66, 3) := by decide +kernel
theorem dX3_prizeOfPlace_29 : decode cX3_prizeOfPlace 29 = .ok (.iconst 3, 1) := by decide +kernel
theorem dX3_prizeOfPlace_30 : decode cX3_prizeOfPlace 30 = .ok (.if_icmp .lt 13, 3) := by decide +kernel
theorem dX3_prizeOfPlace_33 : decode cX3_prizeOfPlace 33 = .ok (.iload_n 2, 1) := by decide +kernel
theorem dX3_prizeOfPlace_34 : decode cX3_prizeOfPlace 34 = .ok (.bipush 10, 2) := by decide +kernel
theorem dX3_prizeOfPlace_36 : decode cX3_prizeOfPlace 36 = .ok (.imul, 1) := by decide +kernel
theorem dX3_prizeOfPlace_37 : decode cX3_prizeOfPlace 37 = .ok (.bipush 100, 2) := by decide +kernel
theorem dX3_prizeOfPlace_39 : decode cX3_prizeOfPlace 39 = .ok (.idiv, 1) := by decide +kernel
theorem dX3_prizeOfPlace_40 : decode cX3_prizeOfPlace 40 = .ok (.goto 4, 3) := by decide +kernel
theorem dX3_prizeOfPlace_43 : decode cX3_prizeOfPlace 43 = .ok (.iconst 0, 1) := by decide +kernel
theorem dX3_prizeOfPlace_44 : decode cX3_prizeOfPlace 44 = .ok (.istore 4, 2) := by decide +kernel
theorem dX3_prizeOfPlace_46 : decode cX3_prizeOfPlace 46 = .ok (.iload_n 1, 1) := by decide +kernel
theorem dX3_prizeOfPlace_47 : decode cX3_prizeOfPlace 47 = .ok (.tableswitch 37 1 3 #[25, 32, 34], 25) := by decide +kernel
theorem dX3_prizeOfPlace_72 : decode cX3_prizeOfPlace 72 = .ok (.iload_n 2, 1) := by decide +kernel
theorem dX3_prizeOfPlace_73 : decode cX3_prizeOfPlace 73 = .ok (.iload_n 3, 1) := by decide +kernel
theorem dX3_prizeOfPlace_74 : decode cX3_prizeOfPlace 74 = .ok (.isub, 1) := by decide +kernel
theorem dX3_prizeOfPlace_75 : decode cX3_prizeOfPlace 75 = .ok (.iload 4, 2) := by decide +kernel
theorem dX3_prizeOfPlace_77 : decode cX3_prizeOfPlace 77 = .ok (.isub, 1) := by decide +kernel
theorem dX3_prizeOfPlace_78 : decode cX3_prizeOfPlace 78 = .ok (.ireturn, 1) := by decide +kernel
theorem dX3_prizeOfPlace_79 : decode cX3_prizeOfPlace 79 = .ok (.iload_n 3, 1) := by decide +kernel
theorem dX3_prizeOfPlace_80 : decode cX3_prizeOfPlace 80 = .ok (.ireturn, 1) := by decide +kernel
theorem dX3_prizeOfPlace_81 : decode cX3_prizeOfPlace 81 = .ok (.iload 4, 2) := by decide +kernel
theorem dX3_prizeOfPlace_83 : decode cX3_prizeOfPlace 83 = .ok (.ireturn, 1) := by decide +kernel
theorem dX3_prizeOfPlace_84 : decode cX3_prizeOfPlace 84 = .ok (.iconst 0, 1) := by decide +kernel
theorem dX3_prizeOfPlace_85 : decode cX3_prizeOfPlace 85 = .ok (.ireturn, 1) := by decide +kernel
set_option maxRecDepth 20000 in
theorem ggX3_prizeOf_X3_rankOf : GoodIn wsX3_prizeOf wsX3_rankOf := goodIn_r _ [5, 6, 7, 8, 9, 4, 10, 11, 12, 13, 14, 15, 16, 17, 18, 19, 20, 21, 22, 23, 24, 25, 26, 27, 28, 29, 30, 31, 32, 33, 34, 35, 36, 37, 38, 39, 40, 72, 73, 74, 75, 76, 77, 78, 79, 80, 81, 82, 83] (by decide +kernel) (by decide +kernel)
set_option maxRecDepth 20000 in
theorem gX3_prizeOf_X3_rankOf : GoodIn wsX3_prizeOf (wsV RX3 136 RX3 yX3_rankOf wsX3_rankOf) := goodIn_app (goodIn_of _ (by decide +kernel)) ggX3_prizeOf_X3_rankOf
set_option maxRecDepth 20000 in
theorem ggX3_prizeOf_X3_tiedWith : GoodIn wsX3_prizeOf wsX3_tiedWith := goodIn_r _ [44, 6, 7, 8, 9, 4, 10, 11, 12, 13, 14, 15, 16, 17, 18, 19, 20, 21, 22, 23, 24, 25, 26, 27, 28, 29, 30, 31, 32, 33, 34, 35, 36, 37, 38, 39, 40, 72, 73, 74, 75, 76, 77, 78, 79, 80, 81, 82, 83] (by decide +kernel) (by decide +kernel)
set_option maxRecDepth 20000 in
theorem gX3_prizeOf_X3_tiedWith : GoodIn wsX3_prizeOf (wsV RX3 139 RX3 yX3_tiedWith wsX3_tiedWith) := goodIn_app (goodIn_of _ (by decide +kernel)) ggX3_prizeOf_X3_tiedWith
set_option maxRecDepth 20000 in
theorem ggX3_prizeOf_J6_bitCount_0f7a4 : GoodIn wsX3_prizeOf wsJ6_bitCount_0f7a4 := goodIn_r _ [48, 49, 50, 51] (by decide +kernel) (by decide +kernel)
set_option maxRecDepth 20000 in
theorem gX3_prizeOf_J6_bitCount_0f7a4 : GoodIn wsX3_prizeOf (va_wsS RX3 122 yJ6_bitCount_0f7a4 wsJ6_bitCount_0f7a4) := goodIn_app (goodIn_of _ (by decide +kernel)) ggX3_prizeOf_J6_bitCount_0f7a4
set_option maxRecDepth 20000 in
theorem ggX3_prizeOf_X3_prizeOfPlace : GoodIn wsX3_prizeOf wsX3_prizeOfPlace := goodIn_r _ [55, 6, 56, 57, 58, 4, 59, 60, 61, 62, 63, 64, 65, 66, 67, 68, 15, 72, 73, 74, 75, 76, 77, 78, 79, 80, 81, 82, 83] (by decide +kernel) (by decide +kernel)
set_option maxRecDepth 20000 in
theorem gX3_prizeOf_X3_prizeOfPlace : GoodIn wsX3_prizeOf (wsV RX3 155 RX3 yX3_prizeOfPlace wsX3_prizeOfPlace) := goodIn_app (goodIn_of _ (by decide +kernel)) ggX3_prizeOf_X3_prizeOfPlace
set_option maxRecDepth 20000 in
theorem ggX3_prizeOf_X3_lowerIn : GoodIn wsX3_prizeOf wsX3_lowerIn := goodIn_r _ [71, 45, 46, 47, 48, 49, 50, 51] (by decide +kernel) (by decide +kernel)
set_option maxRecDepth 20000 in
theorem gX3_prizeOf_X3_lowerIn : GoodIn wsX3_prizeOf (va_wsS RX3 142 yX3_lowerIn wsX3_lowerIn) := goodIn_app (goodIn_of _ (by decide +kernel)) ggX3_prizeOf_X3_lowerIn
theorem dX3_prizeOf_0 : decode cX3_prizeOf 0 = .ok (.aload_n 0, 1) := by decide +kernel
theorem dX3_prizeOf_1 : decode cX3_prizeOf 1 = .ok (.iload_n 1, 1) := by decide +kernel
theorem dX3_prizeOf_2 : decode cX3_prizeOf 2 = .ok (.invokevirtual 136, 3) := by decide +kernel
theorem dX3_prizeOf_5 : decode cX3_prizeOf 5 = .ok (.istore_n 2, 1) := by decide +kernel
theorem dX3_prizeOf_6 : decode cX3_prizeOf 6 = .ok (.aload_n 0, 1) := by decide +kernel
theorem dX3_prizeOf_7 : decode cX3_prizeOf 7 = .ok (.iload_n 1, 1) := by decide +kernel
theorem dX3_prizeOf_8 : decode cX3_prizeOf 8 = .ok (.invokevirtual 139, 3) := by decide +kernel
theorem dX3_prizeOf_11 : decode cX3_prizeOf 11 = .ok (.istore_n 3, 1) := by decide +kernel
theorem dX3_prizeOf_12 : decode cX3_prizeOf 12 = .ok (.iconst 1, 1) := by decide +kernel
theorem dX3_prizeOf_13 : decode cX3_prizeOf 13 = .ok (.iload_n 3, 1) := by decide +kernel
theorem dX3_prizeOf_14 : decode cX3_prizeOf 14 = .ok (.invokestatic 122, 3) := by decide +kernel
theorem dX3_prizeOf_17 : decode cX3_prizeOf 17 = .ok (.iadd, 1) := by decide +kernel
theorem dX3_prizeOf_18 : decode cX3_prizeOf 18 = .ok (.istore 4, 2) := by decide +kernel
theorem dX3_prizeOf_20 : decode cX3_prizeOf 20 = .ok (.iload 4, 2) := by decide +kernel
theorem dX3_prizeOf_22 : decode cX3_prizeOf 22 = .ok (.iconst 1, 1) := by decide +kernel
theorem dX3_prizeOf_23 : decode cX3_prizeOf 23 = .ok (.if_icmp .ge 5, 3) := by decide +kernel
theorem dX3_prizeOf_26 : decode cX3_prizeOf 26 = .ok (.iconst 0, 1) := by decide +kernel
theorem dX3_prizeOf_27 : decode cX3_prizeOf 27 = .ok (.ireturn, 1) := by decide +kernel
theorem dX3_prizeOf_28 : decode cX3_prizeOf 28 = .ok (.iconst 0, 1) := by decide +kernel
theorem dX3_prizeOf_29 : decode cX3_prizeOf 29 = .ok (.istore 5, 2) := by decide +kernel
theorem dX3_prizeOf_31 : decode cX3_prizeOf 31 = .ok (.iload_n 2, 1) := by decide +kernel
theorem dX3_prizeOf_32 : decode cX3_prizeOf 32 = .ok (.istore 6, 2) := by decide +kernel
theorem dX3_prizeOf_34 : decode cX3_prizeOf 34 = .ok (.iload 6, 2) := by decide +kernel
theorem dX3_prizeOf_36 : decode cX3_prizeOf 36 = .ok (.iload_n 2, 1) := by decide +kernel
theorem dX3_prizeOf_37 : decode cX3_prizeOf 37 = .ok (.iload 4, 2) := by decide +kernel
theorem dX3_prizeOf_39 : decode cX3_prizeOf 39 = .ok (.iadd, 1) := by decide +kernel
theorem dX3_prizeOf_40 : decode cX3_prizeOf 40 = .ok (.if_icmp .ge 20, 3) := by decide +kernel
theorem dX3_prizeOf_43 : decode cX3_prizeOf 43 = .ok (.iload 5, 2) := by decide +kernel
theorem dX3_prizeOf_45 : decode cX3_prizeOf 45 = .ok (.aload_n 0, 1) := by decide +kernel
theorem dX3_prizeOf_46 : decode cX3_prizeOf 46 = .ok (.iload 6, 2) := by decide +kernel
theorem dX3_prizeOf_48 : decode cX3_prizeOf 48 = .ok (.invokevirtual 155, 3) := by decide +kernel
theorem dX3_prizeOf_51 : decode cX3_prizeOf 51 = .ok (.iadd, 1) := by decide +kernel
theorem dX3_prizeOf_52 : decode cX3_prizeOf 52 = .ok (.istore 5, 2) := by decide +kernel
theorem dX3_prizeOf_54 : decode cX3_prizeOf 54 = .ok (.iinc 6 1, 3) := by decide +kernel
theorem dX3_prizeOf_57 : decode cX3_prizeOf 57 = .ok (.goto (-23), 3) := by decide +kernel
theorem dX3_prizeOf_60 : decode cX3_prizeOf 60 = .ok (.iload 5, 2) := by decide +kernel
theorem dX3_prizeOf_62 : decode cX3_prizeOf 62 = .ok (.iload 4, 2) := by decide +kernel
theorem dX3_prizeOf_64 : decode cX3_prizeOf 64 = .ok (.irem, 1) := by decide +kernel
theorem dX3_prizeOf_65 : decode cX3_prizeOf 65 = .ok (.istore 6, 2) := by decide +kernel
theorem dX3_prizeOf_67 : decode cX3_prizeOf 67 = .ok (.iload 5, 2) := by decide +kernel
theorem dX3_prizeOf_69 : decode cX3_prizeOf 69 = .ok (.iload 4, 2) := by decide +kernel
theorem dX3_prizeOf_71 : decode cX3_prizeOf 71 = .ok (.idiv, 1) := by decide +kernel
theorem dX3_prizeOf_72 : decode cX3_prizeOf 72 = .ok (.iload_n 3, 1) := by decide +kernel
theorem dX3_prizeOf_73 : decode cX3_prizeOf 73 = .ok (.iload_n 1, 1) := by decide +kernel
theorem dX3_prizeOf_74 : decode cX3_prizeOf 74 = .ok (.invokestatic 142, 3) := by decide +kernel
theorem dX3_prizeOf_77 : decode cX3_prizeOf 77 = .ok (.iload 6, 2) := by decide +kernel
theorem dX3_prizeOf_79 : decode cX3_prizeOf 79 = .ok (.if_icmp .ge 7, 3) := by decide +kernel
theorem dX3_prizeOf_82 : decode cX3_prizeOf 82 = .ok (.iconst 1, 1) := by decide +kernel
theorem dX3_prizeOf_83 : decode cX3_prizeOf 83 = .ok (.goto 4, 3) := by decide +kernel
theorem dX3_prizeOf_86 : decode cX3_prizeOf 86 = .ok (.iconst 0, 1) := by decide +kernel
theorem dX3_prizeOf_87 : decode cX3_prizeOf 87 = .ok (.iadd, 1) := by decide +kernel
theorem dX3_prizeOf_88 : decode cX3_prizeOf 88 = .ok (.ireturn, 1) := by decide +kernel
set_option maxRecDepth 20000 in
theorem ggX3_scoreWithJokerOn_X3_isTold : GoodIn wsX3_scoreWithJokerOn wsX3_isTold := goodIn_r _ [7, 8, 9, 10, 6, 11, 12, 13, 14, 15, 21, 22, 23, 24, 25, 26, 27, 28, 29, 30, 31, 32] (by decide +kernel) (by decide +kernel)
set_option maxRecDepth 20000 in
theorem gX3_scoreWithJokerOn_X3_isTold : GoodIn wsX3_scoreWithJokerOn (wsV RX3 76 RX3 yX3_isTold wsX3_isTold) := goodIn_app (goodIn_of _ (by decide +kernel)) ggX3_scoreWithJokerOn_X3_isTold
set_option maxRecDepth 20000 in
theorem ggX3_scoreWithJokerOn_X3_markOf : GoodIn wsX3_scoreWithJokerOn wsX3_markOf := goodIn_r _ [19, 20, 13, 14, 15, 21, 22, 23, 24, 25, 26, 27, 28, 29, 30, 31, 32] (by decide +kernel) (by decide +kernel)
set_option maxRecDepth 20000 in
theorem gX3_scoreWithJokerOn_X3_markOf : GoodIn wsX3_scoreWithJokerOn (wsV RX3 83 RX3 yX3_markOf wsX3_markOf) := goodIn_app (goodIn_of _ (by decide +kernel)) ggX3_scoreWithJokerOn_X3_markOf
theorem dX3_scoreWithJokerOn_0 : decode cX3_scoreWithJokerOn 0 = .ok (.aload_n 0, 1) := by decide +kernel
theorem dX3_scoreWithJokerOn_1 : decode cX3_scoreWithJokerOn 1 = .ok (.getfield 9, 3) := by decide +kernel
theorem dX3_scoreWithJokerOn_4 : decode cX3_scoreWithJokerOn 4 = .ok (.iconst 3, 1) := by decide +kernel
theorem dX3_scoreWithJokerOn_5 : decode cX3_scoreWithJokerOn 5 = .ok (.iaload, 1) := by decide +kernel
theorem dX3_scoreWithJokerOn_6 : decode cX3_scoreWithJokerOn 6 = .ok (.ineg, 1) := by decide +kernel
theorem dX3_scoreWithJokerOn_7 : decode cX3_scoreWithJokerOn 7 = .ok (.aload_n 0, 1) := by decide +kernel
theorem dX3_scoreWithJokerOn_8 : decode cX3_scoreWithJokerOn 8 = .ok (.getfield 21, 3) := by decide +kernel
theorem dX3_scoreWithJokerOn_11 : decode cX3_scoreWithJokerOn 11 = .ok (.iload_n 1, 1) := by decide +kernel
theorem dX3_scoreWithJokerOn_12 : decode cX3_scoreWithJokerOn 12 = .ok (.iaload, 1) := by decide +kernel
theorem dX3_scoreWithJokerOn_13 : decode cX3_scoreWithJokerOn 13 = .ok (.imul, 1) := by decide +kernel
theorem dX3_scoreWithJokerOn_14 : decode cX3_scoreWithJokerOn 14 = .ok (.istore_n 3, 1) := by decide +kernel
theorem dX3_scoreWithJokerOn_15 : decode cX3_scoreWithJokerOn 15 = .ok (.iconst 0, 1) := by decide +kernel
theorem dX3_scoreWithJokerOn_16 : decode cX3_scoreWithJokerOn 16 = .ok (.istore 4, 2) := by decide +kernel
theorem dX3_scoreWithJokerOn_18 : decode cX3_scoreWithJokerOn 18 = .ok (.iload 4, 2) := by decide +kernel
theorem dX3_scoreWithJokerOn_20 : decode cX3_scoreWithJokerOn 20 = .ok (.bipush 8, 2) := by decide +kernel
theorem dX3_scoreWithJokerOn_22 : decode cX3_scoreWithJokerOn 22 = .ok (.if_icmp .ge 50, 3) := by decide +kernel
theorem dX3_scoreWithJokerOn_25 : decode cX3_scoreWithJokerOn 25 = .ok (.aload_n 0, 1) := by decide +kernel
theorem dX3_scoreWithJokerOn_26 : decode cX3_scoreWithJokerOn 26 = .ok (.iload_n 1, 1) := by decide +kernel
theorem dX3_scoreWithJokerOn_27 : decode cX3_scoreWithJokerOn 27 = .ok (.iload 4, 2) := by decide +kernel
theorem dX3_scoreWithJokerOn_29 : decode cX3_scoreWithJokerOn 29 = .ok (.invokevirtual 76, 3) := by decide +kernel
theorem dX3_scoreWithJokerOn_32 : decode cX3_scoreWithJokerOn 32 = .ok (.ifCond .eq 13, 3) := by decide +kernel
theorem dX3_scoreWithJokerOn_35 : decode cX3_scoreWithJokerOn 35 = .ok (.aload_n 0, 1) := by decide +kernel
theorem dX3_scoreWithJokerOn_36 : decode cX3_scoreWithJokerOn 36 = .ok (.iload_n 1, 1) := by decide +kernel
theorem dX3_scoreWithJokerOn_37 : decode cX3_scoreWithJokerOn 37 = .ok (.iload 4, 2) := by decide +kernel
theorem dX3_scoreWithJokerOn_39 : decode cX3_scoreWithJokerOn 39 = .ok (.invokevirtual 83, 3) := by decide +kernel
theorem dX3_scoreWithJokerOn_42 : decode cX3_scoreWithJokerOn 42 = .ok (.goto 4, 3) := by decide +kernel
theorem dX3_scoreWithJokerOn_45 : decode cX3_scoreWithJokerOn 45 = .ok (.iconst 0, 1) := by decide +kernel
theorem dX3_scoreWithJokerOn_46 : decode cX3_scoreWithJokerOn 46 = .ok (.istore 5, 2) := by decide +kernel
theorem dX3_scoreWithJokerOn_48 : decode cX3_scoreWithJokerOn 48 = .ok (.iload_n 3, 1) := by decide +kernel
theorem dX3_scoreWithJokerOn_49 : decode cX3_scoreWithJokerOn 49 = .ok (.iload 4, 2) := by decide +kernel
theorem dX3_scoreWithJokerOn_51 : decode cX3_scoreWithJokerOn 51 = .ok (.iload_n 2, 1) := by decide +kernel
theorem dX3_scoreWithJokerOn_52 : decode cX3_scoreWithJokerOn 52 = .ok (.if_icmp .ne 10, 3) := by decide +kernel
theorem dX3_scoreWithJokerOn_55 : decode cX3_scoreWithJokerOn 55 = .ok (.iconst 2, 1) := by decide +kernel
theorem dX3_scoreWithJokerOn_56 : decode cX3_scoreWithJokerOn 56 = .ok (.iload 5, 2) := by decide +kernel
theorem dX3_scoreWithJokerOn_58 : decode cX3_scoreWithJokerOn 58 = .ok (.imul, 1) := by decide +kernel
theorem dX3_scoreWithJokerOn_59 : decode cX3_scoreWithJokerOn 59 = .ok (.goto 5, 3) := by decide +kernel
theorem dX3_scoreWithJokerOn_62 : decode cX3_scoreWithJokerOn 62 = .ok (.iload 5, 2) := by decide +kernel
theorem dX3_scoreWithJokerOn_64 : decode cX3_scoreWithJokerOn 64 = .ok (.iadd, 1) := by decide +kernel
theorem dX3_scoreWithJokerOn_65 : decode cX3_scoreWithJokerOn 65 = .ok (.istore_n 3, 1) := by decide +kernel
theorem dX3_scoreWithJokerOn_66 : decode cX3_scoreWithJokerOn 66 = .ok (.iinc 4 1, 3) := by decide +kernel
theorem dX3_scoreWithJokerOn_69 : decode cX3_scoreWithJokerOn 69 = .ok (.goto (-51), 3) := by decide +kernel
theorem dX3_scoreWithJokerOn_72 : decode cX3_scoreWithJokerOn 72 = .ok (.iload_n 3, 1) := by decide +kernel
theorem dX3_scoreWithJokerOn_73 : decode cX3_scoreWithJokerOn 73 = .ok (.ireturn, 1) := by decide +kernel
set_option maxRecDepth 20000 in
theorem ggX3_bestRound_X3_scoreWithJokerOn : GoodIn wsX3_bestRound wsX3_scoreWithJokerOn := goodIn_r _ [5, 6, 7, 8, 9, 10, 4, 11, 12, 13, 14, 15, 16, 17, 18, 19, 20, 21, 22, 23, 24, 25, 26, 27, 28, 29, 30, 31, 32, 33, 34, 35, 36] (by decide +kernel) (by decide +kernel)
set_option maxRecDepth 20000 in
theorem gX3_bestRound_X3_scoreWithJokerOn : GoodIn wsX3_bestRound (wsV RX3 158 RX3 yX3_scoreWithJokerOn wsX3_scoreWithJokerOn) := goodIn_app (goodIn_of _ (by decide +kernel)) ggX3_bestRound_X3_scoreWithJokerOn
theorem dX3_bestRound_0 : decode cX3_bestRound 0 = .ok (.iconst 0, 1) := by decide +kernel
theorem dX3_bestRound_1 : decode cX3_bestRound 1 = .ok (.istore_n 2, 1) := by decide +kernel
theorem dX3_bestRound_2 : decode cX3_bestRound 2 = .ok (.iconst 1, 1) := by decide +kernel
theorem dX3_bestRound_3 : decode cX3_bestRound 3 = .ok (.istore_n 3, 1) := by decide +kernel
theorem dX3_bestRound_4 : decode cX3_bestRound 4 = .ok (.iload_n 3, 1) := by decide +kernel
theorem dX3_bestRound_5 : decode cX3_bestRound 5 = .ok (.bipush 8, 2) := by decide +kernel
theorem dX3_bestRound_7 : decode cX3_bestRound 7 = .ok (.if_icmp .ge 26, 3) := by decide +kernel
theorem dX3_bestRound_10 : decode cX3_bestRound 10 = .ok (.aload_n 0, 1) := by decide +kernel
theorem dX3_bestRound_11 : decode cX3_bestRound 11 = .ok (.iload_n 1, 1) := by decide +kernel
theorem dX3_bestRound_12 : decode cX3_bestRound 12 = .ok (.iload_n 3, 1) := by decide +kernel
theorem dX3_bestRound_13 : decode cX3_bestRound 13 = .ok (.invokevirtual 158, 3) := by decide +kernel
theorem dX3_bestRound_16 : decode cX3_bestRound 16 = .ok (.aload_n 0, 1) := by decide +kernel
theorem dX3_bestRound_17 : decode cX3_bestRound 17 = .ok (.iload_n 1, 1) := by decide +kernel
theorem dX3_bestRound_18 : decode cX3_bestRound 18 = .ok (.iload_n 2, 1) := by decide +kernel
theorem dX3_bestRound_19 : decode cX3_bestRound 19 = .ok (.invokevirtual 158, 3) := by decide +kernel
theorem dX3_bestRound_22 : decode cX3_bestRound 22 = .ok (.if_icmp .le 5, 3) := by decide +kernel
theorem dX3_bestRound_25 : decode cX3_bestRound 25 = .ok (.iload_n 3, 1) := by decide +kernel
theorem dX3_bestRound_26 : decode cX3_bestRound 26 = .ok (.istore_n 2, 1) := by decide +kernel
theorem dX3_bestRound_27 : decode cX3_bestRound 27 = .ok (.iinc 3 1, 3) := by decide +kernel
theorem dX3_bestRound_30 : decode cX3_bestRound 30 = .ok (.goto (-26), 3) := by decide +kernel
theorem dX3_bestRound_33 : decode cX3_bestRound 33 = .ok (.iload_n 2, 1) := by decide +kernel
theorem dX3_bestRound_34 : decode cX3_bestRound 34 = .ok (.ireturn, 1) := by decide +kernel
set_option maxRecDepth 20000 in
theorem ggX3_canHandIn_X3_isOpen : GoodIn wsX3_canHandIn wsX3_isOpen := goodIn_r _ [5, 6, 7, 16, 17, 18, 19, 20, 21, 22, 23, 24, 25, 26, 27] (by decide +kernel) (by decide +kernel)
set_option maxRecDepth 20000 in
theorem gX3_canHandIn_X3_isOpen : GoodIn wsX3_canHandIn (wsV RX3 97 RX3 yX3_isOpen wsX3_isOpen) := goodIn_app (goodIn_of _ (by decide +kernel)) ggX3_canHandIn_X3_isOpen
set_option maxRecDepth 20000 in
theorem ggX3_canHandIn_X3_hasSheet : GoodIn wsX3_canHandIn wsX3_hasSheet := goodIn_r _ [11, 12, 7, 13, 14, 15, 16, 17, 18, 19, 20, 21, 22, 23, 24, 25, 26, 27] (by decide +kernel) (by decide +kernel)
set_option maxRecDepth 20000 in
theorem gX3_canHandIn_X3_hasSheet : GoodIn wsX3_canHandIn (wsV RX3 100 RX3 yX3_hasSheet wsX3_hasSheet) := goodIn_app (goodIn_of _ (by decide +kernel)) ggX3_canHandIn_X3_hasSheet
theorem dX3_canHandIn_0 : decode cX3_canHandIn 0 = .ok (.aload_n 0, 1) := by decide +kernel
theorem dX3_canHandIn_1 : decode cX3_canHandIn 1 = .ok (.iload_n 2, 1) := by decide +kernel
theorem dX3_canHandIn_2 : decode cX3_canHandIn 2 = .ok (.invokevirtual 97, 3) := by decide +kernel
theorem dX3_canHandIn_5 : decode cX3_canHandIn 5 = .ok (.ifCond .eq 16, 3) := by decide +kernel
theorem dX3_canHandIn_8 : decode cX3_canHandIn 8 = .ok (.aload_n 0, 1) := by decide +kernel
theorem dX3_canHandIn_9 : decode cX3_canHandIn 9 = .ok (.iload_n 1, 1) := by decide +kernel
theorem dX3_canHandIn_10 : decode cX3_canHandIn 10 = .ok (.iload_n 2, 1) := by decide +kernel
theorem dX3_canHandIn_11 : decode cX3_canHandIn 11 = .ok (.invokevirtual 100, 3) := by decide +kernel
theorem dX3_canHandIn_14 : decode cX3_canHandIn 14 = .ok (.ifCond .ne 7, 3) := by decide +kernel
theorem dX3_canHandIn_17 : decode cX3_canHandIn 17 = .ok (.iconst 1, 1) := by decide +kernel
theorem dX3_canHandIn_18 : decode cX3_canHandIn 18 = .ok (.goto 4, 3) := by decide +kernel
theorem dX3_canHandIn_21 : decode cX3_canHandIn 21 = .ok (.iconst 0, 1) := by decide +kernel
theorem dX3_canHandIn_22 : decode cX3_canHandIn 22 = .ok (.ireturn, 1) := by decide +kernel
set_option maxRecDepth 20000 in
theorem ggX3_greatestMark_X3_isTold : GoodIn wsX3_greatestMark wsX3_isTold := goodIn_r _ [5, 6, 7, 8, 4, 9, 10, 11, 12, 13, 30, 31, 32, 33, 34, 35, 36, 37, 38, 39, 40, 41] (by decide +kernel) (by decide +kernel)
set_option maxRecDepth 20000 in
theorem gX3_greatestMark_X3_isTold : GoodIn wsX3_greatestMark (wsV RX3 76 RX3 yX3_isTold wsX3_isTold) := goodIn_app (goodIn_of _ (by decide +kernel)) ggX3_greatestMark_X3_isTold
set_option maxRecDepth 20000 in
theorem ggX3_greatestMark_X3_markOf : GoodIn wsX3_greatestMark wsX3_markOf := goodIn_r _ [17, 18, 11, 12, 13, 30, 31, 32, 33, 34, 35, 36, 37, 38, 39, 40, 41] (by decide +kernel) (by decide +kernel)
set_option maxRecDepth 20000 in
theorem gX3_greatestMark_X3_markOf : GoodIn wsX3_greatestMark (wsV RX3 83 RX3 yX3_markOf wsX3_markOf) := goodIn_app (goodIn_of _ (by decide +kernel)) ggX3_greatestMark_X3_markOf
set_option maxRecDepth 20000 in
theorem ggX3_greatestMark_X3_hasSheet : GoodIn wsX3_greatestMark wsX3_hasSheet := goodIn_r _ [22, 23, 24, 11, 12, 13, 30, 31, 32, 33, 34, 35, 36, 37, 38, 39, 40, 41] (by decide +kernel) (by decide +kernel)
set_option maxRecDepth 20000 in
theorem gX3_greatestMark_X3_hasSheet : GoodIn wsX3_greatestMark (wsV RX3 100 RX3 yX3_hasSheet wsX3_hasSheet) := goodIn_app (goodIn_of _ (by decide +kernel)) ggX3_greatestMark_X3_hasSheet
set_option maxRecDepth 20000 in
theorem ggX3_greatestMark_X3_isOpen : GoodIn wsX3_greatestMark wsX3_isOpen := goodIn_r _ [28, 29, 24, 30, 31, 32, 33, 34, 35, 36, 37, 38, 39, 40, 41] (by decide +kernel) (by decide +kernel)
set_option maxRecDepth 20000 in
theorem gX3_greatestMark_X3_isOpen : GoodIn wsX3_greatestMark (wsV RX3 97 RX3 yX3_isOpen wsX3_isOpen) := goodIn_app (goodIn_of _ (by decide +kernel)) ggX3_greatestMark_X3_isOpen
theorem dX3_greatestMark_0 : decode cX3_greatestMark 0 = .ok (.aload_n 0, 1) := by decide +kernel
theorem dX3_greatestMark_1 : decode cX3_greatestMark 1 = .ok (.iload_n 1, 1) := by decide +kernel
theorem dX3_greatestMark_2 : decode cX3_greatestMark 2 = .ok (.iload_n 2, 1) := by decide +kernel
theorem dX3_greatestMark_3 : decode cX3_greatestMark 3 = .ok (.invokevirtual 76, 3) := by decide +kernel
theorem dX3_greatestMark_6 : decode cX3_greatestMark 6 = .ok (.ifCond .eq 10, 3) := by decide +kernel
theorem dX3_greatestMark_9 : decode cX3_greatestMark 9 = .ok (.aload_n 0, 1) := by decide +kernel
theorem dX3_greatestMark_10 : decode cX3_greatestMark 10 = .ok (.iload_n 1, 1) := by decide +kernel
theorem dX3_greatestMark_11 : decode cX3_greatestMark 11 = .ok (.iload_n 2, 1) := by decide +kernel
theorem dX3_greatestMark_12 : decode cX3_greatestMark 12 = .ok (.invokevirtual 83, 3) := by decide +kernel
theorem dX3_greatestMark_15 : decode cX3_greatestMark 15 = .ok (.ireturn, 1) := by decide +kernel
theorem dX3_greatestMark_16 : decode cX3_greatestMark 16 = .ok (.aload_n 0, 1) := by decide +kernel
theorem dX3_greatestMark_17 : decode cX3_greatestMark 17 = .ok (.iload_n 1, 1) := by decide +kernel
theorem dX3_greatestMark_18 : decode cX3_greatestMark 18 = .ok (.iload_n 2, 1) := by decide +kernel
theorem dX3_greatestMark_19 : decode cX3_greatestMark 19 = .ok (.invokevirtual 100, 3) := by decide +kernel
theorem dX3_greatestMark_22 : decode cX3_greatestMark 22 = .ok (.ifCond .ne 11, 3) := by decide +kernel
theorem dX3_greatestMark_25 : decode cX3_greatestMark 25 = .ok (.aload_n 0, 1) := by decide +kernel
theorem dX3_greatestMark_26 : decode cX3_greatestMark 26 = .ok (.iload_n 2, 1) := by decide +kernel
theorem dX3_greatestMark_27 : decode cX3_greatestMark 27 = .ok (.invokevirtual 97, 3) := by decide +kernel
theorem dX3_greatestMark_30 : decode cX3_greatestMark 30 = .ok (.ifCond .eq 8, 3) := by decide +kernel
theorem dX3_greatestMark_33 : decode cX3_greatestMark 33 = .ok (.bipush 10, 2) := by decide +kernel
theorem dX3_greatestMark_35 : decode cX3_greatestMark 35 = .ok (.goto 4, 3) := by decide +kernel
theorem dX3_greatestMark_38 : decode cX3_greatestMark 38 = .ok (.iconst 0, 1) := by decide +kernel
theorem dX3_greatestMark_39 : decode cX3_greatestMark 39 = .ok (.ireturn, 1) := by decide +kernel
set_option maxRecDepth 20000 in
theorem ggX3_greatestScore_X3_greatestMark : GoodIn wsX3_greatestScore wsX3_greatestMark := goodIn_r _ [8, 9, 10, 11, 7, 12, 13, 14, 15, 16, 17, 18, 19, 20, 21, 22, 23, 24, 25, 26, 27, 28, 29, 30, 31, 32, 33, 34, 35, 36, 45, 46, 47, 48, 49, 50, 51, 52, 53, 54, 55, 56] (by decide +kernel) (by decide +kernel)
set_option maxRecDepth 20000 in
theorem gX3_greatestScore_X3_greatestMark : GoodIn wsX3_greatestScore (wsV RX3 161 RX3 yX3_greatestMark wsX3_greatestMark) := goodIn_app (goodIn_of _ (by decide +kernel)) ggX3_greatestScore_X3_greatestMark
set_option maxRecDepth 20000 in
theorem ggX3_greatestScore_X3_withJoker : GoodIn wsX3_greatestScore wsX3_withJoker := goodIn_r _ [40, 3, 45, 46, 47, 48, 49, 50, 51, 52, 53, 54, 55, 56] (by decide +kernel) (by decide +kernel)
set_option maxRecDepth 20000 in
theorem gX3_greatestScore_X3_withJoker : GoodIn wsX3_greatestScore (wsV RX3 103 RX3 yX3_withJoker wsX3_withJoker) := goodIn_app (goodIn_of _ (by decide +kernel)) ggX3_greatestScore_X3_withJoker
set_option maxRecDepth 20000 in
theorem ggX3_greatestScore_X3_canHandIn : GoodIn wsX3_greatestScore wsX3_canHandIn := goodIn_r _ [44, 32, 33, 34, 7, 35, 36, 31, 26, 27, 28, 29, 30, 18, 19, 20, 45, 46, 47, 48, 49, 50, 51, 52, 53, 54, 55, 56] (by decide +kernel) (by decide +kernel)
set_option maxRecDepth 20000 in
theorem gX3_greatestScore_X3_canHandIn : GoodIn wsX3_greatestScore (wsV RX3 164 RX3 yX3_canHandIn wsX3_canHandIn) := goodIn_app (goodIn_of _ (by decide +kernel)) ggX3_greatestScore_X3_canHandIn
theorem dX3_greatestScore_0 : decode cX3_greatestScore 0 = .ok (.aload_n 0, 1) := by decide +kernel
theorem dX3_greatestScore_1 : decode cX3_greatestScore 1 = .ok (.getfield 9, 3) := by decide +kernel
theorem dX3_greatestScore_4 : decode cX3_greatestScore 4 = .ok (.iconst 3, 1) := by decide +kernel
theorem dX3_greatestScore_5 : decode cX3_greatestScore 5 = .ok (.iaload, 1) := by decide +kernel
theorem dX3_greatestScore_6 : decode cX3_greatestScore 6 = .ok (.ineg, 1) := by decide +kernel
theorem dX3_greatestScore_7 : decode cX3_greatestScore 7 = .ok (.aload_n 0, 1) := by decide +kernel
theorem dX3_greatestScore_8 : decode cX3_greatestScore 8 = .ok (.getfield 21, 3) := by decide +kernel
theorem dX3_greatestScore_11 : decode cX3_greatestScore 11 = .ok (.iload_n 1, 1) := by decide +kernel
theorem dX3_greatestScore_12 : decode cX3_greatestScore 12 = .ok (.iaload, 1) := by decide +kernel
theorem dX3_greatestScore_13 : decode cX3_greatestScore 13 = .ok (.imul, 1) := by decide +kernel
theorem dX3_greatestScore_14 : decode cX3_greatestScore 14 = .ok (.istore_n 2, 1) := by decide +kernel
theorem dX3_greatestScore_15 : decode cX3_greatestScore 15 = .ok (.iconst 0, 1) := by decide +kernel
theorem dX3_greatestScore_16 : decode cX3_greatestScore 16 = .ok (.istore_n 3, 1) := by decide +kernel
theorem dX3_greatestScore_17 : decode cX3_greatestScore 17 = .ok (.iconst 0, 1) := by decide +kernel
theorem dX3_greatestScore_18 : decode cX3_greatestScore 18 = .ok (.istore 4, 2) := by decide +kernel
theorem dX3_greatestScore_20 : decode cX3_greatestScore 20 = .ok (.iload 4, 2) := by decide +kernel
theorem dX3_greatestScore_22 : decode cX3_greatestScore 22 = .ok (.bipush 8, 2) := by decide +kernel
theorem dX3_greatestScore_24 : decode cX3_greatestScore 24 = .ok (.if_icmp .ge 55, 3) := by decide +kernel
theorem dX3_greatestScore_27 : decode cX3_greatestScore 27 = .ok (.iload_n 2, 1) := by decide +kernel
theorem dX3_greatestScore_28 : decode cX3_greatestScore 28 = .ok (.aload_n 0, 1) := by decide +kernel
theorem dX3_greatestScore_29 : decode cX3_greatestScore 29 = .ok (.iload_n 1, 1) := by decide +kernel
theorem dX3_greatestScore_30 : decode cX3_greatestScore 30 = .ok (.iload 4, 2) := by decide +kernel
theorem dX3_greatestScore_32 : decode cX3_greatestScore 32 = .ok (.aload_n 0, 1) := by decide +kernel
theorem dX3_greatestScore_33 : decode cX3_greatestScore 33 = .ok (.iload_n 1, 1) := by decide +kernel
theorem dX3_greatestScore_34 : decode cX3_greatestScore 34 = .ok (.iload 4, 2) := by decide +kernel
theorem dX3_greatestScore_36 : decode cX3_greatestScore 36 = .ok (.invokevirtual 161, 3) := by decide +kernel
theorem dX3_greatestScore_39 : decode cX3_greatestScore 39 = .ok (.invokevirtual 103, 3) := by decide +kernel
theorem dX3_greatestScore_42 : decode cX3_greatestScore 42 = .ok (.iadd, 1) := by decide +kernel
theorem dX3_greatestScore_43 : decode cX3_greatestScore 43 = .ok (.istore_n 2, 1) := by decide +kernel
theorem dX3_greatestScore_44 : decode cX3_greatestScore 44 = .ok (.iload_n 3, 1) := by decide +kernel
theorem dX3_greatestScore_45 : decode cX3_greatestScore 45 = .ok (.aload_n 0, 1) := by decide +kernel
theorem dX3_greatestScore_46 : decode cX3_greatestScore 46 = .ok (.getfield 18, 3) := by decide +kernel
theorem dX3_greatestScore_49 : decode cX3_greatestScore 49 = .ok (.iload_n 1, 1) := by decide +kernel
theorem dX3_greatestScore_50 : decode cX3_greatestScore 50 = .ok (.iaload, 1) := by decide +kernel
theorem dX3_greatestScore_51 : decode cX3_greatestScore 51 = .ok (.bipush (-6), 2) := by decide +kernel
theorem dX3_greatestScore_53 : decode cX3_greatestScore 53 = .ok (.if_icmp .ne 17, 3) := by decide +kernel
theorem dX3_greatestScore_56 : decode cX3_greatestScore 56 = .ok (.aload_n 0, 1) := by decide +kernel
theorem dX3_greatestScore_57 : decode cX3_greatestScore 57 = .ok (.iload_n 1, 1) := by decide +kernel
theorem dX3_greatestScore_58 : decode cX3_greatestScore 58 = .ok (.iload 4, 2) := by decide +kernel
theorem dX3_greatestScore_60 : decode cX3_greatestScore 60 = .ok (.invokevirtual 164, 3) := by decide +kernel
theorem dX3_greatestScore_63 : decode cX3_greatestScore 63 = .ok (.ifCond .eq 7, 3) := by decide +kernel
theorem dX3_greatestScore_66 : decode cX3_greatestScore 66 = .ok (.iconst 1, 1) := by decide +kernel
theorem dX3_greatestScore_67 : decode cX3_greatestScore 67 = .ok (.goto 4, 3) := by decide +kernel
theorem dX3_greatestScore_70 : decode cX3_greatestScore 70 = .ok (.iconst 0, 1) := by decide +kernel
theorem dX3_greatestScore_71 : decode cX3_greatestScore 71 = .ok (.ior, 1) := by decide +kernel
theorem dX3_greatestScore_72 : decode cX3_greatestScore 72 = .ok (.istore_n 3, 1) := by decide +kernel
theorem dX3_greatestScore_73 : decode cX3_greatestScore 73 = .ok (.iinc 4 1, 3) := by decide +kernel
theorem dX3_greatestScore_76 : decode cX3_greatestScore 76 = .ok (.goto (-56), 3) := by decide +kernel
theorem dX3_greatestScore_79 : decode cX3_greatestScore 79 = .ok (.iload_n 3, 1) := by decide +kernel
theorem dX3_greatestScore_80 : decode cX3_greatestScore 80 = .ok (.ifCond .eq 10, 3) := by decide +kernel
theorem dX3_greatestScore_83 : decode cX3_greatestScore 83 = .ok (.iload_n 2, 1) := by decide +kernel
theorem dX3_greatestScore_84 : decode cX3_greatestScore 84 = .ok (.bipush 10, 2) := by decide +kernel
theorem dX3_greatestScore_86 : decode cX3_greatestScore 86 = .ok (.iadd, 1) := by decide +kernel
theorem dX3_greatestScore_87 : decode cX3_greatestScore 87 = .ok (.goto 4, 3) := by decide +kernel
theorem dX3_greatestScore_90 : decode cX3_greatestScore 90 = .ok (.iload_n 2, 1) := by decide +kernel
theorem dX3_greatestScore_91 : decode cX3_greatestScore 91 = .ok (.ireturn, 1) := by decide +kernel
set_option maxRecDepth 20000 in
theorem ggX3_canReachOthers_X3_greatestScore : GoodIn wsX3_canReachOthers wsX3_greatestScore := goodIn_r _ [6, 7, 8, 9, 10, 11, 12, 5, 13, 14, 15, 16, 17, 18, 19, 20, 21, 22, 23, 24, 25, 26, 27, 28, 29, 30, 31, 32, 33, 34, 35, 36, 37, 38, 39, 40, 41, 42, 43, 44, 45, 46, 47, 48, 49, 58, 59, 60, 61, 62, 63, 64, 65, 66, 67, 68, 69] (by decide +kernel) (by decide +kernel)
set_option maxRecDepth 20000 in
theorem gX3_canReachOthers_X3_greatestScore : GoodIn wsX3_canReachOthers (wsV RX3 167 RX3 yX3_greatestScore wsX3_greatestScore) := goodIn_app (goodIn_of _ (by decide +kernel)) ggX3_canReachOthers_X3_greatestScore
set_option maxRecDepth 20000 in
theorem ggX3_canReachOthers_X3_scoreOf : GoodIn wsX3_canReachOthers wsX3_scoreOf := goodIn_r _ [53, 7, 8, 54, 55, 56, 5, 57, 22, 30, 23, 24, 25, 42, 43, 44, 45, 9, 58, 59, 60, 61, 62, 63, 64, 65, 66, 67, 68, 69] (by decide +kernel) (by decide +kernel)
set_option maxRecDepth 20000 in
theorem gX3_canReachOthers_X3_scoreOf : GoodIn wsX3_canReachOthers (wsV RX3 118 RX3 yX3_scoreOf wsX3_scoreOf) := goodIn_app (goodIn_of _ (by decide +kernel)) ggX3_canReachOthers_X3_scoreOf
theorem dX3_canReachOthers_0 : decode cX3_canReachOthers 0 = .ok (.aload_n 0, 1) := by decide +kernel
theorem dX3_canReachOthers_1 : decode cX3_canReachOthers 1 = .ok (.iload_n 1, 1) := by decide +kernel
theorem dX3_canReachOthers_2 : decode cX3_canReachOthers 2 = .ok (.invokevirtual 167, 3) := by decide +kernel
theorem dX3_canReachOthers_5 : decode cX3_canReachOthers 5 = .ok (.istore_n 2, 1) := by decide +kernel
theorem dX3_canReachOthers_6 : decode cX3_canReachOthers 6 = .ok (.iconst 0, 1) := by decide +kernel
theorem dX3_canReachOthers_7 : decode cX3_canReachOthers 7 = .ok (.istore_n 3, 1) := by decide +kernel
theorem dX3_canReachOthers_8 : decode cX3_canReachOthers 8 = .ok (.iload_n 3, 1) := by decide +kernel
theorem dX3_canReachOthers_9 : decode cX3_canReachOthers 9 = .ok (.aload_n 0, 1) := by decide +kernel
theorem dX3_canReachOthers_10 : decode cX3_canReachOthers 10 = .ok (.getfield 66, 3) := by decide +kernel
theorem dX3_canReachOthers_13 : decode cX3_canReachOthers 13 = .ok (.if_icmp .ge 25, 3) := by decide +kernel
theorem dX3_canReachOthers_16 : decode cX3_canReachOthers 16 = .ok (.iload_n 3, 1) := by decide +kernel
theorem dX3_canReachOthers_17 : decode cX3_canReachOthers 17 = .ok (.iload_n 1, 1) := by decide +kernel
theorem dX3_canReachOthers_18 : decode cX3_canReachOthers 18 = .ok (.if_icmp .eq 14, 3) := by decide +kernel
theorem dX3_canReachOthers_21 : decode cX3_canReachOthers 21 = .ok (.aload_n 0, 1) := by decide +kernel
theorem dX3_canReachOthers_22 : decode cX3_canReachOthers 22 = .ok (.iload_n 3, 1) := by decide +kernel
theorem dX3_canReachOthers_23 : decode cX3_canReachOthers 23 = .ok (.invokevirtual 118, 3) := by decide +kernel
theorem dX3_canReachOthers_26 : decode cX3_canReachOthers 26 = .ok (.iload_n 2, 1) := by decide +kernel
theorem dX3_canReachOthers_27 : decode cX3_canReachOthers 27 = .ok (.if_icmp .le 5, 3) := by decide +kernel
theorem dX3_canReachOthers_30 : decode cX3_canReachOthers 30 = .ok (.iconst 0, 1) := by decide +kernel
theorem dX3_canReachOthers_31 : decode cX3_canReachOthers 31 = .ok (.ireturn, 1) := by decide +kernel
theorem dX3_canReachOthers_32 : decode cX3_canReachOthers 32 = .ok (.iinc 3 1, 3) := by decide +kernel
theorem dX3_canReachOthers_35 : decode cX3_canReachOthers 35 = .ok (.goto (-27), 3) := by decide +kernel
theorem dX3_canReachOthers_38 : decode cX3_canReachOthers 38 = .ok (.iconst 1, 1) := by decide +kernel
theorem dX3_canReachOthers_39 : decode cX3_canReachOthers 39 = .ok (.ireturn, 1) := by decide +kernel
