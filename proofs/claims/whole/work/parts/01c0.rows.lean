theorem dX0_init_0 : decode cX0_init 0 = .ok (.aload_n 0, 1) := by decide +kernel
theorem dX0_init_1 : decode cX0_init 1 = .ok (.invokespecial 3, 3) := by decide +kernel
theorem dX0_init_4 : decode cX0_init 4 = .ok (.aload_n 0, 1) := by decide +kernel
theorem dX0_init_5 : decode cX0_init 5 = .ok (.bipush 40, 2) := by decide +kernel
theorem dX0_init_7 : decode cX0_init 7 = .ok (.newarray .int, 2) := by decide +kernel
theorem dX0_init_9 : decode cX0_init 9 = .ok (.putfield 9, 3) := by decide +kernel
theorem dX0_init_12 : decode cX0_init 12 = .ok (.aload_n 0, 1) := by decide +kernel
theorem dX0_init_13 : decode cX0_init 13 = .ok (.bipush 40, 2) := by decide +kernel
theorem dX0_init_15 : decode cX0_init 15 = .ok (.newarray .int, 2) := by decide +kernel
theorem dX0_init_17 : decode cX0_init 17 = .ok (.putfield 15, 3) := by decide +kernel
theorem dX0_init_20 : decode cX0_init 20 = .ok (.aload_n 0, 1) := by decide +kernel
theorem dX0_init_21 : decode cX0_init 21 = .ok (.bipush 40, 2) := by decide +kernel
theorem dX0_init_23 : decode cX0_init 23 = .ok (.newarray .int, 2) := by decide +kernel
theorem dX0_init_25 : decode cX0_init 25 = .ok (.putfield 18, 3) := by decide +kernel
theorem dX0_init_28 : decode cX0_init 28 = .ok (.aload_n 0, 1) := by decide +kernel
theorem dX0_init_29 : decode cX0_init 29 = .ok (.bipush 40, 2) := by decide +kernel
theorem dX0_init_31 : decode cX0_init 31 = .ok (.newarray .int, 2) := by decide +kernel
theorem dX0_init_33 : decode cX0_init 33 = .ok (.putfield 21, 3) := by decide +kernel
theorem dX0_init_36 : decode cX0_init 36 = .ok (.return_, 1) := by decide +kernel
theorem dX0_know_0 : decode cX0_know 0 = .ok (.iload_n 1, 1) := by decide +kernel
theorem dX0_know_1 : decode cX0_know 1 = .ok (.ifCond .lt 15, 3) := by decide +kernel
theorem dX0_know_4 : decode cX0_know 4 = .ok (.iload_n 1, 1) := by decide +kernel
theorem dX0_know_5 : decode cX0_know 5 = .ok (.aload_n 0, 1) := by decide +kernel
theorem dX0_know_6 : decode cX0_know 6 = .ok (.getfield 24, 3) := by decide +kernel
theorem dX0_know_9 : decode cX0_know 9 = .ok (.if_icmp .ge 7, 3) := by decide +kernel
theorem dX0_know_12 : decode cX0_know 12 = .ok (.iconst 1, 1) := by decide +kernel
theorem dX0_know_13 : decode cX0_know 13 = .ok (.goto 4, 3) := by decide +kernel
theorem dX0_know_16 : decode cX0_know 16 = .ok (.iconst 0, 1) := by decide +kernel
theorem dX0_know_17 : decode cX0_know 17 = .ok (.ireturn, 1) := by decide +kernel
theorem dX0_make_0 : decode cX0_make 0 = .ok (.aload_n 0, 1) := by decide +kernel
theorem dX0_make_1 : decode cX0_make 1 = .ok (.getfield 24, 3) := by decide +kernel
theorem dX0_make_4 : decode cX0_make 4 = .ok (.bipush 40, 2) := by decide +kernel
theorem dX0_make_6 : decode cX0_make 6 = .ok (.if_icmp .lt 6, 3) := by decide +kernel
theorem dX0_make_9 : decode cX0_make 9 = .ok (.bipush (-4), 2) := by decide +kernel
theorem dX0_make_11 : decode cX0_make 11 = .ok (.ireturn, 1) := by decide +kernel
theorem dX0_make_12 : decode cX0_make 12 = .ok (.aload_n 0, 1) := by decide +kernel
theorem dX0_make_13 : decode cX0_make 13 = .ok (.getfield 24, 3) := by decide +kernel
theorem dX0_make_16 : decode cX0_make 16 = .ok (.istore 5, 2) := by decide +kernel
theorem dX0_make_18 : decode cX0_make 18 = .ok (.aload_n 0, 1) := by decide +kernel
theorem dX0_make_19 : decode cX0_make 19 = .ok (.getfield 9, 3) := by decide +kernel
theorem dX0_make_22 : decode cX0_make 22 = .ok (.iload 5, 2) := by decide +kernel
theorem dX0_make_24 : decode cX0_make 24 = .ok (.iload_n 1, 1) := by decide +kernel
theorem dX0_make_25 : decode cX0_make 25 = .ok (.iastore, 1) := by decide +kernel
theorem dX0_make_26 : decode cX0_make 26 = .ok (.aload_n 0, 1) := by decide +kernel
theorem dX0_make_27 : decode cX0_make 27 = .ok (.getfield 15, 3) := by decide +kernel
theorem dX0_make_30 : decode cX0_make 30 = .ok (.iload 5, 2) := by decide +kernel
theorem dX0_make_32 : decode cX0_make 32 = .ok (.iload_n 2, 1) := by decide +kernel
theorem dX0_make_33 : decode cX0_make 33 = .ok (.iastore, 1) := by decide +kernel
theorem dX0_make_34 : decode cX0_make 34 = .ok (.aload_n 0, 1) := by decide +kernel
theorem dX0_make_35 : decode cX0_make 35 = .ok (.getfield 18, 3) := by decide +kernel
theorem dX0_make_38 : decode cX0_make 38 = .ok (.iload 5, 2) := by decide +kernel
theorem dX0_make_40 : decode cX0_make 40 = .ok (.iload_n 3, 1) := by decide +kernel
theorem dX0_make_41 : decode cX0_make 41 = .ok (.iastore, 1) := by decide +kernel
theorem dX0_make_42 : decode cX0_make 42 = .ok (.aload_n 0, 1) := by decide +kernel
theorem dX0_make_43 : decode cX0_make 43 = .ok (.getfield 21, 3) := by decide +kernel
theorem dX0_make_46 : decode cX0_make 46 = .ok (.iload 5, 2) := by decide +kernel
theorem dX0_make_48 : decode cX0_make 48 = .ok (.iload 4, 2) := by decide +kernel
theorem dX0_make_50 : decode cX0_make 50 = .ok (.iastore, 1) := by decide +kernel
theorem dX0_make_51 : decode cX0_make 51 = .ok (.aload_n 0, 1) := by decide +kernel
theorem dX0_make_52 : decode cX0_make 52 = .ok (.dup, 1) := by decide +kernel
theorem dX0_make_53 : decode cX0_make 53 = .ok (.getfield 24, 3) := by decide +kernel
theorem dX0_make_56 : decode cX0_make 56 = .ok (.iconst 1, 1) := by decide +kernel
theorem dX0_make_57 : decode cX0_make 57 = .ok (.iadd, 1) := by decide +kernel
theorem dX0_make_58 : decode cX0_make 58 = .ok (.putfield 24, 3) := by decide +kernel
theorem dX0_make_61 : decode cX0_make 61 = .ok (.iload 5, 2) := by decide +kernel
theorem dX0_make_63 : decode cX0_make 63 = .ok (.ireturn, 1) := by decide +kernel
theorem dX1_init_0 : decode cX1_init 0 = .ok (.aload_n 0, 1) := by decide +kernel
theorem dX1_init_1 : decode cX1_init 1 = .ok (.invokespecial 3, 3) := by decide +kernel
theorem dX1_init_4 : decode cX1_init 4 = .ok (.aload_n 0, 1) := by decide +kernel
theorem dX1_init_5 : decode cX1_init 5 = .ok (.bipush 16, 2) := by decide +kernel
theorem dX1_init_7 : decode cX1_init 7 = .ok (.newarray .int, 2) := by decide +kernel
theorem dX1_init_9 : decode cX1_init 9 = .ok (.putfield 9, 3) := by decide +kernel
theorem dX1_init_12 : decode cX1_init 12 = .ok (.aload_n 0, 1) := by decide +kernel
theorem dX1_init_13 : decode cX1_init 13 = .ok (.bipush 16, 2) := by decide +kernel
theorem dX1_init_15 : decode cX1_init 15 = .ok (.newarray .int, 2) := by decide +kernel
theorem dX1_init_17 : decode cX1_init 17 = .ok (.putfield 15, 3) := by decide +kernel
theorem dX1_init_20 : decode cX1_init 20 = .ok (.aload_n 0, 1) := by decide +kernel
theorem dX1_init_21 : decode cX1_init 21 = .ok (.bipush 16, 2) := by decide +kernel
theorem dX1_init_23 : decode cX1_init 23 = .ok (.newarray .int, 2) := by decide +kernel
theorem dX1_init_25 : decode cX1_init 25 = .ok (.putfield 18, 3) := by decide +kernel
theorem dX1_init_28 : decode cX1_init 28 = .ok (.aload_n 0, 1) := by decide +kernel
theorem dX1_init_29 : decode cX1_init 29 = .ok (.bipush 16, 2) := by decide +kernel
theorem dX1_init_31 : decode cX1_init 31 = .ok (.newarray .int, 2) := by decide +kernel
theorem dX1_init_33 : decode cX1_init 33 = .ok (.putfield 21, 3) := by decide +kernel
theorem dX1_init_36 : decode cX1_init 36 = .ok (.aload_n 0, 1) := by decide +kernel
theorem dX1_init_37 : decode cX1_init 37 = .ok (.bipush 16, 2) := by decide +kernel
theorem dX1_init_39 : decode cX1_init 39 = .ok (.newarray .int, 2) := by decide +kernel
theorem dX1_init_41 : decode cX1_init 41 = .ok (.putfield 24, 3) := by decide +kernel
theorem dX1_init_44 : decode cX1_init 44 = .ok (.aload_n 0, 1) := by decide +kernel
theorem dX1_init_45 : decode cX1_init 45 = .ok (.bipush 16, 2) := by decide +kernel
theorem dX1_init_47 : decode cX1_init 47 = .ok (.newarray .int, 2) := by decide +kernel
theorem dX1_init_49 : decode cX1_init 49 = .ok (.putfield 27, 3) := by decide +kernel
theorem dX1_init_52 : decode cX1_init 52 = .ok (.return_, 1) := by decide +kernel
theorem dX1_know_0 : decode cX1_know 0 = .ok (.iload_n 1, 1) := by decide +kernel
theorem dX1_know_1 : decode cX1_know 1 = .ok (.ifCond .lt 15, 3) := by decide +kernel
theorem dX1_know_4 : decode cX1_know 4 = .ok (.iload_n 1, 1) := by decide +kernel
theorem dX1_know_5 : decode cX1_know 5 = .ok (.aload_n 0, 1) := by decide +kernel
theorem dX1_know_6 : decode cX1_know 6 = .ok (.getfield 30, 3) := by decide +kernel
theorem dX1_know_9 : decode cX1_know 9 = .ok (.if_icmp .ge 7, 3) := by decide +kernel
theorem dX1_know_12 : decode cX1_know 12 = .ok (.iconst 1, 1) := by decide +kernel
theorem dX1_know_13 : decode cX1_know 13 = .ok (.goto 4, 3) := by decide +kernel
theorem dX1_know_16 : decode cX1_know 16 = .ok (.iconst 0, 1) := by decide +kernel
theorem dX1_know_17 : decode cX1_know 17 = .ok (.ireturn, 1) := by decide +kernel
theorem dX1_make_0 : decode cX1_make 0 = .ok (.aload_n 0, 1) := by decide +kernel
theorem dX1_make_1 : decode cX1_make 1 = .ok (.getfield 30, 3) := by decide +kernel
theorem dX1_make_4 : decode cX1_make 4 = .ok (.bipush 16, 2) := by decide +kernel
theorem dX1_make_6 : decode cX1_make 6 = .ok (.if_icmp .lt 6, 3) := by decide +kernel
theorem dX1_make_9 : decode cX1_make 9 = .ok (.bipush (-4), 2) := by decide +kernel
theorem dX1_make_11 : decode cX1_make 11 = .ok (.ireturn, 1) := by decide +kernel
theorem dX1_make_12 : decode cX1_make 12 = .ok (.aload_n 0, 1) := by decide +kernel
theorem dX1_make_13 : decode cX1_make 13 = .ok (.getfield 30, 3) := by decide +kernel
theorem dX1_make_16 : decode cX1_make 16 = .ok (.istore 5, 2) := by decide +kernel
theorem dX1_make_18 : decode cX1_make 18 = .ok (.aload_n 0, 1) := by decide +kernel
theorem dX1_make_19 : decode cX1_make 19 = .ok (.getfield 9, 3) := by decide +kernel
theorem dX1_make_22 : decode cX1_make 22 = .ok (.iload 5, 2) := by decide +kernel
theorem dX1_make_24 : decode cX1_make 24 = .ok (.iload_n 1, 1) := by decide +kernel
theorem dX1_make_25 : decode cX1_make 25 = .ok (.iastore, 1) := by decide +kernel
theorem dX1_make_26 : decode cX1_make 26 = .ok (.aload_n 0, 1) := by decide +kernel
theorem dX1_make_27 : decode cX1_make 27 = .ok (.getfield 15, 3) := by decide +kernel
theorem dX1_make_30 : decode cX1_make 30 = .ok (.iload 5, 2) := by decide +kernel
theorem dX1_make_32 : decode cX1_make 32 = .ok (.iload_n 2, 1) := by decide +kernel
theorem dX1_make_33 : decode cX1_make 33 = .ok (.iastore, 1) := by decide +kernel
theorem dX1_make_34 : decode cX1_make 34 = .ok (.aload_n 0, 1) := by decide +kernel
theorem dX1_make_35 : decode cX1_make 35 = .ok (.getfield 18, 3) := by decide +kernel
theorem dX1_make_38 : decode cX1_make 38 = .ok (.iload 5, 2) := by decide +kernel
theorem dX1_make_40 : decode cX1_make 40 = .ok (.iload_n 3, 1) := by decide +kernel
theorem dX1_make_41 : decode cX1_make 41 = .ok (.iastore, 1) := by decide +kernel
theorem dX1_make_42 : decode cX1_make 42 = .ok (.aload_n 0, 1) := by decide +kernel
theorem dX1_make_43 : decode cX1_make 43 = .ok (.getfield 21, 3) := by decide +kernel
theorem dX1_make_46 : decode cX1_make 46 = .ok (.iload 5, 2) := by decide +kernel
theorem dX1_make_48 : decode cX1_make 48 = .ok (.iload 4, 2) := by decide +kernel
theorem dX1_make_50 : decode cX1_make 50 = .ok (.iastore, 1) := by decide +kernel
theorem dX1_make_51 : decode cX1_make 51 = .ok (.aload_n 0, 1) := by decide +kernel
theorem dX1_make_52 : decode cX1_make 52 = .ok (.getfield 24, 3) := by decide +kernel
theorem dX1_make_55 : decode cX1_make 55 = .ok (.iload 5, 2) := by decide +kernel
theorem dX1_make_57 : decode cX1_make 57 = .ok (.iconst 0, 1) := by decide +kernel
theorem dX1_make_58 : decode cX1_make 58 = .ok (.iastore, 1) := by decide +kernel
theorem dX1_make_59 : decode cX1_make 59 = .ok (.aload_n 0, 1) := by decide +kernel
theorem dX1_make_60 : decode cX1_make 60 = .ok (.getfield 27, 3) := by decide +kernel
theorem dX1_make_63 : decode cX1_make 63 = .ok (.iload 5, 2) := by decide +kernel
theorem dX1_make_65 : decode cX1_make 65 = .ok (.iconst 0, 1) := by decide +kernel
theorem dX1_make_66 : decode cX1_make 66 = .ok (.iastore, 1) := by decide +kernel
theorem dX1_make_67 : decode cX1_make 67 = .ok (.aload_n 0, 1) := by decide +kernel
theorem dX1_make_68 : decode cX1_make 68 = .ok (.dup, 1) := by decide +kernel
theorem dX1_make_69 : decode cX1_make 69 = .ok (.getfield 30, 3) := by decide +kernel
theorem dX1_make_72 : decode cX1_make 72 = .ok (.iconst 1, 1) := by decide +kernel
theorem dX1_make_73 : decode cX1_make 73 = .ok (.iadd, 1) := by decide +kernel
theorem dX1_make_74 : decode cX1_make 74 = .ok (.putfield 30, 3) := by decide +kernel
theorem dX1_make_77 : decode cX1_make 77 = .ok (.iload 5, 2) := by decide +kernel
theorem dX1_make_79 : decode cX1_make 79 = .ok (.ireturn, 1) := by decide +kernel
theorem dX2_init_0 : decode cX2_init 0 = .ok (.aload_n 0, 1) := by decide +kernel
theorem dX2_init_1 : decode cX2_init 1 = .ok (.invokespecial 3, 3) := by decide +kernel
theorem dX2_init_4 : decode cX2_init 4 = .ok (.aload_n 0, 1) := by decide +kernel
theorem dX2_init_5 : decode cX2_init 5 = .ok (.bipush 80, 2) := by decide +kernel
theorem dX2_init_7 : decode cX2_init 7 = .ok (.newarray .int, 2) := by decide +kernel
theorem dX2_init_9 : decode cX2_init 9 = .ok (.putfield 9, 3) := by decide +kernel
theorem dX2_init_12 : decode cX2_init 12 = .ok (.aload_n 0, 1) := by decide +kernel
theorem dX2_init_13 : decode cX2_init 13 = .ok (.bipush 80, 2) := by decide +kernel
theorem dX2_init_15 : decode cX2_init 15 = .ok (.newarray .int, 2) := by decide +kernel
theorem dX2_init_17 : decode cX2_init 17 = .ok (.putfield 15, 3) := by decide +kernel
theorem dX2_init_20 : decode cX2_init 20 = .ok (.aload_n 0, 1) := by decide +kernel
theorem dX2_init_21 : decode cX2_init 21 = .ok (.bipush 80, 2) := by decide +kernel
theorem dX2_init_23 : decode cX2_init 23 = .ok (.newarray .int, 2) := by decide +kernel
theorem dX2_init_25 : decode cX2_init 25 = .ok (.putfield 18, 3) := by decide +kernel
theorem dX2_init_28 : decode cX2_init 28 = .ok (.aload_n 0, 1) := by decide +kernel
theorem dX2_init_29 : decode cX2_init 29 = .ok (.bipush 80, 2) := by decide +kernel
theorem dX2_init_31 : decode cX2_init 31 = .ok (.newarray .int, 2) := by decide +kernel
theorem dX2_init_33 : decode cX2_init 33 = .ok (.putfield 21, 3) := by decide +kernel
theorem dX2_init_36 : decode cX2_init 36 = .ok (.aload_n 0, 1) := by decide +kernel
theorem dX2_init_37 : decode cX2_init 37 = .ok (.bipush 80, 2) := by decide +kernel
theorem dX2_init_39 : decode cX2_init 39 = .ok (.newarray .int, 2) := by decide +kernel
theorem dX2_init_41 : decode cX2_init 41 = .ok (.putfield 24, 3) := by decide +kernel
theorem dX2_init_44 : decode cX2_init 44 = .ok (.aload_n 0, 1) := by decide +kernel
theorem dX2_init_45 : decode cX2_init 45 = .ok (.sipush 480, 3) := by decide +kernel
theorem dX2_init_48 : decode cX2_init 48 = .ok (.newarray .int, 2) := by decide +kernel
theorem dX2_init_50 : decode cX2_init 50 = .ok (.putfield 27, 3) := by decide +kernel
theorem dX2_init_53 : decode cX2_init 53 = .ok (.aload_n 0, 1) := by decide +kernel
theorem dX2_init_54 : decode cX2_init 54 = .ok (.sipush 480, 3) := by decide +kernel
theorem dX2_init_57 : decode cX2_init 57 = .ok (.newarray .long, 2) := by decide +kernel
theorem dX2_init_59 : decode cX2_init 59 = .ok (.putfield 30, 3) := by decide +kernel
theorem dX2_init_62 : decode cX2_init 62 = .ok (.return_, 1) := by decide +kernel
theorem dX2_areFull_0 : decode cX2_areFull 0 = .ok (.aload_n 0, 1) := by decide +kernel
theorem dX2_areFull_1 : decode cX2_areFull 1 = .ok (.getfield 34, 3) := by decide +kernel
theorem dX2_areFull_4 : decode cX2_areFull 4 = .ok (.bipush 80, 2) := by decide +kernel
theorem dX2_areFull_6 : decode cX2_areFull 6 = .ok (.if_icmp .lt 7, 3) := by decide +kernel
theorem dX2_areFull_9 : decode cX2_areFull 9 = .ok (.iconst 1, 1) := by decide +kernel
theorem dX2_areFull_10 : decode cX2_areFull 10 = .ok (.goto 4, 3) := by decide +kernel
theorem dX2_areFull_13 : decode cX2_areFull 13 = .ok (.iconst 0, 1) := by decide +kernel
theorem dX2_areFull_14 : decode cX2_areFull 14 = .ok (.ireturn, 1) := by decide +kernel
theorem dX2_know_0 : decode cX2_know 0 = .ok (.iload_n 1, 1) := by decide +kernel
theorem dX2_know_1 : decode cX2_know 1 = .ok (.ifCond .lt 15, 3) := by decide +kernel
theorem dX2_know_4 : decode cX2_know 4 = .ok (.iload_n 1, 1) := by decide +kernel
theorem dX2_know_5 : decode cX2_know 5 = .ok (.aload_n 0, 1) := by decide +kernel
theorem dX2_know_6 : decode cX2_know 6 = .ok (.getfield 34, 3) := by decide +kernel
theorem dX2_know_9 : decode cX2_know 9 = .ok (.if_icmp .ge 7, 3) := by decide +kernel
theorem dX2_know_12 : decode cX2_know 12 = .ok (.iconst 1, 1) := by decide +kernel
theorem dX2_know_13 : decode cX2_know 13 = .ok (.goto 4, 3) := by decide +kernel
theorem dX2_know_16 : decode cX2_know 16 = .ok (.iconst 0, 1) := by decide +kernel
theorem dX2_know_17 : decode cX2_know 17 = .ok (.ireturn, 1) := by decide +kernel
set_option maxRecDepth 20000 in
theorem ggX2_knowOrNone_X2_know : GoodIn wsX2_knowOrNone wsX2_know := goodIn_r _ [5, 6, 7, 8, 9, 10, 11, 12, 13, 14] (by decide +kernel) (by decide +kernel)
set_option maxRecDepth 20000 in
theorem gX2_knowOrNone_X2_know : GoodIn wsX2_knowOrNone (wsV RX2 38 RX2 yX2_know wsX2_know) := goodIn_app (goodIn_of _ (by decide +kernel)) ggX2_knowOrNone_X2_know
theorem dX2_knowOrNone_0 : decode cX2_knowOrNone 0 = .ok (.iload_n 1, 1) := by decide +kernel
theorem dX2_knowOrNone_1 : decode cX2_knowOrNone 1 = .ok (.bipush (-5), 2) := by decide +kernel
theorem dX2_knowOrNone_3 : decode cX2_knowOrNone 3 = .ok (.if_icmp .eq 11, 3) := by decide +kernel
theorem dX2_knowOrNone_6 : decode cX2_knowOrNone 6 = .ok (.aload_n 0, 1) := by decide +kernel
theorem dX2_knowOrNone_7 : decode cX2_knowOrNone 7 = .ok (.iload_n 1, 1) := by decide +kernel
theorem dX2_knowOrNone_8 : decode cX2_knowOrNone 8 = .ok (.invokevirtual 38, 3) := by decide +kernel
theorem dX2_knowOrNone_11 : decode cX2_knowOrNone 11 = .ok (.ifCond .eq 7, 3) := by decide +kernel
theorem dX2_knowOrNone_14 : decode cX2_knowOrNone 14 = .ok (.iconst 1, 1) := by decide +kernel
theorem dX2_knowOrNone_15 : decode cX2_knowOrNone 15 = .ok (.goto 4, 3) := by decide +kernel
theorem dX2_knowOrNone_18 : decode cX2_knowOrNone 18 = .ok (.iconst 0, 1) := by decide +kernel
theorem dX2_knowOrNone_19 : decode cX2_knowOrNone 19 = .ok (.ireturn, 1) := by decide +kernel
set_option maxRecDepth 20000 in
theorem ggX2_make_X2_areFull : GoodIn wsX2_make wsX2_areFull := goodIn_r _ [13, 1, 14, 15, 16, 17, 18, 19, 20, 21] (by decide +kernel) (by decide +kernel)
set_option maxRecDepth 20000 in
theorem gX2_make_X2_areFull : GoodIn wsX2_make (wsV RX2 42 RX2 yX2_areFull wsX2_areFull) := goodIn_app (goodIn_of _ (by decide +kernel)) ggX2_make_X2_areFull
theorem dX2_make_0 : decode cX2_make 0 = .ok (.aload_n 0, 1) := by decide +kernel
theorem dX2_make_1 : decode cX2_make 1 = .ok (.invokevirtual 42, 3) := by decide +kernel
theorem dX2_make_4 : decode cX2_make 4 = .ok (.ifCond .eq 6, 3) := by decide +kernel
theorem dX2_make_7 : decode cX2_make 7 = .ok (.bipush (-4), 2) := by decide +kernel
theorem dX2_make_9 : decode cX2_make 9 = .ok (.ireturn, 1) := by decide +kernel
theorem dX2_make_10 : decode cX2_make 10 = .ok (.aload_n 0, 1) := by decide +kernel
theorem dX2_make_11 : decode cX2_make 11 = .ok (.getfield 34, 3) := by decide +kernel
theorem dX2_make_14 : decode cX2_make 14 = .ok (.istore 4, 2) := by decide +kernel
theorem dX2_make_16 : decode cX2_make 16 = .ok (.aload_n 0, 1) := by decide +kernel
theorem dX2_make_17 : decode cX2_make 17 = .ok (.getfield 9, 3) := by decide +kernel
theorem dX2_make_20 : decode cX2_make 20 = .ok (.iload 4, 2) := by decide +kernel
theorem dX2_make_22 : decode cX2_make 22 = .ok (.iload_n 1, 1) := by decide +kernel
theorem dX2_make_23 : decode cX2_make 23 = .ok (.iastore, 1) := by decide +kernel
theorem dX2_make_24 : decode cX2_make 24 = .ok (.aload_n 0, 1) := by decide +kernel
theorem dX2_make_25 : decode cX2_make 25 = .ok (.getfield 15, 3) := by decide +kernel
theorem dX2_make_28 : decode cX2_make 28 = .ok (.iload 4, 2) := by decide +kernel
theorem dX2_make_30 : decode cX2_make 30 = .ok (.iload_n 2, 1) := by decide +kernel
theorem dX2_make_31 : decode cX2_make 31 = .ok (.iastore, 1) := by decide +kernel
theorem dX2_make_32 : decode cX2_make 32 = .ok (.aload_n 0, 1) := by decide +kernel
theorem dX2_make_33 : decode cX2_make 33 = .ok (.getfield 18, 3) := by decide +kernel
theorem dX2_make_36 : decode cX2_make 36 = .ok (.iload 4, 2) := by decide +kernel
theorem dX2_make_38 : decode cX2_make 38 = .ok (.iload_n 3, 1) := by decide +kernel
theorem dX2_make_39 : decode cX2_make 39 = .ok (.iastore, 1) := by decide +kernel
theorem dX2_make_40 : decode cX2_make 40 = .ok (.aload_n 0, 1) := by decide +kernel
theorem dX2_make_41 : decode cX2_make 41 = .ok (.getfield 21, 3) := by decide +kernel
theorem dX2_make_44 : decode cX2_make 44 = .ok (.iload 4, 2) := by decide +kernel
theorem dX2_make_46 : decode cX2_make 46 = .ok (.bipush (-5), 2) := by decide +kernel
theorem dX2_make_48 : decode cX2_make 48 = .ok (.iastore, 1) := by decide +kernel
theorem dX2_make_49 : decode cX2_make 49 = .ok (.aload_n 0, 1) := by decide +kernel
theorem dX2_make_50 : decode cX2_make 50 = .ok (.getfield 24, 3) := by decide +kernel
theorem dX2_make_53 : decode cX2_make 53 = .ok (.iload 4, 2) := by decide +kernel
theorem dX2_make_55 : decode cX2_make 55 = .ok (.bipush (-5), 2) := by decide +kernel
theorem dX2_make_57 : decode cX2_make 57 = .ok (.iastore, 1) := by decide +kernel
theorem dX2_make_58 : decode cX2_make 58 = .ok (.iconst 0, 1) := by decide +kernel
theorem dX2_make_59 : decode cX2_make 59 = .ok (.istore 5, 2) := by decide +kernel
theorem dX2_make_61 : decode cX2_make 61 = .ok (.iload 5, 2) := by decide +kernel
theorem dX2_make_63 : decode cX2_make 63 = .ok (.bipush 6, 2) := by decide +kernel
theorem dX2_make_65 : decode cX2_make 65 = .ok (.if_icmp .ge 38, 3) := by decide +kernel
theorem dX2_make_68 : decode cX2_make 68 = .ok (.aload_n 0, 1) := by decide +kernel
theorem dX2_make_69 : decode cX2_make 69 = .ok (.getfield 27, 3) := by decide +kernel
theorem dX2_make_72 : decode cX2_make 72 = .ok (.iload 4, 2) := by decide +kernel
theorem dX2_make_74 : decode cX2_make 74 = .ok (.bipush 6, 2) := by decide +kernel
theorem dX2_make_76 : decode cX2_make 76 = .ok (.imul, 1) := by decide +kernel
theorem dX2_make_77 : decode cX2_make 77 = .ok (.iload 5, 2) := by decide +kernel
theorem dX2_make_79 : decode cX2_make 79 = .ok (.iadd, 1) := by decide +kernel
theorem dX2_make_80 : decode cX2_make 80 = .ok (.bipush (-5), 2) := by decide +kernel
theorem dX2_make_82 : decode cX2_make 82 = .ok (.iastore, 1) := by decide +kernel
theorem dX2_make_83 : decode cX2_make 83 = .ok (.aload_n 0, 1) := by decide +kernel
theorem dX2_make_84 : decode cX2_make 84 = .ok (.getfield 30, 3) := by decide +kernel
theorem dX2_make_87 : decode cX2_make 87 = .ok (.iload 4, 2) := by decide +kernel
theorem dX2_make_89 : decode cX2_make 89 = .ok (.bipush 6, 2) := by decide +kernel
theorem dX2_make_91 : decode cX2_make 91 = .ok (.imul, 1) := by decide +kernel
theorem dX2_make_92 : decode cX2_make 92 = .ok (.iload 5, 2) := by decide +kernel
theorem dX2_make_94 : decode cX2_make 94 = .ok (.iadd, 1) := by decide +kernel
theorem dX2_make_95 : decode cX2_make 95 = .ok (.lconst 0, 1) := by decide +kernel
theorem dX2_make_96 : decode cX2_make 96 = .ok (.lastore, 1) := by decide +kernel
theorem dX2_make_97 : decode cX2_make 97 = .ok (.iinc 5 1, 3) := by decide +kernel
theorem dX2_make_100 : decode cX2_make 100 = .ok (.goto (-39), 3) := by decide +kernel
theorem dX2_make_103 : decode cX2_make 103 = .ok (.aload_n 0, 1) := by decide +kernel
theorem dX2_make_104 : decode cX2_make 104 = .ok (.dup, 1) := by decide +kernel
theorem dX2_make_105 : decode cX2_make 105 = .ok (.getfield 34, 3) := by decide +kernel
theorem dX2_make_108 : decode cX2_make 108 = .ok (.iconst 1, 1) := by decide +kernel
theorem dX2_make_109 : decode cX2_make 109 = .ok (.iadd, 1) := by decide +kernel
theorem dX2_make_110 : decode cX2_make 110 = .ok (.putfield 34, 3) := by decide +kernel
theorem dX2_make_113 : decode cX2_make 113 = .ok (.iload 4, 2) := by decide +kernel
theorem dX2_make_115 : decode cX2_make 115 = .ok (.ireturn, 1) := by decide +kernel
set_option maxRecDepth 20000 in
theorem ggX2_isOf_X2_know : GoodIn wsX2_isOf wsX2_know := goodIn_r _ [6, 7, 11, 12, 13, 14, 15, 16, 17, 18] (by decide +kernel) (by decide +kernel)
set_option maxRecDepth 20000 in
theorem gX2_isOf_X2_know : GoodIn wsX2_isOf (wsV RX2 38 RX2 yX2_know wsX2_know) := goodIn_app (goodIn_of _ (by decide +kernel)) ggX2_isOf_X2_know
set_option maxRecDepth 20000 in
theorem ggX2_isOf_X2_formIsOf : GoodIn wsX2_isOf wsX2_formIsOf := goodIn_r _ [10] (by decide +kernel) (by decide +kernel)
set_option maxRecDepth 20000 in
theorem gX2_isOf_X2_formIsOf : GoodIn wsX2_isOf (va_wsS RX2 46 yX2_formIsOf wsX2_formIsOf) := goodIn_app (goodIn_of _ (by decide +kernel)) ggX2_isOf_X2_formIsOf
theorem dX2_isOf_0 : decode cX2_isOf 0 = .ok (.aload_n 0, 1) := by decide +kernel
theorem dX2_isOf_1 : decode cX2_isOf 1 = .ok (.iload_n 1, 1) := by decide +kernel
theorem dX2_isOf_2 : decode cX2_isOf 2 = .ok (.invokevirtual 38, 3) := by decide +kernel
theorem dX2_isOf_5 : decode cX2_isOf 5 = .ok (.ifCond .eq 20, 3) := by decide +kernel
theorem dX2_isOf_8 : decode cX2_isOf 8 = .ok (.aload_n 0, 1) := by decide +kernel
theorem dX2_isOf_9 : decode cX2_isOf 9 = .ok (.getfield 9, 3) := by decide +kernel
theorem dX2_isOf_12 : decode cX2_isOf 12 = .ok (.iload_n 1, 1) := by decide +kernel
theorem dX2_isOf_13 : decode cX2_isOf 13 = .ok (.iaload, 1) := by decide +kernel
theorem dX2_isOf_14 : decode cX2_isOf 14 = .ok (.iload_n 2, 1) := by decide +kernel
theorem dX2_isOf_15 : decode cX2_isOf 15 = .ok (.invokestatic 46, 3) := by decide +kernel
theorem dX2_isOf_18 : decode cX2_isOf 18 = .ok (.ifCond .eq 7, 3) := by decide +kernel
theorem dX2_isOf_21 : decode cX2_isOf 21 = .ok (.iconst 1, 1) := by decide +kernel
theorem dX2_isOf_22 : decode cX2_isOf 22 = .ok (.goto 4, 3) := by decide +kernel
theorem dX2_isOf_25 : decode cX2_isOf 25 = .ok (.iconst 0, 1) := by decide +kernel
theorem dX2_isOf_26 : decode cX2_isOf 26 = .ok (.ireturn, 1) := by decide +kernel
set_option maxRecDepth 20000 in
theorem ggX2_mayBeTaken_X2_isOf : GoodIn wsX2_mayBeTaken wsX2_isOf := goodIn_ca (goodIn_r _ [5, 6, 7, 8, 9, 4, 10, 11, 12, 13, 14, 15, 16, 17, 18, 19, 20, 21, 22] (by decide +kernel) (by decide +kernel)) (goodIn_sub (fun _ h => List.mem_cons_of_mem _ (List.mem_append_right _ h)) (by decide +kernel))
set_option maxRecDepth 20000 in
theorem gX2_mayBeTaken_X2_isOf : GoodIn wsX2_mayBeTaken (wsV RX2 50 RX2 yX2_isOf wsX2_isOf) := goodIn_app (goodIn_of _ (by decide +kernel)) ggX2_mayBeTaken_X2_isOf
theorem dX2_mayBeTaken_0 : decode cX2_mayBeTaken 0 = .ok (.iload_n 1, 1) := by decide +kernel
theorem dX2_mayBeTaken_1 : decode cX2_mayBeTaken 1 = .ok (.bipush (-5), 2) := by decide +kernel
theorem dX2_mayBeTaken_3 : decode cX2_mayBeTaken 3 = .ok (.if_icmp .eq 12, 3) := by decide +kernel
theorem dX2_mayBeTaken_6 : decode cX2_mayBeTaken 6 = .ok (.aload_n 0, 1) := by decide +kernel
theorem dX2_mayBeTaken_7 : decode cX2_mayBeTaken 7 = .ok (.iload_n 1, 1) := by decide +kernel
theorem dX2_mayBeTaken_8 : decode cX2_mayBeTaken 8 = .ok (.iload_n 2, 1) := by decide +kernel
theorem dX2_mayBeTaken_9 : decode cX2_mayBeTaken 9 = .ok (.invokevirtual 50, 3) := by decide +kernel
theorem dX2_mayBeTaken_12 : decode cX2_mayBeTaken 12 = .ok (.ifCond .eq 7, 3) := by decide +kernel
theorem dX2_mayBeTaken_15 : decode cX2_mayBeTaken 15 = .ok (.iconst 1, 1) := by decide +kernel
theorem dX2_mayBeTaken_16 : decode cX2_mayBeTaken 16 = .ok (.goto 4, 3) := by decide +kernel
theorem dX2_mayBeTaken_19 : decode cX2_mayBeTaken 19 = .ok (.iconst 0, 1) := by decide +kernel
theorem dX2_mayBeTaken_20 : decode cX2_mayBeTaken 20 = .ok (.ireturn, 1) := by decide +kernel
set_option maxRecDepth 20000 in
theorem ggX2_take_X2_isOf : GoodIn wsX2_take wsX2_isOf := goodIn_ca (goodIn_r _ [5, 6, 7, 8, 9, 4, 10, 11, 12, 13, 14, 15, 16, 17, 18, 19, 20, 21, 22] (by decide +kernel) (by decide +kernel)) (goodIn_sub (fun _ h => List.mem_cons_of_mem _ (List.mem_append_right _ h)) (by decide +kernel))
set_option maxRecDepth 20000 in
theorem gX2_take_X2_isOf : GoodIn wsX2_take (wsV RX2 50 RX2 yX2_isOf wsX2_isOf) := goodIn_app (goodIn_of _ (by decide +kernel)) ggX2_take_X2_isOf
theorem dX2_take_0 : decode cX2_take 0 = .ok (.iload_n 1, 1) := by decide +kernel
theorem dX2_take_1 : decode cX2_take 1 = .ok (.bipush (-5), 2) := by decide +kernel
theorem dX2_take_3 : decode cX2_take 3 = .ok (.if_icmp .ne 6, 3) := by decide +kernel
theorem dX2_take_6 : decode cX2_take 6 = .ok (.bipush (-22), 2) := by decide +kernel
theorem dX2_take_8 : decode cX2_take 8 = .ok (.ireturn, 1) := by decide +kernel
theorem dX2_take_9 : decode cX2_take 9 = .ok (.aload_n 0, 1) := by decide +kernel
theorem dX2_take_10 : decode cX2_take 10 = .ok (.iload_n 1, 1) := by decide +kernel
theorem dX2_take_11 : decode cX2_take 11 = .ok (.iload_n 2, 1) := by decide +kernel
theorem dX2_take_12 : decode cX2_take 12 = .ok (.invokevirtual 50, 3) := by decide +kernel
theorem dX2_take_15 : decode cX2_take 15 = .ok (.ifCond .eq 7, 3) := by decide +kernel
theorem dX2_take_18 : decode cX2_take 18 = .ok (.iconst 1, 1) := by decide +kernel
theorem dX2_take_19 : decode cX2_take 19 = .ok (.goto 5, 3) := by decide +kernel
theorem dX2_take_22 : decode cX2_take 22 = .ok (.bipush (-21), 2) := by decide +kernel
theorem dX2_take_24 : decode cX2_take 24 = .ok (.ireturn, 1) := by decide +kernel
set_option maxRecDepth 20000 in
theorem ggX2_reach_X2_take : GoodIn wsX2_reach wsX2_take := goodIn_ca (goodIn_r _ [5, 6, 7, 8, 4, 9, 10, 11, 12, 13, 14, 15, 16, 17, 18, 24, 25, 26, 27, 28, 29, 30, 31] (by decide +kernel) (by decide +kernel)) (goodIn_sub (fun _ h => List.mem_cons_of_mem _ (List.mem_append_right _ h)) (by decide +kernel))
set_option maxRecDepth 20000 in
theorem gX2_reach_X2_take : GoodIn wsX2_reach (wsV RX2 53 RX2 yX2_take wsX2_take) := goodIn_app (goodIn_of _ (by decide +kernel)) ggX2_reach_X2_take
set_option maxRecDepth 20000 in
theorem ggX2_reach_X2_hasPlace : GoodIn wsX2_reach wsX2_hasPlace := goodIn_ca (goodIn_r _ [22, 23, 11, 12, 13, 4, 14, 15, 24, 25, 26, 27, 28, 29, 30, 31] (by decide +kernel) (by decide +kernel)) (goodIn_sub (fun _ h => List.mem_cons_of_mem _ (List.mem_append_right _ h)) (by decide +kernel))
set_option maxRecDepth 20000 in
theorem gX2_reach_X2_hasPlace : GoodIn wsX2_reach (wsV RX2 57 RX2 yX2_hasPlace wsX2_hasPlace) := goodIn_app (goodIn_of _ (by decide +kernel)) ggX2_reach_X2_hasPlace
theorem dX2_reach_0 : decode cX2_reach 0 = .ok (.aload_n 0, 1) := by decide +kernel
theorem dX2_reach_1 : decode cX2_reach 1 = .ok (.iload_n 1, 1) := by decide +kernel
theorem dX2_reach_2 : decode cX2_reach 2 = .ok (.iload_n 2, 1) := by decide +kernel
theorem dX2_reach_3 : decode cX2_reach 3 = .ok (.invokevirtual 53, 3) := by decide +kernel
theorem dX2_reach_6 : decode cX2_reach 6 = .ok (.istore 4, 2) := by decide +kernel
theorem dX2_reach_8 : decode cX2_reach 8 = .ok (.iload 4, 2) := by decide +kernel
theorem dX2_reach_10 : decode cX2_reach 10 = .ok (.iconst 1, 1) := by decide +kernel
theorem dX2_reach_11 : decode cX2_reach 11 = .ok (.if_icmp .eq 6, 3) := by decide +kernel
theorem dX2_reach_14 : decode cX2_reach 14 = .ok (.iload 4, 2) := by decide +kernel
theorem dX2_reach_16 : decode cX2_reach 16 = .ok (.ireturn, 1) := by decide +kernel
theorem dX2_reach_17 : decode cX2_reach 17 = .ok (.aload_n 0, 1) := by decide +kernel
theorem dX2_reach_18 : decode cX2_reach 18 = .ok (.iload_n 1, 1) := by decide +kernel
theorem dX2_reach_19 : decode cX2_reach 19 = .ok (.iload_n 3, 1) := by decide +kernel
theorem dX2_reach_20 : decode cX2_reach 20 = .ok (.invokevirtual 57, 3) := by decide +kernel
theorem dX2_reach_23 : decode cX2_reach 23 = .ok (.ifCond .eq 7, 3) := by decide +kernel
theorem dX2_reach_26 : decode cX2_reach 26 = .ok (.iconst 1, 1) := by decide +kernel
theorem dX2_reach_27 : decode cX2_reach 27 = .ok (.goto 5, 3) := by decide +kernel
theorem dX2_reach_30 : decode cX2_reach 30 = .ok (.bipush (-23), 2) := by decide +kernel
theorem dX2_reach_32 : decode cX2_reach 32 = .ok (.ireturn, 1) := by decide +kernel
set_option maxRecDepth 20000 in
theorem ggX2_placesOf_X2_know : GoodIn wsX2_placesOf wsX2_know := goodIn_r _ [6, 7, 8, 9, 10, 11, 12, 13, 14, 15] (by decide +kernel) (by decide +kernel)
set_option maxRecDepth 20000 in
theorem gX2_placesOf_X2_know : GoodIn wsX2_placesOf (wsV RX2 38 RX2 yX2_know wsX2_know) := goodIn_app (goodIn_of _ (by decide +kernel)) ggX2_placesOf_X2_know
theorem dX2_placesOf_0 : decode cX2_placesOf 0 = .ok (.aload_n 0, 1) := by decide +kernel
theorem dX2_placesOf_1 : decode cX2_placesOf 1 = .ok (.iload_n 1, 1) := by decide +kernel
theorem dX2_placesOf_2 : decode cX2_placesOf 2 = .ok (.invokevirtual 38, 3) := by decide +kernel
theorem dX2_placesOf_5 : decode cX2_placesOf 5 = .ok (.ifCond .eq 12, 3) := by decide +kernel
theorem dX2_placesOf_8 : decode cX2_placesOf 8 = .ok (.aload_n 0, 1) := by decide +kernel
theorem dX2_placesOf_9 : decode cX2_placesOf 9 = .ok (.getfield 18, 3) := by decide +kernel
theorem dX2_placesOf_12 : decode cX2_placesOf 12 = .ok (.iload_n 1, 1) := by decide +kernel
theorem dX2_placesOf_13 : decode cX2_placesOf 13 = .ok (.iaload, 1) := by decide +kernel
theorem dX2_placesOf_14 : decode cX2_placesOf 14 = .ok (.goto 4, 3) := by decide +kernel
theorem dX2_placesOf_17 : decode cX2_placesOf 17 = .ok (.iconst 0, 1) := by decide +kernel
theorem dX2_placesOf_18 : decode cX2_placesOf 18 = .ok (.ireturn, 1) := by decide +kernel
set_option maxRecDepth 20000 in
theorem ggX2_heldIn_X2_hasPlace : GoodIn wsX2_heldIn wsX2_hasPlace := goodIn_ca (goodIn_r _ [6, 7, 8, 9, 10, 5, 11, 12, 13, 14, 15, 16, 17, 18, 19, 20] (by decide +kernel) (by decide +kernel)) (goodIn_sub (fun _ h => List.mem_cons_of_mem _ (List.mem_append_right _ h)) (by decide +kernel))
set_option maxRecDepth 20000 in
theorem gX2_heldIn_X2_hasPlace : GoodIn wsX2_heldIn (wsV RX2 57 RX2 yX2_hasPlace wsX2_hasPlace) := goodIn_app (goodIn_of _ (by decide +kernel)) ggX2_heldIn_X2_hasPlace
theorem dX2_heldIn_0 : decode cX2_heldIn 0 = .ok (.aload_n 0, 1) := by decide +kernel
theorem dX2_heldIn_1 : decode cX2_heldIn 1 = .ok (.iload_n 1, 1) := by decide +kernel
theorem dX2_heldIn_2 : decode cX2_heldIn 2 = .ok (.iload_n 2, 1) := by decide +kernel
theorem dX2_heldIn_3 : decode cX2_heldIn 3 = .ok (.invokevirtual 57, 3) := by decide +kernel
theorem dX2_heldIn_6 : decode cX2_heldIn 6 = .ok (.ifCond .eq 17, 3) := by decide +kernel
theorem dX2_heldIn_9 : decode cX2_heldIn 9 = .ok (.aload_n 0, 1) := by decide +kernel
theorem dX2_heldIn_10 : decode cX2_heldIn 10 = .ok (.getfield 27, 3) := by decide +kernel
theorem dX2_heldIn_13 : decode cX2_heldIn 13 = .ok (.iload_n 1, 1) := by decide +kernel
theorem dX2_heldIn_14 : decode cX2_heldIn 14 = .ok (.bipush 6, 2) := by decide +kernel
theorem dX2_heldIn_16 : decode cX2_heldIn 16 = .ok (.imul, 1) := by decide +kernel
theorem dX2_heldIn_17 : decode cX2_heldIn 17 = .ok (.iload_n 2, 1) := by decide +kernel
theorem dX2_heldIn_18 : decode cX2_heldIn 18 = .ok (.iadd, 1) := by decide +kernel
theorem dX2_heldIn_19 : decode cX2_heldIn 19 = .ok (.iaload, 1) := by decide +kernel
theorem dX2_heldIn_20 : decode cX2_heldIn 20 = .ok (.goto 5, 3) := by decide +kernel
theorem dX2_heldIn_23 : decode cX2_heldIn 23 = .ok (.bipush (-5), 2) := by decide +kernel
theorem dX2_heldIn_25 : decode cX2_heldIn 25 = .ok (.ireturn, 1) := by decide +kernel
set_option maxRecDepth 20000 in
theorem ggX2_numberIn_X2_hasPlace : GoodIn wsX2_numberIn wsX2_hasPlace := goodIn_ca (goodIn_r _ [6, 7, 8, 9, 10, 5, 11, 12, 13, 14, 15, 16, 17, 18, 19, 20] (by decide +kernel) (by decide +kernel)) (goodIn_sub (fun _ h => List.mem_cons_of_mem _ (List.mem_append_right _ h)) (by decide +kernel))
set_option maxRecDepth 20000 in
theorem gX2_numberIn_X2_hasPlace : GoodIn wsX2_numberIn (wsV RX2 57 RX2 yX2_hasPlace wsX2_hasPlace) := goodIn_app (goodIn_of _ (by decide +kernel)) ggX2_numberIn_X2_hasPlace
theorem dX2_numberIn_0 : decode cX2_numberIn 0 = .ok (.aload_n 0, 1) := by decide +kernel
theorem dX2_numberIn_1 : decode cX2_numberIn 1 = .ok (.iload_n 1, 1) := by decide +kernel
theorem dX2_numberIn_2 : decode cX2_numberIn 2 = .ok (.iload_n 2, 1) := by decide +kernel
theorem dX2_numberIn_3 : decode cX2_numberIn 3 = .ok (.invokevirtual 57, 3) := by decide +kernel
theorem dX2_numberIn_6 : decode cX2_numberIn 6 = .ok (.ifCond .eq 17, 3) := by decide +kernel
theorem dX2_numberIn_9 : decode cX2_numberIn 9 = .ok (.aload_n 0, 1) := by decide +kernel
theorem dX2_numberIn_10 : decode cX2_numberIn 10 = .ok (.getfield 30, 3) := by decide +kernel
theorem dX2_numberIn_13 : decode cX2_numberIn 13 = .ok (.iload_n 1, 1) := by decide +kernel
theorem dX2_numberIn_14 : decode cX2_numberIn 14 = .ok (.bipush 6, 2) := by decide +kernel
theorem dX2_numberIn_16 : decode cX2_numberIn 16 = .ok (.imul, 1) := by decide +kernel
theorem dX2_numberIn_17 : decode cX2_numberIn 17 = .ok (.iload_n 2, 1) := by decide +kernel
theorem dX2_numberIn_18 : decode cX2_numberIn 18 = .ok (.iadd, 1) := by decide +kernel
theorem dX2_numberIn_19 : decode cX2_numberIn 19 = .ok (.laload, 1) := by decide +kernel
theorem dX2_numberIn_20 : decode cX2_numberIn 20 = .ok (.goto 4, 3) := by decide +kernel
theorem dX2_numberIn_23 : decode cX2_numberIn 23 = .ok (.lconst 0, 1) := by decide +kernel
theorem dX2_numberIn_24 : decode cX2_numberIn 24 = .ok (.lreturn, 1) := by decide +kernel
set_option maxRecDepth 20000 in
theorem ggX2_heldHalf_X2_know : GoodIn wsX2_heldHalf wsX2_know := goodIn_r _ [7, 8, 9, 10, 11, 12, 13, 14, 15, 16] (by decide +kernel) (by decide +kernel)
set_option maxRecDepth 20000 in
theorem gX2_heldHalf_X2_know : GoodIn wsX2_heldHalf (wsV RX2 38 RX2 yX2_know wsX2_know) := goodIn_app (goodIn_of _ (by decide +kernel)) ggX2_heldHalf_X2_know
theorem dX2_heldHalf_0 : decode cX2_heldHalf 0 = .ok (.aload_n 0, 1) := by decide +kernel
theorem dX2_heldHalf_1 : decode cX2_heldHalf 1 = .ok (.iload_n 1, 1) := by decide +kernel
theorem dX2_heldHalf_2 : decode cX2_heldHalf 2 = .ok (.invokevirtual 38, 3) := by decide +kernel
theorem dX2_heldHalf_5 : decode cX2_heldHalf 5 = .ok (.ifCond .ne 6, 3) := by decide +kernel
theorem dX2_heldHalf_8 : decode cX2_heldHalf 8 = .ok (.bipush (-5), 2) := by decide +kernel
theorem dX2_heldHalf_10 : decode cX2_heldHalf 10 = .ok (.ireturn, 1) := by decide +kernel
theorem dX2_heldHalf_11 : decode cX2_heldHalf 11 = .ok (.iload_n 2, 1) := by decide +kernel
theorem dX2_heldHalf_12 : decode cX2_heldHalf 12 = .ok (.ifCond .ne 12, 3) := by decide +kernel
theorem dX2_heldHalf_15 : decode cX2_heldHalf 15 = .ok (.aload_n 0, 1) := by decide +kernel
theorem dX2_heldHalf_16 : decode cX2_heldHalf 16 = .ok (.getfield 21, 3) := by decide +kernel
theorem dX2_heldHalf_19 : decode cX2_heldHalf 19 = .ok (.iload_n 1, 1) := by decide +kernel
theorem dX2_heldHalf_20 : decode cX2_heldHalf 20 = .ok (.iaload, 1) := by decide +kernel
theorem dX2_heldHalf_21 : decode cX2_heldHalf 21 = .ok (.goto 9, 3) := by decide +kernel
theorem dX2_heldHalf_24 : decode cX2_heldHalf 24 = .ok (.aload_n 0, 1) := by decide +kernel
theorem dX2_heldHalf_25 : decode cX2_heldHalf 25 = .ok (.getfield 24, 3) := by decide +kernel
theorem dX2_heldHalf_28 : decode cX2_heldHalf 28 = .ok (.iload_n 1, 1) := by decide +kernel
theorem dX2_heldHalf_29 : decode cX2_heldHalf 29 = .ok (.iaload, 1) := by decide +kernel
theorem dX2_heldHalf_30 : decode cX2_heldHalf 30 = .ok (.ireturn, 1) := by decide +kernel
set_option maxRecDepth 20000 in
theorem ggX2_tellingOf_X2_know : GoodIn wsX2_tellingOf wsX2_know := goodIn_r _ [7, 8, 9, 10, 11, 12, 13, 14, 15, 16] (by decide +kernel) (by decide +kernel)
set_option maxRecDepth 20000 in
theorem gX2_tellingOf_X2_know : GoodIn wsX2_tellingOf (wsV RX2 38 RX2 yX2_know wsX2_know) := goodIn_app (goodIn_of _ (by decide +kernel)) ggX2_tellingOf_X2_know
theorem dX2_tellingOf_0 : decode cX2_tellingOf 0 = .ok (.aload_n 0, 1) := by decide +kernel
theorem dX2_tellingOf_1 : decode cX2_tellingOf 1 = .ok (.iload_n 1, 1) := by decide +kernel
theorem dX2_tellingOf_2 : decode cX2_tellingOf 2 = .ok (.invokevirtual 38, 3) := by decide +kernel
theorem dX2_tellingOf_5 : decode cX2_tellingOf 5 = .ok (.ifCond .ne 5, 3) := by decide +kernel
theorem dX2_tellingOf_8 : decode cX2_tellingOf 8 = .ok (.iconst 0, 1) := by decide +kernel
theorem dX2_tellingOf_9 : decode cX2_tellingOf 9 = .ok (.ireturn, 1) := by decide +kernel
theorem dX2_tellingOf_10 : decode cX2_tellingOf 10 = .ok (.aload_n 0, 1) := by decide +kernel
theorem dX2_tellingOf_11 : decode cX2_tellingOf 11 = .ok (.getfield 9, 3) := by decide +kernel
theorem dX2_tellingOf_14 : decode cX2_tellingOf 14 = .ok (.iload_n 1, 1) := by decide +kernel
theorem dX2_tellingOf_15 : decode cX2_tellingOf 15 = .ok (.iaload, 1) := by decide +kernel
theorem dX2_tellingOf_16 : decode cX2_tellingOf 16 = .ok (.iconst 1, 1) := by decide +kernel
theorem dX2_tellingOf_17 : decode cX2_tellingOf 17 = .ok (.if_icmp .ne 16, 3) := by decide +kernel
theorem dX2_tellingOf_20 : decode cX2_tellingOf 20 = .ok (.iconst 2, 1) := by decide +kernel
theorem dX2_tellingOf_21 : decode cX2_tellingOf 21 = .ok (.aload_n 0, 1) := by decide +kernel
theorem dX2_tellingOf_22 : decode cX2_tellingOf 22 = .ok (.getfield 15, 3) := by decide +kernel
theorem dX2_tellingOf_25 : decode cX2_tellingOf 25 = .ok (.iload_n 1, 1) := by decide +kernel
theorem dX2_tellingOf_26 : decode cX2_tellingOf 26 = .ok (.iaload, 1) := by decide +kernel
theorem dX2_tellingOf_27 : decode cX2_tellingOf 27 = .ok (.imul, 1) := by decide +kernel
theorem dX2_tellingOf_28 : decode cX2_tellingOf 28 = .ok (.iconst 1, 1) := by decide +kernel
theorem dX2_tellingOf_29 : decode cX2_tellingOf 29 = .ok (.iadd, 1) := by decide +kernel
theorem dX2_tellingOf_30 : decode cX2_tellingOf 30 = .ok (.goto 9, 3) := by decide +kernel
theorem dX2_tellingOf_33 : decode cX2_tellingOf 33 = .ok (.aload_n 0, 1) := by decide +kernel
theorem dX2_tellingOf_34 : decode cX2_tellingOf 34 = .ok (.getfield 15, 3) := by decide +kernel
theorem dX2_tellingOf_37 : decode cX2_tellingOf 37 = .ok (.iload_n 1, 1) := by decide +kernel
theorem dX2_tellingOf_38 : decode cX2_tellingOf 38 = .ok (.iaload, 1) := by decide +kernel
theorem dX2_tellingOf_39 : decode cX2_tellingOf 39 = .ok (.ireturn, 1) := by decide +kernel
set_option maxRecDepth 20000 in
theorem ggX2_layIn_X2_mayBeTaken : GoodIn wsX2_layIn wsX2_mayBeTaken := goodIn_ca (goodIn_r _ [7, 8, 9, 10, 6, 11, 1, 12, 13, 14, 15, 16, 17, 18, 19, 42, 43, 44, 45, 46, 47, 48, 49] (by decide +kernel) (by decide +kernel)) (goodIn_sub (fun _ h => List.mem_cons_of_mem _ (List.mem_append_right _ h)) (by decide +kernel))
set_option maxRecDepth 20000 in
theorem gX2_layIn_X2_mayBeTaken : GoodIn wsX2_layIn (wsV RX2 60 RX2 yX2_mayBeTaken wsX2_mayBeTaken) := goodIn_app (goodIn_of _ (by decide +kernel)) ggX2_layIn_X2_mayBeTaken
set_option maxRecDepth 20000 in
theorem ggX2_layIn_X2_partOf : GoodIn wsX2_layIn wsX2_partOf := goodIn_ca (goodIn_r _ [22, 23, 24, 25, 26, 27, 28] (by decide +kernel) (by decide +kernel)) (goodIn_sub (fun _ h => List.mem_cons_of_mem _ (List.mem_append_right _ h)) (by decide +kernel))
set_option maxRecDepth 20000 in
theorem gX2_layIn_X2_partOf : GoodIn wsX2_layIn (va_wsS RX2 63 yX2_partOf wsX2_partOf) := goodIn_app (goodIn_of _ (by decide +kernel)) ggX2_layIn_X2_partOf
set_option maxRecDepth 20000 in
theorem ggX2_layIn_X2_reach : GoodIn wsX2_layIn wsX2_reach := goodIn_ca (goodIn_r _ [32, 33, 34, 35, 6, 36, 8, 9, 10, 11, 1, 12, 13, 14, 15, 16, 17, 18, 19, 37, 38, 39, 40, 41, 42, 43, 44, 45, 46, 47, 48, 49] (by decide +kernel) (by decide +kernel)) (goodIn_sub (fun _ h => List.mem_cons_of_mem _ (List.mem_append_right _ h)) (by decide +kernel))
set_option maxRecDepth 20000 in
theorem gX2_layIn_X2_reach : GoodIn wsX2_layIn (wsV RX2 67 RX2 yX2_reach wsX2_reach) := goodIn_app (goodIn_of _ (by decide +kernel)) ggX2_layIn_X2_reach
theorem dX2_layIn_0 : decode cX2_layIn 0 = .ok (.aload_n 0, 1) := by decide +kernel
theorem dX2_layIn_1 : decode cX2_layIn 1 = .ok (.iload_n 1, 1) := by decide +kernel
theorem dX2_layIn_2 : decode cX2_layIn 2 = .ok (.iload_n 2, 1) := by decide +kernel
theorem dX2_layIn_3 : decode cX2_layIn 3 = .ok (.invokevirtual 60, 3) := by decide +kernel
theorem dX2_layIn_6 : decode cX2_layIn 6 = .ok (.ifCond .eq 16, 3) := by decide +kernel
theorem dX2_layIn_9 : decode cX2_layIn 9 = .ok (.aload_n 0, 1) := by decide +kernel
theorem dX2_layIn_10 : decode cX2_layIn 10 = .ok (.iload 4, 2) := by decide +kernel
theorem dX2_layIn_12 : decode cX2_layIn 12 = .ok (.iload_n 2, 1) := by decide +kernel
theorem dX2_layIn_13 : decode cX2_layIn 13 = .ok (.invokestatic 63, 3) := by decide +kernel
theorem dX2_layIn_16 : decode cX2_layIn 16 = .ok (.invokevirtual 60, 3) := by decide +kernel
theorem dX2_layIn_19 : decode cX2_layIn 19 = .ok (.ifCond .ne 6, 3) := by decide +kernel
theorem dX2_layIn_22 : decode cX2_layIn 22 = .ok (.bipush (-21), 2) := by decide +kernel
theorem dX2_layIn_24 : decode cX2_layIn 24 = .ok (.ireturn, 1) := by decide +kernel
theorem dX2_layIn_25 : decode cX2_layIn 25 = .ok (.aload_n 0, 1) := by decide +kernel
theorem dX2_layIn_26 : decode cX2_layIn 26 = .ok (.iload_n 1, 1) := by decide +kernel
theorem dX2_layIn_27 : decode cX2_layIn 27 = .ok (.iload_n 2, 1) := by decide +kernel
theorem dX2_layIn_28 : decode cX2_layIn 28 = .ok (.iload_n 3, 1) := by decide +kernel
theorem dX2_layIn_29 : decode cX2_layIn 29 = .ok (.invokevirtual 67, 3) := by decide +kernel
theorem dX2_layIn_32 : decode cX2_layIn 32 = .ok (.istore 5, 2) := by decide +kernel
theorem dX2_layIn_34 : decode cX2_layIn 34 = .ok (.iload 5, 2) := by decide +kernel
theorem dX2_layIn_36 : decode cX2_layIn 36 = .ok (.iconst 1, 1) := by decide +kernel
theorem dX2_layIn_37 : decode cX2_layIn 37 = .ok (.if_icmp .eq 6, 3) := by decide +kernel
theorem dX2_layIn_40 : decode cX2_layIn 40 = .ok (.iload 5, 2) := by decide +kernel
theorem dX2_layIn_42 : decode cX2_layIn 42 = .ok (.ireturn, 1) := by decide +kernel
theorem dX2_layIn_43 : decode cX2_layIn 43 = .ok (.aload_n 0, 1) := by decide +kernel
theorem dX2_layIn_44 : decode cX2_layIn 44 = .ok (.iload 4, 2) := by decide +kernel
theorem dX2_layIn_46 : decode cX2_layIn 46 = .ok (.aload_n 0, 1) := by decide +kernel
theorem dX2_layIn_47 : decode cX2_layIn 47 = .ok (.getfield 9, 3) := by decide +kernel
theorem dX2_layIn_50 : decode cX2_layIn 50 = .ok (.iload_n 1, 1) := by decide +kernel
theorem dX2_layIn_51 : decode cX2_layIn 51 = .ok (.iaload, 1) := by decide +kernel
theorem dX2_layIn_52 : decode cX2_layIn 52 = .ok (.invokestatic 63, 3) := by decide +kernel
theorem dX2_layIn_55 : decode cX2_layIn 55 = .ok (.invokevirtual 60, 3) := by decide +kernel
theorem dX2_layIn_58 : decode cX2_layIn 58 = .ok (.ifCond .ne 6, 3) := by decide +kernel
theorem dX2_layIn_61 : decode cX2_layIn 61 = .ok (.bipush (-24), 2) := by decide +kernel
theorem dX2_layIn_63 : decode cX2_layIn 63 = .ok (.ireturn, 1) := by decide +kernel
theorem dX2_layIn_64 : decode cX2_layIn 64 = .ok (.aload_n 0, 1) := by decide +kernel
theorem dX2_layIn_65 : decode cX2_layIn 65 = .ok (.getfield 27, 3) := by decide +kernel
theorem dX2_layIn_68 : decode cX2_layIn 68 = .ok (.iload_n 1, 1) := by decide +kernel
theorem dX2_layIn_69 : decode cX2_layIn 69 = .ok (.bipush 6, 2) := by decide +kernel
theorem dX2_layIn_71 : decode cX2_layIn 71 = .ok (.imul, 1) := by decide +kernel
theorem dX2_layIn_72 : decode cX2_layIn 72 = .ok (.iload_n 3, 1) := by decide +kernel
theorem dX2_layIn_73 : decode cX2_layIn 73 = .ok (.iadd, 1) := by decide +kernel
theorem dX2_layIn_74 : decode cX2_layIn 74 = .ok (.iload 4, 2) := by decide +kernel
theorem dX2_layIn_76 : decode cX2_layIn 76 = .ok (.iastore, 1) := by decide +kernel
theorem dX2_layIn_77 : decode cX2_layIn 77 = .ok (.iconst 1, 1) := by decide +kernel
theorem dX2_layIn_78 : decode cX2_layIn 78 = .ok (.ireturn, 1) := by decide +kernel
set_option maxRecDepth 20000 in
theorem ggX2_setHalf_X2_take : GoodIn wsX2_setHalf wsX2_take := goodIn_ca (goodIn_r _ [7, 8, 9, 10, 6, 11, 12, 13, 14, 15, 16, 17, 18, 19, 20, 21, 22, 23, 24, 25, 26, 27, 28] (by decide +kernel) (by decide +kernel)) (goodIn_sub (fun _ h => List.mem_cons_of_mem _ (List.mem_append_right _ h)) (by decide +kernel))
set_option maxRecDepth 20000 in
theorem gX2_setHalf_X2_take : GoodIn wsX2_setHalf (wsV RX2 53 RX2 yX2_take wsX2_take) := goodIn_app (goodIn_of _ (by decide +kernel)) ggX2_setHalf_X2_take
theorem dX2_setHalf_0 : decode cX2_setHalf 0 = .ok (.aload_n 0, 1) := by decide +kernel
theorem dX2_setHalf_1 : decode cX2_setHalf 1 = .ok (.iload_n 1, 1) := by decide +kernel
theorem dX2_setHalf_2 : decode cX2_setHalf 2 = .ok (.iconst 2, 1) := by decide +kernel
theorem dX2_setHalf_3 : decode cX2_setHalf 3 = .ok (.invokevirtual 53, 3) := by decide +kernel
theorem dX2_setHalf_6 : decode cX2_setHalf 6 = .ok (.istore 4, 2) := by decide +kernel
theorem dX2_setHalf_8 : decode cX2_setHalf 8 = .ok (.iload 4, 2) := by decide +kernel
theorem dX2_setHalf_10 : decode cX2_setHalf 10 = .ok (.iconst 1, 1) := by decide +kernel
theorem dX2_setHalf_11 : decode cX2_setHalf 11 = .ok (.if_icmp .eq 6, 3) := by decide +kernel
theorem dX2_setHalf_14 : decode cX2_setHalf 14 = .ok (.iload 4, 2) := by decide +kernel
theorem dX2_setHalf_16 : decode cX2_setHalf 16 = .ok (.ireturn, 1) := by decide +kernel
theorem dX2_setHalf_17 : decode cX2_setHalf 17 = .ok (.iload_n 2, 1) := by decide +kernel
theorem dX2_setHalf_18 : decode cX2_setHalf 18 = .ok (.ifCond .ne 13, 3) := by decide +kernel
theorem dX2_setHalf_21 : decode cX2_setHalf 21 = .ok (.aload_n 0, 1) := by decide +kernel
theorem dX2_setHalf_22 : decode cX2_setHalf 22 = .ok (.getfield 21, 3) := by decide +kernel
theorem dX2_setHalf_25 : decode cX2_setHalf 25 = .ok (.iload_n 1, 1) := by decide +kernel
theorem dX2_setHalf_26 : decode cX2_setHalf 26 = .ok (.iload_n 3, 1) := by decide +kernel
theorem dX2_setHalf_27 : decode cX2_setHalf 27 = .ok (.iastore, 1) := by decide +kernel
theorem dX2_setHalf_28 : decode cX2_setHalf 28 = .ok (.goto 10, 3) := by decide +kernel
theorem dX2_setHalf_31 : decode cX2_setHalf 31 = .ok (.aload_n 0, 1) := by decide +kernel
theorem dX2_setHalf_32 : decode cX2_setHalf 32 = .ok (.getfield 24, 3) := by decide +kernel
theorem dX2_setHalf_35 : decode cX2_setHalf 35 = .ok (.iload_n 1, 1) := by decide +kernel
theorem dX2_setHalf_36 : decode cX2_setHalf 36 = .ok (.iload_n 3, 1) := by decide +kernel
theorem dX2_setHalf_37 : decode cX2_setHalf 37 = .ok (.iastore, 1) := by decide +kernel
theorem dX2_setHalf_38 : decode cX2_setHalf 38 = .ok (.iconst 1, 1) := by decide +kernel
theorem dX2_setHalf_39 : decode cX2_setHalf 39 = .ok (.ireturn, 1) := by decide +kernel
set_option maxRecDepth 20000 in
theorem ggX2_putNumber_X2_reach : GoodIn wsX2_putNumber wsX2_reach := goodIn_ca (goodIn_r _ [6, 7, 8, 9, 5, 10, 11, 12, 13, 14, 15, 16, 17, 18, 19, 20, 21, 22, 23, 24, 25, 26, 27, 28, 32, 33, 34, 35, 36, 37, 38, 39] (by decide +kernel) (by decide +kernel)) (goodIn_sub (fun _ h => List.mem_cons_of_mem _ (List.mem_append_right _ h)) (by decide +kernel))
set_option maxRecDepth 20000 in
theorem gX2_putNumber_X2_reach : GoodIn wsX2_putNumber (wsV RX2 67 RX2 yX2_reach wsX2_reach) := goodIn_app (goodIn_of _ (by decide +kernel)) ggX2_putNumber_X2_reach
set_option maxRecDepth 20000 in
theorem ggX2_putNumber_X2_cutTo : GoodIn wsX2_putNumber wsX2_cutTo := goodIn_r _ [31] (by decide +kernel) (by decide +kernel)
set_option maxRecDepth 20000 in
theorem gX2_putNumber_X2_cutTo : GoodIn wsX2_putNumber (va_wsS RX2 71 yX2_cutTo wsX2_cutTo) := goodIn_app (goodIn_of _ (by decide +kernel)) ggX2_putNumber_X2_cutTo
theorem dX2_putNumber_0 : decode cX2_putNumber 0 = .ok (.aload_n 0, 1) := by decide +kernel
theorem dX2_putNumber_1 : decode cX2_putNumber 1 = .ok (.iload_n 1, 1) := by decide +kernel
theorem dX2_putNumber_2 : decode cX2_putNumber 2 = .ok (.iload_n 2, 1) := by decide +kernel
theorem dX2_putNumber_3 : decode cX2_putNumber 3 = .ok (.iload_n 3, 1) := by decide +kernel
theorem dX2_putNumber_4 : decode cX2_putNumber 4 = .ok (.invokevirtual 67, 3) := by decide +kernel
theorem dX2_putNumber_7 : decode cX2_putNumber 7 = .ok (.istore 6, 2) := by decide +kernel
theorem dX2_putNumber_9 : decode cX2_putNumber 9 = .ok (.iload 6, 2) := by decide +kernel
theorem dX2_putNumber_11 : decode cX2_putNumber 11 = .ok (.iconst 1, 1) := by decide +kernel
theorem dX2_putNumber_12 : decode cX2_putNumber 12 = .ok (.if_icmp .ne 20, 3) := by decide +kernel
theorem dX2_putNumber_15 : decode cX2_putNumber 15 = .ok (.aload_n 0, 1) := by decide +kernel
theorem dX2_putNumber_16 : decode cX2_putNumber 16 = .ok (.getfield 30, 3) := by decide +kernel
theorem dX2_putNumber_19 : decode cX2_putNumber 19 = .ok (.iload_n 1, 1) := by decide +kernel
theorem dX2_putNumber_20 : decode cX2_putNumber 20 = .ok (.bipush 6, 2) := by decide +kernel
theorem dX2_putNumber_22 : decode cX2_putNumber 22 = .ok (.imul, 1) := by decide +kernel
theorem dX2_putNumber_23 : decode cX2_putNumber 23 = .ok (.iload_n 3, 1) := by decide +kernel
theorem dX2_putNumber_24 : decode cX2_putNumber 24 = .ok (.iadd, 1) := by decide +kernel
theorem dX2_putNumber_25 : decode cX2_putNumber 25 = .ok (.iload_n 2, 1) := by decide +kernel
theorem dX2_putNumber_26 : decode cX2_putNumber 26 = .ok (.lload 4, 2) := by decide +kernel
theorem dX2_putNumber_28 : decode cX2_putNumber 28 = .ok (.invokestatic 71, 3) := by decide +kernel
theorem dX2_putNumber_31 : decode cX2_putNumber 31 = .ok (.lastore, 1) := by decide +kernel
theorem dX2_putNumber_32 : decode cX2_putNumber 32 = .ok (.iload 6, 2) := by decide +kernel
theorem dX2_putNumber_34 : decode cX2_putNumber 34 = .ok (.ireturn, 1) := by decide +kernel
set_option maxRecDepth 20000 in
theorem ggX2_hasPlace_X2_know : GoodIn wsX2_hasPlace wsX2_know := goodIn_r _ [6, 7, 8, 9, 10, 11, 12, 13, 14, 15] (by decide +kernel) (by decide +kernel)
set_option maxRecDepth 20000 in
theorem gX2_hasPlace_X2_know : GoodIn wsX2_hasPlace (wsV RX2 38 RX2 yX2_know wsX2_know) := goodIn_app (goodIn_of _ (by decide +kernel)) ggX2_hasPlace_X2_know
theorem dX2_hasPlace_0 : decode cX2_hasPlace 0 = .ok (.aload_n 0, 1) := by decide +kernel
theorem dX2_hasPlace_1 : decode cX2_hasPlace 1 = .ok (.iload_n 1, 1) := by decide +kernel
theorem dX2_hasPlace_2 : decode cX2_hasPlace 2 = .ok (.invokevirtual 38, 3) := by decide +kernel
theorem dX2_hasPlace_5 : decode cX2_hasPlace 5 = .ok (.ifCond .eq 21, 3) := by decide +kernel
theorem dX2_hasPlace_8 : decode cX2_hasPlace 8 = .ok (.iload_n 2, 1) := by decide +kernel
theorem dX2_hasPlace_9 : decode cX2_hasPlace 9 = .ok (.ifCond .lt 17, 3) := by decide +kernel
theorem dX2_hasPlace_12 : decode cX2_hasPlace 12 = .ok (.iload_n 2, 1) := by decide +kernel
theorem dX2_hasPlace_13 : decode cX2_hasPlace 13 = .ok (.aload_n 0, 1) := by decide +kernel
theorem dX2_hasPlace_14 : decode cX2_hasPlace 14 = .ok (.getfield 18, 3) := by decide +kernel
theorem dX2_hasPlace_17 : decode cX2_hasPlace 17 = .ok (.iload_n 1, 1) := by decide +kernel
theorem dX2_hasPlace_18 : decode cX2_hasPlace 18 = .ok (.iaload, 1) := by decide +kernel
theorem dX2_hasPlace_19 : decode cX2_hasPlace 19 = .ok (.if_icmp .ge 7, 3) := by decide +kernel
theorem dX2_hasPlace_22 : decode cX2_hasPlace 22 = .ok (.iconst 1, 1) := by decide +kernel
theorem dX2_hasPlace_23 : decode cX2_hasPlace 23 = .ok (.goto 4, 3) := by decide +kernel
theorem dX2_hasPlace_26 : decode cX2_hasPlace 26 = .ok (.iconst 0, 1) := by decide +kernel
theorem dX2_hasPlace_27 : decode cX2_hasPlace 27 = .ok (.ireturn, 1) := by decide +kernel
theorem dX2_cutTo_0 : decode cX2_cutTo 0 = .ok (.iload_n 0, 1) := by decide +kernel
theorem dX2_cutTo_1 : decode cX2_cutTo 1 = .ok (.lookupswitch 36 #[(4, 27), (6, 31)], 27) := by decide +kernel
theorem dX2_cutTo_28 : decode cX2_cutTo 28 = .ok (.lload_n 1, 1) := by decide +kernel
theorem dX2_cutTo_29 : decode cX2_cutTo 29 = .ok (.l2i, 1) := by decide +kernel
theorem dX2_cutTo_30 : decode cX2_cutTo 30 = .ok (.i2l, 1) := by decide +kernel
theorem dX2_cutTo_31 : decode cX2_cutTo 31 = .ok (.lreturn, 1) := by decide +kernel
theorem dX2_cutTo_32 : decode cX2_cutTo 32 = .ok (.lload_n 1, 1) := by decide +kernel
theorem dX2_cutTo_33 : decode cX2_cutTo 33 = .ok (.l2i, 1) := by decide +kernel
theorem dX2_cutTo_34 : decode cX2_cutTo 34 = .ok (.i2c, 1) := by decide +kernel
theorem dX2_cutTo_35 : decode cX2_cutTo 35 = .ok (.i2l, 1) := by decide +kernel
theorem dX2_cutTo_36 : decode cX2_cutTo 36 = .ok (.lreturn, 1) := by decide +kernel
theorem dX2_cutTo_37 : decode cX2_cutTo 37 = .ok (.lload_n 1, 1) := by decide +kernel
theorem dX2_cutTo_38 : decode cX2_cutTo 38 = .ok (.lreturn, 1) := by decide +kernel
set_option maxRecDepth 20000 in
theorem ggX2_partOf_X3_isHolderKind : GoodIn wsX2_partOf wsX3_isHolderKind := goodIn_r _ [3, 4, 5, 2, 6] (by decide +kernel) (by decide +kernel)
set_option maxRecDepth 20000 in
theorem gX2_partOf_X3_isHolderKind_n75 : GoodIn wsX2_partOf (wsX3_isHolderKind) := ggX2_partOf_X3_isHolderKind
theorem dX2_partOf_0 : decode cX2_partOf 0 = .ok (.iload_n 0, 1) := by decide +kernel
theorem dX2_partOf_1 : decode cX2_partOf 1 = .ok (.invokestatic 75, 3) := by decide +kernel
theorem dX2_partOf_4 : decode cX2_partOf 4 = .ok (.ifCond .eq 14, 3) := by decide +kernel
theorem dX2_partOf_7 : decode cX2_partOf 7 = .ok (.getstatic 78, 3) := by decide +kernel
theorem dX2_partOf_10 : decode cX2_partOf 10 = .ok (.iload_n 0, 1) := by decide +kernel
theorem dX2_partOf_11 : decode cX2_partOf 11 = .ok (.bipush 7, 2) := by decide +kernel
theorem dX2_partOf_13 : decode cX2_partOf 13 = .ok (.isub, 1) := by decide +kernel
theorem dX2_partOf_14 : decode cX2_partOf 14 = .ok (.iaload, 1) := by decide +kernel
theorem dX2_partOf_15 : decode cX2_partOf 15 = .ok (.goto 4, 3) := by decide +kernel
theorem dX2_partOf_18 : decode cX2_partOf 18 = .ok (.iconst (-1), 1) := by decide +kernel
theorem dX2_partOf_19 : decode cX2_partOf 19 = .ok (.ireturn, 1) := by decide +kernel
theorem dX2_formIsOf_0 : decode cX2_formIsOf 0 = .ok (.iload_n 1, 1) := by decide +kernel
theorem dX2_formIsOf_1 : decode cX2_formIsOf 1 = .ok (.iload_n 0, 1) := by decide +kernel
theorem dX2_formIsOf_2 : decode cX2_formIsOf 2 = .ok (.if_icmp .eq 9, 3) := by decide +kernel
theorem dX2_formIsOf_5 : decode cX2_formIsOf 5 = .ok (.iload_n 1, 1) := by decide +kernel
theorem dX2_formIsOf_6 : decode cX2_formIsOf 6 = .ok (.bipush 15, 2) := by decide +kernel
theorem dX2_formIsOf_8 : decode cX2_formIsOf 8 = .ok (.if_icmp .ne 5, 3) := by decide +kernel
theorem dX2_formIsOf_11 : decode cX2_formIsOf 11 = .ok (.iconst 1, 1) := by decide +kernel
theorem dX2_formIsOf_12 : decode cX2_formIsOf 12 = .ok (.ireturn, 1) := by decide +kernel
theorem dX2_formIsOf_13 : decode cX2_formIsOf 13 = .ok (.iload_n 0, 1) := by decide +kernel
theorem dX2_formIsOf_14 : decode cX2_formIsOf 14 = .ok (.lookupswitch 100 #[(1, 42), (3, 58), (9, 70), (13, 88)], 42) := by decide +kernel
theorem dX2_formIsOf_56 : decode cX2_formIsOf 56 = .ok (.iload_n 1, 1) := by decide +kernel
theorem dX2_formIsOf_57 : decode cX2_formIsOf 57 = .ok (.ifCond .eq 9, 3) := by decide +kernel
theorem dX2_formIsOf_60 : decode cX2_formIsOf 60 = .ok (.iload_n 1, 1) := by decide +kernel
theorem dX2_formIsOf_61 : decode cX2_formIsOf 61 = .ok (.bipush 14, 2) := by decide +kernel
theorem dX2_formIsOf_63 : decode cX2_formIsOf 63 = .ok (.if_icmp .ne 7, 3) := by decide +kernel
theorem dX2_formIsOf_66 : decode cX2_formIsOf 66 = .ok (.iconst 1, 1) := by decide +kernel
theorem dX2_formIsOf_67 : decode cX2_formIsOf 67 = .ok (.goto 4, 3) := by decide +kernel
theorem dX2_formIsOf_70 : decode cX2_formIsOf 70 = .ok (.iconst 0, 1) := by decide +kernel
theorem dX2_formIsOf_71 : decode cX2_formIsOf 71 = .ok (.ireturn, 1) := by decide +kernel
theorem dX2_formIsOf_72 : decode cX2_formIsOf 72 = .ok (.iload_n 1, 1) := by decide +kernel
theorem dX2_formIsOf_73 : decode cX2_formIsOf 73 = .ok (.bipush 14, 2) := by decide +kernel
theorem dX2_formIsOf_75 : decode cX2_formIsOf 75 = .ok (.if_icmp .ne 7, 3) := by decide +kernel
theorem dX2_formIsOf_78 : decode cX2_formIsOf 78 = .ok (.iconst 1, 1) := by decide +kernel
theorem dX2_formIsOf_79 : decode cX2_formIsOf 79 = .ok (.goto 4, 3) := by decide +kernel
theorem dX2_formIsOf_82 : decode cX2_formIsOf 82 = .ok (.iconst 0, 1) := by decide +kernel
theorem dX2_formIsOf_83 : decode cX2_formIsOf 83 = .ok (.ireturn, 1) := by decide +kernel
theorem dX2_formIsOf_84 : decode cX2_formIsOf 84 = .ok (.iload_n 1, 1) := by decide +kernel
theorem dX2_formIsOf_85 : decode cX2_formIsOf 85 = .ok (.bipush 8, 2) := by decide +kernel
theorem dX2_formIsOf_87 : decode cX2_formIsOf 87 = .ok (.if_icmp .eq 9, 3) := by decide +kernel
theorem dX2_formIsOf_90 : decode cX2_formIsOf 90 = .ok (.iload_n 1, 1) := by decide +kernel
theorem dX2_formIsOf_91 : decode cX2_formIsOf 91 = .ok (.bipush 11, 2) := by decide +kernel
theorem dX2_formIsOf_93 : decode cX2_formIsOf 93 = .ok (.if_icmp .ne 7, 3) := by decide +kernel
theorem dX2_formIsOf_96 : decode cX2_formIsOf 96 = .ok (.iconst 1, 1) := by decide +kernel
theorem dX2_formIsOf_97 : decode cX2_formIsOf 97 = .ok (.goto 4, 3) := by decide +kernel
theorem dX2_formIsOf_100 : decode cX2_formIsOf 100 = .ok (.iconst 0, 1) := by decide +kernel
theorem dX2_formIsOf_101 : decode cX2_formIsOf 101 = .ok (.ireturn, 1) := by decide +kernel
theorem dX2_formIsOf_102 : decode cX2_formIsOf 102 = .ok (.iload_n 1, 1) := by decide +kernel
theorem dX2_formIsOf_103 : decode cX2_formIsOf 103 = .ok (.bipush 12, 2) := by decide +kernel
theorem dX2_formIsOf_105 : decode cX2_formIsOf 105 = .ok (.if_icmp .ne 7, 3) := by decide +kernel
theorem dX2_formIsOf_108 : decode cX2_formIsOf 108 = .ok (.iconst 1, 1) := by decide +kernel
theorem dX2_formIsOf_109 : decode cX2_formIsOf 109 = .ok (.goto 4, 3) := by decide +kernel
theorem dX2_formIsOf_112 : decode cX2_formIsOf 112 = .ok (.iconst 0, 1) := by decide +kernel
theorem dX2_formIsOf_113 : decode cX2_formIsOf 113 = .ok (.ireturn, 1) := by decide +kernel
theorem dX2_formIsOf_114 : decode cX2_formIsOf 114 = .ok (.iconst 0, 1) := by decide +kernel
theorem dX2_formIsOf_115 : decode cX2_formIsOf 115 = .ok (.ireturn, 1) := by decide +kernel
set_option maxRecDepth 20000 in
theorem ggX3_init_X2_init : GoodIn wsX3_init wsX2_init := goodIn_r _ [21, 22, 2, 3, 16, 23, 24, 25, 26, 27, 28, 29, 30, 53, 54, 55, 56, 57, 58, 59, 60] (by decide +kernel) (by decide +kernel)
set_option maxRecDepth 20000 in
theorem gX3_init_X2_init_n9 : GoodIn wsX3_init (wsX2_init) := ggX3_init_X2_init
set_option maxRecDepth 20000 in
theorem ggX3_init_X0_init : GoodIn wsX3_init wsX0_init := goodIn_r _ [32, 33, 2, 3, 16, 34, 35, 36, 37, 68, 69, 70, 71, 72] (by decide +kernel) (by decide +kernel)
set_option maxRecDepth 20000 in
theorem gX3_init_X0_init_n18 : GoodIn wsX3_init (wsX0_init) := ggX3_init_X0_init
set_option maxRecDepth 20000 in
theorem ggX3_init_X1_init : GoodIn wsX3_init wsX1_init := goodIn_r _ [39, 40, 2, 3, 16, 41, 42, 43, 44, 45, 46, 73, 74, 75, 76, 77, 78, 79] (by decide +kernel) (by decide +kernel)
set_option maxRecDepth 20000 in
theorem gX3_init_X1_init_n25 : GoodIn wsX3_init (wsX1_init) := ggX3_init_X1_init
set_option maxRecDepth 20000 in
theorem ggX3_init_X3_forgetTraces : GoodIn wsX3_init wsX3_forgetTraces := goodIn_ca (goodIn_r _ [51, 17, 19, 52, 61, 62, 63, 64, 65, 66, 67] (by decide +kernel) (by decide +kernel)) (goodIn_sub (fun _ h => List.mem_cons_of_mem _ (List.mem_append_right _ h)) (by decide +kernel))
set_option maxRecDepth 20000 in
theorem gX3_init_X3_forgetTraces : GoodIn wsX3_init (wsV RX3 40 RX3 yX3_forgetTraces wsX3_forgetTraces) := goodIn_app (goodIn_of _ (by decide +kernel)) ggX3_init_X3_forgetTraces
theorem dX3_init_0 : decode cX3_init 0 = .ok (.aload_n 0, 1) := by decide +kernel
theorem dX3_init_1 : decode cX3_init 1 = .ok (.invokespecial 1, 3) := by decide +kernel
theorem dX3_init_4 : decode cX3_init 4 = .ok (.aload_n 0, 1) := by decide +kernel
theorem dX3_init_5 : decode cX3_init 5 = .ok (.new 7, 3) := by decide +kernel
theorem dX3_init_8 : decode cX3_init 8 = .ok (.dup, 1) := by decide +kernel
theorem dX3_init_9 : decode cX3_init 9 = .ok (.invokespecial 9, 3) := by decide +kernel
theorem dX3_init_12 : decode cX3_init 12 = .ok (.putfield 10, 3) := by decide +kernel
theorem dX3_init_15 : decode cX3_init 15 = .ok (.aload_n 0, 1) := by decide +kernel
theorem dX3_init_16 : decode cX3_init 16 = .ok (.new 16, 3) := by decide +kernel
theorem dX3_init_19 : decode cX3_init 19 = .ok (.dup, 1) := by decide +kernel
theorem dX3_init_20 : decode cX3_init 20 = .ok (.invokespecial 18, 3) := by decide +kernel
theorem dX3_init_23 : decode cX3_init 23 = .ok (.putfield 19, 3) := by decide +kernel
theorem dX3_init_26 : decode cX3_init 26 = .ok (.aload_n 0, 1) := by decide +kernel
theorem dX3_init_27 : decode cX3_init 27 = .ok (.new 23, 3) := by decide +kernel
theorem dX3_init_30 : decode cX3_init 30 = .ok (.dup, 1) := by decide +kernel
theorem dX3_init_31 : decode cX3_init 31 = .ok (.invokespecial 25, 3) := by decide +kernel
theorem dX3_init_34 : decode cX3_init 34 = .ok (.putfield 26, 3) := by decide +kernel
theorem dX3_init_37 : decode cX3_init 37 = .ok (.aload_n 0, 1) := by decide +kernel
theorem dX3_init_38 : decode cX3_init 38 = .ok (.iconst 4, 1) := by decide +kernel
theorem dX3_init_39 : decode cX3_init 39 = .ok (.newarray .int, 2) := by decide +kernel
theorem dX3_init_41 : decode cX3_init 41 = .ok (.putfield 30, 3) := by decide +kernel
theorem dX3_init_44 : decode cX3_init 44 = .ok (.aload_n 0, 1) := by decide +kernel
theorem dX3_init_45 : decode cX3_init 45 = .ok (.iconst 4, 1) := by decide +kernel
theorem dX3_init_46 : decode cX3_init 46 = .ok (.newarray .int, 2) := by decide +kernel
theorem dX3_init_48 : decode cX3_init 48 = .ok (.putfield 34, 3) := by decide +kernel
theorem dX3_init_51 : decode cX3_init 51 = .ok (.aload_n 0, 1) := by decide +kernel
theorem dX3_init_52 : decode cX3_init 52 = .ok (.bipush 6, 2) := by decide +kernel
theorem dX3_init_54 : decode cX3_init 54 = .ok (.newarray .int, 2) := by decide +kernel
theorem dX3_init_56 : decode cX3_init 56 = .ok (.putfield 37, 3) := by decide +kernel
theorem dX3_init_59 : decode cX3_init 59 = .ok (.aload_n 0, 1) := by decide +kernel
theorem dX3_init_60 : decode cX3_init 60 = .ok (.invokevirtual 40, 3) := by decide +kernel
theorem dX3_init_63 : decode cX3_init 63 = .ok (.return_, 1) := by decide +kernel
set_option maxRecDepth 20000 in
theorem ggX3_thing_X3_within : GoodIn wsX3_thing wsX3_within := goodIn_r _ [5] (by decide +kernel) (by decide +kernel)
set_option maxRecDepth 20000 in
theorem gX3_thing_X3_within : GoodIn wsX3_thing (va_wsS RX3 43 yX3_within wsX3_within) := goodIn_app (goodIn_of _ (by decide +kernel)) ggX3_thing_X3_within
set_option maxRecDepth 20000 in
theorem ggX3_thing_X2_make : GoodIn wsX3_thing wsX2_make := goodIn_ca (goodIn_r _ [10, 11, 12, 13, 14, 15, 16, 17, 18, 19, 20, 21, 9, 22, 30, 31, 32, 33, 34, 35, 36, 37] (by decide +kernel) (by decide +kernel)) (goodIn_sub (fun _ h => List.mem_cons_of_mem _ (List.mem_append_right _ h)) (by decide +kernel))
set_option maxRecDepth 20000 in
theorem gX3_thing_X2_make : GoodIn wsX3_thing (wsV RX3 47 RX2 yX2_make wsX2_make) := goodIn_app (goodIn_of _ (by decide +kernel)) ggX3_thing_X2_make
theorem dX3_thing_0 : decode cX3_thing 0 = .ok (.iload_n 1, 1) := by decide +kernel
theorem dX3_thing_1 : decode cX3_thing 1 = .ok (.iconst 0, 1) := by decide +kernel
theorem dX3_thing_2 : decode cX3_thing 2 = .ok (.iconst 3, 1) := by decide +kernel
theorem dX3_thing_3 : decode cX3_thing 3 = .ok (.invokestatic 43, 3) := by decide +kernel
theorem dX3_thing_6 : decode cX3_thing 6 = .ok (.ifCond .eq 16, 3) := by decide +kernel
theorem dX3_thing_9 : decode cX3_thing 9 = .ok (.iload_n 2, 1) := by decide +kernel
theorem dX3_thing_10 : decode cX3_thing 10 = .ok (.sipush (-999), 3) := by decide +kernel
theorem dX3_thing_13 : decode cX3_thing 13 = .ok (.sipush 999, 3) := by decide +kernel
theorem dX3_thing_16 : decode cX3_thing 16 = .ok (.invokestatic 43, 3) := by decide +kernel
theorem dX3_thing_19 : decode cX3_thing 19 = .ok (.ifCond .ne 6, 3) := by decide +kernel
theorem dX3_thing_22 : decode cX3_thing 22 = .ok (.bipush (-2), 2) := by decide +kernel
theorem dX3_thing_24 : decode cX3_thing 24 = .ok (.ireturn, 1) := by decide +kernel
theorem dX3_thing_25 : decode cX3_thing 25 = .ok (.aload_n 0, 1) := by decide +kernel
theorem dX3_thing_26 : decode cX3_thing 26 = .ok (.getfield 10, 3) := by decide +kernel
theorem dX3_thing_29 : decode cX3_thing 29 = .ok (.iload_n 1, 1) := by decide +kernel
theorem dX3_thing_30 : decode cX3_thing 30 = .ok (.iload_n 2, 1) := by decide +kernel
theorem dX3_thing_31 : decode cX3_thing 31 = .ok (.iconst 0, 1) := by decide +kernel
theorem dX3_thing_32 : decode cX3_thing 32 = .ok (.invokevirtual 47, 3) := by decide +kernel
theorem dX3_thing_35 : decode cX3_thing 35 = .ok (.ireturn, 1) := by decide +kernel
set_option maxRecDepth 20000 in
theorem ggX3_row_X3_within : GoodIn wsX3_row wsX3_within := goodIn_r _ [5] (by decide +kernel) (by decide +kernel)
set_option maxRecDepth 20000 in
theorem gX3_row_X3_within : GoodIn wsX3_row (va_wsS RX3 43 yX3_within wsX3_within) := goodIn_app (goodIn_of _ (by decide +kernel)) ggX3_row_X3_within
set_option maxRecDepth 20000 in
theorem ggX3_row_X2_areFull : GoodIn wsX3_row wsX2_areFull := goodIn_r _ [10, 11, 36, 37, 38, 39, 40, 41, 42, 43] (by decide +kernel) (by decide +kernel)
set_option maxRecDepth 20000 in
theorem gX3_row_X2_areFull : GoodIn wsX3_row (wsV RX3 51 RX2 yX2_areFull wsX2_areFull) := goodIn_app (goodIn_of _ (by decide +kernel)) ggX3_row_X2_areFull
set_option maxRecDepth 20000 in
theorem ggX3_row_X3_counted : GoodIn wsX3_row wsX3_counted := goodIn_ca (goodIn_r _ [15, 16, 2, 3, 4, 5, 29, 30, 31, 32, 33, 34, 35] (by decide +kernel) (by decide +kernel)) (goodIn_sub (fun _ h => List.mem_cons_of_mem _ (List.mem_append_right _ h)) (by decide +kernel))
set_option maxRecDepth 20000 in
theorem gX3_row_X3_counted : GoodIn wsX3_row (wsV RX3 55 RX3 yX3_counted wsX3_counted) := goodIn_app (goodIn_of _ (by decide +kernel)) ggX3_row_X3_counted
set_option maxRecDepth 20000 in
theorem ggX3_row_X2_make : GoodIn wsX3_row wsX2_make := goodIn_ca (goodIn_r _ [20, 11, 21, 22, 23, 24, 25, 26, 27, 28, 7, 8, 9, 10, 36, 37, 38, 39, 40, 41, 42, 43] (by decide +kernel) (by decide +kernel)) (goodIn_sub (fun _ h => List.mem_cons_of_mem _ (List.mem_append_right _ h)) (by decide +kernel))
set_option maxRecDepth 20000 in
theorem gX3_row_X2_make : GoodIn wsX3_row (wsV RX3 47 RX2 yX2_make wsX2_make) := goodIn_app (goodIn_of _ (by decide +kernel)) ggX3_row_X2_make
theorem dX3_row_0 : decode cX3_row 0 = .ok (.iload_n 1, 1) := by decide +kernel
theorem dX3_row_1 : decode cX3_row 1 = .ok (.iconst 4, 1) := by decide +kernel
theorem dX3_row_2 : decode cX3_row 2 = .ok (.bipush 13, 2) := by decide +kernel
theorem dX3_row_4 : decode cX3_row 4 = .ok (.invokestatic 43, 3) := by decide +kernel
theorem dX3_row_7 : decode cX3_row 7 = .ok (.ifCond .eq 9, 3) := by decide +kernel
theorem dX3_row_10 : decode cX3_row 10 = .ok (.iload_n 2, 1) := by decide +kernel
theorem dX3_row_11 : decode cX3_row 11 = .ok (.bipush 6, 2) := by decide +kernel
theorem dX3_row_13 : decode cX3_row 13 = .ok (.if_icmp .le 6, 3) := by decide +kernel
theorem dX3_row_16 : decode cX3_row 16 = .ok (.bipush (-2), 2) := by decide +kernel
theorem dX3_row_18 : decode cX3_row 18 = .ok (.ireturn, 1) := by decide +kernel
theorem dX3_row_19 : decode cX3_row 19 = .ok (.aload_n 0, 1) := by decide +kernel
theorem dX3_row_20 : decode cX3_row 20 = .ok (.getfield 10, 3) := by decide +kernel
theorem dX3_row_23 : decode cX3_row 23 = .ok (.invokevirtual 51, 3) := by decide +kernel
theorem dX3_row_26 : decode cX3_row 26 = .ok (.ifCond .eq 6, 3) := by decide +kernel
theorem dX3_row_29 : decode cX3_row 29 = .ok (.bipush (-4), 2) := by decide +kernel
theorem dX3_row_31 : decode cX3_row 31 = .ok (.ireturn, 1) := by decide +kernel
theorem dX3_row_32 : decode cX3_row 32 = .ok (.iload_n 2, 1) := by decide +kernel
theorem dX3_row_33 : decode cX3_row 33 = .ok (.ifCond .ge 12, 3) := by decide +kernel
theorem dX3_row_36 : decode cX3_row 36 = .ok (.aload_n 0, 1) := by decide +kernel
theorem dX3_row_37 : decode cX3_row 37 = .ok (.bipush (-25), 2) := by decide +kernel
theorem dX3_row_39 : decode cX3_row 39 = .ok (.invokevirtual 55, 3) := by decide +kernel
theorem dX3_row_42 : decode cX3_row 42 = .ok (.goto 13, 3) := by decide +kernel
theorem dX3_row_45 : decode cX3_row 45 = .ok (.aload_n 0, 1) := by decide +kernel
theorem dX3_row_46 : decode cX3_row 46 = .ok (.getfield 10, 3) := by decide +kernel
theorem dX3_row_49 : decode cX3_row 49 = .ok (.iload_n 1, 1) := by decide +kernel
theorem dX3_row_50 : decode cX3_row 50 = .ok (.iconst 0, 1) := by decide +kernel
theorem dX3_row_51 : decode cX3_row 51 = .ok (.iload_n 2, 1) := by decide +kernel
theorem dX3_row_52 : decode cX3_row 52 = .ok (.invokevirtual 47, 3) := by decide +kernel
theorem dX3_row_55 : decode cX3_row 55 = .ok (.ireturn, 1) := by decide +kernel
set_option maxRecDepth 20000 in
theorem ggX3_lay_X2_know : GoodIn wsX3_lay wsX2_know := goodIn_r _ [6, 7, 65, 66, 67, 68, 69, 70, 71, 72] (by decide +kernel) (by decide +kernel)
set_option maxRecDepth 20000 in
theorem gX3_lay_X2_know : GoodIn wsX3_lay (wsV RX3 59 RX2 yX2_know wsX2_know) := goodIn_app (goodIn_of _ (by decide +kernel)) ggX3_lay_X2_know
set_option maxRecDepth 20000 in
theorem ggX3_lay_X2_knowOrNone : GoodIn wsX3_lay wsX2_knowOrNone := goodIn_r _ [11, 12, 3, 4, 5, 6, 7, 65, 66, 67, 68, 69, 70, 71, 72] (by decide +kernel) (by decide +kernel)
set_option maxRecDepth 20000 in
theorem gX3_lay_X2_knowOrNone : GoodIn wsX3_lay (wsV RX3 63 RX2 yX2_knowOrNone wsX2_knowOrNone) := goodIn_app (goodIn_of _ (by decide +kernel)) ggX3_lay_X2_knowOrNone
set_option maxRecDepth 20000 in
theorem ggX3_lay_X3_isHolderKind : GoodIn wsX3_lay wsX3_isHolderKind := goodIn_r _ [16, 17, 18, 15, 19] (by decide +kernel) (by decide +kernel)
set_option maxRecDepth 20000 in
theorem gX3_lay_X3_isHolderKind : GoodIn wsX3_lay (va_wsS RX3 66 yX3_isHolderKind wsX3_isHolderKind) := goodIn_app (goodIn_of _ (by decide +kernel)) ggX3_lay_X3_isHolderKind
set_option maxRecDepth 20000 in
theorem ggX3_lay_X2_layIn : GoodIn wsX3_lay wsX2_layIn := goodIn_ca (goodIn_r _ [23, 24, 25, 26, 27, 28, 5, 29, 30, 31, 32, 33, 12, 3, 4, 6, 7, 34, 35, 36, 37, 38, 39, 14, 15, 16, 17, 18, 19, 40, 41, 42, 43, 44, 45, 46, 47, 48, 49, 50, 51, 52, 65, 66, 67, 68, 69, 70, 71, 72] (by decide +kernel) (by decide +kernel)) (goodIn_sub (fun _ h => List.mem_cons_of_mem _ (List.mem_append_right _ h)) (by decide +kernel))
set_option maxRecDepth 20000 in
theorem gX3_lay_X2_layIn : GoodIn wsX3_lay (wsV RX3 69 RX2 yX2_layIn wsX2_layIn) := goodIn_app (goodIn_of _ (by decide +kernel)) ggX3_lay_X2_layIn
set_option maxRecDepth 20000 in
theorem ggX3_lay_X3_counted : GoodIn wsX3_lay wsX3_counted := goodIn_ca (goodIn_r _ [56, 57, 17, 18, 15, 19, 58, 59, 60, 61, 62, 63, 64] (by decide +kernel) (by decide +kernel)) (goodIn_sub (fun _ h => List.mem_cons_of_mem _ (List.mem_append_right _ h)) (by decide +kernel))
set_option maxRecDepth 20000 in
theorem gX3_lay_X3_counted : GoodIn wsX3_lay (wsV RX3 55 RX3 yX3_counted wsX3_counted) := goodIn_app (goodIn_of _ (by decide +kernel)) ggX3_lay_X3_counted
theorem dX3_lay_0 : decode cX3_lay 0 = .ok (.aload_n 0, 1) := by decide +kernel
theorem dX3_lay_1 : decode cX3_lay 1 = .ok (.getfield 10, 3) := by decide +kernel
theorem dX3_lay_4 : decode cX3_lay 4 = .ok (.iload_n 1, 1) := by decide +kernel
theorem dX3_lay_5 : decode cX3_lay 5 = .ok (.invokevirtual 59, 3) := by decide +kernel
theorem dX3_lay_8 : decode cX3_lay 8 = .ok (.ifCond .eq 15, 3) := by decide +kernel
theorem dX3_lay_11 : decode cX3_lay 11 = .ok (.aload_n 0, 1) := by decide +kernel
theorem dX3_lay_12 : decode cX3_lay 12 = .ok (.getfield 10, 3) := by decide +kernel
theorem dX3_lay_15 : decode cX3_lay 15 = .ok (.iload 4, 2) := by decide +kernel
theorem dX3_lay_17 : decode cX3_lay 17 = .ok (.invokevirtual 63, 3) := by decide +kernel
theorem dX3_lay_20 : decode cX3_lay 20 = .ok (.ifCond .ne 5, 3) := by decide +kernel
theorem dX3_lay_23 : decode cX3_lay 23 = .ok (.iconst (-1), 1) := by decide +kernel
theorem dX3_lay_24 : decode cX3_lay 24 = .ok (.ireturn, 1) := by decide +kernel
theorem dX3_lay_25 : decode cX3_lay 25 = .ok (.iload_n 2, 1) := by decide +kernel
theorem dX3_lay_26 : decode cX3_lay 26 = .ok (.invokestatic 66, 3) := by decide +kernel
theorem dX3_lay_29 : decode cX3_lay 29 = .ok (.ifCond .eq 22, 3) := by decide +kernel
theorem dX3_lay_32 : decode cX3_lay 32 = .ok (.aload_n 0, 1) := by decide +kernel
theorem dX3_lay_33 : decode cX3_lay 33 = .ok (.aload_n 0, 1) := by decide +kernel
theorem dX3_lay_34 : decode cX3_lay 34 = .ok (.getfield 10, 3) := by decide +kernel
theorem dX3_lay_37 : decode cX3_lay 37 = .ok (.iload_n 1, 1) := by decide +kernel
theorem dX3_lay_38 : decode cX3_lay 38 = .ok (.iload_n 2, 1) := by decide +kernel
theorem dX3_lay_39 : decode cX3_lay 39 = .ok (.iload_n 3, 1) := by decide +kernel
theorem dX3_lay_40 : decode cX3_lay 40 = .ok (.iload 4, 2) := by decide +kernel
theorem dX3_lay_42 : decode cX3_lay 42 = .ok (.invokevirtual 69, 3) := by decide +kernel
theorem dX3_lay_45 : decode cX3_lay 45 = .ok (.invokevirtual 55, 3) := by decide +kernel
theorem dX3_lay_48 : decode cX3_lay 48 = .ok (.goto 5, 3) := by decide +kernel
theorem dX3_lay_51 : decode cX3_lay 51 = .ok (.bipush (-2), 2) := by decide +kernel
theorem dX3_lay_53 : decode cX3_lay 53 = .ok (.ireturn, 1) := by decide +kernel
set_option maxRecDepth 20000 in
theorem ggX3_half_X2_know : GoodIn wsX3_half wsX2_know := goodIn_r _ [6, 7, 50, 51, 52, 53, 54, 55, 56, 57] (by decide +kernel) (by decide +kernel)
set_option maxRecDepth 20000 in
theorem gX3_half_X2_know : GoodIn wsX3_half (wsV RX3 59 RX2 yX2_know wsX2_know) := goodIn_app (goodIn_of _ (by decide +kernel)) ggX3_half_X2_know
set_option maxRecDepth 20000 in
theorem ggX3_half_X2_knowOrNone : GoodIn wsX3_half wsX2_knowOrNone := goodIn_r _ [11, 12, 3, 4, 5, 6, 7, 50, 51, 52, 53, 54, 55, 56, 57] (by decide +kernel) (by decide +kernel)
set_option maxRecDepth 20000 in
theorem gX3_half_X2_knowOrNone : GoodIn wsX3_half (wsV RX3 63 RX2 yX2_knowOrNone wsX2_knowOrNone) := goodIn_app (goodIn_of _ (by decide +kernel)) ggX3_half_X2_knowOrNone
set_option maxRecDepth 20000 in
theorem ggX3_half_X3_isSide : GoodIn wsX3_half wsX3_isSide := goodIn_r _ [16, 17, 18, 15, 19] (by decide +kernel) (by decide +kernel)
set_option maxRecDepth 20000 in
theorem gX3_half_X3_isSide : GoodIn wsX3_half (va_wsS RX3 73 yX3_isSide wsX3_isSide) := goodIn_app (goodIn_of _ (by decide +kernel)) ggX3_half_X3_isSide
set_option maxRecDepth 20000 in
theorem ggX3_half_X2_setHalf : GoodIn wsX3_half wsX2_setHalf := goodIn_ca (goodIn_r _ [23, 24, 25, 26, 27, 28, 5, 29, 30, 31, 32, 33, 34, 12, 3, 4, 6, 7, 35, 36, 37, 50, 51, 52, 53, 54, 55, 56, 57] (by decide +kernel) (by decide +kernel)) (goodIn_sub (fun _ h => List.mem_cons_of_mem _ (List.mem_append_right _ h)) (by decide +kernel))
set_option maxRecDepth 20000 in
theorem gX3_half_X2_setHalf : GoodIn wsX3_half (wsV RX3 76 RX2 yX2_setHalf wsX2_setHalf) := goodIn_app (goodIn_of _ (by decide +kernel)) ggX3_half_X2_setHalf
set_option maxRecDepth 20000 in
theorem ggX3_half_X3_counted : GoodIn wsX3_half wsX3_counted := goodIn_ca (goodIn_r _ [41, 42, 17, 18, 15, 19, 43, 44, 45, 46, 47, 48, 49] (by decide +kernel) (by decide +kernel)) (goodIn_sub (fun _ h => List.mem_cons_of_mem _ (List.mem_append_right _ h)) (by decide +kernel))
set_option maxRecDepth 20000 in
theorem gX3_half_X3_counted : GoodIn wsX3_half (wsV RX3 55 RX3 yX3_counted wsX3_counted) := goodIn_app (goodIn_of _ (by decide +kernel)) ggX3_half_X3_counted
theorem dX3_half_0 : decode cX3_half 0 = .ok (.aload_n 0, 1) := by decide +kernel
theorem dX3_half_1 : decode cX3_half 1 = .ok (.getfield 10, 3) := by decide +kernel
theorem dX3_half_4 : decode cX3_half 4 = .ok (.iload_n 1, 1) := by decide +kernel
theorem dX3_half_5 : decode cX3_half 5 = .ok (.invokevirtual 59, 3) := by decide +kernel
theorem dX3_half_8 : decode cX3_half 8 = .ok (.ifCond .eq 14, 3) := by decide +kernel
theorem dX3_half_11 : decode cX3_half 11 = .ok (.aload_n 0, 1) := by decide +kernel
theorem dX3_half_12 : decode cX3_half 12 = .ok (.getfield 10, 3) := by decide +kernel
theorem dX3_half_15 : decode cX3_half 15 = .ok (.iload_n 3, 1) := by decide +kernel
theorem dX3_half_16 : decode cX3_half 16 = .ok (.invokevirtual 63, 3) := by decide +kernel
theorem dX3_half_19 : decode cX3_half 19 = .ok (.ifCond .ne 5, 3) := by decide +kernel
theorem dX3_half_22 : decode cX3_half 22 = .ok (.iconst (-1), 1) := by decide +kernel
theorem dX3_half_23 : decode cX3_half 23 = .ok (.ireturn, 1) := by decide +kernel
theorem dX3_half_24 : decode cX3_half 24 = .ok (.iload_n 2, 1) := by decide +kernel
theorem dX3_half_25 : decode cX3_half 25 = .ok (.invokestatic 73, 3) := by decide +kernel
theorem dX3_half_28 : decode cX3_half 28 = .ok (.ifCond .eq 20, 3) := by decide +kernel
theorem dX3_half_31 : decode cX3_half 31 = .ok (.aload_n 0, 1) := by decide +kernel
theorem dX3_half_32 : decode cX3_half 32 = .ok (.aload_n 0, 1) := by decide +kernel
theorem dX3_half_33 : decode cX3_half 33 = .ok (.getfield 10, 3) := by decide +kernel
theorem dX3_half_36 : decode cX3_half 36 = .ok (.iload_n 1, 1) := by decide +kernel
theorem dX3_half_37 : decode cX3_half 37 = .ok (.iload_n 2, 1) := by decide +kernel
theorem dX3_half_38 : decode cX3_half 38 = .ok (.iload_n 3, 1) := by decide +kernel
theorem dX3_half_39 : decode cX3_half 39 = .ok (.invokevirtual 76, 3) := by decide +kernel
theorem dX3_half_42 : decode cX3_half 42 = .ok (.invokevirtual 55, 3) := by decide +kernel
theorem dX3_half_45 : decode cX3_half 45 = .ok (.goto 5, 3) := by decide +kernel
theorem dX3_half_48 : decode cX3_half 48 = .ok (.bipush (-2), 2) := by decide +kernel
theorem dX3_half_50 : decode cX3_half 50 = .ok (.ireturn, 1) := by decide +kernel
set_option maxRecDepth 20000 in
theorem ggX3_put_X2_know : GoodIn wsX3_put wsX2_know := goodIn_r _ [6, 7, 57, 58, 59, 60, 61, 62, 63, 64] (by decide +kernel) (by decide +kernel)
set_option maxRecDepth 20000 in
theorem gX3_put_X2_know : GoodIn wsX3_put (wsV RX3 59 RX2 yX2_know wsX2_know) := goodIn_app (goodIn_of _ (by decide +kernel)) ggX3_put_X2_know
set_option maxRecDepth 20000 in
theorem ggX3_put_X3_isNumbersKind : GoodIn wsX3_put wsX3_isNumbersKind := goodIn_r _ [11, 12, 13, 10, 14] (by decide +kernel) (by decide +kernel)
set_option maxRecDepth 20000 in
theorem gX3_put_X3_isNumbersKind : GoodIn wsX3_put (va_wsS RX3 79 yX3_isNumbersKind wsX3_isNumbersKind) := goodIn_app (goodIn_of _ (by decide +kernel)) ggX3_put_X3_isNumbersKind
set_option maxRecDepth 20000 in
theorem ggX3_put_X2_putNumber : GoodIn wsX3_put wsX2_putNumber := goodIn_ca (goodIn_r _ [18, 19, 20, 21, 22, 5, 23, 24, 25, 26, 27, 28, 29, 30, 31, 32, 33, 3, 4, 6, 7, 34, 35, 36, 37, 38, 39, 40, 41, 42, 43, 44, 57, 58, 59, 60, 61, 62, 63, 64] (by decide +kernel) (by decide +kernel)) (goodIn_sub (fun _ h => List.mem_cons_of_mem _ (List.mem_append_right _ h)) (by decide +kernel))
set_option maxRecDepth 20000 in
theorem gX3_put_X2_putNumber : GoodIn wsX3_put (wsV RX3 82 RX2 yX2_putNumber wsX2_putNumber) := goodIn_app (goodIn_of _ (by decide +kernel)) ggX3_put_X2_putNumber
set_option maxRecDepth 20000 in
theorem ggX3_put_X3_counted : GoodIn wsX3_put wsX3_counted := goodIn_ca (goodIn_r _ [48, 49, 12, 13, 10, 14, 50, 51, 52, 53, 54, 55, 56] (by decide +kernel) (by decide +kernel)) (goodIn_sub (fun _ h => List.mem_cons_of_mem _ (List.mem_append_right _ h)) (by decide +kernel))
set_option maxRecDepth 20000 in
theorem gX3_put_X3_counted : GoodIn wsX3_put (wsV RX3 55 RX3 yX3_counted wsX3_counted) := goodIn_app (goodIn_of _ (by decide +kernel)) ggX3_put_X3_counted
theorem dX3_put_0 : decode cX3_put 0 = .ok (.aload_n 0, 1) := by decide +kernel
theorem dX3_put_1 : decode cX3_put 1 = .ok (.getfield 10, 3) := by decide +kernel
theorem dX3_put_4 : decode cX3_put 4 = .ok (.iload_n 1, 1) := by decide +kernel
theorem dX3_put_5 : decode cX3_put 5 = .ok (.invokevirtual 59, 3) := by decide +kernel
theorem dX3_put_8 : decode cX3_put 8 = .ok (.ifCond .ne 5, 3) := by decide +kernel
theorem dX3_put_11 : decode cX3_put 11 = .ok (.iconst (-1), 1) := by decide +kernel
theorem dX3_put_12 : decode cX3_put 12 = .ok (.ireturn, 1) := by decide +kernel
theorem dX3_put_13 : decode cX3_put 13 = .ok (.iload_n 2, 1) := by decide +kernel
theorem dX3_put_14 : decode cX3_put 14 = .ok (.invokestatic 79, 3) := by decide +kernel
theorem dX3_put_17 : decode cX3_put 17 = .ok (.ifCond .eq 22, 3) := by decide +kernel
theorem dX3_put_20 : decode cX3_put 20 = .ok (.aload_n 0, 1) := by decide +kernel
theorem dX3_put_21 : decode cX3_put 21 = .ok (.aload_n 0, 1) := by decide +kernel
theorem dX3_put_22 : decode cX3_put 22 = .ok (.getfield 10, 3) := by decide +kernel
theorem dX3_put_25 : decode cX3_put 25 = .ok (.iload_n 1, 1) := by decide +kernel
theorem dX3_put_26 : decode cX3_put 26 = .ok (.iload_n 2, 1) := by decide +kernel
theorem dX3_put_27 : decode cX3_put 27 = .ok (.iload_n 3, 1) := by decide +kernel
theorem dX3_put_28 : decode cX3_put 28 = .ok (.lload 4, 2) := by decide +kernel
theorem dX3_put_30 : decode cX3_put 30 = .ok (.invokevirtual 82, 3) := by decide +kernel
theorem dX3_put_33 : decode cX3_put 33 = .ok (.invokevirtual 55, 3) := by decide +kernel
theorem dX3_put_36 : decode cX3_put 36 = .ok (.goto 5, 3) := by decide +kernel
theorem dX3_put_39 : decode cX3_put 39 = .ok (.bipush (-2), 2) := by decide +kernel
theorem dX3_put_41 : decode cX3_put 41 = .ok (.ireturn, 1) := by decide +kernel
set_option maxRecDepth 20000 in
theorem ggX3_number_X2_know : GoodIn wsX3_number wsX2_know := goodIn_r _ [12, 13, 67, 68, 69, 70, 71, 72, 73, 74] (by decide +kernel) (by decide +kernel)
set_option maxRecDepth 20000 in
theorem gX3_number_X2_know : GoodIn wsX3_number (wsV RX3 59 RX2 yX2_know wsX2_know) := goodIn_app (goodIn_of _ (by decide +kernel)) ggX3_number_X2_know
set_option maxRecDepth 20000 in
theorem ggX3_number_X3_isNumbersKind : GoodIn wsX3_number wsX3_isNumbersKind := goodIn_r _ [17, 18, 19, 16, 20] (by decide +kernel) (by decide +kernel)
set_option maxRecDepth 20000 in
theorem gX3_number_X3_isNumbersKind : GoodIn wsX3_number (va_wsS RX3 79 yX3_isNumbersKind wsX3_isNumbersKind) := goodIn_app (goodIn_of _ (by decide +kernel)) ggX3_number_X3_isNumbersKind
set_option maxRecDepth 20000 in
theorem ggX3_number_X2_reach : GoodIn wsX3_number wsX2_reach := goodIn_ca (goodIn_r _ [24, 25, 26, 27, 11, 28, 29, 30, 31, 32, 33, 34, 9, 10, 12, 13, 35, 36, 37, 38, 39, 40, 41, 42, 67, 68, 69, 70, 71, 72, 73, 74] (by decide +kernel) (by decide +kernel)) (goodIn_sub (fun _ h => List.mem_cons_of_mem _ (List.mem_append_right _ h)) (by decide +kernel))
set_option maxRecDepth 20000 in
theorem gX3_number_X2_reach : GoodIn wsX3_number (wsV RX3 86 RX2 yX2_reach wsX2_reach) := goodIn_app (goodIn_of _ (by decide +kernel)) ggX3_number_X2_reach
set_option maxRecDepth 20000 in
theorem ggX3_number_X2_numberIn : GoodIn wsX3_number wsX2_numberIn := goodIn_ca (goodIn_r _ [46, 47, 38, 39, 40, 11, 41, 42, 34, 9, 10, 12, 13, 67, 68, 69, 70, 71, 72, 73, 74] (by decide +kernel) (by decide +kernel)) (goodIn_sub (fun _ h => List.mem_cons_of_mem _ (List.mem_append_right _ h)) (by decide +kernel))
set_option maxRecDepth 20000 in
theorem gX3_number_X2_numberIn : GoodIn wsX3_number (wsV RX3 95 RX2 yX2_numberIn wsX2_numberIn) := goodIn_app (goodIn_of _ (by decide +kernel)) ggX3_number_X2_numberIn
theorem dX3_number_0 : decode cX3_number 0 = .ok (.aload_n 0, 1) := by decide +kernel
theorem dX3_number_1 : decode cX3_number 1 = .ok (.getfield 10, 3) := by decide +kernel
theorem dX3_number_4 : decode cX3_number 4 = .ok (.iload_n 1, 1) := by decide +kernel
theorem dX3_number_5 : decode cX3_number 5 = .ok (.invokevirtual 59, 3) := by decide +kernel
theorem dX3_number_8 : decode cX3_number 8 = .ok (.ifCond .eq 10, 3) := by decide +kernel
theorem dX3_number_11 : decode cX3_number 11 = .ok (.iload_n 2, 1) := by decide +kernel
theorem dX3_number_12 : decode cX3_number 12 = .ok (.invokestatic 79, 3) := by decide +kernel
theorem dX3_number_15 : decode cX3_number 15 = .ok (.ifCond .ne 5, 3) := by decide +kernel
theorem dX3_number_18 : decode cX3_number 18 = .ok (.lconst 0, 1) := by decide +kernel
theorem dX3_number_19 : decode cX3_number 19 = .ok (.lreturn, 1) := by decide +kernel
theorem dX3_number_20 : decode cX3_number 20 = .ok (.aload_n 0, 1) := by decide +kernel
theorem dX3_number_21 : decode cX3_number 21 = .ok (.getfield 10, 3) := by decide +kernel
theorem dX3_number_24 : decode cX3_number 24 = .ok (.iload_n 1, 1) := by decide +kernel
theorem dX3_number_25 : decode cX3_number 25 = .ok (.iload_n 2, 1) := by decide +kernel
theorem dX3_number_26 : decode cX3_number 26 = .ok (.iload_n 3, 1) := by decide +kernel
theorem dX3_number_27 : decode cX3_number 27 = .ok (.invokevirtual 86, 3) := by decide +kernel
theorem dX3_number_30 : decode cX3_number 30 = .ok (.istore 4, 2) := by decide +kernel
theorem dX3_number_32 : decode cX3_number 32 = .ok (.iload 4, 2) := by decide +kernel
theorem dX3_number_34 : decode cX3_number 34 = .ok (.bipush (-21), 2) := by decide +kernel
theorem dX3_number_36 : decode cX3_number 36 = .ok (.if_icmp .ne 11, 3) := by decide +kernel
theorem dX3_number_39 : decode cX3_number 39 = .ok (.new 89, 3) := by decide +kernel
theorem dX3_number_42 : decode cX3_number 42 = .ok (.dup, 1) := by decide +kernel
theorem dX3_number_43 : decode cX3_number 43 = .ok (.invokespecial 91, 3) := by decide +kernel
theorem dX3_number_46 : decode cX3_number 46 = .ok (.athrow, 1) := by decide +kernel
theorem dX3_number_47 : decode cX3_number 47 = .ok (.iload 4, 2) := by decide +kernel
theorem dX3_number_49 : decode cX3_number 49 = .ok (.bipush (-23), 2) := by decide +kernel
theorem dX3_number_51 : decode cX3_number 51 = .ok (.if_icmp .ne 11, 3) := by decide +kernel
theorem dX3_number_54 : decode cX3_number 54 = .ok (.new 92, 3) := by decide +kernel
theorem dX3_number_57 : decode cX3_number 57 = .ok (.dup, 1) := by decide +kernel
theorem dX3_number_58 : decode cX3_number 58 = .ok (.invokespecial 94, 3) := by decide +kernel
theorem dX3_number_61 : decode cX3_number 61 = .ok (.athrow, 1) := by decide +kernel
theorem dX3_number_62 : decode cX3_number 62 = .ok (.aload_n 0, 1) := by decide +kernel
theorem dX3_number_63 : decode cX3_number 63 = .ok (.getfield 10, 3) := by decide +kernel
theorem dX3_number_66 : decode cX3_number 66 = .ok (.iload_n 1, 1) := by decide +kernel
theorem dX3_number_67 : decode cX3_number 67 = .ok (.iload_n 3, 1) := by decide +kernel
theorem dX3_number_68 : decode cX3_number 68 = .ok (.invokevirtual 95, 3) := by decide +kernel
theorem dX3_number_71 : decode cX3_number 71 = .ok (.lreturn, 1) := by decide +kernel
set_option maxRecDepth 20000 in
theorem ggX3_at_X2_know : GoodIn wsX3_at wsX2_know := goodIn_r _ [6, 7, 68, 69, 70, 71, 72, 73, 74, 75] (by decide +kernel) (by decide +kernel)
set_option maxRecDepth 20000 in
theorem gX3_at_X2_know : GoodIn wsX3_at (wsV RX3 59 RX2 yX2_know wsX2_know) := goodIn_app (goodIn_of _ (by decide +kernel)) ggX3_at_X2_know
set_option maxRecDepth 20000 in
theorem ggX3_at_X3_isSide : GoodIn wsX3_at wsX3_isSide := goodIn_r _ [11, 12, 13, 10, 14] (by decide +kernel) (by decide +kernel)
set_option maxRecDepth 20000 in
theorem gX3_at_X3_isSide : GoodIn wsX3_at (va_wsS RX3 73 yX3_isSide wsX3_isSide) := goodIn_app (goodIn_of _ (by decide +kernel)) ggX3_at_X3_isSide
set_option maxRecDepth 20000 in
theorem ggX3_at_X3_halfOf : GoodIn wsX3_at wsX3_halfOf := goodIn_ca (goodIn_r _ [18, 1, 19, 20, 21, 5, 22, 23, 24, 3, 4, 6, 7, 25, 26, 27, 28, 29, 30, 31, 32, 33, 34, 35, 36, 10, 37, 38, 12, 13, 14, 61, 62, 63, 64, 65, 66, 67, 68, 69, 70, 71, 72, 73, 74, 75] (by decide +kernel) (by decide +kernel)) (goodIn_sub (fun _ h => List.mem_cons_of_mem _ (List.mem_append_right _ h)) (by decide +kernel))
set_option maxRecDepth 20000 in
theorem gX3_at_X3_halfOf : GoodIn wsX3_at (wsV RX3 99 RX3 yX3_halfOf wsX3_halfOf) := goodIn_app (goodIn_of _ (by decide +kernel)) ggX3_at_X3_halfOf
set_option maxRecDepth 20000 in
theorem ggX3_at_X3_isHolderKind : GoodIn wsX3_at wsX3_isHolderKind := goodIn_r _ [41, 12, 13, 10, 14] (by decide +kernel) (by decide +kernel)
set_option maxRecDepth 20000 in
theorem gX3_at_X3_isHolderKind : GoodIn wsX3_at (va_wsS RX3 66 yX3_isHolderKind wsX3_isHolderKind) := goodIn_app (goodIn_of _ (by decide +kernel)) ggX3_at_X3_isHolderKind
set_option maxRecDepth 20000 in
theorem ggX3_at_X2_reach : GoodIn wsX3_at wsX2_reach := goodIn_ca (goodIn_r _ [45, 46, 47, 48, 5, 49, 50, 20, 21, 22, 23, 24, 3, 4, 6, 7, 25, 26, 27, 51, 52, 53, 54, 55, 68, 69, 70, 71, 72, 73, 74, 75] (by decide +kernel) (by decide +kernel)) (goodIn_sub (fun _ h => List.mem_cons_of_mem _ (List.mem_append_right _ h)) (by decide +kernel))
set_option maxRecDepth 20000 in
theorem gX3_at_X2_reach : GoodIn wsX3_at (wsV RX3 86 RX2 yX2_reach wsX2_reach) := goodIn_app (goodIn_of _ (by decide +kernel)) ggX3_at_X2_reach
set_option maxRecDepth 20000 in
theorem ggX3_at_X3_counted : GoodIn wsX3_at wsX3_counted := goodIn_ca (goodIn_r _ [37, 38, 12, 13, 10, 14, 61, 62, 63, 64, 65, 66, 67] (by decide +kernel) (by decide +kernel)) (goodIn_sub (fun _ h => List.mem_cons_of_mem _ (List.mem_append_right _ h)) (by decide +kernel))
set_option maxRecDepth 20000 in
theorem gX3_at_X3_counted : GoodIn wsX3_at (wsV RX3 55 RX3 yX3_counted wsX3_counted) := goodIn_app (goodIn_of _ (by decide +kernel)) ggX3_at_X3_counted
set_option maxRecDepth 20000 in
theorem ggX3_at_X2_heldIn : GoodIn wsX3_at wsX2_heldIn := goodIn_ca (goodIn_r _ [59, 60, 51, 52, 53, 5, 54, 55, 24, 3, 4, 6, 7, 68, 69, 70, 71, 72, 73, 74, 75] (by decide +kernel) (by decide +kernel)) (goodIn_sub (fun _ h => List.mem_cons_of_mem _ (List.mem_append_right _ h)) (by decide +kernel))
set_option maxRecDepth 20000 in
theorem gX3_at_X2_heldIn : GoodIn wsX3_at (wsV RX3 103 RX2 yX2_heldIn wsX2_heldIn) := goodIn_app (goodIn_of _ (by decide +kernel)) ggX3_at_X2_heldIn
theorem dX3_at_0 : decode cX3_at 0 = .ok (.aload_n 0, 1) := by decide +kernel
theorem dX3_at_1 : decode cX3_at 1 = .ok (.getfield 10, 3) := by decide +kernel
theorem dX3_at_4 : decode cX3_at 4 = .ok (.iload_n 1, 1) := by decide +kernel
theorem dX3_at_5 : decode cX3_at 5 = .ok (.invokevirtual 59, 3) := by decide +kernel
theorem dX3_at_8 : decode cX3_at 8 = .ok (.ifCond .ne 5, 3) := by decide +kernel
theorem dX3_at_11 : decode cX3_at 11 = .ok (.iconst (-1), 1) := by decide +kernel
theorem dX3_at_12 : decode cX3_at 12 = .ok (.ireturn, 1) := by decide +kernel
theorem dX3_at_13 : decode cX3_at 13 = .ok (.iload_n 2, 1) := by decide +kernel
theorem dX3_at_14 : decode cX3_at 14 = .ok (.iconst 2, 1) := by decide +kernel
theorem dX3_at_15 : decode cX3_at 15 = .ok (.if_icmp .ne 22, 3) := by decide +kernel
theorem dX3_at_18 : decode cX3_at 18 = .ok (.iload_n 3, 1) := by decide +kernel
theorem dX3_at_19 : decode cX3_at 19 = .ok (.invokestatic 73, 3) := by decide +kernel
theorem dX3_at_22 : decode cX3_at 22 = .ok (.ifCond .eq 12, 3) := by decide +kernel
theorem dX3_at_25 : decode cX3_at 25 = .ok (.aload_n 0, 1) := by decide +kernel
theorem dX3_at_26 : decode cX3_at 26 = .ok (.iload_n 1, 1) := by decide +kernel
theorem dX3_at_27 : decode cX3_at 27 = .ok (.iload_n 3, 1) := by decide +kernel
theorem dX3_at_28 : decode cX3_at 28 = .ok (.invokevirtual 99, 3) := by decide +kernel
theorem dX3_at_31 : decode cX3_at 31 = .ok (.goto 5, 3) := by decide +kernel
theorem dX3_at_34 : decode cX3_at 34 = .ok (.bipush (-2), 2) := by decide +kernel
theorem dX3_at_36 : decode cX3_at 36 = .ok (.ireturn, 1) := by decide +kernel
theorem dX3_at_37 : decode cX3_at 37 = .ok (.iload_n 2, 1) := by decide +kernel
theorem dX3_at_38 : decode cX3_at 38 = .ok (.invokestatic 66, 3) := by decide +kernel
theorem dX3_at_41 : decode cX3_at 41 = .ok (.ifCond .ne 6, 3) := by decide +kernel
theorem dX3_at_44 : decode cX3_at 44 = .ok (.bipush (-2), 2) := by decide +kernel
theorem dX3_at_46 : decode cX3_at 46 = .ok (.ireturn, 1) := by decide +kernel
theorem dX3_at_47 : decode cX3_at 47 = .ok (.aload_n 0, 1) := by decide +kernel
theorem dX3_at_48 : decode cX3_at 48 = .ok (.aload_n 0, 1) := by decide +kernel
theorem dX3_at_49 : decode cX3_at 49 = .ok (.getfield 10, 3) := by decide +kernel
theorem dX3_at_52 : decode cX3_at 52 = .ok (.iload_n 1, 1) := by decide +kernel
theorem dX3_at_53 : decode cX3_at 53 = .ok (.iload_n 2, 1) := by decide +kernel
theorem dX3_at_54 : decode cX3_at 54 = .ok (.iload_n 3, 1) := by decide +kernel
theorem dX3_at_55 : decode cX3_at 55 = .ok (.invokevirtual 86, 3) := by decide +kernel
theorem dX3_at_58 : decode cX3_at 58 = .ok (.invokevirtual 55, 3) := by decide +kernel
theorem dX3_at_61 : decode cX3_at 61 = .ok (.istore 4, 2) := by decide +kernel
theorem dX3_at_63 : decode cX3_at 63 = .ok (.iload 4, 2) := by decide +kernel
theorem dX3_at_65 : decode cX3_at 65 = .ok (.iconst 1, 1) := by decide +kernel
theorem dX3_at_66 : decode cX3_at 66 = .ok (.if_icmp .ne 15, 3) := by decide +kernel
theorem dX3_at_69 : decode cX3_at 69 = .ok (.aload_n 0, 1) := by decide +kernel
theorem dX3_at_70 : decode cX3_at 70 = .ok (.getfield 10, 3) := by decide +kernel
theorem dX3_at_73 : decode cX3_at 73 = .ok (.iload_n 1, 1) := by decide +kernel
theorem dX3_at_74 : decode cX3_at 74 = .ok (.iload_n 3, 1) := by decide +kernel
theorem dX3_at_75 : decode cX3_at 75 = .ok (.invokevirtual 103, 3) := by decide +kernel
theorem dX3_at_78 : decode cX3_at 78 = .ok (.goto 5, 3) := by decide +kernel
theorem dX3_at_81 : decode cX3_at 81 = .ok (.iload 4, 2) := by decide +kernel
theorem dX3_at_83 : decode cX3_at 83 = .ok (.ireturn, 1) := by decide +kernel
set_option maxRecDepth 20000 in
theorem ggX3_is_X2_know : GoodIn wsX3_is wsX2_know := goodIn_r _ [6, 7, 28, 29, 30, 31, 32, 33, 34, 35] (by decide +kernel) (by decide +kernel)
set_option maxRecDepth 20000 in
theorem gX3_is_X2_know : GoodIn wsX3_is (wsV RX3 59 RX2 yX2_know wsX2_know) := goodIn_app (goodIn_of _ (by decide +kernel)) ggX3_is_X2_know
set_option maxRecDepth 20000 in
theorem ggX3_is_X3_within : GoodIn wsX3_is wsX3_within := goodIn_r _ [11] (by decide +kernel) (by decide +kernel)
set_option maxRecDepth 20000 in
theorem gX3_is_X3_within : GoodIn wsX3_is (va_wsS RX3 43 yX3_within wsX3_within) := goodIn_app (goodIn_of _ (by decide +kernel)) ggX3_is_X3_within
set_option maxRecDepth 20000 in
theorem ggX3_is_X2_isOf : GoodIn wsX3_is wsX2_isOf := goodIn_ca (goodIn_r _ [15, 16, 17, 3, 4, 5, 6, 7, 18, 19, 20, 28, 29, 30, 31, 32, 33, 34, 35] (by decide +kernel) (by decide +kernel)) (goodIn_sub (fun _ h => List.mem_cons_of_mem _ (List.mem_append_right _ h)) (by decide +kernel))
set_option maxRecDepth 20000 in
theorem gX3_is_X2_isOf : GoodIn wsX3_is (wsV RX3 106 RX2 yX2_isOf wsX2_isOf) := goodIn_app (goodIn_of _ (by decide +kernel)) ggX3_is_X2_isOf
theorem dX3_is_0 : decode cX3_is 0 = .ok (.aload_n 0, 1) := by decide +kernel
theorem dX3_is_1 : decode cX3_is 1 = .ok (.getfield 10, 3) := by decide +kernel
theorem dX3_is_4 : decode cX3_is 4 = .ok (.iload_n 1, 1) := by decide +kernel
theorem dX3_is_5 : decode cX3_is 5 = .ok (.invokevirtual 59, 3) := by decide +kernel
theorem dX3_is_8 : decode cX3_is 8 = .ok (.ifCond .ne 5, 3) := by decide +kernel
theorem dX3_is_11 : decode cX3_is 11 = .ok (.iconst (-1), 1) := by decide +kernel
theorem dX3_is_12 : decode cX3_is 12 = .ok (.ireturn, 1) := by decide +kernel
theorem dX3_is_13 : decode cX3_is 13 = .ok (.iload_n 2, 1) := by decide +kernel
theorem dX3_is_14 : decode cX3_is 14 = .ok (.iconst 0, 1) := by decide +kernel
theorem dX3_is_15 : decode cX3_is 15 = .ok (.bipush 15, 2) := by decide +kernel
theorem dX3_is_17 : decode cX3_is 17 = .ok (.invokestatic 43, 3) := by decide +kernel
theorem dX3_is_20 : decode cX3_is 20 = .ok (.ifCond .ne 6, 3) := by decide +kernel
theorem dX3_is_23 : decode cX3_is 23 = .ok (.bipush (-2), 2) := by decide +kernel
theorem dX3_is_25 : decode cX3_is 25 = .ok (.ireturn, 1) := by decide +kernel
theorem dX3_is_26 : decode cX3_is 26 = .ok (.aload_n 0, 1) := by decide +kernel
theorem dX3_is_27 : decode cX3_is 27 = .ok (.getfield 10, 3) := by decide +kernel
theorem dX3_is_30 : decode cX3_is 30 = .ok (.iload_n 1, 1) := by decide +kernel
theorem dX3_is_31 : decode cX3_is 31 = .ok (.iload_n 2, 1) := by decide +kernel
theorem dX3_is_32 : decode cX3_is 32 = .ok (.invokevirtual 106, 3) := by decide +kernel
theorem dX3_is_35 : decode cX3_is 35 = .ok (.ifCond .eq 7, 3) := by decide +kernel
theorem dX3_is_38 : decode cX3_is 38 = .ok (.iconst 1, 1) := by decide +kernel
theorem dX3_is_39 : decode cX3_is 39 = .ok (.goto 4, 3) := by decide +kernel
theorem dX3_is_42 : decode cX3_is 42 = .ok (.iconst 0, 1) := by decide +kernel
theorem dX3_is_43 : decode cX3_is 43 = .ok (.ireturn, 1) := by decide +kernel
set_option maxRecDepth 20000 in
theorem ggX3_pattern_X3_isAsTold : GoodIn wsX3_pattern wsX3_isAsTold := goodIn_r _ [5, 6, 7, 4, 8, 9, 10, 11, 12, 13, 14, 15, 16, 17] (by decide +kernel) (by decide +kernel)
set_option maxRecDepth 20000 in
theorem gX3_pattern_X3_isAsTold : GoodIn wsX3_pattern (va_wsS RX3 110 yX3_isAsTold wsX3_isAsTold) := goodIn_app (goodIn_of _ (by decide +kernel)) ggX3_pattern_X3_isAsTold
set_option maxRecDepth 20000 in
theorem ggX3_pattern_X3_namesKnownPatterns : GoodIn wsX3_pattern wsX3_namesKnownPatterns := goodIn_r _ [21, 1, 22, 23, 24, 25, 26, 27, 36, 37, 38, 39, 40, 41, 42, 43, 44, 45, 46, 47] (by decide +kernel) (by decide +kernel)
set_option maxRecDepth 20000 in
theorem gX3_pattern_X3_namesKnownPatterns : GoodIn wsX3_pattern (wsV RX3 113 RX3 yX3_namesKnownPatterns wsX3_namesKnownPatterns) := goodIn_app (goodIn_of _ (by decide +kernel)) ggX3_pattern_X3_namesKnownPatterns
set_option maxRecDepth 20000 in
theorem ggX3_pattern_X0_make : GoodIn wsX3_pattern wsX0_make := goodIn_ca (goodIn_r _ [31, 27, 32, 33, 34, 35, 43, 44, 45, 46, 47] (by decide +kernel) (by decide +kernel)) (goodIn_sub (fun _ h => List.mem_cons_of_mem _ (List.mem_append_right _ h)) (by decide +kernel))
set_option maxRecDepth 20000 in
theorem gX3_pattern_X0_make : GoodIn wsX3_pattern (wsV RX3 117 RX0 yX0_make wsX0_make) := goodIn_app (goodIn_of _ (by decide +kernel)) ggX3_pattern_X0_make
theorem dX3_pattern_0 : decode cX3_pattern 0 = .ok (.iload_n 1, 1) := by decide +kernel
theorem dX3_pattern_1 : decode cX3_pattern 1 = .ok (.iload_n 2, 1) := by decide +kernel
theorem dX3_pattern_2 : decode cX3_pattern 2 = .ok (.invokestatic 110, 3) := by decide +kernel
theorem dX3_pattern_5 : decode cX3_pattern 5 = .ok (.ifCond .ne 6, 3) := by decide +kernel
theorem dX3_pattern_8 : decode cX3_pattern 8 = .ok (.bipush (-2), 2) := by decide +kernel
theorem dX3_pattern_10 : decode cX3_pattern 10 = .ok (.ireturn, 1) := by decide +kernel
theorem dX3_pattern_11 : decode cX3_pattern 11 = .ok (.aload_n 0, 1) := by decide +kernel
theorem dX3_pattern_12 : decode cX3_pattern 12 = .ok (.iload_n 1, 1) := by decide +kernel
theorem dX3_pattern_13 : decode cX3_pattern 13 = .ok (.iload_n 2, 1) := by decide +kernel
theorem dX3_pattern_14 : decode cX3_pattern 14 = .ok (.iload_n 3, 1) := by decide +kernel
theorem dX3_pattern_15 : decode cX3_pattern 15 = .ok (.iload 4, 2) := by decide +kernel
theorem dX3_pattern_17 : decode cX3_pattern 17 = .ok (.invokevirtual 113, 3) := by decide +kernel
theorem dX3_pattern_20 : decode cX3_pattern 20 = .ok (.ifCond .eq 18, 3) := by decide +kernel
theorem dX3_pattern_23 : decode cX3_pattern 23 = .ok (.aload_n 0, 1) := by decide +kernel
theorem dX3_pattern_24 : decode cX3_pattern 24 = .ok (.getfield 19, 3) := by decide +kernel
theorem dX3_pattern_27 : decode cX3_pattern 27 = .ok (.iload_n 1, 1) := by decide +kernel
theorem dX3_pattern_28 : decode cX3_pattern 28 = .ok (.iload_n 2, 1) := by decide +kernel
theorem dX3_pattern_29 : decode cX3_pattern 29 = .ok (.iload_n 3, 1) := by decide +kernel
theorem dX3_pattern_30 : decode cX3_pattern 30 = .ok (.iload 4, 2) := by decide +kernel
theorem dX3_pattern_32 : decode cX3_pattern 32 = .ok (.invokevirtual 117, 3) := by decide +kernel
theorem dX3_pattern_35 : decode cX3_pattern 35 = .ok (.goto 4, 3) := by decide +kernel
theorem dX3_pattern_38 : decode cX3_pattern 38 = .ok (.iconst (-1), 1) := by decide +kernel
theorem dX3_pattern_39 : decode cX3_pattern 39 = .ok (.ireturn, 1) := by decide +kernel
set_option maxRecDepth 20000 in
theorem ggX3_match_X0_know : GoodIn wsX3_match wsX0_know := goodIn_r _ [7, 8, 147, 148, 149, 150, 151] (by decide +kernel) (by decide +kernel)
set_option maxRecDepth 20000 in
theorem gX3_match_X0_know : GoodIn wsX3_match (wsV RX3 119 RX0 yX0_know wsX0_know) := goodIn_app (goodIn_of _ (by decide +kernel)) ggX3_match_X0_know
set_option maxRecDepth 20000 in
theorem ggX3_match_X2_knowOrNone : GoodIn wsX3_match wsX2_knowOrNone := goodIn_r _ [13, 14, 15, 16, 12, 17, 18, 152, 153, 154, 155, 156, 157, 158, 159] (by decide +kernel) (by decide +kernel)
set_option maxRecDepth 20000 in
theorem gX3_match_X2_knowOrNone : GoodIn wsX3_match (wsV RX3 63 RX2 yX2_knowOrNone wsX2_knowOrNone) := goodIn_app (goodIn_of _ (by decide +kernel)) ggX3_match_X2_knowOrNone
set_option maxRecDepth 20000 in
theorem ggX3_match_X3_matched : GoodIn wsX3_match wsX3_matched := goodIn_ca (goodIn_r _ [23, 24, 25, 26, 27, 28, 29, 22, 30, 1, 31, 32, 33, 34, 2, 3, 4, 5, 6, 7, 8, 35, 36, 37, 12, 38, 39, 14, 15, 16, 17, 18, 40, 41, 42, 43, 44, 45, 46, 47, 48, 49, 50, 51, 52, 53, 54, 55, 56, 57, 58, 59, 60, 61, 62, 63, 64, 65, 66, 67, 68, 69, 70, 71, 72, 73, 74, 75, 76, 77, 78, 79, 80, 81, 82, 83, 84, 85, 86, 87, 88, 89, 90, 91, 92, 93, 94, 95, 96, 97, 98, 99, 100, 101, 102, 103, 104, 105, 106, 107, 108, 109, 110, 111, 112, 113, 114, 115, 116, 117, 118, 119, 120, 121, 122, 123, 124, 125, 126, 127, 128, 129, 130, 131, 132, 133, 134, 135, 136, 137, 138, 139, 140, 141, 142, 143, 144, 145, 146, 147, 148, 149, 150, 151, 152, 153, 154, 155, 156, 157, 158, 159] (by decide +kernel) (by decide +kernel)) (goodIn_sub (fun _ h => List.mem_cons_of_mem _ (List.mem_append_right _ h)) (by decide +kernel))
set_option maxRecDepth 20000 in
theorem gX3_match_X3_matched : GoodIn wsX3_match (wsV RX3 120 RX3 yX3_matched wsX3_matched) := goodIn_app (goodIn_of _ (by decide +kernel)) ggX3_match_X3_matched
theorem dX3_match_0 : decode cX3_match 0 = .ok (.aload_n 0, 1) := by decide +kernel
theorem dX3_match_1 : decode cX3_match 1 = .ok (.getfield 19, 3) := by decide +kernel
theorem dX3_match_4 : decode cX3_match 4 = .ok (.iload_n 1, 1) := by decide +kernel
theorem dX3_match_5 : decode cX3_match 5 = .ok (.invokevirtual 119, 3) := by decide +kernel
theorem dX3_match_8 : decode cX3_match 8 = .ok (.ifCond .eq 14, 3) := by decide +kernel
theorem dX3_match_11 : decode cX3_match 11 = .ok (.aload_n 0, 1) := by decide +kernel
theorem dX3_match_12 : decode cX3_match 12 = .ok (.getfield 10, 3) := by decide +kernel
theorem dX3_match_15 : decode cX3_match 15 = .ok (.iload_n 2, 1) := by decide +kernel
theorem dX3_match_16 : decode cX3_match 16 = .ok (.invokevirtual 63, 3) := by decide +kernel
theorem dX3_match_19 : decode cX3_match 19 = .ok (.ifCond .ne 5, 3) := by decide +kernel
theorem dX3_match_22 : decode cX3_match 22 = .ok (.iconst (-1), 1) := by decide +kernel
theorem dX3_match_23 : decode cX3_match 23 = .ok (.ireturn, 1) := by decide +kernel
theorem dX3_match_24 : decode cX3_match 24 = .ok (.aload_n 0, 1) := by decide +kernel
theorem dX3_match_25 : decode cX3_match 25 = .ok (.iload_n 1, 1) := by decide +kernel
theorem dX3_match_26 : decode cX3_match 26 = .ok (.iload_n 2, 1) := by decide +kernel
theorem dX3_match_27 : decode cX3_match 27 = .ok (.invokevirtual 120, 3) := by decide +kernel
theorem dX3_match_30 : decode cX3_match 30 = .ok (.ireturn, 1) := by decide +kernel
set_option maxRecDepth 20000 in
theorem ggX3_slot_X3_isSlot : GoodIn wsX3_slot wsX3_isSlot := goodIn_r _ [5, 6, 7, 4, 8] (by decide +kernel) (by decide +kernel)
set_option maxRecDepth 20000 in
theorem gX3_slot_X3_isSlot : GoodIn wsX3_slot (va_wsS RX3 123 yX3_isSlot wsX3_isSlot) := goodIn_app (goodIn_of _ (by decide +kernel)) ggX3_slot_X3_isSlot
theorem dX3_slot_0 : decode cX3_slot 0 = .ok (.iload_n 1, 1) := by decide +kernel
theorem dX3_slot_1 : decode cX3_slot 1 = .ok (.invokestatic 123, 3) := by decide +kernel
theorem dX3_slot_4 : decode cX3_slot 4 = .ok (.ifCond .eq 12, 3) := by decide +kernel
theorem dX3_slot_7 : decode cX3_slot 7 = .ok (.aload_n 0, 1) := by decide +kernel
theorem dX3_slot_8 : decode cX3_slot 8 = .ok (.getfield 30, 3) := by decide +kernel
theorem dX3_slot_11 : decode cX3_slot 11 = .ok (.iload_n 1, 1) := by decide +kernel
theorem dX3_slot_12 : decode cX3_slot 12 = .ok (.iaload, 1) := by decide +kernel
theorem dX3_slot_13 : decode cX3_slot 13 = .ok (.goto 5, 3) := by decide +kernel
theorem dX3_slot_16 : decode cX3_slot 16 = .ok (.bipush (-2), 2) := by decide +kernel
theorem dX3_slot_18 : decode cX3_slot 18 = .ok (.ireturn, 1) := by decide +kernel
set_option maxRecDepth 20000 in
theorem ggX3_rule_X0_know : GoodIn wsX3_rule wsX0_know := goodIn_r _ [7, 8, 35, 36, 37, 38, 39] (by decide +kernel) (by decide +kernel)
set_option maxRecDepth 20000 in
theorem gX3_rule_X0_know : GoodIn wsX3_rule (wsV RX3 119 RX0 yX0_know wsX0_know) := goodIn_app (goodIn_of _ (by decide +kernel)) ggX3_rule_X0_know
set_option maxRecDepth 20000 in
theorem ggX3_rule_X3_within : GoodIn wsX3_rule wsX3_within := goodIn_r _ [12] (by decide +kernel) (by decide +kernel)
set_option maxRecDepth 20000 in
theorem gX3_rule_X3_within : GoodIn wsX3_rule (va_wsS RX3 43 yX3_within wsX3_within) := goodIn_app (goodIn_of _ (by decide +kernel)) ggX3_rule_X3_within
set_option maxRecDepth 20000 in
theorem ggX3_rule_X3_isHolderKind : GoodIn wsX3_rule wsX3_isHolderKind := goodIn_r _ [15, 9, 10, 11, 12] (by decide +kernel) (by decide +kernel)
set_option maxRecDepth 20000 in
theorem gX3_rule_X3_isHolderKind : GoodIn wsX3_rule (va_wsS RX3 66 yX3_isHolderKind wsX3_isHolderKind) := goodIn_app (goodIn_of _ (by decide +kernel)) ggX3_rule_X3_isHolderKind
set_option maxRecDepth 20000 in
theorem ggX3_rule_X1_make : GoodIn wsX3_rule wsX1_make := goodIn_ca (goodIn_r _ [20, 21, 22, 23, 24, 25, 26, 27, 40, 41, 42, 43, 44, 45, 46] (by decide +kernel) (by decide +kernel)) (goodIn_sub (fun _ h => List.mem_cons_of_mem _ (List.mem_append_right _ h)) (by decide +kernel))
set_option maxRecDepth 20000 in
theorem gX3_rule_X1_make : GoodIn wsX3_rule (wsV RX3 126 RX1 yX1_make wsX1_make) := goodIn_app (goodIn_of _ (by decide +kernel)) ggX3_rule_X1_make
theorem dX3_rule_0 : decode cX3_rule 0 = .ok (.aload_n 0, 1) := by decide +kernel
theorem dX3_rule_1 : decode cX3_rule 1 = .ok (.getfield 19, 3) := by decide +kernel
theorem dX3_rule_4 : decode cX3_rule 4 = .ok (.iload_n 1, 1) := by decide +kernel
theorem dX3_rule_5 : decode cX3_rule 5 = .ok (.invokevirtual 119, 3) := by decide +kernel
theorem dX3_rule_8 : decode cX3_rule 8 = .ok (.ifCond .ne 5, 3) := by decide +kernel
theorem dX3_rule_11 : decode cX3_rule 11 = .ok (.iconst (-1), 1) := by decide +kernel
theorem dX3_rule_12 : decode cX3_rule 12 = .ok (.ireturn, 1) := by decide +kernel
theorem dX3_rule_13 : decode cX3_rule 13 = .ok (.iload_n 2, 1) := by decide +kernel
theorem dX3_rule_14 : decode cX3_rule 14 = .ok (.iconst 0, 1) := by decide +kernel
theorem dX3_rule_15 : decode cX3_rule 15 = .ok (.iconst 5, 1) := by decide +kernel
theorem dX3_rule_16 : decode cX3_rule 16 = .ok (.invokestatic 43, 3) := by decide +kernel
theorem dX3_rule_19 : decode cX3_rule 19 = .ok (.ifCond .eq 15, 3) := by decide +kernel
theorem dX3_rule_22 : decode cX3_rule 22 = .ok (.iload_n 2, 1) := by decide +kernel
theorem dX3_rule_23 : decode cX3_rule 23 = .ok (.iconst 1, 1) := by decide +kernel
theorem dX3_rule_24 : decode cX3_rule 24 = .ok (.if_icmp .ne 13, 3) := by decide +kernel
theorem dX3_rule_27 : decode cX3_rule 27 = .ok (.iload_n 3, 1) := by decide +kernel
theorem dX3_rule_28 : decode cX3_rule 28 = .ok (.invokestatic 66, 3) := by decide +kernel
theorem dX3_rule_31 : decode cX3_rule 31 = .ok (.ifCond .ne 6, 3) := by decide +kernel
theorem dX3_rule_34 : decode cX3_rule 34 = .ok (.bipush (-2), 2) := by decide +kernel
theorem dX3_rule_36 : decode cX3_rule 36 = .ok (.ireturn, 1) := by decide +kernel
theorem dX3_rule_37 : decode cX3_rule 37 = .ok (.aload_n 0, 1) := by decide +kernel
theorem dX3_rule_38 : decode cX3_rule 38 = .ok (.getfield 26, 3) := by decide +kernel
theorem dX3_rule_41 : decode cX3_rule 41 = .ok (.iload_n 1, 1) := by decide +kernel
theorem dX3_rule_42 : decode cX3_rule 42 = .ok (.iload_n 2, 1) := by decide +kernel
theorem dX3_rule_43 : decode cX3_rule 43 = .ok (.iload_n 3, 1) := by decide +kernel
theorem dX3_rule_44 : decode cX3_rule 44 = .ok (.iload 4, 2) := by decide +kernel
theorem dX3_rule_46 : decode cX3_rule 46 = .ok (.invokevirtual 126, 3) := by decide +kernel
theorem dX3_rule_49 : decode cX3_rule 49 = .ok (.ireturn, 1) := by decide +kernel
set_option maxRecDepth 20000 in
theorem ggX3_apply_X2_know : GoodIn wsX3_apply wsX2_know := goodIn_r _ [14, 15, 189, 190, 191, 192, 193, 194, 195, 196] (by decide +kernel) (by decide +kernel)
set_option maxRecDepth 20000 in
theorem gX3_apply_X2_know : GoodIn wsX3_apply (wsV RX3 59 RX2 yX2_know wsX2_know) := goodIn_app (goodIn_of _ (by decide +kernel)) ggX3_apply_X2_know
set_option maxRecDepth 20000 in
theorem ggX3_apply_X3_matched : GoodIn wsX3_apply wsX3_matched := goodIn_ca (goodIn_r _ [20, 21, 22, 23, 24, 25, 26, 19, 27, 28, 29, 30, 31, 32, 1, 33, 34, 35, 36, 37, 38, 39, 40, 41, 13, 42, 43, 44, 11, 12, 14, 15, 45, 46, 47, 48, 49, 50, 51, 52, 53, 54, 55, 56, 57, 58, 59, 60, 61, 62, 63, 64, 65, 66, 67, 68, 69, 70, 71, 72, 73, 74, 75, 76, 77, 78, 79, 80, 81, 82, 83, 84, 85, 86, 87, 88, 89, 90, 91, 92, 93, 94, 95, 96, 97, 98, 99, 100, 101, 102, 103, 104, 105, 106, 107, 108, 109, 110, 111, 112, 113, 114, 115, 116, 117, 118, 119, 120, 121, 122, 123, 124, 125, 126, 127, 128, 129, 130, 131, 132, 133, 134, 135, 136, 137, 138, 139, 140, 141, 142, 143, 144, 175, 176, 177, 178, 179, 180, 181, 197, 198, 199, 200, 201, 189, 190, 191, 192, 193, 194, 195, 196] (by decide +kernel) (by decide +kernel)) (goodIn_sub (fun _ h => List.mem_cons_of_mem _ (List.mem_append_right _ h)) (by decide +kernel))
set_option maxRecDepth 20000 in
theorem gX3_apply_X3_matched : GoodIn wsX3_apply (wsV RX3 120 RX3 yX3_matched wsX3_matched) := goodIn_app (goodIn_of _ (by decide +kernel)) ggX3_apply_X3_matched
set_option maxRecDepth 20000 in
theorem ggX3_apply_X3_doAct : GoodIn wsX3_apply wsX3_doAct := goodIn_ca (goodIn_r _ [148, 1, 23, 149, 150, 151, 13, 152, 43, 129, 153, 52, 53, 54, 55, 40, 41, 42, 44, 11, 12, 14, 15, 45, 46, 47, 154, 155, 156, 157, 19, 158, 103, 104, 105, 159, 70, 71, 72, 73, 74, 75, 76, 77, 78, 79, 80, 81, 160, 161, 162, 163, 135, 136, 164, 165, 166, 167, 82, 83, 84, 85, 86, 168, 169, 170, 171, 172, 173, 174, 175, 176, 177, 178, 179, 180, 181, 189, 190, 191, 192, 193, 194, 195, 196] (by decide +kernel) (by decide +kernel)) (goodIn_sub (fun _ h => List.mem_cons_of_mem _ (List.mem_append_right _ h)) (by decide +kernel))
set_option maxRecDepth 20000 in
theorem gX3_apply_X3_doAct : GoodIn wsX3_apply (wsV RX3 146 RX3 yX3_doAct wsX3_doAct) := goodIn_app (goodIn_of _ (by decide +kernel)) ggX3_apply_X3_doAct
set_option maxRecDepth 20000 in
theorem ggX3_apply_X3_counted : GoodIn wsX3_apply wsX3_counted := goodIn_ca (goodIn_r _ [143, 144, 103, 104, 19, 105, 175, 176, 177, 178, 179, 180, 181] (by decide +kernel) (by decide +kernel)) (goodIn_sub (fun _ h => List.mem_cons_of_mem _ (List.mem_append_right _ h)) (by decide +kernel))
set_option maxRecDepth 20000 in
theorem gX3_apply_X3_counted : GoodIn wsX3_apply (wsV RX3 55 RX3 yX3_counted wsX3_counted) := goodIn_app (goodIn_of _ (by decide +kernel)) ggX3_apply_X3_counted
theorem dX3_apply_0 : decode cX3_apply 0 = .ok (.aload_n 0, 1) := by decide +kernel
theorem dX3_apply_1 : decode cX3_apply 1 = .ok (.getfield 10, 3) := by decide +kernel
theorem dX3_apply_4 : decode cX3_apply 4 = .ok (.iload_n 1, 1) := by decide +kernel
theorem dX3_apply_5 : decode cX3_apply 5 = .ok (.invokevirtual 59, 3) := by decide +kernel
theorem dX3_apply_8 : decode cX3_apply 8 = .ok (.ifCond .ne 5, 3) := by decide +kernel
theorem dX3_apply_11 : decode cX3_apply 11 = .ok (.iconst (-1), 1) := by decide +kernel
theorem dX3_apply_12 : decode cX3_apply 12 = .ok (.ireturn, 1) := by decide +kernel
theorem dX3_apply_13 : decode cX3_apply 13 = .ok (.iconst 0, 1) := by decide +kernel
theorem dX3_apply_14 : decode cX3_apply 14 = .ok (.istore_n 2, 1) := by decide +kernel
theorem dX3_apply_15 : decode cX3_apply 15 = .ok (.iload_n 2, 1) := by decide +kernel
theorem dX3_apply_16 : decode cX3_apply 16 = .ok (.aload_n 0, 1) := by decide +kernel
theorem dX3_apply_17 : decode cX3_apply 17 = .ok (.getfield 26, 3) := by decide +kernel
theorem dX3_apply_20 : decode cX3_apply 20 = .ok (.getfield 127, 3) := by decide +kernel
theorem dX3_apply_23 : decode cX3_apply 23 = .ok (.if_icmp .ge 109, 3) := by decide +kernel
theorem dX3_apply_26 : decode cX3_apply 26 = .ok (.aload_n 0, 1) := by decide +kernel
theorem dX3_apply_27 : decode cX3_apply 27 = .ok (.aload_n 0, 1) := by decide +kernel
theorem dX3_apply_28 : decode cX3_apply 28 = .ok (.getfield 26, 3) := by decide +kernel
theorem dX3_apply_31 : decode cX3_apply 31 = .ok (.getfield 131, 3) := by decide +kernel
theorem dX3_apply_34 : decode cX3_apply 34 = .ok (.iload_n 2, 1) := by decide +kernel
theorem dX3_apply_35 : decode cX3_apply 35 = .ok (.iaload, 1) := by decide +kernel
theorem dX3_apply_36 : decode cX3_apply 36 = .ok (.iload_n 1, 1) := by decide +kernel
theorem dX3_apply_37 : decode cX3_apply 37 = .ok (.invokevirtual 120, 3) := by decide +kernel
theorem dX3_apply_40 : decode cX3_apply 40 = .ok (.istore_n 3, 1) := by decide +kernel
theorem dX3_apply_41 : decode cX3_apply 41 = .ok (.iload_n 3, 1) := by decide +kernel
theorem dX3_apply_42 : decode cX3_apply 42 = .ok (.iconst 1, 1) := by decide +kernel
theorem dX3_apply_43 : decode cX3_apply 43 = .ok (.if_icmp .ne 66, 3) := by decide +kernel
theorem dX3_apply_46 : decode cX3_apply 46 = .ok (.aload_n 0, 1) := by decide +kernel
theorem dX3_apply_47 : decode cX3_apply 47 = .ok (.getfield 26, 3) := by decide +kernel
theorem dX3_apply_50 : decode cX3_apply 50 = .ok (.getfield 134, 3) := by decide +kernel
theorem dX3_apply_53 : decode cX3_apply 53 = .ok (.iload_n 2, 1) := by decide +kernel
theorem dX3_apply_54 : decode cX3_apply 54 = .ok (.dup2, 1) := by decide +kernel
theorem dX3_apply_55 : decode cX3_apply 55 = .ok (.iaload, 1) := by decide +kernel
theorem dX3_apply_56 : decode cX3_apply 56 = .ok (.iconst 1, 1) := by decide +kernel
theorem dX3_apply_57 : decode cX3_apply 57 = .ok (.iadd, 1) := by decide +kernel
theorem dX3_apply_58 : decode cX3_apply 58 = .ok (.iastore, 1) := by decide +kernel
theorem dX3_apply_59 : decode cX3_apply 59 = .ok (.aload_n 0, 1) := by decide +kernel
theorem dX3_apply_60 : decode cX3_apply 60 = .ok (.aload_n 0, 1) := by decide +kernel
theorem dX3_apply_61 : decode cX3_apply 61 = .ok (.aload_n 0, 1) := by decide +kernel
theorem dX3_apply_62 : decode cX3_apply 62 = .ok (.getfield 26, 3) := by decide +kernel
theorem dX3_apply_65 : decode cX3_apply 65 = .ok (.getfield 137, 3) := by decide +kernel
theorem dX3_apply_68 : decode cX3_apply 68 = .ok (.iload_n 2, 1) := by decide +kernel
theorem dX3_apply_69 : decode cX3_apply 69 = .ok (.iaload, 1) := by decide +kernel
theorem dX3_apply_70 : decode cX3_apply 70 = .ok (.aload_n 0, 1) := by decide +kernel
theorem dX3_apply_71 : decode cX3_apply 71 = .ok (.getfield 26, 3) := by decide +kernel
theorem dX3_apply_74 : decode cX3_apply 74 = .ok (.getfield 140, 3) := by decide +kernel
theorem dX3_apply_77 : decode cX3_apply 77 = .ok (.iload_n 2, 1) := by decide +kernel
theorem dX3_apply_78 : decode cX3_apply 78 = .ok (.iaload, 1) := by decide +kernel
theorem dX3_apply_79 : decode cX3_apply 79 = .ok (.aload_n 0, 1) := by decide +kernel
theorem dX3_apply_80 : decode cX3_apply 80 = .ok (.getfield 26, 3) := by decide +kernel
theorem dX3_apply_83 : decode cX3_apply 83 = .ok (.getfield 143, 3) := by decide +kernel
theorem dX3_apply_86 : decode cX3_apply 86 = .ok (.iload_n 2, 1) := by decide +kernel
theorem dX3_apply_87 : decode cX3_apply 87 = .ok (.iaload, 1) := by decide +kernel
theorem dX3_apply_88 : decode cX3_apply 88 = .ok (.invokevirtual 146, 3) := by decide +kernel
theorem dX3_apply_91 : decode cX3_apply 91 = .ok (.invokevirtual 55, 3) := by decide +kernel
theorem dX3_apply_94 : decode cX3_apply 94 = .ok (.istore 4, 2) := by decide +kernel
theorem dX3_apply_96 : decode cX3_apply 96 = .ok (.iload 4, 2) := by decide +kernel
theorem dX3_apply_98 : decode cX3_apply 98 = .ok (.iconst 1, 1) := by decide +kernel
theorem dX3_apply_99 : decode cX3_apply 99 = .ok (.if_icmp .ne 7, 3) := by decide +kernel
theorem dX3_apply_102 : decode cX3_apply 102 = .ok (.iload_n 2, 1) := by decide +kernel
theorem dX3_apply_103 : decode cX3_apply 103 = .ok (.goto 5, 3) := by decide +kernel
theorem dX3_apply_106 : decode cX3_apply 106 = .ok (.iload 4, 2) := by decide +kernel
theorem dX3_apply_108 : decode cX3_apply 108 = .ok (.ireturn, 1) := by decide +kernel
theorem dX3_apply_109 : decode cX3_apply 109 = .ok (.iload_n 3, 1) := by decide +kernel
theorem dX3_apply_110 : decode cX3_apply 110 = .ok (.ifCond .eq 16, 3) := by decide +kernel
