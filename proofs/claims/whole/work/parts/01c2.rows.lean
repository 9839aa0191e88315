theorem dX4_make_74 : decode cX4_make 74 = .ok (.goto (-35), 3) := by decide +kernel
theorem dX4_make_77 : decode cX4_make 77 = .ok (.aload_n 0, 1) := by decide +kernel
theorem dX4_make_78 : decode cX4_make 78 = .ok (.dup, 1) := by decide +kernel
theorem dX4_make_79 : decode cX4_make 79 = .ok (.getfield 78, 3) := by decide +kernel
theorem dX4_make_82 : decode cX4_make 82 = .ok (.iconst 1, 1) := by decide +kernel
theorem dX4_make_83 : decode cX4_make 83 = .ok (.iadd, 1) := by decide +kernel
theorem dX4_make_84 : decode cX4_make 84 = .ok (.putfield 78, 3) := by decide +kernel
theorem dX4_make_87 : decode cX4_make 87 = .ok (.aload_n 0, 1) := by decide +kernel
theorem dX4_make_88 : decode cX4_make 88 = .ok (.getfield 78, 3) := by decide +kernel
theorem dX4_make_91 : decode cX4_make 91 = .ok (.iconst 1, 1) := by decide +kernel
theorem dX4_make_92 : decode cX4_make 92 = .ok (.isub, 1) := by decide +kernel
theorem dX4_make_93 : decode cX4_make 93 = .ok (.ireturn, 1) := by decide +kernel
set_option maxRecDepth 20000 in
theorem ggX4_thing_X4_in : GoodIn wsX4_thing wsX4_in := goodIn_r _ [6] (by decide +kernel) (by decide +kernel)
set_option maxRecDepth 20000 in
theorem gX4_thing_X4_in : GoodIn wsX4_thing (va_wsS RX4 81 yX4_in wsX4_in) := goodIn_app (goodIn_of _ (by decide +kernel)) ggX4_thing_X4_in
set_option maxRecDepth 20000 in
theorem ggX4_thing_X4_make : GoodIn wsX4_thing wsX4_make := goodIn_ca (goodIn_r _ [10, 11, 2, 12, 13, 14, 15, 16, 17, 18, 19, 20, 21, 22, 23, 24, 25, 26, 27, 28, 29, 30, 31, 32, 33, 34, 35, 36, 37, 38, 39, 40, 41, 42, 43, 44] (by decide +kernel) (by decide +kernel)) (goodIn_sub (fun _ h => List.mem_cons_of_mem _ (List.mem_append_right _ h)) (by decide +kernel))
set_option maxRecDepth 20000 in
theorem gX4_thing_X4_make : GoodIn wsX4_thing (wsV RX4 93 RX4 yX4_make wsX4_make) := goodIn_app (goodIn_of _ (by decide +kernel)) ggX4_thing_X4_make
theorem dX4_thing_0 : decode cX4_thing 0 = .ok (.aload_n 0, 1) := by decide +kernel
theorem dX4_thing_1 : decode cX4_thing 1 = .ok (.iconst 0, 1) := by decide +kernel
theorem dX4_thing_2 : decode cX4_thing 2 = .ok (.putfield 74, 3) := by decide +kernel
theorem dX4_thing_5 : decode cX4_thing 5 = .ok (.iload_n 1, 1) := by decide +kernel
theorem dX4_thing_6 : decode cX4_thing 6 = .ok (.iconst 0, 1) := by decide +kernel
theorem dX4_thing_7 : decode cX4_thing 7 = .ok (.iconst 3, 1) := by decide +kernel
theorem dX4_thing_8 : decode cX4_thing 8 = .ok (.invokestatic 81, 3) := by decide +kernel
theorem dX4_thing_11 : decode cX4_thing 11 = .ok (.ifCond .eq 16, 3) := by decide +kernel
theorem dX4_thing_14 : decode cX4_thing 14 = .ok (.iload_n 2, 1) := by decide +kernel
theorem dX4_thing_15 : decode cX4_thing 15 = .ok (.sipush (-999), 3) := by decide +kernel
theorem dX4_thing_18 : decode cX4_thing 18 = .ok (.sipush 999, 3) := by decide +kernel
theorem dX4_thing_21 : decode cX4_thing 21 = .ok (.invokestatic 81, 3) := by decide +kernel
theorem dX4_thing_24 : decode cX4_thing 24 = .ok (.ifCond .ne 6, 3) := by decide +kernel
theorem dX4_thing_27 : decode cX4_thing 27 = .ok (.bipush (-2), 2) := by decide +kernel
theorem dX4_thing_29 : decode cX4_thing 29 = .ok (.ireturn, 1) := by decide +kernel
theorem dX4_thing_30 : decode cX4_thing 30 = .ok (.aload_n 0, 1) := by decide +kernel
theorem dX4_thing_31 : decode cX4_thing 31 = .ok (.getfield 78, 3) := by decide +kernel
theorem dX4_thing_34 : decode cX4_thing 34 = .ok (.bipush 80, 2) := by decide +kernel
theorem dX4_thing_36 : decode cX4_thing 36 = .ok (.if_icmp .ne 8, 3) := by decide +kernel
theorem dX4_thing_39 : decode cX4_thing 39 = .ok (.bipush (-4), 2) := by decide +kernel
theorem dX4_thing_41 : decode cX4_thing 41 = .ok (.goto 19, 3) := by decide +kernel
theorem dX4_thing_44 : decode cX4_thing 44 = .ok (.aload_n 0, 1) := by decide +kernel
theorem dX4_thing_45 : decode cX4_thing 45 = .ok (.iload_n 1, 1) := by decide +kernel
theorem dX4_thing_46 : decode cX4_thing 46 = .ok (.iload_n 2, 1) := by decide +kernel
theorem dX4_thing_47 : decode cX4_thing 47 = .ok (.iload_n 1, 1) := by decide +kernel
theorem dX4_thing_48 : decode cX4_thing 48 = .ok (.iconst 2, 1) := by decide +kernel
theorem dX4_thing_49 : decode cX4_thing 49 = .ok (.if_icmp .ne 7, 3) := by decide +kernel
theorem dX4_thing_52 : decode cX4_thing 52 = .ok (.iconst 2, 1) := by decide +kernel
theorem dX4_thing_53 : decode cX4_thing 53 = .ok (.goto 4, 3) := by decide +kernel
theorem dX4_thing_56 : decode cX4_thing 56 = .ok (.iconst 0, 1) := by decide +kernel
theorem dX4_thing_57 : decode cX4_thing 57 = .ok (.invokevirtual 93, 3) := by decide +kernel
theorem dX4_thing_60 : decode cX4_thing 60 = .ok (.ireturn, 1) := by decide +kernel
set_option maxRecDepth 20000 in
theorem ggX4_row_X4_in : GoodIn wsX4_row wsX4_in := goodIn_r _ [6] (by decide +kernel) (by decide +kernel)
set_option maxRecDepth 20000 in
theorem gX4_row_X4_in : GoodIn wsX4_row (va_wsS RX4 81 yX4_in wsX4_in) := goodIn_app (goodIn_of _ (by decide +kernel)) ggX4_row_X4_in
set_option maxRecDepth 20000 in
theorem ggX4_row_X4_finds : GoodIn wsX4_row wsX4_finds := goodIn_ca (goodIn_r _ [10, 11, 21, 22, 23, 24, 25, 26, 27, 28, 29, 30, 31, 32, 33, 34, 35, 36, 37, 38, 39, 40, 41, 42, 43, 44, 45, 46, 47, 48, 49] (by decide +kernel) (by decide +kernel)) (goodIn_sub (fun _ h => List.mem_cons_of_mem _ (List.mem_append_right _ h)) (by decide +kernel))
set_option maxRecDepth 20000 in
theorem gX4_row_X4_finds : GoodIn wsX4_row (wsV RX4 97 RX4 yX4_finds wsX4_finds) := goodIn_app (goodIn_of _ (by decide +kernel)) ggX4_row_X4_finds
set_option maxRecDepth 20000 in
theorem ggX4_row_X4_make : GoodIn wsX4_row wsX4_make := goodIn_ca (goodIn_r _ [15, 16, 2, 17, 18, 19, 20, 21, 22, 23, 24, 25, 26, 27, 28, 29, 30, 31, 32, 33, 34, 35, 36, 37, 38, 39, 40, 41, 42, 43, 44, 45, 46, 47, 48, 49] (by decide +kernel) (by decide +kernel)) (goodIn_sub (fun _ h => List.mem_cons_of_mem _ (List.mem_append_right _ h)) (by decide +kernel))
set_option maxRecDepth 20000 in
theorem gX4_row_X4_make : GoodIn wsX4_row (wsV RX4 93 RX4 yX4_make wsX4_make) := goodIn_app (goodIn_of _ (by decide +kernel)) ggX4_row_X4_make
theorem dX4_row_0 : decode cX4_row 0 = .ok (.aload_n 0, 1) := by decide +kernel
theorem dX4_row_1 : decode cX4_row 1 = .ok (.iconst 0, 1) := by decide +kernel
theorem dX4_row_2 : decode cX4_row 2 = .ok (.putfield 74, 3) := by decide +kernel
theorem dX4_row_5 : decode cX4_row 5 = .ok (.iload_n 1, 1) := by decide +kernel
theorem dX4_row_6 : decode cX4_row 6 = .ok (.iconst 4, 1) := by decide +kernel
theorem dX4_row_7 : decode cX4_row 7 = .ok (.bipush 13, 2) := by decide +kernel
theorem dX4_row_9 : decode cX4_row 9 = .ok (.invokestatic 81, 3) := by decide +kernel
theorem dX4_row_12 : decode cX4_row 12 = .ok (.ifCond .eq 9, 3) := by decide +kernel
theorem dX4_row_15 : decode cX4_row 15 = .ok (.iload_n 2, 1) := by decide +kernel
theorem dX4_row_16 : decode cX4_row 16 = .ok (.bipush 6, 2) := by decide +kernel
theorem dX4_row_18 : decode cX4_row 18 = .ok (.if_icmp .le 6, 3) := by decide +kernel
theorem dX4_row_21 : decode cX4_row 21 = .ok (.bipush (-2), 2) := by decide +kernel
theorem dX4_row_23 : decode cX4_row 23 = .ok (.ireturn, 1) := by decide +kernel
theorem dX4_row_24 : decode cX4_row 24 = .ok (.aload_n 0, 1) := by decide +kernel
theorem dX4_row_25 : decode cX4_row 25 = .ok (.getfield 78, 3) := by decide +kernel
theorem dX4_row_28 : decode cX4_row 28 = .ok (.bipush 80, 2) := by decide +kernel
theorem dX4_row_30 : decode cX4_row 30 = .ok (.if_icmp .ne 6, 3) := by decide +kernel
theorem dX4_row_33 : decode cX4_row 33 = .ok (.bipush (-4), 2) := by decide +kernel
theorem dX4_row_35 : decode cX4_row 35 = .ok (.ireturn, 1) := by decide +kernel
theorem dX4_row_36 : decode cX4_row 36 = .ok (.iload_n 2, 1) := by decide +kernel
theorem dX4_row_37 : decode cX4_row 37 = .ok (.ifCond .ge 12, 3) := by decide +kernel
theorem dX4_row_40 : decode cX4_row 40 = .ok (.aload_n 0, 1) := by decide +kernel
theorem dX4_row_41 : decode cX4_row 41 = .ok (.bipush (-25), 2) := by decide +kernel
theorem dX4_row_43 : decode cX4_row 43 = .ok (.invokevirtual 97, 3) := by decide +kernel
theorem dX4_row_46 : decode cX4_row 46 = .ok (.goto 10, 3) := by decide +kernel
theorem dX4_row_49 : decode cX4_row 49 = .ok (.aload_n 0, 1) := by decide +kernel
theorem dX4_row_50 : decode cX4_row 50 = .ok (.iload_n 1, 1) := by decide +kernel
theorem dX4_row_51 : decode cX4_row 51 = .ok (.iconst 0, 1) := by decide +kernel
theorem dX4_row_52 : decode cX4_row 52 = .ok (.iload_n 2, 1) := by decide +kernel
theorem dX4_row_53 : decode cX4_row 53 = .ok (.invokevirtual 93, 3) := by decide +kernel
theorem dX4_row_56 : decode cX4_row 56 = .ok (.ireturn, 1) := by decide +kernel
set_option maxRecDepth 20000 in
theorem ggX4_lay_X4_isThing : GoodIn wsX4_lay wsX4_isThing := goodIn_r _ [6, 7, 8, 9, 5, 10, 37, 38, 39, 40, 41, 42, 43, 44, 45, 46, 47, 48, 49, 50, 51, 52, 53, 54, 55, 56, 57, 58, 59, 60, 61, 62, 63, 64, 65] (by decide +kernel) (by decide +kernel)
set_option maxRecDepth 20000 in
theorem gX4_lay_X4_isThing : GoodIn wsX4_lay (wsV RX4 85 RX4 yX4_isThing wsX4_isThing) := goodIn_app (goodIn_of _ (by decide +kernel)) ggX4_lay_X4_isThing
set_option maxRecDepth 20000 in
theorem ggX4_lay_X4_isThingOrNone : GoodIn wsX4_lay wsX4_isThingOrNone := goodIn_r _ [14, 2, 3, 4, 5, 6, 7, 8, 9, 10, 37, 38, 39, 40, 41, 42, 43, 44, 45, 46, 47, 48, 49, 50, 51, 52, 53, 54, 55, 56, 57, 58, 59, 60, 61, 62, 63, 64, 65] (by decide +kernel) (by decide +kernel)
set_option maxRecDepth 20000 in
theorem gX4_lay_X4_isThingOrNone : GoodIn wsX4_lay (wsV RX4 101 RX4 yX4_isThingOrNone wsX4_isThingOrNone) := goodIn_app (goodIn_of _ (by decide +kernel)) ggX4_lay_X4_isThingOrNone
set_option maxRecDepth 20000 in
theorem ggX4_lay_X4_in : GoodIn wsX4_lay wsX4_in := goodIn_r _ [10] (by decide +kernel) (by decide +kernel)
set_option maxRecDepth 20000 in
theorem gX4_lay_X4_in : GoodIn wsX4_lay (va_wsS RX4 81 yX4_in wsX4_in) := goodIn_app (goodIn_of _ (by decide +kernel)) ggX4_lay_X4_in
set_option maxRecDepth 20000 in
theorem ggX4_lay_X4_lays : GoodIn wsX4_lay wsX4_lays := goodIn_ca (goodIn_r _ [18, 19, 20, 21, 22, 23, 24, 5, 25, 26, 27, 28, 29, 30, 31, 32, 33, 34, 35, 36, 8, 9, 10, 37, 38, 39, 40, 41, 42, 43, 44, 45, 46, 47, 48, 49, 50, 51, 52, 53, 54, 55, 56, 57, 58, 59, 60, 61, 62, 63, 64, 65] (by decide +kernel) (by decide +kernel)) (goodIn_sub (fun _ h => List.mem_cons_of_mem _ (List.mem_append_right _ h)) (by decide +kernel))
set_option maxRecDepth 20000 in
theorem gX4_lay_X4_lays : GoodIn wsX4_lay (wsV RX4 104 RX4 yX4_lays wsX4_lays) := goodIn_app (goodIn_of _ (by decide +kernel)) ggX4_lay_X4_lays
theorem dX4_lay_0 : decode cX4_lay 0 = .ok (.aload_n 0, 1) := by decide +kernel
theorem dX4_lay_1 : decode cX4_lay 1 = .ok (.iconst 0, 1) := by decide +kernel
theorem dX4_lay_2 : decode cX4_lay 2 = .ok (.putfield 74, 3) := by decide +kernel
theorem dX4_lay_5 : decode cX4_lay 5 = .ok (.aload_n 0, 1) := by decide +kernel
theorem dX4_lay_6 : decode cX4_lay 6 = .ok (.iload_n 1, 1) := by decide +kernel
theorem dX4_lay_7 : decode cX4_lay 7 = .ok (.invokevirtual 85, 3) := by decide +kernel
theorem dX4_lay_10 : decode cX4_lay 10 = .ok (.ifCond .eq 12, 3) := by decide +kernel
theorem dX4_lay_13 : decode cX4_lay 13 = .ok (.aload_n 0, 1) := by decide +kernel
theorem dX4_lay_14 : decode cX4_lay 14 = .ok (.iload 4, 2) := by decide +kernel
theorem dX4_lay_16 : decode cX4_lay 16 = .ok (.invokevirtual 101, 3) := by decide +kernel
theorem dX4_lay_19 : decode cX4_lay 19 = .ok (.ifCond .ne 5, 3) := by decide +kernel
theorem dX4_lay_22 : decode cX4_lay 22 = .ok (.iconst (-1), 1) := by decide +kernel
theorem dX4_lay_23 : decode cX4_lay 23 = .ok (.ireturn, 1) := by decide +kernel
theorem dX4_lay_24 : decode cX4_lay 24 = .ok (.iload_n 2, 1) := by decide +kernel
theorem dX4_lay_25 : decode cX4_lay 25 = .ok (.bipush 7, 2) := by decide +kernel
theorem dX4_lay_27 : decode cX4_lay 27 = .ok (.bipush 13, 2) := by decide +kernel
theorem dX4_lay_29 : decode cX4_lay 29 = .ok (.invokestatic 81, 3) := by decide +kernel
theorem dX4_lay_32 : decode cX4_lay 32 = .ok (.ifCond .eq 15, 3) := by decide +kernel
theorem dX4_lay_35 : decode cX4_lay 35 = .ok (.aload_n 0, 1) := by decide +kernel
theorem dX4_lay_36 : decode cX4_lay 36 = .ok (.iload_n 1, 1) := by decide +kernel
theorem dX4_lay_37 : decode cX4_lay 37 = .ok (.iload_n 2, 1) := by decide +kernel
theorem dX4_lay_38 : decode cX4_lay 38 = .ok (.iload_n 3, 1) := by decide +kernel
theorem dX4_lay_39 : decode cX4_lay 39 = .ok (.iload 4, 2) := by decide +kernel
theorem dX4_lay_41 : decode cX4_lay 41 = .ok (.invokevirtual 104, 3) := by decide +kernel
theorem dX4_lay_44 : decode cX4_lay 44 = .ok (.goto 5, 3) := by decide +kernel
theorem dX4_lay_47 : decode cX4_lay 47 = .ok (.bipush (-2), 2) := by decide +kernel
theorem dX4_lay_49 : decode cX4_lay 49 = .ok (.ireturn, 1) := by decide +kernel
set_option maxRecDepth 20000 in
theorem ggX4_lays_X4_passes : GoodIn wsX4_lays wsX4_passes := goodIn_ca (goodIn_r _ [8, 2, 9, 10, 7, 11, 23, 24, 25, 26, 27, 28, 29, 30, 31, 32, 33, 34, 35, 36, 37, 38, 39, 40, 41, 42, 43, 44, 45, 46, 47, 48, 49, 50, 51] (by decide +kernel) (by decide +kernel)) (goodIn_sub (fun _ h => List.mem_cons_of_mem _ (List.mem_append_right _ h)) (by decide +kernel))
set_option maxRecDepth 20000 in
theorem gX4_lays_X4_passes : GoodIn wsX4_lays (wsV RX4 108 RX4 yX4_passes wsX4_passes) := goodIn_app (goodIn_of _ (by decide +kernel)) ggX4_lays_X4_passes
set_option maxRecDepth 20000 in
theorem ggX4_lays_X4_of : GoodIn wsX4_lays wsX4_of := goodIn_r _ [14] (by decide +kernel) (by decide +kernel)
set_option maxRecDepth 20000 in
theorem gX4_lays_X4_of : GoodIn wsX4_lays (va_wsS RX4 111 yX4_of wsX4_of) := goodIn_app (goodIn_of _ (by decide +kernel)) ggX4_lays_X4_of
set_option maxRecDepth 20000 in
theorem ggX4_lays_X4_finds : GoodIn wsX4_lays wsX4_finds := goodIn_ca (goodIn_r _ [18, 19, 23, 24, 25, 26, 27, 28, 29, 30, 31, 32, 33, 34, 35, 36, 37, 38, 39, 40, 41, 42, 43, 44, 45, 46, 47, 48, 49, 50, 51] (by decide +kernel) (by decide +kernel)) (goodIn_sub (fun _ h => List.mem_cons_of_mem _ (List.mem_append_right _ h)) (by decide +kernel))
set_option maxRecDepth 20000 in
theorem gX4_lays_X4_finds : GoodIn wsX4_lays (wsV RX4 97 RX4 yX4_finds wsX4_finds) := goodIn_app (goodIn_of _ (by decide +kernel)) ggX4_lays_X4_finds
set_option maxRecDepth 20000 in
theorem ggX4_lays_X4_in : GoodIn wsX4_lays wsX4_in := goodIn_r _ [22] (by decide +kernel) (by decide +kernel)
set_option maxRecDepth 20000 in
theorem gX4_lays_X4_in : GoodIn wsX4_lays (va_wsS RX4 81 yX4_in wsX4_in) := goodIn_app (goodIn_of _ (by decide +kernel)) ggX4_lays_X4_in
theorem dX4_lays_0 : decode cX4_lays 0 = .ok (.aload_n 0, 1) := by decide +kernel
theorem dX4_lays_1 : decode cX4_lays 1 = .ok (.iload_n 1, 1) := by decide +kernel
theorem dX4_lays_2 : decode cX4_lays 2 = .ok (.iload_n 2, 1) := by decide +kernel
theorem dX4_lays_3 : decode cX4_lays 3 = .ok (.invokevirtual 108, 3) := by decide +kernel
theorem dX4_lays_6 : decode cX4_lays 6 = .ok (.ifCond .eq 16, 3) := by decide +kernel
theorem dX4_lays_9 : decode cX4_lays 9 = .ok (.aload_n 0, 1) := by decide +kernel
theorem dX4_lays_10 : decode cX4_lays 10 = .ok (.iload 4, 2) := by decide +kernel
theorem dX4_lays_12 : decode cX4_lays 12 = .ok (.iload_n 2, 1) := by decide +kernel
theorem dX4_lays_13 : decode cX4_lays 13 = .ok (.invokestatic 111, 3) := by decide +kernel
theorem dX4_lays_16 : decode cX4_lays 16 = .ok (.invokevirtual 108, 3) := by decide +kernel
theorem dX4_lays_19 : decode cX4_lays 19 = .ok (.ifCond .ne 10, 3) := by decide +kernel
theorem dX4_lays_22 : decode cX4_lays 22 = .ok (.aload_n 0, 1) := by decide +kernel
theorem dX4_lays_23 : decode cX4_lays 23 = .ok (.bipush (-21), 2) := by decide +kernel
theorem dX4_lays_25 : decode cX4_lays 25 = .ok (.invokevirtual 97, 3) := by decide +kernel
theorem dX4_lays_28 : decode cX4_lays 28 = .ok (.ireturn, 1) := by decide +kernel
theorem dX4_lays_29 : decode cX4_lays 29 = .ok (.iload_n 1, 1) := by decide +kernel
theorem dX4_lays_30 : decode cX4_lays 30 = .ok (.ifCond .ge 10, 3) := by decide +kernel
theorem dX4_lays_33 : decode cX4_lays 33 = .ok (.aload_n 0, 1) := by decide +kernel
theorem dX4_lays_34 : decode cX4_lays 34 = .ok (.bipush (-22), 2) := by decide +kernel
theorem dX4_lays_36 : decode cX4_lays 36 = .ok (.invokevirtual 97, 3) := by decide +kernel
theorem dX4_lays_39 : decode cX4_lays 39 = .ok (.ireturn, 1) := by decide +kernel
theorem dX4_lays_40 : decode cX4_lays 40 = .ok (.iload_n 3, 1) := by decide +kernel
theorem dX4_lays_41 : decode cX4_lays 41 = .ok (.iconst 0, 1) := by decide +kernel
theorem dX4_lays_42 : decode cX4_lays 42 = .ok (.aload_n 0, 1) := by decide +kernel
theorem dX4_lays_43 : decode cX4_lays 43 = .ok (.getfield 16, 3) := by decide +kernel
theorem dX4_lays_46 : decode cX4_lays 46 = .ok (.iload_n 1, 1) := by decide +kernel
theorem dX4_lays_47 : decode cX4_lays 47 = .ok (.iaload, 1) := by decide +kernel
theorem dX4_lays_48 : decode cX4_lays 48 = .ok (.iconst 1, 1) := by decide +kernel
theorem dX4_lays_49 : decode cX4_lays 49 = .ok (.isub, 1) := by decide +kernel
theorem dX4_lays_50 : decode cX4_lays 50 = .ok (.invokestatic 81, 3) := by decide +kernel
theorem dX4_lays_53 : decode cX4_lays 53 = .ok (.ifCond .ne 10, 3) := by decide +kernel
theorem dX4_lays_56 : decode cX4_lays 56 = .ok (.aload_n 0, 1) := by decide +kernel
theorem dX4_lays_57 : decode cX4_lays 57 = .ok (.bipush (-23), 2) := by decide +kernel
theorem dX4_lays_59 : decode cX4_lays 59 = .ok (.invokevirtual 97, 3) := by decide +kernel
theorem dX4_lays_62 : decode cX4_lays 62 = .ok (.ireturn, 1) := by decide +kernel
theorem dX4_lays_63 : decode cX4_lays 63 = .ok (.aload_n 0, 1) := by decide +kernel
theorem dX4_lays_64 : decode cX4_lays 64 = .ok (.iload 4, 2) := by decide +kernel
theorem dX4_lays_66 : decode cX4_lays 66 = .ok (.aload_n 0, 1) := by decide +kernel
theorem dX4_lays_67 : decode cX4_lays 67 = .ok (.getfield 7, 3) := by decide +kernel
theorem dX4_lays_70 : decode cX4_lays 70 = .ok (.iload_n 1, 1) := by decide +kernel
theorem dX4_lays_71 : decode cX4_lays 71 = .ok (.iaload, 1) := by decide +kernel
theorem dX4_lays_72 : decode cX4_lays 72 = .ok (.invokestatic 111, 3) := by decide +kernel
theorem dX4_lays_75 : decode cX4_lays 75 = .ok (.invokevirtual 108, 3) := by decide +kernel
theorem dX4_lays_78 : decode cX4_lays 78 = .ok (.ifCond .ne 10, 3) := by decide +kernel
theorem dX4_lays_81 : decode cX4_lays 81 = .ok (.aload_n 0, 1) := by decide +kernel
theorem dX4_lays_82 : decode cX4_lays 82 = .ok (.bipush (-24), 2) := by decide +kernel
theorem dX4_lays_84 : decode cX4_lays 84 = .ok (.invokevirtual 97, 3) := by decide +kernel
theorem dX4_lays_87 : decode cX4_lays 87 = .ok (.ireturn, 1) := by decide +kernel
theorem dX4_lays_88 : decode cX4_lays 88 = .ok (.aload_n 0, 1) := by decide +kernel
theorem dX4_lays_89 : decode cX4_lays 89 = .ok (.getfield 23, 3) := by decide +kernel
theorem dX4_lays_92 : decode cX4_lays 92 = .ok (.bipush 6, 2) := by decide +kernel
theorem dX4_lays_94 : decode cX4_lays 94 = .ok (.iload_n 1, 1) := by decide +kernel
theorem dX4_lays_95 : decode cX4_lays 95 = .ok (.imul, 1) := by decide +kernel
theorem dX4_lays_96 : decode cX4_lays 96 = .ok (.iload_n 3, 1) := by decide +kernel
theorem dX4_lays_97 : decode cX4_lays 97 = .ok (.iadd, 1) := by decide +kernel
theorem dX4_lays_98 : decode cX4_lays 98 = .ok (.iload 4, 2) := by decide +kernel
theorem dX4_lays_100 : decode cX4_lays 100 = .ok (.iastore, 1) := by decide +kernel
theorem dX4_lays_101 : decode cX4_lays 101 = .ok (.iconst 1, 1) := by decide +kernel
theorem dX4_lays_102 : decode cX4_lays 102 = .ok (.ireturn, 1) := by decide +kernel
set_option maxRecDepth 20000 in
theorem ggX4_half_X4_isThing : GoodIn wsX4_half wsX4_isThing := goodIn_r _ [6, 7, 8, 9, 5, 10, 33, 34, 35, 36, 37, 38, 39, 40, 41, 42, 43, 44, 45, 46, 47, 48, 49, 50, 51, 52, 53, 54, 55, 56, 57, 58, 59, 60, 61] (by decide +kernel) (by decide +kernel)
set_option maxRecDepth 20000 in
theorem gX4_half_X4_isThing : GoodIn wsX4_half (wsV RX4 85 RX4 yX4_isThing wsX4_isThing) := goodIn_app (goodIn_of _ (by decide +kernel)) ggX4_half_X4_isThing
set_option maxRecDepth 20000 in
theorem ggX4_half_X4_isThingOrNone : GoodIn wsX4_half wsX4_isThingOrNone := goodIn_r _ [14, 2, 3, 4, 5, 6, 7, 8, 9, 10, 33, 34, 35, 36, 37, 38, 39, 40, 41, 42, 43, 44, 45, 46, 47, 48, 49, 50, 51, 52, 53, 54, 55, 56, 57, 58, 59, 60, 61] (by decide +kernel) (by decide +kernel)
set_option maxRecDepth 20000 in
theorem gX4_half_X4_isThingOrNone : GoodIn wsX4_half (wsV RX4 101 RX4 yX4_isThingOrNone wsX4_isThingOrNone) := goodIn_app (goodIn_of _ (by decide +kernel)) ggX4_half_X4_isThingOrNone
set_option maxRecDepth 20000 in
theorem ggX4_half_X4_in : GoodIn wsX4_half wsX4_in := goodIn_r _ [10] (by decide +kernel) (by decide +kernel)
set_option maxRecDepth 20000 in
theorem gX4_half_X4_in : GoodIn wsX4_half (va_wsS RX4 81 yX4_in wsX4_in) := goodIn_app (goodIn_of _ (by decide +kernel)) ggX4_half_X4_in
set_option maxRecDepth 20000 in
theorem ggX4_half_X4_halves : GoodIn wsX4_half wsX4_halves := goodIn_ca (goodIn_r _ [18, 19, 20, 21, 22, 5, 23, 24, 25, 26, 27, 28, 29, 30, 31, 32, 33, 34, 35, 36, 37, 38, 39, 40, 41, 42, 43, 44, 45, 46, 47, 48, 49, 50, 51, 52, 53, 54, 55, 56, 57, 58, 59, 60, 61] (by decide +kernel) (by decide +kernel)) (goodIn_sub (fun _ h => List.mem_cons_of_mem _ (List.mem_append_right _ h)) (by decide +kernel))
set_option maxRecDepth 20000 in
theorem gX4_half_X4_halves : GoodIn wsX4_half (wsV RX4 114 RX4 yX4_halves wsX4_halves) := goodIn_app (goodIn_of _ (by decide +kernel)) ggX4_half_X4_halves
theorem dX4_half_0 : decode cX4_half 0 = .ok (.aload_n 0, 1) := by decide +kernel
theorem dX4_half_1 : decode cX4_half 1 = .ok (.iconst 0, 1) := by decide +kernel
theorem dX4_half_2 : decode cX4_half 2 = .ok (.putfield 74, 3) := by decide +kernel
theorem dX4_half_5 : decode cX4_half 5 = .ok (.aload_n 0, 1) := by decide +kernel
theorem dX4_half_6 : decode cX4_half 6 = .ok (.iload_n 1, 1) := by decide +kernel
theorem dX4_half_7 : decode cX4_half 7 = .ok (.invokevirtual 85, 3) := by decide +kernel
theorem dX4_half_10 : decode cX4_half 10 = .ok (.ifCond .eq 11, 3) := by decide +kernel
theorem dX4_half_13 : decode cX4_half 13 = .ok (.aload_n 0, 1) := by decide +kernel
theorem dX4_half_14 : decode cX4_half 14 = .ok (.iload_n 3, 1) := by decide +kernel
theorem dX4_half_15 : decode cX4_half 15 = .ok (.invokevirtual 101, 3) := by decide +kernel
theorem dX4_half_18 : decode cX4_half 18 = .ok (.ifCond .ne 5, 3) := by decide +kernel
theorem dX4_half_21 : decode cX4_half 21 = .ok (.iconst (-1), 1) := by decide +kernel
theorem dX4_half_22 : decode cX4_half 22 = .ok (.ireturn, 1) := by decide +kernel
theorem dX4_half_23 : decode cX4_half 23 = .ok (.iload_n 2, 1) := by decide +kernel
theorem dX4_half_24 : decode cX4_half 24 = .ok (.iconst 0, 1) := by decide +kernel
theorem dX4_half_25 : decode cX4_half 25 = .ok (.iconst 1, 1) := by decide +kernel
theorem dX4_half_26 : decode cX4_half 26 = .ok (.invokestatic 81, 3) := by decide +kernel
theorem dX4_half_29 : decode cX4_half 29 = .ok (.ifCond .ne 6, 3) := by decide +kernel
theorem dX4_half_32 : decode cX4_half 32 = .ok (.bipush (-2), 2) := by decide +kernel
theorem dX4_half_34 : decode cX4_half 34 = .ok (.ireturn, 1) := by decide +kernel
theorem dX4_half_35 : decode cX4_half 35 = .ok (.aload_n 0, 1) := by decide +kernel
theorem dX4_half_36 : decode cX4_half 36 = .ok (.iload_n 1, 1) := by decide +kernel
theorem dX4_half_37 : decode cX4_half 37 = .ok (.iload_n 2, 1) := by decide +kernel
theorem dX4_half_38 : decode cX4_half 38 = .ok (.iload_n 3, 1) := by decide +kernel
theorem dX4_half_39 : decode cX4_half 39 = .ok (.invokevirtual 114, 3) := by decide +kernel
theorem dX4_half_42 : decode cX4_half 42 = .ok (.ireturn, 1) := by decide +kernel
set_option maxRecDepth 20000 in
theorem ggX4_halves_X4_passes : GoodIn wsX4_halves wsX4_passes := goodIn_ca (goodIn_r _ [6, 7, 8, 9, 5, 10, 16, 17, 18, 19, 20, 21, 22, 23, 24, 25, 26, 27, 28, 29, 30, 31, 32, 33, 34, 35, 36, 37, 38, 39, 40, 41, 42, 43, 44] (by decide +kernel) (by decide +kernel)) (goodIn_sub (fun _ h => List.mem_cons_of_mem _ (List.mem_append_right _ h)) (by decide +kernel))
set_option maxRecDepth 20000 in
theorem gX4_halves_X4_passes : GoodIn wsX4_halves (wsV RX4 108 RX4 yX4_passes wsX4_passes) := goodIn_app (goodIn_of _ (by decide +kernel)) ggX4_halves_X4_passes
set_option maxRecDepth 20000 in
theorem ggX4_halves_X4_finds : GoodIn wsX4_halves wsX4_finds := goodIn_ca (goodIn_r _ [14, 15, 16, 17, 18, 19, 20, 21, 22, 23, 24, 25, 26, 27, 28, 29, 30, 31, 32, 33, 34, 35, 36, 37, 38, 39, 40, 41, 42, 43, 44] (by decide +kernel) (by decide +kernel)) (goodIn_sub (fun _ h => List.mem_cons_of_mem _ (List.mem_append_right _ h)) (by decide +kernel))
set_option maxRecDepth 20000 in
theorem gX4_halves_X4_finds : GoodIn wsX4_halves (wsV RX4 97 RX4 yX4_finds wsX4_finds) := goodIn_app (goodIn_of _ (by decide +kernel)) ggX4_halves_X4_finds
theorem dX4_halves_0 : decode cX4_halves 0 = .ok (.aload_n 0, 1) := by decide +kernel
theorem dX4_halves_1 : decode cX4_halves 1 = .ok (.iload_n 1, 1) := by decide +kernel
theorem dX4_halves_2 : decode cX4_halves 2 = .ok (.iconst 2, 1) := by decide +kernel
theorem dX4_halves_3 : decode cX4_halves 3 = .ok (.invokevirtual 108, 3) := by decide +kernel
theorem dX4_halves_6 : decode cX4_halves 6 = .ok (.ifCond .ne 10, 3) := by decide +kernel
theorem dX4_halves_9 : decode cX4_halves 9 = .ok (.aload_n 0, 1) := by decide +kernel
theorem dX4_halves_10 : decode cX4_halves 10 = .ok (.bipush (-21), 2) := by decide +kernel
theorem dX4_halves_12 : decode cX4_halves 12 = .ok (.invokevirtual 97, 3) := by decide +kernel
theorem dX4_halves_15 : decode cX4_halves 15 = .ok (.ireturn, 1) := by decide +kernel
theorem dX4_halves_16 : decode cX4_halves 16 = .ok (.iload_n 1, 1) := by decide +kernel
theorem dX4_halves_17 : decode cX4_halves 17 = .ok (.ifCond .ge 10, 3) := by decide +kernel
theorem dX4_halves_20 : decode cX4_halves 20 = .ok (.aload_n 0, 1) := by decide +kernel
theorem dX4_halves_21 : decode cX4_halves 21 = .ok (.bipush (-22), 2) := by decide +kernel
theorem dX4_halves_23 : decode cX4_halves 23 = .ok (.invokevirtual 97, 3) := by decide +kernel
theorem dX4_halves_26 : decode cX4_halves 26 = .ok (.ireturn, 1) := by decide +kernel
theorem dX4_halves_27 : decode cX4_halves 27 = .ok (.aload_n 0, 1) := by decide +kernel
theorem dX4_halves_28 : decode cX4_halves 28 = .ok (.getfield 23, 3) := by decide +kernel
theorem dX4_halves_31 : decode cX4_halves 31 = .ok (.bipush 6, 2) := by decide +kernel
theorem dX4_halves_33 : decode cX4_halves 33 = .ok (.iload_n 1, 1) := by decide +kernel
theorem dX4_halves_34 : decode cX4_halves 34 = .ok (.imul, 1) := by decide +kernel
theorem dX4_halves_35 : decode cX4_halves 35 = .ok (.iload_n 2, 1) := by decide +kernel
theorem dX4_halves_36 : decode cX4_halves 36 = .ok (.iadd, 1) := by decide +kernel
theorem dX4_halves_37 : decode cX4_halves 37 = .ok (.iload_n 3, 1) := by decide +kernel
theorem dX4_halves_38 : decode cX4_halves 38 = .ok (.iastore, 1) := by decide +kernel
theorem dX4_halves_39 : decode cX4_halves 39 = .ok (.iconst 1, 1) := by decide +kernel
theorem dX4_halves_40 : decode cX4_halves 40 = .ok (.ireturn, 1) := by decide +kernel
set_option maxRecDepth 20000 in
theorem ggX4_put_X4_isThing : GoodIn wsX4_put wsX4_isThing := goodIn_r _ [9, 10, 11, 12, 8, 13, 27, 28, 29, 30, 31, 32, 33, 34, 35, 36, 37, 38, 39, 40, 41, 42, 43, 44, 45, 46, 47, 48, 49, 50, 51, 52, 53, 54, 55] (by decide +kernel) (by decide +kernel)
set_option maxRecDepth 20000 in
theorem gX4_put_X4_isThing : GoodIn wsX4_put (wsV RX4 85 RX4 yX4_isThing wsX4_isThing) := goodIn_app (goodIn_of _ (by decide +kernel)) ggX4_put_X4_isThing
set_option maxRecDepth 20000 in
theorem ggX4_put_X4_in : GoodIn wsX4_put wsX4_in := goodIn_r _ [13] (by decide +kernel) (by decide +kernel)
set_option maxRecDepth 20000 in
theorem gX4_put_X4_in : GoodIn wsX4_put (va_wsS RX4 81 yX4_in wsX4_in) := goodIn_app (goodIn_of _ (by decide +kernel)) ggX4_put_X4_in
set_option maxRecDepth 20000 in
theorem ggX4_put_X4_isA : GoodIn wsX4_put wsX4_isA := goodIn_ca (goodIn_r _ [17, 18, 19, 20, 8, 21, 27, 28, 29, 30, 31, 32, 33, 34, 35, 36, 37, 38, 39, 40, 41, 42, 43, 44, 45, 46, 47, 48, 49, 50, 51, 52, 53, 54, 55] (by decide +kernel) (by decide +kernel)) (goodIn_sub (fun _ h => List.mem_cons_of_mem _ (List.mem_append_right _ h)) (by decide +kernel))
set_option maxRecDepth 20000 in
theorem gX4_put_X4_isA : GoodIn wsX4_put (wsV RX4 117 RX4 yX4_isA wsX4_isA) := goodIn_app (goodIn_of _ (by decide +kernel)) ggX4_put_X4_isA
set_option maxRecDepth 20000 in
theorem ggX4_put_X4_finds : GoodIn wsX4_put wsX4_finds := goodIn_ca (goodIn_r _ [25, 26, 27, 28, 29, 30, 31, 32, 33, 34, 35, 36, 37, 38, 39, 40, 41, 42, 43, 44, 45, 46, 47, 48, 49, 50, 51, 52, 53, 54, 55] (by decide +kernel) (by decide +kernel)) (goodIn_sub (fun _ h => List.mem_cons_of_mem _ (List.mem_append_right _ h)) (by decide +kernel))
set_option maxRecDepth 20000 in
theorem gX4_put_X4_finds : GoodIn wsX4_put (wsV RX4 97 RX4 yX4_finds wsX4_finds) := goodIn_app (goodIn_of _ (by decide +kernel)) ggX4_put_X4_finds
theorem dX4_put_0 : decode cX4_put 0 = .ok (.aload_n 0, 1) := by decide +kernel
theorem dX4_put_1 : decode cX4_put 1 = .ok (.iconst 0, 1) := by decide +kernel
theorem dX4_put_2 : decode cX4_put 2 = .ok (.putfield 74, 3) := by decide +kernel
theorem dX4_put_5 : decode cX4_put 5 = .ok (.aload_n 0, 1) := by decide +kernel
theorem dX4_put_6 : decode cX4_put 6 = .ok (.iload_n 1, 1) := by decide +kernel
theorem dX4_put_7 : decode cX4_put 7 = .ok (.invokevirtual 85, 3) := by decide +kernel
theorem dX4_put_10 : decode cX4_put 10 = .ok (.ifCond .ne 5, 3) := by decide +kernel
theorem dX4_put_13 : decode cX4_put 13 = .ok (.iconst (-1), 1) := by decide +kernel
theorem dX4_put_14 : decode cX4_put 14 = .ok (.ireturn, 1) := by decide +kernel
theorem dX4_put_15 : decode cX4_put 15 = .ok (.iload_n 2, 1) := by decide +kernel
theorem dX4_put_16 : decode cX4_put 16 = .ok (.iconst 4, 1) := by decide +kernel
theorem dX4_put_17 : decode cX4_put 17 = .ok (.bipush 6, 2) := by decide +kernel
theorem dX4_put_19 : decode cX4_put 19 = .ok (.invokestatic 81, 3) := by decide +kernel
theorem dX4_put_22 : decode cX4_put 22 = .ok (.ifCond .ne 6, 3) := by decide +kernel
theorem dX4_put_25 : decode cX4_put 25 = .ok (.bipush (-2), 2) := by decide +kernel
theorem dX4_put_27 : decode cX4_put 27 = .ok (.ireturn, 1) := by decide +kernel
theorem dX4_put_28 : decode cX4_put 28 = .ok (.aload_n 0, 1) := by decide +kernel
theorem dX4_put_29 : decode cX4_put 29 = .ok (.iload_n 1, 1) := by decide +kernel
theorem dX4_put_30 : decode cX4_put 30 = .ok (.iload_n 2, 1) := by decide +kernel
theorem dX4_put_31 : decode cX4_put 31 = .ok (.invokevirtual 117, 3) := by decide +kernel
theorem dX4_put_34 : decode cX4_put 34 = .ok (.ifCond .ne 10, 3) := by decide +kernel
theorem dX4_put_37 : decode cX4_put 37 = .ok (.aload_n 0, 1) := by decide +kernel
theorem dX4_put_38 : decode cX4_put 38 = .ok (.bipush (-21), 2) := by decide +kernel
theorem dX4_put_40 : decode cX4_put 40 = .ok (.invokevirtual 97, 3) := by decide +kernel
theorem dX4_put_43 : decode cX4_put 43 = .ok (.ireturn, 1) := by decide +kernel
theorem dX4_put_44 : decode cX4_put 44 = .ok (.iload_n 3, 1) := by decide +kernel
theorem dX4_put_45 : decode cX4_put 45 = .ok (.iconst 0, 1) := by decide +kernel
theorem dX4_put_46 : decode cX4_put 46 = .ok (.aload_n 0, 1) := by decide +kernel
theorem dX4_put_47 : decode cX4_put 47 = .ok (.getfield 16, 3) := by decide +kernel
theorem dX4_put_50 : decode cX4_put 50 = .ok (.iload_n 1, 1) := by decide +kernel
theorem dX4_put_51 : decode cX4_put 51 = .ok (.iaload, 1) := by decide +kernel
theorem dX4_put_52 : decode cX4_put 52 = .ok (.iconst 1, 1) := by decide +kernel
theorem dX4_put_53 : decode cX4_put 53 = .ok (.isub, 1) := by decide +kernel
theorem dX4_put_54 : decode cX4_put 54 = .ok (.invokestatic 81, 3) := by decide +kernel
theorem dX4_put_57 : decode cX4_put 57 = .ok (.ifCond .ne 10, 3) := by decide +kernel
theorem dX4_put_60 : decode cX4_put 60 = .ok (.aload_n 0, 1) := by decide +kernel
theorem dX4_put_61 : decode cX4_put 61 = .ok (.bipush (-23), 2) := by decide +kernel
theorem dX4_put_63 : decode cX4_put 63 = .ok (.invokevirtual 97, 3) := by decide +kernel
theorem dX4_put_66 : decode cX4_put 66 = .ok (.ireturn, 1) := by decide +kernel
theorem dX4_put_67 : decode cX4_put 67 = .ok (.aload_n 0, 1) := by decide +kernel
theorem dX4_put_68 : decode cX4_put 68 = .ok (.getfield 19, 3) := by decide +kernel
theorem dX4_put_71 : decode cX4_put 71 = .ok (.bipush 6, 2) := by decide +kernel
theorem dX4_put_73 : decode cX4_put 73 = .ok (.iload_n 1, 1) := by decide +kernel
theorem dX4_put_74 : decode cX4_put 74 = .ok (.imul, 1) := by decide +kernel
theorem dX4_put_75 : decode cX4_put 75 = .ok (.iload_n 3, 1) := by decide +kernel
theorem dX4_put_76 : decode cX4_put 76 = .ok (.iadd, 1) := by decide +kernel
theorem dX4_put_77 : decode cX4_put 77 = .ok (.iload_n 2, 1) := by decide +kernel
theorem dX4_put_78 : decode cX4_put 78 = .ok (.iconst 4, 1) := by decide +kernel
theorem dX4_put_79 : decode cX4_put 79 = .ok (.if_icmp .ne 10, 3) := by decide +kernel
theorem dX4_put_82 : decode cX4_put 82 = .ok (.lload 4, 2) := by decide +kernel
theorem dX4_put_84 : decode cX4_put 84 = .ok (.l2i, 1) := by decide +kernel
theorem dX4_put_85 : decode cX4_put 85 = .ok (.i2l, 1) := by decide +kernel
theorem dX4_put_86 : decode cX4_put 86 = .ok (.goto 19, 3) := by decide +kernel
theorem dX4_put_89 : decode cX4_put 89 = .ok (.iload_n 2, 1) := by decide +kernel
theorem dX4_put_90 : decode cX4_put 90 = .ok (.iconst 5, 1) := by decide +kernel
theorem dX4_put_91 : decode cX4_put 91 = .ok (.if_icmp .ne 8, 3) := by decide +kernel
theorem dX4_put_94 : decode cX4_put 94 = .ok (.lload 4, 2) := by decide +kernel
theorem dX4_put_96 : decode cX4_put 96 = .ok (.goto 9, 3) := by decide +kernel
theorem dX4_put_99 : decode cX4_put 99 = .ok (.lload 4, 2) := by decide +kernel
theorem dX4_put_101 : decode cX4_put 101 = .ok (.ldc2_w 120, 3) := by decide +kernel
theorem dX4_put_104 : decode cX4_put 104 = .ok (.land, 1) := by decide +kernel
theorem dX4_put_105 : decode cX4_put 105 = .ok (.lastore, 1) := by decide +kernel
theorem dX4_put_106 : decode cX4_put 106 = .ok (.iconst 1, 1) := by decide +kernel
theorem dX4_put_107 : decode cX4_put 107 = .ok (.ireturn, 1) := by decide +kernel
set_option maxRecDepth 20000 in
theorem ggX4_number_X4_isThing : GoodIn wsX4_number wsX4_isThing := goodIn_r _ [8, 9, 10, 11, 7, 12, 21, 22, 23, 24, 25, 26, 27, 28, 29, 30, 31, 32, 33, 34, 35, 36, 37, 38, 39, 40, 41, 42, 43, 44, 45, 46, 47, 48, 49] (by decide +kernel) (by decide +kernel)
set_option maxRecDepth 20000 in
theorem gX4_number_X4_isThing : GoodIn wsX4_number (wsV RX4 85 RX4 yX4_isThing wsX4_isThing) := goodIn_app (goodIn_of _ (by decide +kernel)) ggX4_number_X4_isThing
set_option maxRecDepth 20000 in
theorem ggX4_number_X4_in : GoodIn wsX4_number wsX4_in := goodIn_r _ [12] (by decide +kernel) (by decide +kernel)
set_option maxRecDepth 20000 in
theorem gX4_number_X4_in : GoodIn wsX4_number (va_wsS RX4 81 yX4_in wsX4_in) := goodIn_app (goodIn_of _ (by decide +kernel)) ggX4_number_X4_in
set_option maxRecDepth 20000 in
theorem ggX4_number_X4_isA : GoodIn wsX4_number wsX4_isA := goodIn_ca (goodIn_r _ [16, 17, 18, 19, 7, 20, 21, 22, 23, 24, 25, 26, 27, 28, 29, 30, 31, 32, 33, 34, 35, 36, 37, 38, 39, 40, 41, 42, 43, 44, 45, 46, 47, 48, 49] (by decide +kernel) (by decide +kernel)) (goodIn_sub (fun _ h => List.mem_cons_of_mem _ (List.mem_append_right _ h)) (by decide +kernel))
set_option maxRecDepth 20000 in
theorem gX4_number_X4_isA : GoodIn wsX4_number (wsV RX4 117 RX4 yX4_isA wsX4_isA) := goodIn_app (goodIn_of _ (by decide +kernel)) ggX4_number_X4_isA
theorem dX4_number_0 : decode cX4_number 0 = .ok (.aload_n 0, 1) := by decide +kernel
theorem dX4_number_1 : decode cX4_number 1 = .ok (.iconst 0, 1) := by decide +kernel
theorem dX4_number_2 : decode cX4_number 2 = .ok (.putfield 74, 3) := by decide +kernel
theorem dX4_number_5 : decode cX4_number 5 = .ok (.aload_n 0, 1) := by decide +kernel
theorem dX4_number_6 : decode cX4_number 6 = .ok (.iload_n 1, 1) := by decide +kernel
theorem dX4_number_7 : decode cX4_number 7 = .ok (.invokevirtual 85, 3) := by decide +kernel
theorem dX4_number_10 : decode cX4_number 10 = .ok (.ifCond .eq 13, 3) := by decide +kernel
theorem dX4_number_13 : decode cX4_number 13 = .ok (.iload_n 2, 1) := by decide +kernel
theorem dX4_number_14 : decode cX4_number 14 = .ok (.iconst 4, 1) := by decide +kernel
theorem dX4_number_15 : decode cX4_number 15 = .ok (.bipush 6, 2) := by decide +kernel
theorem dX4_number_17 : decode cX4_number 17 = .ok (.invokestatic 81, 3) := by decide +kernel
theorem dX4_number_20 : decode cX4_number 20 = .ok (.ifCond .ne 5, 3) := by decide +kernel
theorem dX4_number_23 : decode cX4_number 23 = .ok (.lconst 0, 1) := by decide +kernel
theorem dX4_number_24 : decode cX4_number 24 = .ok (.lreturn, 1) := by decide +kernel
theorem dX4_number_25 : decode cX4_number 25 = .ok (.aload_n 0, 1) := by decide +kernel
theorem dX4_number_26 : decode cX4_number 26 = .ok (.aload_n 0, 1) := by decide +kernel
theorem dX4_number_27 : decode cX4_number 27 = .ok (.iload_n 1, 1) := by decide +kernel
theorem dX4_number_28 : decode cX4_number 28 = .ok (.iload_n 2, 1) := by decide +kernel
theorem dX4_number_29 : decode cX4_number 29 = .ok (.invokevirtual 117, 3) := by decide +kernel
theorem dX4_number_32 : decode cX4_number 32 = .ok (.ifCond .ne 7, 3) := by decide +kernel
theorem dX4_number_35 : decode cX4_number 35 = .ok (.iconst 1, 1) := by decide +kernel
theorem dX4_number_36 : decode cX4_number 36 = .ok (.goto 24, 3) := by decide +kernel
theorem dX4_number_39 : decode cX4_number 39 = .ok (.iload_n 3, 1) := by decide +kernel
theorem dX4_number_40 : decode cX4_number 40 = .ok (.iconst 0, 1) := by decide +kernel
theorem dX4_number_41 : decode cX4_number 41 = .ok (.aload_n 0, 1) := by decide +kernel
theorem dX4_number_42 : decode cX4_number 42 = .ok (.getfield 16, 3) := by decide +kernel
theorem dX4_number_45 : decode cX4_number 45 = .ok (.iload_n 1, 1) := by decide +kernel
theorem dX4_number_46 : decode cX4_number 46 = .ok (.iaload, 1) := by decide +kernel
theorem dX4_number_47 : decode cX4_number 47 = .ok (.iconst 1, 1) := by decide +kernel
theorem dX4_number_48 : decode cX4_number 48 = .ok (.isub, 1) := by decide +kernel
theorem dX4_number_49 : decode cX4_number 49 = .ok (.invokestatic 81, 3) := by decide +kernel
theorem dX4_number_52 : decode cX4_number 52 = .ok (.ifCond .eq 7, 3) := by decide +kernel
theorem dX4_number_55 : decode cX4_number 55 = .ok (.iconst 0, 1) := by decide +kernel
theorem dX4_number_56 : decode cX4_number 56 = .ok (.goto 4, 3) := by decide +kernel
theorem dX4_number_59 : decode cX4_number 59 = .ok (.iconst 2, 1) := by decide +kernel
theorem dX4_number_60 : decode cX4_number 60 = .ok (.putfield 74, 3) := by decide +kernel
theorem dX4_number_63 : decode cX4_number 63 = .ok (.aload_n 0, 1) := by decide +kernel
theorem dX4_number_64 : decode cX4_number 64 = .ok (.getfield 74, 3) := by decide +kernel
theorem dX4_number_67 : decode cX4_number 67 = .ok (.ifCond .ne 17, 3) := by decide +kernel
theorem dX4_number_70 : decode cX4_number 70 = .ok (.aload_n 0, 1) := by decide +kernel
theorem dX4_number_71 : decode cX4_number 71 = .ok (.getfield 19, 3) := by decide +kernel
theorem dX4_number_74 : decode cX4_number 74 = .ok (.bipush 6, 2) := by decide +kernel
theorem dX4_number_76 : decode cX4_number 76 = .ok (.iload_n 1, 1) := by decide +kernel
theorem dX4_number_77 : decode cX4_number 77 = .ok (.imul, 1) := by decide +kernel
theorem dX4_number_78 : decode cX4_number 78 = .ok (.iload_n 3, 1) := by decide +kernel
theorem dX4_number_79 : decode cX4_number 79 = .ok (.iadd, 1) := by decide +kernel
theorem dX4_number_80 : decode cX4_number 80 = .ok (.laload, 1) := by decide +kernel
theorem dX4_number_81 : decode cX4_number 81 = .ok (.goto 4, 3) := by decide +kernel
theorem dX4_number_84 : decode cX4_number 84 = .ok (.lconst 0, 1) := by decide +kernel
theorem dX4_number_85 : decode cX4_number 85 = .ok (.lreturn, 1) := by decide +kernel
set_option maxRecDepth 20000 in
theorem ggX4_at_X4_isThing : GoodIn wsX4_at wsX4_isThing := goodIn_r _ [8, 9, 10, 11, 7, 12, 26, 27, 28, 29, 30, 31, 32, 33, 34, 35, 36, 37, 38, 39, 40, 41, 42, 43, 44, 45, 46, 47, 48, 49, 50, 51, 52, 53, 54] (by decide +kernel) (by decide +kernel)
set_option maxRecDepth 20000 in
theorem gX4_at_X4_isThing : GoodIn wsX4_at (wsV RX4 85 RX4 yX4_isThing wsX4_isThing) := goodIn_app (goodIn_of _ (by decide +kernel)) ggX4_at_X4_isThing
set_option maxRecDepth 20000 in
theorem ggX4_at_X4_in : GoodIn wsX4_at wsX4_in := goodIn_r _ [12] (by decide +kernel) (by decide +kernel)
set_option maxRecDepth 20000 in
theorem gX4_at_X4_in : GoodIn wsX4_at (va_wsS RX4 81 yX4_in wsX4_in) := goodIn_app (goodIn_of _ (by decide +kernel)) ggX4_at_X4_in
set_option maxRecDepth 20000 in
theorem ggX4_at_X4_isA : GoodIn wsX4_at wsX4_isA := goodIn_ca (goodIn_r _ [16, 17, 18, 19, 7, 20, 26, 27, 28, 29, 30, 31, 32, 33, 34, 35, 36, 37, 38, 39, 40, 41, 42, 43, 44, 45, 46, 47, 48, 49, 50, 51, 52, 53, 54] (by decide +kernel) (by decide +kernel)) (goodIn_sub (fun _ h => List.mem_cons_of_mem _ (List.mem_append_right _ h)) (by decide +kernel))
set_option maxRecDepth 20000 in
theorem gX4_at_X4_isA : GoodIn wsX4_at (wsV RX4 117 RX4 yX4_isA wsX4_isA) := goodIn_app (goodIn_of _ (by decide +kernel)) ggX4_at_X4_isA
set_option maxRecDepth 20000 in
theorem ggX4_at_X4_finds : GoodIn wsX4_at wsX4_finds := goodIn_ca (goodIn_r _ [24, 25, 26, 27, 28, 29, 30, 31, 32, 33, 34, 35, 36, 37, 38, 39, 40, 41, 42, 43, 44, 45, 46, 47, 48, 49, 50, 51, 52, 53, 54] (by decide +kernel) (by decide +kernel)) (goodIn_sub (fun _ h => List.mem_cons_of_mem _ (List.mem_append_right _ h)) (by decide +kernel))
set_option maxRecDepth 20000 in
theorem gX4_at_X4_finds : GoodIn wsX4_at (wsV RX4 97 RX4 yX4_finds wsX4_finds) := goodIn_app (goodIn_of _ (by decide +kernel)) ggX4_at_X4_finds
theorem dX4_at_0 : decode cX4_at 0 = .ok (.aload_n 0, 1) := by decide +kernel
theorem dX4_at_1 : decode cX4_at 1 = .ok (.iconst 0, 1) := by decide +kernel
theorem dX4_at_2 : decode cX4_at 2 = .ok (.putfield 74, 3) := by decide +kernel
theorem dX4_at_5 : decode cX4_at 5 = .ok (.aload_n 0, 1) := by decide +kernel
theorem dX4_at_6 : decode cX4_at 6 = .ok (.iload_n 1, 1) := by decide +kernel
theorem dX4_at_7 : decode cX4_at 7 = .ok (.invokevirtual 85, 3) := by decide +kernel
theorem dX4_at_10 : decode cX4_at 10 = .ok (.ifCond .ne 5, 3) := by decide +kernel
theorem dX4_at_13 : decode cX4_at 13 = .ok (.iconst (-1), 1) := by decide +kernel
theorem dX4_at_14 : decode cX4_at 14 = .ok (.ireturn, 1) := by decide +kernel
theorem dX4_at_15 : decode cX4_at 15 = .ok (.iload_n 2, 1) := by decide +kernel
theorem dX4_at_16 : decode cX4_at 16 = .ok (.iconst 2, 1) := by decide +kernel
theorem dX4_at_17 : decode cX4_at 17 = .ok (.if_icmp .ne 15, 3) := by decide +kernel
theorem dX4_at_20 : decode cX4_at 20 = .ok (.iload_n 3, 1) := by decide +kernel
theorem dX4_at_21 : decode cX4_at 21 = .ok (.iconst 0, 1) := by decide +kernel
theorem dX4_at_22 : decode cX4_at 22 = .ok (.iconst 1, 1) := by decide +kernel
theorem dX4_at_23 : decode cX4_at 23 = .ok (.invokestatic 81, 3) := by decide +kernel
theorem dX4_at_26 : decode cX4_at 26 = .ok (.ifCond .ne 20, 3) := by decide +kernel
theorem dX4_at_29 : decode cX4_at 29 = .ok (.goto 14, 3) := by decide +kernel
theorem dX4_at_32 : decode cX4_at 32 = .ok (.iload_n 2, 1) := by decide +kernel
theorem dX4_at_33 : decode cX4_at 33 = .ok (.bipush 7, 2) := by decide +kernel
theorem dX4_at_35 : decode cX4_at 35 = .ok (.bipush 13, 2) := by decide +kernel
theorem dX4_at_37 : decode cX4_at 37 = .ok (.invokestatic 81, 3) := by decide +kernel
theorem dX4_at_40 : decode cX4_at 40 = .ok (.ifCond .ne 6, 3) := by decide +kernel
theorem dX4_at_43 : decode cX4_at 43 = .ok (.bipush (-2), 2) := by decide +kernel
theorem dX4_at_45 : decode cX4_at 45 = .ok (.ireturn, 1) := by decide +kernel
theorem dX4_at_46 : decode cX4_at 46 = .ok (.aload_n 0, 1) := by decide +kernel
theorem dX4_at_47 : decode cX4_at 47 = .ok (.iload_n 1, 1) := by decide +kernel
theorem dX4_at_48 : decode cX4_at 48 = .ok (.iload_n 2, 1) := by decide +kernel
theorem dX4_at_49 : decode cX4_at 49 = .ok (.invokevirtual 117, 3) := by decide +kernel
theorem dX4_at_52 : decode cX4_at 52 = .ok (.ifCond .ne 10, 3) := by decide +kernel
theorem dX4_at_55 : decode cX4_at 55 = .ok (.aload_n 0, 1) := by decide +kernel
theorem dX4_at_56 : decode cX4_at 56 = .ok (.bipush (-21), 2) := by decide +kernel
theorem dX4_at_58 : decode cX4_at 58 = .ok (.invokevirtual 97, 3) := by decide +kernel
theorem dX4_at_61 : decode cX4_at 61 = .ok (.ireturn, 1) := by decide +kernel
theorem dX4_at_62 : decode cX4_at 62 = .ok (.iload_n 3, 1) := by decide +kernel
theorem dX4_at_63 : decode cX4_at 63 = .ok (.iconst 0, 1) := by decide +kernel
theorem dX4_at_64 : decode cX4_at 64 = .ok (.aload_n 0, 1) := by decide +kernel
theorem dX4_at_65 : decode cX4_at 65 = .ok (.getfield 16, 3) := by decide +kernel
theorem dX4_at_68 : decode cX4_at 68 = .ok (.iload_n 1, 1) := by decide +kernel
theorem dX4_at_69 : decode cX4_at 69 = .ok (.iaload, 1) := by decide +kernel
theorem dX4_at_70 : decode cX4_at 70 = .ok (.iconst 1, 1) := by decide +kernel
theorem dX4_at_71 : decode cX4_at 71 = .ok (.isub, 1) := by decide +kernel
theorem dX4_at_72 : decode cX4_at 72 = .ok (.invokestatic 81, 3) := by decide +kernel
theorem dX4_at_75 : decode cX4_at 75 = .ok (.ifCond .eq 17, 3) := by decide +kernel
theorem dX4_at_78 : decode cX4_at 78 = .ok (.aload_n 0, 1) := by decide +kernel
theorem dX4_at_79 : decode cX4_at 79 = .ok (.getfield 23, 3) := by decide +kernel
theorem dX4_at_82 : decode cX4_at 82 = .ok (.bipush 6, 2) := by decide +kernel
theorem dX4_at_84 : decode cX4_at 84 = .ok (.iload_n 1, 1) := by decide +kernel
theorem dX4_at_85 : decode cX4_at 85 = .ok (.imul, 1) := by decide +kernel
theorem dX4_at_86 : decode cX4_at 86 = .ok (.iload_n 3, 1) := by decide +kernel
theorem dX4_at_87 : decode cX4_at 87 = .ok (.iadd, 1) := by decide +kernel
theorem dX4_at_88 : decode cX4_at 88 = .ok (.iaload, 1) := by decide +kernel
theorem dX4_at_89 : decode cX4_at 89 = .ok (.goto 9, 3) := by decide +kernel
theorem dX4_at_92 : decode cX4_at 92 = .ok (.aload_n 0, 1) := by decide +kernel
theorem dX4_at_93 : decode cX4_at 93 = .ok (.bipush (-23), 2) := by decide +kernel
theorem dX4_at_95 : decode cX4_at 95 = .ok (.invokevirtual 97, 3) := by decide +kernel
theorem dX4_at_98 : decode cX4_at 98 = .ok (.ireturn, 1) := by decide +kernel
set_option maxRecDepth 20000 in
theorem ggX4_is_X4_isThing : GoodIn wsX4_is wsX4_isThing := goodIn_r _ [6, 7, 8, 9, 5, 10, 19, 20, 21, 22, 23, 24, 25, 26, 27, 28, 29, 30, 31, 32, 33, 34, 35, 36, 37, 38, 39, 40, 41, 42, 43, 44, 45, 46, 47] (by decide +kernel) (by decide +kernel)
set_option maxRecDepth 20000 in
theorem gX4_is_X4_isThing : GoodIn wsX4_is (wsV RX4 85 RX4 yX4_isThing wsX4_isThing) := goodIn_app (goodIn_of _ (by decide +kernel)) ggX4_is_X4_isThing
set_option maxRecDepth 20000 in
theorem ggX4_is_X4_in : GoodIn wsX4_is wsX4_in := goodIn_r _ [10] (by decide +kernel) (by decide +kernel)
set_option maxRecDepth 20000 in
theorem gX4_is_X4_in : GoodIn wsX4_is (va_wsS RX4 81 yX4_in wsX4_in) := goodIn_app (goodIn_of _ (by decide +kernel)) ggX4_is_X4_in
set_option maxRecDepth 20000 in
theorem ggX4_is_X4_isA : GoodIn wsX4_is wsX4_isA := goodIn_ca (goodIn_r _ [14, 15, 16, 17, 5, 18, 19, 20, 21, 22, 23, 24, 25, 26, 27, 28, 29, 30, 31, 32, 33, 34, 35, 36, 37, 38, 39, 40, 41, 42, 43, 44, 45, 46, 47] (by decide +kernel) (by decide +kernel)) (goodIn_sub (fun _ h => List.mem_cons_of_mem _ (List.mem_append_right _ h)) (by decide +kernel))
set_option maxRecDepth 20000 in
theorem gX4_is_X4_isA : GoodIn wsX4_is (wsV RX4 117 RX4 yX4_isA wsX4_isA) := goodIn_app (goodIn_of _ (by decide +kernel)) ggX4_is_X4_isA
theorem dX4_is_0 : decode cX4_is 0 = .ok (.aload_n 0, 1) := by decide +kernel
theorem dX4_is_1 : decode cX4_is 1 = .ok (.iconst 0, 1) := by decide +kernel
theorem dX4_is_2 : decode cX4_is 2 = .ok (.putfield 74, 3) := by decide +kernel
theorem dX4_is_5 : decode cX4_is 5 = .ok (.aload_n 0, 1) := by decide +kernel
theorem dX4_is_6 : decode cX4_is 6 = .ok (.iload_n 1, 1) := by decide +kernel
theorem dX4_is_7 : decode cX4_is 7 = .ok (.invokevirtual 85, 3) := by decide +kernel
theorem dX4_is_10 : decode cX4_is 10 = .ok (.ifCond .ne 5, 3) := by decide +kernel
theorem dX4_is_13 : decode cX4_is 13 = .ok (.iconst (-1), 1) := by decide +kernel
theorem dX4_is_14 : decode cX4_is 14 = .ok (.ireturn, 1) := by decide +kernel
theorem dX4_is_15 : decode cX4_is 15 = .ok (.iload_n 2, 1) := by decide +kernel
theorem dX4_is_16 : decode cX4_is 16 = .ok (.iconst 0, 1) := by decide +kernel
theorem dX4_is_17 : decode cX4_is 17 = .ok (.bipush 15, 2) := by decide +kernel
theorem dX4_is_19 : decode cX4_is 19 = .ok (.invokestatic 81, 3) := by decide +kernel
theorem dX4_is_22 : decode cX4_is 22 = .ok (.ifCond .ne 8, 3) := by decide +kernel
theorem dX4_is_25 : decode cX4_is 25 = .ok (.bipush (-2), 2) := by decide +kernel
theorem dX4_is_27 : decode cX4_is 27 = .ok (.goto 17, 3) := by decide +kernel
theorem dX4_is_30 : decode cX4_is 30 = .ok (.aload_n 0, 1) := by decide +kernel
theorem dX4_is_31 : decode cX4_is 31 = .ok (.iload_n 1, 1) := by decide +kernel
theorem dX4_is_32 : decode cX4_is 32 = .ok (.iload_n 2, 1) := by decide +kernel
theorem dX4_is_33 : decode cX4_is 33 = .ok (.invokevirtual 117, 3) := by decide +kernel
theorem dX4_is_36 : decode cX4_is 36 = .ok (.ifCond .eq 7, 3) := by decide +kernel
theorem dX4_is_39 : decode cX4_is 39 = .ok (.iconst 1, 1) := by decide +kernel
theorem dX4_is_40 : decode cX4_is 40 = .ok (.goto 4, 3) := by decide +kernel
theorem dX4_is_43 : decode cX4_is 43 = .ok (.iconst 0, 1) := by decide +kernel
theorem dX4_is_44 : decode cX4_is 44 = .ok (.ireturn, 1) := by decide +kernel
set_option maxRecDepth 20000 in
theorem ggX4_isPattern_X4_in : GoodIn wsX4_isPattern wsX4_in := goodIn_r _ [5] (by decide +kernel) (by decide +kernel)
set_option maxRecDepth 20000 in
theorem gX4_isPattern_X4_in : GoodIn wsX4_isPattern (va_wsS RX4 81 yX4_in wsX4_in) := goodIn_app (goodIn_of _ (by decide +kernel)) ggX4_isPattern_X4_in
theorem dX4_isPattern_0 : decode cX4_isPattern 0 = .ok (.iload_n 1, 1) := by decide +kernel
theorem dX4_isPattern_1 : decode cX4_isPattern 1 = .ok (.iconst 0, 1) := by decide +kernel
theorem dX4_isPattern_2 : decode cX4_isPattern 2 = .ok (.aload_n 0, 1) := by decide +kernel
theorem dX4_isPattern_3 : decode cX4_isPattern 3 = .ok (.getfield 122, 3) := by decide +kernel
theorem dX4_isPattern_6 : decode cX4_isPattern 6 = .ok (.iconst 1, 1) := by decide +kernel
theorem dX4_isPattern_7 : decode cX4_isPattern 7 = .ok (.isub, 1) := by decide +kernel
theorem dX4_isPattern_8 : decode cX4_isPattern 8 = .ok (.invokestatic 81, 3) := by decide +kernel
theorem dX4_isPattern_11 : decode cX4_isPattern 11 = .ok (.ireturn, 1) := by decide +kernel
set_option maxRecDepth 20000 in
theorem ggX4_isWell_X4_in : GoodIn wsX4_isWell wsX4_in := goodIn_r _ [4] (by decide +kernel) (by decide +kernel)
set_option maxRecDepth 20000 in
theorem gX4_isWell_X4_in : GoodIn wsX4_isWell (va_wsS RX4 81 yX4_in wsX4_in) := goodIn_app (goodIn_of _ (by decide +kernel)) ggX4_isWell_X4_in
theorem dX4_isWell_0 : decode cX4_isWell 0 = .ok (.iload_n 0, 1) := by decide +kernel
theorem dX4_isWell_1 : decode cX4_isWell 1 = .ok (.tableswitch 111 0 13 #[71, 71, 111, 111, 79, 79, 88, 111, 111, 111, 96, 96, 111, 103], 71) := by decide +kernel
theorem dX4_isWell_72 : decode cX4_isWell 72 = .ok (.iload_n 1, 1) := by decide +kernel
theorem dX4_isWell_73 : decode cX4_isWell 73 = .ok (.iconst 0, 1) := by decide +kernel
theorem dX4_isWell_74 : decode cX4_isWell 74 = .ok (.bipush 15, 2) := by decide +kernel
theorem dX4_isWell_76 : decode cX4_isWell 76 = .ok (.invokestatic 81, 3) := by decide +kernel
theorem dX4_isWell_79 : decode cX4_isWell 79 = .ok (.ireturn, 1) := by decide +kernel
theorem dX4_isWell_80 : decode cX4_isWell 80 = .ok (.iload_n 1, 1) := by decide +kernel
theorem dX4_isWell_81 : decode cX4_isWell 81 = .ok (.bipush 7, 2) := by decide +kernel
theorem dX4_isWell_83 : decode cX4_isWell 83 = .ok (.bipush 13, 2) := by decide +kernel
theorem dX4_isWell_85 : decode cX4_isWell 85 = .ok (.invokestatic 81, 3) := by decide +kernel
theorem dX4_isWell_88 : decode cX4_isWell 88 = .ok (.ireturn, 1) := by decide +kernel
theorem dX4_isWell_89 : decode cX4_isWell 89 = .ok (.iload_n 1, 1) := by decide +kernel
theorem dX4_isWell_90 : decode cX4_isWell 90 = .ok (.iconst 4, 1) := by decide +kernel
theorem dX4_isWell_91 : decode cX4_isWell 91 = .ok (.bipush 6, 2) := by decide +kernel
theorem dX4_isWell_93 : decode cX4_isWell 93 = .ok (.invokestatic 81, 3) := by decide +kernel
theorem dX4_isWell_96 : decode cX4_isWell 96 = .ok (.ireturn, 1) := by decide +kernel
theorem dX4_isWell_97 : decode cX4_isWell 97 = .ok (.iload_n 1, 1) := by decide +kernel
theorem dX4_isWell_98 : decode cX4_isWell 98 = .ok (.iconst 0, 1) := by decide +kernel
theorem dX4_isWell_99 : decode cX4_isWell 99 = .ok (.iconst 3, 1) := by decide +kernel
theorem dX4_isWell_100 : decode cX4_isWell 100 = .ok (.invokestatic 81, 3) := by decide +kernel
theorem dX4_isWell_103 : decode cX4_isWell 103 = .ok (.ireturn, 1) := by decide +kernel
theorem dX4_isWell_104 : decode cX4_isWell 104 = .ok (.iload_n 1, 1) := by decide +kernel
theorem dX4_isWell_105 : decode cX4_isWell 105 = .ok (.iconst 4, 1) := by decide +kernel
theorem dX4_isWell_106 : decode cX4_isWell 106 = .ok (.bipush 13, 2) := by decide +kernel
theorem dX4_isWell_108 : decode cX4_isWell 108 = .ok (.invokestatic 81, 3) := by decide +kernel
theorem dX4_isWell_111 : decode cX4_isWell 111 = .ok (.ireturn, 1) := by decide +kernel
theorem dX4_isWell_112 : decode cX4_isWell 112 = .ok (.iconst 1, 1) := by decide +kernel
theorem dX4_isWell_113 : decode cX4_isWell 113 = .ok (.ireturn, 1) := by decide +kernel
set_option maxRecDepth 20000 in
theorem ggX4_areKnown_X4_isPattern : GoodIn wsX4_areKnown wsX4_isPattern := goodIn_r _ [5, 6, 7, 8, 4, 9, 10, 11, 12, 13, 14, 15, 16, 17, 18, 19, 20, 21, 22, 23, 24, 25, 26, 27, 28, 29, 30, 31, 32, 33, 34, 35, 36, 37, 38] (by decide +kernel) (by decide +kernel)
set_option maxRecDepth 20000 in
theorem gX4_areKnown_X4_isPattern : GoodIn wsX4_areKnown (wsV RX4 125 RX4 yX4_isPattern wsX4_isPattern) := goodIn_app (goodIn_of _ (by decide +kernel)) ggX4_areKnown_X4_isPattern
theorem dX4_areKnown_0 : decode cX4_areKnown 0 = .ok (.iload_n 1, 1) := by decide +kernel
theorem dX4_areKnown_1 : decode cX4_areKnown 1 = .ok (.tableswitch 92 1 9 #[51, 92, 57, 51, 79, 92, 57, 57, 86], 51) := by decide +kernel
theorem dX4_areKnown_52 : decode cX4_areKnown 52 = .ok (.aload_n 0, 1) := by decide +kernel
theorem dX4_areKnown_53 : decode cX4_areKnown 53 = .ok (.iload_n 3, 1) := by decide +kernel
theorem dX4_areKnown_54 : decode cX4_areKnown 54 = .ok (.invokevirtual 125, 3) := by decide +kernel
theorem dX4_areKnown_57 : decode cX4_areKnown 57 = .ok (.ireturn, 1) := by decide +kernel
theorem dX4_areKnown_58 : decode cX4_areKnown 58 = .ok (.aload_n 0, 1) := by decide +kernel
theorem dX4_areKnown_59 : decode cX4_areKnown 59 = .ok (.iload_n 2, 1) := by decide +kernel
theorem dX4_areKnown_60 : decode cX4_areKnown 60 = .ok (.invokevirtual 125, 3) := by decide +kernel
theorem dX4_areKnown_63 : decode cX4_areKnown 63 = .ok (.ifCond .eq 15, 3) := by decide +kernel
theorem dX4_areKnown_66 : decode cX4_areKnown 66 = .ok (.aload_n 0, 1) := by decide +kernel
theorem dX4_areKnown_67 : decode cX4_areKnown 67 = .ok (.iload_n 3, 1) := by decide +kernel
theorem dX4_areKnown_68 : decode cX4_areKnown 68 = .ok (.invokevirtual 125, 3) := by decide +kernel
theorem dX4_areKnown_71 : decode cX4_areKnown 71 = .ok (.ifCond .eq 7, 3) := by decide +kernel
theorem dX4_areKnown_74 : decode cX4_areKnown 74 = .ok (.iconst 1, 1) := by decide +kernel
theorem dX4_areKnown_75 : decode cX4_areKnown 75 = .ok (.goto 4, 3) := by decide +kernel
theorem dX4_areKnown_78 : decode cX4_areKnown 78 = .ok (.iconst 0, 1) := by decide +kernel
theorem dX4_areKnown_79 : decode cX4_areKnown 79 = .ok (.ireturn, 1) := by decide +kernel
theorem dX4_areKnown_80 : decode cX4_areKnown 80 = .ok (.aload_n 0, 1) := by decide +kernel
theorem dX4_areKnown_81 : decode cX4_areKnown 81 = .ok (.iload 4, 2) := by decide +kernel
theorem dX4_areKnown_83 : decode cX4_areKnown 83 = .ok (.invokevirtual 125, 3) := by decide +kernel
theorem dX4_areKnown_86 : decode cX4_areKnown 86 = .ok (.ireturn, 1) := by decide +kernel
theorem dX4_areKnown_87 : decode cX4_areKnown 87 = .ok (.aload_n 0, 1) := by decide +kernel
theorem dX4_areKnown_88 : decode cX4_areKnown 88 = .ok (.iload_n 2, 1) := by decide +kernel
theorem dX4_areKnown_89 : decode cX4_areKnown 89 = .ok (.invokevirtual 125, 3) := by decide +kernel
theorem dX4_areKnown_92 : decode cX4_areKnown 92 = .ok (.ireturn, 1) := by decide +kernel
theorem dX4_areKnown_93 : decode cX4_areKnown 93 = .ok (.iconst 1, 1) := by decide +kernel
theorem dX4_areKnown_94 : decode cX4_areKnown 94 = .ok (.ireturn, 1) := by decide +kernel
set_option maxRecDepth 20000 in
theorem ggX4_pattern_X4_in : GoodIn wsX4_pattern wsX4_in := goodIn_r _ [10] (by decide +kernel) (by decide +kernel)
set_option maxRecDepth 20000 in
theorem gX4_pattern_X4_in : GoodIn wsX4_pattern (va_wsS RX4 81 yX4_in wsX4_in) := goodIn_app (goodIn_of _ (by decide +kernel)) ggX4_pattern_X4_in
set_option maxRecDepth 20000 in
theorem ggX4_pattern_X4_isWell : GoodIn wsX4_pattern wsX4_isWell := goodIn_r _ [13, 7, 8, 9, 10] (by decide +kernel) (by decide +kernel)
set_option maxRecDepth 20000 in
theorem gX4_pattern_X4_isWell : GoodIn wsX4_pattern (va_wsS RX4 128 yX4_isWell wsX4_isWell) := goodIn_app (goodIn_of _ (by decide +kernel)) ggX4_pattern_X4_isWell
set_option maxRecDepth 20000 in
theorem ggX4_pattern_X4_areKnown : GoodIn wsX4_pattern wsX4_areKnown := goodIn_r _ [17, 18, 19, 20, 9, 21, 2, 7, 8, 10, 22, 23, 24, 25, 26, 27, 28, 29, 30, 31, 32, 33, 34, 35, 36, 37, 38, 39, 40, 41, 42, 43, 44, 45, 46, 47, 48, 49, 50] (by decide +kernel) (by decide +kernel)
set_option maxRecDepth 20000 in
theorem gX4_pattern_X4_areKnown : GoodIn wsX4_pattern (wsV RX4 131 RX4 yX4_areKnown wsX4_areKnown) := goodIn_app (goodIn_of _ (by decide +kernel)) ggX4_pattern_X4_areKnown
theorem dX4_pattern_0 : decode cX4_pattern 0 = .ok (.aload_n 0, 1) := by decide +kernel
theorem dX4_pattern_1 : decode cX4_pattern 1 = .ok (.iconst 0, 1) := by decide +kernel
theorem dX4_pattern_2 : decode cX4_pattern 2 = .ok (.putfield 74, 3) := by decide +kernel
theorem dX4_pattern_5 : decode cX4_pattern 5 = .ok (.iload_n 1, 1) := by decide +kernel
theorem dX4_pattern_6 : decode cX4_pattern 6 = .ok (.iconst 0, 1) := by decide +kernel
theorem dX4_pattern_7 : decode cX4_pattern 7 = .ok (.bipush 13, 2) := by decide +kernel
theorem dX4_pattern_9 : decode cX4_pattern 9 = .ok (.invokestatic 81, 3) := by decide +kernel
theorem dX4_pattern_12 : decode cX4_pattern 12 = .ok (.ifCond .eq 11, 3) := by decide +kernel
theorem dX4_pattern_15 : decode cX4_pattern 15 = .ok (.iload_n 1, 1) := by decide +kernel
theorem dX4_pattern_16 : decode cX4_pattern 16 = .ok (.iload_n 2, 1) := by decide +kernel
theorem dX4_pattern_17 : decode cX4_pattern 17 = .ok (.invokestatic 128, 3) := by decide +kernel
theorem dX4_pattern_20 : decode cX4_pattern 20 = .ok (.ifCond .ne 6, 3) := by decide +kernel
theorem dX4_pattern_23 : decode cX4_pattern 23 = .ok (.bipush (-2), 2) := by decide +kernel
theorem dX4_pattern_25 : decode cX4_pattern 25 = .ok (.ireturn, 1) := by decide +kernel
theorem dX4_pattern_26 : decode cX4_pattern 26 = .ok (.aload_n 0, 1) := by decide +kernel
theorem dX4_pattern_27 : decode cX4_pattern 27 = .ok (.iload_n 1, 1) := by decide +kernel
theorem dX4_pattern_28 : decode cX4_pattern 28 = .ok (.iload_n 2, 1) := by decide +kernel
theorem dX4_pattern_29 : decode cX4_pattern 29 = .ok (.iload_n 3, 1) := by decide +kernel
theorem dX4_pattern_30 : decode cX4_pattern 30 = .ok (.iload 4, 2) := by decide +kernel
theorem dX4_pattern_32 : decode cX4_pattern 32 = .ok (.invokevirtual 131, 3) := by decide +kernel
theorem dX4_pattern_35 : decode cX4_pattern 35 = .ok (.ifCond .ne 5, 3) := by decide +kernel
theorem dX4_pattern_38 : decode cX4_pattern 38 = .ok (.iconst (-1), 1) := by decide +kernel
theorem dX4_pattern_39 : decode cX4_pattern 39 = .ok (.ireturn, 1) := by decide +kernel
theorem dX4_pattern_40 : decode cX4_pattern 40 = .ok (.aload_n 0, 1) := by decide +kernel
theorem dX4_pattern_41 : decode cX4_pattern 41 = .ok (.getfield 122, 3) := by decide +kernel
theorem dX4_pattern_44 : decode cX4_pattern 44 = .ok (.bipush 40, 2) := by decide +kernel
theorem dX4_pattern_46 : decode cX4_pattern 46 = .ok (.if_icmp .ne 6, 3) := by decide +kernel
theorem dX4_pattern_49 : decode cX4_pattern 49 = .ok (.bipush (-4), 2) := by decide +kernel
theorem dX4_pattern_51 : decode cX4_pattern 51 = .ok (.ireturn, 1) := by decide +kernel
theorem dX4_pattern_52 : decode cX4_pattern 52 = .ok (.aload_n 0, 1) := by decide +kernel
theorem dX4_pattern_53 : decode cX4_pattern 53 = .ok (.getfield 26, 3) := by decide +kernel
theorem dX4_pattern_56 : decode cX4_pattern 56 = .ok (.aload_n 0, 1) := by decide +kernel
theorem dX4_pattern_57 : decode cX4_pattern 57 = .ok (.getfield 122, 3) := by decide +kernel
theorem dX4_pattern_60 : decode cX4_pattern 60 = .ok (.iload_n 1, 1) := by decide +kernel
theorem dX4_pattern_61 : decode cX4_pattern 61 = .ok (.iastore, 1) := by decide +kernel
theorem dX4_pattern_62 : decode cX4_pattern 62 = .ok (.aload_n 0, 1) := by decide +kernel
theorem dX4_pattern_63 : decode cX4_pattern 63 = .ok (.getfield 29, 3) := by decide +kernel
theorem dX4_pattern_66 : decode cX4_pattern 66 = .ok (.aload_n 0, 1) := by decide +kernel
theorem dX4_pattern_67 : decode cX4_pattern 67 = .ok (.getfield 122, 3) := by decide +kernel
theorem dX4_pattern_70 : decode cX4_pattern 70 = .ok (.iload_n 2, 1) := by decide +kernel
theorem dX4_pattern_71 : decode cX4_pattern 71 = .ok (.iastore, 1) := by decide +kernel
theorem dX4_pattern_72 : decode cX4_pattern 72 = .ok (.aload_n 0, 1) := by decide +kernel
theorem dX4_pattern_73 : decode cX4_pattern 73 = .ok (.getfield 32, 3) := by decide +kernel
theorem dX4_pattern_76 : decode cX4_pattern 76 = .ok (.aload_n 0, 1) := by decide +kernel
theorem dX4_pattern_77 : decode cX4_pattern 77 = .ok (.getfield 122, 3) := by decide +kernel
theorem dX4_pattern_80 : decode cX4_pattern 80 = .ok (.iload_n 3, 1) := by decide +kernel
theorem dX4_pattern_81 : decode cX4_pattern 81 = .ok (.iastore, 1) := by decide +kernel
theorem dX4_pattern_82 : decode cX4_pattern 82 = .ok (.aload_n 0, 1) := by decide +kernel
theorem dX4_pattern_83 : decode cX4_pattern 83 = .ok (.getfield 35, 3) := by decide +kernel
theorem dX4_pattern_86 : decode cX4_pattern 86 = .ok (.aload_n 0, 1) := by decide +kernel
theorem dX4_pattern_87 : decode cX4_pattern 87 = .ok (.getfield 122, 3) := by decide +kernel
theorem dX4_pattern_90 : decode cX4_pattern 90 = .ok (.iload 4, 2) := by decide +kernel
theorem dX4_pattern_92 : decode cX4_pattern 92 = .ok (.iastore, 1) := by decide +kernel
theorem dX4_pattern_93 : decode cX4_pattern 93 = .ok (.aload_n 0, 1) := by decide +kernel
theorem dX4_pattern_94 : decode cX4_pattern 94 = .ok (.dup, 1) := by decide +kernel
theorem dX4_pattern_95 : decode cX4_pattern 95 = .ok (.getfield 122, 3) := by decide +kernel
theorem dX4_pattern_98 : decode cX4_pattern 98 = .ok (.iconst 1, 1) := by decide +kernel
theorem dX4_pattern_99 : decode cX4_pattern 99 = .ok (.iadd, 1) := by decide +kernel
theorem dX4_pattern_100 : decode cX4_pattern 100 = .ok (.putfield 122, 3) := by decide +kernel
theorem dX4_pattern_103 : decode cX4_pattern 103 = .ok (.aload_n 0, 1) := by decide +kernel
theorem dX4_pattern_104 : decode cX4_pattern 104 = .ok (.getfield 122, 3) := by decide +kernel
theorem dX4_pattern_107 : decode cX4_pattern 107 = .ok (.iconst 1, 1) := by decide +kernel
theorem dX4_pattern_108 : decode cX4_pattern 108 = .ok (.isub, 1) := by decide +kernel
theorem dX4_pattern_109 : decode cX4_pattern 109 = .ok (.ireturn, 1) := by decide +kernel
theorem dX4_look_0 : decode cX4_look 0 = .ok (.aload_n 0, 1) := by decide +kernel
theorem dX4_look_1 : decode cX4_look 1 = .ok (.getfield 135, 3) := by decide +kernel
theorem dX4_look_4 : decode cX4_look 4 = .ok (.ifCond .eq 4, 3) := by decide +kernel
theorem dX4_look_7 : decode cX4_look 7 = .ok (.return_, 1) := by decide +kernel
theorem dX4_look_8 : decode cX4_look 8 = .ok (.aload_n 0, 1) := by decide +kernel
theorem dX4_look_9 : decode cX4_look 9 = .ok (.getfield 138, 3) := by decide +kernel
theorem dX4_look_12 : decode cX4_look 12 = .ok (.sipush 300, 3) := by decide +kernel
theorem dX4_look_15 : decode cX4_look 15 = .ok (.if_icmp .ne 10, 3) := by decide +kernel
theorem dX4_look_18 : decode cX4_look 18 = .ok (.aload_n 0, 1) := by decide +kernel
theorem dX4_look_19 : decode cX4_look 19 = .ok (.bipush (-26), 2) := by decide +kernel
theorem dX4_look_21 : decode cX4_look 21 = .ok (.putfield 135, 3) := by decide +kernel
theorem dX4_look_24 : decode cX4_look 24 = .ok (.return_, 1) := by decide +kernel
theorem dX4_look_25 : decode cX4_look 25 = .ok (.aload_n 0, 1) := by decide +kernel
theorem dX4_look_26 : decode cX4_look 26 = .ok (.dup, 1) := by decide +kernel
theorem dX4_look_27 : decode cX4_look 27 = .ok (.getfield 138, 3) := by decide +kernel
theorem dX4_look_30 : decode cX4_look 30 = .ok (.iconst 1, 1) := by decide +kernel
theorem dX4_look_31 : decode cX4_look 31 = .ok (.iadd, 1) := by decide +kernel
theorem dX4_look_32 : decode cX4_look 32 = .ok (.putfield 138, 3) := by decide +kernel
theorem dX4_look_35 : decode cX4_look 35 = .ok (.aload_n 0, 1) := by decide +kernel
theorem dX4_look_36 : decode cX4_look 36 = .ok (.getfield 65, 3) := by decide +kernel
theorem dX4_look_39 : decode cX4_look 39 = .ok (.aload_n 0, 1) := by decide +kernel
theorem dX4_look_40 : decode cX4_look 40 = .ok (.getfield 141, 3) := by decide +kernel
theorem dX4_look_43 : decode cX4_look 43 = .ok (.iload_n 1, 1) := by decide +kernel
theorem dX4_look_44 : decode cX4_look 44 = .ok (.iastore, 1) := by decide +kernel
theorem dX4_look_45 : decode cX4_look 45 = .ok (.aload_n 0, 1) := by decide +kernel
theorem dX4_look_46 : decode cX4_look 46 = .ok (.getfield 68, 3) := by decide +kernel
theorem dX4_look_49 : decode cX4_look 49 = .ok (.aload_n 0, 1) := by decide +kernel
theorem dX4_look_50 : decode cX4_look 50 = .ok (.getfield 141, 3) := by decide +kernel
theorem dX4_look_53 : decode cX4_look 53 = .ok (.iload_n 2, 1) := by decide +kernel
theorem dX4_look_54 : decode cX4_look 54 = .ok (.iastore, 1) := by decide +kernel
theorem dX4_look_55 : decode cX4_look 55 = .ok (.aload_n 0, 1) := by decide +kernel
theorem dX4_look_56 : decode cX4_look 56 = .ok (.getfield 71, 3) := by decide +kernel
theorem dX4_look_59 : decode cX4_look 59 = .ok (.aload_n 0, 1) := by decide +kernel
theorem dX4_look_60 : decode cX4_look 60 = .ok (.getfield 141, 3) := by decide +kernel
theorem dX4_look_63 : decode cX4_look 63 = .ok (.iconst 0, 1) := by decide +kernel
theorem dX4_look_64 : decode cX4_look 64 = .ok (.iastore, 1) := by decide +kernel
theorem dX4_look_65 : decode cX4_look 65 = .ok (.aload_n 0, 1) := by decide +kernel
theorem dX4_look_66 : decode cX4_look 66 = .ok (.dup, 1) := by decide +kernel
theorem dX4_look_67 : decode cX4_look 67 = .ok (.getfield 141, 3) := by decide +kernel
theorem dX4_look_70 : decode cX4_look 70 = .ok (.iconst 1, 1) := by decide +kernel
theorem dX4_look_71 : decode cX4_look 71 = .ok (.iadd, 1) := by decide +kernel
theorem dX4_look_72 : decode cX4_look 72 = .ok (.putfield 141, 3) := by decide +kernel
theorem dX4_look_75 : decode cX4_look 75 = .ok (.return_, 1) := by decide +kernel
theorem dX4_ends_0 : decode cX4_ends 0 = .ok (.aload_n 0, 1) := by decide +kernel
theorem dX4_ends_1 : decode cX4_ends 1 = .ok (.iload_n 1, 1) := by decide +kernel
theorem dX4_ends_2 : decode cX4_ends 2 = .ok (.putfield 144, 3) := by decide +kernel
theorem dX4_ends_5 : decode cX4_ends 5 = .ok (.aload_n 0, 1) := by decide +kernel
theorem dX4_ends_6 : decode cX4_ends 6 = .ok (.dup, 1) := by decide +kernel
theorem dX4_ends_7 : decode cX4_ends 7 = .ok (.getfield 141, 3) := by decide +kernel
theorem dX4_ends_10 : decode cX4_ends 10 = .ok (.iconst 1, 1) := by decide +kernel
theorem dX4_ends_11 : decode cX4_ends 11 = .ok (.isub, 1) := by decide +kernel
theorem dX4_ends_12 : decode cX4_ends 12 = .ok (.putfield 141, 3) := by decide +kernel
theorem dX4_ends_15 : decode cX4_ends 15 = .ok (.return_, 1) := by decide +kernel
set_option maxRecDepth 20000 in
theorem ggX4_asks_X4_look : GoodIn wsX4_asks wsX4_look := goodIn_ca (goodIn_r _ [7, 8, 9, 10, 2, 11, 1, 12, 13, 14, 15, 16, 17, 18, 19, 20, 21, 22, 23, 24, 25, 26, 27, 28, 29, 30, 31, 32, 33, 34, 35, 36, 37, 38, 39, 40] (by decide +kernel) (by decide +kernel)) (goodIn_sub (fun _ h => List.mem_cons_of_mem _ (List.mem_append_right _ h)) (by decide +kernel))
set_option maxRecDepth 20000 in
theorem gX4_asks_X4_look : GoodIn wsX4_asks (wsV RX4 148 RX4 yX4_look wsX4_look) := goodIn_app (goodIn_of _ (by decide +kernel)) ggX4_asks_X4_look
theorem dX4_asks_0 : decode cX4_asks 0 = .ok (.aload_n 0, 1) := by decide +kernel
theorem dX4_asks_1 : decode cX4_asks 1 = .ok (.getfield 71, 3) := by decide +kernel
theorem dX4_asks_4 : decode cX4_asks 4 = .ok (.aload_n 0, 1) := by decide +kernel
theorem dX4_asks_5 : decode cX4_asks 5 = .ok (.getfield 141, 3) := by decide +kernel
theorem dX4_asks_8 : decode cX4_asks 8 = .ok (.iconst 1, 1) := by decide +kernel
theorem dX4_asks_9 : decode cX4_asks 9 = .ok (.isub, 1) := by decide +kernel
theorem dX4_asks_10 : decode cX4_asks 10 = .ok (.iload_n 3, 1) := by decide +kernel
theorem dX4_asks_11 : decode cX4_asks 11 = .ok (.iastore, 1) := by decide +kernel
theorem dX4_asks_12 : decode cX4_asks 12 = .ok (.aload_n 0, 1) := by decide +kernel
theorem dX4_asks_13 : decode cX4_asks 13 = .ok (.iload_n 1, 1) := by decide +kernel
theorem dX4_asks_14 : decode cX4_asks 14 = .ok (.iload_n 2, 1) := by decide +kernel
theorem dX4_asks_15 : decode cX4_asks 15 = .ok (.invokevirtual 148, 3) := by decide +kernel
theorem dX4_asks_18 : decode cX4_asks 18 = .ok (.return_, 1) := by decide +kernel
set_option maxRecDepth 20000 in
theorem ggX4_taken_X4_passes : GoodIn wsX4_taken wsX4_passes := goodIn_ca (goodIn_r _ [6, 7, 8, 9, 5, 10, 14, 15, 16, 17, 18, 19, 20, 21, 22, 23, 24, 25, 26, 27, 28, 29, 30, 31, 32, 33, 34, 35, 36, 37, 38, 39, 40, 41, 42] (by decide +kernel) (by decide +kernel)) (goodIn_sub (fun _ h => List.mem_cons_of_mem _ (List.mem_append_right _ h)) (by decide +kernel))
set_option maxRecDepth 20000 in
theorem gX4_taken_X4_passes : GoodIn wsX4_taken (wsV RX4 108 RX4 yX4_passes wsX4_passes) := goodIn_app (goodIn_of _ (by decide +kernel)) ggX4_taken_X4_passes
set_option maxRecDepth 20000 in
theorem ggX4_taken_X4_in : GoodIn wsX4_taken wsX4_in := goodIn_r _ [13] (by decide +kernel) (by decide +kernel)
set_option maxRecDepth 20000 in
theorem gX4_taken_X4_in : GoodIn wsX4_taken (va_wsS RX4 81 yX4_in wsX4_in) := goodIn_app (goodIn_of _ (by decide +kernel)) ggX4_taken_X4_in
theorem dX4_taken_0 : decode cX4_taken 0 = .ok (.aload_n 0, 1) := by decide +kernel
theorem dX4_taken_1 : decode cX4_taken 1 = .ok (.iload_n 1, 1) := by decide +kernel
theorem dX4_taken_2 : decode cX4_taken 2 = .ok (.iload_n 2, 1) := by decide +kernel
theorem dX4_taken_3 : decode cX4_taken 3 = .ok (.invokevirtual 108, 3) := by decide +kernel
theorem dX4_taken_6 : decode cX4_taken 6 = .ok (.ifCond .ne 8, 3) := by decide +kernel
theorem dX4_taken_9 : decode cX4_taken 9 = .ok (.bipush (-21), 2) := by decide +kernel
theorem dX4_taken_11 : decode cX4_taken 11 = .ok (.goto 34, 3) := by decide +kernel
theorem dX4_taken_14 : decode cX4_taken 14 = .ok (.iload_n 1, 1) := by decide +kernel
theorem dX4_taken_15 : decode cX4_taken 15 = .ok (.ifCond .ge 8, 3) := by decide +kernel
theorem dX4_taken_18 : decode cX4_taken 18 = .ok (.bipush (-22), 2) := by decide +kernel
theorem dX4_taken_20 : decode cX4_taken 20 = .ok (.goto 25, 3) := by decide +kernel
theorem dX4_taken_23 : decode cX4_taken 23 = .ok (.iload_n 3, 1) := by decide +kernel
theorem dX4_taken_24 : decode cX4_taken 24 = .ok (.iconst 0, 1) := by decide +kernel
theorem dX4_taken_25 : decode cX4_taken 25 = .ok (.aload_n 0, 1) := by decide +kernel
theorem dX4_taken_26 : decode cX4_taken 26 = .ok (.getfield 16, 3) := by decide +kernel
theorem dX4_taken_29 : decode cX4_taken 29 = .ok (.iload_n 1, 1) := by decide +kernel
theorem dX4_taken_30 : decode cX4_taken 30 = .ok (.iaload, 1) := by decide +kernel
theorem dX4_taken_31 : decode cX4_taken 31 = .ok (.iconst 1, 1) := by decide +kernel
theorem dX4_taken_32 : decode cX4_taken 32 = .ok (.isub, 1) := by decide +kernel
theorem dX4_taken_33 : decode cX4_taken 33 = .ok (.invokestatic 81, 3) := by decide +kernel
theorem dX4_taken_36 : decode cX4_taken 36 = .ok (.ifCond .eq 7, 3) := by decide +kernel
theorem dX4_taken_39 : decode cX4_taken 39 = .ok (.iconst 0, 1) := by decide +kernel
theorem dX4_taken_40 : decode cX4_taken 40 = .ok (.goto 5, 3) := by decide +kernel
theorem dX4_taken_43 : decode cX4_taken 43 = .ok (.bipush (-23), 2) := by decide +kernel
theorem dX4_taken_45 : decode cX4_taken 45 = .ok (.ireturn, 1) := by decide +kernel
theorem dX4_tells_0 : decode cX4_tells 0 = .ok (.iload_n 0, 1) := by decide +kernel
theorem dX4_tells_1 : decode cX4_tells 1 = .ok (.iconst 1, 1) := by decide +kernel
theorem dX4_tells_2 : decode cX4_tells 2 = .ok (.if_icmp .ne 11, 3) := by decide +kernel
theorem dX4_tells_5 : decode cX4_tells 5 = .ok (.iconst 2, 1) := by decide +kernel
theorem dX4_tells_6 : decode cX4_tells 6 = .ok (.iload_n 1, 1) := by decide +kernel
theorem dX4_tells_7 : decode cX4_tells 7 = .ok (.imul, 1) := by decide +kernel
theorem dX4_tells_8 : decode cX4_tells 8 = .ok (.iconst 1, 1) := by decide +kernel
theorem dX4_tells_9 : decode cX4_tells 9 = .ok (.iadd, 1) := by decide +kernel
theorem dX4_tells_10 : decode cX4_tells 10 = .ok (.goto 4, 3) := by decide +kernel
theorem dX4_tells_13 : decode cX4_tells 13 = .ok (.iload_n 1, 1) := by decide +kernel
theorem dX4_tells_14 : decode cX4_tells 14 = .ok (.ireturn, 1) := by decide +kernel
set_option maxRecDepth 20000 in
theorem ggX4_begins_X4_isA : GoodIn wsX4_begins wsX4_isA := goodIn_ca (goodIn_r _ [12, 13, 14, 15, 11, 16, 60, 61, 62, 63, 64, 65, 66, 67, 68, 69, 70, 71, 72, 73, 74, 75, 76, 77, 78, 79, 80, 81, 82, 83, 84, 85, 86, 87, 88] (by decide +kernel) (by decide +kernel)) (goodIn_sub (fun _ h => List.mem_cons_of_mem _ (List.mem_append_right _ h)) (by decide +kernel))
set_option maxRecDepth 20000 in
theorem gX4_begins_X4_isA : GoodIn wsX4_begins (wsV RX4 117 RX4 yX4_isA wsX4_isA) := goodIn_app (goodIn_of _ (by decide +kernel)) ggX4_begins_X4_isA
set_option maxRecDepth 20000 in
theorem ggX4_begins_X4_ends : GoodIn wsX4_begins wsX4_ends := goodIn_r _ [20, 21, 22, 60, 61, 62, 63, 64, 65, 66, 67, 68, 69, 70, 71, 72, 73, 74, 75, 76, 77, 78, 79, 80, 81, 82, 83, 84, 85, 86, 87, 88] (by decide +kernel) (by decide +kernel)
set_option maxRecDepth 20000 in
theorem gX4_begins_X4_ends : GoodIn wsX4_begins (wsV RX4 152 RX4 yX4_ends wsX4_ends) := goodIn_app (goodIn_of _ (by decide +kernel)) ggX4_begins_X4_ends
set_option maxRecDepth 20000 in
theorem ggX4_begins_X4_passes : GoodIn wsX4_begins wsX4_passes := goodIn_ca (goodIn_r _ [26, 13, 14, 15, 11, 16, 60, 61, 62, 63, 64, 65, 66, 67, 68, 69, 70, 71, 72, 73, 74, 75, 76, 77, 78, 79, 80, 81, 82, 83, 84, 85, 86, 87, 88] (by decide +kernel) (by decide +kernel)) (goodIn_sub (fun _ h => List.mem_cons_of_mem _ (List.mem_append_right _ h)) (by decide +kernel))
set_option maxRecDepth 20000 in
theorem gX4_begins_X4_passes : GoodIn wsX4_begins (wsV RX4 108 RX4 yX4_passes wsX4_passes) := goodIn_app (goodIn_of _ (by decide +kernel)) ggX4_begins_X4_passes
set_option maxRecDepth 20000 in
theorem ggX4_begins_X4_asks : GoodIn wsX4_begins wsX4_asks := goodIn_ca (goodIn_r _ [30, 31, 22, 32, 33, 34, 11, 35, 5, 36, 37, 38, 60, 61, 62, 63, 64, 65, 66, 67, 68, 69, 70, 71, 72, 73, 74, 75, 76, 77, 78, 79, 80, 81, 82, 83, 84, 85, 86, 87, 88] (by decide +kernel) (by decide +kernel)) (goodIn_sub (fun _ h => List.mem_cons_of_mem _ (List.mem_append_right _ h)) (by decide +kernel))
set_option maxRecDepth 20000 in
theorem gX4_begins_X4_asks : GoodIn wsX4_begins (wsV RX4 156 RX4 yX4_asks wsX4_asks) := goodIn_app (goodIn_of _ (by decide +kernel)) ggX4_begins_X4_asks
set_option maxRecDepth 20000 in
theorem ggX4_begins_X4_each : GoodIn wsX4_begins wsX4_each := goodIn_ca (goodIn_r _ [42, 43, 2, 6, 17, 18, 19, 11, 20, 21, 22, 27, 28, 29, 30, 31, 32, 33, 34, 35, 5, 36, 37, 38, 60, 61, 62, 63, 64, 65, 66, 67, 68, 69, 70, 71, 72, 73, 74, 75, 76, 77, 78, 79, 80, 81, 82, 83, 84, 85, 86, 87, 88] (by decide +kernel) (by decide +kernel)) (goodIn_sub (fun _ h => List.mem_cons_of_mem _ (List.mem_append_right _ h)) (by decide +kernel))
set_option maxRecDepth 20000 in
theorem gX4_begins_X4_each : GoodIn wsX4_begins (wsV RX4 160 RX4 yX4_each wsX4_each) := goodIn_app (goodIn_of _ (by decide +kernel)) ggX4_begins_X4_each
set_option maxRecDepth 20000 in
theorem ggX4_begins_X4_taken : GoodIn wsX4_begins wsX4_taken := goodIn_ca (goodIn_r _ [47, 43, 23, 24, 25, 11, 26, 13, 14, 15, 16, 48, 49, 50, 60, 61, 62, 63, 64, 65, 66, 67, 68, 69, 70, 71, 72, 73, 74, 75, 76, 77, 78, 79, 80, 81, 82, 83, 84, 85, 86, 87, 88] (by decide +kernel) (by decide +kernel)) (goodIn_sub (fun _ h => List.mem_cons_of_mem _ (List.mem_append_right _ h)) (by decide +kernel))
set_option maxRecDepth 20000 in
theorem gX4_begins_X4_taken : GoodIn wsX4_begins (wsV RX4 163 RX4 yX4_taken wsX4_taken) := goodIn_app (goodIn_of _ (by decide +kernel)) ggX4_begins_X4_taken
set_option maxRecDepth 20000 in
theorem ggX4_begins_X4_plain : GoodIn wsX4_begins wsX4_plain := goodIn_ca (goodIn_r _ [54, 4, 55, 5, 13, 56, 43, 17, 18, 19, 11, 20, 21, 22, 23, 24, 25, 26, 14, 15, 16, 57, 58, 59, 60, 61, 62, 63, 64, 65, 66, 67, 68, 69, 70, 71, 72, 73, 74, 75, 76, 77, 78, 79, 80, 81, 82, 83, 84, 85, 86, 87, 88] (by decide +kernel) (by decide +kernel)) (goodIn_sub (fun _ h => List.mem_cons_of_mem _ (List.mem_append_right _ h)) (by decide +kernel))
set_option maxRecDepth 20000 in
theorem gX4_begins_X4_plain : GoodIn wsX4_begins (wsV RX4 166 RX4 yX4_plain wsX4_plain) := goodIn_app (goodIn_of _ (by decide +kernel)) ggX4_begins_X4_plain
theorem dX4_begins_0 : decode cX4_begins 0 = .ok (.aload_n 0, 1) := by decide +kernel
theorem dX4_begins_1 : decode cX4_begins 1 = .ok (.getfield 29, 3) := by decide +kernel
theorem dX4_begins_4 : decode cX4_begins 4 = .ok (.iload_n 1, 1) := by decide +kernel
theorem dX4_begins_5 : decode cX4_begins 5 = .ok (.iaload, 1) := by decide +kernel
theorem dX4_begins_6 : decode cX4_begins 6 = .ok (.istore_n 3, 1) := by decide +kernel
theorem dX4_begins_7 : decode cX4_begins 7 = .ok (.aload_n 0, 1) := by decide +kernel
theorem dX4_begins_8 : decode cX4_begins 8 = .ok (.getfield 32, 3) := by decide +kernel
theorem dX4_begins_11 : decode cX4_begins 11 = .ok (.iload_n 1, 1) := by decide +kernel
theorem dX4_begins_12 : decode cX4_begins 12 = .ok (.iaload, 1) := by decide +kernel
theorem dX4_begins_13 : decode cX4_begins 13 = .ok (.istore 4, 2) := by decide +kernel
theorem dX4_begins_15 : decode cX4_begins 15 = .ok (.aload_n 0, 1) := by decide +kernel
theorem dX4_begins_16 : decode cX4_begins 16 = .ok (.getfield 35, 3) := by decide +kernel
theorem dX4_begins_19 : decode cX4_begins 19 = .ok (.iload_n 1, 1) := by decide +kernel
theorem dX4_begins_20 : decode cX4_begins 20 = .ok (.iaload, 1) := by decide +kernel
theorem dX4_begins_21 : decode cX4_begins 21 = .ok (.istore 5, 2) := by decide +kernel
theorem dX4_begins_23 : decode cX4_begins 23 = .ok (.aload_n 0, 1) := by decide +kernel
theorem dX4_begins_24 : decode cX4_begins 24 = .ok (.getfield 26, 3) := by decide +kernel
theorem dX4_begins_27 : decode cX4_begins 27 = .ok (.iload_n 1, 1) := by decide +kernel
theorem dX4_begins_28 : decode cX4_begins 28 = .ok (.iaload, 1) := by decide +kernel
theorem dX4_begins_29 : decode cX4_begins 29 = .ok (.tableswitch 289 0 9 #[55, 68, 98, 114, 149, 176, 218, 268, 268, 278], 55) := by decide +kernel
theorem dX4_begins_84 : decode cX4_begins 84 = .ok (.aload_n 0, 1) := by decide +kernel
theorem dX4_begins_85 : decode cX4_begins 85 = .ok (.aload_n 0, 1) := by decide +kernel
theorem dX4_begins_86 : decode cX4_begins 86 = .ok (.iload_n 2, 1) := by decide +kernel
theorem dX4_begins_87 : decode cX4_begins 87 = .ok (.iload_n 3, 1) := by decide +kernel
theorem dX4_begins_88 : decode cX4_begins 88 = .ok (.invokevirtual 117, 3) := by decide +kernel
theorem dX4_begins_91 : decode cX4_begins 91 = .ok (.invokevirtual 152, 3) := by decide +kernel
theorem dX4_begins_94 : decode cX4_begins 94 = .ok (.goto 233, 3) := by decide +kernel
theorem dX4_begins_97 : decode cX4_begins 97 = .ok (.aload_n 0, 1) := by decide +kernel
theorem dX4_begins_98 : decode cX4_begins 98 = .ok (.iload_n 2, 1) := by decide +kernel
theorem dX4_begins_99 : decode cX4_begins 99 = .ok (.iload_n 3, 1) := by decide +kernel
theorem dX4_begins_100 : decode cX4_begins 100 = .ok (.invokevirtual 108, 3) := by decide +kernel
theorem dX4_begins_103 : decode cX4_begins 103 = .ok (.ifCond .ne 12, 3) := by decide +kernel
theorem dX4_begins_106 : decode cX4_begins 106 = .ok (.aload_n 0, 1) := by decide +kernel
theorem dX4_begins_107 : decode cX4_begins 107 = .ok (.bipush (-21), 2) := by decide +kernel
theorem dX4_begins_109 : decode cX4_begins 109 = .ok (.putfield 135, 3) := by decide +kernel
theorem dX4_begins_112 : decode cX4_begins 112 = .ok (.goto 215, 3) := by decide +kernel
theorem dX4_begins_115 : decode cX4_begins 115 = .ok (.aload_n 0, 1) := by decide +kernel
theorem dX4_begins_116 : decode cX4_begins 116 = .ok (.iload 4, 2) := by decide +kernel
theorem dX4_begins_118 : decode cX4_begins 118 = .ok (.iload_n 2, 1) := by decide +kernel
theorem dX4_begins_119 : decode cX4_begins 119 = .ok (.bipush 9, 2) := by decide +kernel
theorem dX4_begins_121 : decode cX4_begins 121 = .ok (.invokevirtual 156, 3) := by decide +kernel
theorem dX4_begins_124 : decode cX4_begins 124 = .ok (.goto 203, 3) := by decide +kernel
theorem dX4_begins_127 : decode cX4_begins 127 = .ok (.aload_n 0, 1) := by decide +kernel
theorem dX4_begins_128 : decode cX4_begins 128 = .ok (.iload_n 2, 1) := by decide +kernel
theorem dX4_begins_129 : decode cX4_begins 129 = .ok (.ifCond .ge 7, 3) := by decide +kernel
theorem dX4_begins_132 : decode cX4_begins 132 = .ok (.iconst 1, 1) := by decide +kernel
theorem dX4_begins_133 : decode cX4_begins 133 = .ok (.goto 4, 3) := by decide +kernel
theorem dX4_begins_136 : decode cX4_begins 136 = .ok (.iconst 0, 1) := by decide +kernel
theorem dX4_begins_137 : decode cX4_begins 137 = .ok (.invokevirtual 152, 3) := by decide +kernel
theorem dX4_begins_140 : decode cX4_begins 140 = .ok (.goto 187, 3) := by decide +kernel
theorem dX4_begins_143 : decode cX4_begins 143 = .ok (.aload_n 0, 1) := by decide +kernel
theorem dX4_begins_144 : decode cX4_begins 144 = .ok (.iload_n 2, 1) := by decide +kernel
theorem dX4_begins_145 : decode cX4_begins 145 = .ok (.iconst 2, 1) := by decide +kernel
theorem dX4_begins_146 : decode cX4_begins 146 = .ok (.invokevirtual 117, 3) := by decide +kernel
theorem dX4_begins_149 : decode cX4_begins 149 = .ok (.ifCond .eq 21, 3) := by decide +kernel
theorem dX4_begins_152 : decode cX4_begins 152 = .ok (.aload_n 0, 1) := by decide +kernel
theorem dX4_begins_153 : decode cX4_begins 153 = .ok (.iload_n 3, 1) := by decide +kernel
theorem dX4_begins_154 : decode cX4_begins 154 = .ok (.aload_n 0, 1) := by decide +kernel
theorem dX4_begins_155 : decode cX4_begins 155 = .ok (.getfield 23, 3) := by decide +kernel
theorem dX4_begins_158 : decode cX4_begins 158 = .ok (.bipush 6, 2) := by decide +kernel
theorem dX4_begins_160 : decode cX4_begins 160 = .ok (.iload_n 2, 1) := by decide +kernel
theorem dX4_begins_161 : decode cX4_begins 161 = .ok (.imul, 1) := by decide +kernel
theorem dX4_begins_162 : decode cX4_begins 162 = .ok (.iaload, 1) := by decide +kernel
theorem dX4_begins_163 : decode cX4_begins 163 = .ok (.iconst 1, 1) := by decide +kernel
theorem dX4_begins_164 : decode cX4_begins 164 = .ok (.invokevirtual 156, 3) := by decide +kernel
theorem dX4_begins_167 : decode cX4_begins 167 = .ok (.goto 160, 3) := by decide +kernel
theorem dX4_begins_170 : decode cX4_begins 170 = .ok (.aload_n 0, 1) := by decide +kernel
theorem dX4_begins_171 : decode cX4_begins 171 = .ok (.iconst 0, 1) := by decide +kernel
theorem dX4_begins_172 : decode cX4_begins 172 = .ok (.invokevirtual 152, 3) := by decide +kernel
theorem dX4_begins_175 : decode cX4_begins 175 = .ok (.goto 152, 3) := by decide +kernel
theorem dX4_begins_178 : decode cX4_begins 178 = .ok (.aload_n 0, 1) := by decide +kernel
theorem dX4_begins_179 : decode cX4_begins 179 = .ok (.iload_n 2, 1) := by decide +kernel
theorem dX4_begins_180 : decode cX4_begins 180 = .ok (.iload_n 3, 1) := by decide +kernel
theorem dX4_begins_181 : decode cX4_begins 181 = .ok (.invokevirtual 117, 3) := by decide +kernel
theorem dX4_begins_184 : decode cX4_begins 184 = .ok (.ifCond .eq 13, 3) := by decide +kernel
theorem dX4_begins_187 : decode cX4_begins 187 = .ok (.aload_n 0, 1) := by decide +kernel
theorem dX4_begins_188 : decode cX4_begins 188 = .ok (.iload_n 1, 1) := by decide +kernel
theorem dX4_begins_189 : decode cX4_begins 189 = .ok (.iload_n 2, 1) := by decide +kernel
theorem dX4_begins_190 : decode cX4_begins 190 = .ok (.iconst 0, 1) := by decide +kernel
theorem dX4_begins_191 : decode cX4_begins 191 = .ok (.invokevirtual 160, 3) := by decide +kernel
theorem dX4_begins_194 : decode cX4_begins 194 = .ok (.goto 133, 3) := by decide +kernel
theorem dX4_begins_197 : decode cX4_begins 197 = .ok (.aload_n 0, 1) := by decide +kernel
theorem dX4_begins_198 : decode cX4_begins 198 = .ok (.iconst 0, 1) := by decide +kernel
theorem dX4_begins_199 : decode cX4_begins 199 = .ok (.invokevirtual 152, 3) := by decide +kernel
theorem dX4_begins_202 : decode cX4_begins 202 = .ok (.goto 125, 3) := by decide +kernel
theorem dX4_begins_205 : decode cX4_begins 205 = .ok (.aload_n 0, 1) := by decide +kernel
theorem dX4_begins_206 : decode cX4_begins 206 = .ok (.aload_n 0, 1) := by decide +kernel
theorem dX4_begins_207 : decode cX4_begins 207 = .ok (.iload_n 2, 1) := by decide +kernel
theorem dX4_begins_208 : decode cX4_begins 208 = .ok (.iload_n 3, 1) := by decide +kernel
theorem dX4_begins_209 : decode cX4_begins 209 = .ok (.iload 4, 2) := by decide +kernel
theorem dX4_begins_211 : decode cX4_begins 211 = .ok (.invokevirtual 163, 3) := by decide +kernel
theorem dX4_begins_214 : decode cX4_begins 214 = .ok (.putfield 135, 3) := by decide +kernel
theorem dX4_begins_217 : decode cX4_begins 217 = .ok (.aload_n 0, 1) := by decide +kernel
theorem dX4_begins_218 : decode cX4_begins 218 = .ok (.getfield 135, 3) := by decide +kernel
theorem dX4_begins_221 : decode cX4_begins 221 = .ok (.ifCond .ne 106, 3) := by decide +kernel
theorem dX4_begins_224 : decode cX4_begins 224 = .ok (.aload_n 0, 1) := by decide +kernel
theorem dX4_begins_225 : decode cX4_begins 225 = .ok (.iload 5, 2) := by decide +kernel
theorem dX4_begins_227 : decode cX4_begins 227 = .ok (.aload_n 0, 1) := by decide +kernel
theorem dX4_begins_228 : decode cX4_begins 228 = .ok (.getfield 23, 3) := by decide +kernel
theorem dX4_begins_231 : decode cX4_begins 231 = .ok (.bipush 6, 2) := by decide +kernel
theorem dX4_begins_233 : decode cX4_begins 233 = .ok (.iload_n 2, 1) := by decide +kernel
theorem dX4_begins_234 : decode cX4_begins 234 = .ok (.imul, 1) := by decide +kernel
theorem dX4_begins_235 : decode cX4_begins 235 = .ok (.iload 4, 2) := by decide +kernel
theorem dX4_begins_237 : decode cX4_begins 237 = .ok (.iadd, 1) := by decide +kernel
theorem dX4_begins_238 : decode cX4_begins 238 = .ok (.iaload, 1) := by decide +kernel
theorem dX4_begins_239 : decode cX4_begins 239 = .ok (.bipush 9, 2) := by decide +kernel
theorem dX4_begins_241 : decode cX4_begins 241 = .ok (.invokevirtual 156, 3) := by decide +kernel
theorem dX4_begins_244 : decode cX4_begins 244 = .ok (.goto 83, 3) := by decide +kernel
theorem dX4_begins_247 : decode cX4_begins 247 = .ok (.aload_n 0, 1) := by decide +kernel
theorem dX4_begins_248 : decode cX4_begins 248 = .ok (.aload_n 0, 1) := by decide +kernel
theorem dX4_begins_249 : decode cX4_begins 249 = .ok (.iload_n 2, 1) := by decide +kernel
theorem dX4_begins_250 : decode cX4_begins 250 = .ok (.iload_n 3, 1) := by decide +kernel
theorem dX4_begins_251 : decode cX4_begins 251 = .ok (.iload 4, 2) := by decide +kernel
theorem dX4_begins_253 : decode cX4_begins 253 = .ok (.invokevirtual 163, 3) := by decide +kernel
theorem dX4_begins_256 : decode cX4_begins 256 = .ok (.putfield 135, 3) := by decide +kernel
theorem dX4_begins_259 : decode cX4_begins 259 = .ok (.aload_n 0, 1) := by decide +kernel
theorem dX4_begins_260 : decode cX4_begins 260 = .ok (.getfield 135, 3) := by decide +kernel
theorem dX4_begins_263 : decode cX4_begins 263 = .ok (.ifCond .ne 64, 3) := by decide +kernel
theorem dX4_begins_266 : decode cX4_begins 266 = .ok (.aload_n 0, 1) := by decide +kernel
theorem dX4_begins_267 : decode cX4_begins 267 = .ok (.aload_n 0, 1) := by decide +kernel
theorem dX4_begins_268 : decode cX4_begins 268 = .ok (.getfield 19, 3) := by decide +kernel
theorem dX4_begins_271 : decode cX4_begins 271 = .ok (.bipush 6, 2) := by decide +kernel
theorem dX4_begins_273 : decode cX4_begins 273 = .ok (.iload_n 2, 1) := by decide +kernel
theorem dX4_begins_274 : decode cX4_begins 274 = .ok (.imul, 1) := by decide +kernel
theorem dX4_begins_275 : decode cX4_begins 275 = .ok (.iload 4, 2) := by decide +kernel
theorem dX4_begins_277 : decode cX4_begins 277 = .ok (.iadd, 1) := by decide +kernel
theorem dX4_begins_278 : decode cX4_begins 278 = .ok (.laload, 1) := by decide +kernel
theorem dX4_begins_279 : decode cX4_begins 279 = .ok (.iload 5, 2) := by decide +kernel
theorem dX4_begins_281 : decode cX4_begins 281 = .ok (.i2l, 1) := by decide +kernel
theorem dX4_begins_282 : decode cX4_begins 282 = .ok (.lcmp, 1) := by decide +kernel
theorem dX4_begins_283 : decode cX4_begins 283 = .ok (.ifCond .ne 7, 3) := by decide +kernel
theorem dX4_begins_286 : decode cX4_begins 286 = .ok (.iconst 1, 1) := by decide +kernel
theorem dX4_begins_287 : decode cX4_begins 287 = .ok (.goto 4, 3) := by decide +kernel
theorem dX4_begins_290 : decode cX4_begins 290 = .ok (.iconst 0, 1) := by decide +kernel
theorem dX4_begins_291 : decode cX4_begins 291 = .ok (.invokevirtual 152, 3) := by decide +kernel
theorem dX4_begins_294 : decode cX4_begins 294 = .ok (.goto 33, 3) := by decide +kernel
theorem dX4_begins_297 : decode cX4_begins 297 = .ok (.aload_n 0, 1) := by decide +kernel
theorem dX4_begins_298 : decode cX4_begins 298 = .ok (.iload_n 3, 1) := by decide +kernel
theorem dX4_begins_299 : decode cX4_begins 299 = .ok (.iload_n 2, 1) := by decide +kernel
theorem dX4_begins_300 : decode cX4_begins 300 = .ok (.iconst 1, 1) := by decide +kernel
theorem dX4_begins_301 : decode cX4_begins 301 = .ok (.invokevirtual 156, 3) := by decide +kernel
theorem dX4_begins_304 : decode cX4_begins 304 = .ok (.goto 23, 3) := by decide +kernel
theorem dX4_begins_307 : decode cX4_begins 307 = .ok (.aload_n 0, 1) := by decide +kernel
theorem dX4_begins_308 : decode cX4_begins 308 = .ok (.iload_n 3, 1) := by decide +kernel
theorem dX4_begins_309 : decode cX4_begins 309 = .ok (.iload_n 2, 1) := by decide +kernel
theorem dX4_begins_310 : decode cX4_begins 310 = .ok (.bipush 8, 2) := by decide +kernel
theorem dX4_begins_312 : decode cX4_begins 312 = .ok (.invokevirtual 156, 3) := by decide +kernel
theorem dX4_begins_315 : decode cX4_begins 315 = .ok (.goto 12, 3) := by decide +kernel
theorem dX4_begins_318 : decode cX4_begins 318 = .ok (.aload_n 0, 1) := by decide +kernel
theorem dX4_begins_319 : decode cX4_begins 319 = .ok (.iload_n 1, 1) := by decide +kernel
theorem dX4_begins_320 : decode cX4_begins 320 = .ok (.iload_n 2, 1) := by decide +kernel
theorem dX4_begins_321 : decode cX4_begins 321 = .ok (.iload_n 3, 1) := by decide +kernel
theorem dX4_begins_322 : decode cX4_begins 322 = .ok (.iload 4, 2) := by decide +kernel
theorem dX4_begins_324 : decode cX4_begins 324 = .ok (.invokevirtual 166, 3) := by decide +kernel
theorem dX4_begins_327 : decode cX4_begins 327 = .ok (.return_, 1) := by decide +kernel
set_option maxRecDepth 20000 in
theorem ggX4_plain_X4_ends : GoodIn wsX4_plain wsX4_ends := goodIn_r _ [11, 12, 13, 24, 25, 26, 27, 28, 29, 30, 31, 32, 33, 34, 35, 36, 37, 38, 39, 40, 41, 42, 43, 44, 45, 46, 47, 48, 49, 50, 51, 52] (by decide +kernel) (by decide +kernel)
set_option maxRecDepth 20000 in
theorem gX4_plain_X4_ends : GoodIn wsX4_plain (wsV RX4 152 RX4 yX4_ends wsX4_ends) := goodIn_app (goodIn_of _ (by decide +kernel)) ggX4_plain_X4_ends
set_option maxRecDepth 20000 in
theorem ggX4_plain_X4_passes : GoodIn wsX4_plain wsX4_passes := goodIn_ca (goodIn_r _ [17, 4, 18, 19, 10, 20, 24, 25, 26, 27, 28, 29, 30, 31, 32, 33, 34, 35, 36, 37, 38, 39, 40, 41, 42, 43, 44, 45, 46, 47, 48, 49, 50, 51, 52] (by decide +kernel) (by decide +kernel)) (goodIn_sub (fun _ h => List.mem_cons_of_mem _ (List.mem_append_right _ h)) (by decide +kernel))
set_option maxRecDepth 20000 in
theorem gX4_plain_X4_passes : GoodIn wsX4_plain (wsV RX4 108 RX4 yX4_passes wsX4_passes) := goodIn_app (goodIn_of _ (by decide +kernel)) ggX4_plain_X4_passes
set_option maxRecDepth 20000 in
theorem ggX4_plain_X4_tells : GoodIn wsX4_plain wsX4_tells := goodIn_r _ [23] (by decide +kernel) (by decide +kernel)
set_option maxRecDepth 20000 in
theorem gX4_plain_X4_tells : GoodIn wsX4_plain (va_wsS RX4 170 yX4_tells wsX4_tells) := goodIn_app (goodIn_of _ (by decide +kernel)) ggX4_plain_X4_tells
theorem dX4_plain_0 : decode cX4_plain 0 = .ok (.aload_n 0, 1) := by decide +kernel
theorem dX4_plain_1 : decode cX4_plain 1 = .ok (.getfield 26, 3) := by decide +kernel
theorem dX4_plain_4 : decode cX4_plain 4 = .ok (.iload_n 1, 1) := by decide +kernel
theorem dX4_plain_5 : decode cX4_plain 5 = .ok (.iaload, 1) := by decide +kernel
theorem dX4_plain_6 : decode cX4_plain 6 = .ok (.tableswitch 130 10 12 #[26, 41, 63], 26) := by decide +kernel
theorem dX4_plain_32 : decode cX4_plain 32 = .ok (.aload_n 0, 1) := by decide +kernel
theorem dX4_plain_33 : decode cX4_plain 33 = .ok (.getfield 56, 3) := by decide +kernel
theorem dX4_plain_36 : decode cX4_plain 36 = .ok (.iload_n 3, 1) := by decide +kernel
theorem dX4_plain_37 : decode cX4_plain 37 = .ok (.iload_n 2, 1) := by decide +kernel
theorem dX4_plain_38 : decode cX4_plain 38 = .ok (.iastore, 1) := by decide +kernel
theorem dX4_plain_39 : decode cX4_plain 39 = .ok (.aload_n 0, 1) := by decide +kernel
theorem dX4_plain_40 : decode cX4_plain 40 = .ok (.iconst 1, 1) := by decide +kernel
theorem dX4_plain_41 : decode cX4_plain 41 = .ok (.invokevirtual 152, 3) := by decide +kernel
theorem dX4_plain_44 : decode cX4_plain 44 = .ok (.goto 147, 3) := by decide +kernel
theorem dX4_plain_47 : decode cX4_plain 47 = .ok (.aload_n 0, 1) := by decide +kernel
theorem dX4_plain_48 : decode cX4_plain 48 = .ok (.aload_n 0, 1) := by decide +kernel
theorem dX4_plain_49 : decode cX4_plain 49 = .ok (.getfield 56, 3) := by decide +kernel
theorem dX4_plain_52 : decode cX4_plain 52 = .ok (.iload_n 3, 1) := by decide +kernel
theorem dX4_plain_53 : decode cX4_plain 53 = .ok (.iaload, 1) := by decide +kernel
theorem dX4_plain_54 : decode cX4_plain 54 = .ok (.iload_n 2, 1) := by decide +kernel
theorem dX4_plain_55 : decode cX4_plain 55 = .ok (.if_icmp .ne 7, 3) := by decide +kernel
theorem dX4_plain_58 : decode cX4_plain 58 = .ok (.iconst 1, 1) := by decide +kernel
theorem dX4_plain_59 : decode cX4_plain 59 = .ok (.goto 4, 3) := by decide +kernel
theorem dX4_plain_62 : decode cX4_plain 62 = .ok (.iconst 0, 1) := by decide +kernel
theorem dX4_plain_63 : decode cX4_plain 63 = .ok (.invokevirtual 152, 3) := by decide +kernel
theorem dX4_plain_66 : decode cX4_plain 66 = .ok (.goto 125, 3) := by decide +kernel
theorem dX4_plain_69 : decode cX4_plain 69 = .ok (.aload_n 0, 1) := by decide +kernel
theorem dX4_plain_70 : decode cX4_plain 70 = .ok (.aload_n 0, 1) := by decide +kernel
theorem dX4_plain_71 : decode cX4_plain 71 = .ok (.iload_n 2, 1) := by decide +kernel
theorem dX4_plain_72 : decode cX4_plain 72 = .ok (.bipush 14, 2) := by decide +kernel
theorem dX4_plain_74 : decode cX4_plain 74 = .ok (.invokevirtual 108, 3) := by decide +kernel
theorem dX4_plain_77 : decode cX4_plain 77 = .ok (.ifCond .ne 8, 3) := by decide +kernel
theorem dX4_plain_80 : decode cX4_plain 80 = .ok (.bipush (-21), 2) := by decide +kernel
theorem dX4_plain_82 : decode cX4_plain 82 = .ok (.goto 13, 3) := by decide +kernel
theorem dX4_plain_85 : decode cX4_plain 85 = .ok (.iload_n 2, 1) := by decide +kernel
theorem dX4_plain_86 : decode cX4_plain 86 = .ok (.ifCond .ge 8, 3) := by decide +kernel
theorem dX4_plain_89 : decode cX4_plain 89 = .ok (.bipush (-22), 2) := by decide +kernel
theorem dX4_plain_91 : decode cX4_plain 91 = .ok (.goto 4, 3) := by decide +kernel
theorem dX4_plain_94 : decode cX4_plain 94 = .ok (.iconst 0, 1) := by decide +kernel
theorem dX4_plain_95 : decode cX4_plain 95 = .ok (.putfield 135, 3) := by decide +kernel
theorem dX4_plain_98 : decode cX4_plain 98 = .ok (.aload_n 0, 1) := by decide +kernel
theorem dX4_plain_99 : decode cX4_plain 99 = .ok (.getfield 135, 3) := by decide +kernel
theorem dX4_plain_102 : decode cX4_plain 102 = .ok (.ifCond .ne 89, 3) := by decide +kernel
theorem dX4_plain_105 : decode cX4_plain 105 = .ok (.aload_n 0, 1) := by decide +kernel
theorem dX4_plain_106 : decode cX4_plain 106 = .ok (.aload_n 0, 1) := by decide +kernel
theorem dX4_plain_107 : decode cX4_plain 107 = .ok (.getfield 7, 3) := by decide +kernel
theorem dX4_plain_110 : decode cX4_plain 110 = .ok (.iload_n 2, 1) := by decide +kernel
theorem dX4_plain_111 : decode cX4_plain 111 = .ok (.iaload, 1) := by decide +kernel
theorem dX4_plain_112 : decode cX4_plain 112 = .ok (.aload_n 0, 1) := by decide +kernel
theorem dX4_plain_113 : decode cX4_plain 113 = .ok (.getfield 13, 3) := by decide +kernel
theorem dX4_plain_116 : decode cX4_plain 116 = .ok (.iload_n 2, 1) := by decide +kernel
theorem dX4_plain_117 : decode cX4_plain 117 = .ok (.iaload, 1) := by decide +kernel
theorem dX4_plain_118 : decode cX4_plain 118 = .ok (.invokestatic 170, 3) := by decide +kernel
theorem dX4_plain_121 : decode cX4_plain 121 = .ok (.iload_n 3, 1) := by decide +kernel
theorem dX4_plain_122 : decode cX4_plain 122 = .ok (.if_icmp .ne 7, 3) := by decide +kernel
theorem dX4_plain_125 : decode cX4_plain 125 = .ok (.iconst 1, 1) := by decide +kernel
theorem dX4_plain_126 : decode cX4_plain 126 = .ok (.goto 4, 3) := by decide +kernel
theorem dX4_plain_129 : decode cX4_plain 129 = .ok (.iconst 0, 1) := by decide +kernel
theorem dX4_plain_130 : decode cX4_plain 130 = .ok (.invokevirtual 152, 3) := by decide +kernel
theorem dX4_plain_133 : decode cX4_plain 133 = .ok (.goto 58, 3) := by decide +kernel
theorem dX4_plain_136 : decode cX4_plain 136 = .ok (.aload_n 0, 1) := by decide +kernel
theorem dX4_plain_137 : decode cX4_plain 137 = .ok (.aload_n 0, 1) := by decide +kernel
theorem dX4_plain_138 : decode cX4_plain 138 = .ok (.iload_n 2, 1) := by decide +kernel
theorem dX4_plain_139 : decode cX4_plain 139 = .ok (.iload_n 3, 1) := by decide +kernel
theorem dX4_plain_140 : decode cX4_plain 140 = .ok (.invokevirtual 108, 3) := by decide +kernel
theorem dX4_plain_143 : decode cX4_plain 143 = .ok (.ifCond .ne 8, 3) := by decide +kernel
theorem dX4_plain_146 : decode cX4_plain 146 = .ok (.bipush (-21), 2) := by decide +kernel
theorem dX4_plain_148 : decode cX4_plain 148 = .ok (.goto 13, 3) := by decide +kernel
theorem dX4_plain_151 : decode cX4_plain 151 = .ok (.iload_n 2, 1) := by decide +kernel
theorem dX4_plain_152 : decode cX4_plain 152 = .ok (.ifCond .ge 8, 3) := by decide +kernel
theorem dX4_plain_155 : decode cX4_plain 155 = .ok (.bipush (-22), 2) := by decide +kernel
theorem dX4_plain_157 : decode cX4_plain 157 = .ok (.goto 4, 3) := by decide +kernel
theorem dX4_plain_160 : decode cX4_plain 160 = .ok (.iconst 0, 1) := by decide +kernel
theorem dX4_plain_161 : decode cX4_plain 161 = .ok (.putfield 135, 3) := by decide +kernel
theorem dX4_plain_164 : decode cX4_plain 164 = .ok (.aload_n 0, 1) := by decide +kernel
theorem dX4_plain_165 : decode cX4_plain 165 = .ok (.getfield 135, 3) := by decide +kernel
theorem dX4_plain_168 : decode cX4_plain 168 = .ok (.ifCond .ne 23, 3) := by decide +kernel
theorem dX4_plain_171 : decode cX4_plain 171 = .ok (.aload_n 0, 1) := by decide +kernel
theorem dX4_plain_172 : decode cX4_plain 172 = .ok (.aload_n 0, 1) := by decide +kernel
theorem dX4_plain_173 : decode cX4_plain 173 = .ok (.getfield 16, 3) := by decide +kernel
theorem dX4_plain_176 : decode cX4_plain 176 = .ok (.iload_n 2, 1) := by decide +kernel
theorem dX4_plain_177 : decode cX4_plain 177 = .ok (.iaload, 1) := by decide +kernel
theorem dX4_plain_178 : decode cX4_plain 178 = .ok (.iload 4, 2) := by decide +kernel
theorem dX4_plain_180 : decode cX4_plain 180 = .ok (.if_icmp .ne 7, 3) := by decide +kernel
theorem dX4_plain_183 : decode cX4_plain 183 = .ok (.iconst 1, 1) := by decide +kernel
theorem dX4_plain_184 : decode cX4_plain 184 = .ok (.goto 4, 3) := by decide +kernel
theorem dX4_plain_187 : decode cX4_plain 187 = .ok (.iconst 0, 1) := by decide +kernel
theorem dX4_plain_188 : decode cX4_plain 188 = .ok (.invokevirtual 152, 3) := by decide +kernel
theorem dX4_plain_191 : decode cX4_plain 191 = .ok (.return_, 1) := by decide +kernel
set_option maxRecDepth 20000 in
theorem ggX4_each_X4_ends : GoodIn wsX4_each wsX4_ends := goodIn_r _ [8, 9, 10, 24, 25, 26, 27, 28, 29, 30, 31, 32, 33, 34, 35, 36, 37, 38, 39, 40, 41, 42, 43, 44, 45, 46, 47, 48, 49, 50, 51, 52] (by decide +kernel) (by decide +kernel)
set_option maxRecDepth 20000 in
theorem gX4_each_X4_ends : GoodIn wsX4_each (wsV RX4 152 RX4 yX4_ends wsX4_ends) := goodIn_app (goodIn_of _ (by decide +kernel)) ggX4_each_X4_ends
set_option maxRecDepth 20000 in
theorem ggX4_each_X4_asks : GoodIn wsX4_each wsX4_asks := goodIn_ca (goodIn_r _ [14, 15, 10, 16, 17, 18, 7, 19, 20, 21, 22, 23, 24, 25, 26, 27, 28, 29, 30, 31, 32, 33, 34, 35, 36, 37, 38, 39, 40, 41, 42, 43, 44, 45, 46, 47, 48, 49, 50, 51, 52] (by decide +kernel) (by decide +kernel)) (goodIn_sub (fun _ h => List.mem_cons_of_mem _ (List.mem_append_right _ h)) (by decide +kernel))
set_option maxRecDepth 20000 in
theorem gX4_each_X4_asks : GoodIn wsX4_each (wsV RX4 156 RX4 yX4_asks wsX4_asks) := goodIn_app (goodIn_of _ (by decide +kernel)) ggX4_each_X4_asks
theorem dX4_each_0 : decode cX4_each 0 = .ok (.iload_n 3, 1) := by decide +kernel
theorem dX4_each_1 : decode cX4_each 1 = .ok (.aload_n 0, 1) := by decide +kernel
theorem dX4_each_2 : decode cX4_each 2 = .ok (.getfield 16, 3) := by decide +kernel
theorem dX4_each_5 : decode cX4_each 5 = .ok (.iload_n 2, 1) := by decide +kernel
theorem dX4_each_6 : decode cX4_each 6 = .ok (.iaload, 1) := by decide +kernel
theorem dX4_each_7 : decode cX4_each 7 = .ok (.if_icmp .ne 11, 3) := by decide +kernel
theorem dX4_each_10 : decode cX4_each 10 = .ok (.aload_n 0, 1) := by decide +kernel
theorem dX4_each_11 : decode cX4_each 11 = .ok (.iconst 1, 1) := by decide +kernel
theorem dX4_each_12 : decode cX4_each 12 = .ok (.invokevirtual 152, 3) := by decide +kernel
theorem dX4_each_15 : decode cX4_each 15 = .ok (.goto 28, 3) := by decide +kernel
theorem dX4_each_18 : decode cX4_each 18 = .ok (.aload_n 0, 1) := by decide +kernel
theorem dX4_each_19 : decode cX4_each 19 = .ok (.aload_n 0, 1) := by decide +kernel
theorem dX4_each_20 : decode cX4_each 20 = .ok (.getfield 32, 3) := by decide +kernel
theorem dX4_each_23 : decode cX4_each 23 = .ok (.iload_n 1, 1) := by decide +kernel
theorem dX4_each_24 : decode cX4_each 24 = .ok (.iaload, 1) := by decide +kernel
theorem dX4_each_25 : decode cX4_each 25 = .ok (.aload_n 0, 1) := by decide +kernel
theorem dX4_each_26 : decode cX4_each 26 = .ok (.getfield 23, 3) := by decide +kernel
theorem dX4_each_29 : decode cX4_each 29 = .ok (.bipush 6, 2) := by decide +kernel
theorem dX4_each_31 : decode cX4_each 31 = .ok (.iload_n 2, 1) := by decide +kernel
theorem dX4_each_32 : decode cX4_each 32 = .ok (.imul, 1) := by decide +kernel
theorem dX4_each_33 : decode cX4_each 33 = .ok (.iload_n 3, 1) := by decide +kernel
theorem dX4_each_34 : decode cX4_each 34 = .ok (.iadd, 1) := by decide +kernel
theorem dX4_each_35 : decode cX4_each 35 = .ok (.iaload, 1) := by decide +kernel
theorem dX4_each_36 : decode cX4_each 36 = .ok (.bipush 10, 2) := by decide +kernel
theorem dX4_each_38 : decode cX4_each 38 = .ok (.iload_n 3, 1) := by decide +kernel
theorem dX4_each_39 : decode cX4_each 39 = .ok (.iadd, 1) := by decide +kernel
theorem dX4_each_40 : decode cX4_each 40 = .ok (.invokevirtual 156, 3) := by decide +kernel
theorem dX4_each_43 : decode cX4_each 43 = .ok (.return_, 1) := by decide +kernel
set_option maxRecDepth 20000 in
theorem ggX4_goesOn_X4_ends : GoodIn wsX4_goesOn wsX4_ends := goodIn_r _ [9, 1, 10, 29, 30, 31, 32, 33, 34, 35, 36, 37, 38, 39, 40, 41, 42, 43, 44, 45, 46, 47, 48, 49, 50, 51, 52, 53, 54, 55, 56, 57] (by decide +kernel) (by decide +kernel)
set_option maxRecDepth 20000 in
theorem gX4_goesOn_X4_ends : GoodIn wsX4_goesOn (wsV RX4 152 RX4 yX4_ends wsX4_ends) := goodIn_app (goodIn_of _ (by decide +kernel)) ggX4_goesOn_X4_ends
set_option maxRecDepth 20000 in
theorem ggX4_goesOn_X4_each : GoodIn wsX4_goesOn wsX4_each := goodIn_ca (goodIn_r _ [14, 15, 3, 4, 5, 6, 7, 8, 9, 1, 10, 16, 17, 18, 19, 20, 21, 22, 23, 24, 25, 26, 27, 28, 29, 30, 31, 32, 33, 34, 35, 36, 37, 38, 39, 40, 41, 42, 43, 44, 45, 46, 47, 48, 49, 50, 51, 52, 53, 54, 55, 56, 57] (by decide +kernel) (by decide +kernel)) (goodIn_sub (fun _ h => List.mem_cons_of_mem _ (List.mem_append_right _ h)) (by decide +kernel))
set_option maxRecDepth 20000 in
theorem gX4_goesOn_X4_each : GoodIn wsX4_goesOn (wsV RX4 160 RX4 yX4_each wsX4_each) := goodIn_app (goodIn_of _ (by decide +kernel)) ggX4_goesOn_X4_each
set_option maxRecDepth 20000 in
theorem ggX4_goesOn_X4_asks : GoodIn wsX4_goesOn wsX4_asks := goodIn_ca (goodIn_r _ [19, 20, 10, 21, 22, 23, 8, 24, 25, 26, 27, 28, 29, 30, 31, 32, 33, 34, 35, 36, 37, 38, 39, 40, 41, 42, 43, 44, 45, 46, 47, 48, 49, 50, 51, 52, 53, 54, 55, 56, 57] (by decide +kernel) (by decide +kernel)) (goodIn_sub (fun _ h => List.mem_cons_of_mem _ (List.mem_append_right _ h)) (by decide +kernel))
set_option maxRecDepth 20000 in
theorem gX4_goesOn_X4_asks : GoodIn wsX4_goesOn (wsV RX4 156 RX4 yX4_asks wsX4_asks) := goodIn_app (goodIn_of _ (by decide +kernel)) ggX4_goesOn_X4_asks
theorem dX4_goesOn_0 : decode cX4_goesOn 0 = .ok (.iload_n 3, 1) := by decide +kernel
theorem dX4_goesOn_1 : decode cX4_goesOn 1 = .ok (.bipush 9, 2) := by decide +kernel
theorem dX4_goesOn_3 : decode cX4_goesOn 3 = .ok (.if_icmp .ne 14, 3) := by decide +kernel
theorem dX4_goesOn_6 : decode cX4_goesOn 6 = .ok (.aload_n 0, 1) := by decide +kernel
theorem dX4_goesOn_7 : decode cX4_goesOn 7 = .ok (.aload_n 0, 1) := by decide +kernel
theorem dX4_goesOn_8 : decode cX4_goesOn 8 = .ok (.getfield 144, 3) := by decide +kernel
theorem dX4_goesOn_11 : decode cX4_goesOn 11 = .ok (.invokevirtual 152, 3) := by decide +kernel
theorem dX4_goesOn_14 : decode cX4_goesOn 14 = .ok (.goto 133, 3) := by decide +kernel
theorem dX4_goesOn_17 : decode cX4_goesOn 17 = .ok (.iload_n 3, 1) := by decide +kernel
theorem dX4_goesOn_18 : decode cX4_goesOn 18 = .ok (.bipush 8, 2) := by decide +kernel
theorem dX4_goesOn_20 : decode cX4_goesOn 20 = .ok (.if_icmp .ne 22, 3) := by decide +kernel
theorem dX4_goesOn_23 : decode cX4_goesOn 23 = .ok (.aload_n 0, 1) := by decide +kernel
theorem dX4_goesOn_24 : decode cX4_goesOn 24 = .ok (.aload_n 0, 1) := by decide +kernel
theorem dX4_goesOn_25 : decode cX4_goesOn 25 = .ok (.getfield 144, 3) := by decide +kernel
theorem dX4_goesOn_28 : decode cX4_goesOn 28 = .ok (.ifCond .ne 7, 3) := by decide +kernel
theorem dX4_goesOn_31 : decode cX4_goesOn 31 = .ok (.iconst 1, 1) := by decide +kernel
theorem dX4_goesOn_32 : decode cX4_goesOn 32 = .ok (.goto 4, 3) := by decide +kernel
theorem dX4_goesOn_35 : decode cX4_goesOn 35 = .ok (.iconst 0, 1) := by decide +kernel
theorem dX4_goesOn_36 : decode cX4_goesOn 36 = .ok (.invokevirtual 152, 3) := by decide +kernel
theorem dX4_goesOn_39 : decode cX4_goesOn 39 = .ok (.goto 108, 3) := by decide +kernel
theorem dX4_goesOn_42 : decode cX4_goesOn 42 = .ok (.iload_n 3, 1) := by decide +kernel
theorem dX4_goesOn_43 : decode cX4_goesOn 43 = .ok (.bipush 10, 2) := by decide +kernel
theorem dX4_goesOn_45 : decode cX4_goesOn 45 = .ok (.if_icmp .lt 31, 3) := by decide +kernel
theorem dX4_goesOn_48 : decode cX4_goesOn 48 = .ok (.aload_n 0, 1) := by decide +kernel
theorem dX4_goesOn_49 : decode cX4_goesOn 49 = .ok (.getfield 144, 3) := by decide +kernel
theorem dX4_goesOn_52 : decode cX4_goesOn 52 = .ok (.ifCond .eq 16, 3) := by decide +kernel
theorem dX4_goesOn_55 : decode cX4_goesOn 55 = .ok (.aload_n 0, 1) := by decide +kernel
theorem dX4_goesOn_56 : decode cX4_goesOn 56 = .ok (.iload_n 1, 1) := by decide +kernel
theorem dX4_goesOn_57 : decode cX4_goesOn 57 = .ok (.iload_n 2, 1) := by decide +kernel
theorem dX4_goesOn_58 : decode cX4_goesOn 58 = .ok (.iload_n 3, 1) := by decide +kernel
theorem dX4_goesOn_59 : decode cX4_goesOn 59 = .ok (.bipush 9, 2) := by decide +kernel
theorem dX4_goesOn_61 : decode cX4_goesOn 61 = .ok (.isub, 1) := by decide +kernel
theorem dX4_goesOn_62 : decode cX4_goesOn 62 = .ok (.invokevirtual 160, 3) := by decide +kernel
theorem dX4_goesOn_65 : decode cX4_goesOn 65 = .ok (.goto 82, 3) := by decide +kernel
theorem dX4_goesOn_68 : decode cX4_goesOn 68 = .ok (.aload_n 0, 1) := by decide +kernel
theorem dX4_goesOn_69 : decode cX4_goesOn 69 = .ok (.iconst 0, 1) := by decide +kernel
theorem dX4_goesOn_70 : decode cX4_goesOn 70 = .ok (.invokevirtual 152, 3) := by decide +kernel
theorem dX4_goesOn_73 : decode cX4_goesOn 73 = .ok (.goto 74, 3) := by decide +kernel
theorem dX4_goesOn_76 : decode cX4_goesOn 76 = .ok (.aload_n 0, 1) := by decide +kernel
theorem dX4_goesOn_77 : decode cX4_goesOn 77 = .ok (.getfield 144, 3) := by decide +kernel
theorem dX4_goesOn_80 : decode cX4_goesOn 80 = .ok (.aload_n 0, 1) := by decide +kernel
theorem dX4_goesOn_81 : decode cX4_goesOn 81 = .ok (.getfield 26, 3) := by decide +kernel
theorem dX4_goesOn_84 : decode cX4_goesOn 84 = .ok (.iload_n 1, 1) := by decide +kernel
theorem dX4_goesOn_85 : decode cX4_goesOn 85 = .ok (.iaload, 1) := by decide +kernel
theorem dX4_goesOn_86 : decode cX4_goesOn 86 = .ok (.bipush 8, 2) := by decide +kernel
theorem dX4_goesOn_88 : decode cX4_goesOn 88 = .ok (.if_icmp .ne 7, 3) := by decide +kernel
theorem dX4_goesOn_91 : decode cX4_goesOn 91 = .ok (.iconst 1, 1) := by decide +kernel
theorem dX4_goesOn_92 : decode cX4_goesOn 92 = .ok (.goto 4, 3) := by decide +kernel
theorem dX4_goesOn_95 : decode cX4_goesOn 95 = .ok (.iconst 0, 1) := by decide +kernel
theorem dX4_goesOn_96 : decode cX4_goesOn 96 = .ok (.if_icmp .ne 14, 3) := by decide +kernel
theorem dX4_goesOn_99 : decode cX4_goesOn 99 = .ok (.aload_n 0, 1) := by decide +kernel
theorem dX4_goesOn_100 : decode cX4_goesOn 100 = .ok (.aload_n 0, 1) := by decide +kernel
theorem dX4_goesOn_101 : decode cX4_goesOn 101 = .ok (.getfield 144, 3) := by decide +kernel
theorem dX4_goesOn_104 : decode cX4_goesOn 104 = .ok (.invokevirtual 152, 3) := by decide +kernel
theorem dX4_goesOn_107 : decode cX4_goesOn 107 = .ok (.goto 40, 3) := by decide +kernel
theorem dX4_goesOn_110 : decode cX4_goesOn 110 = .ok (.aload_n 0, 1) := by decide +kernel
theorem dX4_goesOn_111 : decode cX4_goesOn 111 = .ok (.aload_n 0, 1) := by decide +kernel
theorem dX4_goesOn_112 : decode cX4_goesOn 112 = .ok (.getfield 32, 3) := by decide +kernel
theorem dX4_goesOn_115 : decode cX4_goesOn 115 = .ok (.iload_n 1, 1) := by decide +kernel
theorem dX4_goesOn_116 : decode cX4_goesOn 116 = .ok (.iaload, 1) := by decide +kernel
theorem dX4_goesOn_117 : decode cX4_goesOn 117 = .ok (.aload_n 0, 1) := by decide +kernel
theorem dX4_goesOn_118 : decode cX4_goesOn 118 = .ok (.getfield 26, 3) := by decide +kernel
theorem dX4_goesOn_121 : decode cX4_goesOn 121 = .ok (.iload_n 1, 1) := by decide +kernel
theorem dX4_goesOn_122 : decode cX4_goesOn 122 = .ok (.iaload, 1) := by decide +kernel
theorem dX4_goesOn_123 : decode cX4_goesOn 123 = .ok (.iconst 3, 1) := by decide +kernel
theorem dX4_goesOn_124 : decode cX4_goesOn 124 = .ok (.if_icmp .ne 17, 3) := by decide +kernel
theorem dX4_goesOn_127 : decode cX4_goesOn 127 = .ok (.aload_n 0, 1) := by decide +kernel
theorem dX4_goesOn_128 : decode cX4_goesOn 128 = .ok (.getfield 23, 3) := by decide +kernel
theorem dX4_goesOn_131 : decode cX4_goesOn 131 = .ok (.bipush 6, 2) := by decide +kernel
theorem dX4_goesOn_133 : decode cX4_goesOn 133 = .ok (.iload_n 2, 1) := by decide +kernel
theorem dX4_goesOn_134 : decode cX4_goesOn 134 = .ok (.imul, 1) := by decide +kernel
theorem dX4_goesOn_135 : decode cX4_goesOn 135 = .ok (.iconst 1, 1) := by decide +kernel
theorem dX4_goesOn_136 : decode cX4_goesOn 136 = .ok (.iadd, 1) := by decide +kernel
theorem dX4_goesOn_137 : decode cX4_goesOn 137 = .ok (.iaload, 1) := by decide +kernel
theorem dX4_goesOn_138 : decode cX4_goesOn 138 = .ok (.goto 4, 3) := by decide +kernel
theorem dX4_goesOn_141 : decode cX4_goesOn 141 = .ok (.iload_n 2, 1) := by decide +kernel
theorem dX4_goesOn_142 : decode cX4_goesOn 142 = .ok (.bipush 9, 2) := by decide +kernel
theorem dX4_goesOn_144 : decode cX4_goesOn 144 = .ok (.invokevirtual 156, 3) := by decide +kernel
theorem dX4_goesOn_147 : decode cX4_goesOn 147 = .ok (.return_, 1) := by decide +kernel
set_option maxRecDepth 20000 in
theorem ggX4_matches_X4_look : GoodIn wsX4_matches wsX4_look := goodIn_ca (goodIn_r _ [14, 5, 3, 8, 4, 9, 7, 74, 75, 76, 77, 78, 79, 80, 81, 82, 83, 84, 85, 86, 87, 88, 89, 90, 91, 92, 93, 94, 95, 96, 97, 98, 99, 100, 101, 102] (by decide +kernel) (by decide +kernel)) (goodIn_sub (fun _ h => List.mem_cons_of_mem _ (List.mem_append_right _ h)) (by decide +kernel))
set_option maxRecDepth 20000 in
theorem gX4_matches_X4_look : GoodIn wsX4_matches (wsV RX4 148 RX4 yX4_look wsX4_look) := goodIn_app (goodIn_of _ (by decide +kernel)) ggX4_matches_X4_look
set_option maxRecDepth 20000 in
theorem ggX4_matches_X4_begins : GoodIn wsX4_matches wsX4_begins := goodIn_ca (goodIn_r _ [18, 19, 20, 21, 22, 5, 23, 24, 25, 26, 27, 13, 28, 29, 30, 31, 32, 33, 34, 35, 36, 6, 4, 37, 38, 39, 40, 41, 42, 43, 44, 7, 10, 11, 12, 14, 3, 8, 9, 45, 46, 47, 48, 49, 50, 51, 52, 53, 54, 55, 56, 57, 58, 59, 60, 2, 61, 62, 63, 64, 74, 75, 76, 77, 78, 79, 80, 81, 82, 83, 84, 85, 86, 87, 88, 89, 90, 91, 92, 93, 94, 95, 96, 97, 98, 99, 100, 101, 102] (by decide +kernel) (by decide +kernel)) (goodIn_sub (fun _ h => List.mem_cons_of_mem _ (List.mem_append_right _ h)) (by decide +kernel))
set_option maxRecDepth 20000 in
theorem gX4_matches_X4_begins : GoodIn wsX4_matches (wsV RX4 174 RX4 yX4_begins wsX4_begins) := goodIn_app (goodIn_of _ (by decide +kernel)) ggX4_matches_X4_begins
set_option maxRecDepth 20000 in
theorem ggX4_matches_X4_goesOn : GoodIn wsX4_matches wsX4_goesOn := goodIn_ca (goodIn_r _ [68, 6, 22, 20, 23, 33, 34, 35, 13, 36, 4, 45, 46, 47, 48, 49, 41, 42, 43, 44, 7, 10, 11, 12, 14, 5, 3, 8, 9, 74, 75, 76, 77, 78, 79, 80, 81, 82, 83, 84, 85, 86, 87, 88, 89, 90, 91, 92, 93, 94, 95, 96, 97, 98, 99, 100, 101, 102] (by decide +kernel) (by decide +kernel)) (goodIn_sub (fun _ h => List.mem_cons_of_mem _ (List.mem_append_right _ h)) (by decide +kernel))
set_option maxRecDepth 20000 in
theorem gX4_matches_X4_goesOn : GoodIn wsX4_matches (wsV RX4 177 RX4 yX4_goesOn wsX4_goesOn) := goodIn_app (goodIn_of _ (by decide +kernel)) ggX4_matches_X4_goesOn
set_option maxRecDepth 20000 in
theorem ggX4_matches_X4_finds : GoodIn wsX4_matches wsX4_finds := goodIn_ca (goodIn_r _ [72, 73, 74, 75, 76, 77, 78, 79, 80, 81, 82, 83, 84, 85, 86, 87, 88, 89, 90, 91, 92, 93, 94, 95, 96, 97, 98, 99, 100, 101, 102] (by decide +kernel) (by decide +kernel)) (goodIn_sub (fun _ h => List.mem_cons_of_mem _ (List.mem_append_right _ h)) (by decide +kernel))
set_option maxRecDepth 20000 in
theorem gX4_matches_X4_finds : GoodIn wsX4_matches (wsV RX4 97 RX4 yX4_finds wsX4_finds) := goodIn_app (goodIn_of _ (by decide +kernel)) ggX4_matches_X4_finds
theorem dX4_matches_0 : decode cX4_matches 0 = .ok (.iconst 0, 1) := by decide +kernel
theorem dX4_matches_1 : decode cX4_matches 1 = .ok (.istore_n 3, 1) := by decide +kernel
theorem dX4_matches_2 : decode cX4_matches 2 = .ok (.iload_n 3, 1) := by decide +kernel
theorem dX4_matches_3 : decode cX4_matches 3 = .ok (.iconst 4, 1) := by decide +kernel
theorem dX4_matches_4 : decode cX4_matches 4 = .ok (.if_icmp .ge 21, 3) := by decide +kernel
theorem dX4_matches_7 : decode cX4_matches 7 = .ok (.aload_n 0, 1) := by decide +kernel
theorem dX4_matches_8 : decode cX4_matches 8 = .ok (.getfield 59, 3) := by decide +kernel
theorem dX4_matches_11 : decode cX4_matches 11 = .ok (.iload_n 3, 1) := by decide +kernel
theorem dX4_matches_12 : decode cX4_matches 12 = .ok (.aload_n 0, 1) := by decide +kernel
theorem dX4_matches_13 : decode cX4_matches 13 = .ok (.getfield 56, 3) := by decide +kernel
theorem dX4_matches_16 : decode cX4_matches 16 = .ok (.iload_n 3, 1) := by decide +kernel
theorem dX4_matches_17 : decode cX4_matches 17 = .ok (.iaload, 1) := by decide +kernel
theorem dX4_matches_18 : decode cX4_matches 18 = .ok (.iastore, 1) := by decide +kernel
theorem dX4_matches_19 : decode cX4_matches 19 = .ok (.iinc 3 1, 3) := by decide +kernel
theorem dX4_matches_22 : decode cX4_matches 22 = .ok (.goto (-20), 3) := by decide +kernel
theorem dX4_matches_25 : decode cX4_matches 25 = .ok (.aload_n 0, 1) := by decide +kernel
theorem dX4_matches_26 : decode cX4_matches 26 = .ok (.iconst 0, 1) := by decide +kernel
theorem dX4_matches_27 : decode cX4_matches 27 = .ok (.putfield 138, 3) := by decide +kernel
theorem dX4_matches_30 : decode cX4_matches 30 = .ok (.aload_n 0, 1) := by decide +kernel
theorem dX4_matches_31 : decode cX4_matches 31 = .ok (.iconst 0, 1) := by decide +kernel
theorem dX4_matches_32 : decode cX4_matches 32 = .ok (.putfield 141, 3) := by decide +kernel
theorem dX4_matches_35 : decode cX4_matches 35 = .ok (.aload_n 0, 1) := by decide +kernel
theorem dX4_matches_36 : decode cX4_matches 36 = .ok (.iconst 0, 1) := by decide +kernel
theorem dX4_matches_37 : decode cX4_matches 37 = .ok (.putfield 135, 3) := by decide +kernel
theorem dX4_matches_40 : decode cX4_matches 40 = .ok (.aload_n 0, 1) := by decide +kernel
theorem dX4_matches_41 : decode cX4_matches 41 = .ok (.iconst 0, 1) := by decide +kernel
theorem dX4_matches_42 : decode cX4_matches 42 = .ok (.putfield 144, 3) := by decide +kernel
theorem dX4_matches_45 : decode cX4_matches 45 = .ok (.aload_n 0, 1) := by decide +kernel
theorem dX4_matches_46 : decode cX4_matches 46 = .ok (.iload_n 1, 1) := by decide +kernel
theorem dX4_matches_47 : decode cX4_matches 47 = .ok (.iload_n 2, 1) := by decide +kernel
theorem dX4_matches_48 : decode cX4_matches 48 = .ok (.invokevirtual 148, 3) := by decide +kernel
theorem dX4_matches_51 : decode cX4_matches 51 = .ok (.aload_n 0, 1) := by decide +kernel
theorem dX4_matches_52 : decode cX4_matches 52 = .ok (.getfield 141, 3) := by decide +kernel
theorem dX4_matches_55 : decode cX4_matches 55 = .ok (.ifCond .le 70, 3) := by decide +kernel
theorem dX4_matches_58 : decode cX4_matches 58 = .ok (.aload_n 0, 1) := by decide +kernel
theorem dX4_matches_59 : decode cX4_matches 59 = .ok (.getfield 135, 3) := by decide +kernel
theorem dX4_matches_62 : decode cX4_matches 62 = .ok (.ifCond .ne 63, 3) := by decide +kernel
theorem dX4_matches_65 : decode cX4_matches 65 = .ok (.aload_n 0, 1) := by decide +kernel
theorem dX4_matches_66 : decode cX4_matches 66 = .ok (.getfield 141, 3) := by decide +kernel
theorem dX4_matches_69 : decode cX4_matches 69 = .ok (.iconst 1, 1) := by decide +kernel
theorem dX4_matches_70 : decode cX4_matches 70 = .ok (.isub, 1) := by decide +kernel
theorem dX4_matches_71 : decode cX4_matches 71 = .ok (.istore_n 3, 1) := by decide +kernel
theorem dX4_matches_72 : decode cX4_matches 72 = .ok (.aload_n 0, 1) := by decide +kernel
theorem dX4_matches_73 : decode cX4_matches 73 = .ok (.getfield 71, 3) := by decide +kernel
theorem dX4_matches_76 : decode cX4_matches 76 = .ok (.iload_n 3, 1) := by decide +kernel
theorem dX4_matches_77 : decode cX4_matches 77 = .ok (.iaload, 1) := by decide +kernel
theorem dX4_matches_78 : decode cX4_matches 78 = .ok (.ifCond .ne 22, 3) := by decide +kernel
theorem dX4_matches_81 : decode cX4_matches 81 = .ok (.aload_n 0, 1) := by decide +kernel
theorem dX4_matches_82 : decode cX4_matches 82 = .ok (.aload_n 0, 1) := by decide +kernel
theorem dX4_matches_83 : decode cX4_matches 83 = .ok (.getfield 65, 3) := by decide +kernel
theorem dX4_matches_86 : decode cX4_matches 86 = .ok (.iload_n 3, 1) := by decide +kernel
theorem dX4_matches_87 : decode cX4_matches 87 = .ok (.iaload, 1) := by decide +kernel
theorem dX4_matches_88 : decode cX4_matches 88 = .ok (.aload_n 0, 1) := by decide +kernel
theorem dX4_matches_89 : decode cX4_matches 89 = .ok (.getfield 68, 3) := by decide +kernel
theorem dX4_matches_92 : decode cX4_matches 92 = .ok (.iload_n 3, 1) := by decide +kernel
theorem dX4_matches_93 : decode cX4_matches 93 = .ok (.iaload, 1) := by decide +kernel
theorem dX4_matches_94 : decode cX4_matches 94 = .ok (.invokevirtual 174, 3) := by decide +kernel
theorem dX4_matches_97 : decode cX4_matches 97 = .ok (.goto 25, 3) := by decide +kernel
theorem dX4_matches_100 : decode cX4_matches 100 = .ok (.aload_n 0, 1) := by decide +kernel
theorem dX4_matches_101 : decode cX4_matches 101 = .ok (.aload_n 0, 1) := by decide +kernel
theorem dX4_matches_102 : decode cX4_matches 102 = .ok (.getfield 65, 3) := by decide +kernel
theorem dX4_matches_105 : decode cX4_matches 105 = .ok (.iload_n 3, 1) := by decide +kernel
theorem dX4_matches_106 : decode cX4_matches 106 = .ok (.iaload, 1) := by decide +kernel
theorem dX4_matches_107 : decode cX4_matches 107 = .ok (.aload_n 0, 1) := by decide +kernel
theorem dX4_matches_108 : decode cX4_matches 108 = .ok (.getfield 68, 3) := by decide +kernel
