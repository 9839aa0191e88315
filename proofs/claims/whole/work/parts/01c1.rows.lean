theorem dX3_apply_113 : decode cX3_apply 113 = .ok (.aload_n 0, 1) := by decide +kernel
theorem dX3_apply_114 : decode cX3_apply 114 = .ok (.getfield 26, 3) := by decide +kernel
theorem dX3_apply_117 : decode cX3_apply 117 = .ok (.getfield 149, 3) := by decide +kernel
theorem dX3_apply_120 : decode cX3_apply 120 = .ok (.iload_n 2, 1) := by decide +kernel
theorem dX3_apply_121 : decode cX3_apply 121 = .ok (.dup2, 1) := by decide +kernel
theorem dX3_apply_122 : decode cX3_apply 122 = .ok (.iaload, 1) := by decide +kernel
theorem dX3_apply_123 : decode cX3_apply 123 = .ok (.iconst 1, 1) := by decide +kernel
theorem dX3_apply_124 : decode cX3_apply 124 = .ok (.iadd, 1) := by decide +kernel
theorem dX3_apply_125 : decode cX3_apply 125 = .ok (.iastore, 1) := by decide +kernel
theorem dX3_apply_126 : decode cX3_apply 126 = .ok (.iinc 2 1, 3) := by decide +kernel
theorem dX3_apply_129 : decode cX3_apply 129 = .ok (.goto (-114), 3) := by decide +kernel
theorem dX3_apply_132 : decode cX3_apply 132 = .ok (.bipush (-5), 2) := by decide +kernel
theorem dX3_apply_134 : decode cX3_apply 134 = .ok (.ireturn, 1) := by decide +kernel
set_option maxRecDepth 20000 in
theorem ggX3_told_X1_know : GoodIn wsX3_told wsX1_know := goodIn_r _ [8, 9, 17, 18, 19, 20, 21, 22, 23] (by decide +kernel) (by decide +kernel)
set_option maxRecDepth 20000 in
theorem gX3_told_X1_know : GoodIn wsX3_told (wsV RX3 152 RX1 yX1_know wsX1_know) := goodIn_app (goodIn_of _ (by decide +kernel)) ggX3_told_X1_know
theorem dX3_told_0 : decode cX3_told 0 = .ok (.aload_n 0, 1) := by decide +kernel
theorem dX3_told_1 : decode cX3_told 1 = .ok (.getfield 26, 3) := by decide +kernel
theorem dX3_told_4 : decode cX3_told 4 = .ok (.iload_n 1, 1) := by decide +kernel
theorem dX3_told_5 : decode cX3_told 5 = .ok (.invokevirtual 152, 3) := by decide +kernel
theorem dX3_told_8 : decode cX3_told 8 = .ok (.ifCond .ne 5, 3) := by decide +kernel
theorem dX3_told_11 : decode cX3_told 11 = .ok (.iconst (-1), 1) := by decide +kernel
theorem dX3_told_12 : decode cX3_told 12 = .ok (.ireturn, 1) := by decide +kernel
theorem dX3_told_13 : decode cX3_told 13 = .ok (.iload_n 2, 1) := by decide +kernel
theorem dX3_told_14 : decode cX3_told 14 = .ok (.lookupswitch 46 #[(0, 26), (1, 36)], 26) := by decide +kernel
theorem dX3_told_40 : decode cX3_told 40 = .ok (.aload_n 0, 1) := by decide +kernel
theorem dX3_told_41 : decode cX3_told 41 = .ok (.getfield 26, 3) := by decide +kernel
theorem dX3_told_44 : decode cX3_told 44 = .ok (.getfield 134, 3) := by decide +kernel
theorem dX3_told_47 : decode cX3_told 47 = .ok (.iload_n 1, 1) := by decide +kernel
theorem dX3_told_48 : decode cX3_told 48 = .ok (.iaload, 1) := by decide +kernel
theorem dX3_told_49 : decode cX3_told 49 = .ok (.ireturn, 1) := by decide +kernel
theorem dX3_told_50 : decode cX3_told 50 = .ok (.aload_n 0, 1) := by decide +kernel
theorem dX3_told_51 : decode cX3_told 51 = .ok (.getfield 26, 3) := by decide +kernel
theorem dX3_told_54 : decode cX3_told 54 = .ok (.getfield 149, 3) := by decide +kernel
theorem dX3_told_57 : decode cX3_told 57 = .ok (.iload_n 1, 1) := by decide +kernel
theorem dX3_told_58 : decode cX3_told 58 = .ok (.iaload, 1) := by decide +kernel
theorem dX3_told_59 : decode cX3_told 59 = .ok (.ireturn, 1) := by decide +kernel
theorem dX3_told_60 : decode cX3_told 60 = .ok (.bipush (-2), 2) := by decide +kernel
theorem dX3_told_62 : decode cX3_told 62 = .ok (.ireturn, 1) := by decide +kernel
set_option maxRecDepth 20000 in
theorem ggX3_count_X3_within : GoodIn wsX3_count wsX3_within := goodIn_r _ [12] (by decide +kernel) (by decide +kernel)
set_option maxRecDepth 20000 in
theorem gX3_count_X3_within : GoodIn wsX3_count (va_wsS RX3 43 yX3_within wsX3_within) := goodIn_app (goodIn_of _ (by decide +kernel)) ggX3_count_X3_within
theorem dX3_count_0 : decode cX3_count 0 = .ok (.iload_n 1, 1) := by decide +kernel
theorem dX3_count_1 : decode cX3_count 1 = .ok (.tableswitch 60 0 3 #[31, 39, 47, 55], 31) := by decide +kernel
theorem dX3_count_32 : decode cX3_count 32 = .ok (.aload_n 0, 1) := by decide +kernel
theorem dX3_count_33 : decode cX3_count 33 = .ok (.getfield 10, 3) := by decide +kernel
theorem dX3_count_36 : decode cX3_count 36 = .ok (.getfield 153, 3) := by decide +kernel
theorem dX3_count_39 : decode cX3_count 39 = .ok (.ireturn, 1) := by decide +kernel
theorem dX3_count_40 : decode cX3_count 40 = .ok (.aload_n 0, 1) := by decide +kernel
theorem dX3_count_41 : decode cX3_count 41 = .ok (.getfield 19, 3) := by decide +kernel
theorem dX3_count_44 : decode cX3_count 44 = .ok (.getfield 154, 3) := by decide +kernel
theorem dX3_count_47 : decode cX3_count 47 = .ok (.ireturn, 1) := by decide +kernel
theorem dX3_count_48 : decode cX3_count 48 = .ok (.aload_n 0, 1) := by decide +kernel
theorem dX3_count_49 : decode cX3_count 49 = .ok (.getfield 26, 3) := by decide +kernel
theorem dX3_count_52 : decode cX3_count 52 = .ok (.getfield 127, 3) := by decide +kernel
theorem dX3_count_55 : decode cX3_count 55 = .ok (.ireturn, 1) := by decide +kernel
theorem dX3_count_56 : decode cX3_count 56 = .ok (.aload_n 0, 1) := by decide +kernel
theorem dX3_count_57 : decode cX3_count 57 = .ok (.getfield 155, 3) := by decide +kernel
theorem dX3_count_60 : decode cX3_count 60 = .ok (.ireturn, 1) := by decide +kernel
theorem dX3_count_61 : decode cX3_count 61 = .ok (.iload_n 1, 1) := by decide +kernel
theorem dX3_count_62 : decode cX3_count 62 = .ok (.iconst 4, 1) := by decide +kernel
theorem dX3_count_63 : decode cX3_count 63 = .ok (.bipush 9, 2) := by decide +kernel
theorem dX3_count_65 : decode cX3_count 65 = .ok (.invokestatic 43, 3) := by decide +kernel
theorem dX3_count_68 : decode cX3_count 68 = .ok (.ifCond .eq 14, 3) := by decide +kernel
theorem dX3_count_71 : decode cX3_count 71 = .ok (.aload_n 0, 1) := by decide +kernel
theorem dX3_count_72 : decode cX3_count 72 = .ok (.getfield 37, 3) := by decide +kernel
theorem dX3_count_75 : decode cX3_count 75 = .ok (.iload_n 1, 1) := by decide +kernel
theorem dX3_count_76 : decode cX3_count 76 = .ok (.iconst 4, 1) := by decide +kernel
theorem dX3_count_77 : decode cX3_count 77 = .ok (.isub, 1) := by decide +kernel
theorem dX3_count_78 : decode cX3_count 78 = .ok (.iaload, 1) := by decide +kernel
theorem dX3_count_79 : decode cX3_count 79 = .ok (.goto 5, 3) := by decide +kernel
theorem dX3_count_82 : decode cX3_count 82 = .ok (.bipush (-2), 2) := by decide +kernel
theorem dX3_count_84 : decode cX3_count 84 = .ok (.ireturn, 1) := by decide +kernel
set_option maxRecDepth 20000 in
theorem ggX3_clear_X3_forgetTraces : GoodIn wsX3_clear wsX3_forgetTraces := goodIn_ca (goodIn_r _ [11, 12, 13, 14, 15, 16, 17, 18, 19, 20, 21] (by decide +kernel) (by decide +kernel)) (goodIn_sub (fun _ h => List.mem_cons_of_mem _ (List.mem_append_right _ h)) (by decide +kernel))
set_option maxRecDepth 20000 in
theorem gX3_clear_X3_forgetTraces : GoodIn wsX3_clear (wsV RX3 40 RX3 yX3_forgetTraces wsX3_forgetTraces) := goodIn_app (goodIn_of _ (by decide +kernel)) ggX3_clear_X3_forgetTraces
theorem dX3_clear_0 : decode cX3_clear 0 = .ok (.aload_n 0, 1) := by decide +kernel
theorem dX3_clear_1 : decode cX3_clear 1 = .ok (.getfield 10, 3) := by decide +kernel
theorem dX3_clear_4 : decode cX3_clear 4 = .ok (.getfield 153, 3) := by decide +kernel
theorem dX3_clear_7 : decode cX3_clear 7 = .ok (.istore_n 1, 1) := by decide +kernel
theorem dX3_clear_8 : decode cX3_clear 8 = .ok (.aload_n 0, 1) := by decide +kernel
theorem dX3_clear_9 : decode cX3_clear 9 = .ok (.getfield 10, 3) := by decide +kernel
theorem dX3_clear_12 : decode cX3_clear 12 = .ok (.iconst 0, 1) := by decide +kernel
theorem dX3_clear_13 : decode cX3_clear 13 = .ok (.putfield 153, 3) := by decide +kernel
theorem dX3_clear_16 : decode cX3_clear 16 = .ok (.aload_n 0, 1) := by decide +kernel
theorem dX3_clear_17 : decode cX3_clear 17 = .ok (.getfield 19, 3) := by decide +kernel
theorem dX3_clear_20 : decode cX3_clear 20 = .ok (.iconst 0, 1) := by decide +kernel
theorem dX3_clear_21 : decode cX3_clear 21 = .ok (.putfield 154, 3) := by decide +kernel
theorem dX3_clear_24 : decode cX3_clear 24 = .ok (.aload_n 0, 1) := by decide +kernel
theorem dX3_clear_25 : decode cX3_clear 25 = .ok (.getfield 26, 3) := by decide +kernel
theorem dX3_clear_28 : decode cX3_clear 28 = .ok (.iconst 0, 1) := by decide +kernel
theorem dX3_clear_29 : decode cX3_clear 29 = .ok (.putfield 127, 3) := by decide +kernel
theorem dX3_clear_32 : decode cX3_clear 32 = .ok (.aload_n 0, 1) := by decide +kernel
theorem dX3_clear_33 : decode cX3_clear 33 = .ok (.invokevirtual 40, 3) := by decide +kernel
theorem dX3_clear_36 : decode cX3_clear 36 = .ok (.iload_n 1, 1) := by decide +kernel
theorem dX3_clear_37 : decode cX3_clear 37 = .ok (.ireturn, 1) := by decide +kernel
theorem dX3_forgetTraces_0 : decode cX3_forgetTraces 0 = .ok (.iconst 0, 1) := by decide +kernel
theorem dX3_forgetTraces_1 : decode cX3_forgetTraces 1 = .ok (.istore_n 1, 1) := by decide +kernel
theorem dX3_forgetTraces_2 : decode cX3_forgetTraces 2 = .ok (.iload_n 1, 1) := by decide +kernel
theorem dX3_forgetTraces_3 : decode cX3_forgetTraces 3 = .ok (.iconst 4, 1) := by decide +kernel
theorem dX3_forgetTraces_4 : decode cX3_forgetTraces 4 = .ok (.if_icmp .ge 17, 3) := by decide +kernel
theorem dX3_forgetTraces_7 : decode cX3_forgetTraces 7 = .ok (.aload_n 0, 1) := by decide +kernel
theorem dX3_forgetTraces_8 : decode cX3_forgetTraces 8 = .ok (.getfield 30, 3) := by decide +kernel
theorem dX3_forgetTraces_11 : decode cX3_forgetTraces 11 = .ok (.iload_n 1, 1) := by decide +kernel
theorem dX3_forgetTraces_12 : decode cX3_forgetTraces 12 = .ok (.bipush (-5), 2) := by decide +kernel
theorem dX3_forgetTraces_14 : decode cX3_forgetTraces 14 = .ok (.iastore, 1) := by decide +kernel
theorem dX3_forgetTraces_15 : decode cX3_forgetTraces 15 = .ok (.iinc 1 1, 3) := by decide +kernel
theorem dX3_forgetTraces_18 : decode cX3_forgetTraces 18 = .ok (.goto (-16), 3) := by decide +kernel
theorem dX3_forgetTraces_21 : decode cX3_forgetTraces 21 = .ok (.iconst 0, 1) := by decide +kernel
theorem dX3_forgetTraces_22 : decode cX3_forgetTraces 22 = .ok (.istore_n 1, 1) := by decide +kernel
theorem dX3_forgetTraces_23 : decode cX3_forgetTraces 23 = .ok (.iload_n 1, 1) := by decide +kernel
theorem dX3_forgetTraces_24 : decode cX3_forgetTraces 24 = .ok (.bipush 6, 2) := by decide +kernel
theorem dX3_forgetTraces_26 : decode cX3_forgetTraces 26 = .ok (.if_icmp .ge 16, 3) := by decide +kernel
theorem dX3_forgetTraces_29 : decode cX3_forgetTraces 29 = .ok (.aload_n 0, 1) := by decide +kernel
theorem dX3_forgetTraces_30 : decode cX3_forgetTraces 30 = .ok (.getfield 37, 3) := by decide +kernel
theorem dX3_forgetTraces_33 : decode cX3_forgetTraces 33 = .ok (.iload_n 1, 1) := by decide +kernel
theorem dX3_forgetTraces_34 : decode cX3_forgetTraces 34 = .ok (.iconst 0, 1) := by decide +kernel
theorem dX3_forgetTraces_35 : decode cX3_forgetTraces 35 = .ok (.iastore, 1) := by decide +kernel
theorem dX3_forgetTraces_36 : decode cX3_forgetTraces 36 = .ok (.iinc 1 1, 3) := by decide +kernel
theorem dX3_forgetTraces_39 : decode cX3_forgetTraces 39 = .ok (.goto (-16), 3) := by decide +kernel
theorem dX3_forgetTraces_42 : decode cX3_forgetTraces 42 = .ok (.aload_n 0, 1) := by decide +kernel
theorem dX3_forgetTraces_43 : decode cX3_forgetTraces 43 = .ok (.iconst 0, 1) := by decide +kernel
theorem dX3_forgetTraces_44 : decode cX3_forgetTraces 44 = .ok (.putfield 155, 3) := by decide +kernel
theorem dX3_forgetTraces_47 : decode cX3_forgetTraces 47 = .ok (.return_, 1) := by decide +kernel
theorem dX3_within_0 : decode cX3_within 0 = .ok (.iload_n 0, 1) := by decide +kernel
theorem dX3_within_1 : decode cX3_within 1 = .ok (.iload_n 1, 1) := by decide +kernel
theorem dX3_within_2 : decode cX3_within 2 = .ok (.if_icmp .lt 12, 3) := by decide +kernel
theorem dX3_within_5 : decode cX3_within 5 = .ok (.iload_n 0, 1) := by decide +kernel
theorem dX3_within_6 : decode cX3_within 6 = .ok (.iload_n 2, 1) := by decide +kernel
theorem dX3_within_7 : decode cX3_within 7 = .ok (.if_icmp .gt 7, 3) := by decide +kernel
theorem dX3_within_10 : decode cX3_within 10 = .ok (.iconst 1, 1) := by decide +kernel
theorem dX3_within_11 : decode cX3_within 11 = .ok (.goto 4, 3) := by decide +kernel
theorem dX3_within_14 : decode cX3_within 14 = .ok (.iconst 0, 1) := by decide +kernel
theorem dX3_within_15 : decode cX3_within 15 = .ok (.ireturn, 1) := by decide +kernel
set_option maxRecDepth 20000 in
theorem ggX3_isHolderKind_X3_within : GoodIn wsX3_isHolderKind wsX3_within := goodIn_r _ [4] (by decide +kernel) (by decide +kernel)
set_option maxRecDepth 20000 in
theorem gX3_isHolderKind_X3_within : GoodIn wsX3_isHolderKind (va_wsS RX3 43 yX3_within wsX3_within) := goodIn_app (goodIn_of _ (by decide +kernel)) ggX3_isHolderKind_X3_within
theorem dX3_isHolderKind_0 : decode cX3_isHolderKind 0 = .ok (.iload_n 0, 1) := by decide +kernel
theorem dX3_isHolderKind_1 : decode cX3_isHolderKind 1 = .ok (.bipush 7, 2) := by decide +kernel
theorem dX3_isHolderKind_3 : decode cX3_isHolderKind 3 = .ok (.bipush 13, 2) := by decide +kernel
theorem dX3_isHolderKind_5 : decode cX3_isHolderKind 5 = .ok (.invokestatic 43, 3) := by decide +kernel
theorem dX3_isHolderKind_8 : decode cX3_isHolderKind 8 = .ok (.ireturn, 1) := by decide +kernel
set_option maxRecDepth 20000 in
theorem ggX3_isNumbersKind_X3_within : GoodIn wsX3_isNumbersKind wsX3_within := goodIn_r _ [4] (by decide +kernel) (by decide +kernel)
set_option maxRecDepth 20000 in
theorem gX3_isNumbersKind_X3_within : GoodIn wsX3_isNumbersKind (va_wsS RX3 43 yX3_within wsX3_within) := goodIn_app (goodIn_of _ (by decide +kernel)) ggX3_isNumbersKind_X3_within
theorem dX3_isNumbersKind_0 : decode cX3_isNumbersKind 0 = .ok (.iload_n 0, 1) := by decide +kernel
theorem dX3_isNumbersKind_1 : decode cX3_isNumbersKind 1 = .ok (.iconst 4, 1) := by decide +kernel
theorem dX3_isNumbersKind_2 : decode cX3_isNumbersKind 2 = .ok (.bipush 6, 2) := by decide +kernel
theorem dX3_isNumbersKind_4 : decode cX3_isNumbersKind 4 = .ok (.invokestatic 43, 3) := by decide +kernel
theorem dX3_isNumbersKind_7 : decode cX3_isNumbersKind 7 = .ok (.ireturn, 1) := by decide +kernel
set_option maxRecDepth 20000 in
theorem ggX3_isSide_X3_within : GoodIn wsX3_isSide wsX3_within := goodIn_r _ [4] (by decide +kernel) (by decide +kernel)
set_option maxRecDepth 20000 in
theorem gX3_isSide_X3_within : GoodIn wsX3_isSide (va_wsS RX3 43 yX3_within wsX3_within) := goodIn_app (goodIn_of _ (by decide +kernel)) ggX3_isSide_X3_within
theorem dX3_isSide_0 : decode cX3_isSide 0 = .ok (.iload_n 0, 1) := by decide +kernel
theorem dX3_isSide_1 : decode cX3_isSide 1 = .ok (.iconst 0, 1) := by decide +kernel
theorem dX3_isSide_2 : decode cX3_isSide 2 = .ok (.iconst 1, 1) := by decide +kernel
theorem dX3_isSide_3 : decode cX3_isSide 3 = .ok (.invokestatic 43, 3) := by decide +kernel
theorem dX3_isSide_6 : decode cX3_isSide 6 = .ok (.ireturn, 1) := by decide +kernel
set_option maxRecDepth 20000 in
theorem ggX3_isSlot_X3_within : GoodIn wsX3_isSlot wsX3_within := goodIn_r _ [4] (by decide +kernel) (by decide +kernel)
set_option maxRecDepth 20000 in
theorem gX3_isSlot_X3_within : GoodIn wsX3_isSlot (va_wsS RX3 43 yX3_within wsX3_within) := goodIn_app (goodIn_of _ (by decide +kernel)) ggX3_isSlot_X3_within
theorem dX3_isSlot_0 : decode cX3_isSlot 0 = .ok (.iload_n 0, 1) := by decide +kernel
theorem dX3_isSlot_1 : decode cX3_isSlot 1 = .ok (.iconst 0, 1) := by decide +kernel
theorem dX3_isSlot_2 : decode cX3_isSlot 2 = .ok (.iconst 3, 1) := by decide +kernel
theorem dX3_isSlot_3 : decode cX3_isSlot 3 = .ok (.invokestatic 43, 3) := by decide +kernel
theorem dX3_isSlot_6 : decode cX3_isSlot 6 = .ok (.ireturn, 1) := by decide +kernel
set_option maxRecDepth 20000 in
theorem ggX3_counted_X3_within : GoodIn wsX3_counted wsX3_within := goodIn_r _ [5] (by decide +kernel) (by decide +kernel)
set_option maxRecDepth 20000 in
theorem gX3_counted_X3_within : GoodIn wsX3_counted (va_wsS RX3 43 yX3_within wsX3_within) := goodIn_app (goodIn_of _ (by decide +kernel)) ggX3_counted_X3_within
theorem dX3_counted_0 : decode cX3_counted 0 = .ok (.bipush (-20), 2) := by decide +kernel
theorem dX3_counted_2 : decode cX3_counted 2 = .ok (.iload_n 1, 1) := by decide +kernel
theorem dX3_counted_3 : decode cX3_counted 3 = .ok (.isub, 1) := by decide +kernel
theorem dX3_counted_4 : decode cX3_counted 4 = .ok (.istore_n 2, 1) := by decide +kernel
theorem dX3_counted_5 : decode cX3_counted 5 = .ok (.iload_n 2, 1) := by decide +kernel
theorem dX3_counted_6 : decode cX3_counted 6 = .ok (.iconst 1, 1) := by decide +kernel
theorem dX3_counted_7 : decode cX3_counted 7 = .ok (.bipush 6, 2) := by decide +kernel
theorem dX3_counted_9 : decode cX3_counted 9 = .ok (.invokestatic 43, 3) := by decide +kernel
theorem dX3_counted_12 : decode cX3_counted 12 = .ok (.ifCond .eq 15, 3) := by decide +kernel
theorem dX3_counted_15 : decode cX3_counted 15 = .ok (.aload_n 0, 1) := by decide +kernel
theorem dX3_counted_16 : decode cX3_counted 16 = .ok (.getfield 37, 3) := by decide +kernel
theorem dX3_counted_19 : decode cX3_counted 19 = .ok (.iload_n 2, 1) := by decide +kernel
theorem dX3_counted_20 : decode cX3_counted 20 = .ok (.iconst 1, 1) := by decide +kernel
theorem dX3_counted_21 : decode cX3_counted 21 = .ok (.isub, 1) := by decide +kernel
theorem dX3_counted_22 : decode cX3_counted 22 = .ok (.dup2, 1) := by decide +kernel
theorem dX3_counted_23 : decode cX3_counted 23 = .ok (.iaload, 1) := by decide +kernel
theorem dX3_counted_24 : decode cX3_counted 24 = .ok (.iconst 1, 1) := by decide +kernel
theorem dX3_counted_25 : decode cX3_counted 25 = .ok (.iadd, 1) := by decide +kernel
theorem dX3_counted_26 : decode cX3_counted 26 = .ok (.iastore, 1) := by decide +kernel
theorem dX3_counted_27 : decode cX3_counted 27 = .ok (.iload_n 1, 1) := by decide +kernel
theorem dX3_counted_28 : decode cX3_counted 28 = .ok (.ireturn, 1) := by decide +kernel
set_option maxRecDepth 20000 in
theorem ggX3_halfOf_X2_isOf : GoodIn wsX3_halfOf wsX2_isOf := goodIn_ca (goodIn_r _ [6, 7, 8, 9, 10, 5, 11, 12, 13, 14, 15, 38, 39, 40, 41, 42, 43, 44, 45] (by decide +kernel) (by decide +kernel)) (goodIn_sub (fun _ h => List.mem_cons_of_mem _ (List.mem_append_right _ h)) (by decide +kernel))
set_option maxRecDepth 20000 in
theorem gX3_halfOf_X2_isOf : GoodIn wsX3_halfOf (wsV RX3 106 RX2 yX2_isOf wsX2_isOf) := goodIn_app (goodIn_of _ (by decide +kernel)) ggX3_halfOf_X2_isOf
set_option maxRecDepth 20000 in
theorem ggX3_halfOf_X2_heldHalf : GoodIn wsX3_halfOf wsX2_heldHalf := goodIn_ca (goodIn_r _ [19, 20, 21, 8, 9, 10, 5, 11, 12, 38, 39, 40, 41, 42, 43, 44, 45] (by decide +kernel) (by decide +kernel)) (goodIn_sub (fun _ h => List.mem_cons_of_mem _ (List.mem_append_right _ h)) (by decide +kernel))
set_option maxRecDepth 20000 in
theorem gX3_halfOf_X2_heldHalf : GoodIn wsX3_halfOf (wsV RX3 158 RX2 yX2_heldHalf wsX2_heldHalf) := goodIn_app (goodIn_of _ (by decide +kernel)) ggX3_halfOf_X2_heldHalf
set_option maxRecDepth 20000 in
theorem ggX3_halfOf_X3_counted : GoodIn wsX3_halfOf wsX3_counted := goodIn_ca (goodIn_r _ [26, 27, 28, 29, 25, 30, 31, 32, 33, 34, 35, 36, 37] (by decide +kernel) (by decide +kernel)) (goodIn_sub (fun _ h => List.mem_cons_of_mem _ (List.mem_append_right _ h)) (by decide +kernel))
set_option maxRecDepth 20000 in
theorem gX3_halfOf_X3_counted : GoodIn wsX3_halfOf (wsV RX3 55 RX3 yX3_counted wsX3_counted) := goodIn_app (goodIn_of _ (by decide +kernel)) ggX3_halfOf_X3_counted
theorem dX3_halfOf_0 : decode cX3_halfOf 0 = .ok (.aload_n 0, 1) := by decide +kernel
theorem dX3_halfOf_1 : decode cX3_halfOf 1 = .ok (.getfield 10, 3) := by decide +kernel
theorem dX3_halfOf_4 : decode cX3_halfOf 4 = .ok (.iload_n 1, 1) := by decide +kernel
theorem dX3_halfOf_5 : decode cX3_halfOf 5 = .ok (.iconst 2, 1) := by decide +kernel
theorem dX3_halfOf_6 : decode cX3_halfOf 6 = .ok (.invokevirtual 106, 3) := by decide +kernel
theorem dX3_halfOf_9 : decode cX3_halfOf 9 = .ok (.ifCond .eq 15, 3) := by decide +kernel
theorem dX3_halfOf_12 : decode cX3_halfOf 12 = .ok (.aload_n 0, 1) := by decide +kernel
theorem dX3_halfOf_13 : decode cX3_halfOf 13 = .ok (.getfield 10, 3) := by decide +kernel
theorem dX3_halfOf_16 : decode cX3_halfOf 16 = .ok (.iload_n 1, 1) := by decide +kernel
theorem dX3_halfOf_17 : decode cX3_halfOf 17 = .ok (.iload_n 2, 1) := by decide +kernel
theorem dX3_halfOf_18 : decode cX3_halfOf 18 = .ok (.invokevirtual 158, 3) := by decide +kernel
theorem dX3_halfOf_21 : decode cX3_halfOf 21 = .ok (.goto 9, 3) := by decide +kernel
theorem dX3_halfOf_24 : decode cX3_halfOf 24 = .ok (.aload_n 0, 1) := by decide +kernel
theorem dX3_halfOf_25 : decode cX3_halfOf 25 = .ok (.bipush (-21), 2) := by decide +kernel
theorem dX3_halfOf_27 : decode cX3_halfOf 27 = .ok (.invokevirtual 55, 3) := by decide +kernel
theorem dX3_halfOf_30 : decode cX3_halfOf 30 = .ok (.ireturn, 1) := by decide +kernel
set_option maxRecDepth 20000 in
theorem ggX3_isAsTold_X3_within : GoodIn wsX3_isAsTold wsX3_within := goodIn_r _ [4] (by decide +kernel) (by decide +kernel)
set_option maxRecDepth 20000 in
theorem gX3_isAsTold_X3_within : GoodIn wsX3_isAsTold (va_wsS RX3 43 yX3_within wsX3_within) := goodIn_app (goodIn_of _ (by decide +kernel)) ggX3_isAsTold_X3_within
set_option maxRecDepth 20000 in
theorem ggX3_isAsTold_X3_isHolderKind : GoodIn wsX3_isAsTold wsX3_isHolderKind := goodIn_r _ [7, 1, 2, 3, 4] (by decide +kernel) (by decide +kernel)
set_option maxRecDepth 20000 in
theorem gX3_isAsTold_X3_isHolderKind : GoodIn wsX3_isAsTold (va_wsS RX3 66 yX3_isHolderKind wsX3_isHolderKind) := goodIn_app (goodIn_of _ (by decide +kernel)) ggX3_isAsTold_X3_isHolderKind
set_option maxRecDepth 20000 in
theorem ggX3_isAsTold_X3_isNumbersKind : GoodIn wsX3_isAsTold wsX3_isNumbersKind := goodIn_r _ [10, 1, 2, 3, 4] (by decide +kernel) (by decide +kernel)
set_option maxRecDepth 20000 in
theorem gX3_isAsTold_X3_isNumbersKind : GoodIn wsX3_isAsTold (va_wsS RX3 79 yX3_isNumbersKind wsX3_isNumbersKind) := goodIn_app (goodIn_of _ (by decide +kernel)) ggX3_isAsTold_X3_isNumbersKind
set_option maxRecDepth 20000 in
theorem ggX3_isAsTold_X3_isSlot : GoodIn wsX3_isAsTold wsX3_isSlot := goodIn_r _ [13, 1, 2, 3, 4] (by decide +kernel) (by decide +kernel)
set_option maxRecDepth 20000 in
theorem gX3_isAsTold_X3_isSlot : GoodIn wsX3_isAsTold (va_wsS RX3 123 yX3_isSlot wsX3_isSlot) := goodIn_app (goodIn_of _ (by decide +kernel)) ggX3_isAsTold_X3_isSlot
theorem dX3_isAsTold_0 : decode cX3_isAsTold 0 = .ok (.iload_n 0, 1) := by decide +kernel
theorem dX3_isAsTold_1 : decode cX3_isAsTold 1 = .ok (.tableswitch 102 0 13 #[71, 71, 102, 102, 79, 79, 84, 102, 102, 102, 97, 97, 102, 89], 71) := by decide +kernel
theorem dX3_isAsTold_72 : decode cX3_isAsTold 72 = .ok (.iload_n 1, 1) := by decide +kernel
theorem dX3_isAsTold_73 : decode cX3_isAsTold 73 = .ok (.iconst 0, 1) := by decide +kernel
theorem dX3_isAsTold_74 : decode cX3_isAsTold 74 = .ok (.bipush 15, 2) := by decide +kernel
theorem dX3_isAsTold_76 : decode cX3_isAsTold 76 = .ok (.invokestatic 43, 3) := by decide +kernel
theorem dX3_isAsTold_79 : decode cX3_isAsTold 79 = .ok (.ireturn, 1) := by decide +kernel
theorem dX3_isAsTold_80 : decode cX3_isAsTold 80 = .ok (.iload_n 1, 1) := by decide +kernel
theorem dX3_isAsTold_81 : decode cX3_isAsTold 81 = .ok (.invokestatic 66, 3) := by decide +kernel
theorem dX3_isAsTold_84 : decode cX3_isAsTold 84 = .ok (.ireturn, 1) := by decide +kernel
theorem dX3_isAsTold_85 : decode cX3_isAsTold 85 = .ok (.iload_n 1, 1) := by decide +kernel
theorem dX3_isAsTold_86 : decode cX3_isAsTold 86 = .ok (.invokestatic 79, 3) := by decide +kernel
theorem dX3_isAsTold_89 : decode cX3_isAsTold 89 = .ok (.ireturn, 1) := by decide +kernel
theorem dX3_isAsTold_90 : decode cX3_isAsTold 90 = .ok (.iload_n 1, 1) := by decide +kernel
theorem dX3_isAsTold_91 : decode cX3_isAsTold 91 = .ok (.iconst 4, 1) := by decide +kernel
theorem dX3_isAsTold_92 : decode cX3_isAsTold 92 = .ok (.bipush 13, 2) := by decide +kernel
theorem dX3_isAsTold_94 : decode cX3_isAsTold 94 = .ok (.invokestatic 43, 3) := by decide +kernel
theorem dX3_isAsTold_97 : decode cX3_isAsTold 97 = .ok (.ireturn, 1) := by decide +kernel
theorem dX3_isAsTold_98 : decode cX3_isAsTold 98 = .ok (.iload_n 1, 1) := by decide +kernel
theorem dX3_isAsTold_99 : decode cX3_isAsTold 99 = .ok (.invokestatic 123, 3) := by decide +kernel
theorem dX3_isAsTold_102 : decode cX3_isAsTold 102 = .ok (.ireturn, 1) := by decide +kernel
theorem dX3_isAsTold_103 : decode cX3_isAsTold 103 = .ok (.iload_n 0, 1) := by decide +kernel
theorem dX3_isAsTold_104 : decode cX3_isAsTold 104 = .ok (.iconst 0, 1) := by decide +kernel
theorem dX3_isAsTold_105 : decode cX3_isAsTold 105 = .ok (.bipush 13, 2) := by decide +kernel
theorem dX3_isAsTold_107 : decode cX3_isAsTold 107 = .ok (.invokestatic 43, 3) := by decide +kernel
theorem dX3_isAsTold_110 : decode cX3_isAsTold 110 = .ok (.ireturn, 1) := by decide +kernel
set_option maxRecDepth 20000 in
theorem ggX3_namesKnownPatterns_X0_know : GoodIn wsX3_namesKnownPatterns wsX0_know := goodIn_r _ [6, 7, 15, 16, 17, 18, 19] (by decide +kernel) (by decide +kernel)
set_option maxRecDepth 20000 in
theorem gX3_namesKnownPatterns_X0_know : GoodIn wsX3_namesKnownPatterns (wsV RX3 119 RX0 yX0_know wsX0_know) := goodIn_app (goodIn_of _ (by decide +kernel)) ggX3_namesKnownPatterns_X0_know
theorem dX3_namesKnownPatterns_0 : decode cX3_namesKnownPatterns 0 = .ok (.iload_n 1, 1) := by decide +kernel
theorem dX3_namesKnownPatterns_1 : decode cX3_namesKnownPatterns 1 = .ok (.tableswitch 107 1 9 #[79, 107, 51, 79, 88, 107, 51, 51, 98], 51) := by decide +kernel
theorem dX3_namesKnownPatterns_52 : decode cX3_namesKnownPatterns 52 = .ok (.aload_n 0, 1) := by decide +kernel
theorem dX3_namesKnownPatterns_53 : decode cX3_namesKnownPatterns 53 = .ok (.getfield 19, 3) := by decide +kernel
theorem dX3_namesKnownPatterns_56 : decode cX3_namesKnownPatterns 56 = .ok (.iload_n 2, 1) := by decide +kernel
theorem dX3_namesKnownPatterns_57 : decode cX3_namesKnownPatterns 57 = .ok (.invokevirtual 119, 3) := by decide +kernel
theorem dX3_namesKnownPatterns_60 : decode cX3_namesKnownPatterns 60 = .ok (.ifCond .eq 18, 3) := by decide +kernel
theorem dX3_namesKnownPatterns_63 : decode cX3_namesKnownPatterns 63 = .ok (.aload_n 0, 1) := by decide +kernel
theorem dX3_namesKnownPatterns_64 : decode cX3_namesKnownPatterns 64 = .ok (.getfield 19, 3) := by decide +kernel
theorem dX3_namesKnownPatterns_67 : decode cX3_namesKnownPatterns 67 = .ok (.iload_n 3, 1) := by decide +kernel
theorem dX3_namesKnownPatterns_68 : decode cX3_namesKnownPatterns 68 = .ok (.invokevirtual 119, 3) := by decide +kernel
theorem dX3_namesKnownPatterns_71 : decode cX3_namesKnownPatterns 71 = .ok (.ifCond .eq 7, 3) := by decide +kernel
theorem dX3_namesKnownPatterns_74 : decode cX3_namesKnownPatterns 74 = .ok (.iconst 1, 1) := by decide +kernel
theorem dX3_namesKnownPatterns_75 : decode cX3_namesKnownPatterns 75 = .ok (.goto 4, 3) := by decide +kernel
theorem dX3_namesKnownPatterns_78 : decode cX3_namesKnownPatterns 78 = .ok (.iconst 0, 1) := by decide +kernel
theorem dX3_namesKnownPatterns_79 : decode cX3_namesKnownPatterns 79 = .ok (.ireturn, 1) := by decide +kernel
theorem dX3_namesKnownPatterns_80 : decode cX3_namesKnownPatterns 80 = .ok (.aload_n 0, 1) := by decide +kernel
theorem dX3_namesKnownPatterns_81 : decode cX3_namesKnownPatterns 81 = .ok (.getfield 19, 3) := by decide +kernel
theorem dX3_namesKnownPatterns_84 : decode cX3_namesKnownPatterns 84 = .ok (.iload_n 3, 1) := by decide +kernel
theorem dX3_namesKnownPatterns_85 : decode cX3_namesKnownPatterns 85 = .ok (.invokevirtual 119, 3) := by decide +kernel
theorem dX3_namesKnownPatterns_88 : decode cX3_namesKnownPatterns 88 = .ok (.ireturn, 1) := by decide +kernel
theorem dX3_namesKnownPatterns_89 : decode cX3_namesKnownPatterns 89 = .ok (.aload_n 0, 1) := by decide +kernel
theorem dX3_namesKnownPatterns_90 : decode cX3_namesKnownPatterns 90 = .ok (.getfield 19, 3) := by decide +kernel
theorem dX3_namesKnownPatterns_93 : decode cX3_namesKnownPatterns 93 = .ok (.iload 4, 2) := by decide +kernel
theorem dX3_namesKnownPatterns_95 : decode cX3_namesKnownPatterns 95 = .ok (.invokevirtual 119, 3) := by decide +kernel
theorem dX3_namesKnownPatterns_98 : decode cX3_namesKnownPatterns 98 = .ok (.ireturn, 1) := by decide +kernel
theorem dX3_namesKnownPatterns_99 : decode cX3_namesKnownPatterns 99 = .ok (.aload_n 0, 1) := by decide +kernel
theorem dX3_namesKnownPatterns_100 : decode cX3_namesKnownPatterns 100 = .ok (.getfield 19, 3) := by decide +kernel
theorem dX3_namesKnownPatterns_103 : decode cX3_namesKnownPatterns 103 = .ok (.iload_n 2, 1) := by decide +kernel
theorem dX3_namesKnownPatterns_104 : decode cX3_namesKnownPatterns 104 = .ok (.invokevirtual 119, 3) := by decide +kernel
theorem dX3_namesKnownPatterns_107 : decode cX3_namesKnownPatterns 107 = .ok (.ireturn, 1) := by decide +kernel
theorem dX3_namesKnownPatterns_108 : decode cX3_namesKnownPatterns 108 = .ok (.iconst 1, 1) := by decide +kernel
theorem dX3_namesKnownPatterns_109 : decode cX3_namesKnownPatterns 109 = .ok (.ireturn, 1) := by decide +kernel
set_option maxRecDepth 20000 in
theorem ggX3_matched_X3_look : GoodIn wsX3_matched wsX3_look := goodIn_ca (goodIn_r _ [8, 1, 9, 10, 11, 12, 13, 14, 3, 15, 16, 17, 18, 19, 20, 21, 22, 23, 24, 25, 26, 27, 28, 29, 30, 31, 32, 33, 34, 35, 36, 7, 37, 38, 39, 40, 41, 42, 4, 5, 6, 43, 44, 45, 46, 47, 48, 49, 50, 51, 52, 53, 54, 55, 56, 57, 58, 59, 60, 61, 62, 63, 64, 65, 66, 67, 68, 69, 70, 71, 72, 73, 74, 75, 76, 77, 78, 79, 80, 81, 82, 83, 84, 85, 86, 87, 88, 89, 90, 91, 92, 93, 94, 95, 96, 97, 98, 99, 100, 101, 102, 103, 104, 105, 106, 107, 108, 109, 110, 111, 112, 113, 114, 115, 116, 117, 118, 119, 120, 121, 122, 123, 124, 125, 126, 132, 133, 134, 135, 136, 137, 138, 139, 140, 141, 142, 143, 144, 145, 146, 147, 148, 149, 150, 151] (by decide +kernel) (by decide +kernel)) (goodIn_sub (fun _ h => List.mem_cons_of_mem _ (List.mem_append_right _ h)) (by decide +kernel))
set_option maxRecDepth 20000 in
theorem gX3_matched_X3_look : GoodIn wsX3_matched (wsV RX3 161 RX3 yX3_look wsX3_look) := goodIn_app (goodIn_of _ (by decide +kernel)) ggX3_matched_X3_look
set_option maxRecDepth 20000 in
theorem ggX3_matched_X3_counted : GoodIn wsX3_matched wsX3_counted := goodIn_ca (goodIn_r _ [130, 131, 90, 91, 7, 92, 132, 133, 134, 135, 136, 137, 138] (by decide +kernel) (by decide +kernel)) (goodIn_sub (fun _ h => List.mem_cons_of_mem _ (List.mem_append_right _ h)) (by decide +kernel))
set_option maxRecDepth 20000 in
theorem gX3_matched_X3_counted : GoodIn wsX3_matched (wsV RX3 55 RX3 yX3_counted wsX3_counted) := goodIn_app (goodIn_of _ (by decide +kernel)) ggX3_matched_X3_counted
theorem dX3_matched_0 : decode cX3_matched 0 = .ok (.aload_n 0, 1) := by decide +kernel
theorem dX3_matched_1 : decode cX3_matched 1 = .ok (.iconst 0, 1) := by decide +kernel
theorem dX3_matched_2 : decode cX3_matched 2 = .ok (.putfield 155, 3) := by decide +kernel
theorem dX3_matched_5 : decode cX3_matched 5 = .ok (.iconst 0, 1) := by decide +kernel
theorem dX3_matched_6 : decode cX3_matched 6 = .ok (.istore_n 3, 1) := by decide +kernel
theorem dX3_matched_7 : decode cX3_matched 7 = .ok (.iload_n 3, 1) := by decide +kernel
theorem dX3_matched_8 : decode cX3_matched 8 = .ok (.iconst 4, 1) := by decide +kernel
theorem dX3_matched_9 : decode cX3_matched 9 = .ok (.if_icmp .ge 21, 3) := by decide +kernel
theorem dX3_matched_12 : decode cX3_matched 12 = .ok (.aload_n 0, 1) := by decide +kernel
theorem dX3_matched_13 : decode cX3_matched 13 = .ok (.getfield 34, 3) := by decide +kernel
theorem dX3_matched_16 : decode cX3_matched 16 = .ok (.iload_n 3, 1) := by decide +kernel
theorem dX3_matched_17 : decode cX3_matched 17 = .ok (.aload_n 0, 1) := by decide +kernel
theorem dX3_matched_18 : decode cX3_matched 18 = .ok (.getfield 30, 3) := by decide +kernel
theorem dX3_matched_21 : decode cX3_matched 21 = .ok (.iload_n 3, 1) := by decide +kernel
theorem dX3_matched_22 : decode cX3_matched 22 = .ok (.iaload, 1) := by decide +kernel
theorem dX3_matched_23 : decode cX3_matched 23 = .ok (.iastore, 1) := by decide +kernel
theorem dX3_matched_24 : decode cX3_matched 24 = .ok (.iinc 3 1, 3) := by decide +kernel
theorem dX3_matched_27 : decode cX3_matched 27 = .ok (.goto (-20), 3) := by decide +kernel
theorem dX3_matched_30 : decode cX3_matched 30 = .ok (.aload_n 0, 1) := by decide +kernel
theorem dX3_matched_31 : decode cX3_matched 31 = .ok (.aload_n 0, 1) := by decide +kernel
theorem dX3_matched_32 : decode cX3_matched 32 = .ok (.iload_n 1, 1) := by decide +kernel
theorem dX3_matched_33 : decode cX3_matched 33 = .ok (.iload_n 2, 1) := by decide +kernel
theorem dX3_matched_34 : decode cX3_matched 34 = .ok (.invokevirtual 161, 3) := by decide +kernel
theorem dX3_matched_37 : decode cX3_matched 37 = .ok (.invokevirtual 55, 3) := by decide +kernel
theorem dX3_matched_40 : decode cX3_matched 40 = .ok (.istore_n 3, 1) := by decide +kernel
theorem dX3_matched_41 : decode cX3_matched 41 = .ok (.iload_n 3, 1) := by decide +kernel
theorem dX3_matched_42 : decode cX3_matched 42 = .ok (.iconst 1, 1) := by decide +kernel
theorem dX3_matched_43 : decode cX3_matched 43 = .ok (.if_icmp .eq 32, 3) := by decide +kernel
theorem dX3_matched_46 : decode cX3_matched 46 = .ok (.iconst 0, 1) := by decide +kernel
theorem dX3_matched_47 : decode cX3_matched 47 = .ok (.istore 4, 2) := by decide +kernel
theorem dX3_matched_49 : decode cX3_matched 49 = .ok (.iload 4, 2) := by decide +kernel
theorem dX3_matched_51 : decode cX3_matched 51 = .ok (.iconst 4, 1) := by decide +kernel
theorem dX3_matched_52 : decode cX3_matched 52 = .ok (.if_icmp .ge 23, 3) := by decide +kernel
theorem dX3_matched_55 : decode cX3_matched 55 = .ok (.aload_n 0, 1) := by decide +kernel
theorem dX3_matched_56 : decode cX3_matched 56 = .ok (.getfield 30, 3) := by decide +kernel
theorem dX3_matched_59 : decode cX3_matched 59 = .ok (.iload 4, 2) := by decide +kernel
theorem dX3_matched_61 : decode cX3_matched 61 = .ok (.aload_n 0, 1) := by decide +kernel
theorem dX3_matched_62 : decode cX3_matched 62 = .ok (.getfield 34, 3) := by decide +kernel
theorem dX3_matched_65 : decode cX3_matched 65 = .ok (.iload 4, 2) := by decide +kernel
theorem dX3_matched_67 : decode cX3_matched 67 = .ok (.iaload, 1) := by decide +kernel
theorem dX3_matched_68 : decode cX3_matched 68 = .ok (.iastore, 1) := by decide +kernel
theorem dX3_matched_69 : decode cX3_matched 69 = .ok (.iinc 4 1, 3) := by decide +kernel
theorem dX3_matched_72 : decode cX3_matched 72 = .ok (.goto (-23), 3) := by decide +kernel
theorem dX3_matched_75 : decode cX3_matched 75 = .ok (.iload_n 3, 1) := by decide +kernel
theorem dX3_matched_76 : decode cX3_matched 76 = .ok (.ireturn, 1) := by decide +kernel
set_option maxRecDepth 20000 in
theorem ggX3_look_X0_know : GoodIn wsX3_look wsX0_know := goodIn_r _ [13, 14, 132, 133, 134, 135, 136] (by decide +kernel) (by decide +kernel)
set_option maxRecDepth 20000 in
theorem gX3_look_X0_know : GoodIn wsX3_look (wsV RX3 119 RX0 yX0_know wsX0_know) := goodIn_app (goodIn_of _ (by decide +kernel)) ggX3_look_X0_know
set_option maxRecDepth 20000 in
theorem ggX3_look_X2_isOf : GoodIn wsX3_look wsX2_isOf := goodIn_ca (goodIn_r _ [19, 20, 21, 22, 23, 18, 24, 25, 26, 27, 28, 137, 138, 139, 140, 141, 142, 143, 144] (by decide +kernel) (by decide +kernel)) (goodIn_sub (fun _ h => List.mem_cons_of_mem _ (List.mem_append_right _ h)) (by decide +kernel))
set_option maxRecDepth 20000 in
theorem gX3_look_X2_isOf : GoodIn wsX3_look (wsV RX3 106 RX2 yX2_isOf wsX2_isOf) := goodIn_app (goodIn_of _ (by decide +kernel)) ggX3_look_X2_isOf
set_option maxRecDepth 20000 in
theorem ggX3_look_X3_fitsIf : GoodIn wsX3_look wsX3_fitsIf := goodIn_r _ [32] (by decide +kernel) (by decide +kernel)
set_option maxRecDepth 20000 in
theorem gX3_look_X3_fitsIf : GoodIn wsX3_look (va_wsS RX3 176 yX3_fitsIf wsX3_fitsIf) := goodIn_app (goodIn_of _ (by decide +kernel)) ggX3_look_X3_fitsIf
set_option maxRecDepth 20000 in
theorem ggX3_look_X2_mayBeTaken : GoodIn wsX3_look wsX2_mayBeTaken := goodIn_ca (goodIn_r _ [36, 37, 16, 17, 18, 19, 20, 21, 22, 23, 24, 25, 26, 27, 28, 137, 138, 139, 140, 141, 142, 143, 144] (by decide +kernel) (by decide +kernel)) (goodIn_sub (fun _ h => List.mem_cons_of_mem _ (List.mem_append_right _ h)) (by decide +kernel))
set_option maxRecDepth 20000 in
theorem gX3_look_X2_mayBeTaken : GoodIn wsX3_look (wsV RX3 180 RX2 yX2_mayBeTaken wsX2_mayBeTaken) := goodIn_app (goodIn_of _ (by decide +kernel)) ggX3_look_X2_mayBeTaken
set_option maxRecDepth 20000 in
theorem ggX3_look_X3_look : GoodIn wsX3_look wsX3_look := goodIn_ca (goodIn_r _ [0, 1, 2, 3, 4, 5, 6, 7, 8, 9, 10, 11, 12, 13, 14, 15, 16, 17, 18, 19, 20, 21, 22, 23, 24, 25, 26, 27, 28, 29, 30, 31, 32, 33, 34, 35, 36, 37, 38, 39, 40, 41, 42, 43, 44, 45, 46, 47, 48, 49, 50, 51, 52, 53, 54, 55, 56, 57, 58, 59, 60, 61, 62, 63, 64, 65, 66, 67, 68, 69, 70, 71, 72, 73, 74, 75, 76, 77, 78, 79, 80, 81, 82, 83, 84, 85, 86, 87, 88, 89, 90, 91, 92, 93, 94, 95, 96, 97, 98, 99, 100, 101, 102, 103, 104, 105, 106, 107, 108, 109, 110, 111, 112, 113, 114, 115, 116, 117, 118, 119, 120, 121, 122, 123, 124, 125, 126, 127, 128, 129, 130, 131, 132, 133, 134, 135, 136, 137, 138, 139, 140, 141, 142, 143, 144] (by decide +kernel) (by decide +kernel)) (goodIn_sub (fun _ h => List.mem_cons_of_mem _ (List.mem_append_right _ h)) (by decide +kernel))
set_option maxRecDepth 20000 in
theorem gX3_look_X3_look : GoodIn wsX3_look (wsV RX3 161 RX3 yX3_look wsX3_look) := goodIn_app (goodIn_of _ (by decide +kernel)) ggX3_look_X3_look
set_option maxRecDepth 20000 in
theorem ggX3_look_X3_lookAtHalves : GoodIn wsX3_look wsX3_lookAtHalves := goodIn_ca (goodIn_r _ [115, 7, 15, 16, 17, 18, 19, 20, 21, 22, 23, 24, 25, 26, 27, 28, 116, 117, 118, 119, 120, 121, 38, 39, 40, 31, 0, 1, 2, 3, 4, 5, 6, 8, 9, 10, 11, 12, 13, 14, 29, 30, 32, 33, 34, 35, 36, 37, 41, 42, 43, 44, 45, 46, 47, 48, 49, 50, 51, 52, 53, 54, 55, 56, 57, 58, 59, 60, 61, 62, 63, 64, 65, 66, 67, 68, 69, 70, 71, 72, 73, 74, 75, 76, 77, 78, 79, 80, 81, 82, 83, 84, 85, 86, 87, 88, 89, 90, 91, 92, 93, 94, 95, 96, 97, 98, 99, 100, 101, 102, 103, 104, 105, 106, 107, 108, 109, 110, 111, 112, 113, 114, 122, 123, 124, 125, 126, 127, 128, 129, 130, 131, 132, 133, 134, 135, 136, 137, 138, 139, 140, 141, 142, 143, 144] (by decide +kernel) (by decide +kernel)) (goodIn_sub (fun _ h => List.mem_cons_of_mem _ (List.mem_append_right _ h)) (by decide +kernel))
set_option maxRecDepth 20000 in
theorem gX3_look_X3_lookAtHalves : GoodIn wsX3_look (wsV RX3 183 RX3 yX3_lookAtHalves wsX3_lookAtHalves) := goodIn_app (goodIn_of _ (by decide +kernel)) ggX3_look_X3_lookAtHalves
set_option maxRecDepth 20000 in
theorem ggX3_look_X3_lookAtEach : GoodIn wsX3_look wsX3_lookAtEach := goodIn_ca (goodIn_r _ [109, 7, 15, 16, 17, 18, 19, 20, 21, 22, 23, 24, 25, 26, 27, 28, 105, 106, 107, 108, 66, 110, 111, 112, 113, 114, 62, 63, 64, 65, 38, 39, 40, 31, 0, 1, 2, 3, 4, 5, 6, 8, 9, 10, 11, 12, 13, 14, 29, 30, 32, 33, 34, 35, 36, 37, 41, 42, 43, 44, 45, 46, 47, 48, 49, 50, 51, 52, 53, 54, 55, 56, 57, 58, 59, 60, 61, 67, 68, 69, 70, 71, 72, 73, 74, 75, 76, 77, 78, 79, 80, 81, 82, 83, 84, 85, 86, 87, 88, 89, 90, 91, 92, 93, 94, 95, 96, 97, 98, 99, 100, 101, 102, 103, 104, 115, 116, 117, 118, 119, 120, 121, 122, 123, 124, 125, 126, 127, 128, 129, 130, 131, 132, 133, 134, 135, 136, 137, 138, 139, 140, 141, 142, 143, 144] (by decide +kernel) (by decide +kernel)) (goodIn_sub (fun _ h => List.mem_cons_of_mem _ (List.mem_append_right _ h)) (by decide +kernel))
set_option maxRecDepth 20000 in
theorem gX3_look_X3_lookAtEach : GoodIn wsX3_look (wsV RX3 186 RX3 yX3_lookAtEach wsX3_lookAtEach) := goodIn_app (goodIn_of _ (by decide +kernel)) ggX3_look_X3_lookAtEach
set_option maxRecDepth 20000 in
theorem ggX3_look_X3_lookAtPlace : GoodIn wsX3_look wsX3_lookAtPlace := goodIn_ca (goodIn_r _ [122, 7, 54, 55, 56, 18, 57, 58, 59, 60, 61, 37, 16, 17, 19, 20, 21, 22, 23, 24, 25, 26, 27, 28, 62, 63, 64, 65, 66, 110, 111, 112, 113, 114, 38, 39, 40, 31, 0, 1, 2, 3, 4, 5, 6, 8, 9, 10, 11, 12, 13, 14, 15, 29, 30, 32, 33, 34, 35, 36, 41, 42, 43, 44, 45, 46, 47, 48, 49, 50, 51, 52, 53, 67, 68, 69, 70, 71, 72, 73, 74, 75, 76, 77, 78, 79, 80, 81, 82, 83, 84, 85, 86, 87, 88, 89, 90, 91, 92, 93, 94, 95, 96, 97, 98, 99, 100, 101, 102, 103, 104, 105, 106, 107, 108, 109, 115, 116, 117, 118, 119, 120, 121, 123, 124, 125, 126, 127, 128, 129, 130, 131, 132, 133, 134, 135, 136, 137, 138, 139, 140, 141, 142, 143, 144] (by decide +kernel) (by decide +kernel)) (goodIn_sub (fun _ h => List.mem_cons_of_mem _ (List.mem_append_right _ h)) (by decide +kernel))
set_option maxRecDepth 20000 in
theorem gX3_look_X3_lookAtPlace : GoodIn wsX3_look (wsV RX3 189 RX3 yX3_lookAtPlace wsX3_lookAtPlace) := goodIn_app (goodIn_of _ (by decide +kernel)) ggX3_look_X3_lookAtPlace
set_option maxRecDepth 20000 in
theorem ggX3_look_X3_lookAtDigit : GoodIn wsX3_look wsX3_lookAtDigit := goodIn_ca (goodIn_r _ [53, 7, 54, 55, 56, 18, 57, 58, 59, 60, 61, 37, 16, 17, 19, 20, 21, 22, 23, 24, 25, 26, 27, 28, 62, 63, 64, 65, 66, 67, 68, 69, 70, 71, 29, 30, 31, 32, 125, 126, 127, 128, 129, 130, 131, 137, 138, 139, 140, 141, 142, 143, 144] (by decide +kernel) (by decide +kernel)) (goodIn_sub (fun _ h => List.mem_cons_of_mem _ (List.mem_append_right _ h)) (by decide +kernel))
set_option maxRecDepth 20000 in
theorem gX3_look_X3_lookAtDigit : GoodIn wsX3_look (wsV RX3 192 RX3 yX3_lookAtDigit wsX3_lookAtDigit) := goodIn_app (goodIn_of _ (by decide +kernel)) ggX3_look_X3_lookAtDigit
set_option maxRecDepth 20000 in
theorem ggX3_look_X3_lookWithBoth : GoodIn wsX3_look wsX3_lookWithBoth := goodIn_ca (goodIn_r _ [123, 38, 39, 40, 31, 0, 1, 2, 3, 4, 5, 6, 7, 8, 9, 10, 11, 12, 13, 14, 15, 16, 17, 18, 19, 20, 21, 22, 23, 24, 25, 26, 27, 28, 29, 30, 32, 33, 34, 35, 36, 37, 41, 42, 43, 44, 45, 46, 47, 48, 49, 50, 51, 52, 53, 54, 55, 56, 57, 58, 59, 60, 61, 62, 63, 64, 65, 66, 67, 68, 69, 70, 71, 72, 73, 74, 75, 76, 77, 78, 79, 80, 81, 82, 83, 84, 85, 86, 87, 88, 89, 90, 91, 92, 93, 94, 95, 96, 97, 98, 99, 100, 101, 102, 103, 104, 105, 106, 107, 108, 109, 110, 111, 112, 113, 114, 115, 116, 117, 118, 119, 120, 121, 122, 124, 125, 126, 127, 128, 129, 130, 131, 132, 133, 134, 135, 136, 137, 138, 139, 140, 141, 142, 143, 144] (by decide +kernel) (by decide +kernel)) (goodIn_sub (fun _ h => List.mem_cons_of_mem _ (List.mem_append_right _ h)) (by decide +kernel))
set_option maxRecDepth 20000 in
theorem gX3_look_X3_lookWithBoth : GoodIn wsX3_look (wsV RX3 195 RX3 yX3_lookWithBoth wsX3_lookWithBoth) := goodIn_app (goodIn_of _ (by decide +kernel)) ggX3_look_X3_lookWithBoth
set_option maxRecDepth 20000 in
theorem ggX3_look_X3_lookWithEither : GoodIn wsX3_look wsX3_lookWithEither := goodIn_ca (goodIn_r _ [124, 38, 39, 40, 31, 0, 1, 2, 3, 4, 5, 6, 7, 8, 9, 10, 11, 12, 13, 14, 15, 16, 17, 18, 19, 20, 21, 22, 23, 24, 25, 26, 27, 28, 29, 30, 32, 33, 34, 35, 36, 37, 41, 42, 43, 44, 45, 46, 47, 48, 49, 50, 51, 52, 53, 54, 55, 56, 57, 58, 59, 60, 61, 62, 63, 64, 65, 66, 67, 68, 69, 70, 71, 72, 73, 74, 75, 76, 77, 78, 79, 80, 81, 82, 83, 84, 85, 86, 87, 88, 89, 90, 91, 92, 93, 94, 95, 96, 97, 98, 99, 100, 101, 102, 103, 104, 105, 106, 107, 108, 109, 110, 111, 112, 113, 114, 115, 116, 117, 118, 119, 120, 121, 122, 123, 125, 126, 127, 128, 129, 130, 131, 132, 133, 134, 135, 136, 137, 138, 139, 140, 141, 142, 143, 144] (by decide +kernel) (by decide +kernel)) (goodIn_sub (fun _ h => List.mem_cons_of_mem _ (List.mem_append_right _ h)) (by decide +kernel))
set_option maxRecDepth 20000 in
theorem gX3_look_X3_lookWithEither : GoodIn wsX3_look (wsV RX3 198 RX3 yX3_lookWithEither wsX3_lookWithEither) := goodIn_app (goodIn_of _ (by decide +kernel)) ggX3_look_X3_lookWithEither
set_option maxRecDepth 20000 in
theorem ggX3_look_X3_turnedRound : GoodIn wsX3_look wsX3_turnedRound := goodIn_r _ [80] (by decide +kernel) (by decide +kernel)
set_option maxRecDepth 20000 in
theorem gX3_look_X3_turnedRound : GoodIn wsX3_look (va_wsS RX3 201 yX3_turnedRound wsX3_turnedRound) := goodIn_app (goodIn_of _ (by decide +kernel)) ggX3_look_X3_turnedRound
set_option maxRecDepth 20000 in
theorem ggX3_look_X3_keep : GoodIn wsX3_look wsX3_keep := goodIn_ca (goodIn_r _ [84, 8, 85, 86, 31, 87, 88, 89, 90, 125, 126, 127, 128, 129, 130, 131] (by decide +kernel) (by decide +kernel)) (goodIn_sub (fun _ h => List.mem_cons_of_mem _ (List.mem_append_right _ h)) (by decide +kernel))
set_option maxRecDepth 20000 in
theorem gX3_look_X3_keep : GoodIn wsX3_look (wsV RX3 204 RX3 yX3_keep wsX3_keep) := goodIn_app (goodIn_of _ (by decide +kernel)) ggX3_look_X3_keep
set_option maxRecDepth 20000 in
theorem ggX3_look_X3_isSlot : GoodIn wsX3_look wsX3_isSlot := goodIn_r _ [87, 88, 89, 31, 90] (by decide +kernel) (by decide +kernel)
set_option maxRecDepth 20000 in
theorem gX3_look_X3_isSlot : GoodIn wsX3_look (va_wsS RX3 123 yX3_isSlot wsX3_isSlot) := goodIn_app (goodIn_of _ (by decide +kernel)) ggX3_look_X3_isSlot
set_option maxRecDepth 20000 in
theorem ggX3_look_X3_lookAtTold : GoodIn wsX3_look wsX3_lookAtTold := goodIn_ca (goodIn_r _ [94, 7, 95, 59, 60, 18, 61, 37, 16, 17, 19, 20, 21, 22, 23, 24, 25, 26, 27, 28, 96, 97, 98, 99, 100, 29, 30, 31, 32, 125, 126, 127, 128, 129, 130, 131, 137, 138, 139, 140, 141, 142, 143, 144] (by decide +kernel) (by decide +kernel)) (goodIn_sub (fun _ h => List.mem_cons_of_mem _ (List.mem_append_right _ h)) (by decide +kernel))
set_option maxRecDepth 20000 in
theorem gX3_look_X3_lookAtTold : GoodIn wsX3_look (wsV RX3 207 RX3 yX3_lookAtTold wsX3_lookAtTold) := goodIn_app (goodIn_of _ (by decide +kernel)) ggX3_look_X3_lookAtTold
set_option maxRecDepth 20000 in
theorem ggX3_look_X3_lookAtLength : GoodIn wsX3_look wsX3_lookAtLength := goodIn_ca (goodIn_r _ [104, 7, 95, 59, 60, 18, 61, 37, 16, 17, 19, 20, 21, 22, 23, 24, 25, 26, 27, 28, 105, 106, 107, 108, 66, 29, 30, 31, 32, 125, 126, 127, 128, 129, 130, 131, 137, 138, 139, 140, 141, 142, 143, 144] (by decide +kernel) (by decide +kernel)) (goodIn_sub (fun _ h => List.mem_cons_of_mem _ (List.mem_append_right _ h)) (by decide +kernel))
set_option maxRecDepth 20000 in
theorem gX3_look_X3_lookAtLength : GoodIn wsX3_look (wsV RX3 210 RX3 yX3_lookAtLength wsX3_lookAtLength) := goodIn_app (goodIn_of _ (by decide +kernel)) ggX3_look_X3_lookAtLength
theorem dX3_look_0 : decode cX3_look 0 = .ok (.aload_n 0, 1) := by decide +kernel
theorem dX3_look_1 : decode cX3_look 1 = .ok (.getfield 155, 3) := by decide +kernel
theorem dX3_look_4 : decode cX3_look 4 = .ok (.sipush 300, 3) := by decide +kernel
theorem dX3_look_7 : decode cX3_look 7 = .ok (.if_icmp .lt 6, 3) := by decide +kernel
theorem dX3_look_10 : decode cX3_look 10 = .ok (.bipush (-26), 2) := by decide +kernel
theorem dX3_look_12 : decode cX3_look 12 = .ok (.ireturn, 1) := by decide +kernel
theorem dX3_look_13 : decode cX3_look 13 = .ok (.aload_n 0, 1) := by decide +kernel
theorem dX3_look_14 : decode cX3_look 14 = .ok (.dup, 1) := by decide +kernel
theorem dX3_look_15 : decode cX3_look 15 = .ok (.getfield 155, 3) := by decide +kernel
theorem dX3_look_18 : decode cX3_look 18 = .ok (.iconst 1, 1) := by decide +kernel
theorem dX3_look_19 : decode cX3_look 19 = .ok (.iadd, 1) := by decide +kernel
theorem dX3_look_20 : decode cX3_look 20 = .ok (.putfield 155, 3) := by decide +kernel
theorem dX3_look_23 : decode cX3_look 23 = .ok (.aload_n 0, 1) := by decide +kernel
theorem dX3_look_24 : decode cX3_look 24 = .ok (.getfield 19, 3) := by decide +kernel
theorem dX3_look_27 : decode cX3_look 27 = .ok (.iload_n 1, 1) := by decide +kernel
theorem dX3_look_28 : decode cX3_look 28 = .ok (.invokevirtual 119, 3) := by decide +kernel
theorem dX3_look_31 : decode cX3_look 31 = .ok (.ifCond .ne 5, 3) := by decide +kernel
theorem dX3_look_34 : decode cX3_look 34 = .ok (.iconst 0, 1) := by decide +kernel
theorem dX3_look_35 : decode cX3_look 35 = .ok (.ireturn, 1) := by decide +kernel
theorem dX3_look_36 : decode cX3_look 36 = .ok (.aload_n 0, 1) := by decide +kernel
theorem dX3_look_37 : decode cX3_look 37 = .ok (.getfield 19, 3) := by decide +kernel
theorem dX3_look_40 : decode cX3_look 40 = .ok (.getfield 164, 3) := by decide +kernel
theorem dX3_look_43 : decode cX3_look 43 = .ok (.iload_n 1, 1) := by decide +kernel
theorem dX3_look_44 : decode cX3_look 44 = .ok (.iaload, 1) := by decide +kernel
theorem dX3_look_45 : decode cX3_look 45 = .ok (.istore_n 3, 1) := by decide +kernel
theorem dX3_look_46 : decode cX3_look 46 = .ok (.aload_n 0, 1) := by decide +kernel
theorem dX3_look_47 : decode cX3_look 47 = .ok (.getfield 19, 3) := by decide +kernel
theorem dX3_look_50 : decode cX3_look 50 = .ok (.getfield 167, 3) := by decide +kernel
theorem dX3_look_53 : decode cX3_look 53 = .ok (.iload_n 1, 1) := by decide +kernel
theorem dX3_look_54 : decode cX3_look 54 = .ok (.iaload, 1) := by decide +kernel
theorem dX3_look_55 : decode cX3_look 55 = .ok (.istore 4, 2) := by decide +kernel
theorem dX3_look_57 : decode cX3_look 57 = .ok (.aload_n 0, 1) := by decide +kernel
theorem dX3_look_58 : decode cX3_look 58 = .ok (.getfield 19, 3) := by decide +kernel
theorem dX3_look_61 : decode cX3_look 61 = .ok (.getfield 170, 3) := by decide +kernel
theorem dX3_look_64 : decode cX3_look 64 = .ok (.iload_n 1, 1) := by decide +kernel
theorem dX3_look_65 : decode cX3_look 65 = .ok (.iaload, 1) := by decide +kernel
theorem dX3_look_66 : decode cX3_look 66 = .ok (.istore 5, 2) := by decide +kernel
theorem dX3_look_68 : decode cX3_look 68 = .ok (.aload_n 0, 1) := by decide +kernel
theorem dX3_look_69 : decode cX3_look 69 = .ok (.getfield 19, 3) := by decide +kernel
theorem dX3_look_72 : decode cX3_look 72 = .ok (.getfield 173, 3) := by decide +kernel
theorem dX3_look_75 : decode cX3_look 75 = .ok (.iload_n 1, 1) := by decide +kernel
theorem dX3_look_76 : decode cX3_look 76 = .ok (.iaload, 1) := by decide +kernel
theorem dX3_look_77 : decode cX3_look 77 = .ok (.tableswitch 241 0 13 #[71, 84, 109, 124, 133, 142, 153, 164, 173, 182, 192, 199, 225, 232], 71) := by decide +kernel
theorem dX3_look_148 : decode cX3_look 148 = .ok (.aload_n 0, 1) := by decide +kernel
theorem dX3_look_149 : decode cX3_look 149 = .ok (.getfield 10, 3) := by decide +kernel
theorem dX3_look_152 : decode cX3_look 152 = .ok (.iload_n 2, 1) := by decide +kernel
theorem dX3_look_153 : decode cX3_look 153 = .ok (.iload_n 3, 1) := by decide +kernel
theorem dX3_look_154 : decode cX3_look 154 = .ok (.invokevirtual 106, 3) := by decide +kernel
theorem dX3_look_157 : decode cX3_look 157 = .ok (.invokestatic 176, 3) := by decide +kernel
theorem dX3_look_160 : decode cX3_look 160 = .ok (.ireturn, 1) := by decide +kernel
theorem dX3_look_161 : decode cX3_look 161 = .ok (.aload_n 0, 1) := by decide +kernel
theorem dX3_look_162 : decode cX3_look 162 = .ok (.getfield 10, 3) := by decide +kernel
theorem dX3_look_165 : decode cX3_look 165 = .ok (.iload_n 2, 1) := by decide +kernel
theorem dX3_look_166 : decode cX3_look 166 = .ok (.iload_n 3, 1) := by decide +kernel
theorem dX3_look_167 : decode cX3_look 167 = .ok (.invokevirtual 180, 3) := by decide +kernel
theorem dX3_look_170 : decode cX3_look 170 = .ok (.ifCond .eq 13, 3) := by decide +kernel
theorem dX3_look_173 : decode cX3_look 173 = .ok (.aload_n 0, 1) := by decide +kernel
theorem dX3_look_174 : decode cX3_look 174 = .ok (.iload 4, 2) := by decide +kernel
theorem dX3_look_176 : decode cX3_look 176 = .ok (.iload_n 2, 1) := by decide +kernel
theorem dX3_look_177 : decode cX3_look 177 = .ok (.invokevirtual 161, 3) := by decide +kernel
theorem dX3_look_180 : decode cX3_look 180 = .ok (.goto 5, 3) := by decide +kernel
theorem dX3_look_183 : decode cX3_look 183 = .ok (.bipush (-21), 2) := by decide +kernel
theorem dX3_look_185 : decode cX3_look 185 = .ok (.ireturn, 1) := by decide +kernel
theorem dX3_look_186 : decode cX3_look 186 = .ok (.iload_n 2, 1) := by decide +kernel
theorem dX3_look_187 : decode cX3_look 187 = .ok (.bipush (-5), 2) := by decide +kernel
theorem dX3_look_189 : decode cX3_look 189 = .ok (.if_icmp .ne 7, 3) := by decide +kernel
theorem dX3_look_192 : decode cX3_look 192 = .ok (.iconst 1, 1) := by decide +kernel
theorem dX3_look_193 : decode cX3_look 193 = .ok (.goto 4, 3) := by decide +kernel
theorem dX3_look_196 : decode cX3_look 196 = .ok (.iconst 0, 1) := by decide +kernel
theorem dX3_look_197 : decode cX3_look 197 = .ok (.invokestatic 176, 3) := by decide +kernel
theorem dX3_look_200 : decode cX3_look 200 = .ok (.ireturn, 1) := by decide +kernel
theorem dX3_look_201 : decode cX3_look 201 = .ok (.aload_n 0, 1) := by decide +kernel
theorem dX3_look_202 : decode cX3_look 202 = .ok (.iload_n 2, 1) := by decide +kernel
theorem dX3_look_203 : decode cX3_look 203 = .ok (.iload_n 3, 1) := by decide +kernel
theorem dX3_look_204 : decode cX3_look 204 = .ok (.iload 4, 2) := by decide +kernel
theorem dX3_look_206 : decode cX3_look 206 = .ok (.invokevirtual 183, 3) := by decide +kernel
theorem dX3_look_209 : decode cX3_look 209 = .ok (.ireturn, 1) := by decide +kernel
theorem dX3_look_210 : decode cX3_look 210 = .ok (.aload_n 0, 1) := by decide +kernel
theorem dX3_look_211 : decode cX3_look 211 = .ok (.iload_n 2, 1) := by decide +kernel
theorem dX3_look_212 : decode cX3_look 212 = .ok (.iload_n 3, 1) := by decide +kernel
theorem dX3_look_213 : decode cX3_look 213 = .ok (.iload 4, 2) := by decide +kernel
theorem dX3_look_215 : decode cX3_look 215 = .ok (.invokevirtual 186, 3) := by decide +kernel
theorem dX3_look_218 : decode cX3_look 218 = .ok (.ireturn, 1) := by decide +kernel
theorem dX3_look_219 : decode cX3_look 219 = .ok (.aload_n 0, 1) := by decide +kernel
theorem dX3_look_220 : decode cX3_look 220 = .ok (.iload_n 2, 1) := by decide +kernel
theorem dX3_look_221 : decode cX3_look 221 = .ok (.iload_n 3, 1) := by decide +kernel
theorem dX3_look_222 : decode cX3_look 222 = .ok (.iload 4, 2) := by decide +kernel
theorem dX3_look_224 : decode cX3_look 224 = .ok (.iload 5, 2) := by decide +kernel
theorem dX3_look_226 : decode cX3_look 226 = .ok (.invokevirtual 189, 3) := by decide +kernel
theorem dX3_look_229 : decode cX3_look 229 = .ok (.ireturn, 1) := by decide +kernel
theorem dX3_look_230 : decode cX3_look 230 = .ok (.aload_n 0, 1) := by decide +kernel
theorem dX3_look_231 : decode cX3_look 231 = .ok (.iload_n 2, 1) := by decide +kernel
theorem dX3_look_232 : decode cX3_look 232 = .ok (.iload_n 3, 1) := by decide +kernel
theorem dX3_look_233 : decode cX3_look 233 = .ok (.iload 4, 2) := by decide +kernel
theorem dX3_look_235 : decode cX3_look 235 = .ok (.iload 5, 2) := by decide +kernel
theorem dX3_look_237 : decode cX3_look 237 = .ok (.invokevirtual 192, 3) := by decide +kernel
theorem dX3_look_240 : decode cX3_look 240 = .ok (.ireturn, 1) := by decide +kernel
theorem dX3_look_241 : decode cX3_look 241 = .ok (.aload_n 0, 1) := by decide +kernel
theorem dX3_look_242 : decode cX3_look 242 = .ok (.iload_n 2, 1) := by decide +kernel
theorem dX3_look_243 : decode cX3_look 243 = .ok (.iload_n 3, 1) := by decide +kernel
theorem dX3_look_244 : decode cX3_look 244 = .ok (.iload 4, 2) := by decide +kernel
theorem dX3_look_246 : decode cX3_look 246 = .ok (.invokevirtual 195, 3) := by decide +kernel
theorem dX3_look_249 : decode cX3_look 249 = .ok (.ireturn, 1) := by decide +kernel
theorem dX3_look_250 : decode cX3_look 250 = .ok (.aload_n 0, 1) := by decide +kernel
theorem dX3_look_251 : decode cX3_look 251 = .ok (.iload_n 2, 1) := by decide +kernel
theorem dX3_look_252 : decode cX3_look 252 = .ok (.iload_n 3, 1) := by decide +kernel
theorem dX3_look_253 : decode cX3_look 253 = .ok (.iload 4, 2) := by decide +kernel
theorem dX3_look_255 : decode cX3_look 255 = .ok (.invokevirtual 198, 3) := by decide +kernel
theorem dX3_look_258 : decode cX3_look 258 = .ok (.ireturn, 1) := by decide +kernel
theorem dX3_look_259 : decode cX3_look 259 = .ok (.aload_n 0, 1) := by decide +kernel
theorem dX3_look_260 : decode cX3_look 260 = .ok (.iload_n 3, 1) := by decide +kernel
theorem dX3_look_261 : decode cX3_look 261 = .ok (.iload_n 2, 1) := by decide +kernel
theorem dX3_look_262 : decode cX3_look 262 = .ok (.invokevirtual 161, 3) := by decide +kernel
theorem dX3_look_265 : decode cX3_look 265 = .ok (.invokestatic 201, 3) := by decide +kernel
theorem dX3_look_268 : decode cX3_look 268 = .ok (.ireturn, 1) := by decide +kernel
theorem dX3_look_269 : decode cX3_look 269 = .ok (.aload_n 0, 1) := by decide +kernel
theorem dX3_look_270 : decode cX3_look 270 = .ok (.iload_n 2, 1) := by decide +kernel
theorem dX3_look_271 : decode cX3_look 271 = .ok (.iload_n 3, 1) := by decide +kernel
theorem dX3_look_272 : decode cX3_look 272 = .ok (.invokevirtual 204, 3) := by decide +kernel
theorem dX3_look_275 : decode cX3_look 275 = .ok (.ireturn, 1) := by decide +kernel
theorem dX3_look_276 : decode cX3_look 276 = .ok (.iload_n 3, 1) := by decide +kernel
theorem dX3_look_277 : decode cX3_look 277 = .ok (.invokestatic 123, 3) := by decide +kernel
theorem dX3_look_280 : decode cX3_look 280 = .ok (.ifCond .eq 17, 3) := by decide +kernel
theorem dX3_look_283 : decode cX3_look 283 = .ok (.aload_n 0, 1) := by decide +kernel
theorem dX3_look_284 : decode cX3_look 284 = .ok (.getfield 30, 3) := by decide +kernel
theorem dX3_look_287 : decode cX3_look 287 = .ok (.iload_n 3, 1) := by decide +kernel
theorem dX3_look_288 : decode cX3_look 288 = .ok (.iaload, 1) := by decide +kernel
theorem dX3_look_289 : decode cX3_look 289 = .ok (.iload_n 2, 1) := by decide +kernel
theorem dX3_look_290 : decode cX3_look 290 = .ok (.if_icmp .ne 7, 3) := by decide +kernel
theorem dX3_look_293 : decode cX3_look 293 = .ok (.iconst 1, 1) := by decide +kernel
theorem dX3_look_294 : decode cX3_look 294 = .ok (.goto 4, 3) := by decide +kernel
theorem dX3_look_297 : decode cX3_look 297 = .ok (.iconst 0, 1) := by decide +kernel
theorem dX3_look_298 : decode cX3_look 298 = .ok (.invokestatic 176, 3) := by decide +kernel
theorem dX3_look_301 : decode cX3_look 301 = .ok (.ireturn, 1) := by decide +kernel
theorem dX3_look_302 : decode cX3_look 302 = .ok (.aload_n 0, 1) := by decide +kernel
theorem dX3_look_303 : decode cX3_look 303 = .ok (.iload_n 2, 1) := by decide +kernel
theorem dX3_look_304 : decode cX3_look 304 = .ok (.iload_n 3, 1) := by decide +kernel
theorem dX3_look_305 : decode cX3_look 305 = .ok (.invokevirtual 207, 3) := by decide +kernel
theorem dX3_look_308 : decode cX3_look 308 = .ok (.ireturn, 1) := by decide +kernel
theorem dX3_look_309 : decode cX3_look 309 = .ok (.aload_n 0, 1) := by decide +kernel
theorem dX3_look_310 : decode cX3_look 310 = .ok (.iload_n 2, 1) := by decide +kernel
theorem dX3_look_311 : decode cX3_look 311 = .ok (.iload_n 3, 1) := by decide +kernel
theorem dX3_look_312 : decode cX3_look 312 = .ok (.iload 4, 2) := by decide +kernel
theorem dX3_look_314 : decode cX3_look 314 = .ok (.invokevirtual 210, 3) := by decide +kernel
theorem dX3_look_317 : decode cX3_look 317 = .ok (.ireturn, 1) := by decide +kernel
theorem dX3_look_318 : decode cX3_look 318 = .ok (.iconst 0, 1) := by decide +kernel
theorem dX3_look_319 : decode cX3_look 319 = .ok (.ireturn, 1) := by decide +kernel
theorem dX3_fitsIf_0 : decode cX3_fitsIf 0 = .ok (.iload_n 0, 1) := by decide +kernel
theorem dX3_fitsIf_1 : decode cX3_fitsIf 1 = .ok (.ifCond .eq 7, 3) := by decide +kernel
theorem dX3_fitsIf_4 : decode cX3_fitsIf 4 = .ok (.iconst 1, 1) := by decide +kernel
theorem dX3_fitsIf_5 : decode cX3_fitsIf 5 = .ok (.goto 4, 3) := by decide +kernel
theorem dX3_fitsIf_8 : decode cX3_fitsIf 8 = .ok (.iconst 0, 1) := by decide +kernel
theorem dX3_fitsIf_9 : decode cX3_fitsIf 9 = .ok (.ireturn, 1) := by decide +kernel
theorem dX3_turnedRound_0 : decode cX3_turnedRound 0 = .ok (.iload_n 0, 1) := by decide +kernel
theorem dX3_turnedRound_1 : decode cX3_turnedRound 1 = .ok (.lookupswitch 31 #[(0, 29), (1, 27)], 27) := by decide +kernel
theorem dX3_turnedRound_28 : decode cX3_turnedRound 28 = .ok (.iconst 0, 1) := by decide +kernel
theorem dX3_turnedRound_29 : decode cX3_turnedRound 29 = .ok (.ireturn, 1) := by decide +kernel
theorem dX3_turnedRound_30 : decode cX3_turnedRound 30 = .ok (.iconst 1, 1) := by decide +kernel
theorem dX3_turnedRound_31 : decode cX3_turnedRound 31 = .ok (.ireturn, 1) := by decide +kernel
theorem dX3_turnedRound_32 : decode cX3_turnedRound 32 = .ok (.iload_n 0, 1) := by decide +kernel
theorem dX3_turnedRound_33 : decode cX3_turnedRound 33 = .ok (.ireturn, 1) := by decide +kernel
set_option maxRecDepth 20000 in
theorem ggX3_lookAtHalves_X2_isOf : GoodIn wsX3_lookAtHalves wsX2_isOf := goodIn_ca (goodIn_r _ [6, 7, 8, 9, 10, 5, 11, 12, 13, 14, 15, 137, 138, 139, 140, 141, 142, 143, 144] (by decide +kernel) (by decide +kernel)) (goodIn_sub (fun _ h => List.mem_cons_of_mem _ (List.mem_append_right _ h)) (by decide +kernel))
set_option maxRecDepth 20000 in
theorem gX3_lookAtHalves_X2_isOf : GoodIn wsX3_lookAtHalves (wsV RX3 106 RX2 yX2_isOf wsX2_isOf) := goodIn_app (goodIn_of _ (by decide +kernel)) ggX3_lookAtHalves_X2_isOf
set_option maxRecDepth 20000 in
theorem ggX3_lookAtHalves_X2_heldHalf : GoodIn wsX3_lookAtHalves wsX2_heldHalf := goodIn_ca (goodIn_r _ [19, 20, 21, 8, 9, 10, 5, 11, 12, 137, 138, 139, 140, 141, 142, 143, 144] (by decide +kernel) (by decide +kernel)) (goodIn_sub (fun _ h => List.mem_cons_of_mem _ (List.mem_append_right _ h)) (by decide +kernel))
set_option maxRecDepth 20000 in
theorem gX3_lookAtHalves_X2_heldHalf : GoodIn wsX3_lookAtHalves (wsV RX3 158 RX2 yX2_heldHalf wsX2_heldHalf) := goodIn_app (goodIn_of _ (by decide +kernel)) ggX3_lookAtHalves_X2_heldHalf
set_option maxRecDepth 20000 in
theorem ggX3_lookAtHalves_X3_look : GoodIn wsX3_lookAtHalves wsX3_look := goodIn_ca (goodIn_r _ [26, 27, 28, 29, 30, 31, 32, 1, 33, 34, 35, 36, 37, 38, 39, 2, 3, 4, 5, 6, 7, 8, 9, 10, 11, 12, 13, 14, 15, 40, 41, 25, 42, 43, 44, 45, 46, 47, 22, 23, 24, 48, 49, 50, 51, 52, 53, 54, 55, 56, 57, 58, 59, 60, 61, 62, 63, 64, 65, 66, 67, 68, 69, 70, 71, 72, 73, 74, 75, 76, 77, 78, 79, 80, 81, 82, 83, 84, 85, 86, 87, 88, 89, 90, 91, 92, 93, 94, 95, 96, 97, 98, 99, 100, 101, 102, 103, 104, 105, 106, 107, 108, 109, 110, 111, 112, 113, 114, 115, 116, 117, 118, 119, 120, 121, 0, 16, 17, 18, 19, 20, 21, 122, 123, 124, 125, 126, 127, 128, 129, 130, 131, 132, 133, 134, 135, 136, 137, 138, 139, 140, 141, 142, 143, 144] (by decide +kernel) (by decide +kernel)) (goodIn_sub (fun _ h => List.mem_cons_of_mem _ (List.mem_append_right _ h)) (by decide +kernel))
set_option maxRecDepth 20000 in
theorem gX3_lookAtHalves_X3_look : GoodIn wsX3_lookAtHalves (wsV RX3 161 RX3 yX3_look wsX3_look) := goodIn_app (goodIn_of _ (by decide +kernel)) ggX3_lookAtHalves_X3_look
theorem dX3_lookAtHalves_0 : decode cX3_lookAtHalves 0 = .ok (.aload_n 0, 1) := by decide +kernel
theorem dX3_lookAtHalves_1 : decode cX3_lookAtHalves 1 = .ok (.getfield 10, 3) := by decide +kernel
theorem dX3_lookAtHalves_4 : decode cX3_lookAtHalves 4 = .ok (.iload_n 1, 1) := by decide +kernel
theorem dX3_lookAtHalves_5 : decode cX3_lookAtHalves 5 = .ok (.iconst 2, 1) := by decide +kernel
theorem dX3_lookAtHalves_6 : decode cX3_lookAtHalves 6 = .ok (.invokevirtual 106, 3) := by decide +kernel
theorem dX3_lookAtHalves_9 : decode cX3_lookAtHalves 9 = .ok (.ifCond .ne 5, 3) := by decide +kernel
theorem dX3_lookAtHalves_12 : decode cX3_lookAtHalves 12 = .ok (.iconst 0, 1) := by decide +kernel
theorem dX3_lookAtHalves_13 : decode cX3_lookAtHalves 13 = .ok (.ireturn, 1) := by decide +kernel
theorem dX3_lookAtHalves_14 : decode cX3_lookAtHalves 14 = .ok (.aload_n 0, 1) := by decide +kernel
theorem dX3_lookAtHalves_15 : decode cX3_lookAtHalves 15 = .ok (.iload_n 2, 1) := by decide +kernel
theorem dX3_lookAtHalves_16 : decode cX3_lookAtHalves 16 = .ok (.aload_n 0, 1) := by decide +kernel
theorem dX3_lookAtHalves_17 : decode cX3_lookAtHalves 17 = .ok (.getfield 10, 3) := by decide +kernel
theorem dX3_lookAtHalves_20 : decode cX3_lookAtHalves 20 = .ok (.iload_n 1, 1) := by decide +kernel
theorem dX3_lookAtHalves_21 : decode cX3_lookAtHalves 21 = .ok (.iconst 0, 1) := by decide +kernel
theorem dX3_lookAtHalves_22 : decode cX3_lookAtHalves 22 = .ok (.invokevirtual 158, 3) := by decide +kernel
theorem dX3_lookAtHalves_25 : decode cX3_lookAtHalves 25 = .ok (.invokevirtual 161, 3) := by decide +kernel
theorem dX3_lookAtHalves_28 : decode cX3_lookAtHalves 28 = .ok (.istore 4, 2) := by decide +kernel
theorem dX3_lookAtHalves_30 : decode cX3_lookAtHalves 30 = .ok (.iload 4, 2) := by decide +kernel
theorem dX3_lookAtHalves_32 : decode cX3_lookAtHalves 32 = .ok (.iconst 1, 1) := by decide +kernel
theorem dX3_lookAtHalves_33 : decode cX3_lookAtHalves 33 = .ok (.if_icmp .ne 20, 3) := by decide +kernel
theorem dX3_lookAtHalves_36 : decode cX3_lookAtHalves 36 = .ok (.aload_n 0, 1) := by decide +kernel
theorem dX3_lookAtHalves_37 : decode cX3_lookAtHalves 37 = .ok (.iload_n 3, 1) := by decide +kernel
theorem dX3_lookAtHalves_38 : decode cX3_lookAtHalves 38 = .ok (.aload_n 0, 1) := by decide +kernel
theorem dX3_lookAtHalves_39 : decode cX3_lookAtHalves 39 = .ok (.getfield 10, 3) := by decide +kernel
theorem dX3_lookAtHalves_42 : decode cX3_lookAtHalves 42 = .ok (.iload_n 1, 1) := by decide +kernel
theorem dX3_lookAtHalves_43 : decode cX3_lookAtHalves 43 = .ok (.iconst 1, 1) := by decide +kernel
theorem dX3_lookAtHalves_44 : decode cX3_lookAtHalves 44 = .ok (.invokevirtual 158, 3) := by decide +kernel
theorem dX3_lookAtHalves_47 : decode cX3_lookAtHalves 47 = .ok (.invokevirtual 161, 3) := by decide +kernel
theorem dX3_lookAtHalves_50 : decode cX3_lookAtHalves 50 = .ok (.goto 5, 3) := by decide +kernel
theorem dX3_lookAtHalves_53 : decode cX3_lookAtHalves 53 = .ok (.iload 4, 2) := by decide +kernel
theorem dX3_lookAtHalves_55 : decode cX3_lookAtHalves 55 = .ok (.ireturn, 1) := by decide +kernel
set_option maxRecDepth 20000 in
theorem ggX3_lookAtEach_X2_isOf : GoodIn wsX3_lookAtEach wsX2_isOf := goodIn_ca (goodIn_r _ [6, 7, 8, 9, 10, 5, 11, 12, 13, 14, 15, 137, 138, 139, 140, 141, 142, 143, 144] (by decide +kernel) (by decide +kernel)) (goodIn_sub (fun _ h => List.mem_cons_of_mem _ (List.mem_append_right _ h)) (by decide +kernel))
set_option maxRecDepth 20000 in
theorem gX3_lookAtEach_X2_isOf : GoodIn wsX3_lookAtEach (wsV RX3 106 RX2 yX2_isOf wsX2_isOf) := goodIn_app (goodIn_of _ (by decide +kernel)) ggX3_lookAtEach_X2_isOf
set_option maxRecDepth 20000 in
theorem ggX3_lookAtEach_X2_placesOf : GoodIn wsX3_lookAtEach wsX2_placesOf := goodIn_ca (goodIn_r _ [19, 20, 8, 9, 10, 5, 11, 12, 137, 138, 139, 140, 141, 142, 143, 144] (by decide +kernel) (by decide +kernel)) (goodIn_sub (fun _ h => List.mem_cons_of_mem _ (List.mem_append_right _ h)) (by decide +kernel))
set_option maxRecDepth 20000 in
theorem gX3_lookAtEach_X2_placesOf : GoodIn wsX3_lookAtEach (wsV RX3 213 RX2 yX2_placesOf wsX2_placesOf) := goodIn_app (goodIn_of _ (by decide +kernel)) ggX3_lookAtEach_X2_placesOf
set_option maxRecDepth 20000 in
theorem ggX3_lookAtEach_X2_heldIn : GoodIn wsX3_lookAtEach wsX2_heldIn := goodIn_ca (goodIn_r _ [24, 25, 26, 27, 28, 5, 29, 20, 8, 9, 10, 11, 12, 137, 138, 139, 140, 141, 142, 143, 144] (by decide +kernel) (by decide +kernel)) (goodIn_sub (fun _ h => List.mem_cons_of_mem _ (List.mem_append_right _ h)) (by decide +kernel))
set_option maxRecDepth 20000 in
theorem gX3_lookAtEach_X2_heldIn : GoodIn wsX3_lookAtEach (wsV RX3 103 RX2 yX2_heldIn wsX2_heldIn) := goodIn_app (goodIn_of _ (by decide +kernel)) ggX3_lookAtEach_X2_heldIn
set_option maxRecDepth 20000 in
theorem ggX3_lookAtEach_X3_look : GoodIn wsX3_lookAtEach wsX3_look := goodIn_ca (goodIn_r _ [34, 35, 36, 37, 38, 39, 40, 1, 41, 42, 43, 44, 45, 46, 47, 2, 3, 4, 5, 6, 7, 8, 9, 10, 11, 12, 13, 14, 15, 48, 49, 33, 50, 51, 52, 53, 54, 55, 30, 31, 32, 56, 57, 58, 59, 60, 61, 62, 63, 64, 65, 66, 67, 68, 69, 70, 71, 72, 73, 74, 75, 76, 26, 27, 28, 29, 20, 77, 78, 79, 80, 81, 82, 83, 84, 85, 86, 87, 88, 89, 90, 91, 92, 93, 94, 95, 96, 97, 98, 99, 100, 101, 102, 103, 104, 105, 106, 107, 108, 109, 110, 111, 112, 113, 114, 16, 17, 18, 19, 0, 21, 22, 23, 24, 25, 115, 116, 117, 118, 119, 120, 121, 122, 123, 124, 125, 126, 127, 128, 129, 130, 131, 132, 133, 134, 135, 136, 137, 138, 139, 140, 141, 142, 143, 144] (by decide +kernel) (by decide +kernel)) (goodIn_sub (fun _ h => List.mem_cons_of_mem _ (List.mem_append_right _ h)) (by decide +kernel))
set_option maxRecDepth 20000 in
theorem gX3_lookAtEach_X3_look : GoodIn wsX3_lookAtEach (wsV RX3 161 RX3 yX3_look wsX3_look) := goodIn_app (goodIn_of _ (by decide +kernel)) ggX3_lookAtEach_X3_look
theorem dX3_lookAtEach_0 : decode cX3_lookAtEach 0 = .ok (.aload_n 0, 1) := by decide +kernel
theorem dX3_lookAtEach_1 : decode cX3_lookAtEach 1 = .ok (.getfield 10, 3) := by decide +kernel
theorem dX3_lookAtEach_4 : decode cX3_lookAtEach 4 = .ok (.iload_n 1, 1) := by decide +kernel
theorem dX3_lookAtEach_5 : decode cX3_lookAtEach 5 = .ok (.iload_n 2, 1) := by decide +kernel
theorem dX3_lookAtEach_6 : decode cX3_lookAtEach 6 = .ok (.invokevirtual 106, 3) := by decide +kernel
theorem dX3_lookAtEach_9 : decode cX3_lookAtEach 9 = .ok (.ifCond .ne 5, 3) := by decide +kernel
theorem dX3_lookAtEach_12 : decode cX3_lookAtEach 12 = .ok (.iconst 0, 1) := by decide +kernel
theorem dX3_lookAtEach_13 : decode cX3_lookAtEach 13 = .ok (.ireturn, 1) := by decide +kernel
theorem dX3_lookAtEach_14 : decode cX3_lookAtEach 14 = .ok (.iconst 1, 1) := by decide +kernel
theorem dX3_lookAtEach_15 : decode cX3_lookAtEach 15 = .ok (.istore 4, 2) := by decide +kernel
theorem dX3_lookAtEach_17 : decode cX3_lookAtEach 17 = .ok (.aload_n 0, 1) := by decide +kernel
theorem dX3_lookAtEach_18 : decode cX3_lookAtEach 18 = .ok (.getfield 10, 3) := by decide +kernel
theorem dX3_lookAtEach_21 : decode cX3_lookAtEach 21 = .ok (.iload_n 1, 1) := by decide +kernel
theorem dX3_lookAtEach_22 : decode cX3_lookAtEach 22 = .ok (.invokevirtual 213, 3) := by decide +kernel
theorem dX3_lookAtEach_25 : decode cX3_lookAtEach 25 = .ok (.istore 5, 2) := by decide +kernel
theorem dX3_lookAtEach_27 : decode cX3_lookAtEach 27 = .ok (.iconst 0, 1) := by decide +kernel
theorem dX3_lookAtEach_28 : decode cX3_lookAtEach 28 = .ok (.istore 6, 2) := by decide +kernel
theorem dX3_lookAtEach_30 : decode cX3_lookAtEach 30 = .ok (.iload 6, 2) := by decide +kernel
theorem dX3_lookAtEach_32 : decode cX3_lookAtEach 32 = .ok (.iload 5, 2) := by decide +kernel
theorem dX3_lookAtEach_34 : decode cX3_lookAtEach 34 = .ok (.if_icmp .ge 32, 3) := by decide +kernel
theorem dX3_lookAtEach_37 : decode cX3_lookAtEach 37 = .ok (.iload 4, 2) := by decide +kernel
theorem dX3_lookAtEach_39 : decode cX3_lookAtEach 39 = .ok (.iconst 1, 1) := by decide +kernel
theorem dX3_lookAtEach_40 : decode cX3_lookAtEach 40 = .ok (.if_icmp .ne 26, 3) := by decide +kernel
theorem dX3_lookAtEach_43 : decode cX3_lookAtEach 43 = .ok (.aload_n 0, 1) := by decide +kernel
theorem dX3_lookAtEach_44 : decode cX3_lookAtEach 44 = .ok (.iload_n 3, 1) := by decide +kernel
theorem dX3_lookAtEach_45 : decode cX3_lookAtEach 45 = .ok (.aload_n 0, 1) := by decide +kernel
theorem dX3_lookAtEach_46 : decode cX3_lookAtEach 46 = .ok (.getfield 10, 3) := by decide +kernel
theorem dX3_lookAtEach_49 : decode cX3_lookAtEach 49 = .ok (.iload_n 1, 1) := by decide +kernel
theorem dX3_lookAtEach_50 : decode cX3_lookAtEach 50 = .ok (.iload 6, 2) := by decide +kernel
theorem dX3_lookAtEach_52 : decode cX3_lookAtEach 52 = .ok (.invokevirtual 103, 3) := by decide +kernel
theorem dX3_lookAtEach_55 : decode cX3_lookAtEach 55 = .ok (.invokevirtual 161, 3) := by decide +kernel
theorem dX3_lookAtEach_58 : decode cX3_lookAtEach 58 = .ok (.istore 4, 2) := by decide +kernel
theorem dX3_lookAtEach_60 : decode cX3_lookAtEach 60 = .ok (.iinc 6 1, 3) := by decide +kernel
theorem dX3_lookAtEach_63 : decode cX3_lookAtEach 63 = .ok (.goto (-33), 3) := by decide +kernel
theorem dX3_lookAtEach_66 : decode cX3_lookAtEach 66 = .ok (.iload 4, 2) := by decide +kernel
theorem dX3_lookAtEach_68 : decode cX3_lookAtEach 68 = .ok (.ireturn, 1) := by decide +kernel
set_option maxRecDepth 20000 in
theorem ggX3_lookAtPlace_X2_reach : GoodIn wsX3_lookAtPlace wsX2_reach := goodIn_ca (goodIn_r _ [6, 7, 8, 9, 5, 10, 11, 12, 13, 14, 15, 16, 17, 18, 19, 20, 21, 22, 23, 24, 25, 26, 27, 28, 137, 138, 139, 140, 141, 142, 143, 144] (by decide +kernel) (by decide +kernel)) (goodIn_sub (fun _ h => List.mem_cons_of_mem _ (List.mem_append_right _ h)) (by decide +kernel))
set_option maxRecDepth 20000 in
theorem gX3_lookAtPlace_X2_reach : GoodIn wsX3_lookAtPlace (wsV RX3 86 RX2 yX2_reach wsX2_reach) := goodIn_app (goodIn_of _ (by decide +kernel)) ggX3_lookAtPlace_X2_reach
set_option maxRecDepth 20000 in
theorem ggX3_lookAtPlace_X2_heldIn : GoodIn wsX3_lookAtPlace wsX2_heldIn := goodIn_ca (goodIn_r _ [32, 33, 24, 25, 26, 5, 27, 28, 16, 17, 18, 19, 20, 137, 138, 139, 140, 141, 142, 143, 144] (by decide +kernel) (by decide +kernel)) (goodIn_sub (fun _ h => List.mem_cons_of_mem _ (List.mem_append_right _ h)) (by decide +kernel))
set_option maxRecDepth 20000 in
theorem gX3_lookAtPlace_X2_heldIn : GoodIn wsX3_lookAtPlace (wsV RX3 103 RX2 yX2_heldIn wsX2_heldIn) := goodIn_app (goodIn_of _ (by decide +kernel)) ggX3_lookAtPlace_X2_heldIn
set_option maxRecDepth 20000 in
theorem ggX3_lookAtPlace_X3_look : GoodIn wsX3_lookAtPlace wsX3_look := goodIn_ca (goodIn_r _ [38, 39, 40, 41, 42, 43, 44, 1, 45, 46, 47, 48, 49, 50, 51, 52, 12, 13, 5, 14, 15, 16, 17, 18, 19, 20, 21, 22, 23, 53, 54, 37, 55, 56, 57, 58, 59, 11, 34, 35, 36, 60, 61, 62, 63, 64, 65, 66, 67, 68, 69, 70, 71, 72, 2, 3, 4, 6, 7, 8, 9, 10, 24, 25, 26, 27, 28, 73, 74, 75, 76, 77, 78, 79, 80, 81, 82, 83, 84, 85, 86, 87, 88, 89, 90, 91, 92, 93, 94, 95, 96, 97, 98, 99, 100, 101, 102, 103, 104, 105, 106, 107, 108, 109, 110, 111, 112, 113, 114, 115, 29, 30, 31, 32, 33, 116, 117, 118, 119, 120, 121, 122, 0, 123, 124, 125, 126, 127, 128, 129, 130, 131, 132, 133, 134, 135, 136, 137, 138, 139, 140, 141, 142, 143, 144] (by decide +kernel) (by decide +kernel)) (goodIn_sub (fun _ h => List.mem_cons_of_mem _ (List.mem_append_right _ h)) (by decide +kernel))
set_option maxRecDepth 20000 in
theorem gX3_lookAtPlace_X3_look : GoodIn wsX3_lookAtPlace (wsV RX3 161 RX3 yX3_look wsX3_look) := goodIn_app (goodIn_of _ (by decide +kernel)) ggX3_lookAtPlace_X3_look
theorem dX3_lookAtPlace_0 : decode cX3_lookAtPlace 0 = .ok (.aload_n 0, 1) := by decide +kernel
theorem dX3_lookAtPlace_1 : decode cX3_lookAtPlace 1 = .ok (.getfield 10, 3) := by decide +kernel
theorem dX3_lookAtPlace_4 : decode cX3_lookAtPlace 4 = .ok (.iload_n 1, 1) := by decide +kernel
theorem dX3_lookAtPlace_5 : decode cX3_lookAtPlace 5 = .ok (.iload_n 2, 1) := by decide +kernel
theorem dX3_lookAtPlace_6 : decode cX3_lookAtPlace 6 = .ok (.iload_n 3, 1) := by decide +kernel
theorem dX3_lookAtPlace_7 : decode cX3_lookAtPlace 7 = .ok (.invokevirtual 86, 3) := by decide +kernel
theorem dX3_lookAtPlace_10 : decode cX3_lookAtPlace 10 = .ok (.istore 5, 2) := by decide +kernel
theorem dX3_lookAtPlace_12 : decode cX3_lookAtPlace 12 = .ok (.iload 5, 2) := by decide +kernel
theorem dX3_lookAtPlace_14 : decode cX3_lookAtPlace 14 = .ok (.iconst 1, 1) := by decide +kernel
theorem dX3_lookAtPlace_15 : decode cX3_lookAtPlace 15 = .ok (.if_icmp .ne 21, 3) := by decide +kernel
theorem dX3_lookAtPlace_18 : decode cX3_lookAtPlace 18 = .ok (.aload_n 0, 1) := by decide +kernel
theorem dX3_lookAtPlace_19 : decode cX3_lookAtPlace 19 = .ok (.iload 4, 2) := by decide +kernel
theorem dX3_lookAtPlace_21 : decode cX3_lookAtPlace 21 = .ok (.aload_n 0, 1) := by decide +kernel
theorem dX3_lookAtPlace_22 : decode cX3_lookAtPlace 22 = .ok (.getfield 10, 3) := by decide +kernel
theorem dX3_lookAtPlace_25 : decode cX3_lookAtPlace 25 = .ok (.iload_n 1, 1) := by decide +kernel
theorem dX3_lookAtPlace_26 : decode cX3_lookAtPlace 26 = .ok (.iload_n 3, 1) := by decide +kernel
theorem dX3_lookAtPlace_27 : decode cX3_lookAtPlace 27 = .ok (.invokevirtual 103, 3) := by decide +kernel
theorem dX3_lookAtPlace_30 : decode cX3_lookAtPlace 30 = .ok (.invokevirtual 161, 3) := by decide +kernel
theorem dX3_lookAtPlace_33 : decode cX3_lookAtPlace 33 = .ok (.goto 5, 3) := by decide +kernel
theorem dX3_lookAtPlace_36 : decode cX3_lookAtPlace 36 = .ok (.iload 5, 2) := by decide +kernel
theorem dX3_lookAtPlace_38 : decode cX3_lookAtPlace 38 = .ok (.ireturn, 1) := by decide +kernel
set_option maxRecDepth 20000 in
theorem ggX3_lookAtDigit_X2_reach : GoodIn wsX3_lookAtDigit wsX2_reach := goodIn_ca (goodIn_r _ [6, 7, 8, 9, 5, 10, 11, 12, 13, 14, 15, 16, 17, 18, 19, 20, 21, 22, 23, 24, 25, 26, 27, 28, 45, 46, 47, 48, 49, 50, 51, 52] (by decide +kernel) (by decide +kernel)) (goodIn_sub (fun _ h => List.mem_cons_of_mem _ (List.mem_append_right _ h)) (by decide +kernel))
set_option maxRecDepth 20000 in
theorem gX3_lookAtDigit_X2_reach : GoodIn wsX3_lookAtDigit (wsV RX3 86 RX2 yX2_reach wsX2_reach) := goodIn_app (goodIn_of _ (by decide +kernel)) ggX3_lookAtDigit_X2_reach
set_option maxRecDepth 20000 in
theorem ggX3_lookAtDigit_X2_numberIn : GoodIn wsX3_lookAtDigit wsX2_numberIn := goodIn_ca (goodIn_r _ [32, 33, 24, 25, 26, 5, 27, 28, 16, 17, 18, 19, 20, 45, 46, 47, 48, 49, 50, 51, 52] (by decide +kernel) (by decide +kernel)) (goodIn_sub (fun _ h => List.mem_cons_of_mem _ (List.mem_append_right _ h)) (by decide +kernel))
set_option maxRecDepth 20000 in
theorem gX3_lookAtDigit_X2_numberIn : GoodIn wsX3_lookAtDigit (wsV RX3 95 RX2 yX2_numberIn wsX2_numberIn) := goodIn_app (goodIn_of _ (by decide +kernel)) ggX3_lookAtDigit_X2_numberIn
set_option maxRecDepth 20000 in
theorem ggX3_lookAtDigit_X3_fitsIf : GoodIn wsX3_lookAtDigit wsX3_fitsIf := goodIn_r _ [37] (by decide +kernel) (by decide +kernel)
set_option maxRecDepth 20000 in
theorem gX3_lookAtDigit_X3_fitsIf : GoodIn wsX3_lookAtDigit (va_wsS RX3 176 yX3_fitsIf wsX3_fitsIf) := goodIn_app (goodIn_of _ (by decide +kernel)) ggX3_lookAtDigit_X3_fitsIf
theorem dX3_lookAtDigit_0 : decode cX3_lookAtDigit 0 = .ok (.aload_n 0, 1) := by decide +kernel
theorem dX3_lookAtDigit_1 : decode cX3_lookAtDigit 1 = .ok (.getfield 10, 3) := by decide +kernel
theorem dX3_lookAtDigit_4 : decode cX3_lookAtDigit 4 = .ok (.iload_n 1, 1) := by decide +kernel
theorem dX3_lookAtDigit_5 : decode cX3_lookAtDigit 5 = .ok (.iload_n 2, 1) := by decide +kernel
theorem dX3_lookAtDigit_6 : decode cX3_lookAtDigit 6 = .ok (.iload_n 3, 1) := by decide +kernel
theorem dX3_lookAtDigit_7 : decode cX3_lookAtDigit 7 = .ok (.invokevirtual 86, 3) := by decide +kernel
theorem dX3_lookAtDigit_10 : decode cX3_lookAtDigit 10 = .ok (.istore 5, 2) := by decide +kernel
theorem dX3_lookAtDigit_12 : decode cX3_lookAtDigit 12 = .ok (.iload 5, 2) := by decide +kernel
theorem dX3_lookAtDigit_14 : decode cX3_lookAtDigit 14 = .ok (.iconst 1, 1) := by decide +kernel
theorem dX3_lookAtDigit_15 : decode cX3_lookAtDigit 15 = .ok (.if_icmp .ne 30, 3) := by decide +kernel
theorem dX3_lookAtDigit_18 : decode cX3_lookAtDigit 18 = .ok (.aload_n 0, 1) := by decide +kernel
theorem dX3_lookAtDigit_19 : decode cX3_lookAtDigit 19 = .ok (.getfield 10, 3) := by decide +kernel
theorem dX3_lookAtDigit_22 : decode cX3_lookAtDigit 22 = .ok (.iload_n 1, 1) := by decide +kernel
theorem dX3_lookAtDigit_23 : decode cX3_lookAtDigit 23 = .ok (.iload_n 3, 1) := by decide +kernel
theorem dX3_lookAtDigit_24 : decode cX3_lookAtDigit 24 = .ok (.invokevirtual 95, 3) := by decide +kernel
theorem dX3_lookAtDigit_27 : decode cX3_lookAtDigit 27 = .ok (.iload 4, 2) := by decide +kernel
theorem dX3_lookAtDigit_29 : decode cX3_lookAtDigit 29 = .ok (.i2l, 1) := by decide +kernel
theorem dX3_lookAtDigit_30 : decode cX3_lookAtDigit 30 = .ok (.lcmp, 1) := by decide +kernel
theorem dX3_lookAtDigit_31 : decode cX3_lookAtDigit 31 = .ok (.ifCond .ne 7, 3) := by decide +kernel
theorem dX3_lookAtDigit_34 : decode cX3_lookAtDigit 34 = .ok (.iconst 1, 1) := by decide +kernel
theorem dX3_lookAtDigit_35 : decode cX3_lookAtDigit 35 = .ok (.goto 4, 3) := by decide +kernel
theorem dX3_lookAtDigit_38 : decode cX3_lookAtDigit 38 = .ok (.iconst 0, 1) := by decide +kernel
theorem dX3_lookAtDigit_39 : decode cX3_lookAtDigit 39 = .ok (.invokestatic 176, 3) := by decide +kernel
theorem dX3_lookAtDigit_42 : decode cX3_lookAtDigit 42 = .ok (.goto 5, 3) := by decide +kernel
theorem dX3_lookAtDigit_45 : decode cX3_lookAtDigit 45 = .ok (.iload 5, 2) := by decide +kernel
theorem dX3_lookAtDigit_47 : decode cX3_lookAtDigit 47 = .ok (.ireturn, 1) := by decide +kernel
set_option maxRecDepth 20000 in
theorem ggX3_lookWithBoth_X3_look : GoodIn wsX3_lookWithBoth wsX3_look := goodIn_ca (goodIn_r _ [5, 6, 7, 8, 9, 10, 11, 12, 13, 14, 15, 16, 17, 18, 19, 20, 21, 22, 23, 24, 25, 26, 27, 28, 29, 30, 31, 32, 33, 34, 35, 4, 36, 37, 38, 39, 40, 41, 1, 2, 3, 42, 43, 44, 45, 46, 47, 48, 49, 50, 51, 52, 53, 54, 55, 56, 57, 58, 59, 60, 61, 62, 63, 64, 65, 66, 67, 68, 69, 70, 71, 72, 73, 74, 75, 76, 77, 78, 79, 80, 81, 82, 83, 84, 85, 86, 87, 88, 89, 90, 91, 92, 93, 94, 95, 96, 97, 98, 99, 100, 101, 102, 103, 104, 105, 106, 107, 108, 109, 110, 111, 112, 113, 114, 115, 116, 117, 118, 119, 120, 121, 122, 123, 0, 124, 125, 126, 127, 128, 129, 130, 131, 132, 133, 134, 135, 136, 137, 138, 139, 140, 141, 142, 143, 144] (by decide +kernel) (by decide +kernel)) (goodIn_sub (fun _ h => List.mem_cons_of_mem _ (List.mem_append_right _ h)) (by decide +kernel))
set_option maxRecDepth 20000 in
theorem gX3_lookWithBoth_X3_look : GoodIn wsX3_lookWithBoth (wsV RX3 161 RX3 yX3_look wsX3_look) := goodIn_app (goodIn_of _ (by decide +kernel)) ggX3_lookWithBoth_X3_look
theorem dX3_lookWithBoth_0 : decode cX3_lookWithBoth 0 = .ok (.aload_n 0, 1) := by decide +kernel
theorem dX3_lookWithBoth_1 : decode cX3_lookWithBoth 1 = .ok (.iload_n 2, 1) := by decide +kernel
theorem dX3_lookWithBoth_2 : decode cX3_lookWithBoth 2 = .ok (.iload_n 1, 1) := by decide +kernel
theorem dX3_lookWithBoth_3 : decode cX3_lookWithBoth 3 = .ok (.invokevirtual 161, 3) := by decide +kernel
theorem dX3_lookWithBoth_6 : decode cX3_lookWithBoth 6 = .ok (.istore 4, 2) := by decide +kernel
theorem dX3_lookWithBoth_8 : decode cX3_lookWithBoth 8 = .ok (.iload 4, 2) := by decide +kernel
theorem dX3_lookWithBoth_10 : decode cX3_lookWithBoth 10 = .ok (.iconst 1, 1) := by decide +kernel
theorem dX3_lookWithBoth_11 : decode cX3_lookWithBoth 11 = .ok (.if_icmp .ne 12, 3) := by decide +kernel
theorem dX3_lookWithBoth_14 : decode cX3_lookWithBoth 14 = .ok (.aload_n 0, 1) := by decide +kernel
theorem dX3_lookWithBoth_15 : decode cX3_lookWithBoth 15 = .ok (.iload_n 3, 1) := by decide +kernel
theorem dX3_lookWithBoth_16 : decode cX3_lookWithBoth 16 = .ok (.iload_n 1, 1) := by decide +kernel
theorem dX3_lookWithBoth_17 : decode cX3_lookWithBoth 17 = .ok (.invokevirtual 161, 3) := by decide +kernel
theorem dX3_lookWithBoth_20 : decode cX3_lookWithBoth 20 = .ok (.goto 5, 3) := by decide +kernel
theorem dX3_lookWithBoth_23 : decode cX3_lookWithBoth 23 = .ok (.iload 4, 2) := by decide +kernel
theorem dX3_lookWithBoth_25 : decode cX3_lookWithBoth 25 = .ok (.ireturn, 1) := by decide +kernel
set_option maxRecDepth 20000 in
theorem ggX3_lookWithEither_X3_look : GoodIn wsX3_lookWithEither wsX3_look := goodIn_ca (goodIn_r _ [5, 6, 7, 8, 9, 10, 11, 12, 13, 14, 15, 16, 17, 18, 19, 20, 21, 22, 23, 24, 25, 26, 27, 28, 29, 30, 31, 32, 33, 34, 35, 4, 36, 37, 38, 39, 40, 41, 1, 2, 3, 42, 43, 44, 45, 46, 47, 48, 49, 50, 51, 52, 53, 54, 55, 56, 57, 58, 59, 60, 61, 62, 63, 64, 65, 66, 67, 68, 69, 70, 71, 72, 73, 74, 75, 76, 77, 78, 79, 80, 81, 82, 83, 84, 85, 86, 87, 88, 89, 90, 91, 92, 93, 94, 95, 96, 97, 98, 99, 100, 101, 102, 103, 104, 105, 106, 107, 108, 109, 110, 111, 112, 113, 114, 115, 116, 117, 118, 119, 120, 121, 122, 123, 124, 0, 125, 126, 127, 128, 129, 130, 131, 132, 133, 134, 135, 136, 137, 138, 139, 140, 141, 142, 143, 144] (by decide +kernel) (by decide +kernel)) (goodIn_sub (fun _ h => List.mem_cons_of_mem _ (List.mem_append_right _ h)) (by decide +kernel))
set_option maxRecDepth 20000 in
theorem gX3_lookWithEither_X3_look : GoodIn wsX3_lookWithEither (wsV RX3 161 RX3 yX3_look wsX3_look) := goodIn_app (goodIn_of _ (by decide +kernel)) ggX3_lookWithEither_X3_look
theorem dX3_lookWithEither_0 : decode cX3_lookWithEither 0 = .ok (.aload_n 0, 1) := by decide +kernel
theorem dX3_lookWithEither_1 : decode cX3_lookWithEither 1 = .ok (.iload_n 2, 1) := by decide +kernel
theorem dX3_lookWithEither_2 : decode cX3_lookWithEither 2 = .ok (.iload_n 1, 1) := by decide +kernel
theorem dX3_lookWithEither_3 : decode cX3_lookWithEither 3 = .ok (.invokevirtual 161, 3) := by decide +kernel
theorem dX3_lookWithEither_6 : decode cX3_lookWithEither 6 = .ok (.istore 4, 2) := by decide +kernel
theorem dX3_lookWithEither_8 : decode cX3_lookWithEither 8 = .ok (.iload 4, 2) := by decide +kernel
theorem dX3_lookWithEither_10 : decode cX3_lookWithEither 10 = .ok (.ifCond .ne 12, 3) := by decide +kernel
theorem dX3_lookWithEither_13 : decode cX3_lookWithEither 13 = .ok (.aload_n 0, 1) := by decide +kernel
theorem dX3_lookWithEither_14 : decode cX3_lookWithEither 14 = .ok (.iload_n 3, 1) := by decide +kernel
theorem dX3_lookWithEither_15 : decode cX3_lookWithEither 15 = .ok (.iload_n 1, 1) := by decide +kernel
theorem dX3_lookWithEither_16 : decode cX3_lookWithEither 16 = .ok (.invokevirtual 161, 3) := by decide +kernel
theorem dX3_lookWithEither_19 : decode cX3_lookWithEither 19 = .ok (.goto 5, 3) := by decide +kernel
theorem dX3_lookWithEither_22 : decode cX3_lookWithEither 22 = .ok (.iload 4, 2) := by decide +kernel
theorem dX3_lookWithEither_24 : decode cX3_lookWithEither 24 = .ok (.ireturn, 1) := by decide +kernel
set_option maxRecDepth 20000 in
theorem ggX3_keep_X3_isSlot : GoodIn wsX3_keep wsX3_isSlot := goodIn_r _ [5, 6, 7, 4, 8] (by decide +kernel) (by decide +kernel)
set_option maxRecDepth 20000 in
theorem gX3_keep_X3_isSlot : GoodIn wsX3_keep (va_wsS RX3 123 yX3_isSlot wsX3_isSlot) := goodIn_app (goodIn_of _ (by decide +kernel)) ggX3_keep_X3_isSlot
theorem dX3_keep_0 : decode cX3_keep 0 = .ok (.iload_n 2, 1) := by decide +kernel
theorem dX3_keep_1 : decode cX3_keep 1 = .ok (.invokestatic 123, 3) := by decide +kernel
theorem dX3_keep_4 : decode cX3_keep 4 = .ok (.ifCond .ne 5, 3) := by decide +kernel
theorem dX3_keep_7 : decode cX3_keep 7 = .ok (.iconst 0, 1) := by decide +kernel
theorem dX3_keep_8 : decode cX3_keep 8 = .ok (.ireturn, 1) := by decide +kernel
theorem dX3_keep_9 : decode cX3_keep 9 = .ok (.aload_n 0, 1) := by decide +kernel
theorem dX3_keep_10 : decode cX3_keep 10 = .ok (.getfield 30, 3) := by decide +kernel
theorem dX3_keep_13 : decode cX3_keep 13 = .ok (.iload_n 2, 1) := by decide +kernel
theorem dX3_keep_14 : decode cX3_keep 14 = .ok (.iload_n 1, 1) := by decide +kernel
theorem dX3_keep_15 : decode cX3_keep 15 = .ok (.iastore, 1) := by decide +kernel
theorem dX3_keep_16 : decode cX3_keep 16 = .ok (.iconst 1, 1) := by decide +kernel
theorem dX3_keep_17 : decode cX3_keep 17 = .ok (.ireturn, 1) := by decide +kernel
set_option maxRecDepth 20000 in
theorem ggX3_lookAtTold_X2_take : GoodIn wsX3_lookAtTold wsX2_take := goodIn_ca (goodIn_r _ [6, 7, 8, 9, 5, 10, 11, 12, 13, 14, 15, 16, 17, 18, 19, 36, 37, 38, 39, 40, 41, 42, 43] (by decide +kernel) (by decide +kernel)) (goodIn_sub (fun _ h => List.mem_cons_of_mem _ (List.mem_append_right _ h)) (by decide +kernel))
set_option maxRecDepth 20000 in
theorem gX3_lookAtTold_X2_take : GoodIn wsX3_lookAtTold (wsV RX3 216 RX2 yX2_take wsX2_take) := goodIn_app (goodIn_of _ (by decide +kernel)) ggX3_lookAtTold_X2_take
set_option maxRecDepth 20000 in
theorem ggX3_lookAtTold_X2_tellingOf : GoodIn wsX3_lookAtTold wsX2_tellingOf := goodIn_ca (goodIn_r _ [23, 11, 24, 12, 13, 14, 5, 15, 16, 36, 37, 38, 39, 40, 41, 42, 43] (by decide +kernel) (by decide +kernel)) (goodIn_sub (fun _ h => List.mem_cons_of_mem _ (List.mem_append_right _ h)) (by decide +kernel))
set_option maxRecDepth 20000 in
theorem gX3_lookAtTold_X2_tellingOf : GoodIn wsX3_lookAtTold (wsV RX3 219 RX2 yX2_tellingOf wsX2_tellingOf) := goodIn_app (goodIn_of _ (by decide +kernel)) ggX3_lookAtTold_X2_tellingOf
set_option maxRecDepth 20000 in
theorem ggX3_lookAtTold_X3_fitsIf : GoodIn wsX3_lookAtTold wsX3_fitsIf := goodIn_r _ [28] (by decide +kernel) (by decide +kernel)
set_option maxRecDepth 20000 in
theorem gX3_lookAtTold_X3_fitsIf : GoodIn wsX3_lookAtTold (va_wsS RX3 176 yX3_fitsIf wsX3_fitsIf) := goodIn_app (goodIn_of _ (by decide +kernel)) ggX3_lookAtTold_X3_fitsIf
theorem dX3_lookAtTold_0 : decode cX3_lookAtTold 0 = .ok (.aload_n 0, 1) := by decide +kernel
theorem dX3_lookAtTold_1 : decode cX3_lookAtTold 1 = .ok (.getfield 10, 3) := by decide +kernel
theorem dX3_lookAtTold_4 : decode cX3_lookAtTold 4 = .ok (.iload_n 1, 1) := by decide +kernel
theorem dX3_lookAtTold_5 : decode cX3_lookAtTold 5 = .ok (.bipush 14, 2) := by decide +kernel
theorem dX3_lookAtTold_7 : decode cX3_lookAtTold 7 = .ok (.invokevirtual 216, 3) := by decide +kernel
theorem dX3_lookAtTold_10 : decode cX3_lookAtTold 10 = .ok (.istore_n 3, 1) := by decide +kernel
theorem dX3_lookAtTold_11 : decode cX3_lookAtTold 11 = .ok (.iload_n 3, 1) := by decide +kernel
theorem dX3_lookAtTold_12 : decode cX3_lookAtTold 12 = .ok (.iconst 1, 1) := by decide +kernel
theorem dX3_lookAtTold_13 : decode cX3_lookAtTold 13 = .ok (.if_icmp .ne 26, 3) := by decide +kernel
theorem dX3_lookAtTold_16 : decode cX3_lookAtTold 16 = .ok (.aload_n 0, 1) := by decide +kernel
theorem dX3_lookAtTold_17 : decode cX3_lookAtTold 17 = .ok (.getfield 10, 3) := by decide +kernel
theorem dX3_lookAtTold_20 : decode cX3_lookAtTold 20 = .ok (.iload_n 1, 1) := by decide +kernel
theorem dX3_lookAtTold_21 : decode cX3_lookAtTold 21 = .ok (.invokevirtual 219, 3) := by decide +kernel
theorem dX3_lookAtTold_24 : decode cX3_lookAtTold 24 = .ok (.iload_n 2, 1) := by decide +kernel
theorem dX3_lookAtTold_25 : decode cX3_lookAtTold 25 = .ok (.if_icmp .ne 7, 3) := by decide +kernel
theorem dX3_lookAtTold_28 : decode cX3_lookAtTold 28 = .ok (.iconst 1, 1) := by decide +kernel
theorem dX3_lookAtTold_29 : decode cX3_lookAtTold 29 = .ok (.goto 4, 3) := by decide +kernel
theorem dX3_lookAtTold_32 : decode cX3_lookAtTold 32 = .ok (.iconst 0, 1) := by decide +kernel
theorem dX3_lookAtTold_33 : decode cX3_lookAtTold 33 = .ok (.invokestatic 176, 3) := by decide +kernel
theorem dX3_lookAtTold_36 : decode cX3_lookAtTold 36 = .ok (.goto 4, 3) := by decide +kernel
theorem dX3_lookAtTold_39 : decode cX3_lookAtTold 39 = .ok (.iload_n 3, 1) := by decide +kernel
theorem dX3_lookAtTold_40 : decode cX3_lookAtTold 40 = .ok (.ireturn, 1) := by decide +kernel
set_option maxRecDepth 20000 in
theorem ggX3_lookAtLength_X2_take : GoodIn wsX3_lookAtLength wsX2_take := goodIn_ca (goodIn_r _ [6, 7, 8, 9, 5, 10, 11, 12, 13, 14, 15, 16, 17, 18, 19, 36, 37, 38, 39, 40, 41, 42, 43] (by decide +kernel) (by decide +kernel)) (goodIn_sub (fun _ h => List.mem_cons_of_mem _ (List.mem_append_right _ h)) (by decide +kernel))
set_option maxRecDepth 20000 in
theorem gX3_lookAtLength_X2_take : GoodIn wsX3_lookAtLength (wsV RX3 216 RX2 yX2_take wsX2_take) := goodIn_app (goodIn_of _ (by decide +kernel)) ggX3_lookAtLength_X2_take
set_option maxRecDepth 20000 in
theorem ggX3_lookAtLength_X2_placesOf : GoodIn wsX3_lookAtLength wsX2_placesOf := goodIn_ca (goodIn_r _ [23, 24, 12, 13, 14, 5, 15, 16, 36, 37, 38, 39, 40, 41, 42, 43] (by decide +kernel) (by decide +kernel)) (goodIn_sub (fun _ h => List.mem_cons_of_mem _ (List.mem_append_right _ h)) (by decide +kernel))
set_option maxRecDepth 20000 in
theorem gX3_lookAtLength_X2_placesOf : GoodIn wsX3_lookAtLength (wsV RX3 213 RX2 yX2_placesOf wsX2_placesOf) := goodIn_app (goodIn_of _ (by decide +kernel)) ggX3_lookAtLength_X2_placesOf
set_option maxRecDepth 20000 in
theorem ggX3_lookAtLength_X3_fitsIf : GoodIn wsX3_lookAtLength wsX3_fitsIf := goodIn_r _ [28] (by decide +kernel) (by decide +kernel)
set_option maxRecDepth 20000 in
theorem gX3_lookAtLength_X3_fitsIf : GoodIn wsX3_lookAtLength (va_wsS RX3 176 yX3_fitsIf wsX3_fitsIf) := goodIn_app (goodIn_of _ (by decide +kernel)) ggX3_lookAtLength_X3_fitsIf
theorem dX3_lookAtLength_0 : decode cX3_lookAtLength 0 = .ok (.aload_n 0, 1) := by decide +kernel
theorem dX3_lookAtLength_1 : decode cX3_lookAtLength 1 = .ok (.getfield 10, 3) := by decide +kernel
theorem dX3_lookAtLength_4 : decode cX3_lookAtLength 4 = .ok (.iload_n 1, 1) := by decide +kernel
theorem dX3_lookAtLength_5 : decode cX3_lookAtLength 5 = .ok (.iload_n 2, 1) := by decide +kernel
theorem dX3_lookAtLength_6 : decode cX3_lookAtLength 6 = .ok (.invokevirtual 216, 3) := by decide +kernel
theorem dX3_lookAtLength_9 : decode cX3_lookAtLength 9 = .ok (.istore 4, 2) := by decide +kernel
theorem dX3_lookAtLength_11 : decode cX3_lookAtLength 11 = .ok (.iload 4, 2) := by decide +kernel
theorem dX3_lookAtLength_13 : decode cX3_lookAtLength 13 = .ok (.iconst 1, 1) := by decide +kernel
theorem dX3_lookAtLength_14 : decode cX3_lookAtLength 14 = .ok (.if_icmp .ne 26, 3) := by decide +kernel
theorem dX3_lookAtLength_17 : decode cX3_lookAtLength 17 = .ok (.aload_n 0, 1) := by decide +kernel
theorem dX3_lookAtLength_18 : decode cX3_lookAtLength 18 = .ok (.getfield 10, 3) := by decide +kernel
theorem dX3_lookAtLength_21 : decode cX3_lookAtLength 21 = .ok (.iload_n 1, 1) := by decide +kernel
theorem dX3_lookAtLength_22 : decode cX3_lookAtLength 22 = .ok (.invokevirtual 213, 3) := by decide +kernel
theorem dX3_lookAtLength_25 : decode cX3_lookAtLength 25 = .ok (.iload_n 3, 1) := by decide +kernel
theorem dX3_lookAtLength_26 : decode cX3_lookAtLength 26 = .ok (.if_icmp .ne 7, 3) := by decide +kernel
theorem dX3_lookAtLength_29 : decode cX3_lookAtLength 29 = .ok (.iconst 1, 1) := by decide +kernel
theorem dX3_lookAtLength_30 : decode cX3_lookAtLength 30 = .ok (.goto 4, 3) := by decide +kernel
theorem dX3_lookAtLength_33 : decode cX3_lookAtLength 33 = .ok (.iconst 0, 1) := by decide +kernel
theorem dX3_lookAtLength_34 : decode cX3_lookAtLength 34 = .ok (.invokestatic 176, 3) := by decide +kernel
theorem dX3_lookAtLength_37 : decode cX3_lookAtLength 37 = .ok (.goto 5, 3) := by decide +kernel
theorem dX3_lookAtLength_40 : decode cX3_lookAtLength 40 = .ok (.iload 4, 2) := by decide +kernel
theorem dX3_lookAtLength_42 : decode cX3_lookAtLength 42 = .ok (.ireturn, 1) := by decide +kernel
set_option maxRecDepth 20000 in
theorem ggX3_doAct_X2_layIn : GoodIn wsX3_doAct wsX2_layIn := goodIn_ca (goodIn_r _ [7, 8, 9, 10, 11, 12, 6, 13, 14, 15, 16, 17, 18, 19, 20, 21, 22, 23, 24, 25, 26, 27, 28, 29, 30, 31, 32, 33, 34, 35, 36, 37, 38, 39, 40, 41, 42, 43, 44, 45, 46, 47, 77, 78, 79, 80, 81, 82, 83, 84] (by decide +kernel) (by decide +kernel)) (goodIn_sub (fun _ h => List.mem_cons_of_mem _ (List.mem_append_right _ h)) (by decide +kernel))
set_option maxRecDepth 20000 in
theorem gX3_doAct_X2_layIn : GoodIn wsX3_doAct (wsV RX3 69 RX2 yX2_layIn wsX2_layIn) := goodIn_app (goodIn_of _ (by decide +kernel)) ggX3_doAct_X2_layIn
set_option maxRecDepth 20000 in
theorem ggX3_doAct_X2_setHalf : GoodIn wsX3_doAct wsX2_setHalf := goodIn_ca (goodIn_r _ [51, 52, 53, 39, 40, 41, 6, 42, 14, 15, 16, 17, 8, 18, 19, 20, 21, 22, 23, 24, 25, 77, 78, 79, 80, 81, 82, 83, 84] (by decide +kernel) (by decide +kernel)) (goodIn_sub (fun _ h => List.mem_cons_of_mem _ (List.mem_append_right _ h)) (by decide +kernel))
set_option maxRecDepth 20000 in
theorem gX3_doAct_X2_setHalf : GoodIn wsX3_doAct (wsV RX3 76 RX2 yX2_setHalf wsX2_setHalf) := goodIn_app (goodIn_of _ (by decide +kernel)) ggX3_doAct_X2_setHalf
set_option maxRecDepth 20000 in
theorem ggX3_doAct_X3_turnSlots : GoodIn wsX3_doAct wsX3_turnSlots := goodIn_ca (goodIn_r _ [57, 2, 70, 71, 72, 73, 74, 75, 76] (by decide +kernel) (by decide +kernel)) (goodIn_sub (fun _ h => List.mem_cons_of_mem _ (List.mem_append_right _ h)) (by decide +kernel))
set_option maxRecDepth 20000 in
theorem gX3_doAct_X3_turnSlots : GoodIn wsX3_doAct (wsV RX3 222 RX3 yX3_turnSlots wsX3_turnSlots) := goodIn_app (goodIn_of _ (by decide +kernel)) ggX3_doAct_X3_turnSlots
set_option maxRecDepth 20000 in
theorem ggX3_doAct_X2_numberIn : GoodIn wsX3_doAct wsX2_numberIn := goodIn_ca (goodIn_r _ [61, 62, 43, 44, 45, 6, 46, 47, 18, 19, 20, 21, 22, 77, 78, 79, 80, 81, 82, 83, 84] (by decide +kernel) (by decide +kernel)) (goodIn_sub (fun _ h => List.mem_cons_of_mem _ (List.mem_append_right _ h)) (by decide +kernel))
set_option maxRecDepth 20000 in
theorem gX3_doAct_X2_numberIn : GoodIn wsX3_doAct (wsV RX3 95 RX2 yX2_numberIn wsX2_numberIn) := goodIn_app (goodIn_of _ (by decide +kernel)) ggX3_doAct_X2_numberIn
set_option maxRecDepth 20000 in
theorem ggX3_doAct_X2_putNumber : GoodIn wsX3_doAct wsX2_putNumber := goodIn_ca (goodIn_r _ [66, 62, 35, 36, 37, 6, 38, 39, 40, 41, 42, 14, 15, 16, 17, 8, 18, 19, 20, 21, 22, 23, 24, 25, 43, 44, 45, 46, 47, 67, 68, 69, 77, 78, 79, 80, 81, 82, 83, 84] (by decide +kernel) (by decide +kernel)) (goodIn_sub (fun _ h => List.mem_cons_of_mem _ (List.mem_append_right _ h)) (by decide +kernel))
set_option maxRecDepth 20000 in
theorem gX3_doAct_X2_putNumber : GoodIn wsX3_doAct (wsV RX3 82 RX2 yX2_putNumber wsX2_putNumber) := goodIn_app (goodIn_of _ (by decide +kernel)) ggX3_doAct_X2_putNumber
theorem dX3_doAct_0 : decode cX3_doAct 0 = .ok (.iload_n 1, 1) := by decide +kernel
theorem dX3_doAct_1 : decode cX3_doAct 1 = .ok (.tableswitch 136 1 5 #[35, 57, 78, 99, 104], 35) := by decide +kernel
theorem dX3_doAct_36 : decode cX3_doAct 36 = .ok (.aload_n 0, 1) := by decide +kernel
theorem dX3_doAct_37 : decode cX3_doAct 37 = .ok (.getfield 10, 3) := by decide +kernel
theorem dX3_doAct_40 : decode cX3_doAct 40 = .ok (.aload_n 0, 1) := by decide +kernel
theorem dX3_doAct_41 : decode cX3_doAct 41 = .ok (.getfield 30, 3) := by decide +kernel
theorem dX3_doAct_44 : decode cX3_doAct 44 = .ok (.iconst 0, 1) := by decide +kernel
theorem dX3_doAct_45 : decode cX3_doAct 45 = .ok (.iaload, 1) := by decide +kernel
theorem dX3_doAct_46 : decode cX3_doAct 46 = .ok (.iload_n 2, 1) := by decide +kernel
theorem dX3_doAct_47 : decode cX3_doAct 47 = .ok (.iload_n 3, 1) := by decide +kernel
theorem dX3_doAct_48 : decode cX3_doAct 48 = .ok (.aload_n 0, 1) := by decide +kernel
theorem dX3_doAct_49 : decode cX3_doAct 49 = .ok (.getfield 30, 3) := by decide +kernel
theorem dX3_doAct_52 : decode cX3_doAct 52 = .ok (.iconst 1, 1) := by decide +kernel
theorem dX3_doAct_53 : decode cX3_doAct 53 = .ok (.iaload, 1) := by decide +kernel
theorem dX3_doAct_54 : decode cX3_doAct 54 = .ok (.invokevirtual 69, 3) := by decide +kernel
theorem dX3_doAct_57 : decode cX3_doAct 57 = .ok (.ireturn, 1) := by decide +kernel
theorem dX3_doAct_58 : decode cX3_doAct 58 = .ok (.aload_n 0, 1) := by decide +kernel
theorem dX3_doAct_59 : decode cX3_doAct 59 = .ok (.getfield 10, 3) := by decide +kernel
theorem dX3_doAct_62 : decode cX3_doAct 62 = .ok (.aload_n 0, 1) := by decide +kernel
theorem dX3_doAct_63 : decode cX3_doAct 63 = .ok (.getfield 30, 3) := by decide +kernel
theorem dX3_doAct_66 : decode cX3_doAct 66 = .ok (.iconst 0, 1) := by decide +kernel
theorem dX3_doAct_67 : decode cX3_doAct 67 = .ok (.iaload, 1) := by decide +kernel
theorem dX3_doAct_68 : decode cX3_doAct 68 = .ok (.iconst 0, 1) := by decide +kernel
theorem dX3_doAct_69 : decode cX3_doAct 69 = .ok (.aload_n 0, 1) := by decide +kernel
theorem dX3_doAct_70 : decode cX3_doAct 70 = .ok (.getfield 30, 3) := by decide +kernel
theorem dX3_doAct_73 : decode cX3_doAct 73 = .ok (.iconst 1, 1) := by decide +kernel
theorem dX3_doAct_74 : decode cX3_doAct 74 = .ok (.iaload, 1) := by decide +kernel
theorem dX3_doAct_75 : decode cX3_doAct 75 = .ok (.invokevirtual 76, 3) := by decide +kernel
theorem dX3_doAct_78 : decode cX3_doAct 78 = .ok (.ireturn, 1) := by decide +kernel
theorem dX3_doAct_79 : decode cX3_doAct 79 = .ok (.aload_n 0, 1) := by decide +kernel
theorem dX3_doAct_80 : decode cX3_doAct 80 = .ok (.getfield 10, 3) := by decide +kernel
theorem dX3_doAct_83 : decode cX3_doAct 83 = .ok (.aload_n 0, 1) := by decide +kernel
theorem dX3_doAct_84 : decode cX3_doAct 84 = .ok (.getfield 30, 3) := by decide +kernel
theorem dX3_doAct_87 : decode cX3_doAct 87 = .ok (.iconst 0, 1) := by decide +kernel
theorem dX3_doAct_88 : decode cX3_doAct 88 = .ok (.iaload, 1) := by decide +kernel
theorem dX3_doAct_89 : decode cX3_doAct 89 = .ok (.iconst 1, 1) := by decide +kernel
theorem dX3_doAct_90 : decode cX3_doAct 90 = .ok (.aload_n 0, 1) := by decide +kernel
theorem dX3_doAct_91 : decode cX3_doAct 91 = .ok (.getfield 30, 3) := by decide +kernel
theorem dX3_doAct_94 : decode cX3_doAct 94 = .ok (.iconst 1, 1) := by decide +kernel
theorem dX3_doAct_95 : decode cX3_doAct 95 = .ok (.iaload, 1) := by decide +kernel
theorem dX3_doAct_96 : decode cX3_doAct 96 = .ok (.invokevirtual 76, 3) := by decide +kernel
theorem dX3_doAct_99 : decode cX3_doAct 99 = .ok (.ireturn, 1) := by decide +kernel
theorem dX3_doAct_100 : decode cX3_doAct 100 = .ok (.aload_n 0, 1) := by decide +kernel
theorem dX3_doAct_101 : decode cX3_doAct 101 = .ok (.invokevirtual 222, 3) := by decide +kernel
theorem dX3_doAct_104 : decode cX3_doAct 104 = .ok (.ireturn, 1) := by decide +kernel
theorem dX3_doAct_105 : decode cX3_doAct 105 = .ok (.aload_n 0, 1) := by decide +kernel
theorem dX3_doAct_106 : decode cX3_doAct 106 = .ok (.getfield 10, 3) := by decide +kernel
theorem dX3_doAct_109 : decode cX3_doAct 109 = .ok (.aload_n 0, 1) := by decide +kernel
theorem dX3_doAct_110 : decode cX3_doAct 110 = .ok (.getfield 30, 3) := by decide +kernel
theorem dX3_doAct_113 : decode cX3_doAct 113 = .ok (.iconst 0, 1) := by decide +kernel
theorem dX3_doAct_114 : decode cX3_doAct 114 = .ok (.iaload, 1) := by decide +kernel
theorem dX3_doAct_115 : decode cX3_doAct 115 = .ok (.iconst 4, 1) := by decide +kernel
theorem dX3_doAct_116 : decode cX3_doAct 116 = .ok (.iload_n 3, 1) := by decide +kernel
theorem dX3_doAct_117 : decode cX3_doAct 117 = .ok (.aload_n 0, 1) := by decide +kernel
theorem dX3_doAct_118 : decode cX3_doAct 118 = .ok (.getfield 10, 3) := by decide +kernel
theorem dX3_doAct_121 : decode cX3_doAct 121 = .ok (.aload_n 0, 1) := by decide +kernel
theorem dX3_doAct_122 : decode cX3_doAct 122 = .ok (.getfield 30, 3) := by decide +kernel
theorem dX3_doAct_125 : decode cX3_doAct 125 = .ok (.iconst 0, 1) := by decide +kernel
theorem dX3_doAct_126 : decode cX3_doAct 126 = .ok (.iaload, 1) := by decide +kernel
theorem dX3_doAct_127 : decode cX3_doAct 127 = .ok (.iload_n 3, 1) := by decide +kernel
theorem dX3_doAct_128 : decode cX3_doAct 128 = .ok (.invokevirtual 95, 3) := by decide +kernel
theorem dX3_doAct_131 : decode cX3_doAct 131 = .ok (.lconst 1, 1) := by decide +kernel
theorem dX3_doAct_132 : decode cX3_doAct 132 = .ok (.ladd, 1) := by decide +kernel
theorem dX3_doAct_133 : decode cX3_doAct 133 = .ok (.invokevirtual 82, 3) := by decide +kernel
theorem dX3_doAct_136 : decode cX3_doAct 136 = .ok (.ireturn, 1) := by decide +kernel
theorem dX3_doAct_137 : decode cX3_doAct 137 = .ok (.iconst 1, 1) := by decide +kernel
theorem dX3_doAct_138 : decode cX3_doAct 138 = .ok (.ireturn, 1) := by decide +kernel
theorem dX3_turnSlots_0 : decode cX3_turnSlots 0 = .ok (.aload_n 0, 1) := by decide +kernel
theorem dX3_turnSlots_1 : decode cX3_turnSlots 1 = .ok (.getfield 30, 3) := by decide +kernel
theorem dX3_turnSlots_4 : decode cX3_turnSlots 4 = .ok (.iconst 0, 1) := by decide +kernel
theorem dX3_turnSlots_5 : decode cX3_turnSlots 5 = .ok (.iaload, 1) := by decide +kernel
theorem dX3_turnSlots_6 : decode cX3_turnSlots 6 = .ok (.istore_n 1, 1) := by decide +kernel
theorem dX3_turnSlots_7 : decode cX3_turnSlots 7 = .ok (.aload_n 0, 1) := by decide +kernel
theorem dX3_turnSlots_8 : decode cX3_turnSlots 8 = .ok (.getfield 30, 3) := by decide +kernel
theorem dX3_turnSlots_11 : decode cX3_turnSlots 11 = .ok (.iconst 0, 1) := by decide +kernel
theorem dX3_turnSlots_12 : decode cX3_turnSlots 12 = .ok (.aload_n 0, 1) := by decide +kernel
theorem dX3_turnSlots_13 : decode cX3_turnSlots 13 = .ok (.getfield 30, 3) := by decide +kernel
theorem dX3_turnSlots_16 : decode cX3_turnSlots 16 = .ok (.iconst 1, 1) := by decide +kernel
theorem dX3_turnSlots_17 : decode cX3_turnSlots 17 = .ok (.iaload, 1) := by decide +kernel
theorem dX3_turnSlots_18 : decode cX3_turnSlots 18 = .ok (.iastore, 1) := by decide +kernel
theorem dX3_turnSlots_19 : decode cX3_turnSlots 19 = .ok (.aload_n 0, 1) := by decide +kernel
theorem dX3_turnSlots_20 : decode cX3_turnSlots 20 = .ok (.getfield 30, 3) := by decide +kernel
theorem dX3_turnSlots_23 : decode cX3_turnSlots 23 = .ok (.iconst 1, 1) := by decide +kernel
theorem dX3_turnSlots_24 : decode cX3_turnSlots 24 = .ok (.iload_n 1, 1) := by decide +kernel
theorem dX3_turnSlots_25 : decode cX3_turnSlots 25 = .ok (.iastore, 1) := by decide +kernel
theorem dX3_turnSlots_26 : decode cX3_turnSlots 26 = .ok (.iconst 1, 1) := by decide +kernel
theorem dX3_turnSlots_27 : decode cX3_turnSlots 27 = .ok (.ireturn, 1) := by decide +kernel
theorem dX4_init_0 : decode cX4_init 0 = .ok (.aload_n 0, 1) := by decide +kernel
theorem dX4_init_1 : decode cX4_init 1 = .ok (.invokespecial 1, 3) := by decide +kernel
theorem dX4_init_4 : decode cX4_init 4 = .ok (.aload_n 0, 1) := by decide +kernel
theorem dX4_init_5 : decode cX4_init 5 = .ok (.bipush 80, 2) := by decide +kernel
theorem dX4_init_7 : decode cX4_init 7 = .ok (.newarray .int, 2) := by decide +kernel
theorem dX4_init_9 : decode cX4_init 9 = .ok (.putfield 7, 3) := by decide +kernel
theorem dX4_init_12 : decode cX4_init 12 = .ok (.aload_n 0, 1) := by decide +kernel
theorem dX4_init_13 : decode cX4_init 13 = .ok (.bipush 80, 2) := by decide +kernel
theorem dX4_init_15 : decode cX4_init 15 = .ok (.newarray .int, 2) := by decide +kernel
theorem dX4_init_17 : decode cX4_init 17 = .ok (.putfield 13, 3) := by decide +kernel
theorem dX4_init_20 : decode cX4_init 20 = .ok (.aload_n 0, 1) := by decide +kernel
theorem dX4_init_21 : decode cX4_init 21 = .ok (.bipush 80, 2) := by decide +kernel
theorem dX4_init_23 : decode cX4_init 23 = .ok (.newarray .int, 2) := by decide +kernel
theorem dX4_init_25 : decode cX4_init 25 = .ok (.putfield 16, 3) := by decide +kernel
theorem dX4_init_28 : decode cX4_init 28 = .ok (.aload_n 0, 1) := by decide +kernel
theorem dX4_init_29 : decode cX4_init 29 = .ok (.sipush 480, 3) := by decide +kernel
theorem dX4_init_32 : decode cX4_init 32 = .ok (.newarray .long, 2) := by decide +kernel
theorem dX4_init_34 : decode cX4_init 34 = .ok (.putfield 19, 3) := by decide +kernel
theorem dX4_init_37 : decode cX4_init 37 = .ok (.aload_n 0, 1) := by decide +kernel
theorem dX4_init_38 : decode cX4_init 38 = .ok (.sipush 480, 3) := by decide +kernel
theorem dX4_init_41 : decode cX4_init 41 = .ok (.newarray .int, 2) := by decide +kernel
theorem dX4_init_43 : decode cX4_init 43 = .ok (.putfield 23, 3) := by decide +kernel
theorem dX4_init_46 : decode cX4_init 46 = .ok (.aload_n 0, 1) := by decide +kernel
theorem dX4_init_47 : decode cX4_init 47 = .ok (.bipush 40, 2) := by decide +kernel
theorem dX4_init_49 : decode cX4_init 49 = .ok (.newarray .int, 2) := by decide +kernel
theorem dX4_init_51 : decode cX4_init 51 = .ok (.putfield 26, 3) := by decide +kernel
theorem dX4_init_54 : decode cX4_init 54 = .ok (.aload_n 0, 1) := by decide +kernel
theorem dX4_init_55 : decode cX4_init 55 = .ok (.bipush 40, 2) := by decide +kernel
theorem dX4_init_57 : decode cX4_init 57 = .ok (.newarray .int, 2) := by decide +kernel
theorem dX4_init_59 : decode cX4_init 59 = .ok (.putfield 29, 3) := by decide +kernel
theorem dX4_init_62 : decode cX4_init 62 = .ok (.aload_n 0, 1) := by decide +kernel
theorem dX4_init_63 : decode cX4_init 63 = .ok (.bipush 40, 2) := by decide +kernel
theorem dX4_init_65 : decode cX4_init 65 = .ok (.newarray .int, 2) := by decide +kernel
theorem dX4_init_67 : decode cX4_init 67 = .ok (.putfield 32, 3) := by decide +kernel
theorem dX4_init_70 : decode cX4_init 70 = .ok (.aload_n 0, 1) := by decide +kernel
theorem dX4_init_71 : decode cX4_init 71 = .ok (.bipush 40, 2) := by decide +kernel
theorem dX4_init_73 : decode cX4_init 73 = .ok (.newarray .int, 2) := by decide +kernel
theorem dX4_init_75 : decode cX4_init 75 = .ok (.putfield 35, 3) := by decide +kernel
theorem dX4_init_78 : decode cX4_init 78 = .ok (.aload_n 0, 1) := by decide +kernel
theorem dX4_init_79 : decode cX4_init 79 = .ok (.bipush 16, 2) := by decide +kernel
theorem dX4_init_81 : decode cX4_init 81 = .ok (.newarray .int, 2) := by decide +kernel
theorem dX4_init_83 : decode cX4_init 83 = .ok (.putfield 38, 3) := by decide +kernel
theorem dX4_init_86 : decode cX4_init 86 = .ok (.aload_n 0, 1) := by decide +kernel
theorem dX4_init_87 : decode cX4_init 87 = .ok (.bipush 16, 2) := by decide +kernel
theorem dX4_init_89 : decode cX4_init 89 = .ok (.newarray .int, 2) := by decide +kernel
theorem dX4_init_91 : decode cX4_init 91 = .ok (.putfield 41, 3) := by decide +kernel
theorem dX4_init_94 : decode cX4_init 94 = .ok (.aload_n 0, 1) := by decide +kernel
theorem dX4_init_95 : decode cX4_init 95 = .ok (.bipush 16, 2) := by decide +kernel
theorem dX4_init_97 : decode cX4_init 97 = .ok (.newarray .int, 2) := by decide +kernel
theorem dX4_init_99 : decode cX4_init 99 = .ok (.putfield 44, 3) := by decide +kernel
theorem dX4_init_102 : decode cX4_init 102 = .ok (.aload_n 0, 1) := by decide +kernel
theorem dX4_init_103 : decode cX4_init 103 = .ok (.bipush 16, 2) := by decide +kernel
theorem dX4_init_105 : decode cX4_init 105 = .ok (.newarray .int, 2) := by decide +kernel
theorem dX4_init_107 : decode cX4_init 107 = .ok (.putfield 47, 3) := by decide +kernel
theorem dX4_init_110 : decode cX4_init 110 = .ok (.aload_n 0, 1) := by decide +kernel
theorem dX4_init_111 : decode cX4_init 111 = .ok (.bipush 16, 2) := by decide +kernel
theorem dX4_init_113 : decode cX4_init 113 = .ok (.newarray .int, 2) := by decide +kernel
theorem dX4_init_115 : decode cX4_init 115 = .ok (.putfield 50, 3) := by decide +kernel
theorem dX4_init_118 : decode cX4_init 118 = .ok (.aload_n 0, 1) := by decide +kernel
theorem dX4_init_119 : decode cX4_init 119 = .ok (.bipush 16, 2) := by decide +kernel
theorem dX4_init_121 : decode cX4_init 121 = .ok (.newarray .int, 2) := by decide +kernel
theorem dX4_init_123 : decode cX4_init 123 = .ok (.putfield 53, 3) := by decide +kernel
theorem dX4_init_126 : decode cX4_init 126 = .ok (.aload_n 0, 1) := by decide +kernel
theorem dX4_init_127 : decode cX4_init 127 = .ok (.iconst 4, 1) := by decide +kernel
theorem dX4_init_128 : decode cX4_init 128 = .ok (.newarray .int, 2) := by decide +kernel
theorem dX4_init_130 : decode cX4_init 130 = .ok (.dup, 1) := by decide +kernel
theorem dX4_init_131 : decode cX4_init 131 = .ok (.iconst 0, 1) := by decide +kernel
theorem dX4_init_132 : decode cX4_init 132 = .ok (.bipush (-5), 2) := by decide +kernel
theorem dX4_init_134 : decode cX4_init 134 = .ok (.iastore, 1) := by decide +kernel
theorem dX4_init_135 : decode cX4_init 135 = .ok (.dup, 1) := by decide +kernel
theorem dX4_init_136 : decode cX4_init 136 = .ok (.iconst 1, 1) := by decide +kernel
theorem dX4_init_137 : decode cX4_init 137 = .ok (.bipush (-5), 2) := by decide +kernel
theorem dX4_init_139 : decode cX4_init 139 = .ok (.iastore, 1) := by decide +kernel
theorem dX4_init_140 : decode cX4_init 140 = .ok (.dup, 1) := by decide +kernel
theorem dX4_init_141 : decode cX4_init 141 = .ok (.iconst 2, 1) := by decide +kernel
theorem dX4_init_142 : decode cX4_init 142 = .ok (.bipush (-5), 2) := by decide +kernel
theorem dX4_init_144 : decode cX4_init 144 = .ok (.iastore, 1) := by decide +kernel
theorem dX4_init_145 : decode cX4_init 145 = .ok (.dup, 1) := by decide +kernel
theorem dX4_init_146 : decode cX4_init 146 = .ok (.iconst 3, 1) := by decide +kernel
theorem dX4_init_147 : decode cX4_init 147 = .ok (.bipush (-5), 2) := by decide +kernel
theorem dX4_init_149 : decode cX4_init 149 = .ok (.iastore, 1) := by decide +kernel
theorem dX4_init_150 : decode cX4_init 150 = .ok (.putfield 56, 3) := by decide +kernel
theorem dX4_init_153 : decode cX4_init 153 = .ok (.aload_n 0, 1) := by decide +kernel
theorem dX4_init_154 : decode cX4_init 154 = .ok (.iconst 4, 1) := by decide +kernel
theorem dX4_init_155 : decode cX4_init 155 = .ok (.newarray .int, 2) := by decide +kernel
theorem dX4_init_157 : decode cX4_init 157 = .ok (.putfield 59, 3) := by decide +kernel
theorem dX4_init_160 : decode cX4_init 160 = .ok (.aload_n 0, 1) := by decide +kernel
theorem dX4_init_161 : decode cX4_init 161 = .ok (.bipush 7, 2) := by decide +kernel
theorem dX4_init_163 : decode cX4_init 163 = .ok (.newarray .int, 2) := by decide +kernel
theorem dX4_init_165 : decode cX4_init 165 = .ok (.putfield 62, 3) := by decide +kernel
theorem dX4_init_168 : decode cX4_init 168 = .ok (.aload_n 0, 1) := by decide +kernel
theorem dX4_init_169 : decode cX4_init 169 = .ok (.bipush 64, 2) := by decide +kernel
theorem dX4_init_171 : decode cX4_init 171 = .ok (.newarray .int, 2) := by decide +kernel
theorem dX4_init_173 : decode cX4_init 173 = .ok (.putfield 65, 3) := by decide +kernel
theorem dX4_init_176 : decode cX4_init 176 = .ok (.aload_n 0, 1) := by decide +kernel
theorem dX4_init_177 : decode cX4_init 177 = .ok (.bipush 64, 2) := by decide +kernel
theorem dX4_init_179 : decode cX4_init 179 = .ok (.newarray .int, 2) := by decide +kernel
theorem dX4_init_181 : decode cX4_init 181 = .ok (.putfield 68, 3) := by decide +kernel
theorem dX4_init_184 : decode cX4_init 184 = .ok (.aload_n 0, 1) := by decide +kernel
theorem dX4_init_185 : decode cX4_init 185 = .ok (.bipush 64, 2) := by decide +kernel
theorem dX4_init_187 : decode cX4_init 187 = .ok (.newarray .int, 2) := by decide +kernel
theorem dX4_init_189 : decode cX4_init 189 = .ok (.putfield 71, 3) := by decide +kernel
theorem dX4_init_192 : decode cX4_init 192 = .ok (.return_, 1) := by decide +kernel
theorem dX4_thrown_0 : decode cX4_thrown 0 = .ok (.aload_n 0, 1) := by decide +kernel
theorem dX4_thrown_1 : decode cX4_thrown 1 = .ok (.getfield 74, 3) := by decide +kernel
theorem dX4_thrown_4 : decode cX4_thrown 4 = .ok (.ireturn, 1) := by decide +kernel
theorem dX4_in_0 : decode cX4_in 0 = .ok (.iload_n 0, 1) := by decide +kernel
theorem dX4_in_1 : decode cX4_in 1 = .ok (.iload_n 1, 1) := by decide +kernel
theorem dX4_in_2 : decode cX4_in 2 = .ok (.if_icmp .lt 12, 3) := by decide +kernel
theorem dX4_in_5 : decode cX4_in 5 = .ok (.iload_n 0, 1) := by decide +kernel
theorem dX4_in_6 : decode cX4_in 6 = .ok (.iload_n 2, 1) := by decide +kernel
theorem dX4_in_7 : decode cX4_in 7 = .ok (.if_icmp .gt 7, 3) := by decide +kernel
theorem dX4_in_10 : decode cX4_in 10 = .ok (.iconst 1, 1) := by decide +kernel
theorem dX4_in_11 : decode cX4_in 11 = .ok (.goto 4, 3) := by decide +kernel
theorem dX4_in_14 : decode cX4_in 14 = .ok (.iconst 0, 1) := by decide +kernel
theorem dX4_in_15 : decode cX4_in 15 = .ok (.ireturn, 1) := by decide +kernel
set_option maxRecDepth 20000 in
theorem ggX4_isThing_X4_in : GoodIn wsX4_isThing wsX4_in := goodIn_r _ [5] (by decide +kernel) (by decide +kernel)
set_option maxRecDepth 20000 in
theorem gX4_isThing_X4_in : GoodIn wsX4_isThing (va_wsS RX4 81 yX4_in wsX4_in) := goodIn_app (goodIn_of _ (by decide +kernel)) ggX4_isThing_X4_in
theorem dX4_isThing_0 : decode cX4_isThing 0 = .ok (.iload_n 1, 1) := by decide +kernel
theorem dX4_isThing_1 : decode cX4_isThing 1 = .ok (.iconst 0, 1) := by decide +kernel
theorem dX4_isThing_2 : decode cX4_isThing 2 = .ok (.aload_n 0, 1) := by decide +kernel
theorem dX4_isThing_3 : decode cX4_isThing 3 = .ok (.getfield 78, 3) := by decide +kernel
theorem dX4_isThing_6 : decode cX4_isThing 6 = .ok (.iconst 1, 1) := by decide +kernel
theorem dX4_isThing_7 : decode cX4_isThing 7 = .ok (.isub, 1) := by decide +kernel
theorem dX4_isThing_8 : decode cX4_isThing 8 = .ok (.invokestatic 81, 3) := by decide +kernel
theorem dX4_isThing_11 : decode cX4_isThing 11 = .ok (.ireturn, 1) := by decide +kernel
set_option maxRecDepth 20000 in
theorem ggX4_isThingOrNone_X4_isThing : GoodIn wsX4_isThingOrNone wsX4_isThing := goodIn_r _ [5, 6, 7, 8, 4, 9, 10, 11, 12, 13, 14, 15, 16, 17, 18, 19, 20, 21, 22, 23, 24, 25, 26, 27, 28, 29, 30, 31, 32, 33, 34, 35, 36, 37, 38] (by decide +kernel) (by decide +kernel)
set_option maxRecDepth 20000 in
theorem gX4_isThingOrNone_X4_isThing : GoodIn wsX4_isThingOrNone (wsV RX4 85 RX4 yX4_isThing wsX4_isThing) := goodIn_app (goodIn_of _ (by decide +kernel)) ggX4_isThingOrNone_X4_isThing
theorem dX4_isThingOrNone_0 : decode cX4_isThingOrNone 0 = .ok (.iload_n 1, 1) := by decide +kernel
theorem dX4_isThingOrNone_1 : decode cX4_isThingOrNone 1 = .ok (.bipush (-5), 2) := by decide +kernel
theorem dX4_isThingOrNone_3 : decode cX4_isThingOrNone 3 = .ok (.if_icmp .eq 11, 3) := by decide +kernel
theorem dX4_isThingOrNone_6 : decode cX4_isThingOrNone 6 = .ok (.aload_n 0, 1) := by decide +kernel
theorem dX4_isThingOrNone_7 : decode cX4_isThingOrNone 7 = .ok (.iload_n 1, 1) := by decide +kernel
theorem dX4_isThingOrNone_8 : decode cX4_isThingOrNone 8 = .ok (.invokevirtual 85, 3) := by decide +kernel
theorem dX4_isThingOrNone_11 : decode cX4_isThingOrNone 11 = .ok (.ifCond .eq 7, 3) := by decide +kernel
theorem dX4_isThingOrNone_14 : decode cX4_isThingOrNone 14 = .ok (.iconst 1, 1) := by decide +kernel
theorem dX4_isThingOrNone_15 : decode cX4_isThingOrNone 15 = .ok (.goto 4, 3) := by decide +kernel
theorem dX4_isThingOrNone_18 : decode cX4_isThingOrNone 18 = .ok (.iconst 0, 1) := by decide +kernel
theorem dX4_isThingOrNone_19 : decode cX4_isThingOrNone 19 = .ok (.ireturn, 1) := by decide +kernel
theorem dX4_finds_0 : decode cX4_finds 0 = .ok (.aload_n 0, 1) := by decide +kernel
theorem dX4_finds_1 : decode cX4_finds 1 = .ok (.getfield 62, 3) := by decide +kernel
theorem dX4_finds_4 : decode cX4_finds 4 = .ok (.bipush (-20), 2) := by decide +kernel
theorem dX4_finds_6 : decode cX4_finds 6 = .ok (.iload_n 1, 1) := by decide +kernel
theorem dX4_finds_7 : decode cX4_finds 7 = .ok (.isub, 1) := by decide +kernel
theorem dX4_finds_8 : decode cX4_finds 8 = .ok (.dup2, 1) := by decide +kernel
theorem dX4_finds_9 : decode cX4_finds 9 = .ok (.iaload, 1) := by decide +kernel
theorem dX4_finds_10 : decode cX4_finds 10 = .ok (.iconst 1, 1) := by decide +kernel
theorem dX4_finds_11 : decode cX4_finds 11 = .ok (.iadd, 1) := by decide +kernel
theorem dX4_finds_12 : decode cX4_finds 12 = .ok (.iastore, 1) := by decide +kernel
theorem dX4_finds_13 : decode cX4_finds 13 = .ok (.iload_n 1, 1) := by decide +kernel
theorem dX4_finds_14 : decode cX4_finds 14 = .ok (.ireturn, 1) := by decide +kernel
theorem dX4_isOf_0 : decode cX4_isOf 0 = .ok (.iload_n 1, 1) := by decide +kernel
theorem dX4_isOf_1 : decode cX4_isOf 1 = .ok (.tableswitch 166 0 15 #[79, 166, 166, 166, 166, 166, 166, 166, 94, 166, 166, 112, 130, 166, 148, 164], 79) := by decide +kernel
theorem dX4_isOf_80 : decode cX4_isOf 80 = .ok (.iload_n 0, 1) := by decide +kernel
theorem dX4_isOf_81 : decode cX4_isOf 81 = .ok (.ifCond .eq 8, 3) := by decide +kernel
theorem dX4_isOf_84 : decode cX4_isOf 84 = .ok (.iload_n 0, 1) := by decide +kernel
theorem dX4_isOf_85 : decode cX4_isOf 85 = .ok (.iconst 1, 1) := by decide +kernel
theorem dX4_isOf_86 : decode cX4_isOf 86 = .ok (.if_icmp .ne 7, 3) := by decide +kernel
theorem dX4_isOf_89 : decode cX4_isOf 89 = .ok (.iconst 1, 1) := by decide +kernel
theorem dX4_isOf_90 : decode cX4_isOf 90 = .ok (.goto 4, 3) := by decide +kernel
theorem dX4_isOf_93 : decode cX4_isOf 93 = .ok (.iconst 0, 1) := by decide +kernel
theorem dX4_isOf_94 : decode cX4_isOf 94 = .ok (.ireturn, 1) := by decide +kernel
theorem dX4_isOf_95 : decode cX4_isOf 95 = .ok (.iload_n 0, 1) := by decide +kernel
theorem dX4_isOf_96 : decode cX4_isOf 96 = .ok (.bipush 8, 2) := by decide +kernel
theorem dX4_isOf_98 : decode cX4_isOf 98 = .ok (.if_icmp .eq 9, 3) := by decide +kernel
theorem dX4_isOf_101 : decode cX4_isOf 101 = .ok (.iload_n 0, 1) := by decide +kernel
theorem dX4_isOf_102 : decode cX4_isOf 102 = .ok (.bipush 9, 2) := by decide +kernel
theorem dX4_isOf_104 : decode cX4_isOf 104 = .ok (.if_icmp .ne 7, 3) := by decide +kernel
theorem dX4_isOf_107 : decode cX4_isOf 107 = .ok (.iconst 1, 1) := by decide +kernel
theorem dX4_isOf_108 : decode cX4_isOf 108 = .ok (.goto 4, 3) := by decide +kernel
theorem dX4_isOf_111 : decode cX4_isOf 111 = .ok (.iconst 0, 1) := by decide +kernel
theorem dX4_isOf_112 : decode cX4_isOf 112 = .ok (.ireturn, 1) := by decide +kernel
theorem dX4_isOf_113 : decode cX4_isOf 113 = .ok (.iload_n 0, 1) := by decide +kernel
theorem dX4_isOf_114 : decode cX4_isOf 114 = .ok (.bipush 11, 2) := by decide +kernel
theorem dX4_isOf_116 : decode cX4_isOf 116 = .ok (.if_icmp .eq 9, 3) := by decide +kernel
theorem dX4_isOf_119 : decode cX4_isOf 119 = .ok (.iload_n 0, 1) := by decide +kernel
theorem dX4_isOf_120 : decode cX4_isOf 120 = .ok (.bipush 9, 2) := by decide +kernel
theorem dX4_isOf_122 : decode cX4_isOf 122 = .ok (.if_icmp .ne 7, 3) := by decide +kernel
theorem dX4_isOf_125 : decode cX4_isOf 125 = .ok (.iconst 1, 1) := by decide +kernel
theorem dX4_isOf_126 : decode cX4_isOf 126 = .ok (.goto 4, 3) := by decide +kernel
theorem dX4_isOf_129 : decode cX4_isOf 129 = .ok (.iconst 0, 1) := by decide +kernel
theorem dX4_isOf_130 : decode cX4_isOf 130 = .ok (.ireturn, 1) := by decide +kernel
theorem dX4_isOf_131 : decode cX4_isOf 131 = .ok (.iload_n 0, 1) := by decide +kernel
theorem dX4_isOf_132 : decode cX4_isOf 132 = .ok (.bipush 12, 2) := by decide +kernel
theorem dX4_isOf_134 : decode cX4_isOf 134 = .ok (.if_icmp .eq 9, 3) := by decide +kernel
theorem dX4_isOf_137 : decode cX4_isOf 137 = .ok (.iload_n 0, 1) := by decide +kernel
theorem dX4_isOf_138 : decode cX4_isOf 138 = .ok (.bipush 13, 2) := by decide +kernel
theorem dX4_isOf_140 : decode cX4_isOf 140 = .ok (.if_icmp .ne 7, 3) := by decide +kernel
theorem dX4_isOf_143 : decode cX4_isOf 143 = .ok (.iconst 1, 1) := by decide +kernel
theorem dX4_isOf_144 : decode cX4_isOf 144 = .ok (.goto 4, 3) := by decide +kernel
theorem dX4_isOf_147 : decode cX4_isOf 147 = .ok (.iconst 0, 1) := by decide +kernel
theorem dX4_isOf_148 : decode cX4_isOf 148 = .ok (.ireturn, 1) := by decide +kernel
theorem dX4_isOf_149 : decode cX4_isOf 149 = .ok (.iload_n 0, 1) := by decide +kernel
theorem dX4_isOf_150 : decode cX4_isOf 150 = .ok (.iconst 1, 1) := by decide +kernel
theorem dX4_isOf_151 : decode cX4_isOf 151 = .ok (.if_icmp .eq 8, 3) := by decide +kernel
theorem dX4_isOf_154 : decode cX4_isOf 154 = .ok (.iload_n 0, 1) := by decide +kernel
theorem dX4_isOf_155 : decode cX4_isOf 155 = .ok (.iconst 3, 1) := by decide +kernel
theorem dX4_isOf_156 : decode cX4_isOf 156 = .ok (.if_icmp .ne 7, 3) := by decide +kernel
theorem dX4_isOf_159 : decode cX4_isOf 159 = .ok (.iconst 1, 1) := by decide +kernel
theorem dX4_isOf_160 : decode cX4_isOf 160 = .ok (.goto 4, 3) := by decide +kernel
theorem dX4_isOf_163 : decode cX4_isOf 163 = .ok (.iconst 0, 1) := by decide +kernel
theorem dX4_isOf_164 : decode cX4_isOf 164 = .ok (.ireturn, 1) := by decide +kernel
theorem dX4_isOf_165 : decode cX4_isOf 165 = .ok (.iconst 1, 1) := by decide +kernel
theorem dX4_isOf_166 : decode cX4_isOf 166 = .ok (.ireturn, 1) := by decide +kernel
theorem dX4_isOf_167 : decode cX4_isOf 167 = .ok (.iload_n 0, 1) := by decide +kernel
theorem dX4_isOf_168 : decode cX4_isOf 168 = .ok (.iload_n 1, 1) := by decide +kernel
theorem dX4_isOf_169 : decode cX4_isOf 169 = .ok (.if_icmp .ne 7, 3) := by decide +kernel
theorem dX4_isOf_172 : decode cX4_isOf 172 = .ok (.iconst 1, 1) := by decide +kernel
theorem dX4_isOf_173 : decode cX4_isOf 173 = .ok (.goto 4, 3) := by decide +kernel
theorem dX4_isOf_176 : decode cX4_isOf 176 = .ok (.iconst 0, 1) := by decide +kernel
theorem dX4_isOf_177 : decode cX4_isOf 177 = .ok (.ireturn, 1) := by decide +kernel
set_option maxRecDepth 20000 in
theorem ggX4_isA_X4_isOf : GoodIn wsX4_isA wsX4_isOf := goodIn_r _ [5] (by decide +kernel) (by decide +kernel)
set_option maxRecDepth 20000 in
theorem gX4_isA_X4_isOf : GoodIn wsX4_isA (va_wsS RX4 89 yX4_isOf wsX4_isOf) := goodIn_app (goodIn_of _ (by decide +kernel)) ggX4_isA_X4_isOf
theorem dX4_isA_0 : decode cX4_isA 0 = .ok (.iload_n 1, 1) := by decide +kernel
theorem dX4_isA_1 : decode cX4_isA 1 = .ok (.ifCond .lt 20, 3) := by decide +kernel
theorem dX4_isA_4 : decode cX4_isA 4 = .ok (.aload_n 0, 1) := by decide +kernel
theorem dX4_isA_5 : decode cX4_isA 5 = .ok (.getfield 7, 3) := by decide +kernel
theorem dX4_isA_8 : decode cX4_isA 8 = .ok (.iload_n 1, 1) := by decide +kernel
theorem dX4_isA_9 : decode cX4_isA 9 = .ok (.iaload, 1) := by decide +kernel
theorem dX4_isA_10 : decode cX4_isA 10 = .ok (.iload_n 2, 1) := by decide +kernel
theorem dX4_isA_11 : decode cX4_isA 11 = .ok (.invokestatic 89, 3) := by decide +kernel
theorem dX4_isA_14 : decode cX4_isA 14 = .ok (.ifCond .eq 7, 3) := by decide +kernel
theorem dX4_isA_17 : decode cX4_isA 17 = .ok (.iconst 1, 1) := by decide +kernel
theorem dX4_isA_18 : decode cX4_isA 18 = .ok (.goto 4, 3) := by decide +kernel
theorem dX4_isA_21 : decode cX4_isA 21 = .ok (.iconst 0, 1) := by decide +kernel
theorem dX4_isA_22 : decode cX4_isA 22 = .ok (.ireturn, 1) := by decide +kernel
set_option maxRecDepth 20000 in
theorem ggX4_passes_X4_isOf : GoodIn wsX4_passes wsX4_isOf := goodIn_r _ [5] (by decide +kernel) (by decide +kernel)
set_option maxRecDepth 20000 in
theorem gX4_passes_X4_isOf : GoodIn wsX4_passes (va_wsS RX4 89 yX4_isOf wsX4_isOf) := goodIn_app (goodIn_of _ (by decide +kernel)) ggX4_passes_X4_isOf
theorem dX4_passes_0 : decode cX4_passes 0 = .ok (.iload_n 1, 1) := by decide +kernel
theorem dX4_passes_1 : decode cX4_passes 1 = .ok (.ifCond .lt 16, 3) := by decide +kernel
theorem dX4_passes_4 : decode cX4_passes 4 = .ok (.aload_n 0, 1) := by decide +kernel
theorem dX4_passes_5 : decode cX4_passes 5 = .ok (.getfield 7, 3) := by decide +kernel
theorem dX4_passes_8 : decode cX4_passes 8 = .ok (.iload_n 1, 1) := by decide +kernel
theorem dX4_passes_9 : decode cX4_passes 9 = .ok (.iaload, 1) := by decide +kernel
theorem dX4_passes_10 : decode cX4_passes 10 = .ok (.iload_n 2, 1) := by decide +kernel
theorem dX4_passes_11 : decode cX4_passes 11 = .ok (.invokestatic 89, 3) := by decide +kernel
theorem dX4_passes_14 : decode cX4_passes 14 = .ok (.ifCond .eq 7, 3) := by decide +kernel
theorem dX4_passes_17 : decode cX4_passes 17 = .ok (.iconst 1, 1) := by decide +kernel
theorem dX4_passes_18 : decode cX4_passes 18 = .ok (.goto 4, 3) := by decide +kernel
theorem dX4_passes_21 : decode cX4_passes 21 = .ok (.iconst 0, 1) := by decide +kernel
theorem dX4_passes_22 : decode cX4_passes 22 = .ok (.ireturn, 1) := by decide +kernel
theorem dX4_of_0 : decode cX4_of 0 = .ok (.iload_n 0, 1) := by decide +kernel
theorem dX4_of_1 : decode cX4_of 1 = .ok (.bipush 7, 2) := by decide +kernel
theorem dX4_of_3 : decode cX4_of 3 = .ok (.if_icmp .ne 7, 3) := by decide +kernel
theorem dX4_of_6 : decode cX4_of 6 = .ok (.iconst 4, 1) := by decide +kernel
theorem dX4_of_7 : decode cX4_of 7 = .ok (.goto 57, 3) := by decide +kernel
theorem dX4_of_10 : decode cX4_of 10 = .ok (.iload_n 0, 1) := by decide +kernel
theorem dX4_of_11 : decode cX4_of 11 = .ok (.bipush 8, 2) := by decide +kernel
theorem dX4_of_13 : decode cX4_of 13 = .ok (.if_icmp .ne 7, 3) := by decide +kernel
theorem dX4_of_16 : decode cX4_of 16 = .ok (.iconst 0, 1) := by decide +kernel
theorem dX4_of_17 : decode cX4_of 17 = .ok (.goto 47, 3) := by decide +kernel
theorem dX4_of_20 : decode cX4_of 20 = .ok (.iload_n 0, 1) := by decide +kernel
theorem dX4_of_21 : decode cX4_of 21 = .ok (.bipush 9, 2) := by decide +kernel
theorem dX4_of_23 : decode cX4_of 23 = .ok (.if_icmp .ne 7, 3) := by decide +kernel
theorem dX4_of_26 : decode cX4_of 26 = .ok (.iconst 1, 1) := by decide +kernel
theorem dX4_of_27 : decode cX4_of 27 = .ok (.goto 37, 3) := by decide +kernel
theorem dX4_of_30 : decode cX4_of 30 = .ok (.iload_n 0, 1) := by decide +kernel
theorem dX4_of_31 : decode cX4_of 31 = .ok (.bipush 10, 2) := by decide +kernel
theorem dX4_of_33 : decode cX4_of 33 = .ok (.if_icmp .ne 7, 3) := by decide +kernel
theorem dX4_of_36 : decode cX4_of 36 = .ok (.iconst 2, 1) := by decide +kernel
theorem dX4_of_37 : decode cX4_of 37 = .ok (.goto 27, 3) := by decide +kernel
theorem dX4_of_40 : decode cX4_of 40 = .ok (.iload_n 0, 1) := by decide +kernel
theorem dX4_of_41 : decode cX4_of 41 = .ok (.bipush 11, 2) := by decide +kernel
theorem dX4_of_43 : decode cX4_of 43 = .ok (.if_icmp .ne 8, 3) := by decide +kernel
theorem dX4_of_46 : decode cX4_of 46 = .ok (.bipush 14, 2) := by decide +kernel
theorem dX4_of_48 : decode cX4_of 48 = .ok (.goto 16, 3) := by decide +kernel
theorem dX4_of_51 : decode cX4_of 51 = .ok (.iload_n 0, 1) := by decide +kernel
theorem dX4_of_52 : decode cX4_of 52 = .ok (.bipush 12, 2) := by decide +kernel
theorem dX4_of_54 : decode cX4_of 54 = .ok (.if_icmp .ne 8, 3) := by decide +kernel
theorem dX4_of_57 : decode cX4_of 57 = .ok (.bipush 8, 2) := by decide +kernel
theorem dX4_of_59 : decode cX4_of 59 = .ok (.goto 5, 3) := by decide +kernel
theorem dX4_of_62 : decode cX4_of 62 = .ok (.bipush 9, 2) := by decide +kernel
theorem dX4_of_64 : decode cX4_of 64 = .ok (.ireturn, 1) := by decide +kernel
theorem dX4_make_0 : decode cX4_make 0 = .ok (.aload_n 0, 1) := by decide +kernel
theorem dX4_make_1 : decode cX4_make 1 = .ok (.getfield 7, 3) := by decide +kernel
theorem dX4_make_4 : decode cX4_make 4 = .ok (.aload_n 0, 1) := by decide +kernel
theorem dX4_make_5 : decode cX4_make 5 = .ok (.getfield 78, 3) := by decide +kernel
theorem dX4_make_8 : decode cX4_make 8 = .ok (.iload_n 1, 1) := by decide +kernel
theorem dX4_make_9 : decode cX4_make 9 = .ok (.iastore, 1) := by decide +kernel
theorem dX4_make_10 : decode cX4_make 10 = .ok (.aload_n 0, 1) := by decide +kernel
theorem dX4_make_11 : decode cX4_make 11 = .ok (.getfield 13, 3) := by decide +kernel
theorem dX4_make_14 : decode cX4_make 14 = .ok (.aload_n 0, 1) := by decide +kernel
theorem dX4_make_15 : decode cX4_make 15 = .ok (.getfield 78, 3) := by decide +kernel
theorem dX4_make_18 : decode cX4_make 18 = .ok (.iload_n 2, 1) := by decide +kernel
theorem dX4_make_19 : decode cX4_make 19 = .ok (.iastore, 1) := by decide +kernel
theorem dX4_make_20 : decode cX4_make 20 = .ok (.aload_n 0, 1) := by decide +kernel
theorem dX4_make_21 : decode cX4_make 21 = .ok (.getfield 16, 3) := by decide +kernel
theorem dX4_make_24 : decode cX4_make 24 = .ok (.aload_n 0, 1) := by decide +kernel
theorem dX4_make_25 : decode cX4_make 25 = .ok (.getfield 78, 3) := by decide +kernel
theorem dX4_make_28 : decode cX4_make 28 = .ok (.iload_n 3, 1) := by decide +kernel
theorem dX4_make_29 : decode cX4_make 29 = .ok (.iastore, 1) := by decide +kernel
theorem dX4_make_30 : decode cX4_make 30 = .ok (.bipush 6, 2) := by decide +kernel
theorem dX4_make_32 : decode cX4_make 32 = .ok (.aload_n 0, 1) := by decide +kernel
theorem dX4_make_33 : decode cX4_make 33 = .ok (.getfield 78, 3) := by decide +kernel
theorem dX4_make_36 : decode cX4_make 36 = .ok (.imul, 1) := by decide +kernel
theorem dX4_make_37 : decode cX4_make 37 = .ok (.istore 4, 2) := by decide +kernel
theorem dX4_make_39 : decode cX4_make 39 = .ok (.iload 4, 2) := by decide +kernel
theorem dX4_make_41 : decode cX4_make 41 = .ok (.bipush 6, 2) := by decide +kernel
theorem dX4_make_43 : decode cX4_make 43 = .ok (.aload_n 0, 1) := by decide +kernel
theorem dX4_make_44 : decode cX4_make 44 = .ok (.getfield 78, 3) := by decide +kernel
theorem dX4_make_47 : decode cX4_make 47 = .ok (.imul, 1) := by decide +kernel
theorem dX4_make_48 : decode cX4_make 48 = .ok (.bipush 6, 2) := by decide +kernel
theorem dX4_make_50 : decode cX4_make 50 = .ok (.iadd, 1) := by decide +kernel
theorem dX4_make_51 : decode cX4_make 51 = .ok (.if_icmp .ge 26, 3) := by decide +kernel
theorem dX4_make_54 : decode cX4_make 54 = .ok (.aload_n 0, 1) := by decide +kernel
theorem dX4_make_55 : decode cX4_make 55 = .ok (.getfield 19, 3) := by decide +kernel
theorem dX4_make_58 : decode cX4_make 58 = .ok (.iload 4, 2) := by decide +kernel
theorem dX4_make_60 : decode cX4_make 60 = .ok (.lconst 0, 1) := by decide +kernel
theorem dX4_make_61 : decode cX4_make 61 = .ok (.lastore, 1) := by decide +kernel
theorem dX4_make_62 : decode cX4_make 62 = .ok (.aload_n 0, 1) := by decide +kernel
theorem dX4_make_63 : decode cX4_make 63 = .ok (.getfield 23, 3) := by decide +kernel
theorem dX4_make_66 : decode cX4_make 66 = .ok (.iload 4, 2) := by decide +kernel
theorem dX4_make_68 : decode cX4_make 68 = .ok (.bipush (-5), 2) := by decide +kernel
theorem dX4_make_70 : decode cX4_make 70 = .ok (.iastore, 1) := by decide +kernel
theorem dX4_make_71 : decode cX4_make 71 = .ok (.iinc 4 1, 3) := by decide +kernel
