theorem dX4_matches_111 : decode cX4_matches 111 = .ok (.iload_n 3, 1) := by decide +kernel
theorem dX4_matches_112 : decode cX4_matches 112 = .ok (.iaload, 1) := by decide +kernel
theorem dX4_matches_113 : decode cX4_matches 113 = .ok (.aload_n 0, 1) := by decide +kernel
theorem dX4_matches_114 : decode cX4_matches 114 = .ok (.getfield 71, 3) := by decide +kernel
theorem dX4_matches_117 : decode cX4_matches 117 = .ok (.iload_n 3, 1) := by decide +kernel
theorem dX4_matches_118 : decode cX4_matches 118 = .ok (.iaload, 1) := by decide +kernel
theorem dX4_matches_119 : decode cX4_matches 119 = .ok (.invokevirtual 177, 3) := by decide +kernel
theorem dX4_matches_122 : decode cX4_matches 122 = .ok (.goto (-71), 3) := by decide +kernel
theorem dX4_matches_125 : decode cX4_matches 125 = .ok (.aload_n 0, 1) := by decide +kernel
theorem dX4_matches_126 : decode cX4_matches 126 = .ok (.getfield 135, 3) := by decide +kernel
theorem dX4_matches_129 : decode cX4_matches 129 = .ok (.ifCond .ne 10, 3) := by decide +kernel
theorem dX4_matches_132 : decode cX4_matches 132 = .ok (.aload_n 0, 1) := by decide +kernel
theorem dX4_matches_133 : decode cX4_matches 133 = .ok (.getfield 144, 3) := by decide +kernel
theorem dX4_matches_136 : decode cX4_matches 136 = .ok (.ifCond .ne 28, 3) := by decide +kernel
theorem dX4_matches_139 : decode cX4_matches 139 = .ok (.iconst 0, 1) := by decide +kernel
theorem dX4_matches_140 : decode cX4_matches 140 = .ok (.istore_n 3, 1) := by decide +kernel
theorem dX4_matches_141 : decode cX4_matches 141 = .ok (.iload_n 3, 1) := by decide +kernel
theorem dX4_matches_142 : decode cX4_matches 142 = .ok (.iconst 4, 1) := by decide +kernel
theorem dX4_matches_143 : decode cX4_matches 143 = .ok (.if_icmp .ge 21, 3) := by decide +kernel
theorem dX4_matches_146 : decode cX4_matches 146 = .ok (.aload_n 0, 1) := by decide +kernel
theorem dX4_matches_147 : decode cX4_matches 147 = .ok (.getfield 56, 3) := by decide +kernel
theorem dX4_matches_150 : decode cX4_matches 150 = .ok (.iload_n 3, 1) := by decide +kernel
theorem dX4_matches_151 : decode cX4_matches 151 = .ok (.aload_n 0, 1) := by decide +kernel
theorem dX4_matches_152 : decode cX4_matches 152 = .ok (.getfield 59, 3) := by decide +kernel
theorem dX4_matches_155 : decode cX4_matches 155 = .ok (.iload_n 3, 1) := by decide +kernel
theorem dX4_matches_156 : decode cX4_matches 156 = .ok (.iaload, 1) := by decide +kernel
theorem dX4_matches_157 : decode cX4_matches 157 = .ok (.iastore, 1) := by decide +kernel
theorem dX4_matches_158 : decode cX4_matches 158 = .ok (.iinc 3 1, 3) := by decide +kernel
theorem dX4_matches_161 : decode cX4_matches 161 = .ok (.goto (-20), 3) := by decide +kernel
theorem dX4_matches_164 : decode cX4_matches 164 = .ok (.aload_n 0, 1) := by decide +kernel
theorem dX4_matches_165 : decode cX4_matches 165 = .ok (.getfield 135, 3) := by decide +kernel
theorem dX4_matches_168 : decode cX4_matches 168 = .ok (.ifCond .eq 14, 3) := by decide +kernel
theorem dX4_matches_171 : decode cX4_matches 171 = .ok (.aload_n 0, 1) := by decide +kernel
theorem dX4_matches_172 : decode cX4_matches 172 = .ok (.aload_n 0, 1) := by decide +kernel
theorem dX4_matches_173 : decode cX4_matches 173 = .ok (.getfield 135, 3) := by decide +kernel
theorem dX4_matches_176 : decode cX4_matches 176 = .ok (.invokevirtual 97, 3) := by decide +kernel
theorem dX4_matches_179 : decode cX4_matches 179 = .ok (.goto 15, 3) := by decide +kernel
theorem dX4_matches_182 : decode cX4_matches 182 = .ok (.aload_n 0, 1) := by decide +kernel
theorem dX4_matches_183 : decode cX4_matches 183 = .ok (.getfield 144, 3) := by decide +kernel
theorem dX4_matches_186 : decode cX4_matches 186 = .ok (.ifCond .eq 7, 3) := by decide +kernel
theorem dX4_matches_189 : decode cX4_matches 189 = .ok (.iconst 1, 1) := by decide +kernel
theorem dX4_matches_190 : decode cX4_matches 190 = .ok (.goto 4, 3) := by decide +kernel
theorem dX4_matches_193 : decode cX4_matches 193 = .ok (.iconst 0, 1) := by decide +kernel
theorem dX4_matches_194 : decode cX4_matches 194 = .ok (.ireturn, 1) := by decide +kernel
set_option maxRecDepth 20000 in
theorem ggX4_match_X4_isPattern : GoodIn wsX4_match wsX4_isPattern := goodIn_r _ [6, 7, 8, 9, 5, 10, 93, 94, 95, 96, 97, 98, 99, 100, 101, 102, 103, 104, 105, 106, 107, 108, 109, 110, 111, 112, 113, 114, 115, 116, 117, 118, 119, 120, 121] (by decide +kernel) (by decide +kernel)
set_option maxRecDepth 20000 in
theorem gX4_match_X4_isPattern : GoodIn wsX4_match (wsV RX4 125 RX4 yX4_isPattern wsX4_isPattern) := goodIn_app (goodIn_of _ (by decide +kernel)) ggX4_match_X4_isPattern
set_option maxRecDepth 20000 in
theorem ggX4_match_X4_isThingOrNone : GoodIn wsX4_match wsX4_isThingOrNone := goodIn_r _ [14, 15, 16, 17, 5, 18, 19, 8, 9, 10, 93, 94, 95, 96, 97, 98, 99, 100, 101, 102, 103, 104, 105, 106, 107, 108, 109, 110, 111, 112, 113, 114, 115, 116, 117, 118, 119, 120, 121] (by decide +kernel) (by decide +kernel)
set_option maxRecDepth 20000 in
theorem gX4_match_X4_isThingOrNone : GoodIn wsX4_match (wsV RX4 101 RX4 yX4_isThingOrNone wsX4_isThingOrNone) := goodIn_app (goodIn_of _ (by decide +kernel)) ggX4_match_X4_isThingOrNone
set_option maxRecDepth 20000 in
theorem ggX4_match_X4_matches : GoodIn wsX4_match wsX4_matches := goodIn_ca (goodIn_r _ [23, 24, 25, 26, 27, 28, 29, 30, 31, 32, 33, 34, 35, 5, 36, 37, 38, 39, 40, 41, 42, 43, 44, 45, 46, 47, 48, 49, 50, 51, 52, 53, 54, 55, 56, 57, 58, 59, 60, 61, 62, 63, 64, 65, 66, 67, 68, 69, 70, 71, 72, 73, 74, 75, 8, 9, 10, 76, 77, 78, 79, 80, 81, 82, 83, 84, 85, 86, 87, 88, 89, 90, 91, 92, 93, 94, 95, 96, 97, 98, 99, 100, 101, 102, 103, 104, 105, 106, 107, 108, 109, 110, 111, 112, 113, 114, 115, 116, 117, 118, 119, 120, 121] (by decide +kernel) (by decide +kernel)) (goodIn_sub (fun _ h => List.mem_cons_of_mem _ (List.mem_append_right _ h)) (by decide +kernel))
set_option maxRecDepth 20000 in
theorem gX4_match_X4_matches : GoodIn wsX4_match (wsV RX4 180 RX4 yX4_matches wsX4_matches) := goodIn_app (goodIn_of _ (by decide +kernel)) ggX4_match_X4_matches
theorem dX4_match_0 : decode cX4_match 0 = .ok (.aload_n 0, 1) := by decide +kernel
theorem dX4_match_1 : decode cX4_match 1 = .ok (.iconst 0, 1) := by decide +kernel
theorem dX4_match_2 : decode cX4_match 2 = .ok (.putfield 74, 3) := by decide +kernel
theorem dX4_match_5 : decode cX4_match 5 = .ok (.aload_n 0, 1) := by decide +kernel
theorem dX4_match_6 : decode cX4_match 6 = .ok (.iload_n 1, 1) := by decide +kernel
theorem dX4_match_7 : decode cX4_match 7 = .ok (.invokevirtual 125, 3) := by decide +kernel
theorem dX4_match_10 : decode cX4_match 10 = .ok (.ifCond .eq 11, 3) := by decide +kernel
theorem dX4_match_13 : decode cX4_match 13 = .ok (.aload_n 0, 1) := by decide +kernel
theorem dX4_match_14 : decode cX4_match 14 = .ok (.iload_n 2, 1) := by decide +kernel
theorem dX4_match_15 : decode cX4_match 15 = .ok (.invokevirtual 101, 3) := by decide +kernel
theorem dX4_match_18 : decode cX4_match 18 = .ok (.ifCond .ne 5, 3) := by decide +kernel
theorem dX4_match_21 : decode cX4_match 21 = .ok (.iconst (-1), 1) := by decide +kernel
theorem dX4_match_22 : decode cX4_match 22 = .ok (.ireturn, 1) := by decide +kernel
theorem dX4_match_23 : decode cX4_match 23 = .ok (.aload_n 0, 1) := by decide +kernel
theorem dX4_match_24 : decode cX4_match 24 = .ok (.iload_n 1, 1) := by decide +kernel
theorem dX4_match_25 : decode cX4_match 25 = .ok (.iload_n 2, 1) := by decide +kernel
theorem dX4_match_26 : decode cX4_match 26 = .ok (.invokevirtual 180, 3) := by decide +kernel
theorem dX4_match_29 : decode cX4_match 29 = .ok (.ireturn, 1) := by decide +kernel
set_option maxRecDepth 20000 in
theorem ggX4_slot_X4_in : GoodIn wsX4_slot wsX4_in := goodIn_r _ [6] (by decide +kernel) (by decide +kernel)
set_option maxRecDepth 20000 in
theorem gX4_slot_X4_in : GoodIn wsX4_slot (va_wsS RX4 81 yX4_in wsX4_in) := goodIn_app (goodIn_of _ (by decide +kernel)) ggX4_slot_X4_in
theorem dX4_slot_0 : decode cX4_slot 0 = .ok (.aload_n 0, 1) := by decide +kernel
theorem dX4_slot_1 : decode cX4_slot 1 = .ok (.iconst 0, 1) := by decide +kernel
theorem dX4_slot_2 : decode cX4_slot 2 = .ok (.putfield 74, 3) := by decide +kernel
theorem dX4_slot_5 : decode cX4_slot 5 = .ok (.iload_n 1, 1) := by decide +kernel
theorem dX4_slot_6 : decode cX4_slot 6 = .ok (.iconst 0, 1) := by decide +kernel
theorem dX4_slot_7 : decode cX4_slot 7 = .ok (.iconst 3, 1) := by decide +kernel
theorem dX4_slot_8 : decode cX4_slot 8 = .ok (.invokestatic 81, 3) := by decide +kernel
theorem dX4_slot_11 : decode cX4_slot 11 = .ok (.ifCond .eq 12, 3) := by decide +kernel
theorem dX4_slot_14 : decode cX4_slot 14 = .ok (.aload_n 0, 1) := by decide +kernel
theorem dX4_slot_15 : decode cX4_slot 15 = .ok (.getfield 56, 3) := by decide +kernel
theorem dX4_slot_18 : decode cX4_slot 18 = .ok (.iload_n 1, 1) := by decide +kernel
theorem dX4_slot_19 : decode cX4_slot 19 = .ok (.iaload, 1) := by decide +kernel
theorem dX4_slot_20 : decode cX4_slot 20 = .ok (.goto 5, 3) := by decide +kernel
theorem dX4_slot_23 : decode cX4_slot 23 = .ok (.bipush (-2), 2) := by decide +kernel
theorem dX4_slot_25 : decode cX4_slot 25 = .ok (.ireturn, 1) := by decide +kernel
set_option maxRecDepth 20000 in
theorem ggX4_rule_X4_isPattern : GoodIn wsX4_rule wsX4_isPattern := goodIn_r _ [13, 14, 15, 16, 12, 17, 18, 19, 20, 21, 22, 23, 24, 25, 26, 27, 28, 29, 30, 31, 32, 33, 34, 35, 36, 37, 38, 39, 40, 41, 42, 43, 44, 45, 46] (by decide +kernel) (by decide +kernel)
set_option maxRecDepth 20000 in
theorem gX4_rule_X4_isPattern : GoodIn wsX4_rule (wsV RX4 125 RX4 yX4_isPattern wsX4_isPattern) := goodIn_app (goodIn_of _ (by decide +kernel)) ggX4_rule_X4_isPattern
set_option maxRecDepth 20000 in
theorem ggX4_rule_X4_in : GoodIn wsX4_rule wsX4_in := goodIn_r _ [17] (by decide +kernel) (by decide +kernel)
set_option maxRecDepth 20000 in
theorem gX4_rule_X4_in : GoodIn wsX4_rule (va_wsS RX4 81 yX4_in wsX4_in) := goodIn_app (goodIn_of _ (by decide +kernel)) ggX4_rule_X4_in
theorem dX4_rule_0 : decode cX4_rule 0 = .ok (.aload_n 0, 1) := by decide +kernel
theorem dX4_rule_1 : decode cX4_rule 1 = .ok (.iconst 0, 1) := by decide +kernel
theorem dX4_rule_2 : decode cX4_rule 2 = .ok (.putfield 74, 3) := by decide +kernel
theorem dX4_rule_5 : decode cX4_rule 5 = .ok (.aload_n 0, 1) := by decide +kernel
theorem dX4_rule_6 : decode cX4_rule 6 = .ok (.iload_n 1, 1) := by decide +kernel
theorem dX4_rule_7 : decode cX4_rule 7 = .ok (.invokevirtual 125, 3) := by decide +kernel
theorem dX4_rule_10 : decode cX4_rule 10 = .ok (.ifCond .ne 5, 3) := by decide +kernel
theorem dX4_rule_13 : decode cX4_rule 13 = .ok (.iconst (-1), 1) := by decide +kernel
theorem dX4_rule_14 : decode cX4_rule 14 = .ok (.ireturn, 1) := by decide +kernel
theorem dX4_rule_15 : decode cX4_rule 15 = .ok (.iload_n 2, 1) := by decide +kernel
theorem dX4_rule_16 : decode cX4_rule 16 = .ok (.iconst 0, 1) := by decide +kernel
theorem dX4_rule_17 : decode cX4_rule 17 = .ok (.iconst 5, 1) := by decide +kernel
theorem dX4_rule_18 : decode cX4_rule 18 = .ok (.invokestatic 81, 3) := by decide +kernel
theorem dX4_rule_21 : decode cX4_rule 21 = .ok (.ifCond .eq 19, 3) := by decide +kernel
theorem dX4_rule_24 : decode cX4_rule 24 = .ok (.iload_n 2, 1) := by decide +kernel
theorem dX4_rule_25 : decode cX4_rule 25 = .ok (.iconst 1, 1) := by decide +kernel
theorem dX4_rule_26 : decode cX4_rule 26 = .ok (.if_icmp .ne 17, 3) := by decide +kernel
theorem dX4_rule_29 : decode cX4_rule 29 = .ok (.iload_n 3, 1) := by decide +kernel
theorem dX4_rule_30 : decode cX4_rule 30 = .ok (.bipush 7, 2) := by decide +kernel
theorem dX4_rule_32 : decode cX4_rule 32 = .ok (.bipush 13, 2) := by decide +kernel
theorem dX4_rule_34 : decode cX4_rule 34 = .ok (.invokestatic 81, 3) := by decide +kernel
theorem dX4_rule_37 : decode cX4_rule 37 = .ok (.ifCond .ne 6, 3) := by decide +kernel
theorem dX4_rule_40 : decode cX4_rule 40 = .ok (.bipush (-2), 2) := by decide +kernel
theorem dX4_rule_42 : decode cX4_rule 42 = .ok (.ireturn, 1) := by decide +kernel
theorem dX4_rule_43 : decode cX4_rule 43 = .ok (.aload_n 0, 1) := by decide +kernel
theorem dX4_rule_44 : decode cX4_rule 44 = .ok (.getfield 183, 3) := by decide +kernel
theorem dX4_rule_47 : decode cX4_rule 47 = .ok (.bipush 16, 2) := by decide +kernel
theorem dX4_rule_49 : decode cX4_rule 49 = .ok (.if_icmp .ne 6, 3) := by decide +kernel
theorem dX4_rule_52 : decode cX4_rule 52 = .ok (.bipush (-4), 2) := by decide +kernel
theorem dX4_rule_54 : decode cX4_rule 54 = .ok (.ireturn, 1) := by decide +kernel
theorem dX4_rule_55 : decode cX4_rule 55 = .ok (.aload_n 0, 1) := by decide +kernel
theorem dX4_rule_56 : decode cX4_rule 56 = .ok (.getfield 38, 3) := by decide +kernel
theorem dX4_rule_59 : decode cX4_rule 59 = .ok (.aload_n 0, 1) := by decide +kernel
theorem dX4_rule_60 : decode cX4_rule 60 = .ok (.getfield 183, 3) := by decide +kernel
theorem dX4_rule_63 : decode cX4_rule 63 = .ok (.iload_n 1, 1) := by decide +kernel
theorem dX4_rule_64 : decode cX4_rule 64 = .ok (.iastore, 1) := by decide +kernel
theorem dX4_rule_65 : decode cX4_rule 65 = .ok (.aload_n 0, 1) := by decide +kernel
theorem dX4_rule_66 : decode cX4_rule 66 = .ok (.getfield 41, 3) := by decide +kernel
theorem dX4_rule_69 : decode cX4_rule 69 = .ok (.aload_n 0, 1) := by decide +kernel
theorem dX4_rule_70 : decode cX4_rule 70 = .ok (.getfield 183, 3) := by decide +kernel
theorem dX4_rule_73 : decode cX4_rule 73 = .ok (.iload_n 2, 1) := by decide +kernel
theorem dX4_rule_74 : decode cX4_rule 74 = .ok (.iastore, 1) := by decide +kernel
theorem dX4_rule_75 : decode cX4_rule 75 = .ok (.aload_n 0, 1) := by decide +kernel
theorem dX4_rule_76 : decode cX4_rule 76 = .ok (.getfield 44, 3) := by decide +kernel
theorem dX4_rule_79 : decode cX4_rule 79 = .ok (.aload_n 0, 1) := by decide +kernel
theorem dX4_rule_80 : decode cX4_rule 80 = .ok (.getfield 183, 3) := by decide +kernel
theorem dX4_rule_83 : decode cX4_rule 83 = .ok (.iload_n 3, 1) := by decide +kernel
theorem dX4_rule_84 : decode cX4_rule 84 = .ok (.iastore, 1) := by decide +kernel
theorem dX4_rule_85 : decode cX4_rule 85 = .ok (.aload_n 0, 1) := by decide +kernel
theorem dX4_rule_86 : decode cX4_rule 86 = .ok (.getfield 47, 3) := by decide +kernel
theorem dX4_rule_89 : decode cX4_rule 89 = .ok (.aload_n 0, 1) := by decide +kernel
theorem dX4_rule_90 : decode cX4_rule 90 = .ok (.getfield 183, 3) := by decide +kernel
theorem dX4_rule_93 : decode cX4_rule 93 = .ok (.iload 4, 2) := by decide +kernel
theorem dX4_rule_95 : decode cX4_rule 95 = .ok (.iastore, 1) := by decide +kernel
theorem dX4_rule_96 : decode cX4_rule 96 = .ok (.aload_n 0, 1) := by decide +kernel
theorem dX4_rule_97 : decode cX4_rule 97 = .ok (.getfield 50, 3) := by decide +kernel
theorem dX4_rule_100 : decode cX4_rule 100 = .ok (.aload_n 0, 1) := by decide +kernel
theorem dX4_rule_101 : decode cX4_rule 101 = .ok (.getfield 183, 3) := by decide +kernel
theorem dX4_rule_104 : decode cX4_rule 104 = .ok (.iconst 0, 1) := by decide +kernel
theorem dX4_rule_105 : decode cX4_rule 105 = .ok (.iastore, 1) := by decide +kernel
theorem dX4_rule_106 : decode cX4_rule 106 = .ok (.aload_n 0, 1) := by decide +kernel
theorem dX4_rule_107 : decode cX4_rule 107 = .ok (.getfield 53, 3) := by decide +kernel
theorem dX4_rule_110 : decode cX4_rule 110 = .ok (.aload_n 0, 1) := by decide +kernel
theorem dX4_rule_111 : decode cX4_rule 111 = .ok (.getfield 183, 3) := by decide +kernel
theorem dX4_rule_114 : decode cX4_rule 114 = .ok (.iconst 0, 1) := by decide +kernel
theorem dX4_rule_115 : decode cX4_rule 115 = .ok (.iastore, 1) := by decide +kernel
theorem dX4_rule_116 : decode cX4_rule 116 = .ok (.aload_n 0, 1) := by decide +kernel
theorem dX4_rule_117 : decode cX4_rule 117 = .ok (.dup, 1) := by decide +kernel
theorem dX4_rule_118 : decode cX4_rule 118 = .ok (.getfield 183, 3) := by decide +kernel
theorem dX4_rule_121 : decode cX4_rule 121 = .ok (.iconst 1, 1) := by decide +kernel
theorem dX4_rule_122 : decode cX4_rule 122 = .ok (.iadd, 1) := by decide +kernel
theorem dX4_rule_123 : decode cX4_rule 123 = .ok (.putfield 183, 3) := by decide +kernel
theorem dX4_rule_126 : decode cX4_rule 126 = .ok (.aload_n 0, 1) := by decide +kernel
theorem dX4_rule_127 : decode cX4_rule 127 = .ok (.getfield 183, 3) := by decide +kernel
theorem dX4_rule_130 : decode cX4_rule 130 = .ok (.iconst 1, 1) := by decide +kernel
theorem dX4_rule_131 : decode cX4_rule 131 = .ok (.isub, 1) := by decide +kernel
theorem dX4_rule_132 : decode cX4_rule 132 = .ok (.ireturn, 1) := by decide +kernel
set_option maxRecDepth 20000 in
theorem ggX4_grows_X4_taken : GoodIn wsX4_grows wsX4_taken := goodIn_ca (goodIn_r _ [6, 7, 8, 9, 10, 5, 11, 12, 13, 14, 15, 16, 17, 18, 24, 25, 26, 27, 28, 29, 30, 31, 32, 33, 34, 35, 36, 37, 38, 39, 40, 41, 42, 43, 44, 45, 46, 47, 48, 49, 50, 51, 52] (by decide +kernel) (by decide +kernel)) (goodIn_sub (fun _ h => List.mem_cons_of_mem _ (List.mem_append_right _ h)) (by decide +kernel))
set_option maxRecDepth 20000 in
theorem gX4_grows_X4_taken : GoodIn wsX4_grows (wsV RX4 163 RX4 yX4_taken wsX4_taken) := goodIn_app (goodIn_of _ (by decide +kernel)) ggX4_grows_X4_taken
set_option maxRecDepth 20000 in
theorem ggX4_grows_X4_finds : GoodIn wsX4_grows wsX4_finds := goodIn_ca (goodIn_r _ [22, 23, 24, 25, 26, 27, 28, 29, 30, 31, 32, 33, 34, 35, 36, 37, 38, 39, 40, 41, 42, 43, 44, 45, 46, 47, 48, 49, 50, 51, 52] (by decide +kernel) (by decide +kernel)) (goodIn_sub (fun _ h => List.mem_cons_of_mem _ (List.mem_append_right _ h)) (by decide +kernel))
set_option maxRecDepth 20000 in
theorem gX4_grows_X4_finds : GoodIn wsX4_grows (wsV RX4 97 RX4 yX4_finds wsX4_finds) := goodIn_app (goodIn_of _ (by decide +kernel)) ggX4_grows_X4_finds
theorem dX4_grows_0 : decode cX4_grows 0 = .ok (.aload_n 0, 1) := by decide +kernel
theorem dX4_grows_1 : decode cX4_grows 1 = .ok (.iload_n 1, 1) := by decide +kernel
theorem dX4_grows_2 : decode cX4_grows 2 = .ok (.iconst 4, 1) := by decide +kernel
theorem dX4_grows_3 : decode cX4_grows 3 = .ok (.iload_n 2, 1) := by decide +kernel
theorem dX4_grows_4 : decode cX4_grows 4 = .ok (.invokevirtual 163, 3) := by decide +kernel
theorem dX4_grows_7 : decode cX4_grows 7 = .ok (.istore_n 3, 1) := by decide +kernel
theorem dX4_grows_8 : decode cX4_grows 8 = .ok (.iload_n 3, 1) := by decide +kernel
theorem dX4_grows_9 : decode cX4_grows 9 = .ok (.ifCond .eq 9, 3) := by decide +kernel
theorem dX4_grows_12 : decode cX4_grows 12 = .ok (.aload_n 0, 1) := by decide +kernel
theorem dX4_grows_13 : decode cX4_grows 13 = .ok (.iload_n 3, 1) := by decide +kernel
theorem dX4_grows_14 : decode cX4_grows 14 = .ok (.invokevirtual 97, 3) := by decide +kernel
theorem dX4_grows_17 : decode cX4_grows 17 = .ok (.ireturn, 1) := by decide +kernel
theorem dX4_grows_18 : decode cX4_grows 18 = .ok (.aload_n 0, 1) := by decide +kernel
theorem dX4_grows_19 : decode cX4_grows 19 = .ok (.getfield 19, 3) := by decide +kernel
theorem dX4_grows_22 : decode cX4_grows 22 = .ok (.bipush 6, 2) := by decide +kernel
theorem dX4_grows_24 : decode cX4_grows 24 = .ok (.iload_n 1, 1) := by decide +kernel
theorem dX4_grows_25 : decode cX4_grows 25 = .ok (.imul, 1) := by decide +kernel
theorem dX4_grows_26 : decode cX4_grows 26 = .ok (.iload_n 2, 1) := by decide +kernel
theorem dX4_grows_27 : decode cX4_grows 27 = .ok (.iadd, 1) := by decide +kernel
theorem dX4_grows_28 : decode cX4_grows 28 = .ok (.aload_n 0, 1) := by decide +kernel
theorem dX4_grows_29 : decode cX4_grows 29 = .ok (.getfield 19, 3) := by decide +kernel
theorem dX4_grows_32 : decode cX4_grows 32 = .ok (.bipush 6, 2) := by decide +kernel
theorem dX4_grows_34 : decode cX4_grows 34 = .ok (.iload_n 1, 1) := by decide +kernel
theorem dX4_grows_35 : decode cX4_grows 35 = .ok (.imul, 1) := by decide +kernel
theorem dX4_grows_36 : decode cX4_grows 36 = .ok (.iload_n 2, 1) := by decide +kernel
theorem dX4_grows_37 : decode cX4_grows 37 = .ok (.iadd, 1) := by decide +kernel
theorem dX4_grows_38 : decode cX4_grows 38 = .ok (.laload, 1) := by decide +kernel
theorem dX4_grows_39 : decode cX4_grows 39 = .ok (.lconst 1, 1) := by decide +kernel
theorem dX4_grows_40 : decode cX4_grows 40 = .ok (.ladd, 1) := by decide +kernel
theorem dX4_grows_41 : decode cX4_grows 41 = .ok (.l2i, 1) := by decide +kernel
theorem dX4_grows_42 : decode cX4_grows 42 = .ok (.i2l, 1) := by decide +kernel
theorem dX4_grows_43 : decode cX4_grows 43 = .ok (.lastore, 1) := by decide +kernel
theorem dX4_grows_44 : decode cX4_grows 44 = .ok (.iconst 1, 1) := by decide +kernel
theorem dX4_grows_45 : decode cX4_grows 45 = .ok (.ireturn, 1) := by decide +kernel
set_option maxRecDepth 20000 in
theorem ggX4_acts_X4_lays : GoodIn wsX4_acts wsX4_lays := goodIn_ca (goodIn_r _ [9, 10, 11, 12, 13, 14, 15, 8, 16, 17, 18, 19, 20, 21, 22, 23, 24, 25, 26, 27, 28, 29, 30, 44, 45, 46, 47, 48, 49, 50, 51, 52, 53, 54, 55, 56, 57, 58, 59, 60, 61, 62, 63, 64, 65, 66, 67, 68, 69, 70, 71, 72] (by decide +kernel) (by decide +kernel)) (goodIn_sub (fun _ h => List.mem_cons_of_mem _ (List.mem_append_right _ h)) (by decide +kernel))
set_option maxRecDepth 20000 in
theorem gX4_acts_X4_lays : GoodIn wsX4_acts (wsV RX4 104 RX4 yX4_lays wsX4_lays) := goodIn_app (goodIn_of _ (by decide +kernel)) ggX4_acts_X4_lays
set_option maxRecDepth 20000 in
theorem ggX4_acts_X4_halves : GoodIn wsX4_acts wsX4_halves := goodIn_ca (goodIn_r _ [34, 12, 13, 14, 15, 8, 16, 11, 17, 18, 19, 23, 24, 25, 26, 27, 44, 45, 46, 47, 48, 49, 50, 51, 52, 53, 54, 55, 56, 57, 58, 59, 60, 61, 62, 63, 64, 65, 66, 67, 68, 69, 70, 71, 72] (by decide +kernel) (by decide +kernel)) (goodIn_sub (fun _ h => List.mem_cons_of_mem _ (List.mem_append_right _ h)) (by decide +kernel))
set_option maxRecDepth 20000 in
theorem gX4_acts_X4_halves : GoodIn wsX4_acts (wsV RX4 114 RX4 yX4_halves wsX4_halves) := goodIn_app (goodIn_of _ (by decide +kernel)) ggX4_acts_X4_halves
set_option maxRecDepth 20000 in
theorem ggX4_acts_X4_grows : GoodIn wsX4_acts wsX4_grows := goodIn_ca (goodIn_r _ [38, 39, 40, 41, 42, 8, 43, 10, 13, 14, 15, 16, 11, 17, 18, 19, 28, 29, 30, 23, 24, 25, 26, 27, 44, 45, 46, 47, 48, 49, 50, 51, 52, 53, 54, 55, 56, 57, 58, 59, 60, 61, 62, 63, 64, 65, 66, 67, 68, 69, 70, 71, 72] (by decide +kernel) (by decide +kernel)) (goodIn_sub (fun _ h => List.mem_cons_of_mem _ (List.mem_append_right _ h)) (by decide +kernel))
set_option maxRecDepth 20000 in
theorem gX4_acts_X4_grows : GoodIn wsX4_acts (wsV RX4 186 RX4 yX4_grows wsX4_grows) := goodIn_app (goodIn_of _ (by decide +kernel)) ggX4_acts_X4_grows
theorem dX4_acts_0 : decode cX4_acts 0 = .ok (.aload_n 0, 1) := by decide +kernel
theorem dX4_acts_1 : decode cX4_acts 1 = .ok (.getfield 56, 3) := by decide +kernel
theorem dX4_acts_4 : decode cX4_acts 4 = .ok (.iconst 0, 1) := by decide +kernel
theorem dX4_acts_5 : decode cX4_acts 5 = .ok (.iaload, 1) := by decide +kernel
theorem dX4_acts_6 : decode cX4_acts 6 = .ok (.istore_n 2, 1) := by decide +kernel
theorem dX4_acts_7 : decode cX4_acts 7 = .ok (.aload_n 0, 1) := by decide +kernel
theorem dX4_acts_8 : decode cX4_acts 8 = .ok (.getfield 41, 3) := by decide +kernel
theorem dX4_acts_11 : decode cX4_acts 11 = .ok (.iload_n 1, 1) := by decide +kernel
theorem dX4_acts_12 : decode cX4_acts 12 = .ok (.iaload, 1) := by decide +kernel
theorem dX4_acts_13 : decode cX4_acts 13 = .ok (.tableswitch 118 1 5 #[35, 59, 72, 85, 106], 35) := by decide +kernel
theorem dX4_acts_48 : decode cX4_acts 48 = .ok (.aload_n 0, 1) := by decide +kernel
theorem dX4_acts_49 : decode cX4_acts 49 = .ok (.iload_n 2, 1) := by decide +kernel
theorem dX4_acts_50 : decode cX4_acts 50 = .ok (.aload_n 0, 1) := by decide +kernel
theorem dX4_acts_51 : decode cX4_acts 51 = .ok (.getfield 44, 3) := by decide +kernel
theorem dX4_acts_54 : decode cX4_acts 54 = .ok (.iload_n 1, 1) := by decide +kernel
theorem dX4_acts_55 : decode cX4_acts 55 = .ok (.iaload, 1) := by decide +kernel
theorem dX4_acts_56 : decode cX4_acts 56 = .ok (.aload_n 0, 1) := by decide +kernel
theorem dX4_acts_57 : decode cX4_acts 57 = .ok (.getfield 47, 3) := by decide +kernel
theorem dX4_acts_60 : decode cX4_acts 60 = .ok (.iload_n 1, 1) := by decide +kernel
theorem dX4_acts_61 : decode cX4_acts 61 = .ok (.iaload, 1) := by decide +kernel
theorem dX4_acts_62 : decode cX4_acts 62 = .ok (.aload_n 0, 1) := by decide +kernel
theorem dX4_acts_63 : decode cX4_acts 63 = .ok (.getfield 56, 3) := by decide +kernel
theorem dX4_acts_66 : decode cX4_acts 66 = .ok (.iconst 1, 1) := by decide +kernel
theorem dX4_acts_67 : decode cX4_acts 67 = .ok (.iaload, 1) := by decide +kernel
theorem dX4_acts_68 : decode cX4_acts 68 = .ok (.invokevirtual 104, 3) := by decide +kernel
theorem dX4_acts_71 : decode cX4_acts 71 = .ok (.ireturn, 1) := by decide +kernel
theorem dX4_acts_72 : decode cX4_acts 72 = .ok (.aload_n 0, 1) := by decide +kernel
theorem dX4_acts_73 : decode cX4_acts 73 = .ok (.iload_n 2, 1) := by decide +kernel
theorem dX4_acts_74 : decode cX4_acts 74 = .ok (.iconst 0, 1) := by decide +kernel
theorem dX4_acts_75 : decode cX4_acts 75 = .ok (.aload_n 0, 1) := by decide +kernel
theorem dX4_acts_76 : decode cX4_acts 76 = .ok (.getfield 56, 3) := by decide +kernel
theorem dX4_acts_79 : decode cX4_acts 79 = .ok (.iconst 1, 1) := by decide +kernel
theorem dX4_acts_80 : decode cX4_acts 80 = .ok (.iaload, 1) := by decide +kernel
theorem dX4_acts_81 : decode cX4_acts 81 = .ok (.invokevirtual 114, 3) := by decide +kernel
theorem dX4_acts_84 : decode cX4_acts 84 = .ok (.ireturn, 1) := by decide +kernel
theorem dX4_acts_85 : decode cX4_acts 85 = .ok (.aload_n 0, 1) := by decide +kernel
theorem dX4_acts_86 : decode cX4_acts 86 = .ok (.iload_n 2, 1) := by decide +kernel
theorem dX4_acts_87 : decode cX4_acts 87 = .ok (.iconst 1, 1) := by decide +kernel
theorem dX4_acts_88 : decode cX4_acts 88 = .ok (.aload_n 0, 1) := by decide +kernel
theorem dX4_acts_89 : decode cX4_acts 89 = .ok (.getfield 56, 3) := by decide +kernel
theorem dX4_acts_92 : decode cX4_acts 92 = .ok (.iconst 1, 1) := by decide +kernel
theorem dX4_acts_93 : decode cX4_acts 93 = .ok (.iaload, 1) := by decide +kernel
theorem dX4_acts_94 : decode cX4_acts 94 = .ok (.invokevirtual 114, 3) := by decide +kernel
theorem dX4_acts_97 : decode cX4_acts 97 = .ok (.ireturn, 1) := by decide +kernel
theorem dX4_acts_98 : decode cX4_acts 98 = .ok (.aload_n 0, 1) := by decide +kernel
theorem dX4_acts_99 : decode cX4_acts 99 = .ok (.getfield 56, 3) := by decide +kernel
theorem dX4_acts_102 : decode cX4_acts 102 = .ok (.iconst 0, 1) := by decide +kernel
theorem dX4_acts_103 : decode cX4_acts 103 = .ok (.aload_n 0, 1) := by decide +kernel
theorem dX4_acts_104 : decode cX4_acts 104 = .ok (.getfield 56, 3) := by decide +kernel
theorem dX4_acts_107 : decode cX4_acts 107 = .ok (.iconst 1, 1) := by decide +kernel
theorem dX4_acts_108 : decode cX4_acts 108 = .ok (.iaload, 1) := by decide +kernel
theorem dX4_acts_109 : decode cX4_acts 109 = .ok (.iastore, 1) := by decide +kernel
theorem dX4_acts_110 : decode cX4_acts 110 = .ok (.aload_n 0, 1) := by decide +kernel
theorem dX4_acts_111 : decode cX4_acts 111 = .ok (.getfield 56, 3) := by decide +kernel
theorem dX4_acts_114 : decode cX4_acts 114 = .ok (.iconst 1, 1) := by decide +kernel
theorem dX4_acts_115 : decode cX4_acts 115 = .ok (.iload_n 2, 1) := by decide +kernel
theorem dX4_acts_116 : decode cX4_acts 116 = .ok (.iastore, 1) := by decide +kernel
theorem dX4_acts_117 : decode cX4_acts 117 = .ok (.iconst 1, 1) := by decide +kernel
theorem dX4_acts_118 : decode cX4_acts 118 = .ok (.ireturn, 1) := by decide +kernel
theorem dX4_acts_119 : decode cX4_acts 119 = .ok (.aload_n 0, 1) := by decide +kernel
theorem dX4_acts_120 : decode cX4_acts 120 = .ok (.iload_n 2, 1) := by decide +kernel
theorem dX4_acts_121 : decode cX4_acts 121 = .ok (.aload_n 0, 1) := by decide +kernel
theorem dX4_acts_122 : decode cX4_acts 122 = .ok (.getfield 47, 3) := by decide +kernel
theorem dX4_acts_125 : decode cX4_acts 125 = .ok (.iload_n 1, 1) := by decide +kernel
theorem dX4_acts_126 : decode cX4_acts 126 = .ok (.iaload, 1) := by decide +kernel
theorem dX4_acts_127 : decode cX4_acts 127 = .ok (.invokevirtual 186, 3) := by decide +kernel
theorem dX4_acts_130 : decode cX4_acts 130 = .ok (.ireturn, 1) := by decide +kernel
theorem dX4_acts_131 : decode cX4_acts 131 = .ok (.iconst 1, 1) := by decide +kernel
theorem dX4_acts_132 : decode cX4_acts 132 = .ok (.ireturn, 1) := by decide +kernel
set_option maxRecDepth 20000 in
theorem ggX4_apply_X4_isThing : GoodIn wsX4_apply wsX4_isThing := goodIn_r _ [10, 11, 12, 13, 9, 14, 110, 111, 112, 113, 114, 115, 116, 117, 118, 119, 120, 121, 122, 123, 124, 125, 126, 127, 128, 129, 130, 131, 132, 133, 134, 135, 136, 137, 138] (by decide +kernel) (by decide +kernel)
set_option maxRecDepth 20000 in
theorem gX4_apply_X4_isThing : GoodIn wsX4_apply (wsV RX4 85 RX4 yX4_isThing wsX4_isThing) := goodIn_app (goodIn_of _ (by decide +kernel)) ggX4_apply_X4_isThing
set_option maxRecDepth 20000 in
theorem ggX4_apply_X4_matches : GoodIn wsX4_apply wsX4_matches := goodIn_ca (goodIn_r _ [18, 19, 20, 21, 22, 23, 24, 25, 26, 27, 28, 29, 30, 9, 31, 32, 33, 34, 35, 36, 37, 38, 39, 40, 41, 42, 43, 44, 45, 46, 47, 48, 49, 50, 51, 52, 53, 54, 55, 56, 57, 58, 59, 60, 61, 62, 63, 64, 65, 66, 67, 68, 69, 70, 12, 13, 14, 71, 72, 73, 74, 75, 76, 77, 78, 79, 80, 81, 82, 83, 84, 85, 86, 87, 110, 111, 112, 113, 114, 115, 116, 117, 118, 119, 120, 121, 122, 123, 124, 125, 126, 127, 128, 129, 130, 131, 132, 133, 134, 135, 136, 137, 138] (by decide +kernel) (by decide +kernel)) (goodIn_sub (fun _ h => List.mem_cons_of_mem _ (List.mem_append_right _ h)) (by decide +kernel))
set_option maxRecDepth 20000 in
theorem gX4_apply_X4_matches : GoodIn wsX4_apply (wsV RX4 180 RX4 yX4_matches wsX4_matches) := goodIn_app (goodIn_of _ (by decide +kernel)) ggX4_apply_X4_matches
set_option maxRecDepth 20000 in
theorem ggX4_apply_X4_acts : GoodIn wsX4_apply wsX4_acts := goodIn_ca (goodIn_r _ [91, 20, 92, 93, 94, 95, 96, 97, 9, 98, 66, 46, 40, 54, 55, 56, 57, 47, 48, 49, 99, 100, 101, 83, 84, 85, 86, 87, 12, 13, 14, 102, 103, 104, 105, 106, 107, 108, 109, 41, 67, 68, 69, 70, 110, 111, 112, 113, 114, 115, 116, 117, 118, 119, 120, 121, 122, 123, 124, 125, 126, 127, 128, 129, 130, 131, 132, 133, 134, 135, 136, 137, 138] (by decide +kernel) (by decide +kernel)) (goodIn_sub (fun _ h => List.mem_cons_of_mem _ (List.mem_append_right _ h)) (by decide +kernel))
set_option maxRecDepth 20000 in
theorem gX4_apply_X4_acts : GoodIn wsX4_apply (wsV RX4 189 RX4 yX4_acts wsX4_acts) := goodIn_app (goodIn_of _ (by decide +kernel)) ggX4_apply_X4_acts
theorem dX4_apply_0 : decode cX4_apply 0 = .ok (.aload_n 0, 1) := by decide +kernel
theorem dX4_apply_1 : decode cX4_apply 1 = .ok (.iconst 0, 1) := by decide +kernel
theorem dX4_apply_2 : decode cX4_apply 2 = .ok (.putfield 74, 3) := by decide +kernel
theorem dX4_apply_5 : decode cX4_apply 5 = .ok (.aload_n 0, 1) := by decide +kernel
theorem dX4_apply_6 : decode cX4_apply 6 = .ok (.iload_n 1, 1) := by decide +kernel
theorem dX4_apply_7 : decode cX4_apply 7 = .ok (.invokevirtual 85, 3) := by decide +kernel
theorem dX4_apply_10 : decode cX4_apply 10 = .ok (.ifCond .ne 5, 3) := by decide +kernel
theorem dX4_apply_13 : decode cX4_apply 13 = .ok (.iconst (-1), 1) := by decide +kernel
theorem dX4_apply_14 : decode cX4_apply 14 = .ok (.ireturn, 1) := by decide +kernel
theorem dX4_apply_15 : decode cX4_apply 15 = .ok (.iconst 0, 1) := by decide +kernel
theorem dX4_apply_16 : decode cX4_apply 16 = .ok (.istore_n 2, 1) := by decide +kernel
theorem dX4_apply_17 : decode cX4_apply 17 = .ok (.iload_n 2, 1) := by decide +kernel
theorem dX4_apply_18 : decode cX4_apply 18 = .ok (.aload_n 0, 1) := by decide +kernel
theorem dX4_apply_19 : decode cX4_apply 19 = .ok (.getfield 183, 3) := by decide +kernel
theorem dX4_apply_22 : decode cX4_apply 22 = .ok (.if_icmp .ge 73, 3) := by decide +kernel
theorem dX4_apply_25 : decode cX4_apply 25 = .ok (.aload_n 0, 1) := by decide +kernel
theorem dX4_apply_26 : decode cX4_apply 26 = .ok (.aload_n 0, 1) := by decide +kernel
theorem dX4_apply_27 : decode cX4_apply 27 = .ok (.getfield 38, 3) := by decide +kernel
theorem dX4_apply_30 : decode cX4_apply 30 = .ok (.iload_n 2, 1) := by decide +kernel
theorem dX4_apply_31 : decode cX4_apply 31 = .ok (.iaload, 1) := by decide +kernel
theorem dX4_apply_32 : decode cX4_apply 32 = .ok (.iload_n 1, 1) := by decide +kernel
theorem dX4_apply_33 : decode cX4_apply 33 = .ok (.invokevirtual 180, 3) := by decide +kernel
theorem dX4_apply_36 : decode cX4_apply 36 = .ok (.istore_n 3, 1) := by decide +kernel
theorem dX4_apply_37 : decode cX4_apply 37 = .ok (.aload_n 0, 1) := by decide +kernel
theorem dX4_apply_38 : decode cX4_apply 38 = .ok (.getfield 53, 3) := by decide +kernel
theorem dX4_apply_41 : decode cX4_apply 41 = .ok (.iload_n 2, 1) := by decide +kernel
theorem dX4_apply_42 : decode cX4_apply 42 = .ok (.dup2, 1) := by decide +kernel
theorem dX4_apply_43 : decode cX4_apply 43 = .ok (.iaload, 1) := by decide +kernel
theorem dX4_apply_44 : decode cX4_apply 44 = .ok (.iload_n 3, 1) := by decide +kernel
theorem dX4_apply_45 : decode cX4_apply 45 = .ok (.ifCond .ge 7, 3) := by decide +kernel
theorem dX4_apply_48 : decode cX4_apply 48 = .ok (.iconst 1, 1) := by decide +kernel
theorem dX4_apply_49 : decode cX4_apply 49 = .ok (.goto 4, 3) := by decide +kernel
theorem dX4_apply_52 : decode cX4_apply 52 = .ok (.iconst 0, 1) := by decide +kernel
theorem dX4_apply_53 : decode cX4_apply 53 = .ok (.iadd, 1) := by decide +kernel
theorem dX4_apply_54 : decode cX4_apply 54 = .ok (.iastore, 1) := by decide +kernel
theorem dX4_apply_55 : decode cX4_apply 55 = .ok (.iload_n 3, 1) := by decide +kernel
theorem dX4_apply_56 : decode cX4_apply 56 = .ok (.iconst 1, 1) := by decide +kernel
theorem dX4_apply_57 : decode cX4_apply 57 = .ok (.if_icmp .ne 32, 3) := by decide +kernel
theorem dX4_apply_60 : decode cX4_apply 60 = .ok (.aload_n 0, 1) := by decide +kernel
theorem dX4_apply_61 : decode cX4_apply 61 = .ok (.getfield 50, 3) := by decide +kernel
theorem dX4_apply_64 : decode cX4_apply 64 = .ok (.iload_n 2, 1) := by decide +kernel
theorem dX4_apply_65 : decode cX4_apply 65 = .ok (.dup2, 1) := by decide +kernel
theorem dX4_apply_66 : decode cX4_apply 66 = .ok (.iaload, 1) := by decide +kernel
theorem dX4_apply_67 : decode cX4_apply 67 = .ok (.iconst 1, 1) := by decide +kernel
theorem dX4_apply_68 : decode cX4_apply 68 = .ok (.iadd, 1) := by decide +kernel
theorem dX4_apply_69 : decode cX4_apply 69 = .ok (.iastore, 1) := by decide +kernel
theorem dX4_apply_70 : decode cX4_apply 70 = .ok (.aload_n 0, 1) := by decide +kernel
theorem dX4_apply_71 : decode cX4_apply 71 = .ok (.iload_n 2, 1) := by decide +kernel
theorem dX4_apply_72 : decode cX4_apply 72 = .ok (.invokevirtual 189, 3) := by decide +kernel
theorem dX4_apply_75 : decode cX4_apply 75 = .ok (.istore 4, 2) := by decide +kernel
theorem dX4_apply_77 : decode cX4_apply 77 = .ok (.iload 4, 2) := by decide +kernel
theorem dX4_apply_79 : decode cX4_apply 79 = .ok (.ifCond .ge 8, 3) := by decide +kernel
theorem dX4_apply_82 : decode cX4_apply 82 = .ok (.iload 4, 2) := by decide +kernel
theorem dX4_apply_84 : decode cX4_apply 84 = .ok (.goto 4, 3) := by decide +kernel
theorem dX4_apply_87 : decode cX4_apply 87 = .ok (.iload_n 2, 1) := by decide +kernel
theorem dX4_apply_88 : decode cX4_apply 88 = .ok (.ireturn, 1) := by decide +kernel
theorem dX4_apply_89 : decode cX4_apply 89 = .ok (.iinc 2 1, 3) := by decide +kernel
theorem dX4_apply_92 : decode cX4_apply 92 = .ok (.goto (-75), 3) := by decide +kernel
theorem dX4_apply_95 : decode cX4_apply 95 = .ok (.bipush (-5), 2) := by decide +kernel
theorem dX4_apply_97 : decode cX4_apply 97 = .ok (.ireturn, 1) := by decide +kernel
set_option maxRecDepth 20000 in
theorem ggX4_told_X4_in : GoodIn wsX4_told wsX4_in := goodIn_r _ [8] (by decide +kernel) (by decide +kernel)
set_option maxRecDepth 20000 in
theorem gX4_told_X4_in : GoodIn wsX4_told (va_wsS RX4 81 yX4_in wsX4_in) := goodIn_app (goodIn_of _ (by decide +kernel)) ggX4_told_X4_in
theorem dX4_told_0 : decode cX4_told 0 = .ok (.aload_n 0, 1) := by decide +kernel
theorem dX4_told_1 : decode cX4_told 1 = .ok (.iconst 0, 1) := by decide +kernel
theorem dX4_told_2 : decode cX4_told 2 = .ok (.putfield 74, 3) := by decide +kernel
theorem dX4_told_5 : decode cX4_told 5 = .ok (.iload_n 1, 1) := by decide +kernel
theorem dX4_told_6 : decode cX4_told 6 = .ok (.iconst 0, 1) := by decide +kernel
theorem dX4_told_7 : decode cX4_told 7 = .ok (.aload_n 0, 1) := by decide +kernel
theorem dX4_told_8 : decode cX4_told 8 = .ok (.getfield 183, 3) := by decide +kernel
theorem dX4_told_11 : decode cX4_told 11 = .ok (.iconst 1, 1) := by decide +kernel
theorem dX4_told_12 : decode cX4_told 12 = .ok (.isub, 1) := by decide +kernel
theorem dX4_told_13 : decode cX4_told 13 = .ok (.invokestatic 81, 3) := by decide +kernel
theorem dX4_told_16 : decode cX4_told 16 = .ok (.ifCond .ne 5, 3) := by decide +kernel
theorem dX4_told_19 : decode cX4_told 19 = .ok (.iconst (-1), 1) := by decide +kernel
theorem dX4_told_20 : decode cX4_told 20 = .ok (.ireturn, 1) := by decide +kernel
theorem dX4_told_21 : decode cX4_told 21 = .ok (.iload_n 2, 1) := by decide +kernel
theorem dX4_told_22 : decode cX4_told 22 = .ok (.ifCond .ne 12, 3) := by decide +kernel
theorem dX4_told_25 : decode cX4_told 25 = .ok (.aload_n 0, 1) := by decide +kernel
theorem dX4_told_26 : decode cX4_told 26 = .ok (.getfield 50, 3) := by decide +kernel
theorem dX4_told_29 : decode cX4_told 29 = .ok (.iload_n 1, 1) := by decide +kernel
theorem dX4_told_30 : decode cX4_told 30 = .ok (.iaload, 1) := by decide +kernel
theorem dX4_told_31 : decode cX4_told 31 = .ok (.goto 19, 3) := by decide +kernel
theorem dX4_told_34 : decode cX4_told 34 = .ok (.iload_n 2, 1) := by decide +kernel
theorem dX4_told_35 : decode cX4_told 35 = .ok (.iconst 1, 1) := by decide +kernel
theorem dX4_told_36 : decode cX4_told 36 = .ok (.if_icmp .ne 12, 3) := by decide +kernel
theorem dX4_told_39 : decode cX4_told 39 = .ok (.aload_n 0, 1) := by decide +kernel
theorem dX4_told_40 : decode cX4_told 40 = .ok (.getfield 53, 3) := by decide +kernel
theorem dX4_told_43 : decode cX4_told 43 = .ok (.iload_n 1, 1) := by decide +kernel
theorem dX4_told_44 : decode cX4_told 44 = .ok (.iaload, 1) := by decide +kernel
theorem dX4_told_45 : decode cX4_told 45 = .ok (.goto 5, 3) := by decide +kernel
theorem dX4_told_48 : decode cX4_told 48 = .ok (.bipush (-2), 2) := by decide +kernel
theorem dX4_told_50 : decode cX4_told 50 = .ok (.ireturn, 1) := by decide +kernel
set_option maxRecDepth 20000 in
theorem ggX4_count_X4_in : GoodIn wsX4_count wsX4_in := goodIn_r _ [10] (by decide +kernel) (by decide +kernel)
set_option maxRecDepth 20000 in
theorem gX4_count_X4_in : GoodIn wsX4_count (va_wsS RX4 81 yX4_in wsX4_in) := goodIn_app (goodIn_of _ (by decide +kernel)) ggX4_count_X4_in
theorem dX4_count_0 : decode cX4_count 0 = .ok (.aload_n 0, 1) := by decide +kernel
theorem dX4_count_1 : decode cX4_count 1 = .ok (.iconst 0, 1) := by decide +kernel
theorem dX4_count_2 : decode cX4_count 2 = .ok (.putfield 74, 3) := by decide +kernel
theorem dX4_count_5 : decode cX4_count 5 = .ok (.iload_n 1, 1) := by decide +kernel
theorem dX4_count_6 : decode cX4_count 6 = .ok (.tableswitch 50 0 3 #[30, 35, 40, 45], 30) := by decide +kernel
theorem dX4_count_36 : decode cX4_count 36 = .ok (.aload_n 0, 1) := by decide +kernel
theorem dX4_count_37 : decode cX4_count 37 = .ok (.getfield 78, 3) := by decide +kernel
theorem dX4_count_40 : decode cX4_count 40 = .ok (.ireturn, 1) := by decide +kernel
theorem dX4_count_41 : decode cX4_count 41 = .ok (.aload_n 0, 1) := by decide +kernel
theorem dX4_count_42 : decode cX4_count 42 = .ok (.getfield 122, 3) := by decide +kernel
theorem dX4_count_45 : decode cX4_count 45 = .ok (.ireturn, 1) := by decide +kernel
theorem dX4_count_46 : decode cX4_count 46 = .ok (.aload_n 0, 1) := by decide +kernel
theorem dX4_count_47 : decode cX4_count 47 = .ok (.getfield 183, 3) := by decide +kernel
theorem dX4_count_50 : decode cX4_count 50 = .ok (.ireturn, 1) := by decide +kernel
theorem dX4_count_51 : decode cX4_count 51 = .ok (.aload_n 0, 1) := by decide +kernel
theorem dX4_count_52 : decode cX4_count 52 = .ok (.getfield 138, 3) := by decide +kernel
theorem dX4_count_55 : decode cX4_count 55 = .ok (.ireturn, 1) := by decide +kernel
theorem dX4_count_56 : decode cX4_count 56 = .ok (.iload_n 1, 1) := by decide +kernel
theorem dX4_count_57 : decode cX4_count 57 = .ok (.iconst 4, 1) := by decide +kernel
theorem dX4_count_58 : decode cX4_count 58 = .ok (.bipush 9, 2) := by decide +kernel
theorem dX4_count_60 : decode cX4_count 60 = .ok (.invokestatic 81, 3) := by decide +kernel
theorem dX4_count_63 : decode cX4_count 63 = .ok (.ifCond .eq 14, 3) := by decide +kernel
theorem dX4_count_66 : decode cX4_count 66 = .ok (.aload_n 0, 1) := by decide +kernel
theorem dX4_count_67 : decode cX4_count 67 = .ok (.getfield 62, 3) := by decide +kernel
theorem dX4_count_70 : decode cX4_count 70 = .ok (.iload_n 1, 1) := by decide +kernel
theorem dX4_count_71 : decode cX4_count 71 = .ok (.iconst 3, 1) := by decide +kernel
theorem dX4_count_72 : decode cX4_count 72 = .ok (.isub, 1) := by decide +kernel
theorem dX4_count_73 : decode cX4_count 73 = .ok (.iaload, 1) := by decide +kernel
theorem dX4_count_74 : decode cX4_count 74 = .ok (.goto 5, 3) := by decide +kernel
theorem dX4_count_77 : decode cX4_count 77 = .ok (.bipush (-2), 2) := by decide +kernel
theorem dX4_count_79 : decode cX4_count 79 = .ok (.ireturn, 1) := by decide +kernel
theorem dX4_clear_0 : decode cX4_clear 0 = .ok (.aload_n 0, 1) := by decide +kernel
theorem dX4_clear_1 : decode cX4_clear 1 = .ok (.iconst 0, 1) := by decide +kernel
theorem dX4_clear_2 : decode cX4_clear 2 = .ok (.putfield 74, 3) := by decide +kernel
theorem dX4_clear_5 : decode cX4_clear 5 = .ok (.aload_n 0, 1) := by decide +kernel
theorem dX4_clear_6 : decode cX4_clear 6 = .ok (.getfield 78, 3) := by decide +kernel
theorem dX4_clear_9 : decode cX4_clear 9 = .ok (.istore_n 1, 1) := by decide +kernel
theorem dX4_clear_10 : decode cX4_clear 10 = .ok (.aload_n 0, 1) := by decide +kernel
theorem dX4_clear_11 : decode cX4_clear 11 = .ok (.iconst 0, 1) := by decide +kernel
theorem dX4_clear_12 : decode cX4_clear 12 = .ok (.putfield 78, 3) := by decide +kernel
theorem dX4_clear_15 : decode cX4_clear 15 = .ok (.aload_n 0, 1) := by decide +kernel
theorem dX4_clear_16 : decode cX4_clear 16 = .ok (.iconst 0, 1) := by decide +kernel
theorem dX4_clear_17 : decode cX4_clear 17 = .ok (.putfield 122, 3) := by decide +kernel
theorem dX4_clear_20 : decode cX4_clear 20 = .ok (.aload_n 0, 1) := by decide +kernel
theorem dX4_clear_21 : decode cX4_clear 21 = .ok (.iconst 0, 1) := by decide +kernel
theorem dX4_clear_22 : decode cX4_clear 22 = .ok (.putfield 183, 3) := by decide +kernel
theorem dX4_clear_25 : decode cX4_clear 25 = .ok (.aload_n 0, 1) := by decide +kernel
theorem dX4_clear_26 : decode cX4_clear 26 = .ok (.iconst 0, 1) := by decide +kernel
theorem dX4_clear_27 : decode cX4_clear 27 = .ok (.putfield 138, 3) := by decide +kernel
theorem dX4_clear_30 : decode cX4_clear 30 = .ok (.iconst 0, 1) := by decide +kernel
theorem dX4_clear_31 : decode cX4_clear 31 = .ok (.istore_n 2, 1) := by decide +kernel
theorem dX4_clear_32 : decode cX4_clear 32 = .ok (.iload_n 2, 1) := by decide +kernel
theorem dX4_clear_33 : decode cX4_clear 33 = .ok (.iconst 4, 1) := by decide +kernel
theorem dX4_clear_34 : decode cX4_clear 34 = .ok (.if_icmp .ge 17, 3) := by decide +kernel
theorem dX4_clear_37 : decode cX4_clear 37 = .ok (.aload_n 0, 1) := by decide +kernel
theorem dX4_clear_38 : decode cX4_clear 38 = .ok (.getfield 56, 3) := by decide +kernel
theorem dX4_clear_41 : decode cX4_clear 41 = .ok (.iload_n 2, 1) := by decide +kernel
theorem dX4_clear_42 : decode cX4_clear 42 = .ok (.bipush (-5), 2) := by decide +kernel
theorem dX4_clear_44 : decode cX4_clear 44 = .ok (.iastore, 1) := by decide +kernel
theorem dX4_clear_45 : decode cX4_clear 45 = .ok (.iinc 2 1, 3) := by decide +kernel
theorem dX4_clear_48 : decode cX4_clear 48 = .ok (.goto (-16), 3) := by decide +kernel
theorem dX4_clear_51 : decode cX4_clear 51 = .ok (.iconst 0, 1) := by decide +kernel
theorem dX4_clear_52 : decode cX4_clear 52 = .ok (.istore_n 2, 1) := by decide +kernel
theorem dX4_clear_53 : decode cX4_clear 53 = .ok (.iload_n 2, 1) := by decide +kernel
theorem dX4_clear_54 : decode cX4_clear 54 = .ok (.bipush 7, 2) := by decide +kernel
theorem dX4_clear_56 : decode cX4_clear 56 = .ok (.if_icmp .ge 16, 3) := by decide +kernel
theorem dX4_clear_59 : decode cX4_clear 59 = .ok (.aload_n 0, 1) := by decide +kernel
theorem dX4_clear_60 : decode cX4_clear 60 = .ok (.getfield 62, 3) := by decide +kernel
theorem dX4_clear_63 : decode cX4_clear 63 = .ok (.iload_n 2, 1) := by decide +kernel
theorem dX4_clear_64 : decode cX4_clear 64 = .ok (.iconst 0, 1) := by decide +kernel
theorem dX4_clear_65 : decode cX4_clear 65 = .ok (.iastore, 1) := by decide +kernel
theorem dX4_clear_66 : decode cX4_clear 66 = .ok (.iinc 2 1, 3) := by decide +kernel
theorem dX4_clear_69 : decode cX4_clear 69 = .ok (.goto (-16), 3) := by decide +kernel
theorem dX4_clear_72 : decode cX4_clear 72 = .ok (.iload_n 1, 1) := by decide +kernel
theorem dX4_clear_73 : decode cX4_clear 73 = .ok (.ireturn, 1) := by decide +kernel
theorem dJx00060_init_da8c8_0 : decode cJx00060_init_da8c8 0 = .ok (.aload_n 0, 1) := by decide +kernel
theorem dJx00060_init_da8c8_1 : decode cJx00060_init_da8c8 1 = .ok (.invokespecial 1, 3) := by decide +kernel
theorem dJx00060_init_da8c8_4 : decode cJx00060_init_da8c8 4 = .ok (.return_, 1) := by decide +kernel
theorem dJx00060_init_a7421_0 : decode cJx00060_init_a7421 0 = .ok (.aload_n 0, 1) := by decide +kernel
theorem dJx00060_init_a7421_1 : decode cJx00060_init_a7421 1 = .ok (.aload_n 1, 1) := by decide +kernel
theorem dJx00060_init_a7421_2 : decode cJx00060_init_a7421 2 = .ok (.invokespecial 7, 3) := by decide +kernel
theorem dJx00060_init_a7421_5 : decode cJx00060_init_a7421 5 = .ok (.return_, 1) := by decide +kernel
theorem dJx3273f_init_da8c8_0 : decode cJx3273f_init_da8c8 0 = .ok (.aload_n 0, 1) := by decide +kernel
theorem dJx3273f_init_da8c8_1 : decode cJx3273f_init_da8c8 1 = .ok (.invokespecial 1, 3) := by decide +kernel
theorem dJx3273f_init_da8c8_4 : decode cJx3273f_init_da8c8 4 = .ok (.return_, 1) := by decide +kernel
theorem dJx3273f_init_a7421_0 : decode cJx3273f_init_a7421 0 = .ok (.aload_n 0, 1) := by decide +kernel
theorem dJx3273f_init_a7421_1 : decode cJx3273f_init_a7421 1 = .ok (.aload_n 1, 1) := by decide +kernel
theorem dJx3273f_init_a7421_2 : decode cJx3273f_init_a7421 2 = .ok (.invokespecial 7, 3) := by decide +kernel
theorem dJx3273f_init_a7421_5 : decode cJx3273f_init_a7421 5 = .ok (.return_, 1) := by decide +kernel
