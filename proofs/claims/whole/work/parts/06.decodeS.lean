theorem zd_Ma_position_0 : decode zc_Ma_position 0 = .ok (.aload_n 0, 1) := by decide +kernel
theorem zd_Ma_position_1 : decode zc_Ma_position 1 = .ok (.getfield 37, 3) := by decide +kernel
theorem zd_Ma_position_4 : decode zc_Ma_position 4 = .ok (.ireturn, 1) := by decide +kernel
theorem zd_Ma_isStopped_0 : decode zc_Ma_isStopped 0 = .ok (.aload_n 0, 1) := by decide +kernel
theorem zd_Ma_isStopped_1 : decode zc_Ma_isStopped 1 = .ok (.getfield 33, 3) := by decide +kernel
theorem zd_Ma_isStopped_4 : decode zc_Ma_isStopped 4 = .ok (.ireturn, 1) := by decide +kernel
theorem zd_Ma_allDone_0 : decode zc_Ma_allDone 0 = .ok (.aload_n 0, 1) := by decide +kernel
theorem zd_Ma_allDone_1 : decode zc_Ma_allDone 1 = .ok (.getfield 49, 3) := by decide +kernel
theorem zd_Ma_allDone_4 : decode zc_Ma_allDone 4 = .ok (.ireturn, 1) := by decide +kernel
theorem zd_Fi_size_0 : decode zc_Fi_size 0 = .ok (.aload_n 0, 1) := by decide +kernel
theorem zd_Fi_size_1 : decode zc_Fi_size 1 = .ok (.getfield 22, 3) := by decide +kernel
theorem zd_Fi_size_4 : decode zc_Fi_size 4 = .ok (.ireturn, 1) := by decide +kernel
theorem zd_Fi_allTimes_0 : decode zc_Fi_allTimes 0 = .ok (.iconst 0, 1) := by decide +kernel
theorem zd_Fi_allTimes_1 : decode zc_Fi_allTimes 1 = .ok (.istore_n 1, 1) := by decide +kernel
theorem zd_Fi_allTimes_2 : decode zc_Fi_allTimes 2 = .ok (.iconst 0, 1) := by decide +kernel
theorem zd_Fi_allTimes_3 : decode zc_Fi_allTimes 3 = .ok (.istore_n 2, 1) := by decide +kernel
theorem zd_Fi_allTimes_4 : decode zc_Fi_allTimes 4 = .ok (.iload_n 2, 1) := by decide +kernel
theorem zd_Fi_allTimes_5 : decode zc_Fi_allTimes 5 = .ok (.aload_n 0, 1) := by decide +kernel
theorem zd_Fi_allTimes_6 : decode zc_Fi_allTimes 6 = .ok (.getfield 22, 3) := by decide +kernel
theorem zd_Fi_allTimes_9 : decode zc_Fi_allTimes 9 = .ok (.if_icmp .ge 18, 3) := by decide +kernel
theorem zd_Fi_allTimes_12 : decode zc_Fi_allTimes 12 = .ok (.iload_n 1, 1) := by decide +kernel
theorem zd_Fi_allTimes_13 : decode zc_Fi_allTimes 13 = .ok (.aload_n 0, 1) := by decide +kernel
theorem zd_Fi_allTimes_14 : decode zc_Fi_allTimes 14 = .ok (.getfield 19, 3) := by decide +kernel
theorem zd_Fi_allTimes_17 : decode zc_Fi_allTimes 17 = .ok (.iload_n 2, 1) := by decide +kernel
theorem zd_Fi_allTimes_18 : decode zc_Fi_allTimes 18 = .ok (.iaload, 1) := by decide +kernel
theorem zd_Fi_allTimes_19 : decode zc_Fi_allTimes 19 = .ok (.iadd, 1) := by decide +kernel
theorem zd_Fi_allTimes_20 : decode zc_Fi_allTimes 20 = .ok (.istore_n 1, 1) := by decide +kernel
theorem zd_Fi_allTimes_21 : decode zc_Fi_allTimes 21 = .ok (.iinc 2 1, 3) := by decide +kernel
theorem zd_Fi_allTimes_24 : decode zc_Fi_allTimes 24 = .ok (.goto (-20), 3) := by decide +kernel
theorem zd_Fi_allTimes_27 : decode zc_Fi_allTimes 27 = .ok (.iload_n 1, 1) := by decide +kernel
theorem zd_Fi_allTimes_28 : decode zc_Fi_allTimes 28 = .ok (.ireturn, 1) := by decide +kernel
theorem zd_He_there_0 : decode zc_He_there 0 = .ok (.aload_n 0, 1) := by decide +kernel
theorem zd_He_there_1 : decode zc_He_there 1 = .ok (.getfield 29, 3) := by decide +kernel
theorem zd_He_there_4 : decode zc_He_there 4 = .ok (.ireturn, 1) := by decide +kernel
theorem zd_He_isLive_0 : decode zc_He_isLive 0 = .ok (.aload_n 0, 1) := by decide +kernel
theorem zd_He_isLive_1 : decode zc_He_isLive 1 = .ok (.getfield 26, 3) := by decide +kernel
theorem zd_He_isLive_4 : decode zc_He_isLive 4 = .ok (.iload_n 1, 1) := by decide +kernel
theorem zd_He_isLive_5 : decode zc_He_isLive 5 = .ok (.iaload, 1) := by decide +kernel
theorem zd_He_isLive_6 : decode zc_He_isLive 6 = .ok (.ifCond .ne 7, 3) := by decide +kernel
theorem zd_He_isLive_9 : decode zc_He_isLive 9 = .ok (.iconst 1, 1) := by decide +kernel
theorem zd_He_isLive_10 : decode zc_He_isLive 10 = .ok (.goto 4, 3) := by decide +kernel
theorem zd_He_isLive_13 : decode zc_He_isLive 13 = .ok (.iconst 0, 1) := by decide +kernel
theorem zd_He_isLive_14 : decode zc_He_isLive 14 = .ok (.ireturn, 1) := by decide +kernel
theorem zd_He_resting_0 : decode zc_He_resting 0 = .ok (.iconst 0, 1) := by decide +kernel
theorem zd_He_resting_1 : decode zc_He_resting 1 = .ok (.istore_n 1, 1) := by decide +kernel
theorem zd_He_resting_2 : decode zc_He_resting 2 = .ok (.iconst 0, 1) := by decide +kernel
theorem zd_He_resting_3 : decode zc_He_resting 3 = .ok (.istore_n 2, 1) := by decide +kernel
theorem zd_He_resting_4 : decode zc_He_resting 4 = .ok (.iload_n 2, 1) := by decide +kernel
theorem zd_He_resting_5 : decode zc_He_resting 5 = .ok (.aload_n 0, 1) := by decide +kernel
theorem zd_He_resting_6 : decode zc_He_resting 6 = .ok (.getfield 29, 3) := by decide +kernel
theorem zd_He_resting_9 : decode zc_He_resting 9 = .ok (.if_icmp .ge 20, 3) := by decide +kernel
theorem zd_He_resting_12 : decode zc_He_resting 12 = .ok (.aload_n 0, 1) := by decide +kernel
theorem zd_He_resting_13 : decode zc_He_resting 13 = .ok (.iload_n 2, 1) := by decide +kernel
theorem zd_He_resting_14 : decode zc_He_resting 14 = .ok (.invokevirtual 68, 3) := by decide +kernel
theorem zd_He_resting_17 : decode zc_He_resting 17 = .ok (.ifCond .ne 6, 3) := by decide +kernel
theorem zd_He_resting_20 : decode zc_He_resting 20 = .ok (.iinc 1 1, 3) := by decide +kernel
theorem zd_He_resting_23 : decode zc_He_resting 23 = .ok (.iinc 2 1, 3) := by decide +kernel
theorem zd_He_resting_26 : decode zc_He_resting 26 = .ok (.goto (-22), 3) := by decide +kernel
theorem zd_He_resting_29 : decode zc_He_resting 29 = .ok (.iload_n 1, 1) := by decide +kernel
theorem zd_He_resting_30 : decode zc_He_resting 30 = .ok (.ireturn, 1) := by decide +kernel
theorem zd_He_everGot_0 : decode zc_He_everGot 0 = .ok (.aload_n 0, 1) := by decide +kernel
theorem zd_He_everGot_1 : decode zc_He_everGot 1 = .ok (.getfield 51, 3) := by decide +kernel
theorem zd_He_everGot_4 : decode zc_He_everGot 4 = .ok (.ireturn, 1) := by decide +kernel
theorem zd_Pi_everTranslated_0 : decode zc_Pi_everTranslated 0 = .ok (.aload_n 0, 1) := by decide +kernel
theorem zd_Pi_everTranslated_1 : decode zc_Pi_everTranslated 1 = .ok (.getfield 27, 3) := by decide +kernel
theorem zd_Pi_everTranslated_4 : decode zc_Pi_everTranslated 4 = .ok (.ireturn, 1) := by decide +kernel
theorem zd_Pi_there_0 : decode zc_Pi_there 0 = .ok (.iconst 0, 1) := by decide +kernel
theorem zd_Pi_there_1 : decode zc_Pi_there 1 = .ok (.istore_n 1, 1) := by decide +kernel
theorem zd_Pi_there_2 : decode zc_Pi_there 2 = .ok (.iconst 0, 1) := by decide +kernel
theorem zd_Pi_there_3 : decode zc_Pi_there 3 = .ok (.istore_n 2, 1) := by decide +kernel
theorem zd_Pi_there_4 : decode zc_Pi_there 4 = .ok (.iload_n 2, 1) := by decide +kernel
theorem zd_Pi_there_5 : decode zc_Pi_there 5 = .ok (.bipush 32, 2) := by decide +kernel
theorem zd_Pi_there_7 : decode zc_Pi_there 7 = .ok (.if_icmp .ge 21, 3) := by decide +kernel
theorem zd_Pi_there_10 : decode zc_Pi_there 10 = .ok (.aload_n 0, 1) := by decide +kernel
theorem zd_Pi_there_11 : decode zc_Pi_there 11 = .ok (.getfield 15, 3) := by decide +kernel
theorem zd_Pi_there_14 : decode zc_Pi_there 14 = .ok (.iload_n 2, 1) := by decide +kernel
theorem zd_Pi_there_15 : decode zc_Pi_there 15 = .ok (.iaload, 1) := by decide +kernel
theorem zd_Pi_there_16 : decode zc_Pi_there 16 = .ok (.ifCond .le 6, 3) := by decide +kernel
theorem zd_Pi_there_19 : decode zc_Pi_there 19 = .ok (.iinc 1 1, 3) := by decide +kernel
theorem zd_Pi_there_22 : decode zc_Pi_there 22 = .ok (.iinc 2 1, 3) := by decide +kernel
theorem zd_Pi_there_25 : decode zc_Pi_there 25 = .ok (.goto (-21), 3) := by decide +kernel
theorem zd_Pi_there_28 : decode zc_Pi_there 28 = .ok (.iload_n 1, 1) := by decide +kernel
theorem zd_Pi_there_29 : decode zc_Pi_there 29 = .ok (.ireturn, 1) := by decide +kernel
theorem zd_SW_count_0 : decode zc_SW_count 0 = .ok (.iload_n 1, 1) := by decide +kernel
theorem zd_SW_count_1 : decode zc_SW_count 1 = .ok (.tableswitch 151 0 9 #[55, 63, 79, 87, 95, 103, 119, 127, 135, 143], 55) := by decide +kernel
theorem zd_SW_count_56 : decode zc_SW_count 56 = .ok (.aload_n 0, 1) := by decide +kernel
theorem zd_SW_count_57 : decode zc_SW_count 57 = .ok (.getfield 69, 3) := by decide +kernel
theorem zd_SW_count_60 : decode zc_SW_count 60 = .ok (.invokevirtual 170, 3) := by decide +kernel
theorem zd_SW_count_63 : decode zc_SW_count 63 = .ok (.ireturn, 1) := by decide +kernel
theorem zd_SW_count_64 : decode zc_SW_count 64 = .ok (.aload_n 0, 1) := by decide +kernel
theorem zd_SW_count_65 : decode zc_SW_count 65 = .ok (.getfield 69, 3) := by decide +kernel
theorem zd_SW_count_68 : decode zc_SW_count 68 = .ok (.invokevirtual 96, 3) := by decide +kernel
theorem zd_SW_count_71 : decode zc_SW_count 71 = .ok (.ifCond .eq 7, 3) := by decide +kernel
theorem zd_SW_count_74 : decode zc_SW_count 74 = .ok (.iconst 1, 1) := by decide +kernel
theorem zd_SW_count_75 : decode zc_SW_count 75 = .ok (.goto 4, 3) := by decide +kernel
theorem zd_SW_count_78 : decode zc_SW_count 78 = .ok (.iconst 0, 1) := by decide +kernel
theorem zd_SW_count_79 : decode zc_SW_count 79 = .ok (.ireturn, 1) := by decide +kernel
theorem zd_SW_count_80 : decode zc_SW_count 80 = .ok (.aload_n 0, 1) := by decide +kernel
theorem zd_SW_count_81 : decode zc_SW_count 81 = .ok (.getfield 69, 3) := by decide +kernel
theorem zd_SW_count_84 : decode zc_SW_count 84 = .ok (.invokevirtual 174, 3) := by decide +kernel
theorem zd_SW_count_87 : decode zc_SW_count 87 = .ok (.ireturn, 1) := by decide +kernel
theorem zd_SW_count_88 : decode zc_SW_count 88 = .ok (.aload_n 0, 1) := by decide +kernel
theorem zd_SW_count_89 : decode zc_SW_count 89 = .ok (.getfield 42, 3) := by decide +kernel
theorem zd_SW_count_92 : decode zc_SW_count 92 = .ok (.invokevirtual 177, 3) := by decide +kernel
theorem zd_SW_count_95 : decode zc_SW_count 95 = .ok (.ireturn, 1) := by decide +kernel
theorem zd_SW_count_96 : decode zc_SW_count 96 = .ok (.aload_n 0, 1) := by decide +kernel
theorem zd_SW_count_97 : decode zc_SW_count 97 = .ok (.getfield 42, 3) := by decide +kernel
theorem zd_SW_count_100 : decode zc_SW_count 100 = .ok (.invokevirtual 179, 3) := by decide +kernel
theorem zd_SW_count_103 : decode zc_SW_count 103 = .ok (.ireturn, 1) := by decide +kernel
theorem zd_SW_count_104 : decode zc_SW_count 104 = .ok (.aload_n 0, 1) := by decide +kernel
theorem zd_SW_count_105 : decode zc_SW_count 105 = .ok (.getfield 51, 3) := by decide +kernel
theorem zd_SW_count_108 : decode zc_SW_count 108 = .ok (.invokevirtual 182, 3) := by decide +kernel
theorem zd_SW_count_111 : decode zc_SW_count 111 = .ok (.aload_n 0, 1) := by decide +kernel
theorem zd_SW_count_112 : decode zc_SW_count 112 = .ok (.getfield 51, 3) := by decide +kernel
theorem zd_SW_count_115 : decode zc_SW_count 115 = .ok (.invokevirtual 185, 3) := by decide +kernel
theorem zd_SW_count_118 : decode zc_SW_count 118 = .ok (.isub, 1) := by decide +kernel
theorem zd_SW_count_119 : decode zc_SW_count 119 = .ok (.ireturn, 1) := by decide +kernel
theorem zd_SW_count_120 : decode zc_SW_count 120 = .ok (.aload_n 0, 1) := by decide +kernel
theorem zd_SW_count_121 : decode zc_SW_count 121 = .ok (.getfield 51, 3) := by decide +kernel
theorem zd_SW_count_124 : decode zc_SW_count 124 = .ok (.invokevirtual 185, 3) := by decide +kernel
theorem zd_SW_count_127 : decode zc_SW_count 127 = .ok (.ireturn, 1) := by decide +kernel
theorem zd_SW_count_128 : decode zc_SW_count 128 = .ok (.aload_n 0, 1) := by decide +kernel
theorem zd_SW_count_129 : decode zc_SW_count 129 = .ok (.getfield 51, 3) := by decide +kernel
theorem zd_SW_count_132 : decode zc_SW_count 132 = .ok (.invokevirtual 188, 3) := by decide +kernel
theorem zd_SW_count_135 : decode zc_SW_count 135 = .ok (.ireturn, 1) := by decide +kernel
theorem zd_SW_count_136 : decode zc_SW_count 136 = .ok (.aload_n 0, 1) := by decide +kernel
theorem zd_SW_count_137 : decode zc_SW_count 137 = .ok (.getfield 35, 3) := by decide +kernel
theorem zd_SW_count_140 : decode zc_SW_count 140 = .ok (.invokevirtual 191, 3) := by decide +kernel
theorem zd_SW_count_143 : decode zc_SW_count 143 = .ok (.ireturn, 1) := by decide +kernel
theorem zd_SW_count_144 : decode zc_SW_count 144 = .ok (.aload_n 0, 1) := by decide +kernel
theorem zd_SW_count_145 : decode zc_SW_count 145 = .ok (.getfield 35, 3) := by decide +kernel
theorem zd_SW_count_148 : decode zc_SW_count 148 = .ok (.invokevirtual 194, 3) := by decide +kernel
theorem zd_SW_count_151 : decode zc_SW_count 151 = .ok (.ireturn, 1) := by decide +kernel
theorem zd_SW_count_152 : decode zc_SW_count 152 = .ok (.iconst (-1), 1) := by decide +kernel
theorem zd_SW_count_153 : decode zc_SW_count 153 = .ok (.ireturn, 1) := by decide +kernel
theorem zd_SW_isWithin_0 : decode zc_SW_isWithin 0 = .ok (.iload_n 0, 1) := by decide +kernel
theorem zd_SW_isWithin_1 : decode zc_SW_isWithin 1 = .ok (.ifCond .lt 12, 3) := by decide +kernel
theorem zd_SW_isWithin_4 : decode zc_SW_isWithin 4 = .ok (.iload_n 0, 1) := by decide +kernel
theorem zd_SW_isWithin_5 : decode zc_SW_isWithin 5 = .ok (.iload_n 1, 1) := by decide +kernel
theorem zd_SW_isWithin_6 : decode zc_SW_isWithin 6 = .ok (.if_icmp .gt 7, 3) := by decide +kernel
theorem zd_SW_isWithin_9 : decode zc_SW_isWithin 9 = .ok (.iconst 1, 1) := by decide +kernel
theorem zd_SW_isWithin_10 : decode zc_SW_isWithin 10 = .ok (.goto 4, 3) := by decide +kernel
theorem zd_SW_isWithin_13 : decode zc_SW_isWithin 13 = .ok (.iconst 0, 1) := by decide +kernel
theorem zd_SW_isWithin_14 : decode zc_SW_isWithin 14 = .ok (.ireturn, 1) := by decide +kernel
theorem zd_Me_has_0 : decode zc_Me_has 0 = .ok (.iload_n 0, 1) := by decide +kernel
theorem zd_Me_has_1 : decode zc_Me_has 1 = .ok (.ifCond .lt 16, 3) := by decide +kernel
theorem zd_Me_has_4 : decode zc_Me_has 4 = .ok (.iload_n 0, 1) := by decide +kernel
theorem zd_Me_has_5 : decode zc_Me_has 5 = .ok (.sipush 256, 3) := by decide +kernel
theorem zd_Me_has_8 : decode zc_Me_has 8 = .ok (.iload_n 1, 1) := by decide +kernel
theorem zd_Me_has_9 : decode zc_Me_has 9 = .ok (.isub, 1) := by decide +kernel
theorem zd_Me_has_10 : decode zc_Me_has 10 = .ok (.if_icmp .gt 7, 3) := by decide +kernel
theorem zd_Me_has_13 : decode zc_Me_has 13 = .ok (.iconst 1, 1) := by decide +kernel
theorem zd_Me_has_14 : decode zc_Me_has 14 = .ok (.goto 4, 3) := by decide +kernel
theorem zd_Me_has_17 : decode zc_Me_has 17 = .ok (.iconst 0, 1) := by decide +kernel
theorem zd_Me_has_18 : decode zc_Me_has 18 = .ok (.ireturn, 1) := by decide +kernel
theorem zd_Me_value_0 : decode zc_Me_value 0 = .ok (.iconst 0, 1) := by decide +kernel
theorem zd_Me_value_1 : decode zc_Me_value 1 = .ok (.istore_n 3, 1) := by decide +kernel
theorem zd_Me_value_2 : decode zc_Me_value 2 = .ok (.iconst 0, 1) := by decide +kernel
theorem zd_Me_value_3 : decode zc_Me_value 3 = .ok (.istore 4, 2) := by decide +kernel
theorem zd_Me_value_5 : decode zc_Me_value 5 = .ok (.iload 4, 2) := by decide +kernel
theorem zd_Me_value_7 : decode zc_Me_value 7 = .ok (.iload_n 2, 1) := by decide +kernel
theorem zd_Me_value_8 : decode zc_Me_value 8 = .ok (.if_icmp .ge 27, 3) := by decide +kernel
theorem zd_Me_value_11 : decode zc_Me_value 11 = .ok (.iload_n 3, 1) := by decide +kernel
theorem zd_Me_value_12 : decode zc_Me_value 12 = .ok (.aload_n 0, 1) := by decide +kernel
theorem zd_Me_value_13 : decode zc_Me_value 13 = .ok (.getfield 9, 3) := by decide +kernel
theorem zd_Me_value_16 : decode zc_Me_value 16 = .ok (.iload_n 1, 1) := by decide +kernel
theorem zd_Me_value_17 : decode zc_Me_value 17 = .ok (.iload 4, 2) := by decide +kernel
theorem zd_Me_value_19 : decode zc_Me_value 19 = .ok (.iadd, 1) := by decide +kernel
theorem zd_Me_value_20 : decode zc_Me_value 20 = .ok (.iaload, 1) := by decide +kernel
theorem zd_Me_value_21 : decode zc_Me_value 21 = .ok (.bipush 8, 2) := by decide +kernel
theorem zd_Me_value_23 : decode zc_Me_value 23 = .ok (.iload 4, 2) := by decide +kernel
theorem zd_Me_value_25 : decode zc_Me_value 25 = .ok (.imul, 1) := by decide +kernel
theorem zd_Me_value_26 : decode zc_Me_value 26 = .ok (.ishl, 1) := by decide +kernel
theorem zd_Me_value_27 : decode zc_Me_value 27 = .ok (.ior, 1) := by decide +kernel
theorem zd_Me_value_28 : decode zc_Me_value 28 = .ok (.istore_n 3, 1) := by decide +kernel
theorem zd_Me_value_29 : decode zc_Me_value 29 = .ok (.iinc 4 1, 3) := by decide +kernel
theorem zd_Me_value_32 : decode zc_Me_value 32 = .ok (.goto (-27), 3) := by decide +kernel
theorem zd_Me_value_35 : decode zc_Me_value 35 = .ok (.iload_n 3, 1) := by decide +kernel
theorem zd_Me_value_36 : decode zc_Me_value 36 = .ok (.ireturn, 1) := by decide +kernel
theorem zd_Me_known_0 : decode zc_Me_known 0 = .ok (.iconst 0, 1) := by decide +kernel
theorem zd_Me_known_1 : decode zc_Me_known 1 = .ok (.istore_n 3, 1) := by decide +kernel
theorem zd_Me_known_2 : decode zc_Me_known 2 = .ok (.iconst 0, 1) := by decide +kernel
theorem zd_Me_known_3 : decode zc_Me_known 3 = .ok (.istore 4, 2) := by decide +kernel
theorem zd_Me_known_5 : decode zc_Me_known 5 = .ok (.iload 4, 2) := by decide +kernel
theorem zd_Me_known_7 : decode zc_Me_known 7 = .ok (.iload_n 2, 1) := by decide +kernel
theorem zd_Me_known_8 : decode zc_Me_known 8 = .ok (.if_icmp .ge 28, 3) := by decide +kernel
theorem zd_Me_known_11 : decode zc_Me_known 11 = .ok (.aload_n 0, 1) := by decide +kernel
theorem zd_Me_known_12 : decode zc_Me_known 12 = .ok (.getfield 17, 3) := by decide +kernel
theorem zd_Me_known_15 : decode zc_Me_known 15 = .ok (.iload_n 1, 1) := by decide +kernel
theorem zd_Me_known_16 : decode zc_Me_known 16 = .ok (.iload 4, 2) := by decide +kernel
theorem zd_Me_known_18 : decode zc_Me_known 18 = .ok (.iadd, 1) := by decide +kernel
theorem zd_Me_known_19 : decode zc_Me_known 19 = .ok (.baload, 1) := by decide +kernel
theorem zd_Me_known_20 : decode zc_Me_known 20 = .ok (.ifCond .eq 10, 3) := by decide +kernel
theorem zd_Me_known_23 : decode zc_Me_known 23 = .ok (.iload_n 3, 1) := by decide +kernel
theorem zd_Me_known_24 : decode zc_Me_known 24 = .ok (.iconst 1, 1) := by decide +kernel
theorem zd_Me_known_25 : decode zc_Me_known 25 = .ok (.iload 4, 2) := by decide +kernel
theorem zd_Me_known_27 : decode zc_Me_known 27 = .ok (.ishl, 1) := by decide +kernel
theorem zd_Me_known_28 : decode zc_Me_known 28 = .ok (.ior, 1) := by decide +kernel
theorem zd_Me_known_29 : decode zc_Me_known 29 = .ok (.istore_n 3, 1) := by decide +kernel
theorem zd_Me_known_30 : decode zc_Me_known 30 = .ok (.iinc 4 1, 3) := by decide +kernel
theorem zd_Me_known_33 : decode zc_Me_known 33 = .ok (.goto (-28), 3) := by decide +kernel
theorem zd_Me_known_36 : decode zc_Me_known 36 = .ok (.iload_n 3, 1) := by decide +kernel
theorem zd_Me_known_37 : decode zc_Me_known 37 = .ok (.ireturn, 1) := by decide +kernel
theorem zd_Me_firstClosed_0 : decode zc_Me_firstClosed 0 = .ok (.iconst 0, 1) := by decide +kernel
theorem zd_Me_firstClosed_1 : decode zc_Me_firstClosed 1 = .ok (.istore_n 3, 1) := by decide +kernel
theorem zd_Me_firstClosed_2 : decode zc_Me_firstClosed 2 = .ok (.iload_n 3, 1) := by decide +kernel
theorem zd_Me_firstClosed_3 : decode zc_Me_firstClosed 3 = .ok (.iload_n 2, 1) := by decide +kernel
theorem zd_Me_firstClosed_4 : decode zc_Me_firstClosed 4 = .ok (.if_icmp .ge 24, 3) := by decide +kernel
theorem zd_Me_firstClosed_7 : decode zc_Me_firstClosed 7 = .ok (.aload_n 0, 1) := by decide +kernel
theorem zd_Me_firstClosed_8 : decode zc_Me_firstClosed 8 = .ok (.getfield 13, 3) := by decide +kernel
theorem zd_Me_firstClosed_11 : decode zc_Me_firstClosed 11 = .ok (.iload_n 1, 1) := by decide +kernel
theorem zd_Me_firstClosed_12 : decode zc_Me_firstClosed 12 = .ok (.iload_n 3, 1) := by decide +kernel
theorem zd_Me_firstClosed_13 : decode zc_Me_firstClosed 13 = .ok (.iadd, 1) := by decide +kernel
theorem zd_Me_firstClosed_14 : decode zc_Me_firstClosed 14 = .ok (.baload, 1) := by decide +kernel
theorem zd_Me_firstClosed_15 : decode zc_Me_firstClosed 15 = .ok (.ifCond .ne 7, 3) := by decide +kernel
theorem zd_Me_firstClosed_18 : decode zc_Me_firstClosed 18 = .ok (.iload_n 1, 1) := by decide +kernel
theorem zd_Me_firstClosed_19 : decode zc_Me_firstClosed 19 = .ok (.iload_n 3, 1) := by decide +kernel
theorem zd_Me_firstClosed_20 : decode zc_Me_firstClosed 20 = .ok (.iadd, 1) := by decide +kernel
theorem zd_Me_firstClosed_21 : decode zc_Me_firstClosed 21 = .ok (.ireturn, 1) := by decide +kernel
theorem zd_Me_firstClosed_22 : decode zc_Me_firstClosed 22 = .ok (.iinc 3 1, 3) := by decide +kernel
theorem zd_Me_firstClosed_25 : decode zc_Me_firstClosed 25 = .ok (.goto (-23), 3) := by decide +kernel
theorem zd_Me_firstClosed_28 : decode zc_Me_firstClosed 28 = .ok (.iconst (-1), 1) := by decide +kernel
theorem zd_Me_firstClosed_29 : decode zc_Me_firstClosed 29 = .ok (.ireturn, 1) := by decide +kernel
theorem zd_Me_put_0 : decode zc_Me_put 0 = .ok (.iconst 0, 1) := by decide +kernel
theorem zd_Me_put_1 : decode zc_Me_put 1 = .ok (.istore 5, 2) := by decide +kernel
theorem zd_Me_put_3 : decode zc_Me_put 3 = .ok (.iload 5, 2) := by decide +kernel
theorem zd_Me_put_5 : decode zc_Me_put 5 = .ok (.iload_n 2, 1) := by decide +kernel
theorem zd_Me_put_6 : decode zc_Me_put 6 = .ok (.if_icmp .ge 54, 3) := by decide +kernel
theorem zd_Me_put_9 : decode zc_Me_put 9 = .ok (.aload_n 0, 1) := by decide +kernel
theorem zd_Me_put_10 : decode zc_Me_put 10 = .ok (.getfield 9, 3) := by decide +kernel
theorem zd_Me_put_13 : decode zc_Me_put 13 = .ok (.iload_n 1, 1) := by decide +kernel
theorem zd_Me_put_14 : decode zc_Me_put 14 = .ok (.iload 5, 2) := by decide +kernel
theorem zd_Me_put_16 : decode zc_Me_put 16 = .ok (.iadd, 1) := by decide +kernel
theorem zd_Me_put_17 : decode zc_Me_put 17 = .ok (.iload_n 3, 1) := by decide +kernel
theorem zd_Me_put_18 : decode zc_Me_put 18 = .ok (.bipush 8, 2) := by decide +kernel
theorem zd_Me_put_20 : decode zc_Me_put 20 = .ok (.iload 5, 2) := by decide +kernel
theorem zd_Me_put_22 : decode zc_Me_put 22 = .ok (.imul, 1) := by decide +kernel
theorem zd_Me_put_23 : decode zc_Me_put 23 = .ok (.ishr, 1) := by decide +kernel
theorem zd_Me_put_24 : decode zc_Me_put 24 = .ok (.sipush 255, 3) := by decide +kernel
theorem zd_Me_put_27 : decode zc_Me_put 27 = .ok (.iand, 1) := by decide +kernel
theorem zd_Me_put_28 : decode zc_Me_put 28 = .ok (.iastore, 1) := by decide +kernel
theorem zd_Me_put_29 : decode zc_Me_put 29 = .ok (.aload_n 0, 1) := by decide +kernel
theorem zd_Me_put_30 : decode zc_Me_put 30 = .ok (.getfield 17, 3) := by decide +kernel
theorem zd_Me_put_33 : decode zc_Me_put 33 = .ok (.iload_n 1, 1) := by decide +kernel
theorem zd_Me_put_34 : decode zc_Me_put 34 = .ok (.iload 5, 2) := by decide +kernel
theorem zd_Me_put_36 : decode zc_Me_put 36 = .ok (.iadd, 1) := by decide +kernel
theorem zd_Me_put_37 : decode zc_Me_put 37 = .ok (.iload 4, 2) := by decide +kernel
theorem zd_Me_put_39 : decode zc_Me_put 39 = .ok (.iload 5, 2) := by decide +kernel
theorem zd_Me_put_41 : decode zc_Me_put 41 = .ok (.ishr, 1) := by decide +kernel
theorem zd_Me_put_42 : decode zc_Me_put 42 = .ok (.iconst 1, 1) := by decide +kernel
theorem zd_Me_put_43 : decode zc_Me_put 43 = .ok (.iand, 1) := by decide +kernel
theorem zd_Me_put_44 : decode zc_Me_put 44 = .ok (.iconst 1, 1) := by decide +kernel
theorem zd_Me_put_45 : decode zc_Me_put 45 = .ok (.if_icmp .ne 7, 3) := by decide +kernel
theorem zd_Me_put_48 : decode zc_Me_put 48 = .ok (.iconst 1, 1) := by decide +kernel
theorem zd_Me_put_49 : decode zc_Me_put 49 = .ok (.goto 4, 3) := by decide +kernel
theorem zd_Me_put_52 : decode zc_Me_put 52 = .ok (.iconst 0, 1) := by decide +kernel
theorem zd_Me_put_53 : decode zc_Me_put 53 = .ok (.bastore, 1) := by decide +kernel
theorem zd_Me_put_54 : decode zc_Me_put 54 = .ok (.iinc 5 1, 3) := by decide +kernel
theorem zd_Me_put_57 : decode zc_Me_put 57 = .ok (.goto (-54), 3) := by decide +kernel
theorem zd_Me_put_60 : decode zc_Me_put 60 = .ok (.return_, 1) := by decide +kernel
theorem zd_Me_forget_0 : decode zc_Me_forget 0 = .ok (.iload_n 1, 1) := by decide +kernel
theorem zd_Me_forget_1 : decode zc_Me_forget 1 = .ok (.istore 4, 2) := by decide +kernel
theorem zd_Me_forget_3 : decode zc_Me_forget 3 = .ok (.iload 4, 2) := by decide +kernel
theorem zd_Me_forget_5 : decode zc_Me_forget 5 = .ok (.iload_n 1, 1) := by decide +kernel
theorem zd_Me_forget_6 : decode zc_Me_forget 6 = .ok (.iload_n 2, 1) := by decide +kernel
theorem zd_Me_forget_7 : decode zc_Me_forget 7 = .ok (.iadd, 1) := by decide +kernel
theorem zd_Me_forget_8 : decode zc_Me_forget 8 = .ok (.if_icmp .ge 25, 3) := by decide +kernel
theorem zd_Me_forget_11 : decode zc_Me_forget 11 = .ok (.aload_n 0, 1) := by decide +kernel
theorem zd_Me_forget_12 : decode zc_Me_forget 12 = .ok (.getfield 13, 3) := by decide +kernel
theorem zd_Me_forget_15 : decode zc_Me_forget 15 = .ok (.iload 4, 2) := by decide +kernel
theorem zd_Me_forget_17 : decode zc_Me_forget 17 = .ok (.iload_n 3, 1) := by decide +kernel
theorem zd_Me_forget_18 : decode zc_Me_forget 18 = .ok (.bastore, 1) := by decide +kernel
theorem zd_Me_forget_19 : decode zc_Me_forget 19 = .ok (.aload_n 0, 1) := by decide +kernel
theorem zd_Me_forget_20 : decode zc_Me_forget 20 = .ok (.getfield 17, 3) := by decide +kernel
theorem zd_Me_forget_23 : decode zc_Me_forget 23 = .ok (.iload 4, 2) := by decide +kernel
theorem zd_Me_forget_25 : decode zc_Me_forget 25 = .ok (.iconst 0, 1) := by decide +kernel
theorem zd_Me_forget_26 : decode zc_Me_forget 26 = .ok (.bastore, 1) := by decide +kernel
theorem zd_Me_forget_27 : decode zc_Me_forget 27 = .ok (.iinc 4 1, 3) := by decide +kernel
theorem zd_Me_forget_30 : decode zc_Me_forget 30 = .ok (.goto (-27), 3) := by decide +kernel
theorem zd_Me_forget_33 : decode zc_Me_forget 33 = .ok (.return_, 1) := by decide +kernel
theorem zd_Me_isUsableWord_0 : decode zc_Me_isUsableWord 0 = .ok (.aload_n 0, 1) := by decide +kernel
theorem zd_Me_isUsableWord_1 : decode zc_Me_isUsableWord 1 = .ok (.iload_n 1, 1) := by decide +kernel
theorem zd_Me_isUsableWord_2 : decode zc_Me_isUsableWord 2 = .ok (.iconst 4, 1) := by decide +kernel
theorem zd_Me_isUsableWord_3 : decode zc_Me_isUsableWord 3 = .ok (.invokevirtual 20, 3) := by decide +kernel
theorem zd_Me_isUsableWord_6 : decode zc_Me_isUsableWord 6 = .ok (.iconst (-1), 1) := by decide +kernel
theorem zd_Me_isUsableWord_7 : decode zc_Me_isUsableWord 7 = .ok (.if_icmp .ne 18, 3) := by decide +kernel
theorem zd_Me_isUsableWord_10 : decode zc_Me_isUsableWord 10 = .ok (.aload_n 0, 1) := by decide +kernel
theorem zd_Me_isUsableWord_11 : decode zc_Me_isUsableWord 11 = .ok (.iload_n 1, 1) := by decide +kernel
theorem zd_Me_isUsableWord_12 : decode zc_Me_isUsableWord 12 = .ok (.iconst 4, 1) := by decide +kernel
theorem zd_Me_isUsableWord_13 : decode zc_Me_isUsableWord 13 = .ok (.invokevirtual 24, 3) := by decide +kernel
theorem zd_Me_isUsableWord_16 : decode zc_Me_isUsableWord 16 = .ok (.bipush 15, 2) := by decide +kernel
theorem zd_Me_isUsableWord_18 : decode zc_Me_isUsableWord 18 = .ok (.if_icmp .ne 7, 3) := by decide +kernel
theorem zd_Me_isUsableWord_21 : decode zc_Me_isUsableWord 21 = .ok (.iconst 1, 1) := by decide +kernel
theorem zd_Me_isUsableWord_22 : decode zc_Me_isUsableWord 22 = .ok (.goto 4, 3) := by decide +kernel
theorem zd_Me_isUsableWord_25 : decode zc_Me_isUsableWord 25 = .ok (.iconst 0, 1) := by decide +kernel
theorem zd_Me_isUsableWord_26 : decode zc_Me_isUsableWord 26 = .ok (.ireturn, 1) := by decide +kernel
theorem zd_Re_has_0 : decode zc_Re_has 0 = .ok (.iload_n 0, 1) := by decide +kernel
theorem zd_Re_has_1 : decode zc_Re_has 1 = .ok (.ifCond .lt 13, 3) := by decide +kernel
theorem zd_Re_has_4 : decode zc_Re_has 4 = .ok (.iload_n 0, 1) := by decide +kernel
theorem zd_Re_has_5 : decode zc_Re_has 5 = .ok (.bipush 8, 2) := by decide +kernel
theorem zd_Re_has_7 : decode zc_Re_has 7 = .ok (.if_icmp .ge 7, 3) := by decide +kernel
theorem zd_Re_has_10 : decode zc_Re_has 10 = .ok (.iconst 1, 1) := by decide +kernel
theorem zd_Re_has_11 : decode zc_Re_has 11 = .ok (.goto 4, 3) := by decide +kernel
theorem zd_Re_has_14 : decode zc_Re_has 14 = .ok (.iconst 0, 1) := by decide +kernel
theorem zd_Re_has_15 : decode zc_Re_has 15 = .ok (.ireturn, 1) := by decide +kernel
theorem zd_Re_clear_0 : decode zc_Re_clear 0 = .ok (.iconst 0, 1) := by decide +kernel
theorem zd_Re_clear_1 : decode zc_Re_clear 1 = .ok (.istore_n 1, 1) := by decide +kernel
theorem zd_Re_clear_2 : decode zc_Re_clear 2 = .ok (.iload_n 1, 1) := by decide +kernel
theorem zd_Re_clear_3 : decode zc_Re_clear 3 = .ok (.bipush 8, 2) := by decide +kernel
theorem zd_Re_clear_5 : decode zc_Re_clear 5 = .ok (.if_icmp .ge 24, 3) := by decide +kernel
theorem zd_Re_clear_8 : decode zc_Re_clear 8 = .ok (.aload_n 0, 1) := by decide +kernel
theorem zd_Re_clear_9 : decode zc_Re_clear 9 = .ok (.getfield 9, 3) := by decide +kernel
theorem zd_Re_clear_12 : decode zc_Re_clear 12 = .ok (.iload_n 1, 1) := by decide +kernel
theorem zd_Re_clear_13 : decode zc_Re_clear 13 = .ok (.iconst 0, 1) := by decide +kernel
theorem zd_Re_clear_14 : decode zc_Re_clear 14 = .ok (.iastore, 1) := by decide +kernel
theorem zd_Re_clear_15 : decode zc_Re_clear 15 = .ok (.aload_n 0, 1) := by decide +kernel
theorem zd_Re_clear_16 : decode zc_Re_clear 16 = .ok (.getfield 13, 3) := by decide +kernel
theorem zd_Re_clear_19 : decode zc_Re_clear 19 = .ok (.iload_n 1, 1) := by decide +kernel
theorem zd_Re_clear_20 : decode zc_Re_clear 20 = .ok (.bipush 15, 2) := by decide +kernel
theorem zd_Re_clear_22 : decode zc_Re_clear 22 = .ok (.iastore, 1) := by decide +kernel
theorem zd_Re_clear_23 : decode zc_Re_clear 23 = .ok (.iinc 1 1, 3) := by decide +kernel
theorem zd_Re_clear_26 : decode zc_Re_clear 26 = .ok (.goto (-24), 3) := by decide +kernel
theorem zd_Re_clear_29 : decode zc_Re_clear 29 = .ok (.return_, 1) := by decide +kernel
theorem zd_Re_value_0 : decode zc_Re_value 0 = .ok (.aload_n 0, 1) := by decide +kernel
theorem zd_Re_value_1 : decode zc_Re_value 1 = .ok (.getfield 9, 3) := by decide +kernel
theorem zd_Re_value_4 : decode zc_Re_value 4 = .ok (.iload_n 1, 1) := by decide +kernel
theorem zd_Re_value_5 : decode zc_Re_value 5 = .ok (.iaload, 1) := by decide +kernel
theorem zd_Re_value_6 : decode zc_Re_value 6 = .ok (.ireturn, 1) := by decide +kernel
theorem zd_Re_known_0 : decode zc_Re_known 0 = .ok (.aload_n 0, 1) := by decide +kernel
theorem zd_Re_known_1 : decode zc_Re_known 1 = .ok (.getfield 13, 3) := by decide +kernel
theorem zd_Re_known_4 : decode zc_Re_known 4 = .ok (.iload_n 1, 1) := by decide +kernel
theorem zd_Re_known_5 : decode zc_Re_known 5 = .ok (.iaload, 1) := by decide +kernel
theorem zd_Re_known_6 : decode zc_Re_known 6 = .ok (.ireturn, 1) := by decide +kernel
theorem zd_Re_isKnown_0 : decode zc_Re_isKnown 0 = .ok (.aload_n 0, 1) := by decide +kernel
theorem zd_Re_isKnown_1 : decode zc_Re_isKnown 1 = .ok (.getfield 13, 3) := by decide +kernel
theorem zd_Re_isKnown_4 : decode zc_Re_isKnown 4 = .ok (.iload_n 1, 1) := by decide +kernel
theorem zd_Re_isKnown_5 : decode zc_Re_isKnown 5 = .ok (.iaload, 1) := by decide +kernel
theorem zd_Re_isKnown_6 : decode zc_Re_isKnown 6 = .ok (.bipush 15, 2) := by decide +kernel
theorem zd_Re_isKnown_8 : decode zc_Re_isKnown 8 = .ok (.if_icmp .ne 7, 3) := by decide +kernel
theorem zd_Re_isKnown_11 : decode zc_Re_isKnown 11 = .ok (.iconst 1, 1) := by decide +kernel
theorem zd_Re_isKnown_12 : decode zc_Re_isKnown 12 = .ok (.goto 4, 3) := by decide +kernel
theorem zd_Re_isKnown_15 : decode zc_Re_isKnown 15 = .ok (.iconst 0, 1) := by decide +kernel
theorem zd_Re_isKnown_16 : decode zc_Re_isKnown 16 = .ok (.ireturn, 1) := by decide +kernel
theorem zd_Re_put_0 : decode zc_Re_put 0 = .ok (.iload_n 1, 1) := by decide +kernel
theorem zd_Re_put_1 : decode zc_Re_put 1 = .ok (.ifCond .eq 17, 3) := by decide +kernel
theorem zd_Re_put_4 : decode zc_Re_put 4 = .ok (.aload_n 0, 1) := by decide +kernel
theorem zd_Re_put_5 : decode zc_Re_put 5 = .ok (.getfield 9, 3) := by decide +kernel
theorem zd_Re_put_8 : decode zc_Re_put 8 = .ok (.iload_n 1, 1) := by decide +kernel
theorem zd_Re_put_9 : decode zc_Re_put 9 = .ok (.iload_n 2, 1) := by decide +kernel
theorem zd_Re_put_10 : decode zc_Re_put 10 = .ok (.iastore, 1) := by decide +kernel
theorem zd_Re_put_11 : decode zc_Re_put 11 = .ok (.aload_n 0, 1) := by decide +kernel
theorem zd_Re_put_12 : decode zc_Re_put 12 = .ok (.getfield 13, 3) := by decide +kernel
theorem zd_Re_put_15 : decode zc_Re_put 15 = .ok (.iload_n 1, 1) := by decide +kernel
theorem zd_Re_put_16 : decode zc_Re_put 16 = .ok (.iload_n 3, 1) := by decide +kernel
theorem zd_Re_put_17 : decode zc_Re_put 17 = .ok (.iastore, 1) := by decide +kernel
theorem zd_Re_put_18 : decode zc_Re_put 18 = .ok (.return_, 1) := by decide +kernel
theorem zd_Pr_has_0 : decode zc_Pr_has 0 = .ok (.iload_n 0, 1) := by decide +kernel
theorem zd_Pr_has_1 : decode zc_Pr_has 1 = .ok (.ifCond .lt 13, 3) := by decide +kernel
theorem zd_Pr_has_4 : decode zc_Pr_has 4 = .ok (.iload_n 0, 1) := by decide +kernel
theorem zd_Pr_has_5 : decode zc_Pr_has 5 = .ok (.bipush 32, 2) := by decide +kernel
theorem zd_Pr_has_7 : decode zc_Pr_has 7 = .ok (.if_icmp .ge 7, 3) := by decide +kernel
theorem zd_Pr_has_10 : decode zc_Pr_has 10 = .ok (.iconst 1, 1) := by decide +kernel
theorem zd_Pr_has_11 : decode zc_Pr_has 11 = .ok (.goto 4, 3) := by decide +kernel
theorem zd_Pr_has_14 : decode zc_Pr_has 14 = .ok (.iconst 0, 1) := by decide +kernel
theorem zd_Pr_has_15 : decode zc_Pr_has 15 = .ok (.ireturn, 1) := by decide +kernel
theorem zd_Pr_write_0 : decode zc_Pr_write 0 = .ok (.aload_n 0, 1) := by decide +kernel
theorem zd_Pr_write_1 : decode zc_Pr_write 1 = .ok (.getfield 9, 3) := by decide +kernel
theorem zd_Pr_write_4 : decode zc_Pr_write 4 = .ok (.iload_n 1, 1) := by decide +kernel
theorem zd_Pr_write_5 : decode zc_Pr_write 5 = .ok (.iload_n 2, 1) := by decide +kernel
theorem zd_Pr_write_6 : decode zc_Pr_write 6 = .ok (.iastore, 1) := by decide +kernel
theorem zd_Pr_write_7 : decode zc_Pr_write 7 = .ok (.aload_n 0, 1) := by decide +kernel
theorem zd_Pr_write_8 : decode zc_Pr_write 8 = .ok (.getfield 13, 3) := by decide +kernel
theorem zd_Pr_write_11 : decode zc_Pr_write 11 = .ok (.iload_n 1, 1) := by decide +kernel
theorem zd_Pr_write_12 : decode zc_Pr_write 12 = .ok (.iload_n 3, 1) := by decide +kernel
theorem zd_Pr_write_13 : decode zc_Pr_write 13 = .ok (.iastore, 1) := by decide +kernel
theorem zd_Pr_write_14 : decode zc_Pr_write 14 = .ok (.aload_n 0, 1) := by decide +kernel
theorem zd_Pr_write_15 : decode zc_Pr_write 15 = .ok (.getfield 16, 3) := by decide +kernel
theorem zd_Pr_write_18 : decode zc_Pr_write 18 = .ok (.iload_n 1, 1) := by decide +kernel
theorem zd_Pr_write_19 : decode zc_Pr_write 19 = .ok (.iload 4, 2) := by decide +kernel
theorem zd_Pr_write_21 : decode zc_Pr_write 21 = .ok (.iastore, 1) := by decide +kernel
theorem zd_Pr_write_22 : decode zc_Pr_write 22 = .ok (.aload_n 0, 1) := by decide +kernel
theorem zd_Pr_write_23 : decode zc_Pr_write 23 = .ok (.getfield 19, 3) := by decide +kernel
theorem zd_Pr_write_26 : decode zc_Pr_write 26 = .ok (.iload_n 1, 1) := by decide +kernel
theorem zd_Pr_write_27 : decode zc_Pr_write 27 = .ok (.iload 5, 2) := by decide +kernel
theorem zd_Pr_write_29 : decode zc_Pr_write 29 = .ok (.iastore, 1) := by decide +kernel
theorem zd_Pr_write_30 : decode zc_Pr_write 30 = .ok (.aload_n 0, 1) := by decide +kernel
theorem zd_Pr_write_31 : decode zc_Pr_write 31 = .ok (.getfield 22, 3) := by decide +kernel
theorem zd_Pr_write_34 : decode zc_Pr_write 34 = .ok (.iload_n 1, 1) := by decide +kernel
theorem zd_Pr_write_35 : decode zc_Pr_write 35 = .ok (.iload 6, 2) := by decide +kernel
theorem zd_Pr_write_37 : decode zc_Pr_write 37 = .ok (.iastore, 1) := by decide +kernel
theorem zd_Pr_write_38 : decode zc_Pr_write 38 = .ok (.return_, 1) := by decide +kernel
theorem zd_Pr_op_0 : decode zc_Pr_op 0 = .ok (.aload_n 0, 1) := by decide +kernel
theorem zd_Pr_op_1 : decode zc_Pr_op 1 = .ok (.getfield 9, 3) := by decide +kernel
theorem zd_Pr_op_4 : decode zc_Pr_op 4 = .ok (.iload_n 1, 1) := by decide +kernel
theorem zd_Pr_op_5 : decode zc_Pr_op 5 = .ok (.iaload, 1) := by decide +kernel
theorem zd_Pr_op_6 : decode zc_Pr_op 6 = .ok (.ireturn, 1) := by decide +kernel
theorem zd_Pr_d_0 : decode zc_Pr_d 0 = .ok (.aload_n 0, 1) := by decide +kernel
theorem zd_Pr_d_1 : decode zc_Pr_d 1 = .ok (.getfield 13, 3) := by decide +kernel
theorem zd_Pr_d_4 : decode zc_Pr_d 4 = .ok (.iload_n 1, 1) := by decide +kernel
theorem zd_Pr_d_5 : decode zc_Pr_d 5 = .ok (.iaload, 1) := by decide +kernel
theorem zd_Pr_d_6 : decode zc_Pr_d 6 = .ok (.ireturn, 1) := by decide +kernel
theorem zd_Pr_a_0 : decode zc_Pr_a 0 = .ok (.aload_n 0, 1) := by decide +kernel
theorem zd_Pr_a_1 : decode zc_Pr_a 1 = .ok (.getfield 16, 3) := by decide +kernel
theorem zd_Pr_a_4 : decode zc_Pr_a 4 = .ok (.iload_n 1, 1) := by decide +kernel
theorem zd_Pr_a_5 : decode zc_Pr_a 5 = .ok (.iaload, 1) := by decide +kernel
theorem zd_Pr_a_6 : decode zc_Pr_a 6 = .ok (.ireturn, 1) := by decide +kernel
theorem zd_Pr_b_0 : decode zc_Pr_b 0 = .ok (.aload_n 0, 1) := by decide +kernel
theorem zd_Pr_b_1 : decode zc_Pr_b 1 = .ok (.getfield 19, 3) := by decide +kernel
theorem zd_Pr_b_4 : decode zc_Pr_b 4 = .ok (.iload_n 1, 1) := by decide +kernel
theorem zd_Pr_b_5 : decode zc_Pr_b 5 = .ok (.iaload, 1) := by decide +kernel
theorem zd_Pr_b_6 : decode zc_Pr_b 6 = .ok (.ireturn, 1) := by decide +kernel
theorem zd_Pr_n_0 : decode zc_Pr_n 0 = .ok (.aload_n 0, 1) := by decide +kernel
theorem zd_Pr_n_1 : decode zc_Pr_n 1 = .ok (.getfield 22, 3) := by decide +kernel
theorem zd_Pr_n_4 : decode zc_Pr_n 4 = .ok (.iload_n 1, 1) := by decide +kernel
theorem zd_Pr_n_5 : decode zc_Pr_n 5 = .ok (.iaload, 1) := by decide +kernel
theorem zd_Pr_n_6 : decode zc_Pr_n 6 = .ok (.ireturn, 1) := by decide +kernel
theorem zd_Pr_endsPiece_0 : decode zc_Pr_endsPiece 0 = .ok (.aload_n 0, 1) := by decide +kernel
theorem zd_Pr_endsPiece_1 : decode zc_Pr_endsPiece 1 = .ok (.getfield 9, 3) := by decide +kernel
theorem zd_Pr_endsPiece_4 : decode zc_Pr_endsPiece 4 = .ok (.iload_n 1, 1) := by decide +kernel
theorem zd_Pr_endsPiece_5 : decode zc_Pr_endsPiece 5 = .ok (.iaload, 1) := by decide +kernel
theorem zd_Pr_endsPiece_6 : decode zc_Pr_endsPiece 6 = .ok (.ifCond .eq 31, 3) := by decide +kernel
theorem zd_Pr_endsPiece_9 : decode zc_Pr_endsPiece 9 = .ok (.aload_n 0, 1) := by decide +kernel
theorem zd_Pr_endsPiece_10 : decode zc_Pr_endsPiece 10 = .ok (.getfield 9, 3) := by decide +kernel
theorem zd_Pr_endsPiece_13 : decode zc_Pr_endsPiece 13 = .ok (.iload_n 1, 1) := by decide +kernel
theorem zd_Pr_endsPiece_14 : decode zc_Pr_endsPiece 14 = .ok (.iaload, 1) := by decide +kernel
theorem zd_Pr_endsPiece_15 : decode zc_Pr_endsPiece 15 = .ok (.bipush 13, 2) := by decide +kernel
theorem zd_Pr_endsPiece_17 : decode zc_Pr_endsPiece 17 = .ok (.if_icmp .lt 14, 3) := by decide +kernel
theorem zd_Pr_endsPiece_20 : decode zc_Pr_endsPiece 20 = .ok (.aload_n 0, 1) := by decide +kernel
theorem zd_Pr_endsPiece_21 : decode zc_Pr_endsPiece 21 = .ok (.getfield 9, 3) := by decide +kernel
theorem zd_Pr_endsPiece_24 : decode zc_Pr_endsPiece 24 = .ok (.iload_n 1, 1) := by decide +kernel
theorem zd_Pr_endsPiece_25 : decode zc_Pr_endsPiece 25 = .ok (.iaload, 1) := by decide +kernel
theorem zd_Pr_endsPiece_26 : decode zc_Pr_endsPiece 26 = .ok (.bipush 16, 2) := by decide +kernel
theorem zd_Pr_endsPiece_28 : decode zc_Pr_endsPiece 28 = .ok (.if_icmp .le 9, 3) := by decide +kernel
theorem zd_Pr_endsPiece_31 : decode zc_Pr_endsPiece 31 = .ok (.iload_n 1, 1) := by decide +kernel
theorem zd_Pr_endsPiece_32 : decode zc_Pr_endsPiece 32 = .ok (.bipush 31, 2) := by decide +kernel
theorem zd_Pr_endsPiece_34 : decode zc_Pr_endsPiece 34 = .ok (.if_icmp .ne 7, 3) := by decide +kernel
theorem zd_Pr_endsPiece_37 : decode zc_Pr_endsPiece 37 = .ok (.iconst 1, 1) := by decide +kernel
theorem zd_Pr_endsPiece_38 : decode zc_Pr_endsPiece 38 = .ok (.goto 4, 3) := by decide +kernel
theorem zd_Pr_endsPiece_41 : decode zc_Pr_endsPiece 41 = .ok (.iconst 0, 1) := by decide +kernel
theorem zd_Pr_endsPiece_42 : decode zc_Pr_endsPiece 42 = .ok (.ireturn, 1) := by decide +kernel
theorem zd_Pi_putAway_0 : decode zc_Pi_putAway 0 = .ok (.aload_n 0, 1) := by decide +kernel
theorem zd_Pi_putAway_1 : decode zc_Pi_putAway 1 = .ok (.iconst 0, 1) := by decide +kernel
theorem zd_Pi_putAway_2 : decode zc_Pi_putAway 2 = .ok (.putfield 19, 3) := by decide +kernel
theorem zd_Pi_putAway_5 : decode zc_Pi_putAway 5 = .ok (.return_, 1) := by decide +kernel
theorem zd_Pi_lengthFrom_0 : decode zc_Pi_lengthFrom 0 = .ok (.iconst 1, 1) := by decide +kernel
theorem zd_Pi_lengthFrom_1 : decode zc_Pi_lengthFrom 1 = .ok (.istore_n 2, 1) := by decide +kernel
theorem zd_Pi_lengthFrom_2 : decode zc_Pi_lengthFrom 2 = .ok (.iload_n 2, 1) := by decide +kernel
theorem zd_Pi_lengthFrom_3 : decode zc_Pi_lengthFrom 3 = .ok (.bipush 8, 2) := by decide +kernel
theorem zd_Pi_lengthFrom_5 : decode zc_Pi_lengthFrom 5 = .ok (.if_icmp .ge 24, 3) := by decide +kernel
theorem zd_Pi_lengthFrom_8 : decode zc_Pi_lengthFrom 8 = .ok (.aload_n 0, 1) := by decide +kernel
theorem zd_Pi_lengthFrom_9 : decode zc_Pi_lengthFrom 9 = .ok (.getfield 7, 3) := by decide +kernel
theorem zd_Pi_lengthFrom_12 : decode zc_Pi_lengthFrom 12 = .ok (.iload_n 1, 1) := by decide +kernel
theorem zd_Pi_lengthFrom_13 : decode zc_Pi_lengthFrom 13 = .ok (.iload_n 2, 1) := by decide +kernel
theorem zd_Pi_lengthFrom_14 : decode zc_Pi_lengthFrom 14 = .ok (.iadd, 1) := by decide +kernel
theorem zd_Pi_lengthFrom_15 : decode zc_Pi_lengthFrom 15 = .ok (.iconst 1, 1) := by decide +kernel
theorem zd_Pi_lengthFrom_16 : decode zc_Pi_lengthFrom 16 = .ok (.isub, 1) := by decide +kernel
theorem zd_Pi_lengthFrom_17 : decode zc_Pi_lengthFrom 17 = .ok (.invokevirtual 30, 3) := by decide +kernel
theorem zd_Pi_lengthFrom_20 : decode zc_Pi_lengthFrom 20 = .ok (.ifCond .ne 9, 3) := by decide +kernel
theorem zd_Pi_lengthFrom_23 : decode zc_Pi_lengthFrom 23 = .ok (.iinc 2 1, 3) := by decide +kernel
theorem zd_Pi_lengthFrom_26 : decode zc_Pi_lengthFrom 26 = .ok (.goto (-24), 3) := by decide +kernel
theorem zd_Pi_lengthFrom_29 : decode zc_Pi_lengthFrom 29 = .ok (.iload_n 2, 1) := by decide +kernel
theorem zd_Pi_lengthFrom_30 : decode zc_Pi_lengthFrom 30 = .ok (.ireturn, 1) := by decide +kernel
theorem zd_Pi_reach_0 : decode zc_Pi_reach 0 = .ok (.aload_n 0, 1) := by decide +kernel
theorem zd_Pi_reach_1 : decode zc_Pi_reach 1 = .ok (.getfield 19, 3) := by decide +kernel
theorem zd_Pi_reach_4 : decode zc_Pi_reach 4 = .ok (.ifCond .ne 43, 3) := by decide +kernel
theorem zd_Pi_reach_7 : decode zc_Pi_reach 7 = .ok (.aload_n 0, 1) := by decide +kernel
theorem zd_Pi_reach_8 : decode zc_Pi_reach 8 = .ok (.getfield 15, 3) := by decide +kernel
theorem zd_Pi_reach_11 : decode zc_Pi_reach 11 = .ok (.iload_n 1, 1) := by decide +kernel
theorem zd_Pi_reach_12 : decode zc_Pi_reach 12 = .ok (.iaload, 1) := by decide +kernel
theorem zd_Pi_reach_13 : decode zc_Pi_reach 13 = .ok (.ifCond .ne 24, 3) := by decide +kernel
theorem zd_Pi_reach_16 : decode zc_Pi_reach 16 = .ok (.aload_n 0, 1) := by decide +kernel
theorem zd_Pi_reach_17 : decode zc_Pi_reach 17 = .ok (.getfield 15, 3) := by decide +kernel
theorem zd_Pi_reach_20 : decode zc_Pi_reach 20 = .ok (.iload_n 1, 1) := by decide +kernel
theorem zd_Pi_reach_21 : decode zc_Pi_reach 21 = .ok (.aload_n 0, 1) := by decide +kernel
theorem zd_Pi_reach_22 : decode zc_Pi_reach 22 = .ok (.iload_n 1, 1) := by decide +kernel
theorem zd_Pi_reach_23 : decode zc_Pi_reach 23 = .ok (.invokevirtual 23, 3) := by decide +kernel
theorem zd_Pi_reach_26 : decode zc_Pi_reach 26 = .ok (.iastore, 1) := by decide +kernel
theorem zd_Pi_reach_27 : decode zc_Pi_reach 27 = .ok (.aload_n 0, 1) := by decide +kernel
theorem zd_Pi_reach_28 : decode zc_Pi_reach 28 = .ok (.dup, 1) := by decide +kernel
theorem zd_Pi_reach_29 : decode zc_Pi_reach 29 = .ok (.getfield 27, 3) := by decide +kernel
theorem zd_Pi_reach_32 : decode zc_Pi_reach 32 = .ok (.iconst 1, 1) := by decide +kernel
theorem zd_Pi_reach_33 : decode zc_Pi_reach 33 = .ok (.iadd, 1) := by decide +kernel
theorem zd_Pi_reach_34 : decode zc_Pi_reach 34 = .ok (.putfield 27, 3) := by decide +kernel
theorem zd_Pi_reach_37 : decode zc_Pi_reach 37 = .ok (.aload_n 0, 1) := by decide +kernel
theorem zd_Pi_reach_38 : decode zc_Pi_reach 38 = .ok (.aload_n 0, 1) := by decide +kernel
theorem zd_Pi_reach_39 : decode zc_Pi_reach 39 = .ok (.getfield 15, 3) := by decide +kernel
theorem zd_Pi_reach_42 : decode zc_Pi_reach 42 = .ok (.iload_n 1, 1) := by decide +kernel
theorem zd_Pi_reach_43 : decode zc_Pi_reach 43 = .ok (.iaload, 1) := by decide +kernel
theorem zd_Pi_reach_44 : decode zc_Pi_reach 44 = .ok (.putfield 19, 3) := by decide +kernel
theorem zd_Pi_reach_47 : decode zc_Pi_reach 47 = .ok (.aload_n 0, 1) := by decide +kernel
theorem zd_Pi_reach_48 : decode zc_Pi_reach 48 = .ok (.dup, 1) := by decide +kernel
theorem zd_Pi_reach_49 : decode zc_Pi_reach 49 = .ok (.getfield 19, 3) := by decide +kernel
theorem zd_Pi_reach_52 : decode zc_Pi_reach 52 = .ok (.iconst 1, 1) := by decide +kernel
theorem zd_Pi_reach_53 : decode zc_Pi_reach 53 = .ok (.isub, 1) := by decide +kernel
theorem zd_Pi_reach_54 : decode zc_Pi_reach 54 = .ok (.putfield 19, 3) := by decide +kernel
theorem zd_Pi_reach_57 : decode zc_Pi_reach 57 = .ok (.return_, 1) := by decide +kernel
theorem zd_Pi_throwAwayWith_0 : decode zc_Pi_throwAwayWith 0 = .ok (.iconst 0, 1) := by decide +kernel
theorem zd_Pi_throwAwayWith_1 : decode zc_Pi_throwAwayWith 1 = .ok (.istore_n 2, 1) := by decide +kernel
theorem zd_Pi_throwAwayWith_2 : decode zc_Pi_throwAwayWith 2 = .ok (.iload_n 2, 1) := by decide +kernel
theorem zd_Pi_throwAwayWith_3 : decode zc_Pi_throwAwayWith 3 = .ok (.iload_n 1, 1) := by decide +kernel
theorem zd_Pi_throwAwayWith_4 : decode zc_Pi_throwAwayWith 4 = .ok (.if_icmp .gt 28, 3) := by decide +kernel
theorem zd_Pi_throwAwayWith_7 : decode zc_Pi_throwAwayWith 7 = .ok (.iload_n 2, 1) := by decide +kernel
theorem zd_Pi_throwAwayWith_8 : decode zc_Pi_throwAwayWith 8 = .ok (.aload_n 0, 1) := by decide +kernel
theorem zd_Pi_throwAwayWith_9 : decode zc_Pi_throwAwayWith 9 = .ok (.getfield 15, 3) := by decide +kernel
theorem zd_Pi_throwAwayWith_12 : decode zc_Pi_throwAwayWith 12 = .ok (.iload_n 2, 1) := by decide +kernel
theorem zd_Pi_throwAwayWith_13 : decode zc_Pi_throwAwayWith 13 = .ok (.iaload, 1) := by decide +kernel
theorem zd_Pi_throwAwayWith_14 : decode zc_Pi_throwAwayWith 14 = .ok (.iadd, 1) := by decide +kernel
theorem zd_Pi_throwAwayWith_15 : decode zc_Pi_throwAwayWith 15 = .ok (.iload_n 1, 1) := by decide +kernel
theorem zd_Pi_throwAwayWith_16 : decode zc_Pi_throwAwayWith 16 = .ok (.if_icmp .le 10, 3) := by decide +kernel
theorem zd_Pi_throwAwayWith_19 : decode zc_Pi_throwAwayWith 19 = .ok (.aload_n 0, 1) := by decide +kernel
theorem zd_Pi_throwAwayWith_20 : decode zc_Pi_throwAwayWith 20 = .ok (.getfield 15, 3) := by decide +kernel
theorem zd_Pi_throwAwayWith_23 : decode zc_Pi_throwAwayWith 23 = .ok (.iload_n 2, 1) := by decide +kernel
theorem zd_Pi_throwAwayWith_24 : decode zc_Pi_throwAwayWith 24 = .ok (.iconst 0, 1) := by decide +kernel
theorem zd_Pi_throwAwayWith_25 : decode zc_Pi_throwAwayWith 25 = .ok (.iastore, 1) := by decide +kernel
theorem zd_Pi_throwAwayWith_26 : decode zc_Pi_throwAwayWith 26 = .ok (.iinc 2 1, 3) := by decide +kernel
theorem zd_Pi_throwAwayWith_29 : decode zc_Pi_throwAwayWith 29 = .ok (.goto (-27), 3) := by decide +kernel
theorem zd_Pi_throwAwayWith_32 : decode zc_Pi_throwAwayWith 32 = .ok (.return_, 1) := by decide +kernel
theorem zd_Fi_note_0 : decode zc_Fi_note 0 = .ok (.iconst 0, 1) := by decide +kernel
theorem zd_Fi_note_1 : decode zc_Fi_note 1 = .ok (.istore 4, 2) := by decide +kernel
theorem zd_Fi_note_3 : decode zc_Fi_note 3 = .ok (.iload 4, 2) := by decide +kernel
theorem zd_Fi_note_5 : decode zc_Fi_note 5 = .ok (.aload_n 0, 1) := by decide +kernel
theorem zd_Fi_note_6 : decode zc_Fi_note 6 = .ok (.getfield 22, 3) := by decide +kernel
theorem zd_Fi_note_9 : decode zc_Fi_note 9 = .ok (.if_icmp .ge 43, 3) := by decide +kernel
theorem zd_Fi_note_12 : decode zc_Fi_note 12 = .ok (.aload_n 0, 1) := by decide +kernel
theorem zd_Fi_note_13 : decode zc_Fi_note 13 = .ok (.getfield 9, 3) := by decide +kernel
theorem zd_Fi_note_16 : decode zc_Fi_note 16 = .ok (.iload 4, 2) := by decide +kernel
theorem zd_Fi_note_18 : decode zc_Fi_note 18 = .ok (.iaload, 1) := by decide +kernel
theorem zd_Fi_note_19 : decode zc_Fi_note 19 = .ok (.iload_n 1, 1) := by decide +kernel
theorem zd_Fi_note_20 : decode zc_Fi_note 20 = .ok (.if_icmp .ne 26, 3) := by decide +kernel
theorem zd_Fi_note_23 : decode zc_Fi_note 23 = .ok (.aload_n 0, 1) := by decide +kernel
theorem zd_Fi_note_24 : decode zc_Fi_note 24 = .ok (.getfield 13, 3) := by decide +kernel
theorem zd_Fi_note_27 : decode zc_Fi_note 27 = .ok (.iload 4, 2) := by decide +kernel
theorem zd_Fi_note_29 : decode zc_Fi_note 29 = .ok (.iaload, 1) := by decide +kernel
theorem zd_Fi_note_30 : decode zc_Fi_note 30 = .ok (.iload_n 2, 1) := by decide +kernel
theorem zd_Fi_note_31 : decode zc_Fi_note 31 = .ok (.if_icmp .ne 15, 3) := by decide +kernel
theorem zd_Fi_note_34 : decode zc_Fi_note 34 = .ok (.aload_n 0, 1) := by decide +kernel
theorem zd_Fi_note_35 : decode zc_Fi_note 35 = .ok (.getfield 19, 3) := by decide +kernel
theorem zd_Fi_note_38 : decode zc_Fi_note 38 = .ok (.iload 4, 2) := by decide +kernel
theorem zd_Fi_note_40 : decode zc_Fi_note 40 = .ok (.dup2, 1) := by decide +kernel
theorem zd_Fi_note_41 : decode zc_Fi_note 41 = .ok (.iaload, 1) := by decide +kernel
theorem zd_Fi_note_42 : decode zc_Fi_note 42 = .ok (.iconst 1, 1) := by decide +kernel
theorem zd_Fi_note_43 : decode zc_Fi_note 43 = .ok (.iadd, 1) := by decide +kernel
theorem zd_Fi_note_44 : decode zc_Fi_note 44 = .ok (.iastore, 1) := by decide +kernel
theorem zd_Fi_note_45 : decode zc_Fi_note 45 = .ok (.return_, 1) := by decide +kernel
theorem zd_Fi_note_46 : decode zc_Fi_note 46 = .ok (.iinc 4 1, 3) := by decide +kernel
theorem zd_Fi_note_49 : decode zc_Fi_note 49 = .ok (.goto (-46), 3) := by decide +kernel
theorem zd_Fi_note_52 : decode zc_Fi_note 52 = .ok (.aload_n 0, 1) := by decide +kernel
theorem zd_Fi_note_53 : decode zc_Fi_note 53 = .ok (.getfield 22, 3) := by decide +kernel
theorem zd_Fi_note_56 : decode zc_Fi_note 56 = .ok (.bipush 24, 2) := by decide +kernel
theorem zd_Fi_note_58 : decode zc_Fi_note 58 = .ok (.if_icmp .ge 53, 3) := by decide +kernel
theorem zd_Fi_note_61 : decode zc_Fi_note 61 = .ok (.aload_n 0, 1) := by decide +kernel
theorem zd_Fi_note_62 : decode zc_Fi_note 62 = .ok (.getfield 9, 3) := by decide +kernel
theorem zd_Fi_note_65 : decode zc_Fi_note 65 = .ok (.aload_n 0, 1) := by decide +kernel
theorem zd_Fi_note_66 : decode zc_Fi_note 66 = .ok (.getfield 22, 3) := by decide +kernel
theorem zd_Fi_note_69 : decode zc_Fi_note 69 = .ok (.iload_n 1, 1) := by decide +kernel
theorem zd_Fi_note_70 : decode zc_Fi_note 70 = .ok (.iastore, 1) := by decide +kernel
theorem zd_Fi_note_71 : decode zc_Fi_note 71 = .ok (.aload_n 0, 1) := by decide +kernel
theorem zd_Fi_note_72 : decode zc_Fi_note 72 = .ok (.getfield 13, 3) := by decide +kernel
theorem zd_Fi_note_75 : decode zc_Fi_note 75 = .ok (.aload_n 0, 1) := by decide +kernel
theorem zd_Fi_note_76 : decode zc_Fi_note 76 = .ok (.getfield 22, 3) := by decide +kernel
theorem zd_Fi_note_79 : decode zc_Fi_note 79 = .ok (.iload_n 2, 1) := by decide +kernel
theorem zd_Fi_note_80 : decode zc_Fi_note 80 = .ok (.iastore, 1) := by decide +kernel
theorem zd_Fi_note_81 : decode zc_Fi_note 81 = .ok (.aload_n 0, 1) := by decide +kernel
theorem zd_Fi_note_82 : decode zc_Fi_note 82 = .ok (.getfield 16, 3) := by decide +kernel
theorem zd_Fi_note_85 : decode zc_Fi_note 85 = .ok (.aload_n 0, 1) := by decide +kernel
theorem zd_Fi_note_86 : decode zc_Fi_note 86 = .ok (.getfield 22, 3) := by decide +kernel
theorem zd_Fi_note_89 : decode zc_Fi_note 89 = .ok (.iload_n 3, 1) := by decide +kernel
theorem zd_Fi_note_90 : decode zc_Fi_note 90 = .ok (.iastore, 1) := by decide +kernel
theorem zd_Fi_note_91 : decode zc_Fi_note 91 = .ok (.aload_n 0, 1) := by decide +kernel
theorem zd_Fi_note_92 : decode zc_Fi_note 92 = .ok (.getfield 19, 3) := by decide +kernel
theorem zd_Fi_note_95 : decode zc_Fi_note 95 = .ok (.aload_n 0, 1) := by decide +kernel
theorem zd_Fi_note_96 : decode zc_Fi_note 96 = .ok (.getfield 22, 3) := by decide +kernel
theorem zd_Fi_note_99 : decode zc_Fi_note 99 = .ok (.iconst 1, 1) := by decide +kernel
theorem zd_Fi_note_100 : decode zc_Fi_note 100 = .ok (.iastore, 1) := by decide +kernel
theorem zd_Fi_note_101 : decode zc_Fi_note 101 = .ok (.aload_n 0, 1) := by decide +kernel
theorem zd_Fi_note_102 : decode zc_Fi_note 102 = .ok (.dup, 1) := by decide +kernel
theorem zd_Fi_note_103 : decode zc_Fi_note 103 = .ok (.getfield 22, 3) := by decide +kernel
theorem zd_Fi_note_106 : decode zc_Fi_note 106 = .ok (.iconst 1, 1) := by decide +kernel
theorem zd_Fi_note_107 : decode zc_Fi_note 107 = .ok (.iadd, 1) := by decide +kernel
theorem zd_Fi_note_108 : decode zc_Fi_note 108 = .ok (.putfield 22, 3) := by decide +kernel
theorem zd_Fi_note_111 : decode zc_Fi_note 111 = .ok (.return_, 1) := by decide +kernel
theorem zd_Fi_has_0 : decode zc_Fi_has 0 = .ok (.iload_n 1, 1) := by decide +kernel
theorem zd_Fi_has_1 : decode zc_Fi_has 1 = .ok (.ifCond .lt 15, 3) := by decide +kernel
theorem zd_Fi_has_4 : decode zc_Fi_has 4 = .ok (.iload_n 1, 1) := by decide +kernel
theorem zd_Fi_has_5 : decode zc_Fi_has 5 = .ok (.aload_n 0, 1) := by decide +kernel
theorem zd_Fi_has_6 : decode zc_Fi_has 6 = .ok (.getfield 22, 3) := by decide +kernel
theorem zd_Fi_has_9 : decode zc_Fi_has 9 = .ok (.if_icmp .ge 7, 3) := by decide +kernel
theorem zd_Fi_has_12 : decode zc_Fi_has 12 = .ok (.iconst 1, 1) := by decide +kernel
theorem zd_Fi_has_13 : decode zc_Fi_has 13 = .ok (.goto 4, 3) := by decide +kernel
theorem zd_Fi_has_16 : decode zc_Fi_has 16 = .ok (.iconst 0, 1) := by decide +kernel
theorem zd_Fi_has_17 : decode zc_Fi_has 17 = .ok (.ireturn, 1) := by decide +kernel
theorem zd_Fi_kind_0 : decode zc_Fi_kind 0 = .ok (.aload_n 0, 1) := by decide +kernel
theorem zd_Fi_kind_1 : decode zc_Fi_kind 1 = .ok (.getfield 9, 3) := by decide +kernel
theorem zd_Fi_kind_4 : decode zc_Fi_kind 4 = .ok (.iload_n 1, 1) := by decide +kernel
theorem zd_Fi_kind_5 : decode zc_Fi_kind 5 = .ok (.iaload, 1) := by decide +kernel
theorem zd_Fi_kind_6 : decode zc_Fi_kind 6 = .ok (.ireturn, 1) := by decide +kernel
theorem zd_Fi_instruction_0 : decode zc_Fi_instruction 0 = .ok (.aload_n 0, 1) := by decide +kernel
theorem zd_Fi_instruction_1 : decode zc_Fi_instruction 1 = .ok (.getfield 13, 3) := by decide +kernel
theorem zd_Fi_instruction_4 : decode zc_Fi_instruction 4 = .ok (.iload_n 1, 1) := by decide +kernel
theorem zd_Fi_instruction_5 : decode zc_Fi_instruction 5 = .ok (.iaload, 1) := by decide +kernel
theorem zd_Fi_instruction_6 : decode zc_Fi_instruction 6 = .ok (.ireturn, 1) := by decide +kernel
theorem zd_Fi_address_0 : decode zc_Fi_address 0 = .ok (.aload_n 0, 1) := by decide +kernel
theorem zd_Fi_address_1 : decode zc_Fi_address 1 = .ok (.getfield 16, 3) := by decide +kernel
theorem zd_Fi_address_4 : decode zc_Fi_address 4 = .ok (.iload_n 1, 1) := by decide +kernel
theorem zd_Fi_address_5 : decode zc_Fi_address 5 = .ok (.iaload, 1) := by decide +kernel
theorem zd_Fi_address_6 : decode zc_Fi_address 6 = .ok (.ireturn, 1) := by decide +kernel
theorem zd_Fi_times_0 : decode zc_Fi_times 0 = .ok (.aload_n 0, 1) := by decide +kernel
theorem zd_Fi_times_1 : decode zc_Fi_times 1 = .ok (.getfield 19, 3) := by decide +kernel
theorem zd_Fi_times_4 : decode zc_Fi_times 4 = .ok (.iload_n 1, 1) := by decide +kernel
theorem zd_Fi_times_5 : decode zc_Fi_times 5 = .ok (.iaload, 1) := by decide +kernel
theorem zd_Fi_times_6 : decode zc_Fi_times 6 = .ok (.ireturn, 1) := by decide +kernel
theorem zd_He_isFree_0 : decode zc_He_isFree 0 = .ok (.iconst 0, 1) := by decide +kernel
theorem zd_He_isFree_1 : decode zc_He_isFree 1 = .ok (.istore_n 3, 1) := by decide +kernel
theorem zd_He_isFree_2 : decode zc_He_isFree 2 = .ok (.iload_n 3, 1) := by decide +kernel
theorem zd_He_isFree_3 : decode zc_He_isFree 3 = .ok (.aload_n 0, 1) := by decide +kernel
theorem zd_He_isFree_4 : decode zc_He_isFree 4 = .ok (.getfield 29, 3) := by decide +kernel
theorem zd_He_isFree_7 : decode zc_He_isFree 7 = .ok (.if_icmp .ge 33, 3) := by decide +kernel
theorem zd_He_isFree_10 : decode zc_He_isFree 10 = .ok (.iload_n 1, 1) := by decide +kernel
theorem zd_He_isFree_11 : decode zc_He_isFree 11 = .ok (.aload_n 0, 1) := by decide +kernel
theorem zd_He_isFree_12 : decode zc_He_isFree 12 = .ok (.getfield 23, 3) := by decide +kernel
theorem zd_He_isFree_15 : decode zc_He_isFree 15 = .ok (.iload_n 3, 1) := by decide +kernel
theorem zd_He_isFree_16 : decode zc_He_isFree 16 = .ok (.iaload, 1) := by decide +kernel
theorem zd_He_isFree_17 : decode zc_He_isFree 17 = .ok (.if_icmp .ge 17, 3) := by decide +kernel
theorem zd_He_isFree_20 : decode zc_He_isFree 20 = .ok (.aload_n 0, 1) := by decide +kernel
theorem zd_He_isFree_21 : decode zc_He_isFree 21 = .ok (.getfield 17, 3) := by decide +kernel
theorem zd_He_isFree_24 : decode zc_He_isFree 24 = .ok (.iload_n 3, 1) := by decide +kernel
theorem zd_He_isFree_25 : decode zc_He_isFree 25 = .ok (.iaload, 1) := by decide +kernel
theorem zd_He_isFree_26 : decode zc_He_isFree 26 = .ok (.iconst 4, 1) := by decide +kernel
theorem zd_He_isFree_27 : decode zc_He_isFree 27 = .ok (.isub, 1) := by decide +kernel
theorem zd_He_isFree_28 : decode zc_He_isFree 28 = .ok (.iload_n 2, 1) := by decide +kernel
theorem zd_He_isFree_29 : decode zc_He_isFree 29 = .ok (.if_icmp .ge 5, 3) := by decide +kernel
theorem zd_He_isFree_32 : decode zc_He_isFree 32 = .ok (.iconst 0, 1) := by decide +kernel
theorem zd_He_isFree_33 : decode zc_He_isFree 33 = .ok (.ireturn, 1) := by decide +kernel
theorem zd_He_isFree_34 : decode zc_He_isFree 34 = .ok (.iinc 3 1, 3) := by decide +kernel
theorem zd_He_isFree_37 : decode zc_He_isFree 37 = .ok (.goto (-35), 3) := by decide +kernel
theorem zd_He_isFree_40 : decode zc_He_isFree 40 = .ok (.iconst 1, 1) := by decide +kernel
theorem zd_He_isFree_41 : decode zc_He_isFree 41 = .ok (.ireturn, 1) := by decide +kernel
theorem zd_He_placeFor_0 : decode zc_He_placeFor 0 = .ok (.bipush 68, 2) := by decide +kernel
theorem zd_He_placeFor_2 : decode zc_He_placeFor 2 = .ok (.istore_n 2, 1) := by decide +kernel
theorem zd_He_placeFor_3 : decode zc_He_placeFor 3 = .ok (.iload_n 2, 1) := by decide +kernel
theorem zd_He_placeFor_4 : decode zc_He_placeFor 4 = .ok (.iload_n 1, 1) := by decide +kernel
theorem zd_He_placeFor_5 : decode zc_He_placeFor 5 = .ok (.iadd, 1) := by decide +kernel
theorem zd_He_placeFor_6 : decode zc_He_placeFor 6 = .ok (.iconst 4, 1) := by decide +kernel
theorem zd_He_placeFor_7 : decode zc_He_placeFor 7 = .ok (.iadd, 1) := by decide +kernel
theorem zd_He_placeFor_8 : decode zc_He_placeFor 8 = .ok (.sipush 224, 3) := by decide +kernel
theorem zd_He_placeFor_11 : decode zc_He_placeFor 11 = .ok (.if_icmp .gt 26, 3) := by decide +kernel
theorem zd_He_placeFor_14 : decode zc_He_placeFor 14 = .ok (.aload_n 0, 1) := by decide +kernel
theorem zd_He_placeFor_15 : decode zc_He_placeFor 15 = .ok (.iload_n 2, 1) := by decide +kernel
theorem zd_He_placeFor_16 : decode zc_He_placeFor 16 = .ok (.iconst 4, 1) := by decide +kernel
theorem zd_He_placeFor_17 : decode zc_He_placeFor 17 = .ok (.isub, 1) := by decide +kernel
theorem zd_He_placeFor_18 : decode zc_He_placeFor 18 = .ok (.iload_n 2, 1) := by decide +kernel
theorem zd_He_placeFor_19 : decode zc_He_placeFor 19 = .ok (.iload_n 1, 1) := by decide +kernel
theorem zd_He_placeFor_20 : decode zc_He_placeFor 20 = .ok (.iadd, 1) := by decide +kernel
theorem zd_He_placeFor_21 : decode zc_He_placeFor 21 = .ok (.iconst 4, 1) := by decide +kernel
theorem zd_He_placeFor_22 : decode zc_He_placeFor 22 = .ok (.iadd, 1) := by decide +kernel
theorem zd_He_placeFor_23 : decode zc_He_placeFor 23 = .ok (.invokevirtual 47, 3) := by decide +kernel
theorem zd_He_placeFor_26 : decode zc_He_placeFor 26 = .ok (.ifCond .eq 5, 3) := by decide +kernel
theorem zd_He_placeFor_29 : decode zc_He_placeFor 29 = .ok (.iload_n 2, 1) := by decide +kernel
theorem zd_He_placeFor_30 : decode zc_He_placeFor 30 = .ok (.ireturn, 1) := by decide +kernel
theorem zd_He_placeFor_31 : decode zc_He_placeFor 31 = .ok (.iinc 2 4, 3) := by decide +kernel
theorem zd_He_placeFor_34 : decode zc_He_placeFor 34 = .ok (.goto (-31), 3) := by decide +kernel
theorem zd_He_placeFor_37 : decode zc_He_placeFor 37 = .ok (.iconst 0, 1) := by decide +kernel
theorem zd_He_placeFor_38 : decode zc_He_placeFor 38 = .ok (.ireturn, 1) := by decide +kernel
theorem zd_He_add_0 : decode zc_He_add 0 = .ok (.aload_n 0, 1) := by decide +kernel
theorem zd_He_add_1 : decode zc_He_add 1 = .ok (.dup, 1) := by decide +kernel
theorem zd_He_add_2 : decode zc_He_add 2 = .ok (.getfield 51, 3) := by decide +kernel
theorem zd_He_add_5 : decode zc_He_add 5 = .ok (.iconst 1, 1) := by decide +kernel
theorem zd_He_add_6 : decode zc_He_add 6 = .ok (.iadd, 1) := by decide +kernel
theorem zd_He_add_7 : decode zc_He_add 7 = .ok (.putfield 51, 3) := by decide +kernel
theorem zd_He_add_10 : decode zc_He_add 10 = .ok (.aload_n 0, 1) := by decide +kernel
theorem zd_He_add_11 : decode zc_He_add 11 = .ok (.getfield 13, 3) := by decide +kernel
theorem zd_He_add_14 : decode zc_He_add 14 = .ok (.aload_n 0, 1) := by decide +kernel
theorem zd_He_add_15 : decode zc_He_add 15 = .ok (.getfield 29, 3) := by decide +kernel
theorem zd_He_add_18 : decode zc_He_add 18 = .ok (.aload_n 0, 1) := by decide +kernel
theorem zd_He_add_19 : decode zc_He_add 19 = .ok (.getfield 51, 3) := by decide +kernel
theorem zd_He_add_22 : decode zc_He_add 22 = .ok (.iastore, 1) := by decide +kernel
theorem zd_He_add_23 : decode zc_He_add 23 = .ok (.aload_n 0, 1) := by decide +kernel
theorem zd_He_add_24 : decode zc_He_add 24 = .ok (.getfield 17, 3) := by decide +kernel
theorem zd_He_add_27 : decode zc_He_add 27 = .ok (.aload_n 0, 1) := by decide +kernel
theorem zd_He_add_28 : decode zc_He_add 28 = .ok (.getfield 29, 3) := by decide +kernel
theorem zd_He_add_31 : decode zc_He_add 31 = .ok (.iload_n 1, 1) := by decide +kernel
theorem zd_He_add_32 : decode zc_He_add 32 = .ok (.iastore, 1) := by decide +kernel
theorem zd_He_add_33 : decode zc_He_add 33 = .ok (.aload_n 0, 1) := by decide +kernel
theorem zd_He_add_34 : decode zc_He_add 34 = .ok (.getfield 20, 3) := by decide +kernel
theorem zd_He_add_37 : decode zc_He_add 37 = .ok (.aload_n 0, 1) := by decide +kernel
theorem zd_He_add_38 : decode zc_He_add 38 = .ok (.getfield 29, 3) := by decide +kernel
theorem zd_He_add_41 : decode zc_He_add 41 = .ok (.iload_n 2, 1) := by decide +kernel
theorem zd_He_add_42 : decode zc_He_add 42 = .ok (.iastore, 1) := by decide +kernel
theorem zd_He_add_43 : decode zc_He_add 43 = .ok (.aload_n 0, 1) := by decide +kernel
theorem zd_He_add_44 : decode zc_He_add 44 = .ok (.getfield 23, 3) := by decide +kernel
theorem zd_He_add_47 : decode zc_He_add 47 = .ok (.aload_n 0, 1) := by decide +kernel
theorem zd_He_add_48 : decode zc_He_add 48 = .ok (.getfield 29, 3) := by decide +kernel
theorem zd_He_add_51 : decode zc_He_add 51 = .ok (.iload_n 3, 1) := by decide +kernel
theorem zd_He_add_52 : decode zc_He_add 52 = .ok (.iastore, 1) := by decide +kernel
theorem zd_He_add_53 : decode zc_He_add 53 = .ok (.aload_n 0, 1) := by decide +kernel
theorem zd_He_add_54 : decode zc_He_add 54 = .ok (.getfield 26, 3) := by decide +kernel
theorem zd_He_add_57 : decode zc_He_add 57 = .ok (.aload_n 0, 1) := by decide +kernel
theorem zd_He_add_58 : decode zc_He_add 58 = .ok (.getfield 29, 3) := by decide +kernel
theorem zd_He_add_61 : decode zc_He_add 61 = .ok (.iconst 0, 1) := by decide +kernel
theorem zd_He_add_62 : decode zc_He_add 62 = .ok (.iastore, 1) := by decide +kernel
theorem zd_He_add_63 : decode zc_He_add 63 = .ok (.aload_n 0, 1) := by decide +kernel
theorem zd_He_add_64 : decode zc_He_add 64 = .ok (.dup, 1) := by decide +kernel
theorem zd_He_add_65 : decode zc_He_add 65 = .ok (.getfield 29, 3) := by decide +kernel
theorem zd_He_add_68 : decode zc_He_add 68 = .ok (.iconst 1, 1) := by decide +kernel
theorem zd_He_add_69 : decode zc_He_add 69 = .ok (.iadd, 1) := by decide +kernel
theorem zd_He_add_70 : decode zc_He_add 70 = .ok (.putfield 29, 3) := by decide +kernel
theorem zd_He_add_73 : decode zc_He_add 73 = .ok (.return_, 1) := by decide +kernel
theorem zd_He_ask_0 : decode zc_He_ask 0 = .ok (.iload_n 1, 1) := by decide +kernel
theorem zd_He_ask_1 : decode zc_He_ask 1 = .ok (.iconst 1, 1) := by decide +kernel
theorem zd_He_ask_2 : decode zc_He_ask 2 = .ok (.if_icmp .lt 18, 3) := by decide +kernel
theorem zd_He_ask_5 : decode zc_He_ask 5 = .ok (.iload_n 1, 1) := by decide +kernel
theorem zd_He_ask_6 : decode zc_He_ask 6 = .ok (.bipush 48, 2) := by decide +kernel
theorem zd_He_ask_8 : decode zc_He_ask 8 = .ok (.if_icmp .gt 12, 3) := by decide +kernel
theorem zd_He_ask_11 : decode zc_He_ask 11 = .ok (.aload_n 0, 1) := by decide +kernel
theorem zd_He_ask_12 : decode zc_He_ask 12 = .ok (.getfield 29, 3) := by decide +kernel
theorem zd_He_ask_15 : decode zc_He_ask 15 = .ok (.bipush 10, 2) := by decide +kernel
theorem zd_He_ask_17 : decode zc_He_ask 17 = .ok (.if_icmp .ne 5, 3) := by decide +kernel
theorem zd_He_ask_20 : decode zc_He_ask 20 = .ok (.iconst 0, 1) := by decide +kernel
theorem zd_He_ask_21 : decode zc_He_ask 21 = .ok (.ireturn, 1) := by decide +kernel
theorem zd_He_ask_22 : decode zc_He_ask 22 = .ok (.iload_n 1, 1) := by decide +kernel
theorem zd_He_ask_23 : decode zc_He_ask 23 = .ok (.iconst 3, 1) := by decide +kernel
theorem zd_He_ask_24 : decode zc_He_ask 24 = .ok (.iadd, 1) := by decide +kernel
theorem zd_He_ask_25 : decode zc_He_ask 25 = .ok (.iconst 4, 1) := by decide +kernel
theorem zd_He_ask_26 : decode zc_He_ask 26 = .ok (.idiv, 1) := by decide +kernel
theorem zd_He_ask_27 : decode zc_He_ask 27 = .ok (.iconst 4, 1) := by decide +kernel
theorem zd_He_ask_28 : decode zc_He_ask 28 = .ok (.imul, 1) := by decide +kernel
theorem zd_He_ask_29 : decode zc_He_ask 29 = .ok (.istore_n 2, 1) := by decide +kernel
theorem zd_He_ask_30 : decode zc_He_ask 30 = .ok (.aload_n 0, 1) := by decide +kernel
theorem zd_He_ask_31 : decode zc_He_ask 31 = .ok (.iload_n 2, 1) := by decide +kernel
theorem zd_He_ask_32 : decode zc_He_ask 32 = .ok (.invokevirtual 33, 3) := by decide +kernel
theorem zd_He_ask_35 : decode zc_He_ask 35 = .ok (.istore_n 3, 1) := by decide +kernel
theorem zd_He_ask_36 : decode zc_He_ask 36 = .ok (.iload_n 3, 1) := by decide +kernel
theorem zd_He_ask_37 : decode zc_He_ask 37 = .ok (.ifCond .eq 24, 3) := by decide +kernel
theorem zd_He_ask_40 : decode zc_He_ask 40 = .ok (.aload_n 0, 1) := by decide +kernel
theorem zd_He_ask_41 : decode zc_He_ask 41 = .ok (.iload_n 3, 1) := by decide +kernel
theorem zd_He_ask_42 : decode zc_He_ask 42 = .ok (.iload_n 1, 1) := by decide +kernel
theorem zd_He_ask_43 : decode zc_He_ask 43 = .ok (.iload_n 3, 1) := by decide +kernel
theorem zd_He_ask_44 : decode zc_He_ask 44 = .ok (.iload_n 2, 1) := by decide +kernel
theorem zd_He_ask_45 : decode zc_He_ask 45 = .ok (.iadd, 1) := by decide +kernel
theorem zd_He_ask_46 : decode zc_He_ask 46 = .ok (.iconst 4, 1) := by decide +kernel
theorem zd_He_ask_47 : decode zc_He_ask 47 = .ok (.iadd, 1) := by decide +kernel
theorem zd_He_ask_48 : decode zc_He_ask 48 = .ok (.invokevirtual 37, 3) := by decide +kernel
theorem zd_He_ask_51 : decode zc_He_ask 51 = .ok (.aload_n 0, 1) := by decide +kernel
theorem zd_He_ask_52 : decode zc_He_ask 52 = .ok (.getfield 7, 3) := by decide +kernel
theorem zd_He_ask_55 : decode zc_He_ask 55 = .ok (.iload_n 3, 1) := by decide +kernel
theorem zd_He_ask_56 : decode zc_He_ask 56 = .ok (.iload_n 1, 1) := by decide +kernel
theorem zd_He_ask_57 : decode zc_He_ask 57 = .ok (.iconst 1, 1) := by decide +kernel
theorem zd_He_ask_58 : decode zc_He_ask 58 = .ok (.invokevirtual 41, 3) := by decide +kernel
theorem zd_He_ask_61 : decode zc_He_ask 61 = .ok (.iload_n 3, 1) := by decide +kernel
theorem zd_He_ask_62 : decode zc_He_ask 62 = .ok (.ireturn, 1) := by decide +kernel
theorem zd_He_longestResting_0 : decode zc_He_longestResting 0 = .ok (.iconst (-1), 1) := by decide +kernel
theorem zd_He_longestResting_1 : decode zc_He_longestResting 1 = .ok (.istore_n 1, 1) := by decide +kernel
theorem zd_He_longestResting_2 : decode zc_He_longestResting 2 = .ok (.iconst 0, 1) := by decide +kernel
theorem zd_He_longestResting_3 : decode zc_He_longestResting 3 = .ok (.istore_n 2, 1) := by decide +kernel
theorem zd_He_longestResting_4 : decode zc_He_longestResting 4 = .ok (.iload_n 2, 1) := by decide +kernel
theorem zd_He_longestResting_5 : decode zc_He_longestResting 5 = .ok (.aload_n 0, 1) := by decide +kernel
theorem zd_He_longestResting_6 : decode zc_He_longestResting 6 = .ok (.getfield 29, 3) := by decide +kernel
theorem zd_He_longestResting_9 : decode zc_He_longestResting 9 = .ok (.if_icmp .ge 39, 3) := by decide +kernel
theorem zd_He_longestResting_12 : decode zc_He_longestResting 12 = .ok (.aload_n 0, 1) := by decide +kernel
theorem zd_He_longestResting_13 : decode zc_He_longestResting 13 = .ok (.iload_n 2, 1) := by decide +kernel
theorem zd_He_longestResting_14 : decode zc_He_longestResting 14 = .ok (.invokevirtual 68, 3) := by decide +kernel
theorem zd_He_longestResting_17 : decode zc_He_longestResting 17 = .ok (.ifCond .ne 25, 3) := by decide +kernel
theorem zd_He_longestResting_20 : decode zc_He_longestResting 20 = .ok (.iload_n 1, 1) := by decide +kernel
theorem zd_He_longestResting_21 : decode zc_He_longestResting 21 = .ok (.iconst (-1), 1) := by decide +kernel
theorem zd_He_longestResting_22 : decode zc_He_longestResting 22 = .ok (.if_icmp .eq 18, 3) := by decide +kernel
theorem zd_He_longestResting_25 : decode zc_He_longestResting 25 = .ok (.aload_n 0, 1) := by decide +kernel
theorem zd_He_longestResting_26 : decode zc_He_longestResting 26 = .ok (.getfield 26, 3) := by decide +kernel
theorem zd_He_longestResting_29 : decode zc_He_longestResting 29 = .ok (.iload_n 2, 1) := by decide +kernel
theorem zd_He_longestResting_30 : decode zc_He_longestResting 30 = .ok (.iaload, 1) := by decide +kernel
theorem zd_He_longestResting_31 : decode zc_He_longestResting 31 = .ok (.aload_n 0, 1) := by decide +kernel
theorem zd_He_longestResting_32 : decode zc_He_longestResting 32 = .ok (.getfield 26, 3) := by decide +kernel
theorem zd_He_longestResting_35 : decode zc_He_longestResting 35 = .ok (.iload_n 1, 1) := by decide +kernel
theorem zd_He_longestResting_36 : decode zc_He_longestResting 36 = .ok (.iaload, 1) := by decide +kernel
theorem zd_He_longestResting_37 : decode zc_He_longestResting 37 = .ok (.if_icmp .ge 5, 3) := by decide +kernel
theorem zd_He_longestResting_40 : decode zc_He_longestResting 40 = .ok (.iload_n 2, 1) := by decide +kernel
theorem zd_He_longestResting_41 : decode zc_He_longestResting 41 = .ok (.istore_n 1, 1) := by decide +kernel
theorem zd_He_longestResting_42 : decode zc_He_longestResting 42 = .ok (.iinc 2 1, 3) := by decide +kernel
theorem zd_He_longestResting_45 : decode zc_He_longestResting 45 = .ok (.goto (-41), 3) := by decide +kernel
theorem zd_He_longestResting_48 : decode zc_He_longestResting 48 = .ok (.iload_n 1, 1) := by decide +kernel
theorem zd_He_longestResting_49 : decode zc_He_longestResting 49 = .ok (.ireturn, 1) := by decide +kernel
theorem zd_He_remove_0 : decode zc_He_remove 0 = .ok (.iload_n 1, 1) := by decide +kernel
theorem zd_He_remove_1 : decode zc_He_remove 1 = .ok (.iconst (-1), 1) := by decide +kernel
theorem zd_He_remove_2 : decode zc_He_remove 2 = .ok (.if_icmp .ne 4, 3) := by decide +kernel
theorem zd_He_remove_5 : decode zc_He_remove 5 = .ok (.return_, 1) := by decide +kernel
theorem zd_He_remove_6 : decode zc_He_remove 6 = .ok (.aload_n 0, 1) := by decide +kernel
theorem zd_He_remove_7 : decode zc_He_remove 7 = .ok (.dup, 1) := by decide +kernel
theorem zd_He_remove_8 : decode zc_He_remove 8 = .ok (.getfield 29, 3) := by decide +kernel
theorem zd_He_remove_11 : decode zc_He_remove 11 = .ok (.iconst 1, 1) := by decide +kernel
theorem zd_He_remove_12 : decode zc_He_remove 12 = .ok (.isub, 1) := by decide +kernel
theorem zd_He_remove_13 : decode zc_He_remove 13 = .ok (.putfield 29, 3) := by decide +kernel
theorem zd_He_remove_16 : decode zc_He_remove 16 = .ok (.iload_n 1, 1) := by decide +kernel
theorem zd_He_remove_17 : decode zc_He_remove 17 = .ok (.istore_n 2, 1) := by decide +kernel
theorem zd_He_remove_18 : decode zc_He_remove 18 = .ok (.iload_n 2, 1) := by decide +kernel
theorem zd_He_remove_19 : decode zc_He_remove 19 = .ok (.aload_n 0, 1) := by decide +kernel
theorem zd_He_remove_20 : decode zc_He_remove 20 = .ok (.getfield 29, 3) := by decide +kernel
theorem zd_He_remove_23 : decode zc_He_remove 23 = .ok (.if_icmp .ge 79, 3) := by decide +kernel
theorem zd_He_remove_26 : decode zc_He_remove 26 = .ok (.aload_n 0, 1) := by decide +kernel
theorem zd_He_remove_27 : decode zc_He_remove 27 = .ok (.getfield 13, 3) := by decide +kernel
theorem zd_He_remove_30 : decode zc_He_remove 30 = .ok (.iload_n 2, 1) := by decide +kernel
theorem zd_He_remove_31 : decode zc_He_remove 31 = .ok (.aload_n 0, 1) := by decide +kernel
theorem zd_He_remove_32 : decode zc_He_remove 32 = .ok (.getfield 13, 3) := by decide +kernel
theorem zd_He_remove_35 : decode zc_He_remove 35 = .ok (.iload_n 2, 1) := by decide +kernel
theorem zd_He_remove_36 : decode zc_He_remove 36 = .ok (.iconst 1, 1) := by decide +kernel
theorem zd_He_remove_37 : decode zc_He_remove 37 = .ok (.iadd, 1) := by decide +kernel
theorem zd_He_remove_38 : decode zc_He_remove 38 = .ok (.iaload, 1) := by decide +kernel
theorem zd_He_remove_39 : decode zc_He_remove 39 = .ok (.iastore, 1) := by decide +kernel
theorem zd_He_remove_40 : decode zc_He_remove 40 = .ok (.aload_n 0, 1) := by decide +kernel
theorem zd_He_remove_41 : decode zc_He_remove 41 = .ok (.getfield 17, 3) := by decide +kernel
theorem zd_He_remove_44 : decode zc_He_remove 44 = .ok (.iload_n 2, 1) := by decide +kernel
theorem zd_He_remove_45 : decode zc_He_remove 45 = .ok (.aload_n 0, 1) := by decide +kernel
theorem zd_He_remove_46 : decode zc_He_remove 46 = .ok (.getfield 17, 3) := by decide +kernel
theorem zd_He_remove_49 : decode zc_He_remove 49 = .ok (.iload_n 2, 1) := by decide +kernel
theorem zd_He_remove_50 : decode zc_He_remove 50 = .ok (.iconst 1, 1) := by decide +kernel
theorem zd_He_remove_51 : decode zc_He_remove 51 = .ok (.iadd, 1) := by decide +kernel
theorem zd_He_remove_52 : decode zc_He_remove 52 = .ok (.iaload, 1) := by decide +kernel
theorem zd_He_remove_53 : decode zc_He_remove 53 = .ok (.iastore, 1) := by decide +kernel
theorem zd_He_remove_54 : decode zc_He_remove 54 = .ok (.aload_n 0, 1) := by decide +kernel
theorem zd_He_remove_55 : decode zc_He_remove 55 = .ok (.getfield 20, 3) := by decide +kernel
theorem zd_He_remove_58 : decode zc_He_remove 58 = .ok (.iload_n 2, 1) := by decide +kernel
theorem zd_He_remove_59 : decode zc_He_remove 59 = .ok (.aload_n 0, 1) := by decide +kernel
theorem zd_He_remove_60 : decode zc_He_remove 60 = .ok (.getfield 20, 3) := by decide +kernel
theorem zd_He_remove_63 : decode zc_He_remove 63 = .ok (.iload_n 2, 1) := by decide +kernel
theorem zd_He_remove_64 : decode zc_He_remove 64 = .ok (.iconst 1, 1) := by decide +kernel
theorem zd_He_remove_65 : decode zc_He_remove 65 = .ok (.iadd, 1) := by decide +kernel
theorem zd_He_remove_66 : decode zc_He_remove 66 = .ok (.iaload, 1) := by decide +kernel
theorem zd_He_remove_67 : decode zc_He_remove 67 = .ok (.iastore, 1) := by decide +kernel
theorem zd_He_remove_68 : decode zc_He_remove 68 = .ok (.aload_n 0, 1) := by decide +kernel
theorem zd_He_remove_69 : decode zc_He_remove 69 = .ok (.getfield 23, 3) := by decide +kernel
theorem zd_He_remove_72 : decode zc_He_remove 72 = .ok (.iload_n 2, 1) := by decide +kernel
theorem zd_He_remove_73 : decode zc_He_remove 73 = .ok (.aload_n 0, 1) := by decide +kernel
theorem zd_He_remove_74 : decode zc_He_remove 74 = .ok (.getfield 23, 3) := by decide +kernel
theorem zd_He_remove_77 : decode zc_He_remove 77 = .ok (.iload_n 2, 1) := by decide +kernel
theorem zd_He_remove_78 : decode zc_He_remove 78 = .ok (.iconst 1, 1) := by decide +kernel
theorem zd_He_remove_79 : decode zc_He_remove 79 = .ok (.iadd, 1) := by decide +kernel
theorem zd_He_remove_80 : decode zc_He_remove 80 = .ok (.iaload, 1) := by decide +kernel
theorem zd_He_remove_81 : decode zc_He_remove 81 = .ok (.iastore, 1) := by decide +kernel
theorem zd_He_remove_82 : decode zc_He_remove 82 = .ok (.aload_n 0, 1) := by decide +kernel
theorem zd_He_remove_83 : decode zc_He_remove 83 = .ok (.getfield 26, 3) := by decide +kernel
theorem zd_He_remove_86 : decode zc_He_remove 86 = .ok (.iload_n 2, 1) := by decide +kernel
theorem zd_He_remove_87 : decode zc_He_remove 87 = .ok (.aload_n 0, 1) := by decide +kernel
theorem zd_He_remove_88 : decode zc_He_remove 88 = .ok (.getfield 26, 3) := by decide +kernel
theorem zd_He_remove_91 : decode zc_He_remove 91 = .ok (.iload_n 2, 1) := by decide +kernel
theorem zd_He_remove_92 : decode zc_He_remove 92 = .ok (.iconst 1, 1) := by decide +kernel
theorem zd_He_remove_93 : decode zc_He_remove 93 = .ok (.iadd, 1) := by decide +kernel
theorem zd_He_remove_94 : decode zc_He_remove 94 = .ok (.iaload, 1) := by decide +kernel
theorem zd_He_remove_95 : decode zc_He_remove 95 = .ok (.iastore, 1) := by decide +kernel
theorem zd_He_remove_96 : decode zc_He_remove 96 = .ok (.iinc 2 1, 3) := by decide +kernel
theorem zd_He_remove_99 : decode zc_He_remove 99 = .ok (.goto (-81), 3) := by decide +kernel
theorem zd_He_remove_102 : decode zc_He_remove 102 = .ok (.return_, 1) := by decide +kernel
theorem zd_He_giveBack_0 : decode zc_He_giveBack 0 = .ok (.aload_n 0, 1) := by decide +kernel
theorem zd_He_giveBack_1 : decode zc_He_giveBack 1 = .ok (.dup, 1) := by decide +kernel
theorem zd_He_giveBack_2 : decode zc_He_giveBack 2 = .ok (.getfield 54, 3) := by decide +kernel
theorem zd_He_giveBack_5 : decode zc_He_giveBack 5 = .ok (.iconst 1, 1) := by decide +kernel
theorem zd_He_giveBack_6 : decode zc_He_giveBack 6 = .ok (.iadd, 1) := by decide +kernel
theorem zd_He_giveBack_7 : decode zc_He_giveBack 7 = .ok (.putfield 54, 3) := by decide +kernel
theorem zd_He_giveBack_10 : decode zc_He_giveBack 10 = .ok (.aload_n 0, 1) := by decide +kernel
theorem zd_He_giveBack_11 : decode zc_He_giveBack 11 = .ok (.getfield 26, 3) := by decide +kernel
theorem zd_He_giveBack_14 : decode zc_He_giveBack 14 = .ok (.iload_n 1, 1) := by decide +kernel
theorem zd_He_giveBack_15 : decode zc_He_giveBack 15 = .ok (.aload_n 0, 1) := by decide +kernel
theorem zd_He_giveBack_16 : decode zc_He_giveBack 16 = .ok (.getfield 54, 3) := by decide +kernel
theorem zd_He_giveBack_19 : decode zc_He_giveBack 19 = .ok (.iastore, 1) := by decide +kernel
theorem zd_He_giveBack_20 : decode zc_He_giveBack 20 = .ok (.aload_n 0, 1) := by decide +kernel
theorem zd_He_giveBack_21 : decode zc_He_giveBack 21 = .ok (.getfield 7, 3) := by decide +kernel
theorem zd_He_giveBack_24 : decode zc_He_giveBack 24 = .ok (.aload_n 0, 1) := by decide +kernel
theorem zd_He_giveBack_25 : decode zc_He_giveBack 25 = .ok (.getfield 17, 3) := by decide +kernel
theorem zd_He_giveBack_28 : decode zc_He_giveBack 28 = .ok (.iload_n 1, 1) := by decide +kernel
theorem zd_He_giveBack_29 : decode zc_He_giveBack 29 = .ok (.iaload, 1) := by decide +kernel
theorem zd_He_giveBack_30 : decode zc_He_giveBack 30 = .ok (.aload_n 0, 1) := by decide +kernel
theorem zd_He_giveBack_31 : decode zc_He_giveBack 31 = .ok (.getfield 20, 3) := by decide +kernel
theorem zd_He_giveBack_34 : decode zc_He_giveBack 34 = .ok (.iload_n 1, 1) := by decide +kernel
theorem zd_He_giveBack_35 : decode zc_He_giveBack 35 = .ok (.iaload, 1) := by decide +kernel
theorem zd_He_giveBack_36 : decode zc_He_giveBack 36 = .ok (.iconst 0, 1) := by decide +kernel
theorem zd_He_giveBack_37 : decode zc_He_giveBack 37 = .ok (.invokevirtual 41, 3) := by decide +kernel
theorem zd_He_giveBack_40 : decode zc_He_giveBack 40 = .ok (.aload_n 0, 1) := by decide +kernel
theorem zd_He_giveBack_41 : decode zc_He_giveBack 41 = .ok (.invokevirtual 57, 3) := by decide +kernel
theorem zd_He_giveBack_44 : decode zc_He_giveBack 44 = .ok (.iconst 3, 1) := by decide +kernel
theorem zd_He_giveBack_45 : decode zc_He_giveBack 45 = .ok (.if_icmp .le 11, 3) := by decide +kernel
theorem zd_He_giveBack_48 : decode zc_He_giveBack 48 = .ok (.aload_n 0, 1) := by decide +kernel
theorem zd_He_giveBack_49 : decode zc_He_giveBack 49 = .ok (.aload_n 0, 1) := by decide +kernel
theorem zd_He_giveBack_50 : decode zc_He_giveBack 50 = .ok (.invokevirtual 61, 3) := by decide +kernel
theorem zd_He_giveBack_53 : decode zc_He_giveBack 53 = .ok (.invokevirtual 64, 3) := by decide +kernel
theorem zd_He_giveBack_56 : decode zc_He_giveBack 56 = .ok (.return_, 1) := by decide +kernel
theorem zd_He_indexOfNumber_0 : decode zc_He_indexOfNumber 0 = .ok (.iconst 0, 1) := by decide +kernel
theorem zd_He_indexOfNumber_1 : decode zc_He_indexOfNumber 1 = .ok (.istore_n 2, 1) := by decide +kernel
theorem zd_He_indexOfNumber_2 : decode zc_He_indexOfNumber 2 = .ok (.iload_n 2, 1) := by decide +kernel
theorem zd_He_indexOfNumber_3 : decode zc_He_indexOfNumber 3 = .ok (.aload_n 0, 1) := by decide +kernel
theorem zd_He_indexOfNumber_4 : decode zc_He_indexOfNumber 4 = .ok (.getfield 29, 3) := by decide +kernel
theorem zd_He_indexOfNumber_7 : decode zc_He_indexOfNumber 7 = .ok (.if_icmp .ge 21, 3) := by decide +kernel
theorem zd_He_indexOfNumber_10 : decode zc_He_indexOfNumber 10 = .ok (.aload_n 0, 1) := by decide +kernel
theorem zd_He_indexOfNumber_11 : decode zc_He_indexOfNumber 11 = .ok (.getfield 13, 3) := by decide +kernel
theorem zd_He_indexOfNumber_14 : decode zc_He_indexOfNumber 14 = .ok (.iload_n 2, 1) := by decide +kernel
theorem zd_He_indexOfNumber_15 : decode zc_He_indexOfNumber 15 = .ok (.iaload, 1) := by decide +kernel
theorem zd_He_indexOfNumber_16 : decode zc_He_indexOfNumber 16 = .ok (.iload_n 1, 1) := by decide +kernel
theorem zd_He_indexOfNumber_17 : decode zc_He_indexOfNumber 17 = .ok (.if_icmp .ne 5, 3) := by decide +kernel
theorem zd_He_indexOfNumber_20 : decode zc_He_indexOfNumber 20 = .ok (.iload_n 2, 1) := by decide +kernel
theorem zd_He_indexOfNumber_21 : decode zc_He_indexOfNumber 21 = .ok (.ireturn, 1) := by decide +kernel
theorem zd_He_indexOfNumber_22 : decode zc_He_indexOfNumber 22 = .ok (.iinc 2 1, 3) := by decide +kernel
theorem zd_He_indexOfNumber_25 : decode zc_He_indexOfNumber 25 = .ok (.goto (-23), 3) := by decide +kernel
theorem zd_He_indexOfNumber_28 : decode zc_He_indexOfNumber 28 = .ok (.iconst (-1), 1) := by decide +kernel
theorem zd_He_indexOfNumber_29 : decode zc_He_indexOfNumber 29 = .ok (.ireturn, 1) := by decide +kernel
theorem zd_He_indexOfAddress_0 : decode zc_He_indexOfAddress 0 = .ok (.iconst 0, 1) := by decide +kernel
theorem zd_He_indexOfAddress_1 : decode zc_He_indexOfAddress 1 = .ok (.istore_n 2, 1) := by decide +kernel
theorem zd_He_indexOfAddress_2 : decode zc_He_indexOfAddress 2 = .ok (.iload_n 2, 1) := by decide +kernel
theorem zd_He_indexOfAddress_3 : decode zc_He_indexOfAddress 3 = .ok (.aload_n 0, 1) := by decide +kernel
theorem zd_He_indexOfAddress_4 : decode zc_He_indexOfAddress 4 = .ok (.getfield 29, 3) := by decide +kernel
theorem zd_He_indexOfAddress_7 : decode zc_He_indexOfAddress 7 = .ok (.if_icmp .ge 21, 3) := by decide +kernel
theorem zd_He_indexOfAddress_10 : decode zc_He_indexOfAddress 10 = .ok (.aload_n 0, 1) := by decide +kernel
theorem zd_He_indexOfAddress_11 : decode zc_He_indexOfAddress 11 = .ok (.getfield 17, 3) := by decide +kernel
theorem zd_He_indexOfAddress_14 : decode zc_He_indexOfAddress 14 = .ok (.iload_n 2, 1) := by decide +kernel
theorem zd_He_indexOfAddress_15 : decode zc_He_indexOfAddress 15 = .ok (.iaload, 1) := by decide +kernel
theorem zd_He_indexOfAddress_16 : decode zc_He_indexOfAddress 16 = .ok (.iload_n 1, 1) := by decide +kernel
theorem zd_He_indexOfAddress_17 : decode zc_He_indexOfAddress 17 = .ok (.if_icmp .ne 5, 3) := by decide +kernel
theorem zd_He_indexOfAddress_20 : decode zc_He_indexOfAddress 20 = .ok (.iload_n 2, 1) := by decide +kernel
theorem zd_He_indexOfAddress_21 : decode zc_He_indexOfAddress 21 = .ok (.ireturn, 1) := by decide +kernel
theorem zd_He_indexOfAddress_22 : decode zc_He_indexOfAddress 22 = .ok (.iinc 2 1, 3) := by decide +kernel
theorem zd_He_indexOfAddress_25 : decode zc_He_indexOfAddress 25 = .ok (.goto (-23), 3) := by decide +kernel
theorem zd_He_indexOfAddress_28 : decode zc_He_indexOfAddress 28 = .ok (.iconst (-1), 1) := by decide +kernel
theorem zd_He_indexOfAddress_29 : decode zc_He_indexOfAddress 29 = .ok (.ireturn, 1) := by decide +kernel
theorem zd_He_indexOfLiveAround_0 : decode zc_He_indexOfLiveAround 0 = .ok (.iconst 0, 1) := by decide +kernel
theorem zd_He_indexOfLiveAround_1 : decode zc_He_indexOfLiveAround 1 = .ok (.istore_n 2, 1) := by decide +kernel
theorem zd_He_indexOfLiveAround_2 : decode zc_He_indexOfLiveAround 2 = .ok (.iload_n 2, 1) := by decide +kernel
theorem zd_He_indexOfLiveAround_3 : decode zc_He_indexOfLiveAround 3 = .ok (.aload_n 0, 1) := by decide +kernel
theorem zd_He_indexOfLiveAround_4 : decode zc_He_indexOfLiveAround 4 = .ok (.getfield 29, 3) := by decide +kernel
theorem zd_He_indexOfLiveAround_7 : decode zc_He_indexOfLiveAround 7 = .ok (.if_icmp .ge 46, 3) := by decide +kernel
theorem zd_He_indexOfLiveAround_10 : decode zc_He_indexOfLiveAround 10 = .ok (.aload_n 0, 1) := by decide +kernel
theorem zd_He_indexOfLiveAround_11 : decode zc_He_indexOfLiveAround 11 = .ok (.iload_n 2, 1) := by decide +kernel
theorem zd_He_indexOfLiveAround_12 : decode zc_He_indexOfLiveAround 12 = .ok (.invokevirtual 68, 3) := by decide +kernel
theorem zd_He_indexOfLiveAround_15 : decode zc_He_indexOfLiveAround 15 = .ok (.ifCond .eq 32, 3) := by decide +kernel
theorem zd_He_indexOfLiveAround_18 : decode zc_He_indexOfLiveAround 18 = .ok (.iload_n 1, 1) := by decide +kernel
theorem zd_He_indexOfLiveAround_19 : decode zc_He_indexOfLiveAround 19 = .ok (.aload_n 0, 1) := by decide +kernel
theorem zd_He_indexOfLiveAround_20 : decode zc_He_indexOfLiveAround 20 = .ok (.getfield 17, 3) := by decide +kernel
theorem zd_He_indexOfLiveAround_23 : decode zc_He_indexOfLiveAround 23 = .ok (.iload_n 2, 1) := by decide +kernel
theorem zd_He_indexOfLiveAround_24 : decode zc_He_indexOfLiveAround 24 = .ok (.iaload, 1) := by decide +kernel
theorem zd_He_indexOfLiveAround_25 : decode zc_He_indexOfLiveAround 25 = .ok (.if_icmp .lt 22, 3) := by decide +kernel
theorem zd_He_indexOfLiveAround_28 : decode zc_He_indexOfLiveAround 28 = .ok (.iload_n 1, 1) := by decide +kernel
theorem zd_He_indexOfLiveAround_29 : decode zc_He_indexOfLiveAround 29 = .ok (.aload_n 0, 1) := by decide +kernel
theorem zd_He_indexOfLiveAround_30 : decode zc_He_indexOfLiveAround 30 = .ok (.getfield 17, 3) := by decide +kernel
theorem zd_He_indexOfLiveAround_33 : decode zc_He_indexOfLiveAround 33 = .ok (.iload_n 2, 1) := by decide +kernel
theorem zd_He_indexOfLiveAround_34 : decode zc_He_indexOfLiveAround 34 = .ok (.iaload, 1) := by decide +kernel
theorem zd_He_indexOfLiveAround_35 : decode zc_He_indexOfLiveAround 35 = .ok (.aload_n 0, 1) := by decide +kernel
theorem zd_He_indexOfLiveAround_36 : decode zc_He_indexOfLiveAround 36 = .ok (.getfield 20, 3) := by decide +kernel
theorem zd_He_indexOfLiveAround_39 : decode zc_He_indexOfLiveAround 39 = .ok (.iload_n 2, 1) := by decide +kernel
theorem zd_He_indexOfLiveAround_40 : decode zc_He_indexOfLiveAround 40 = .ok (.iaload, 1) := by decide +kernel
theorem zd_He_indexOfLiveAround_41 : decode zc_He_indexOfLiveAround 41 = .ok (.iadd, 1) := by decide +kernel
theorem zd_He_indexOfLiveAround_42 : decode zc_He_indexOfLiveAround 42 = .ok (.if_icmp .ge 5, 3) := by decide +kernel
theorem zd_He_indexOfLiveAround_45 : decode zc_He_indexOfLiveAround 45 = .ok (.iload_n 2, 1) := by decide +kernel
theorem zd_He_indexOfLiveAround_46 : decode zc_He_indexOfLiveAround 46 = .ok (.ireturn, 1) := by decide +kernel
theorem zd_He_indexOfLiveAround_47 : decode zc_He_indexOfLiveAround 47 = .ok (.iinc 2 1, 3) := by decide +kernel
theorem zd_He_indexOfLiveAround_50 : decode zc_He_indexOfLiveAround 50 = .ok (.goto (-48), 3) := by decide +kernel
theorem zd_He_indexOfLiveAround_53 : decode zc_He_indexOfLiveAround 53 = .ok (.iconst (-1), 1) := by decide +kernel
theorem zd_He_indexOfLiveAround_54 : decode zc_He_indexOfLiveAround 54 = .ok (.ireturn, 1) := by decide +kernel
theorem zd_He_address_0 : decode zc_He_address 0 = .ok (.aload_n 0, 1) := by decide +kernel
theorem zd_He_address_1 : decode zc_He_address 1 = .ok (.getfield 17, 3) := by decide +kernel
theorem zd_He_address_4 : decode zc_He_address 4 = .ok (.iload_n 1, 1) := by decide +kernel
theorem zd_He_address_5 : decode zc_He_address 5 = .ok (.iaload, 1) := by decide +kernel
theorem zd_He_address_6 : decode zc_He_address 6 = .ok (.ireturn, 1) := by decide +kernel
theorem zd_He_size_0 : decode zc_He_size 0 = .ok (.aload_n 0, 1) := by decide +kernel
theorem zd_He_size_1 : decode zc_He_size 1 = .ok (.getfield 20, 3) := by decide +kernel
theorem zd_He_size_4 : decode zc_He_size 4 = .ok (.iload_n 1, 1) := by decide +kernel
theorem zd_He_size_5 : decode zc_He_size 5 = .ok (.iaload, 1) := by decide +kernel
theorem zd_He_size_6 : decode zc_He_size 6 = .ok (.ireturn, 1) := by decide +kernel
theorem zd_He_end_0 : decode zc_He_end 0 = .ok (.aload_n 0, 1) := by decide +kernel
theorem zd_He_end_1 : decode zc_He_end 1 = .ok (.getfield 17, 3) := by decide +kernel
theorem zd_He_end_4 : decode zc_He_end 4 = .ok (.iload_n 1, 1) := by decide +kernel
theorem zd_He_end_5 : decode zc_He_end 5 = .ok (.iaload, 1) := by decide +kernel
theorem zd_He_end_6 : decode zc_He_end 6 = .ok (.aload_n 0, 1) := by decide +kernel
theorem zd_He_end_7 : decode zc_He_end 7 = .ok (.getfield 20, 3) := by decide +kernel
theorem zd_He_end_10 : decode zc_He_end 10 = .ok (.iload_n 1, 1) := by decide +kernel
theorem zd_He_end_11 : decode zc_He_end 11 = .ok (.iaload, 1) := by decide +kernel
theorem zd_He_end_12 : decode zc_He_end 12 = .ok (.iadd, 1) := by decide +kernel
theorem zd_He_end_13 : decode zc_He_end 13 = .ok (.ireturn, 1) := by decide +kernel
theorem zd_LS_takes_0 : decode zc_LS_takes 0 = .ok (.iload_n 3, 1) := by decide +kernel
theorem zd_LS_takes_1 : decode zc_LS_takes 1 = .ok (.lookupswitch 69 #[(1, 27), (2, 54)], 27) := by decide +kernel
theorem zd_LS_takes_28 : decode zc_LS_takes 28 = .ok (.aload_n 0, 1) := by decide +kernel
theorem zd_LS_takes_29 : decode zc_LS_takes 29 = .ok (.getfield 23, 3) := by decide +kernel
theorem zd_LS_takes_32 : decode zc_LS_takes 32 = .ok (.iload_n 1, 1) := by decide +kernel
theorem zd_LS_takes_33 : decode zc_LS_takes 33 = .ok (.iaload, 1) := by decide +kernel
theorem zd_LS_takes_34 : decode zc_LS_takes 34 = .ok (.ifCond .ne 19, 3) := by decide +kernel
theorem zd_LS_takes_37 : decode zc_LS_takes 37 = .ok (.iload_n 2, 1) := by decide +kernel
theorem zd_LS_takes_38 : decode zc_LS_takes 38 = .ok (.aload_n 0, 1) := by decide +kernel
theorem zd_LS_takes_39 : decode zc_LS_takes 39 = .ok (.getfield 17, 3) := by decide +kernel
theorem zd_LS_takes_42 : decode zc_LS_takes 42 = .ok (.iload_n 1, 1) := by decide +kernel
theorem zd_LS_takes_43 : decode zc_LS_takes 43 = .ok (.invokevirtual 68, 3) := by decide +kernel
theorem zd_LS_takes_46 : decode zc_LS_takes 46 = .ok (.if_icmp .ne 7, 3) := by decide +kernel
theorem zd_LS_takes_49 : decode zc_LS_takes 49 = .ok (.iconst 1, 1) := by decide +kernel
theorem zd_LS_takes_50 : decode zc_LS_takes 50 = .ok (.goto 4, 3) := by decide +kernel
theorem zd_LS_takes_53 : decode zc_LS_takes 53 = .ok (.iconst 0, 1) := by decide +kernel
theorem zd_LS_takes_54 : decode zc_LS_takes 54 = .ok (.ireturn, 1) := by decide +kernel
theorem zd_LS_takes_55 : decode zc_LS_takes 55 = .ok (.aload_n 0, 1) := by decide +kernel
theorem zd_LS_takes_56 : decode zc_LS_takes 56 = .ok (.getfield 23, 3) := by decide +kernel
theorem zd_LS_takes_59 : decode zc_LS_takes 59 = .ok (.iload_n 1, 1) := by decide +kernel
theorem zd_LS_takes_60 : decode zc_LS_takes 60 = .ok (.iaload, 1) := by decide +kernel
theorem zd_LS_takes_61 : decode zc_LS_takes 61 = .ok (.ifCond .ne 7, 3) := by decide +kernel
theorem zd_LS_takes_64 : decode zc_LS_takes 64 = .ok (.iconst 1, 1) := by decide +kernel
theorem zd_LS_takes_65 : decode zc_LS_takes 65 = .ok (.goto 4, 3) := by decide +kernel
theorem zd_LS_takes_68 : decode zc_LS_takes 68 = .ok (.iconst 0, 1) := by decide +kernel
theorem zd_LS_takes_69 : decode zc_LS_takes 69 = .ok (.ireturn, 1) := by decide +kernel
theorem zd_LS_takes_70 : decode zc_LS_takes 70 = .ok (.iload_n 1, 1) := by decide +kernel
theorem zd_LS_takes_71 : decode zc_LS_takes 71 = .ok (.aload_n 0, 1) := by decide +kernel
theorem zd_LS_takes_72 : decode zc_LS_takes 72 = .ok (.getfield 27, 3) := by decide +kernel
theorem zd_LS_takes_75 : decode zc_LS_takes 75 = .ok (.iconst 0, 1) := by decide +kernel
theorem zd_LS_takes_76 : decode zc_LS_takes 76 = .ok (.iaload, 1) := by decide +kernel
theorem zd_LS_takes_77 : decode zc_LS_takes 77 = .ok (.if_icmp .eq 26, 3) := by decide +kernel
theorem zd_LS_takes_80 : decode zc_LS_takes 80 = .ok (.aload_n 0, 1) := by decide +kernel
theorem zd_LS_takes_81 : decode zc_LS_takes 81 = .ok (.getfield 23, 3) := by decide +kernel
theorem zd_LS_takes_84 : decode zc_LS_takes 84 = .ok (.iload_n 1, 1) := by decide +kernel
theorem zd_LS_takes_85 : decode zc_LS_takes 85 = .ok (.iaload, 1) := by decide +kernel
theorem zd_LS_takes_86 : decode zc_LS_takes 86 = .ok (.ifCond .eq 13, 3) := by decide +kernel
theorem zd_LS_takes_89 : decode zc_LS_takes 89 = .ok (.aload_n 0, 1) := by decide +kernel
theorem zd_LS_takes_90 : decode zc_LS_takes 90 = .ok (.getfield 23, 3) := by decide +kernel
theorem zd_LS_takes_93 : decode zc_LS_takes 93 = .ok (.iload_n 1, 1) := by decide +kernel
theorem zd_LS_takes_94 : decode zc_LS_takes 94 = .ok (.iaload, 1) := by decide +kernel
theorem zd_LS_takes_95 : decode zc_LS_takes 95 = .ok (.iconst 3, 1) := by decide +kernel
theorem zd_LS_takes_96 : decode zc_LS_takes 96 = .ok (.if_icmp .ne 7, 3) := by decide +kernel
theorem zd_LS_takes_99 : decode zc_LS_takes 99 = .ok (.iconst 1, 1) := by decide +kernel
theorem zd_LS_takes_100 : decode zc_LS_takes 100 = .ok (.goto 4, 3) := by decide +kernel
theorem zd_LS_takes_103 : decode zc_LS_takes 103 = .ok (.iconst 0, 1) := by decide +kernel
theorem zd_LS_takes_104 : decode zc_LS_takes 104 = .ok (.ireturn, 1) := by decide +kernel
theorem zd_LS_follow_0 : decode zc_LS_follow 0 = .ok (.aload_n 0, 1) := by decide +kernel
theorem zd_LS_follow_1 : decode zc_LS_follow 1 = .ok (.getfield 17, 3) := by decide +kernel
theorem zd_LS_follow_4 : decode zc_LS_follow 4 = .ok (.iload_n 1, 1) := by decide +kernel
theorem zd_LS_follow_5 : decode zc_LS_follow 5 = .ok (.invokevirtual 80, 3) := by decide +kernel
theorem zd_LS_follow_8 : decode zc_LS_follow 8 = .ok (.istore_n 3, 1) := by decide +kernel
theorem zd_LS_follow_9 : decode zc_LS_follow 9 = .ok (.iload_n 3, 1) := by decide +kernel
theorem zd_LS_follow_10 : decode zc_LS_follow 10 = .ok (.iconst (-1), 1) := by decide +kernel
theorem zd_LS_follow_11 : decode zc_LS_follow 11 = .ok (.if_icmp .eq 49, 3) := by decide +kernel
theorem zd_LS_follow_14 : decode zc_LS_follow 14 = .ok (.aload_n 0, 1) := by decide +kernel
theorem zd_LS_follow_15 : decode zc_LS_follow 15 = .ok (.iload_n 3, 1) := by decide +kernel
theorem zd_LS_follow_16 : decode zc_LS_follow 16 = .ok (.iload_n 1, 1) := by decide +kernel
theorem zd_LS_follow_17 : decode zc_LS_follow 17 = .ok (.iload_n 2, 1) := by decide +kernel
theorem zd_LS_follow_18 : decode zc_LS_follow 18 = .ok (.invokevirtual 83, 3) := by decide +kernel
theorem zd_LS_follow_21 : decode zc_LS_follow 21 = .ok (.ifCond .eq 39, 3) := by decide +kernel
theorem zd_LS_follow_24 : decode zc_LS_follow 24 = .ok (.aload_n 0, 1) := by decide +kernel
theorem zd_LS_follow_25 : decode zc_LS_follow 25 = .ok (.getfield 34, 3) := by decide +kernel
theorem zd_LS_follow_28 : decode zc_LS_follow 28 = .ok (.bipush 10, 2) := by decide +kernel
theorem zd_LS_follow_30 : decode zc_LS_follow 30 = .ok (.if_icmp .ge 30, 3) := by decide +kernel
theorem zd_LS_follow_33 : decode zc_LS_follow 33 = .ok (.aload_n 0, 1) := by decide +kernel
theorem zd_LS_follow_34 : decode zc_LS_follow 34 = .ok (.getfield 23, 3) := by decide +kernel
theorem zd_LS_follow_37 : decode zc_LS_follow 37 = .ok (.iload_n 3, 1) := by decide +kernel
theorem zd_LS_follow_38 : decode zc_LS_follow 38 = .ok (.iload_n 2, 1) := by decide +kernel
theorem zd_LS_follow_39 : decode zc_LS_follow 39 = .ok (.iastore, 1) := by decide +kernel
theorem zd_LS_follow_40 : decode zc_LS_follow 40 = .ok (.aload_n 0, 1) := by decide +kernel
theorem zd_LS_follow_41 : decode zc_LS_follow 41 = .ok (.getfield 27, 3) := by decide +kernel
theorem zd_LS_follow_44 : decode zc_LS_follow 44 = .ok (.aload_n 0, 1) := by decide +kernel
theorem zd_LS_follow_45 : decode zc_LS_follow 45 = .ok (.getfield 34, 3) := by decide +kernel
theorem zd_LS_follow_48 : decode zc_LS_follow 48 = .ok (.iload_n 3, 1) := by decide +kernel
theorem zd_LS_follow_49 : decode zc_LS_follow 49 = .ok (.iastore, 1) := by decide +kernel
theorem zd_LS_follow_50 : decode zc_LS_follow 50 = .ok (.aload_n 0, 1) := by decide +kernel
theorem zd_LS_follow_51 : decode zc_LS_follow 51 = .ok (.dup, 1) := by decide +kernel
theorem zd_LS_follow_52 : decode zc_LS_follow 52 = .ok (.getfield 34, 3) := by decide +kernel
theorem zd_LS_follow_55 : decode zc_LS_follow 55 = .ok (.iconst 1, 1) := by decide +kernel
theorem zd_LS_follow_56 : decode zc_LS_follow 56 = .ok (.iadd, 1) := by decide +kernel
theorem zd_LS_follow_57 : decode zc_LS_follow 57 = .ok (.putfield 34, 3) := by decide +kernel
theorem zd_LS_follow_60 : decode zc_LS_follow 60 = .ok (.return_, 1) := by decide +kernel
theorem zd_LS_followWords_0 : decode zc_LS_followWords 0 = .ok (.iload_n 1, 1) := by decide +kernel
theorem zd_LS_followWords_1 : decode zc_LS_followWords 1 = .ok (.istore 4, 2) := by decide +kernel
theorem zd_LS_followWords_3 : decode zc_LS_followWords 3 = .ok (.iload 4, 2) := by decide +kernel
theorem zd_LS_followWords_5 : decode zc_LS_followWords 5 = .ok (.iconst 4, 1) := by decide +kernel
theorem zd_LS_followWords_6 : decode zc_LS_followWords 6 = .ok (.iadd, 1) := by decide +kernel
theorem zd_LS_followWords_7 : decode zc_LS_followWords 7 = .ok (.iload_n 2, 1) := by decide +kernel
theorem zd_LS_followWords_8 : decode zc_LS_followWords 8 = .ok (.if_icmp .gt 36, 3) := by decide +kernel
theorem zd_LS_followWords_11 : decode zc_LS_followWords 11 = .ok (.aload_n 0, 1) := by decide +kernel
theorem zd_LS_followWords_12 : decode zc_LS_followWords 12 = .ok (.getfield 7, 3) := by decide +kernel
theorem zd_LS_followWords_15 : decode zc_LS_followWords 15 = .ok (.iload 4, 2) := by decide +kernel
theorem zd_LS_followWords_17 : decode zc_LS_followWords 17 = .ok (.invokevirtual 74, 3) := by decide +kernel
theorem zd_LS_followWords_20 : decode zc_LS_followWords 20 = .ok (.ifCond .eq 18, 3) := by decide +kernel
theorem zd_LS_followWords_23 : decode zc_LS_followWords 23 = .ok (.aload_n 0, 1) := by decide +kernel
theorem zd_LS_followWords_24 : decode zc_LS_followWords 24 = .ok (.aload_n 0, 1) := by decide +kernel
theorem zd_LS_followWords_25 : decode zc_LS_followWords 25 = .ok (.getfield 7, 3) := by decide +kernel
theorem zd_LS_followWords_28 : decode zc_LS_followWords 28 = .ok (.iload 4, 2) := by decide +kernel
theorem zd_LS_followWords_30 : decode zc_LS_followWords 30 = .ok (.iconst 4, 1) := by decide +kernel
theorem zd_LS_followWords_31 : decode zc_LS_followWords 31 = .ok (.invokevirtual 77, 3) := by decide +kernel
theorem zd_LS_followWords_34 : decode zc_LS_followWords 34 = .ok (.iload_n 3, 1) := by decide +kernel
theorem zd_LS_followWords_35 : decode zc_LS_followWords 35 = .ok (.invokevirtual 64, 3) := by decide +kernel
theorem zd_LS_followWords_38 : decode zc_LS_followWords 38 = .ok (.iinc 4 4, 3) := by decide +kernel
theorem zd_LS_followWords_41 : decode zc_LS_followWords 41 = .ok (.goto (-38), 3) := by decide +kernel
theorem zd_LS_followWords_44 : decode zc_LS_followWords 44 = .ok (.return_, 1) := by decide +kernel
theorem zd_LS_followAll_0 : decode zc_LS_followAll 0 = .ok (.aload_n 0, 1) := by decide +kernel
theorem zd_LS_followAll_1 : decode zc_LS_followAll 1 = .ok (.iconst 0, 1) := by decide +kernel
theorem zd_LS_followAll_2 : decode zc_LS_followAll 2 = .ok (.bipush 64, 2) := by decide +kernel
theorem zd_LS_followAll_4 : decode zc_LS_followAll 4 = .ok (.iload_n 1, 1) := by decide +kernel
theorem zd_LS_followAll_5 : decode zc_LS_followAll 5 = .ok (.invokevirtual 51, 3) := by decide +kernel
theorem zd_LS_followAll_8 : decode zc_LS_followAll 8 = .ok (.iconst 0, 1) := by decide +kernel
theorem zd_LS_followAll_9 : decode zc_LS_followAll 9 = .ok (.istore_n 2, 1) := by decide +kernel
theorem zd_LS_followAll_10 : decode zc_LS_followAll 10 = .ok (.iload_n 2, 1) := by decide +kernel
theorem zd_LS_followAll_11 : decode zc_LS_followAll 11 = .ok (.bipush 8, 2) := by decide +kernel
theorem zd_LS_followAll_13 : decode zc_LS_followAll 13 = .ok (.if_icmp .ge 33, 3) := by decide +kernel
theorem zd_LS_followAll_16 : decode zc_LS_followAll 16 = .ok (.aload_n 0, 1) := by decide +kernel
theorem zd_LS_followAll_17 : decode zc_LS_followAll 17 = .ok (.getfield 13, 3) := by decide +kernel
theorem zd_LS_followAll_20 : decode zc_LS_followAll 20 = .ok (.iload_n 2, 1) := by decide +kernel
theorem zd_LS_followAll_21 : decode zc_LS_followAll 21 = .ok (.invokevirtual 57, 3) := by decide +kernel
theorem zd_LS_followAll_24 : decode zc_LS_followAll 24 = .ok (.ifCond .eq 16, 3) := by decide +kernel
theorem zd_LS_followAll_27 : decode zc_LS_followAll 27 = .ok (.aload_n 0, 1) := by decide +kernel
theorem zd_LS_followAll_28 : decode zc_LS_followAll 28 = .ok (.aload_n 0, 1) := by decide +kernel
theorem zd_LS_followAll_29 : decode zc_LS_followAll 29 = .ok (.getfield 13, 3) := by decide +kernel
theorem zd_LS_followAll_32 : decode zc_LS_followAll 32 = .ok (.iload_n 2, 1) := by decide +kernel
theorem zd_LS_followAll_33 : decode zc_LS_followAll 33 = .ok (.invokevirtual 60, 3) := by decide +kernel
theorem zd_LS_followAll_36 : decode zc_LS_followAll 36 = .ok (.iload_n 1, 1) := by decide +kernel
theorem zd_LS_followAll_37 : decode zc_LS_followAll 37 = .ok (.invokevirtual 64, 3) := by decide +kernel
theorem zd_LS_followAll_40 : decode zc_LS_followAll 40 = .ok (.iinc 2 1, 3) := by decide +kernel
theorem zd_LS_followAll_43 : decode zc_LS_followAll 43 = .ok (.goto (-33), 3) := by decide +kernel
theorem zd_LS_followAll_46 : decode zc_LS_followAll 46 = .ok (.iconst 0, 1) := by decide +kernel
theorem zd_LS_followAll_47 : decode zc_LS_followAll 47 = .ok (.istore_n 2, 1) := by decide +kernel
theorem zd_LS_followAll_48 : decode zc_LS_followAll 48 = .ok (.iload_n 2, 1) := by decide +kernel
theorem zd_LS_followAll_49 : decode zc_LS_followAll 49 = .ok (.aload_n 0, 1) := by decide +kernel
theorem zd_LS_followAll_50 : decode zc_LS_followAll 50 = .ok (.getfield 34, 3) := by decide +kernel
theorem zd_LS_followAll_53 : decode zc_LS_followAll 53 = .ok (.if_icmp .ge 46, 3) := by decide +kernel
theorem zd_LS_followAll_56 : decode zc_LS_followAll 56 = .ok (.iload_n 2, 1) := by decide +kernel
theorem zd_LS_followAll_57 : decode zc_LS_followAll 57 = .ok (.bipush 10, 2) := by decide +kernel
theorem zd_LS_followAll_59 : decode zc_LS_followAll 59 = .ok (.if_icmp .ge 40, 3) := by decide +kernel
theorem zd_LS_followAll_62 : decode zc_LS_followAll 62 = .ok (.aload_n 0, 1) := by decide +kernel
theorem zd_LS_followAll_63 : decode zc_LS_followAll 63 = .ok (.aload_n 0, 1) := by decide +kernel
theorem zd_LS_followAll_64 : decode zc_LS_followAll 64 = .ok (.getfield 17, 3) := by decide +kernel
theorem zd_LS_followAll_67 : decode zc_LS_followAll 67 = .ok (.aload_n 0, 1) := by decide +kernel
theorem zd_LS_followAll_68 : decode zc_LS_followAll 68 = .ok (.getfield 27, 3) := by decide +kernel
theorem zd_LS_followAll_71 : decode zc_LS_followAll 71 = .ok (.iload_n 2, 1) := by decide +kernel
theorem zd_LS_followAll_72 : decode zc_LS_followAll 72 = .ok (.iaload, 1) := by decide +kernel
theorem zd_LS_followAll_73 : decode zc_LS_followAll 73 = .ok (.invokevirtual 68, 3) := by decide +kernel
theorem zd_LS_followAll_76 : decode zc_LS_followAll 76 = .ok (.aload_n 0, 1) := by decide +kernel
theorem zd_LS_followAll_77 : decode zc_LS_followAll 77 = .ok (.getfield 17, 3) := by decide +kernel
theorem zd_LS_followAll_80 : decode zc_LS_followAll 80 = .ok (.aload_n 0, 1) := by decide +kernel
theorem zd_LS_followAll_81 : decode zc_LS_followAll 81 = .ok (.getfield 27, 3) := by decide +kernel
theorem zd_LS_followAll_84 : decode zc_LS_followAll 84 = .ok (.iload_n 2, 1) := by decide +kernel
theorem zd_LS_followAll_85 : decode zc_LS_followAll 85 = .ok (.iaload, 1) := by decide +kernel
theorem zd_LS_followAll_86 : decode zc_LS_followAll 86 = .ok (.invokevirtual 71, 3) := by decide +kernel
theorem zd_LS_followAll_89 : decode zc_LS_followAll 89 = .ok (.iload_n 1, 1) := by decide +kernel
theorem zd_LS_followAll_90 : decode zc_LS_followAll 90 = .ok (.invokevirtual 51, 3) := by decide +kernel
theorem zd_LS_followAll_93 : decode zc_LS_followAll 93 = .ok (.iinc 2 1, 3) := by decide +kernel
theorem zd_LS_followAll_96 : decode zc_LS_followAll 96 = .ok (.goto (-48), 3) := by decide +kernel
theorem zd_LS_followAll_99 : decode zc_LS_followAll 99 = .ok (.return_, 1) := by decide +kernel
theorem zd_LS_loseWithAllBehind_0 : decode zc_LS_loseWithAllBehind 0 = .ok (.aload_n 0, 1) := by decide +kernel
theorem zd_LS_loseWithAllBehind_1 : decode zc_LS_loseWithAllBehind 1 = .ok (.getfield 23, 3) := by decide +kernel
theorem zd_LS_loseWithAllBehind_4 : decode zc_LS_loseWithAllBehind 4 = .ok (.iload_n 1, 1) := by decide +kernel
theorem zd_LS_loseWithAllBehind_5 : decode zc_LS_loseWithAllBehind 5 = .ok (.iconst 3, 1) := by decide +kernel
theorem zd_LS_loseWithAllBehind_6 : decode zc_LS_loseWithAllBehind 6 = .ok (.iastore, 1) := by decide +kernel
theorem zd_LS_loseWithAllBehind_7 : decode zc_LS_loseWithAllBehind 7 = .ok (.aload_n 0, 1) := by decide +kernel
theorem zd_LS_loseWithAllBehind_8 : decode zc_LS_loseWithAllBehind 8 = .ok (.getfield 27, 3) := by decide +kernel
theorem zd_LS_loseWithAllBehind_11 : decode zc_LS_loseWithAllBehind 11 = .ok (.iconst 0, 1) := by decide +kernel
theorem zd_LS_loseWithAllBehind_12 : decode zc_LS_loseWithAllBehind 12 = .ok (.iload_n 1, 1) := by decide +kernel
theorem zd_LS_loseWithAllBehind_13 : decode zc_LS_loseWithAllBehind 13 = .ok (.iastore, 1) := by decide +kernel
theorem zd_LS_loseWithAllBehind_14 : decode zc_LS_loseWithAllBehind 14 = .ok (.aload_n 0, 1) := by decide +kernel
theorem zd_LS_loseWithAllBehind_15 : decode zc_LS_loseWithAllBehind 15 = .ok (.iconst 1, 1) := by decide +kernel
theorem zd_LS_loseWithAllBehind_16 : decode zc_LS_loseWithAllBehind 16 = .ok (.putfield 34, 3) := by decide +kernel
theorem zd_LS_loseWithAllBehind_19 : decode zc_LS_loseWithAllBehind 19 = .ok (.iconst 0, 1) := by decide +kernel
theorem zd_LS_loseWithAllBehind_20 : decode zc_LS_loseWithAllBehind 20 = .ok (.istore_n 2, 1) := by decide +kernel
theorem zd_LS_loseWithAllBehind_21 : decode zc_LS_loseWithAllBehind 21 = .ok (.iload_n 2, 1) := by decide +kernel
theorem zd_LS_loseWithAllBehind_22 : decode zc_LS_loseWithAllBehind 22 = .ok (.aload_n 0, 1) := by decide +kernel
theorem zd_LS_loseWithAllBehind_23 : decode zc_LS_loseWithAllBehind 23 = .ok (.getfield 34, 3) := by decide +kernel
theorem zd_LS_loseWithAllBehind_26 : decode zc_LS_loseWithAllBehind 26 = .ok (.if_icmp .ge 46, 3) := by decide +kernel
theorem zd_LS_loseWithAllBehind_29 : decode zc_LS_loseWithAllBehind 29 = .ok (.iload_n 2, 1) := by decide +kernel
theorem zd_LS_loseWithAllBehind_30 : decode zc_LS_loseWithAllBehind 30 = .ok (.bipush 10, 2) := by decide +kernel
theorem zd_LS_loseWithAllBehind_32 : decode zc_LS_loseWithAllBehind 32 = .ok (.if_icmp .ge 40, 3) := by decide +kernel
theorem zd_LS_loseWithAllBehind_35 : decode zc_LS_loseWithAllBehind 35 = .ok (.aload_n 0, 1) := by decide +kernel
theorem zd_LS_loseWithAllBehind_36 : decode zc_LS_loseWithAllBehind 36 = .ok (.aload_n 0, 1) := by decide +kernel
theorem zd_LS_loseWithAllBehind_37 : decode zc_LS_loseWithAllBehind 37 = .ok (.getfield 17, 3) := by decide +kernel
theorem zd_LS_loseWithAllBehind_40 : decode zc_LS_loseWithAllBehind 40 = .ok (.aload_n 0, 1) := by decide +kernel
theorem zd_LS_loseWithAllBehind_41 : decode zc_LS_loseWithAllBehind 41 = .ok (.getfield 27, 3) := by decide +kernel
theorem zd_LS_loseWithAllBehind_44 : decode zc_LS_loseWithAllBehind 44 = .ok (.iload_n 2, 1) := by decide +kernel
theorem zd_LS_loseWithAllBehind_45 : decode zc_LS_loseWithAllBehind 45 = .ok (.iaload, 1) := by decide +kernel
theorem zd_LS_loseWithAllBehind_46 : decode zc_LS_loseWithAllBehind 46 = .ok (.invokevirtual 68, 3) := by decide +kernel
theorem zd_LS_loseWithAllBehind_49 : decode zc_LS_loseWithAllBehind 49 = .ok (.aload_n 0, 1) := by decide +kernel
theorem zd_LS_loseWithAllBehind_50 : decode zc_LS_loseWithAllBehind 50 = .ok (.getfield 17, 3) := by decide +kernel
theorem zd_LS_loseWithAllBehind_53 : decode zc_LS_loseWithAllBehind 53 = .ok (.aload_n 0, 1) := by decide +kernel
theorem zd_LS_loseWithAllBehind_54 : decode zc_LS_loseWithAllBehind 54 = .ok (.getfield 27, 3) := by decide +kernel
theorem zd_LS_loseWithAllBehind_57 : decode zc_LS_loseWithAllBehind 57 = .ok (.iload_n 2, 1) := by decide +kernel
theorem zd_LS_loseWithAllBehind_58 : decode zc_LS_loseWithAllBehind 58 = .ok (.iaload, 1) := by decide +kernel
theorem zd_LS_loseWithAllBehind_59 : decode zc_LS_loseWithAllBehind 59 = .ok (.invokevirtual 71, 3) := by decide +kernel
theorem zd_LS_loseWithAllBehind_62 : decode zc_LS_loseWithAllBehind 62 = .ok (.iconst 4, 1) := by decide +kernel
theorem zd_LS_loseWithAllBehind_63 : decode zc_LS_loseWithAllBehind 63 = .ok (.invokevirtual 51, 3) := by decide +kernel
theorem zd_LS_loseWithAllBehind_66 : decode zc_LS_loseWithAllBehind 66 = .ok (.iinc 2 1, 3) := by decide +kernel
theorem zd_LS_loseWithAllBehind_69 : decode zc_LS_loseWithAllBehind 69 = .ok (.goto (-48), 3) := by decide +kernel
theorem zd_LS_loseWithAllBehind_72 : decode zc_LS_loseWithAllBehind 72 = .ok (.return_, 1) := by decide +kernel
theorem zd_LS_make_0 : decode zc_LS_make 0 = .ok (.iconst 0, 1) := by decide +kernel
theorem zd_LS_make_1 : decode zc_LS_make 1 = .ok (.istore_n 1, 1) := by decide +kernel
theorem zd_LS_make_2 : decode zc_LS_make 2 = .ok (.iload_n 1, 1) := by decide +kernel
theorem zd_LS_make_3 : decode zc_LS_make 3 = .ok (.aload_n 0, 1) := by decide +kernel
theorem zd_LS_make_4 : decode zc_LS_make 4 = .ok (.getfield 17, 3) := by decide +kernel
theorem zd_LS_make_7 : decode zc_LS_make 7 = .ok (.invokevirtual 30, 3) := by decide +kernel
theorem zd_LS_make_10 : decode zc_LS_make 10 = .ok (.if_icmp .ge 16, 3) := by decide +kernel
theorem zd_LS_make_13 : decode zc_LS_make 13 = .ok (.aload_n 0, 1) := by decide +kernel
theorem zd_LS_make_14 : decode zc_LS_make 14 = .ok (.getfield 23, 3) := by decide +kernel
theorem zd_LS_make_17 : decode zc_LS_make 17 = .ok (.iload_n 1, 1) := by decide +kernel
theorem zd_LS_make_18 : decode zc_LS_make 18 = .ok (.iconst 0, 1) := by decide +kernel
theorem zd_LS_make_19 : decode zc_LS_make 19 = .ok (.iastore, 1) := by decide +kernel
theorem zd_LS_make_20 : decode zc_LS_make 20 = .ok (.iinc 1 1, 3) := by decide +kernel
theorem zd_LS_make_23 : decode zc_LS_make 23 = .ok (.goto (-21), 3) := by decide +kernel
theorem zd_LS_make_26 : decode zc_LS_make 26 = .ok (.aload_n 0, 1) := by decide +kernel
theorem zd_LS_make_27 : decode zc_LS_make 27 = .ok (.iconst 0, 1) := by decide +kernel
theorem zd_LS_make_28 : decode zc_LS_make 28 = .ok (.putfield 34, 3) := by decide +kernel
theorem zd_LS_make_31 : decode zc_LS_make 31 = .ok (.aload_n 0, 1) := by decide +kernel
theorem zd_LS_make_32 : decode zc_LS_make 32 = .ok (.iconst 1, 1) := by decide +kernel
theorem zd_LS_make_33 : decode zc_LS_make 33 = .ok (.invokevirtual 38, 3) := by decide +kernel
theorem zd_LS_make_36 : decode zc_LS_make 36 = .ok (.aload_n 0, 1) := by decide +kernel
theorem zd_LS_make_37 : decode zc_LS_make 37 = .ok (.iconst 2, 1) := by decide +kernel
theorem zd_LS_make_38 : decode zc_LS_make 38 = .ok (.invokevirtual 38, 3) := by decide +kernel
theorem zd_LS_make_41 : decode zc_LS_make 41 = .ok (.iconst 0, 1) := by decide +kernel
theorem zd_LS_make_42 : decode zc_LS_make 42 = .ok (.istore_n 1, 1) := by decide +kernel
theorem zd_LS_make_43 : decode zc_LS_make 43 = .ok (.iload_n 1, 1) := by decide +kernel
theorem zd_LS_make_44 : decode zc_LS_make 44 = .ok (.aload_n 0, 1) := by decide +kernel
theorem zd_LS_make_45 : decode zc_LS_make 45 = .ok (.getfield 17, 3) := by decide +kernel
theorem zd_LS_make_48 : decode zc_LS_make 48 = .ok (.invokevirtual 30, 3) := by decide +kernel
theorem zd_LS_make_51 : decode zc_LS_make 51 = .ok (.if_icmp .ge 34, 3) := by decide +kernel
theorem zd_LS_make_54 : decode zc_LS_make 54 = .ok (.aload_n 0, 1) := by decide +kernel
theorem zd_LS_make_55 : decode zc_LS_make 55 = .ok (.getfield 17, 3) := by decide +kernel
theorem zd_LS_make_58 : decode zc_LS_make 58 = .ok (.iload_n 1, 1) := by decide +kernel
theorem zd_LS_make_59 : decode zc_LS_make 59 = .ok (.invokevirtual 42, 3) := by decide +kernel
theorem zd_LS_make_62 : decode zc_LS_make 62 = .ok (.ifCond .eq 17, 3) := by decide +kernel
theorem zd_LS_make_65 : decode zc_LS_make 65 = .ok (.aload_n 0, 1) := by decide +kernel
theorem zd_LS_make_66 : decode zc_LS_make 66 = .ok (.getfield 23, 3) := by decide +kernel
theorem zd_LS_make_69 : decode zc_LS_make 69 = .ok (.iload_n 1, 1) := by decide +kernel
theorem zd_LS_make_70 : decode zc_LS_make 70 = .ok (.iaload, 1) := by decide +kernel
theorem zd_LS_make_71 : decode zc_LS_make 71 = .ok (.ifCond .ne 8, 3) := by decide +kernel
theorem zd_LS_make_74 : decode zc_LS_make 74 = .ok (.aload_n 0, 1) := by decide +kernel
theorem zd_LS_make_75 : decode zc_LS_make 75 = .ok (.iload_n 1, 1) := by decide +kernel
theorem zd_LS_make_76 : decode zc_LS_make 76 = .ok (.invokevirtual 46, 3) := by decide +kernel
theorem zd_LS_make_79 : decode zc_LS_make 79 = .ok (.iinc 1 1, 3) := by decide +kernel
theorem zd_LS_make_82 : decode zc_LS_make 82 = .ok (.goto (-39), 3) := by decide +kernel
theorem zd_LS_make_85 : decode zc_LS_make 85 = .ok (.return_, 1) := by decide +kernel
theorem zd_LS_verdict_0 : decode zc_LS_verdict 0 = .ok (.aload_n 0, 1) := by decide +kernel
theorem zd_LS_verdict_1 : decode zc_LS_verdict 1 = .ok (.getfield 23, 3) := by decide +kernel
theorem zd_LS_verdict_4 : decode zc_LS_verdict 4 = .ok (.iload_n 1, 1) := by decide +kernel
theorem zd_LS_verdict_5 : decode zc_LS_verdict 5 = .ok (.iaload, 1) := by decide +kernel
theorem zd_LS_verdict_6 : decode zc_LS_verdict 6 = .ok (.ireturn, 1) := by decide +kernel
theorem zd_LS_howMany_0 : decode zc_LS_howMany 0 = .ok (.iconst 0, 1) := by decide +kernel
theorem zd_LS_howMany_1 : decode zc_LS_howMany 1 = .ok (.istore_n 2, 1) := by decide +kernel
theorem zd_LS_howMany_2 : decode zc_LS_howMany 2 = .ok (.iconst 0, 1) := by decide +kernel
theorem zd_LS_howMany_3 : decode zc_LS_howMany 3 = .ok (.istore_n 3, 1) := by decide +kernel
theorem zd_LS_howMany_4 : decode zc_LS_howMany 4 = .ok (.iload_n 3, 1) := by decide +kernel
theorem zd_LS_howMany_5 : decode zc_LS_howMany 5 = .ok (.aload_n 0, 1) := by decide +kernel
theorem zd_LS_howMany_6 : decode zc_LS_howMany 6 = .ok (.getfield 17, 3) := by decide +kernel
theorem zd_LS_howMany_9 : decode zc_LS_howMany 9 = .ok (.invokevirtual 30, 3) := by decide +kernel
theorem zd_LS_howMany_12 : decode zc_LS_howMany 12 = .ok (.if_icmp .ge 22, 3) := by decide +kernel
theorem zd_LS_howMany_15 : decode zc_LS_howMany 15 = .ok (.aload_n 0, 1) := by decide +kernel
theorem zd_LS_howMany_16 : decode zc_LS_howMany 16 = .ok (.getfield 23, 3) := by decide +kernel
theorem zd_LS_howMany_19 : decode zc_LS_howMany 19 = .ok (.iload_n 3, 1) := by decide +kernel
theorem zd_LS_howMany_20 : decode zc_LS_howMany 20 = .ok (.iaload, 1) := by decide +kernel
theorem zd_LS_howMany_21 : decode zc_LS_howMany 21 = .ok (.iload_n 1, 1) := by decide +kernel
theorem zd_LS_howMany_22 : decode zc_LS_howMany 22 = .ok (.if_icmp .ne 6, 3) := by decide +kernel
theorem zd_LS_howMany_25 : decode zc_LS_howMany 25 = .ok (.iinc 2 1, 3) := by decide +kernel
theorem zd_LS_howMany_28 : decode zc_LS_howMany 28 = .ok (.iinc 3 1, 3) := by decide +kernel
theorem zd_LS_howMany_31 : decode zc_LS_howMany 31 = .ok (.goto (-27), 3) := by decide +kernel
theorem zd_LS_howMany_34 : decode zc_LS_howMany 34 = .ok (.iload_n 2, 1) := by decide +kernel
theorem zd_LS_howMany_35 : decode zc_LS_howMany 35 = .ok (.ireturn, 1) := by decide +kernel
theorem zd_Ma_beginAt_0 : decode zc_Ma_beginAt 0 = .ok (.aload_n 0, 1) := by decide +kernel
theorem zd_Ma_beginAt_1 : decode zc_Ma_beginAt 1 = .ok (.iload_n 1, 1) := by decide +kernel
theorem zd_Ma_beginAt_2 : decode zc_Ma_beginAt 2 = .ok (.putfield 37, 3) := by decide +kernel
theorem zd_Ma_beginAt_5 : decode zc_Ma_beginAt 5 = .ok (.aload_n 0, 1) := by decide +kernel
theorem zd_Ma_beginAt_6 : decode zc_Ma_beginAt 6 = .ok (.iconst 0, 1) := by decide +kernel
theorem zd_Ma_beginAt_7 : decode zc_Ma_beginAt 7 = .ok (.putfield 33, 3) := by decide +kernel
theorem zd_Ma_beginAt_10 : decode zc_Ma_beginAt 10 = .ok (.aload_n 0, 1) := by decide +kernel
theorem zd_Ma_beginAt_11 : decode zc_Ma_beginAt 11 = .ok (.iconst 0, 1) := by decide +kernel
theorem zd_Ma_beginAt_12 : decode zc_Ma_beginAt 12 = .ok (.putfield 41, 3) := by decide +kernel
theorem zd_Ma_beginAt_15 : decode zc_Ma_beginAt 15 = .ok (.aload_n 0, 1) := by decide +kernel
theorem zd_Ma_beginAt_16 : decode zc_Ma_beginAt 16 = .ok (.getfield 13, 3) := by decide +kernel
theorem zd_Ma_beginAt_19 : decode zc_Ma_beginAt 19 = .ok (.invokevirtual 44, 3) := by decide +kernel
theorem zd_Ma_beginAt_22 : decode zc_Ma_beginAt 22 = .ok (.return_, 1) := by decide +kernel
theorem zd_Mt_floorMod_0 : decode zc_Mt_floorMod 0 = .ok (.iload_n 0, 1) := by decide +kernel
theorem zd_Mt_floorMod_1 : decode zc_Mt_floorMod 1 = .ok (.iload_n 1, 1) := by decide +kernel
theorem zd_Mt_floorMod_2 : decode zc_Mt_floorMod 2 = .ok (.irem, 1) := by decide +kernel
theorem zd_Mt_floorMod_3 : decode zc_Mt_floorMod 3 = .ok (.istore_n 2, 1) := by decide +kernel
theorem zd_Mt_floorMod_4 : decode zc_Mt_floorMod 4 = .ok (.iload_n 0, 1) := by decide +kernel
theorem zd_Mt_floorMod_5 : decode zc_Mt_floorMod 5 = .ok (.iload_n 1, 1) := by decide +kernel
theorem zd_Mt_floorMod_6 : decode zc_Mt_floorMod 6 = .ok (.ixor, 1) := by decide +kernel
theorem zd_Mt_floorMod_7 : decode zc_Mt_floorMod 7 = .ok (.ifCond .ge 11, 3) := by decide +kernel
theorem zd_Mt_floorMod_10 : decode zc_Mt_floorMod 10 = .ok (.iload_n 2, 1) := by decide +kernel
theorem zd_Mt_floorMod_11 : decode zc_Mt_floorMod 11 = .ok (.ifCond .eq 7, 3) := by decide +kernel
theorem zd_Mt_floorMod_14 : decode zc_Mt_floorMod 14 = .ok (.iload_n 2, 1) := by decide +kernel
theorem zd_Mt_floorMod_15 : decode zc_Mt_floorMod 15 = .ok (.iload_n 1, 1) := by decide +kernel
theorem zd_Mt_floorMod_16 : decode zc_Mt_floorMod 16 = .ok (.iadd, 1) := by decide +kernel
theorem zd_Mt_floorMod_17 : decode zc_Mt_floorMod 17 = .ok (.ireturn, 1) := by decide +kernel
theorem zd_Mt_floorMod_18 : decode zc_Mt_floorMod 18 = .ok (.iload_n 2, 1) := by decide +kernel
theorem zd_Mt_floorMod_19 : decode zc_Mt_floorMod 19 = .ok (.ireturn, 1) := by decide +kernel
theorem zd_Ma_answer_0 : decode zc_Ma_answer 0 = .ok (.aload_n 0, 1) := by decide +kernel
theorem zd_Ma_answer_1 : decode zc_Ma_answer 1 = .ok (.getfield 13, 3) := by decide +kernel
theorem zd_Ma_answer_4 : decode zc_Ma_answer 4 = .ok (.aload_n 0, 1) := by decide +kernel
theorem zd_Ma_answer_5 : decode zc_Ma_answer 5 = .ok (.getfield 17, 3) := by decide +kernel
theorem zd_Ma_answer_8 : decode zc_Ma_answer 8 = .ok (.aload_n 0, 1) := by decide +kernel
theorem zd_Ma_answer_9 : decode zc_Ma_answer 9 = .ok (.getfield 37, 3) := by decide +kernel
theorem zd_Ma_answer_12 : decode zc_Ma_answer 12 = .ok (.invokevirtual 122, 3) := by decide +kernel
theorem zd_Ma_answer_15 : decode zc_Ma_answer 15 = .ok (.iload_n 1, 1) := by decide +kernel
theorem zd_Ma_answer_16 : decode zc_Ma_answer 16 = .ok (.iload_n 2, 1) := by decide +kernel
theorem zd_Ma_answer_17 : decode zc_Ma_answer 17 = .ok (.invokevirtual 125, 3) := by decide +kernel
theorem zd_Ma_answer_20 : decode zc_Ma_answer 20 = .ok (.return_, 1) := by decide +kernel
theorem zd_Kn_unspoiled_0 : decode zc_Kn_unspoiled 0 = .ok (.iload_n 0, 1) := by decide +kernel
theorem zd_Kn_unspoiled_1 : decode zc_Kn_unspoiled 1 = .ok (.iload_n 0, 1) := by decide +kernel
theorem zd_Kn_unspoiled_2 : decode zc_Kn_unspoiled 2 = .ok (.iconst 1, 1) := by decide +kernel
theorem zd_Kn_unspoiled_3 : decode zc_Kn_unspoiled 3 = .ok (.iadd, 1) := by decide +kernel
theorem zd_Kn_unspoiled_4 : decode zc_Kn_unspoiled 4 = .ok (.iconst (-1), 1) := by decide +kernel
theorem zd_Kn_unspoiled_5 : decode zc_Kn_unspoiled 5 = .ok (.ixor, 1) := by decide +kernel
theorem zd_Kn_unspoiled_6 : decode zc_Kn_unspoiled 6 = .ok (.iand, 1) := by decide +kernel
theorem zd_Kn_unspoiled_7 : decode zc_Kn_unspoiled 7 = .ok (.ireturn, 1) := by decide +kernel
theorem zd_Kn_bytesThatAre_0 : decode zc_Kn_bytesThatAre 0 = .ok (.iconst 0, 1) := by decide +kernel
theorem zd_Kn_bytesThatAre_1 : decode zc_Kn_bytesThatAre 1 = .ok (.istore_n 2, 1) := by decide +kernel
theorem zd_Kn_bytesThatAre_2 : decode zc_Kn_bytesThatAre 2 = .ok (.iconst 0, 1) := by decide +kernel
theorem zd_Kn_bytesThatAre_3 : decode zc_Kn_bytesThatAre 3 = .ok (.istore_n 3, 1) := by decide +kernel
theorem zd_Kn_bytesThatAre_4 : decode zc_Kn_bytesThatAre 4 = .ok (.iload_n 3, 1) := by decide +kernel
theorem zd_Kn_bytesThatAre_5 : decode zc_Kn_bytesThatAre 5 = .ok (.iconst 4, 1) := by decide +kernel
theorem zd_Kn_bytesThatAre_6 : decode zc_Kn_bytesThatAre 6 = .ok (.if_icmp .ge 29, 3) := by decide +kernel
theorem zd_Kn_bytesThatAre_9 : decode zc_Kn_bytesThatAre 9 = .ok (.iload_n 1, 1) := by decide +kernel
theorem zd_Kn_bytesThatAre_10 : decode zc_Kn_bytesThatAre 10 = .ok (.bipush 8, 2) := by decide +kernel
theorem zd_Kn_bytesThatAre_12 : decode zc_Kn_bytesThatAre 12 = .ok (.iload_n 3, 1) := by decide +kernel
theorem zd_Kn_bytesThatAre_13 : decode zc_Kn_bytesThatAre 13 = .ok (.imul, 1) := by decide +kernel
theorem zd_Kn_bytesThatAre_14 : decode zc_Kn_bytesThatAre 14 = .ok (.ishr, 1) := by decide +kernel
theorem zd_Kn_bytesThatAre_15 : decode zc_Kn_bytesThatAre 15 = .ok (.sipush 255, 3) := by decide +kernel
theorem zd_Kn_bytesThatAre_18 : decode zc_Kn_bytesThatAre 18 = .ok (.iand, 1) := by decide +kernel
theorem zd_Kn_bytesThatAre_19 : decode zc_Kn_bytesThatAre 19 = .ok (.iload_n 0, 1) := by decide +kernel
theorem zd_Kn_bytesThatAre_20 : decode zc_Kn_bytesThatAre 20 = .ok (.if_icmp .ne 9, 3) := by decide +kernel
theorem zd_Kn_bytesThatAre_23 : decode zc_Kn_bytesThatAre 23 = .ok (.iload_n 2, 1) := by decide +kernel
theorem zd_Kn_bytesThatAre_24 : decode zc_Kn_bytesThatAre 24 = .ok (.iconst 1, 1) := by decide +kernel
theorem zd_Kn_bytesThatAre_25 : decode zc_Kn_bytesThatAre 25 = .ok (.iload_n 3, 1) := by decide +kernel
theorem zd_Kn_bytesThatAre_26 : decode zc_Kn_bytesThatAre 26 = .ok (.ishl, 1) := by decide +kernel
theorem zd_Kn_bytesThatAre_27 : decode zc_Kn_bytesThatAre 27 = .ok (.ior, 1) := by decide +kernel
theorem zd_Kn_bytesThatAre_28 : decode zc_Kn_bytesThatAre 28 = .ok (.istore_n 2, 1) := by decide +kernel
theorem zd_Kn_bytesThatAre_29 : decode zc_Kn_bytesThatAre 29 = .ok (.iinc 3 1, 3) := by decide +kernel
theorem zd_Kn_bytesThatAre_32 : decode zc_Kn_bytesThatAre 32 = .ok (.goto (-28), 3) := by decide +kernel
theorem zd_Kn_bytesThatAre_35 : decode zc_Kn_bytesThatAre 35 = .ok (.iload_n 2, 1) := by decide +kernel
theorem zd_Kn_bytesThatAre_36 : decode zc_Kn_bytesThatAre 36 = .ok (.ireturn, 1) := by decide +kernel
theorem zd_Kn_decided_0 : decode zc_Kn_decided 0 = .ok (.iload_n 1, 1) := by decide +kernel
theorem zd_Kn_decided_1 : decode zc_Kn_decided 1 = .ok (.iload_n 3, 1) := by decide +kernel
theorem zd_Kn_decided_2 : decode zc_Kn_decided 2 = .ok (.iand, 1) := by decide +kernel
theorem zd_Kn_decided_3 : decode zc_Kn_decided 3 = .ok (.iload_n 1, 1) := by decide +kernel
theorem zd_Kn_decided_4 : decode zc_Kn_decided 4 = .ok (.iload 4, 2) := by decide +kernel
theorem zd_Kn_decided_6 : decode zc_Kn_decided 6 = .ok (.iload_n 0, 1) := by decide +kernel
theorem zd_Kn_decided_7 : decode zc_Kn_decided 7 = .ok (.invokestatic 7, 3) := by decide +kernel
theorem zd_Kn_decided_10 : decode zc_Kn_decided 10 = .ok (.iand, 1) := by decide +kernel
theorem zd_Kn_decided_11 : decode zc_Kn_decided 11 = .ok (.ior, 1) := by decide +kernel
theorem zd_Kn_decided_12 : decode zc_Kn_decided 12 = .ok (.iload_n 3, 1) := by decide +kernel
theorem zd_Kn_decided_13 : decode zc_Kn_decided 13 = .ok (.iload 4, 2) := by decide +kernel
theorem zd_Kn_decided_15 : decode zc_Kn_decided 15 = .ok (.iload_n 2, 1) := by decide +kernel
theorem zd_Kn_decided_16 : decode zc_Kn_decided 16 = .ok (.invokestatic 7, 3) := by decide +kernel
theorem zd_Kn_decided_19 : decode zc_Kn_decided 19 = .ok (.iand, 1) := by decide +kernel
theorem zd_Kn_decided_20 : decode zc_Kn_decided 20 = .ok (.ior, 1) := by decide +kernel
theorem zd_Kn_decided_21 : decode zc_Kn_decided 21 = .ok (.ireturn, 1) := by decide +kernel
theorem zd_Ma_calculate_0 : decode zc_Ma_calculate 0 = .ok (.aload_n 0, 1) := by decide +kernel
theorem zd_Ma_calculate_1 : decode zc_Ma_calculate 1 = .ok (.getfield 13, 3) := by decide +kernel
theorem zd_Ma_calculate_4 : decode zc_Ma_calculate 4 = .ok (.aload_n 0, 1) := by decide +kernel
theorem zd_Ma_calculate_5 : decode zc_Ma_calculate 5 = .ok (.getfield 17, 3) := by decide +kernel
theorem zd_Ma_calculate_8 : decode zc_Ma_calculate 8 = .ok (.aload_n 0, 1) := by decide +kernel
theorem zd_Ma_calculate_9 : decode zc_Ma_calculate 9 = .ok (.getfield 37, 3) := by decide +kernel
theorem zd_Ma_calculate_12 : decode zc_Ma_calculate 12 = .ok (.invokevirtual 94, 3) := by decide +kernel
theorem zd_Ma_calculate_15 : decode zc_Ma_calculate 15 = .ok (.invokevirtual 97, 3) := by decide +kernel
theorem zd_Ma_calculate_18 : decode zc_Ma_calculate 18 = .ok (.istore_n 2, 1) := by decide +kernel
theorem zd_Ma_calculate_19 : decode zc_Ma_calculate 19 = .ok (.aload_n 0, 1) := by decide +kernel
theorem zd_Ma_calculate_20 : decode zc_Ma_calculate 20 = .ok (.getfield 13, 3) := by decide +kernel
theorem zd_Ma_calculate_23 : decode zc_Ma_calculate 23 = .ok (.aload_n 0, 1) := by decide +kernel
theorem zd_Ma_calculate_24 : decode zc_Ma_calculate 24 = .ok (.getfield 17, 3) := by decide +kernel
theorem zd_Ma_calculate_27 : decode zc_Ma_calculate 27 = .ok (.aload_n 0, 1) := by decide +kernel
theorem zd_Ma_calculate_28 : decode zc_Ma_calculate 28 = .ok (.getfield 37, 3) := by decide +kernel
theorem zd_Ma_calculate_31 : decode zc_Ma_calculate 31 = .ok (.invokevirtual 100, 3) := by decide +kernel
theorem zd_Ma_calculate_34 : decode zc_Ma_calculate 34 = .ok (.invokevirtual 97, 3) := by decide +kernel
theorem zd_Ma_calculate_37 : decode zc_Ma_calculate 37 = .ok (.istore_n 3, 1) := by decide +kernel
theorem zd_Ma_calculate_38 : decode zc_Ma_calculate 38 = .ok (.aload_n 0, 1) := by decide +kernel
theorem zd_Ma_calculate_39 : decode zc_Ma_calculate 39 = .ok (.getfield 13, 3) := by decide +kernel
theorem zd_Ma_calculate_42 : decode zc_Ma_calculate 42 = .ok (.aload_n 0, 1) := by decide +kernel
theorem zd_Ma_calculate_43 : decode zc_Ma_calculate 43 = .ok (.getfield 17, 3) := by decide +kernel
theorem zd_Ma_calculate_46 : decode zc_Ma_calculate 46 = .ok (.aload_n 0, 1) := by decide +kernel
theorem zd_Ma_calculate_47 : decode zc_Ma_calculate 47 = .ok (.getfield 37, 3) := by decide +kernel
theorem zd_Ma_calculate_50 : decode zc_Ma_calculate 50 = .ok (.invokevirtual 94, 3) := by decide +kernel
theorem zd_Ma_calculate_53 : decode zc_Ma_calculate 53 = .ok (.invokevirtual 103, 3) := by decide +kernel
theorem zd_Ma_calculate_56 : decode zc_Ma_calculate 56 = .ok (.istore 4, 2) := by decide +kernel
theorem zd_Ma_calculate_58 : decode zc_Ma_calculate 58 = .ok (.aload_n 0, 1) := by decide +kernel
theorem zd_Ma_calculate_59 : decode zc_Ma_calculate 59 = .ok (.getfield 13, 3) := by decide +kernel
theorem zd_Ma_calculate_62 : decode zc_Ma_calculate 62 = .ok (.aload_n 0, 1) := by decide +kernel
theorem zd_Ma_calculate_63 : decode zc_Ma_calculate 63 = .ok (.getfield 17, 3) := by decide +kernel
theorem zd_Ma_calculate_66 : decode zc_Ma_calculate 66 = .ok (.aload_n 0, 1) := by decide +kernel
theorem zd_Ma_calculate_67 : decode zc_Ma_calculate 67 = .ok (.getfield 37, 3) := by decide +kernel
theorem zd_Ma_calculate_70 : decode zc_Ma_calculate 70 = .ok (.invokevirtual 100, 3) := by decide +kernel
theorem zd_Ma_calculate_73 : decode zc_Ma_calculate 73 = .ok (.invokevirtual 103, 3) := by decide +kernel
theorem zd_Ma_calculate_76 : decode zc_Ma_calculate 76 = .ok (.istore 5, 2) := by decide +kernel
theorem zd_Ma_calculate_78 : decode zc_Ma_calculate 78 = .ok (.iload_n 1, 1) := by decide +kernel
theorem zd_Ma_calculate_79 : decode zc_Ma_calculate 79 = .ok (.tableswitch 182 1 7 #[41, 61, 86, 104, 122, 140, 160], 41) := by decide +kernel
theorem zd_Ma_calculate_120 : decode zc_Ma_calculate 120 = .ok (.aload_n 0, 1) := by decide +kernel
theorem zd_Ma_calculate_121 : decode zc_Ma_calculate 121 = .ok (.aload_n 0, 1) := by decide +kernel
theorem zd_Ma_calculate_122 : decode zc_Ma_calculate 122 = .ok (.getfield 17, 3) := by decide +kernel
theorem zd_Ma_calculate_125 : decode zc_Ma_calculate 125 = .ok (.aload_n 0, 1) := by decide +kernel
theorem zd_Ma_calculate_126 : decode zc_Ma_calculate 126 = .ok (.getfield 37, 3) := by decide +kernel
theorem zd_Ma_calculate_129 : decode zc_Ma_calculate 129 = .ok (.invokevirtual 106, 3) := by decide +kernel
theorem zd_Ma_calculate_132 : decode zc_Ma_calculate 132 = .ok (.bipush 15, 2) := by decide +kernel
theorem zd_Ma_calculate_134 : decode zc_Ma_calculate 134 = .ok (.invokevirtual 111, 3) := by decide +kernel
theorem zd_Ma_calculate_137 : decode zc_Ma_calculate 137 = .ok (.goto 136, 3) := by decide +kernel
theorem zd_Ma_calculate_140 : decode zc_Ma_calculate 140 = .ok (.aload_n 0, 1) := by decide +kernel
theorem zd_Ma_calculate_141 : decode zc_Ma_calculate 141 = .ok (.iload_n 2, 1) := by decide +kernel
theorem zd_Ma_calculate_142 : decode zc_Ma_calculate 142 = .ok (.aload_n 0, 1) := by decide +kernel
theorem zd_Ma_calculate_143 : decode zc_Ma_calculate 143 = .ok (.getfield 17, 3) := by decide +kernel
theorem zd_Ma_calculate_146 : decode zc_Ma_calculate 146 = .ok (.aload_n 0, 1) := by decide +kernel
theorem zd_Ma_calculate_147 : decode zc_Ma_calculate 147 = .ok (.getfield 37, 3) := by decide +kernel
theorem zd_Ma_calculate_150 : decode zc_Ma_calculate 150 = .ok (.invokevirtual 106, 3) := by decide +kernel
theorem zd_Ma_calculate_153 : decode zc_Ma_calculate 153 = .ok (.iadd, 1) := by decide +kernel
theorem zd_Ma_calculate_154 : decode zc_Ma_calculate 154 = .ok (.iload 4, 2) := by decide +kernel
theorem zd_Ma_calculate_156 : decode zc_Ma_calculate 156 = .ok (.invokestatic 115, 3) := by decide +kernel
theorem zd_Ma_calculate_159 : decode zc_Ma_calculate 159 = .ok (.invokevirtual 111, 3) := by decide +kernel
theorem zd_Ma_calculate_162 : decode zc_Ma_calculate 162 = .ok (.goto 111, 3) := by decide +kernel
theorem zd_Ma_calculate_165 : decode zc_Ma_calculate 165 = .ok (.aload_n 0, 1) := by decide +kernel
theorem zd_Ma_calculate_166 : decode zc_Ma_calculate 166 = .ok (.iload_n 2, 1) := by decide +kernel
theorem zd_Ma_calculate_167 : decode zc_Ma_calculate 167 = .ok (.iload_n 3, 1) := by decide +kernel
theorem zd_Ma_calculate_168 : decode zc_Ma_calculate 168 = .ok (.iadd, 1) := by decide +kernel
theorem zd_Ma_calculate_169 : decode zc_Ma_calculate 169 = .ok (.iload 4, 2) := by decide +kernel
theorem zd_Ma_calculate_171 : decode zc_Ma_calculate 171 = .ok (.iload 5, 2) := by decide +kernel
theorem zd_Ma_calculate_173 : decode zc_Ma_calculate 173 = .ok (.iand, 1) := by decide +kernel
theorem zd_Ma_calculate_174 : decode zc_Ma_calculate 174 = .ok (.invokestatic 115, 3) := by decide +kernel
theorem zd_Ma_calculate_177 : decode zc_Ma_calculate 177 = .ok (.invokevirtual 111, 3) := by decide +kernel
theorem zd_Ma_calculate_180 : decode zc_Ma_calculate 180 = .ok (.goto 93, 3) := by decide +kernel
theorem zd_Ma_calculate_183 : decode zc_Ma_calculate 183 = .ok (.aload_n 0, 1) := by decide +kernel
theorem zd_Ma_calculate_184 : decode zc_Ma_calculate 184 = .ok (.iload_n 2, 1) := by decide +kernel
theorem zd_Ma_calculate_185 : decode zc_Ma_calculate 185 = .ok (.iload_n 3, 1) := by decide +kernel
theorem zd_Ma_calculate_186 : decode zc_Ma_calculate 186 = .ok (.isub, 1) := by decide +kernel
theorem zd_Ma_calculate_187 : decode zc_Ma_calculate 187 = .ok (.iload 4, 2) := by decide +kernel
theorem zd_Ma_calculate_189 : decode zc_Ma_calculate 189 = .ok (.iload 5, 2) := by decide +kernel
theorem zd_Ma_calculate_191 : decode zc_Ma_calculate 191 = .ok (.iand, 1) := by decide +kernel
theorem zd_Ma_calculate_192 : decode zc_Ma_calculate 192 = .ok (.invokestatic 115, 3) := by decide +kernel
theorem zd_Ma_calculate_195 : decode zc_Ma_calculate 195 = .ok (.invokevirtual 111, 3) := by decide +kernel
theorem zd_Ma_calculate_198 : decode zc_Ma_calculate 198 = .ok (.goto 75, 3) := by decide +kernel
theorem zd_Ma_calculate_201 : decode zc_Ma_calculate 201 = .ok (.aload_n 0, 1) := by decide +kernel
theorem zd_Ma_calculate_202 : decode zc_Ma_calculate 202 = .ok (.iload_n 2, 1) := by decide +kernel
theorem zd_Ma_calculate_203 : decode zc_Ma_calculate 203 = .ok (.iload_n 3, 1) := by decide +kernel
theorem zd_Ma_calculate_204 : decode zc_Ma_calculate 204 = .ok (.imul, 1) := by decide +kernel
theorem zd_Ma_calculate_205 : decode zc_Ma_calculate 205 = .ok (.iload 4, 2) := by decide +kernel
theorem zd_Ma_calculate_207 : decode zc_Ma_calculate 207 = .ok (.iload 5, 2) := by decide +kernel
theorem zd_Ma_calculate_209 : decode zc_Ma_calculate 209 = .ok (.iand, 1) := by decide +kernel
theorem zd_Ma_calculate_210 : decode zc_Ma_calculate 210 = .ok (.invokestatic 115, 3) := by decide +kernel
theorem zd_Ma_calculate_213 : decode zc_Ma_calculate 213 = .ok (.invokevirtual 111, 3) := by decide +kernel
theorem zd_Ma_calculate_216 : decode zc_Ma_calculate 216 = .ok (.goto 57, 3) := by decide +kernel
theorem zd_Ma_calculate_219 : decode zc_Ma_calculate 219 = .ok (.aload_n 0, 1) := by decide +kernel
theorem zd_Ma_calculate_220 : decode zc_Ma_calculate 220 = .ok (.iload_n 2, 1) := by decide +kernel
theorem zd_Ma_calculate_221 : decode zc_Ma_calculate 221 = .ok (.iload_n 3, 1) := by decide +kernel
theorem zd_Ma_calculate_222 : decode zc_Ma_calculate 222 = .ok (.iand, 1) := by decide +kernel
theorem zd_Ma_calculate_223 : decode zc_Ma_calculate 223 = .ok (.iload_n 2, 1) := by decide +kernel
theorem zd_Ma_calculate_224 : decode zc_Ma_calculate 224 = .ok (.iload 4, 2) := by decide +kernel
theorem zd_Ma_calculate_226 : decode zc_Ma_calculate 226 = .ok (.iload_n 3, 1) := by decide +kernel
theorem zd_Ma_calculate_227 : decode zc_Ma_calculate 227 = .ok (.iload 5, 2) := by decide +kernel
theorem zd_Ma_calculate_229 : decode zc_Ma_calculate 229 = .ok (.iconst 0, 1) := by decide +kernel
theorem zd_Ma_calculate_230 : decode zc_Ma_calculate 230 = .ok (.invokestatic 118, 3) := by decide +kernel
theorem zd_Ma_calculate_233 : decode zc_Ma_calculate 233 = .ok (.invokevirtual 111, 3) := by decide +kernel
theorem zd_Ma_calculate_236 : decode zc_Ma_calculate 236 = .ok (.goto 37, 3) := by decide +kernel
theorem zd_Ma_calculate_239 : decode zc_Ma_calculate 239 = .ok (.aload_n 0, 1) := by decide +kernel
theorem zd_Ma_calculate_240 : decode zc_Ma_calculate 240 = .ok (.iload_n 2, 1) := by decide +kernel
theorem zd_Ma_calculate_241 : decode zc_Ma_calculate 241 = .ok (.iload_n 3, 1) := by decide +kernel
theorem zd_Ma_calculate_242 : decode zc_Ma_calculate 242 = .ok (.ior, 1) := by decide +kernel
theorem zd_Ma_calculate_243 : decode zc_Ma_calculate 243 = .ok (.iload_n 2, 1) := by decide +kernel
theorem zd_Ma_calculate_244 : decode zc_Ma_calculate 244 = .ok (.iload 4, 2) := by decide +kernel
theorem zd_Ma_calculate_246 : decode zc_Ma_calculate 246 = .ok (.iload_n 3, 1) := by decide +kernel
theorem zd_Ma_calculate_247 : decode zc_Ma_calculate 247 = .ok (.iload 5, 2) := by decide +kernel
theorem zd_Ma_calculate_249 : decode zc_Ma_calculate 249 = .ok (.sipush 255, 3) := by decide +kernel
theorem zd_Ma_calculate_252 : decode zc_Ma_calculate 252 = .ok (.invokestatic 118, 3) := by decide +kernel
theorem zd_Ma_calculate_255 : decode zc_Ma_calculate 255 = .ok (.invokevirtual 111, 3) := by decide +kernel
theorem zd_Ma_calculate_258 : decode zc_Ma_calculate 258 = .ok (.goto 15, 3) := by decide +kernel
theorem zd_Ma_calculate_261 : decode zc_Ma_calculate 261 = .ok (.aload_n 0, 1) := by decide +kernel
theorem zd_Ma_calculate_262 : decode zc_Ma_calculate 262 = .ok (.iload_n 2, 1) := by decide +kernel
theorem zd_Ma_calculate_263 : decode zc_Ma_calculate 263 = .ok (.iload_n 3, 1) := by decide +kernel
theorem zd_Ma_calculate_264 : decode zc_Ma_calculate 264 = .ok (.ixor, 1) := by decide +kernel
theorem zd_Ma_calculate_265 : decode zc_Ma_calculate 265 = .ok (.iload 4, 2) := by decide +kernel
theorem zd_Ma_calculate_267 : decode zc_Ma_calculate 267 = .ok (.iload 5, 2) := by decide +kernel
theorem zd_Ma_calculate_269 : decode zc_Ma_calculate 269 = .ok (.iand, 1) := by decide +kernel
theorem zd_Ma_calculate_270 : decode zc_Ma_calculate 270 = .ok (.invokevirtual 111, 3) := by decide +kernel
theorem zd_Ma_calculate_273 : decode zc_Ma_calculate 273 = .ok (.return_, 1) := by decide +kernel
theorem zd_Ma_noteClosed_0 : decode zc_Ma_noteClosed 0 = .ok (.aload_n 0, 1) := by decide +kernel
theorem zd_Ma_noteClosed_1 : decode zc_Ma_noteClosed 1 = .ok (.getfield 7, 3) := by decide +kernel
theorem zd_Ma_noteClosed_4 : decode zc_Ma_noteClosed 4 = .ok (.iload_n 2, 1) := by decide +kernel
theorem zd_Ma_noteClosed_5 : decode zc_Ma_noteClosed 5 = .ok (.iload_n 3, 1) := by decide +kernel
theorem zd_Ma_noteClosed_6 : decode zc_Ma_noteClosed 6 = .ok (.invokevirtual 160, 3) := by decide +kernel
theorem zd_Ma_noteClosed_9 : decode zc_Ma_noteClosed 9 = .ok (.istore 4, 2) := by decide +kernel
theorem zd_Ma_noteClosed_11 : decode zc_Ma_noteClosed 11 = .ok (.iload 4, 2) := by decide +kernel
theorem zd_Ma_noteClosed_13 : decode zc_Ma_noteClosed 13 = .ok (.iconst (-1), 1) := by decide +kernel
theorem zd_Ma_noteClosed_14 : decode zc_Ma_noteClosed 14 = .ok (.if_icmp .eq 17, 3) := by decide +kernel
theorem zd_Ma_noteClosed_17 : decode zc_Ma_noteClosed 17 = .ok (.aload_n 0, 1) := by decide +kernel
theorem zd_Ma_noteClosed_18 : decode zc_Ma_noteClosed 18 = .ok (.getfield 25, 3) := by decide +kernel
theorem zd_Ma_noteClosed_21 : decode zc_Ma_noteClosed 21 = .ok (.iload_n 1, 1) := by decide +kernel
theorem zd_Ma_noteClosed_22 : decode zc_Ma_noteClosed 22 = .ok (.aload_n 0, 1) := by decide +kernel
theorem zd_Ma_noteClosed_23 : decode zc_Ma_noteClosed 23 = .ok (.getfield 37, 3) := by decide +kernel
theorem zd_Ma_noteClosed_26 : decode zc_Ma_noteClosed 26 = .ok (.iload 4, 2) := by decide +kernel
theorem zd_Ma_noteClosed_28 : decode zc_Ma_noteClosed 28 = .ok (.invokevirtual 135, 3) := by decide +kernel
theorem zd_Ma_noteClosed_31 : decode zc_Ma_noteClosed 31 = .ok (.return_, 1) := by decide +kernel
theorem zd_Ma_load_0 : decode zc_Ma_load 0 = .ok (.aload_n 0, 1) := by decide +kernel
theorem zd_Ma_load_1 : decode zc_Ma_load 1 = .ok (.iconst 1, 1) := by decide +kernel
theorem zd_Ma_load_2 : decode zc_Ma_load 2 = .ok (.iload_n 1, 1) := by decide +kernel
theorem zd_Ma_load_3 : decode zc_Ma_load 3 = .ok (.iload_n 2, 1) := by decide +kernel
theorem zd_Ma_load_4 : decode zc_Ma_load 4 = .ok (.invokevirtual 150, 3) := by decide +kernel
theorem zd_Ma_load_7 : decode zc_Ma_load 7 = .ok (.aload_n 0, 1) := by decide +kernel
theorem zd_Ma_load_8 : decode zc_Ma_load 8 = .ok (.getfield 7, 3) := by decide +kernel
theorem zd_Ma_load_11 : decode zc_Ma_load 11 = .ok (.iload_n 1, 1) := by decide +kernel
theorem zd_Ma_load_12 : decode zc_Ma_load 12 = .ok (.iload_n 2, 1) := by decide +kernel
theorem zd_Ma_load_13 : decode zc_Ma_load 13 = .ok (.invokevirtual 153, 3) := by decide +kernel
theorem zd_Ma_load_16 : decode zc_Ma_load 16 = .ok (.istore_n 3, 1) := by decide +kernel
theorem zd_Ma_load_17 : decode zc_Ma_load 17 = .ok (.aload_n 0, 1) := by decide +kernel
theorem zd_Ma_load_18 : decode zc_Ma_load 18 = .ok (.getfield 7, 3) := by decide +kernel
theorem zd_Ma_load_21 : decode zc_Ma_load 21 = .ok (.iload_n 1, 1) := by decide +kernel
theorem zd_Ma_load_22 : decode zc_Ma_load 22 = .ok (.iload_n 2, 1) := by decide +kernel
theorem zd_Ma_load_23 : decode zc_Ma_load 23 = .ok (.invokevirtual 155, 3) := by decide +kernel
theorem zd_Ma_load_26 : decode zc_Ma_load 26 = .ok (.istore 4, 2) := by decide +kernel
theorem zd_Ma_load_28 : decode zc_Ma_load 28 = .ok (.iload_n 2, 1) := by decide +kernel
theorem zd_Ma_load_29 : decode zc_Ma_load 29 = .ok (.iconst 1, 1) := by decide +kernel
theorem zd_Ma_load_30 : decode zc_Ma_load 30 = .ok (.if_icmp .ne 24, 3) := by decide +kernel
theorem zd_Ma_load_33 : decode zc_Ma_load 33 = .ok (.aload_n 0, 1) := by decide +kernel
theorem zd_Ma_load_34 : decode zc_Ma_load 34 = .ok (.iload_n 3, 1) := by decide +kernel
theorem zd_Ma_load_35 : decode zc_Ma_load 35 = .ok (.i2b, 1) := by decide +kernel
theorem zd_Ma_load_36 : decode zc_Ma_load 36 = .ok (.iload 4, 2) := by decide +kernel
theorem zd_Ma_load_38 : decode zc_Ma_load 38 = .ok (.iconst 1, 1) := by decide +kernel
theorem zd_Ma_load_39 : decode zc_Ma_load 39 = .ok (.if_icmp .ne 8, 3) := by decide +kernel
theorem zd_Ma_load_42 : decode zc_Ma_load 42 = .ok (.bipush 15, 2) := by decide +kernel
theorem zd_Ma_load_44 : decode zc_Ma_load 44 = .ok (.goto 4, 3) := by decide +kernel
theorem zd_Ma_load_47 : decode zc_Ma_load 47 = .ok (.iconst 0, 1) := by decide +kernel
theorem zd_Ma_load_48 : decode zc_Ma_load 48 = .ok (.invokevirtual 111, 3) := by decide +kernel
theorem zd_Ma_load_51 : decode zc_Ma_load 51 = .ok (.goto 10, 3) := by decide +kernel
theorem zd_Ma_load_54 : decode zc_Ma_load 54 = .ok (.aload_n 0, 1) := by decide +kernel
theorem zd_Ma_load_55 : decode zc_Ma_load 55 = .ok (.iload_n 3, 1) := by decide +kernel
theorem zd_Ma_load_56 : decode zc_Ma_load 56 = .ok (.iload 4, 2) := by decide +kernel
theorem zd_Ma_load_58 : decode zc_Ma_load 58 = .ok (.invokevirtual 111, 3) := by decide +kernel
theorem zd_Ma_load_61 : decode zc_Ma_load 61 = .ok (.return_, 1) := by decide +kernel
theorem zd_Ma_store_0 : decode zc_Ma_store 0 = .ok (.aload_n 0, 1) := by decide +kernel
theorem zd_Ma_store_1 : decode zc_Ma_store 1 = .ok (.iconst 2, 1) := by decide +kernel
theorem zd_Ma_store_2 : decode zc_Ma_store 2 = .ok (.iload_n 1, 1) := by decide +kernel
theorem zd_Ma_store_3 : decode zc_Ma_store 3 = .ok (.iload_n 2, 1) := by decide +kernel
theorem zd_Ma_store_4 : decode zc_Ma_store 4 = .ok (.invokevirtual 150, 3) := by decide +kernel
theorem zd_Ma_store_7 : decode zc_Ma_store 7 = .ok (.aload_n 0, 1) := by decide +kernel
theorem zd_Ma_store_8 : decode zc_Ma_store 8 = .ok (.getfield 7, 3) := by decide +kernel
theorem zd_Ma_store_11 : decode zc_Ma_store 11 = .ok (.iload_n 1, 1) := by decide +kernel
theorem zd_Ma_store_12 : decode zc_Ma_store 12 = .ok (.iload_n 2, 1) := by decide +kernel
theorem zd_Ma_store_13 : decode zc_Ma_store 13 = .ok (.aload_n 0, 1) := by decide +kernel
theorem zd_Ma_store_14 : decode zc_Ma_store 14 = .ok (.getfield 13, 3) := by decide +kernel
theorem zd_Ma_store_17 : decode zc_Ma_store 17 = .ok (.aload_n 0, 1) := by decide +kernel
theorem zd_Ma_store_18 : decode zc_Ma_store 18 = .ok (.getfield 17, 3) := by decide +kernel
theorem zd_Ma_store_21 : decode zc_Ma_store 21 = .ok (.aload_n 0, 1) := by decide +kernel
theorem zd_Ma_store_22 : decode zc_Ma_store 22 = .ok (.getfield 37, 3) := by decide +kernel
theorem zd_Ma_store_25 : decode zc_Ma_store 25 = .ok (.invokevirtual 100, 3) := by decide +kernel
theorem zd_Ma_store_28 : decode zc_Ma_store 28 = .ok (.invokevirtual 97, 3) := by decide +kernel
theorem zd_Ma_store_31 : decode zc_Ma_store 31 = .ok (.aload_n 0, 1) := by decide +kernel
theorem zd_Ma_store_32 : decode zc_Ma_store 32 = .ok (.getfield 13, 3) := by decide +kernel
theorem zd_Ma_store_35 : decode zc_Ma_store 35 = .ok (.aload_n 0, 1) := by decide +kernel
theorem zd_Ma_store_36 : decode zc_Ma_store 36 = .ok (.getfield 17, 3) := by decide +kernel
theorem zd_Ma_store_39 : decode zc_Ma_store 39 = .ok (.aload_n 0, 1) := by decide +kernel
theorem zd_Ma_store_40 : decode zc_Ma_store 40 = .ok (.getfield 37, 3) := by decide +kernel
theorem zd_Ma_store_43 : decode zc_Ma_store 43 = .ok (.invokevirtual 100, 3) := by decide +kernel
theorem zd_Ma_store_46 : decode zc_Ma_store 46 = .ok (.invokevirtual 103, 3) := by decide +kernel
theorem zd_Ma_store_49 : decode zc_Ma_store 49 = .ok (.invokevirtual 157, 3) := by decide +kernel
theorem zd_Ma_store_52 : decode zc_Ma_store 52 = .ok (.return_, 1) := by decide +kernel
theorem zd_Ma_useMemory_0 : decode zc_Ma_useMemory 0 = .ok (.iload_n 1, 1) := by decide +kernel
theorem zd_Ma_useMemory_1 : decode zc_Ma_useMemory 1 = .ok (.bipush 9, 2) := by decide +kernel
theorem zd_Ma_useMemory_3 : decode zc_Ma_useMemory 3 = .ok (.if_icmp .eq 9, 3) := by decide +kernel
theorem zd_Ma_useMemory_6 : decode zc_Ma_useMemory 6 = .ok (.iload_n 1, 1) := by decide +kernel
theorem zd_Ma_useMemory_7 : decode zc_Ma_useMemory 7 = .ok (.bipush 11, 2) := by decide +kernel
theorem zd_Ma_useMemory_9 : decode zc_Ma_useMemory 9 = .ok (.if_icmp .ne 7, 3) := by decide +kernel
theorem zd_Ma_useMemory_12 : decode zc_Ma_useMemory 12 = .ok (.iconst 4, 1) := by decide +kernel
theorem zd_Ma_useMemory_13 : decode zc_Ma_useMemory 13 = .ok (.goto 4, 3) := by decide +kernel
theorem zd_Ma_useMemory_16 : decode zc_Ma_useMemory 16 = .ok (.iconst 1, 1) := by decide +kernel
theorem zd_Ma_useMemory_17 : decode zc_Ma_useMemory 17 = .ok (.istore_n 2, 1) := by decide +kernel
theorem zd_Ma_useMemory_18 : decode zc_Ma_useMemory 18 = .ok (.aload_n 0, 1) := by decide +kernel
theorem zd_Ma_useMemory_19 : decode zc_Ma_useMemory 19 = .ok (.getfield 13, 3) := by decide +kernel
theorem zd_Ma_useMemory_22 : decode zc_Ma_useMemory 22 = .ok (.aload_n 0, 1) := by decide +kernel
theorem zd_Ma_useMemory_23 : decode zc_Ma_useMemory 23 = .ok (.getfield 17, 3) := by decide +kernel
theorem zd_Ma_useMemory_26 : decode zc_Ma_useMemory 26 = .ok (.aload_n 0, 1) := by decide +kernel
theorem zd_Ma_useMemory_27 : decode zc_Ma_useMemory 27 = .ok (.getfield 37, 3) := by decide +kernel
theorem zd_Ma_useMemory_30 : decode zc_Ma_useMemory 30 = .ok (.invokevirtual 94, 3) := by decide +kernel
theorem zd_Ma_useMemory_33 : decode zc_Ma_useMemory 33 = .ok (.invokevirtual 97, 3) := by decide +kernel
theorem zd_Ma_useMemory_36 : decode zc_Ma_useMemory 36 = .ok (.aload_n 0, 1) := by decide +kernel
theorem zd_Ma_useMemory_37 : decode zc_Ma_useMemory 37 = .ok (.getfield 17, 3) := by decide +kernel
theorem zd_Ma_useMemory_40 : decode zc_Ma_useMemory 40 = .ok (.aload_n 0, 1) := by decide +kernel
theorem zd_Ma_useMemory_41 : decode zc_Ma_useMemory 41 = .ok (.getfield 37, 3) := by decide +kernel
theorem zd_Ma_useMemory_44 : decode zc_Ma_useMemory 44 = .ok (.invokevirtual 106, 3) := by decide +kernel
theorem zd_Ma_useMemory_47 : decode zc_Ma_useMemory 47 = .ok (.iadd, 1) := by decide +kernel
theorem zd_Ma_useMemory_48 : decode zc_Ma_useMemory 48 = .ok (.istore_n 3, 1) := by decide +kernel
theorem zd_Ma_useMemory_49 : decode zc_Ma_useMemory 49 = .ok (.aload_n 0, 1) := by decide +kernel
theorem zd_Ma_useMemory_50 : decode zc_Ma_useMemory 50 = .ok (.getfield 13, 3) := by decide +kernel
theorem zd_Ma_useMemory_53 : decode zc_Ma_useMemory 53 = .ok (.aload_n 0, 1) := by decide +kernel
theorem zd_Ma_useMemory_54 : decode zc_Ma_useMemory 54 = .ok (.getfield 17, 3) := by decide +kernel
theorem zd_Ma_useMemory_57 : decode zc_Ma_useMemory 57 = .ok (.aload_n 0, 1) := by decide +kernel
theorem zd_Ma_useMemory_58 : decode zc_Ma_useMemory 58 = .ok (.getfield 37, 3) := by decide +kernel
theorem zd_Ma_useMemory_61 : decode zc_Ma_useMemory 61 = .ok (.invokevirtual 94, 3) := by decide +kernel
theorem zd_Ma_useMemory_64 : decode zc_Ma_useMemory 64 = .ok (.invokevirtual 129, 3) := by decide +kernel
theorem zd_Ma_useMemory_67 : decode zc_Ma_useMemory 67 = .ok (.ifCond .ne 16, 3) := by decide +kernel
theorem zd_Ma_useMemory_70 : decode zc_Ma_useMemory 70 = .ok (.aload_n 0, 1) := by decide +kernel
theorem zd_Ma_useMemory_71 : decode zc_Ma_useMemory 71 = .ok (.getfield 25, 3) := by decide +kernel
theorem zd_Ma_useMemory_74 : decode zc_Ma_useMemory 74 = .ok (.iconst 4, 1) := by decide +kernel
theorem zd_Ma_useMemory_75 : decode zc_Ma_useMemory 75 = .ok (.aload_n 0, 1) := by decide +kernel
theorem zd_Ma_useMemory_76 : decode zc_Ma_useMemory 76 = .ok (.getfield 37, 3) := by decide +kernel
theorem zd_Ma_useMemory_79 : decode zc_Ma_useMemory 79 = .ok (.iload_n 3, 1) := by decide +kernel
theorem zd_Ma_useMemory_80 : decode zc_Ma_useMemory 80 = .ok (.invokevirtual 135, 3) := by decide +kernel
theorem zd_Ma_useMemory_83 : decode zc_Ma_useMemory 83 = .ok (.iload_n 3, 1) := by decide +kernel
theorem zd_Ma_useMemory_84 : decode zc_Ma_useMemory 84 = .ok (.iload_n 2, 1) := by decide +kernel
theorem zd_Ma_useMemory_85 : decode zc_Ma_useMemory 85 = .ok (.invokestatic 138, 3) := by decide +kernel
theorem zd_Ma_useMemory_88 : decode zc_Ma_useMemory 88 = .ok (.ifCond .ne 16, 3) := by decide +kernel
theorem zd_Ma_useMemory_91 : decode zc_Ma_useMemory 91 = .ok (.aload_n 0, 1) := by decide +kernel
theorem zd_Ma_useMemory_92 : decode zc_Ma_useMemory 92 = .ok (.iconst 1, 1) := by decide +kernel
theorem zd_Ma_useMemory_93 : decode zc_Ma_useMemory 93 = .ok (.putfield 41, 3) := by decide +kernel
theorem zd_Ma_useMemory_96 : decode zc_Ma_useMemory 96 = .ok (.aload_n 0, 1) := by decide +kernel
theorem zd_Ma_useMemory_97 : decode zc_Ma_useMemory 97 = .ok (.iconst 1, 1) := by decide +kernel
theorem zd_Ma_useMemory_98 : decode zc_Ma_useMemory 98 = .ok (.putfield 33, 3) := by decide +kernel
theorem zd_Ma_useMemory_101 : decode zc_Ma_useMemory 101 = .ok (.goto 24, 3) := by decide +kernel
theorem zd_Ma_useMemory_104 : decode zc_Ma_useMemory 104 = .ok (.iload_n 1, 1) := by decide +kernel
theorem zd_Ma_useMemory_105 : decode zc_Ma_useMemory 105 = .ok (.bipush 10, 2) := by decide +kernel
theorem zd_Ma_useMemory_107 : decode zc_Ma_useMemory 107 = .ok (.if_icmp .gt 12, 3) := by decide +kernel
theorem zd_Ma_useMemory_110 : decode zc_Ma_useMemory 110 = .ok (.aload_n 0, 1) := by decide +kernel
theorem zd_Ma_useMemory_111 : decode zc_Ma_useMemory 111 = .ok (.iload_n 3, 1) := by decide +kernel
theorem zd_Ma_useMemory_112 : decode zc_Ma_useMemory 112 = .ok (.iload_n 2, 1) := by decide +kernel
theorem zd_Ma_useMemory_113 : decode zc_Ma_useMemory 113 = .ok (.invokevirtual 144, 3) := by decide +kernel
theorem zd_Ma_useMemory_116 : decode zc_Ma_useMemory 116 = .ok (.goto 9, 3) := by decide +kernel
theorem zd_Ma_useMemory_119 : decode zc_Ma_useMemory 119 = .ok (.aload_n 0, 1) := by decide +kernel
theorem zd_Ma_useMemory_120 : decode zc_Ma_useMemory 120 = .ok (.iload_n 3, 1) := by decide +kernel
theorem zd_Ma_useMemory_121 : decode zc_Ma_useMemory 121 = .ok (.iload_n 2, 1) := by decide +kernel
theorem zd_Ma_useMemory_122 : decode zc_Ma_useMemory 122 = .ok (.invokevirtual 147, 3) := by decide +kernel
theorem zd_Ma_useMemory_125 : decode zc_Ma_useMemory 125 = .ok (.return_, 1) := by decide +kernel
theorem zd_Ma_noteUnknown_0 : decode zc_Ma_noteUnknown 0 = .ok (.aload_n 0, 1) := by decide +kernel
theorem zd_Ma_noteUnknown_1 : decode zc_Ma_noteUnknown 1 = .ok (.getfield 13, 3) := by decide +kernel
theorem zd_Ma_noteUnknown_4 : decode zc_Ma_noteUnknown 4 = .ok (.aload_n 0, 1) := by decide +kernel
theorem zd_Ma_noteUnknown_5 : decode zc_Ma_noteUnknown 5 = .ok (.getfield 17, 3) := by decide +kernel
theorem zd_Ma_noteUnknown_8 : decode zc_Ma_noteUnknown 8 = .ok (.aload_n 0, 1) := by decide +kernel
theorem zd_Ma_noteUnknown_9 : decode zc_Ma_noteUnknown 9 = .ok (.getfield 37, 3) := by decide +kernel
theorem zd_Ma_noteUnknown_12 : decode zc_Ma_noteUnknown 12 = .ok (.invokevirtual 94, 3) := by decide +kernel
theorem zd_Ma_noteUnknown_15 : decode zc_Ma_noteUnknown 15 = .ok (.invokevirtual 129, 3) := by decide +kernel
theorem zd_Ma_noteUnknown_18 : decode zc_Ma_noteUnknown 18 = .ok (.ifCond .eq 32, 3) := by decide +kernel
theorem zd_Ma_noteUnknown_21 : decode zc_Ma_noteUnknown 21 = .ok (.iload_n 1, 1) := by decide +kernel
theorem zd_Ma_noteUnknown_22 : decode zc_Ma_noteUnknown 22 = .ok (.ifCond .eq 24, 3) := by decide +kernel
theorem zd_Ma_noteUnknown_25 : decode zc_Ma_noteUnknown 25 = .ok (.aload_n 0, 1) := by decide +kernel
theorem zd_Ma_noteUnknown_26 : decode zc_Ma_noteUnknown 26 = .ok (.getfield 13, 3) := by decide +kernel
theorem zd_Ma_noteUnknown_29 : decode zc_Ma_noteUnknown 29 = .ok (.aload_n 0, 1) := by decide +kernel
theorem zd_Ma_noteUnknown_30 : decode zc_Ma_noteUnknown 30 = .ok (.getfield 17, 3) := by decide +kernel
theorem zd_Ma_noteUnknown_33 : decode zc_Ma_noteUnknown 33 = .ok (.aload_n 0, 1) := by decide +kernel
theorem zd_Ma_noteUnknown_34 : decode zc_Ma_noteUnknown 34 = .ok (.getfield 37, 3) := by decide +kernel
theorem zd_Ma_noteUnknown_37 : decode zc_Ma_noteUnknown 37 = .ok (.invokevirtual 100, 3) := by decide +kernel
theorem zd_Ma_noteUnknown_40 : decode zc_Ma_noteUnknown 40 = .ok (.invokevirtual 129, 3) := by decide +kernel
theorem zd_Ma_noteUnknown_43 : decode zc_Ma_noteUnknown 43 = .ok (.ifCond .eq 7, 3) := by decide +kernel
theorem zd_Ma_noteUnknown_46 : decode zc_Ma_noteUnknown 46 = .ok (.iconst 1, 1) := by decide +kernel
theorem zd_Ma_noteUnknown_47 : decode zc_Ma_noteUnknown 47 = .ok (.goto 4, 3) := by decide +kernel
theorem zd_Ma_noteUnknown_50 : decode zc_Ma_noteUnknown 50 = .ok (.iconst 0, 1) := by decide +kernel
theorem zd_Ma_noteUnknown_51 : decode zc_Ma_noteUnknown 51 = .ok (.istore_n 2, 1) := by decide +kernel
theorem zd_Ma_noteUnknown_52 : decode zc_Ma_noteUnknown 52 = .ok (.iload_n 2, 1) := by decide +kernel
theorem zd_Ma_noteUnknown_53 : decode zc_Ma_noteUnknown 53 = .ok (.ifCond .ne 33, 3) := by decide +kernel
theorem zd_Ma_noteUnknown_56 : decode zc_Ma_noteUnknown 56 = .ok (.aload_n 0, 1) := by decide +kernel
theorem zd_Ma_noteUnknown_57 : decode zc_Ma_noteUnknown 57 = .ok (.getfield 25, 3) := by decide +kernel
theorem zd_Ma_noteUnknown_60 : decode zc_Ma_noteUnknown 60 = .ok (.iconst 3, 1) := by decide +kernel
theorem zd_Ma_noteUnknown_61 : decode zc_Ma_noteUnknown 61 = .ok (.aload_n 0, 1) := by decide +kernel
theorem zd_Ma_noteUnknown_62 : decode zc_Ma_noteUnknown 62 = .ok (.getfield 37, 3) := by decide +kernel
theorem zd_Ma_noteUnknown_65 : decode zc_Ma_noteUnknown 65 = .ok (.aload_n 0, 1) := by decide +kernel
theorem zd_Ma_noteUnknown_66 : decode zc_Ma_noteUnknown 66 = .ok (.getfield 13, 3) := by decide +kernel
theorem zd_Ma_noteUnknown_69 : decode zc_Ma_noteUnknown 69 = .ok (.aload_n 0, 1) := by decide +kernel
theorem zd_Ma_noteUnknown_70 : decode zc_Ma_noteUnknown 70 = .ok (.getfield 17, 3) := by decide +kernel
theorem zd_Ma_noteUnknown_73 : decode zc_Ma_noteUnknown 73 = .ok (.aload_n 0, 1) := by decide +kernel
theorem zd_Ma_noteUnknown_74 : decode zc_Ma_noteUnknown 74 = .ok (.getfield 37, 3) := by decide +kernel
theorem zd_Ma_noteUnknown_77 : decode zc_Ma_noteUnknown 77 = .ok (.invokevirtual 94, 3) := by decide +kernel
theorem zd_Ma_noteUnknown_80 : decode zc_Ma_noteUnknown 80 = .ok (.invokevirtual 97, 3) := by decide +kernel
theorem zd_Ma_noteUnknown_83 : decode zc_Ma_noteUnknown 83 = .ok (.invokevirtual 135, 3) := by decide +kernel
theorem zd_Ma_noteUnknown_86 : decode zc_Ma_noteUnknown 86 = .ok (.return_, 1) := by decide +kernel
theorem zd_Ma_jump_0 : decode zc_Ma_jump 0 = .ok (.aload_n 0, 1) := by decide +kernel
theorem zd_Ma_jump_1 : decode zc_Ma_jump 1 = .ok (.getfield 13, 3) := by decide +kernel
theorem zd_Ma_jump_4 : decode zc_Ma_jump 4 = .ok (.aload_n 0, 1) := by decide +kernel
theorem zd_Ma_jump_5 : decode zc_Ma_jump 5 = .ok (.getfield 17, 3) := by decide +kernel
theorem zd_Ma_jump_8 : decode zc_Ma_jump 8 = .ok (.aload_n 0, 1) := by decide +kernel
theorem zd_Ma_jump_9 : decode zc_Ma_jump 9 = .ok (.getfield 37, 3) := by decide +kernel
theorem zd_Ma_jump_12 : decode zc_Ma_jump 12 = .ok (.invokevirtual 94, 3) := by decide +kernel
theorem zd_Ma_jump_15 : decode zc_Ma_jump 15 = .ok (.invokevirtual 97, 3) := by decide +kernel
theorem zd_Ma_jump_18 : decode zc_Ma_jump 18 = .ok (.istore_n 2, 1) := by decide +kernel
theorem zd_Ma_jump_19 : decode zc_Ma_jump 19 = .ok (.aload_n 0, 1) := by decide +kernel
theorem zd_Ma_jump_20 : decode zc_Ma_jump 20 = .ok (.getfield 13, 3) := by decide +kernel
theorem zd_Ma_jump_23 : decode zc_Ma_jump 23 = .ok (.aload_n 0, 1) := by decide +kernel
theorem zd_Ma_jump_24 : decode zc_Ma_jump 24 = .ok (.getfield 17, 3) := by decide +kernel
theorem zd_Ma_jump_27 : decode zc_Ma_jump 27 = .ok (.aload_n 0, 1) := by decide +kernel
theorem zd_Ma_jump_28 : decode zc_Ma_jump 28 = .ok (.getfield 37, 3) := by decide +kernel
theorem zd_Ma_jump_31 : decode zc_Ma_jump 31 = .ok (.invokevirtual 100, 3) := by decide +kernel
theorem zd_Ma_jump_34 : decode zc_Ma_jump 34 = .ok (.invokevirtual 97, 3) := by decide +kernel
theorem zd_Ma_jump_37 : decode zc_Ma_jump 37 = .ok (.istore_n 3, 1) := by decide +kernel
theorem zd_Ma_jump_38 : decode zc_Ma_jump 38 = .ok (.aload_n 0, 1) := by decide +kernel
theorem zd_Ma_jump_39 : decode zc_Ma_jump 39 = .ok (.getfield 17, 3) := by decide +kernel
theorem zd_Ma_jump_42 : decode zc_Ma_jump 42 = .ok (.aload_n 0, 1) := by decide +kernel
theorem zd_Ma_jump_43 : decode zc_Ma_jump 43 = .ok (.getfield 37, 3) := by decide +kernel
theorem zd_Ma_jump_46 : decode zc_Ma_jump 46 = .ok (.invokevirtual 106, 3) := by decide +kernel
theorem zd_Ma_jump_49 : decode zc_Ma_jump 49 = .ok (.bipush 32, 2) := by decide +kernel
theorem zd_Ma_jump_51 : decode zc_Ma_jump 51 = .ok (.invokestatic 66, 3) := by decide +kernel
theorem zd_Ma_jump_54 : decode zc_Ma_jump 54 = .ok (.istore 4, 2) := by decide +kernel
theorem zd_Ma_jump_56 : decode zc_Ma_jump 56 = .ok (.iload_n 1, 1) := by decide +kernel
theorem zd_Ma_jump_57 : decode zc_Ma_jump 57 = .ok (.tableswitch 98 13 15 #[27, 53, 79], 27) := by decide +kernel
theorem zd_Ma_jump_84 : decode zc_Ma_jump 84 = .ok (.aload_n 0, 1) := by decide +kernel
theorem zd_Ma_jump_85 : decode zc_Ma_jump 85 = .ok (.iconst 1, 1) := by decide +kernel
theorem zd_Ma_jump_86 : decode zc_Ma_jump 86 = .ok (.invokevirtual 163, 3) := by decide +kernel
theorem zd_Ma_jump_89 : decode zc_Ma_jump 89 = .ok (.aload_n 0, 1) := by decide +kernel
theorem zd_Ma_jump_90 : decode zc_Ma_jump 90 = .ok (.iload_n 2, 1) := by decide +kernel
theorem zd_Ma_jump_91 : decode zc_Ma_jump 91 = .ok (.iload_n 3, 1) := by decide +kernel
theorem zd_Ma_jump_92 : decode zc_Ma_jump 92 = .ok (.if_icmp .ne 8, 3) := by decide +kernel
theorem zd_Ma_jump_95 : decode zc_Ma_jump 95 = .ok (.iload 4, 2) := by decide +kernel
theorem zd_Ma_jump_97 : decode zc_Ma_jump 97 = .ok (.goto 7, 3) := by decide +kernel
theorem zd_Ma_jump_100 : decode zc_Ma_jump 100 = .ok (.aload_n 0, 1) := by decide +kernel
theorem zd_Ma_jump_101 : decode zc_Ma_jump 101 = .ok (.getfield 72, 3) := by decide +kernel
theorem zd_Ma_jump_104 : decode zc_Ma_jump 104 = .ok (.putfield 72, 3) := by decide +kernel
theorem zd_Ma_jump_107 : decode zc_Ma_jump 107 = .ok (.goto 63, 3) := by decide +kernel
theorem zd_Ma_jump_110 : decode zc_Ma_jump 110 = .ok (.aload_n 0, 1) := by decide +kernel
theorem zd_Ma_jump_111 : decode zc_Ma_jump 111 = .ok (.iconst 1, 1) := by decide +kernel
theorem zd_Ma_jump_112 : decode zc_Ma_jump 112 = .ok (.invokevirtual 163, 3) := by decide +kernel
theorem zd_Ma_jump_115 : decode zc_Ma_jump 115 = .ok (.aload_n 0, 1) := by decide +kernel
theorem zd_Ma_jump_116 : decode zc_Ma_jump 116 = .ok (.iload_n 2, 1) := by decide +kernel
theorem zd_Ma_jump_117 : decode zc_Ma_jump 117 = .ok (.iload_n 3, 1) := by decide +kernel
theorem zd_Ma_jump_118 : decode zc_Ma_jump 118 = .ok (.if_icmp .ge 8, 3) := by decide +kernel
theorem zd_Ma_jump_121 : decode zc_Ma_jump 121 = .ok (.iload 4, 2) := by decide +kernel
theorem zd_Ma_jump_123 : decode zc_Ma_jump 123 = .ok (.goto 7, 3) := by decide +kernel
theorem zd_Ma_jump_126 : decode zc_Ma_jump 126 = .ok (.aload_n 0, 1) := by decide +kernel
theorem zd_Ma_jump_127 : decode zc_Ma_jump 127 = .ok (.getfield 72, 3) := by decide +kernel
theorem zd_Ma_jump_130 : decode zc_Ma_jump 130 = .ok (.putfield 72, 3) := by decide +kernel
theorem zd_Ma_jump_133 : decode zc_Ma_jump 133 = .ok (.goto 37, 3) := by decide +kernel
theorem zd_Ma_jump_136 : decode zc_Ma_jump 136 = .ok (.aload_n 0, 1) := by decide +kernel
theorem zd_Ma_jump_137 : decode zc_Ma_jump 137 = .ok (.aload_n 0, 1) := by decide +kernel
theorem zd_Ma_jump_138 : decode zc_Ma_jump 138 = .ok (.getfield 72, 3) := by decide +kernel
theorem zd_Ma_jump_141 : decode zc_Ma_jump 141 = .ok (.bipush 15, 2) := by decide +kernel
theorem zd_Ma_jump_143 : decode zc_Ma_jump 143 = .ok (.invokevirtual 111, 3) := by decide +kernel
theorem zd_Ma_jump_146 : decode zc_Ma_jump 146 = .ok (.aload_n 0, 1) := by decide +kernel
theorem zd_Ma_jump_147 : decode zc_Ma_jump 147 = .ok (.iload 4, 2) := by decide +kernel
theorem zd_Ma_jump_149 : decode zc_Ma_jump 149 = .ok (.putfield 72, 3) := by decide +kernel
theorem zd_Ma_jump_152 : decode zc_Ma_jump 152 = .ok (.goto 18, 3) := by decide +kernel
theorem zd_Ma_jump_155 : decode zc_Ma_jump 155 = .ok (.aload_n 0, 1) := by decide +kernel
theorem zd_Ma_jump_156 : decode zc_Ma_jump 156 = .ok (.iconst 0, 1) := by decide +kernel
theorem zd_Ma_jump_157 : decode zc_Ma_jump 157 = .ok (.invokevirtual 163, 3) := by decide +kernel
theorem zd_Ma_jump_160 : decode zc_Ma_jump 160 = .ok (.aload_n 0, 1) := by decide +kernel
theorem zd_Ma_jump_161 : decode zc_Ma_jump 161 = .ok (.iload_n 2, 1) := by decide +kernel
theorem zd_Ma_jump_162 : decode zc_Ma_jump 162 = .ok (.bipush 32, 2) := by decide +kernel
theorem zd_Ma_jump_164 : decode zc_Ma_jump 164 = .ok (.invokestatic 66, 3) := by decide +kernel
theorem zd_Ma_jump_167 : decode zc_Ma_jump 167 = .ok (.putfield 72, 3) := by decide +kernel
theorem zd_Ma_jump_170 : decode zc_Ma_jump 170 = .ok (.return_, 1) := by decide +kernel
theorem zd_Ma_ask_0 : decode zc_Ma_ask 0 = .ok (.aload_n 0, 1) := by decide +kernel
theorem zd_Ma_ask_1 : decode zc_Ma_ask 1 = .ok (.iconst 0, 1) := by decide +kernel
theorem zd_Ma_ask_2 : decode zc_Ma_ask 2 = .ok (.invokevirtual 163, 3) := by decide +kernel
theorem zd_Ma_ask_5 : decode zc_Ma_ask 5 = .ok (.aload_n 0, 1) := by decide +kernel
theorem zd_Ma_ask_6 : decode zc_Ma_ask 6 = .ok (.aload_n 0, 1) := by decide +kernel
theorem zd_Ma_ask_7 : decode zc_Ma_ask 7 = .ok (.getfield 29, 3) := by decide +kernel
theorem zd_Ma_ask_10 : decode zc_Ma_ask 10 = .ok (.aload_n 0, 1) := by decide +kernel
theorem zd_Ma_ask_11 : decode zc_Ma_ask 11 = .ok (.getfield 13, 3) := by decide +kernel
theorem zd_Ma_ask_14 : decode zc_Ma_ask 14 = .ok (.aload_n 0, 1) := by decide +kernel
theorem zd_Ma_ask_15 : decode zc_Ma_ask 15 = .ok (.getfield 17, 3) := by decide +kernel
theorem zd_Ma_ask_18 : decode zc_Ma_ask 18 = .ok (.aload_n 0, 1) := by decide +kernel
theorem zd_Ma_ask_19 : decode zc_Ma_ask 19 = .ok (.getfield 37, 3) := by decide +kernel
theorem zd_Ma_ask_22 : decode zc_Ma_ask 22 = .ok (.invokevirtual 94, 3) := by decide +kernel
theorem zd_Ma_ask_25 : decode zc_Ma_ask 25 = .ok (.invokevirtual 97, 3) := by decide +kernel
theorem zd_Ma_ask_28 : decode zc_Ma_ask 28 = .ok (.invokevirtual 167, 3) := by decide +kernel
theorem zd_Ma_ask_31 : decode zc_Ma_ask 31 = .ok (.bipush 15, 2) := by decide +kernel
theorem zd_Ma_ask_33 : decode zc_Ma_ask 33 = .ok (.invokevirtual 111, 3) := by decide +kernel
theorem zd_Ma_ask_36 : decode zc_Ma_ask 36 = .ok (.return_, 1) := by decide +kernel
theorem zd_Ma_give_0 : decode zc_Ma_give 0 = .ok (.aload_n 0, 1) := by decide +kernel
theorem zd_Ma_give_1 : decode zc_Ma_give 1 = .ok (.iconst 0, 1) := by decide +kernel
theorem zd_Ma_give_2 : decode zc_Ma_give 2 = .ok (.invokevirtual 163, 3) := by decide +kernel
theorem zd_Ma_give_5 : decode zc_Ma_give 5 = .ok (.aload_n 0, 1) := by decide +kernel
theorem zd_Ma_give_6 : decode zc_Ma_give 6 = .ok (.getfield 13, 3) := by decide +kernel
theorem zd_Ma_give_9 : decode zc_Ma_give 9 = .ok (.aload_n 0, 1) := by decide +kernel
theorem zd_Ma_give_10 : decode zc_Ma_give 10 = .ok (.getfield 17, 3) := by decide +kernel
theorem zd_Ma_give_13 : decode zc_Ma_give 13 = .ok (.aload_n 0, 1) := by decide +kernel
theorem zd_Ma_give_14 : decode zc_Ma_give 14 = .ok (.getfield 37, 3) := by decide +kernel
theorem zd_Ma_give_17 : decode zc_Ma_give 17 = .ok (.invokevirtual 94, 3) := by decide +kernel
theorem zd_Ma_give_20 : decode zc_Ma_give 20 = .ok (.invokevirtual 97, 3) := by decide +kernel
theorem zd_Ma_give_23 : decode zc_Ma_give 23 = .ok (.istore_n 1, 1) := by decide +kernel
theorem zd_Ma_give_24 : decode zc_Ma_give 24 = .ok (.aload_n 0, 1) := by decide +kernel
theorem zd_Ma_give_25 : decode zc_Ma_give 25 = .ok (.getfield 29, 3) := by decide +kernel
theorem zd_Ma_give_28 : decode zc_Ma_give 28 = .ok (.iload_n 1, 1) := by decide +kernel
theorem zd_Ma_give_29 : decode zc_Ma_give 29 = .ok (.invokevirtual 171, 3) := by decide +kernel
theorem zd_Ma_give_32 : decode zc_Ma_give 32 = .ok (.istore_n 2, 1) := by decide +kernel
theorem zd_Ma_give_33 : decode zc_Ma_give 33 = .ok (.iload_n 2, 1) := by decide +kernel
theorem zd_Ma_give_34 : decode zc_Ma_give 34 = .ok (.iconst (-1), 1) := by decide +kernel
theorem zd_Ma_give_35 : decode zc_Ma_give 35 = .ok (.if_icmp .ne 19, 3) := by decide +kernel
theorem zd_Ma_give_38 : decode zc_Ma_give 38 = .ok (.aload_n 0, 1) := by decide +kernel
theorem zd_Ma_give_39 : decode zc_Ma_give 39 = .ok (.getfield 25, 3) := by decide +kernel
theorem zd_Ma_give_42 : decode zc_Ma_give 42 = .ok (.iconst 5, 1) := by decide +kernel
theorem zd_Ma_give_43 : decode zc_Ma_give 43 = .ok (.aload_n 0, 1) := by decide +kernel
theorem zd_Ma_give_44 : decode zc_Ma_give 44 = .ok (.getfield 37, 3) := by decide +kernel
theorem zd_Ma_give_47 : decode zc_Ma_give 47 = .ok (.iload_n 1, 1) := by decide +kernel
theorem zd_Ma_give_48 : decode zc_Ma_give 48 = .ok (.invokevirtual 135, 3) := by decide +kernel
theorem zd_Ma_give_51 : decode zc_Ma_give 51 = .ok (.goto 39, 3) := by decide +kernel
theorem zd_Ma_give_54 : decode zc_Ma_give 54 = .ok (.aload_n 0, 1) := by decide +kernel
theorem zd_Ma_give_55 : decode zc_Ma_give 55 = .ok (.getfield 29, 3) := by decide +kernel
theorem zd_Ma_give_58 : decode zc_Ma_give 58 = .ok (.iload_n 2, 1) := by decide +kernel
theorem zd_Ma_give_59 : decode zc_Ma_give 59 = .ok (.invokevirtual 174, 3) := by decide +kernel
theorem zd_Ma_give_62 : decode zc_Ma_give 62 = .ok (.ifCond .ne 20, 3) := by decide +kernel
theorem zd_Ma_give_65 : decode zc_Ma_give 65 = .ok (.aload_n 0, 1) := by decide +kernel
theorem zd_Ma_give_66 : decode zc_Ma_give 66 = .ok (.getfield 25, 3) := by decide +kernel
theorem zd_Ma_give_69 : decode zc_Ma_give 69 = .ok (.bipush 6, 2) := by decide +kernel
theorem zd_Ma_give_71 : decode zc_Ma_give 71 = .ok (.aload_n 0, 1) := by decide +kernel
theorem zd_Ma_give_72 : decode zc_Ma_give 72 = .ok (.getfield 37, 3) := by decide +kernel
theorem zd_Ma_give_75 : decode zc_Ma_give 75 = .ok (.iload_n 1, 1) := by decide +kernel
theorem zd_Ma_give_76 : decode zc_Ma_give 76 = .ok (.invokevirtual 135, 3) := by decide +kernel
theorem zd_Ma_give_79 : decode zc_Ma_give 79 = .ok (.goto 11, 3) := by decide +kernel
theorem zd_Ma_give_82 : decode zc_Ma_give 82 = .ok (.aload_n 0, 1) := by decide +kernel
theorem zd_Ma_give_83 : decode zc_Ma_give 83 = .ok (.getfield 29, 3) := by decide +kernel
theorem zd_Ma_give_86 : decode zc_Ma_give 86 = .ok (.iload_n 2, 1) := by decide +kernel
theorem zd_Ma_give_87 : decode zc_Ma_give 87 = .ok (.invokevirtual 177, 3) := by decide +kernel
theorem zd_Ma_give_90 : decode zc_Ma_give 90 = .ok (.return_, 1) := by decide +kernel
theorem zd_Ma_step_0 : decode zc_Ma_step 0 = .ok (.aload_n 0, 1) := by decide +kernel
theorem zd_Ma_step_1 : decode zc_Ma_step 1 = .ok (.getfield 21, 3) := by decide +kernel
theorem zd_Ma_step_4 : decode zc_Ma_step 4 = .ok (.aload_n 0, 1) := by decide +kernel
theorem zd_Ma_step_5 : decode zc_Ma_step 5 = .ok (.getfield 37, 3) := by decide +kernel
theorem zd_Ma_step_8 : decode zc_Ma_step 8 = .ok (.invokevirtual 60, 3) := by decide +kernel
theorem zd_Ma_step_11 : decode zc_Ma_step 11 = .ok (.aload_n 0, 1) := by decide +kernel
theorem zd_Ma_step_12 : decode zc_Ma_step 12 = .ok (.aload_n 0, 1) := by decide +kernel
theorem zd_Ma_step_13 : decode zc_Ma_step 13 = .ok (.getfield 37, 3) := by decide +kernel
theorem zd_Ma_step_16 : decode zc_Ma_step 16 = .ok (.iconst 1, 1) := by decide +kernel
theorem zd_Ma_step_17 : decode zc_Ma_step 17 = .ok (.iadd, 1) := by decide +kernel
theorem zd_Ma_step_18 : decode zc_Ma_step 18 = .ok (.bipush 32, 2) := by decide +kernel
theorem zd_Ma_step_20 : decode zc_Ma_step 20 = .ok (.invokestatic 66, 3) := by decide +kernel
theorem zd_Ma_step_23 : decode zc_Ma_step 23 = .ok (.putfield 72, 3) := by decide +kernel
theorem zd_Ma_step_26 : decode zc_Ma_step 26 = .ok (.aload_n 0, 1) := by decide +kernel
theorem zd_Ma_step_27 : decode zc_Ma_step 27 = .ok (.getfield 17, 3) := by decide +kernel
theorem zd_Ma_step_30 : decode zc_Ma_step 30 = .ok (.aload_n 0, 1) := by decide +kernel
theorem zd_Ma_step_31 : decode zc_Ma_step 31 = .ok (.getfield 37, 3) := by decide +kernel
theorem zd_Ma_step_34 : decode zc_Ma_step 34 = .ok (.invokevirtual 75, 3) := by decide +kernel
theorem zd_Ma_step_37 : decode zc_Ma_step 37 = .ok (.istore_n 1, 1) := by decide +kernel
theorem zd_Ma_step_38 : decode zc_Ma_step 38 = .ok (.iload_n 1, 1) := by decide +kernel
theorem zd_Ma_step_39 : decode zc_Ma_step 39 = .ok (.ifCond .ne 19, 3) := by decide +kernel
theorem zd_Ma_step_42 : decode zc_Ma_step 42 = .ok (.aload_n 0, 1) := by decide +kernel
theorem zd_Ma_step_43 : decode zc_Ma_step 43 = .ok (.iconst 1, 1) := by decide +kernel
theorem zd_Ma_step_44 : decode zc_Ma_step 44 = .ok (.putfield 33, 3) := by decide +kernel
theorem zd_Ma_step_47 : decode zc_Ma_step 47 = .ok (.aload_n 0, 1) := by decide +kernel
theorem zd_Ma_step_48 : decode zc_Ma_step 48 = .ok (.aload_n 0, 1) := by decide +kernel
theorem zd_Ma_step_49 : decode zc_Ma_step 49 = .ok (.getfield 37, 3) := by decide +kernel
theorem zd_Ma_step_52 : decode zc_Ma_step 52 = .ok (.putfield 72, 3) := by decide +kernel
theorem zd_Ma_step_55 : decode zc_Ma_step 55 = .ok (.goto 62, 3) := by decide +kernel
theorem zd_Ma_step_58 : decode zc_Ma_step 58 = .ok (.iload_n 1, 1) := by decide +kernel
theorem zd_Ma_step_59 : decode zc_Ma_step 59 = .ok (.bipush 8, 2) := by decide +kernel
theorem zd_Ma_step_61 : decode zc_Ma_step 61 = .ok (.if_icmp .gt 11, 3) := by decide +kernel
theorem zd_Ma_step_64 : decode zc_Ma_step 64 = .ok (.aload_n 0, 1) := by decide +kernel
theorem zd_Ma_step_65 : decode zc_Ma_step 65 = .ok (.iload_n 1, 1) := by decide +kernel
theorem zd_Ma_step_66 : decode zc_Ma_step 66 = .ok (.invokevirtual 79, 3) := by decide +kernel
theorem zd_Ma_step_69 : decode zc_Ma_step 69 = .ok (.goto 48, 3) := by decide +kernel
theorem zd_Ma_step_72 : decode zc_Ma_step 72 = .ok (.iload_n 1, 1) := by decide +kernel
theorem zd_Ma_step_73 : decode zc_Ma_step 73 = .ok (.bipush 12, 2) := by decide +kernel
theorem zd_Ma_step_75 : decode zc_Ma_step 75 = .ok (.if_icmp .gt 11, 3) := by decide +kernel
theorem zd_Ma_step_78 : decode zc_Ma_step 78 = .ok (.aload_n 0, 1) := by decide +kernel
theorem zd_Ma_step_79 : decode zc_Ma_step 79 = .ok (.iload_n 1, 1) := by decide +kernel
theorem zd_Ma_step_80 : decode zc_Ma_step 80 = .ok (.invokevirtual 82, 3) := by decide +kernel
theorem zd_Ma_step_83 : decode zc_Ma_step 83 = .ok (.goto 34, 3) := by decide +kernel
theorem zd_Ma_step_86 : decode zc_Ma_step 86 = .ok (.iload_n 1, 1) := by decide +kernel
theorem zd_Ma_step_87 : decode zc_Ma_step 87 = .ok (.bipush 16, 2) := by decide +kernel
theorem zd_Ma_step_89 : decode zc_Ma_step 89 = .ok (.if_icmp .gt 11, 3) := by decide +kernel
theorem zd_Ma_step_92 : decode zc_Ma_step 92 = .ok (.aload_n 0, 1) := by decide +kernel
theorem zd_Ma_step_93 : decode zc_Ma_step 93 = .ok (.iload_n 1, 1) := by decide +kernel
theorem zd_Ma_step_94 : decode zc_Ma_step 94 = .ok (.invokevirtual 85, 3) := by decide +kernel
theorem zd_Ma_step_97 : decode zc_Ma_step 97 = .ok (.goto 20, 3) := by decide +kernel
theorem zd_Ma_step_100 : decode zc_Ma_step 100 = .ok (.iload_n 1, 1) := by decide +kernel
theorem zd_Ma_step_101 : decode zc_Ma_step 101 = .ok (.bipush 17, 2) := by decide +kernel
theorem zd_Ma_step_103 : decode zc_Ma_step 103 = .ok (.if_icmp .ne 10, 3) := by decide +kernel
theorem zd_Ma_step_106 : decode zc_Ma_step 106 = .ok (.aload_n 0, 1) := by decide +kernel
theorem zd_Ma_step_107 : decode zc_Ma_step 107 = .ok (.invokevirtual 88, 3) := by decide +kernel
theorem zd_Ma_step_110 : decode zc_Ma_step 110 = .ok (.goto 7, 3) := by decide +kernel
theorem zd_Ma_step_113 : decode zc_Ma_step 113 = .ok (.aload_n 0, 1) := by decide +kernel
theorem zd_Ma_step_114 : decode zc_Ma_step 114 = .ok (.invokevirtual 91, 3) := by decide +kernel
theorem zd_Ma_step_117 : decode zc_Ma_step 117 = .ok (.aload_n 0, 1) := by decide +kernel
theorem zd_Ma_step_118 : decode zc_Ma_step 118 = .ok (.getfield 41, 3) := by decide +kernel
theorem zd_Ma_step_121 : decode zc_Ma_step 121 = .ok (.ifCond .ne 21, 3) := by decide +kernel
theorem zd_Ma_step_124 : decode zc_Ma_step 124 = .ok (.aload_n 0, 1) := by decide +kernel
theorem zd_Ma_step_125 : decode zc_Ma_step 125 = .ok (.aload_n 0, 1) := by decide +kernel
theorem zd_Ma_step_126 : decode zc_Ma_step 126 = .ok (.getfield 72, 3) := by decide +kernel
theorem zd_Ma_step_129 : decode zc_Ma_step 129 = .ok (.putfield 37, 3) := by decide +kernel
theorem zd_Ma_step_132 : decode zc_Ma_step 132 = .ok (.aload_n 0, 1) := by decide +kernel
theorem zd_Ma_step_133 : decode zc_Ma_step 133 = .ok (.dup, 1) := by decide +kernel
theorem zd_Ma_step_134 : decode zc_Ma_step 134 = .ok (.getfield 49, 3) := by decide +kernel
theorem zd_Ma_step_137 : decode zc_Ma_step 137 = .ok (.iconst 1, 1) := by decide +kernel
theorem zd_Ma_step_138 : decode zc_Ma_step 138 = .ok (.iadd, 1) := by decide +kernel
theorem zd_Ma_step_139 : decode zc_Ma_step 139 = .ok (.putfield 49, 3) := by decide +kernel
theorem zd_Ma_step_142 : decode zc_Ma_step 142 = .ok (.return_, 1) := by decide +kernel
theorem zd_Ma_perform_0 : decode zc_Ma_perform 0 = .ok (.aload_n 0, 1) := by decide +kernel
theorem zd_Ma_perform_1 : decode zc_Ma_perform 1 = .ok (.getfield 49, 3) := by decide +kernel
theorem zd_Ma_perform_4 : decode zc_Ma_perform 4 = .ok (.istore_n 2, 1) := by decide +kernel
theorem zd_Ma_perform_5 : decode zc_Ma_perform 5 = .ok (.aload_n 0, 1) := by decide +kernel
theorem zd_Ma_perform_6 : decode zc_Ma_perform 6 = .ok (.getfield 21, 3) := by decide +kernel
theorem zd_Ma_perform_9 : decode zc_Ma_perform 9 = .ok (.invokevirtual 52, 3) := by decide +kernel
theorem zd_Ma_perform_12 : decode zc_Ma_perform 12 = .ok (.iconst 0, 1) := by decide +kernel
theorem zd_Ma_perform_13 : decode zc_Ma_perform 13 = .ok (.istore_n 3, 1) := by decide +kernel
theorem zd_Ma_perform_14 : decode zc_Ma_perform 14 = .ok (.iload_n 3, 1) := by decide +kernel
theorem zd_Ma_perform_15 : decode zc_Ma_perform 15 = .ok (.iload_n 1, 1) := by decide +kernel
theorem zd_Ma_perform_16 : decode zc_Ma_perform 16 = .ok (.if_icmp .ge 20, 3) := by decide +kernel
theorem zd_Ma_perform_19 : decode zc_Ma_perform 19 = .ok (.aload_n 0, 1) := by decide +kernel
theorem zd_Ma_perform_20 : decode zc_Ma_perform 20 = .ok (.getfield 33, 3) := by decide +kernel
theorem zd_Ma_perform_23 : decode zc_Ma_perform 23 = .ok (.ifCond .ne 13, 3) := by decide +kernel
theorem zd_Ma_perform_26 : decode zc_Ma_perform 26 = .ok (.aload_n 0, 1) := by decide +kernel
theorem zd_Ma_perform_27 : decode zc_Ma_perform 27 = .ok (.invokevirtual 57, 3) := by decide +kernel
theorem zd_Ma_perform_30 : decode zc_Ma_perform 30 = .ok (.iinc 3 1, 3) := by decide +kernel
theorem zd_Ma_perform_33 : decode zc_Ma_perform 33 = .ok (.goto (-19), 3) := by decide +kernel
theorem zd_Ma_perform_36 : decode zc_Ma_perform 36 = .ok (.aload_n 0, 1) := by decide +kernel
theorem zd_Ma_perform_37 : decode zc_Ma_perform 37 = .ok (.getfield 49, 3) := by decide +kernel
theorem zd_Ma_perform_40 : decode zc_Ma_perform 40 = .ok (.iload_n 2, 1) := by decide +kernel
theorem zd_Ma_perform_41 : decode zc_Ma_perform 41 = .ok (.isub, 1) := by decide +kernel
theorem zd_Ma_perform_42 : decode zc_Ma_perform 42 = .ok (.ireturn, 1) := by decide +kernel
theorem zd_Ma_hasFaulted_0 : decode zc_Ma_hasFaulted 0 = .ok (.aload_n 0, 1) := by decide +kernel
theorem zd_Ma_hasFaulted_1 : decode zc_Ma_hasFaulted 1 = .ok (.getfield 41, 3) := by decide +kernel
theorem zd_Ma_hasFaulted_4 : decode zc_Ma_hasFaulted 4 = .ok (.ireturn, 1) := by decide +kernel
