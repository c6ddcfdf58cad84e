theorem zd_Mo_thrown_0 : decode zc_Mo_thrown 0 = .ok (.aload_n 0, 1) := by decide +kernel
theorem zd_Mo_thrown_1 : decode zc_Mo_thrown 1 = .ok (.getfield 75, 3) := by decide +kernel
theorem zd_Mo_thrown_4 : decode zc_Mo_thrown 4 = .ok (.ireturn, 1) := by decide +kernel
theorem zd_Mo_in_0 : decode zc_Mo_in 0 = .ok (.iload_n 0, 1) := by decide +kernel
theorem zd_Mo_in_1 : decode zc_Mo_in 1 = .ok (.iload_n 1, 1) := by decide +kernel
theorem zd_Mo_in_2 : decode zc_Mo_in 2 = .ok (.if_icmp .lt 12, 3) := by decide +kernel
theorem zd_Mo_in_5 : decode zc_Mo_in 5 = .ok (.iload_n 0, 1) := by decide +kernel
theorem zd_Mo_in_6 : decode zc_Mo_in 6 = .ok (.iload_n 2, 1) := by decide +kernel
theorem zd_Mo_in_7 : decode zc_Mo_in 7 = .ok (.if_icmp .gt 7, 3) := by decide +kernel
theorem zd_Mo_in_10 : decode zc_Mo_in 10 = .ok (.iconst 1, 1) := by decide +kernel
theorem zd_Mo_in_11 : decode zc_Mo_in 11 = .ok (.goto 4, 3) := by decide +kernel
theorem zd_Mo_in_14 : decode zc_Mo_in 14 = .ok (.iconst 0, 1) := by decide +kernel
theorem zd_Mo_in_15 : decode zc_Mo_in 15 = .ok (.ireturn, 1) := by decide +kernel
theorem zd_Mo_bad_0 : decode zc_Mo_bad 0 = .ok (.aload_n 0, 1) := by decide +kernel
theorem zd_Mo_bad_1 : decode zc_Mo_bad 1 = .ok (.iload_n 1, 1) := by decide +kernel
theorem zd_Mo_bad_2 : decode zc_Mo_bad 2 = .ok (.ifCond .eq 7, 3) := by decide +kernel
theorem zd_Mo_bad_5 : decode zc_Mo_bad 5 = .ok (.iconst 0, 1) := by decide +kernel
theorem zd_Mo_bad_6 : decode zc_Mo_bad 6 = .ok (.goto 4, 3) := by decide +kernel
theorem zd_Mo_bad_9 : decode zc_Mo_bad 9 = .ok (.iconst 1, 1) := by decide +kernel
theorem zd_Mo_bad_10 : decode zc_Mo_bad 10 = .ok (.putfield 75, 3) := by decide +kernel
theorem zd_Mo_bad_13 : decode zc_Mo_bad 13 = .ok (.iload_n 1, 1) := by decide +kernel
theorem zd_Mo_bad_14 : decode zc_Mo_bad 14 = .ok (.ifCond .ne 7, 3) := by decide +kernel
theorem zd_Mo_bad_17 : decode zc_Mo_bad 17 = .ok (.iconst 1, 1) := by decide +kernel
theorem zd_Mo_bad_18 : decode zc_Mo_bad 18 = .ok (.goto 4, 3) := by decide +kernel
theorem zd_Mo_bad_21 : decode zc_Mo_bad 21 = .ok (.iconst 0, 1) := by decide +kernel
theorem zd_Mo_bad_22 : decode zc_Mo_bad 22 = .ok (.ireturn, 1) := by decide +kernel
theorem zd_Mo_ends_0 : decode zc_Mo_ends 0 = .ok (.aload_n 0, 1) := by decide +kernel
theorem zd_Mo_ends_1 : decode zc_Mo_ends 1 = .ok (.getfield 7, 3) := by decide +kernel
theorem zd_Mo_ends_4 : decode zc_Mo_ends 4 = .ok (.iload_n 1, 1) := by decide +kernel
theorem zd_Mo_ends_5 : decode zc_Mo_ends 5 = .ok (.iaload, 1) := by decide +kernel
theorem zd_Mo_ends_6 : decode zc_Mo_ends 6 = .ok (.ifCond .eq 25, 3) := by decide +kernel
theorem zd_Mo_ends_9 : decode zc_Mo_ends 9 = .ok (.aload_n 0, 1) := by decide +kernel
theorem zd_Mo_ends_10 : decode zc_Mo_ends 10 = .ok (.getfield 7, 3) := by decide +kernel
theorem zd_Mo_ends_13 : decode zc_Mo_ends 13 = .ok (.iload_n 1, 1) := by decide +kernel
theorem zd_Mo_ends_14 : decode zc_Mo_ends 14 = .ok (.iaload, 1) := by decide +kernel
theorem zd_Mo_ends_15 : decode zc_Mo_ends 15 = .ok (.bipush 13, 2) := by decide +kernel
theorem zd_Mo_ends_17 : decode zc_Mo_ends 17 = .ok (.bipush 16, 2) := by decide +kernel
theorem zd_Mo_ends_19 : decode zc_Mo_ends 19 = .ok (.invokestatic 79, 3) := by decide +kernel
theorem zd_Mo_ends_22 : decode zc_Mo_ends 22 = .ok (.ifCond .ne 9, 3) := by decide +kernel
theorem zd_Mo_ends_25 : decode zc_Mo_ends 25 = .ok (.iload_n 1, 1) := by decide +kernel
theorem zd_Mo_ends_26 : decode zc_Mo_ends 26 = .ok (.bipush 31, 2) := by decide +kernel
theorem zd_Mo_ends_28 : decode zc_Mo_ends 28 = .ok (.if_icmp .ne 7, 3) := by decide +kernel
theorem zd_Mo_ends_31 : decode zc_Mo_ends 31 = .ok (.iconst 1, 1) := by decide +kernel
theorem zd_Mo_ends_32 : decode zc_Mo_ends 32 = .ok (.goto 4, 3) := by decide +kernel
theorem zd_Mo_ends_35 : decode zc_Mo_ends 35 = .ok (.iconst 0, 1) := by decide +kernel
theorem zd_Mo_ends_36 : decode zc_Mo_ends 36 = .ok (.ireturn, 1) := by decide +kernel
theorem zd_Mo_endOf_0 : decode zc_Mo_endOf 0 = .ok (.iload_n 1, 1) := by decide +kernel
theorem zd_Mo_endOf_1 : decode zc_Mo_endOf 1 = .ok (.istore_n 2, 1) := by decide +kernel
theorem zd_Mo_endOf_2 : decode zc_Mo_endOf 2 = .ok (.aload_n 0, 1) := by decide +kernel
theorem zd_Mo_endOf_3 : decode zc_Mo_endOf 3 = .ok (.iload_n 2, 1) := by decide +kernel
theorem zd_Mo_endOf_4 : decode zc_Mo_endOf 4 = .ok (.invokevirtual 83, 3) := by decide +kernel
theorem zd_Mo_endOf_7 : decode zc_Mo_endOf 7 = .ok (.ifCond .ne 17, 3) := by decide +kernel
theorem zd_Mo_endOf_10 : decode zc_Mo_endOf 10 = .ok (.iload_n 2, 1) := by decide +kernel
theorem zd_Mo_endOf_11 : decode zc_Mo_endOf 11 = .ok (.iload_n 1, 1) := by decide +kernel
theorem zd_Mo_endOf_12 : decode zc_Mo_endOf 12 = .ok (.bipush 7, 2) := by decide +kernel
theorem zd_Mo_endOf_14 : decode zc_Mo_endOf 14 = .ok (.iadd, 1) := by decide +kernel
theorem zd_Mo_endOf_15 : decode zc_Mo_endOf 15 = .ok (.if_icmp .ge 9, 3) := by decide +kernel
theorem zd_Mo_endOf_18 : decode zc_Mo_endOf 18 = .ok (.iinc 2 1, 3) := by decide +kernel
theorem zd_Mo_endOf_21 : decode zc_Mo_endOf 21 = .ok (.goto (-19), 3) := by decide +kernel
theorem zd_Mo_endOf_24 : decode zc_Mo_endOf 24 = .ok (.iload_n 2, 1) := by decide +kernel
theorem zd_Mo_endOf_25 : decode zc_Mo_endOf 25 = .ok (.ireturn, 1) := by decide +kernel
theorem zd_Mo_code_0 : decode zc_Mo_code 0 = .ok (.aload_n 0, 1) := by decide +kernel
theorem zd_Mo_code_1 : decode zc_Mo_code 1 = .ok (.iload_n 1, 1) := by decide +kernel
theorem zd_Mo_code_2 : decode zc_Mo_code 2 = .ok (.iconst 0, 1) := by decide +kernel
theorem zd_Mo_code_3 : decode zc_Mo_code 3 = .ok (.bipush 31, 2) := by decide +kernel
theorem zd_Mo_code_5 : decode zc_Mo_code 5 = .ok (.invokestatic 79, 3) := by decide +kernel
theorem zd_Mo_code_8 : decode zc_Mo_code 8 = .ok (.ifCond .eq 49, 3) := by decide +kernel
theorem zd_Mo_code_11 : decode zc_Mo_code 11 = .ok (.iload_n 2, 1) := by decide +kernel
theorem zd_Mo_code_12 : decode zc_Mo_code 12 = .ok (.iconst 0, 1) := by decide +kernel
theorem zd_Mo_code_13 : decode zc_Mo_code 13 = .ok (.bipush 18, 2) := by decide +kernel
theorem zd_Mo_code_15 : decode zc_Mo_code 15 = .ok (.invokestatic 79, 3) := by decide +kernel
theorem zd_Mo_code_18 : decode zc_Mo_code 18 = .ok (.ifCond .eq 39, 3) := by decide +kernel
theorem zd_Mo_code_21 : decode zc_Mo_code 21 = .ok (.iload_n 3, 1) := by decide +kernel
theorem zd_Mo_code_22 : decode zc_Mo_code 22 = .ok (.iconst 0, 1) := by decide +kernel
theorem zd_Mo_code_23 : decode zc_Mo_code 23 = .ok (.bipush 7, 2) := by decide +kernel
theorem zd_Mo_code_25 : decode zc_Mo_code 25 = .ok (.invokestatic 79, 3) := by decide +kernel
theorem zd_Mo_code_28 : decode zc_Mo_code 28 = .ok (.ifCond .eq 29, 3) := by decide +kernel
theorem zd_Mo_code_31 : decode zc_Mo_code 31 = .ok (.iload 4, 2) := by decide +kernel
theorem zd_Mo_code_33 : decode zc_Mo_code 33 = .ok (.iconst 0, 1) := by decide +kernel
theorem zd_Mo_code_34 : decode zc_Mo_code 34 = .ok (.bipush 7, 2) := by decide +kernel
theorem zd_Mo_code_36 : decode zc_Mo_code 36 = .ok (.invokestatic 79, 3) := by decide +kernel
theorem zd_Mo_code_39 : decode zc_Mo_code 39 = .ok (.ifCond .eq 18, 3) := by decide +kernel
theorem zd_Mo_code_42 : decode zc_Mo_code 42 = .ok (.iload 5, 2) := by decide +kernel
theorem zd_Mo_code_44 : decode zc_Mo_code 44 = .ok (.iconst 0, 1) := by decide +kernel
theorem zd_Mo_code_45 : decode zc_Mo_code 45 = .ok (.bipush 7, 2) := by decide +kernel
theorem zd_Mo_code_47 : decode zc_Mo_code 47 = .ok (.invokestatic 79, 3) := by decide +kernel
theorem zd_Mo_code_50 : decode zc_Mo_code 50 = .ok (.ifCond .eq 7, 3) := by decide +kernel
theorem zd_Mo_code_53 : decode zc_Mo_code 53 = .ok (.iconst 1, 1) := by decide +kernel
theorem zd_Mo_code_54 : decode zc_Mo_code 54 = .ok (.goto 4, 3) := by decide +kernel
theorem zd_Mo_code_57 : decode zc_Mo_code 57 = .ok (.iconst 0, 1) := by decide +kernel
theorem zd_Mo_code_58 : decode zc_Mo_code 58 = .ok (.invokevirtual 87, 3) := by decide +kernel
theorem zd_Mo_code_61 : decode zc_Mo_code 61 = .ok (.ifCond .eq 4, 3) := by decide +kernel
theorem zd_Mo_code_64 : decode zc_Mo_code 64 = .ok (.return_, 1) := by decide +kernel
theorem zd_Mo_code_65 : decode zc_Mo_code 65 = .ok (.iconst 0, 1) := by decide +kernel
theorem zd_Mo_code_66 : decode zc_Mo_code 66 = .ok (.istore 7, 2) := by decide +kernel
theorem zd_Mo_code_68 : decode zc_Mo_code 68 = .ok (.iload 7, 2) := by decide +kernel
theorem zd_Mo_code_70 : decode zc_Mo_code 70 = .ok (.iload_n 1, 1) := by decide +kernel
theorem zd_Mo_code_71 : decode zc_Mo_code 71 = .ok (.if_icmp .gt 37, 3) := by decide +kernel
theorem zd_Mo_code_74 : decode zc_Mo_code 74 = .ok (.aload_n 0, 1) := by decide +kernel
theorem zd_Mo_code_75 : decode zc_Mo_code 75 = .ok (.getfield 67, 3) := by decide +kernel
theorem zd_Mo_code_78 : decode zc_Mo_code 78 = .ok (.iload 7, 2) := by decide +kernel
theorem zd_Mo_code_80 : decode zc_Mo_code 80 = .ok (.baload, 1) := by decide +kernel
theorem zd_Mo_code_81 : decode zc_Mo_code 81 = .ok (.ifCond .eq 21, 3) := by decide +kernel
theorem zd_Mo_code_84 : decode zc_Mo_code 84 = .ok (.aload_n 0, 1) := by decide +kernel
theorem zd_Mo_code_85 : decode zc_Mo_code 85 = .ok (.iload 7, 2) := by decide +kernel
theorem zd_Mo_code_87 : decode zc_Mo_code 87 = .ok (.invokevirtual 91, 3) := by decide +kernel
theorem zd_Mo_code_90 : decode zc_Mo_code 90 = .ok (.iload_n 1, 1) := by decide +kernel
theorem zd_Mo_code_91 : decode zc_Mo_code 91 = .ok (.if_icmp .lt 11, 3) := by decide +kernel
theorem zd_Mo_code_94 : decode zc_Mo_code 94 = .ok (.aload_n 0, 1) := by decide +kernel
theorem zd_Mo_code_95 : decode zc_Mo_code 95 = .ok (.getfield 67, 3) := by decide +kernel
theorem zd_Mo_code_98 : decode zc_Mo_code 98 = .ok (.iload 7, 2) := by decide +kernel
theorem zd_Mo_code_100 : decode zc_Mo_code 100 = .ok (.iconst 0, 1) := by decide +kernel
theorem zd_Mo_code_101 : decode zc_Mo_code 101 = .ok (.bastore, 1) := by decide +kernel
theorem zd_Mo_code_102 : decode zc_Mo_code 102 = .ok (.iinc 7 1, 3) := by decide +kernel
theorem zd_Mo_code_105 : decode zc_Mo_code 105 = .ok (.goto (-37), 3) := by decide +kernel
theorem zd_Mo_code_108 : decode zc_Mo_code 108 = .ok (.aload_n 0, 1) := by decide +kernel
theorem zd_Mo_code_109 : decode zc_Mo_code 109 = .ok (.getfield 7, 3) := by decide +kernel
theorem zd_Mo_code_112 : decode zc_Mo_code 112 = .ok (.iload_n 1, 1) := by decide +kernel
theorem zd_Mo_code_113 : decode zc_Mo_code 113 = .ok (.iload_n 2, 1) := by decide +kernel
theorem zd_Mo_code_114 : decode zc_Mo_code 114 = .ok (.iastore, 1) := by decide +kernel
theorem zd_Mo_code_115 : decode zc_Mo_code 115 = .ok (.aload_n 0, 1) := by decide +kernel
theorem zd_Mo_code_116 : decode zc_Mo_code 116 = .ok (.getfield 13, 3) := by decide +kernel
theorem zd_Mo_code_119 : decode zc_Mo_code 119 = .ok (.iload_n 1, 1) := by decide +kernel
theorem zd_Mo_code_120 : decode zc_Mo_code 120 = .ok (.iload_n 3, 1) := by decide +kernel
theorem zd_Mo_code_121 : decode zc_Mo_code 121 = .ok (.iastore, 1) := by decide +kernel
theorem zd_Mo_code_122 : decode zc_Mo_code 122 = .ok (.aload_n 0, 1) := by decide +kernel
theorem zd_Mo_code_123 : decode zc_Mo_code 123 = .ok (.getfield 16, 3) := by decide +kernel
theorem zd_Mo_code_126 : decode zc_Mo_code 126 = .ok (.iload_n 1, 1) := by decide +kernel
theorem zd_Mo_code_127 : decode zc_Mo_code 127 = .ok (.iload 4, 2) := by decide +kernel
theorem zd_Mo_code_129 : decode zc_Mo_code 129 = .ok (.iastore, 1) := by decide +kernel
theorem zd_Mo_code_130 : decode zc_Mo_code 130 = .ok (.aload_n 0, 1) := by decide +kernel
theorem zd_Mo_code_131 : decode zc_Mo_code 131 = .ok (.getfield 19, 3) := by decide +kernel
theorem zd_Mo_code_134 : decode zc_Mo_code 134 = .ok (.iload_n 1, 1) := by decide +kernel
theorem zd_Mo_code_135 : decode zc_Mo_code 135 = .ok (.iload 5, 2) := by decide +kernel
theorem zd_Mo_code_137 : decode zc_Mo_code 137 = .ok (.iastore, 1) := by decide +kernel
theorem zd_Mo_code_138 : decode zc_Mo_code 138 = .ok (.aload_n 0, 1) := by decide +kernel
theorem zd_Mo_code_139 : decode zc_Mo_code 139 = .ok (.getfield 22, 3) := by decide +kernel
theorem zd_Mo_code_142 : decode zc_Mo_code 142 = .ok (.iload_n 1, 1) := by decide +kernel
theorem zd_Mo_code_143 : decode zc_Mo_code 143 = .ok (.iload 6, 2) := by decide +kernel
theorem zd_Mo_code_145 : decode zc_Mo_code 145 = .ok (.iastore, 1) := by decide +kernel
theorem zd_Mo_code_146 : decode zc_Mo_code 146 = .ok (.return_, 1) := by decide +kernel
theorem zd_Mo_put_0 : decode zc_Mo_put 0 = .ok (.iload_n 1, 1) := by decide +kernel
theorem zd_Mo_put_1 : decode zc_Mo_put 1 = .ok (.ifCond .ne 4, 3) := by decide +kernel
theorem zd_Mo_put_4 : decode zc_Mo_put 4 = .ok (.return_, 1) := by decide +kernel
theorem zd_Mo_put_5 : decode zc_Mo_put 5 = .ok (.aload_n 0, 1) := by decide +kernel
theorem zd_Mo_put_6 : decode zc_Mo_put 6 = .ok (.getfield 34, 3) := by decide +kernel
theorem zd_Mo_put_9 : decode zc_Mo_put 9 = .ok (.iload_n 1, 1) := by decide +kernel
theorem zd_Mo_put_10 : decode zc_Mo_put 10 = .ok (.iload_n 2, 1) := by decide +kernel
theorem zd_Mo_put_11 : decode zc_Mo_put 11 = .ok (.iastore, 1) := by decide +kernel
theorem zd_Mo_put_12 : decode zc_Mo_put 12 = .ok (.aload_n 0, 1) := by decide +kernel
theorem zd_Mo_put_13 : decode zc_Mo_put 13 = .ok (.getfield 37, 3) := by decide +kernel
theorem zd_Mo_put_16 : decode zc_Mo_put 16 = .ok (.iload_n 1, 1) := by decide +kernel
theorem zd_Mo_put_17 : decode zc_Mo_put 17 = .ok (.iload_n 3, 1) := by decide +kernel
theorem zd_Mo_put_18 : decode zc_Mo_put 18 = .ok (.iastore, 1) := by decide +kernel
theorem zd_Mo_put_19 : decode zc_Mo_put 19 = .ok (.return_, 1) := by decide +kernel
theorem zd_Mo_start_0 : decode zc_Mo_start 0 = .ok (.aload_n 0, 1) := by decide +kernel
theorem zd_Mo_start_1 : decode zc_Mo_start 1 = .ok (.iload_n 1, 1) := by decide +kernel
theorem zd_Mo_start_2 : decode zc_Mo_start 2 = .ok (.iconst 0, 1) := by decide +kernel
theorem zd_Mo_start_3 : decode zc_Mo_start 3 = .ok (.bipush 31, 2) := by decide +kernel
theorem zd_Mo_start_5 : decode zc_Mo_start 5 = .ok (.invokestatic 79, 3) := by decide +kernel
theorem zd_Mo_start_8 : decode zc_Mo_start 8 = .ok (.invokevirtual 87, 3) := by decide +kernel
theorem zd_Mo_start_11 : decode zc_Mo_start 11 = .ok (.ifCond .eq 4, 3) := by decide +kernel
theorem zd_Mo_start_14 : decode zc_Mo_start 14 = .ok (.return_, 1) := by decide +kernel
theorem zd_Mo_start_15 : decode zc_Mo_start 15 = .ok (.aload_n 0, 1) := by decide +kernel
theorem zd_Mo_start_16 : decode zc_Mo_start 16 = .ok (.iload_n 1, 1) := by decide +kernel
theorem zd_Mo_start_17 : decode zc_Mo_start 17 = .ok (.putfield 95, 3) := by decide +kernel
theorem zd_Mo_start_20 : decode zc_Mo_start 20 = .ok (.aload_n 0, 1) := by decide +kernel
theorem zd_Mo_start_21 : decode zc_Mo_start 21 = .ok (.iconst 0, 1) := by decide +kernel
theorem zd_Mo_start_22 : decode zc_Mo_start 22 = .ok (.putfield 71, 3) := by decide +kernel
theorem zd_Mo_start_25 : decode zc_Mo_start 25 = .ok (.iconst 0, 1) := by decide +kernel
theorem zd_Mo_start_26 : decode zc_Mo_start 26 = .ok (.istore_n 2, 1) := by decide +kernel
theorem zd_Mo_start_27 : decode zc_Mo_start 27 = .ok (.iload_n 2, 1) := by decide +kernel
theorem zd_Mo_start_28 : decode zc_Mo_start 28 = .ok (.bipush 8, 2) := by decide +kernel
theorem zd_Mo_start_30 : decode zc_Mo_start 30 = .ok (.if_icmp .ge 17, 3) := by decide +kernel
theorem zd_Mo_start_33 : decode zc_Mo_start 33 = .ok (.aload_n 0, 1) := by decide +kernel
theorem zd_Mo_start_34 : decode zc_Mo_start 34 = .ok (.iload_n 2, 1) := by decide +kernel
theorem zd_Mo_start_35 : decode zc_Mo_start 35 = .ok (.iconst 0, 1) := by decide +kernel
theorem zd_Mo_start_36 : decode zc_Mo_start 36 = .ok (.bipush 15, 2) := by decide +kernel
theorem zd_Mo_start_38 : decode zc_Mo_start 38 = .ok (.invokevirtual 98, 3) := by decide +kernel
theorem zd_Mo_start_41 : decode zc_Mo_start 41 = .ok (.iinc 2 1, 3) := by decide +kernel
theorem zd_Mo_start_44 : decode zc_Mo_start 44 = .ok (.goto (-17), 3) := by decide +kernel
theorem zd_Mo_start_47 : decode zc_Mo_start 47 = .ok (.return_, 1) := by decide +kernel
theorem zd_Mo_note_0 : decode zc_Mo_note 0 = .ok (.iconst 0, 1) := by decide +kernel
theorem zd_Mo_note_1 : decode zc_Mo_note 1 = .ok (.istore_n 3, 1) := by decide +kernel
theorem zd_Mo_note_2 : decode zc_Mo_note 2 = .ok (.iload_n 3, 1) := by decide +kernel
theorem zd_Mo_note_3 : decode zc_Mo_note 3 = .ok (.aload_n 0, 1) := by decide +kernel
theorem zd_Mo_note_4 : decode zc_Mo_note 4 = .ok (.getfield 102, 3) := by decide +kernel
theorem zd_Mo_note_7 : decode zc_Mo_note 7 = .ok (.if_icmp .ge 46, 3) := by decide +kernel
theorem zd_Mo_note_10 : decode zc_Mo_note 10 = .ok (.aload_n 0, 1) := by decide +kernel
theorem zd_Mo_note_11 : decode zc_Mo_note 11 = .ok (.getfield 55, 3) := by decide +kernel
theorem zd_Mo_note_14 : decode zc_Mo_note 14 = .ok (.iload_n 3, 1) := by decide +kernel
theorem zd_Mo_note_15 : decode zc_Mo_note 15 = .ok (.iaload, 1) := by decide +kernel
theorem zd_Mo_note_16 : decode zc_Mo_note 16 = .ok (.iload_n 1, 1) := by decide +kernel
theorem zd_Mo_note_17 : decode zc_Mo_note 17 = .ok (.if_icmp .ne 30, 3) := by decide +kernel
theorem zd_Mo_note_20 : decode zc_Mo_note 20 = .ok (.aload_n 0, 1) := by decide +kernel
theorem zd_Mo_note_21 : decode zc_Mo_note 21 = .ok (.getfield 58, 3) := by decide +kernel
theorem zd_Mo_note_24 : decode zc_Mo_note 24 = .ok (.iload_n 3, 1) := by decide +kernel
theorem zd_Mo_note_25 : decode zc_Mo_note 25 = .ok (.iaload, 1) := by decide +kernel
theorem zd_Mo_note_26 : decode zc_Mo_note 26 = .ok (.aload_n 0, 1) := by decide +kernel
theorem zd_Mo_note_27 : decode zc_Mo_note 27 = .ok (.getfield 95, 3) := by decide +kernel
theorem zd_Mo_note_30 : decode zc_Mo_note 30 = .ok (.if_icmp .eq 6, 3) := by decide +kernel
theorem zd_Mo_note_33 : decode zc_Mo_note 33 = .ok (.goto 14, 3) := by decide +kernel
theorem zd_Mo_note_36 : decode zc_Mo_note 36 = .ok (.aload_n 0, 1) := by decide +kernel
theorem zd_Mo_note_37 : decode zc_Mo_note 37 = .ok (.getfield 64, 3) := by decide +kernel
theorem zd_Mo_note_40 : decode zc_Mo_note 40 = .ok (.iload_n 3, 1) := by decide +kernel
theorem zd_Mo_note_41 : decode zc_Mo_note 41 = .ok (.dup2, 1) := by decide +kernel
theorem zd_Mo_note_42 : decode zc_Mo_note 42 = .ok (.iaload, 1) := by decide +kernel
theorem zd_Mo_note_43 : decode zc_Mo_note 43 = .ok (.iconst 1, 1) := by decide +kernel
theorem zd_Mo_note_44 : decode zc_Mo_note 44 = .ok (.iadd, 1) := by decide +kernel
theorem zd_Mo_note_45 : decode zc_Mo_note 45 = .ok (.iastore, 1) := by decide +kernel
theorem zd_Mo_note_46 : decode zc_Mo_note 46 = .ok (.return_, 1) := by decide +kernel
theorem zd_Mo_note_47 : decode zc_Mo_note 47 = .ok (.iinc 3 1, 3) := by decide +kernel
theorem zd_Mo_note_50 : decode zc_Mo_note 50 = .ok (.goto (-48), 3) := by decide +kernel
theorem zd_Mo_note_53 : decode zc_Mo_note 53 = .ok (.aload_n 0, 1) := by decide +kernel
theorem zd_Mo_note_54 : decode zc_Mo_note 54 = .ok (.getfield 102, 3) := by decide +kernel
theorem zd_Mo_note_57 : decode zc_Mo_note 57 = .ok (.bipush 24, 2) := by decide +kernel
theorem zd_Mo_note_59 : decode zc_Mo_note 59 = .ok (.if_icmp .ne 4, 3) := by decide +kernel
theorem zd_Mo_note_62 : decode zc_Mo_note 62 = .ok (.return_, 1) := by decide +kernel
theorem zd_Mo_note_63 : decode zc_Mo_note 63 = .ok (.aload_n 0, 1) := by decide +kernel
theorem zd_Mo_note_64 : decode zc_Mo_note 64 = .ok (.getfield 55, 3) := by decide +kernel
theorem zd_Mo_note_67 : decode zc_Mo_note 67 = .ok (.aload_n 0, 1) := by decide +kernel
theorem zd_Mo_note_68 : decode zc_Mo_note 68 = .ok (.getfield 102, 3) := by decide +kernel
theorem zd_Mo_note_71 : decode zc_Mo_note 71 = .ok (.iload_n 1, 1) := by decide +kernel
theorem zd_Mo_note_72 : decode zc_Mo_note 72 = .ok (.iastore, 1) := by decide +kernel
theorem zd_Mo_note_73 : decode zc_Mo_note 73 = .ok (.aload_n 0, 1) := by decide +kernel
theorem zd_Mo_note_74 : decode zc_Mo_note 74 = .ok (.getfield 58, 3) := by decide +kernel
theorem zd_Mo_note_77 : decode zc_Mo_note 77 = .ok (.aload_n 0, 1) := by decide +kernel
theorem zd_Mo_note_78 : decode zc_Mo_note 78 = .ok (.getfield 102, 3) := by decide +kernel
theorem zd_Mo_note_81 : decode zc_Mo_note 81 = .ok (.aload_n 0, 1) := by decide +kernel
theorem zd_Mo_note_82 : decode zc_Mo_note 82 = .ok (.getfield 95, 3) := by decide +kernel
theorem zd_Mo_note_85 : decode zc_Mo_note 85 = .ok (.iastore, 1) := by decide +kernel
theorem zd_Mo_note_86 : decode zc_Mo_note 86 = .ok (.aload_n 0, 1) := by decide +kernel
theorem zd_Mo_note_87 : decode zc_Mo_note 87 = .ok (.getfield 61, 3) := by decide +kernel
theorem zd_Mo_note_90 : decode zc_Mo_note 90 = .ok (.aload_n 0, 1) := by decide +kernel
theorem zd_Mo_note_91 : decode zc_Mo_note 91 = .ok (.getfield 102, 3) := by decide +kernel
theorem zd_Mo_note_94 : decode zc_Mo_note 94 = .ok (.iload_n 2, 1) := by decide +kernel
theorem zd_Mo_note_95 : decode zc_Mo_note 95 = .ok (.iastore, 1) := by decide +kernel
theorem zd_Mo_note_96 : decode zc_Mo_note 96 = .ok (.aload_n 0, 1) := by decide +kernel
theorem zd_Mo_note_97 : decode zc_Mo_note 97 = .ok (.getfield 64, 3) := by decide +kernel
theorem zd_Mo_note_100 : decode zc_Mo_note 100 = .ok (.aload_n 0, 1) := by decide +kernel
theorem zd_Mo_note_101 : decode zc_Mo_note 101 = .ok (.getfield 102, 3) := by decide +kernel
theorem zd_Mo_note_104 : decode zc_Mo_note 104 = .ok (.iconst 1, 1) := by decide +kernel
theorem zd_Mo_note_105 : decode zc_Mo_note 105 = .ok (.iastore, 1) := by decide +kernel
theorem zd_Mo_note_106 : decode zc_Mo_note 106 = .ok (.aload_n 0, 1) := by decide +kernel
theorem zd_Mo_note_107 : decode zc_Mo_note 107 = .ok (.dup, 1) := by decide +kernel
theorem zd_Mo_note_108 : decode zc_Mo_note 108 = .ok (.getfield 102, 3) := by decide +kernel
theorem zd_Mo_note_111 : decode zc_Mo_note 111 = .ok (.iconst 1, 1) := by decide +kernel
theorem zd_Mo_note_112 : decode zc_Mo_note 112 = .ok (.iadd, 1) := by decide +kernel
theorem zd_Mo_note_113 : decode zc_Mo_note 113 = .ok (.putfield 102, 3) := by decide +kernel
theorem zd_Mo_note_116 : decode zc_Mo_note 116 = .ok (.return_, 1) := by decide +kernel
theorem zd_Mo_lowest_0 : decode zc_Mo_lowest 0 = .ok (.iconst 0, 1) := by decide +kernel
theorem zd_Mo_lowest_1 : decode zc_Mo_lowest 1 = .ok (.istore_n 1, 1) := by decide +kernel
theorem zd_Mo_lowest_2 : decode zc_Mo_lowest 2 = .ok (.iconst 0, 1) := by decide +kernel
theorem zd_Mo_lowest_3 : decode zc_Mo_lowest 3 = .ok (.istore_n 2, 1) := by decide +kernel
theorem zd_Mo_lowest_4 : decode zc_Mo_lowest 4 = .ok (.iload_n 2, 1) := by decide +kernel
theorem zd_Mo_lowest_5 : decode zc_Mo_lowest 5 = .ok (.iconst 4, 1) := by decide +kernel
theorem zd_Mo_lowest_6 : decode zc_Mo_lowest 6 = .ok (.if_icmp .ge 23, 3) := by decide +kernel
theorem zd_Mo_lowest_9 : decode zc_Mo_lowest 9 = .ok (.iload_n 0, 1) := by decide +kernel
theorem zd_Mo_lowest_10 : decode zc_Mo_lowest 10 = .ok (.iload_n 2, 1) := by decide +kernel
theorem zd_Mo_lowest_11 : decode zc_Mo_lowest 11 = .ok (.ishr, 1) := by decide +kernel
theorem zd_Mo_lowest_12 : decode zc_Mo_lowest 12 = .ok (.iconst 1, 1) := by decide +kernel
theorem zd_Mo_lowest_13 : decode zc_Mo_lowest 13 = .ok (.iand, 1) := by decide +kernel
theorem zd_Mo_lowest_14 : decode zc_Mo_lowest 14 = .ok (.ifCond .eq 15, 3) := by decide +kernel
theorem zd_Mo_lowest_17 : decode zc_Mo_lowest 17 = .ok (.iload_n 1, 1) := by decide +kernel
theorem zd_Mo_lowest_18 : decode zc_Mo_lowest 18 = .ok (.iconst 1, 1) := by decide +kernel
theorem zd_Mo_lowest_19 : decode zc_Mo_lowest 19 = .ok (.iload_n 2, 1) := by decide +kernel
theorem zd_Mo_lowest_20 : decode zc_Mo_lowest 20 = .ok (.ishl, 1) := by decide +kernel
theorem zd_Mo_lowest_21 : decode zc_Mo_lowest 21 = .ok (.ior, 1) := by decide +kernel
theorem zd_Mo_lowest_22 : decode zc_Mo_lowest 22 = .ok (.istore_n 1, 1) := by decide +kernel
theorem zd_Mo_lowest_23 : decode zc_Mo_lowest 23 = .ok (.iinc 2 1, 3) := by decide +kernel
theorem zd_Mo_lowest_26 : decode zc_Mo_lowest 26 = .ok (.goto (-22), 3) := by decide +kernel
theorem zd_Mo_lowest_29 : decode zc_Mo_lowest 29 = .ok (.iload_n 1, 1) := by decide +kernel
theorem zd_Mo_lowest_30 : decode zc_Mo_lowest 30 = .ok (.ireturn, 1) := by decide +kernel
theorem zd_Mo_bytes_0 : decode zc_Mo_bytes 0 = .ok (.iconst 0, 1) := by decide +kernel
theorem zd_Mo_bytes_1 : decode zc_Mo_bytes 1 = .ok (.istore_n 2, 1) := by decide +kernel
theorem zd_Mo_bytes_2 : decode zc_Mo_bytes 2 = .ok (.iconst 0, 1) := by decide +kernel
theorem zd_Mo_bytes_3 : decode zc_Mo_bytes 3 = .ok (.istore_n 3, 1) := by decide +kernel
theorem zd_Mo_bytes_4 : decode zc_Mo_bytes 4 = .ok (.iload_n 3, 1) := by decide +kernel
theorem zd_Mo_bytes_5 : decode zc_Mo_bytes 5 = .ok (.iconst 4, 1) := by decide +kernel
theorem zd_Mo_bytes_6 : decode zc_Mo_bytes 6 = .ok (.if_icmp .ge 29, 3) := by decide +kernel
theorem zd_Mo_bytes_9 : decode zc_Mo_bytes 9 = .ok (.iload_n 0, 1) := by decide +kernel
theorem zd_Mo_bytes_10 : decode zc_Mo_bytes 10 = .ok (.bipush 8, 2) := by decide +kernel
theorem zd_Mo_bytes_12 : decode zc_Mo_bytes 12 = .ok (.iload_n 3, 1) := by decide +kernel
theorem zd_Mo_bytes_13 : decode zc_Mo_bytes 13 = .ok (.imul, 1) := by decide +kernel
theorem zd_Mo_bytes_14 : decode zc_Mo_bytes 14 = .ok (.ishr, 1) := by decide +kernel
theorem zd_Mo_bytes_15 : decode zc_Mo_bytes 15 = .ok (.sipush 255, 3) := by decide +kernel
theorem zd_Mo_bytes_18 : decode zc_Mo_bytes 18 = .ok (.iand, 1) := by decide +kernel
theorem zd_Mo_bytes_19 : decode zc_Mo_bytes 19 = .ok (.iload_n 1, 1) := by decide +kernel
theorem zd_Mo_bytes_20 : decode zc_Mo_bytes 20 = .ok (.if_icmp .ne 9, 3) := by decide +kernel
theorem zd_Mo_bytes_23 : decode zc_Mo_bytes 23 = .ok (.iload_n 2, 1) := by decide +kernel
theorem zd_Mo_bytes_24 : decode zc_Mo_bytes 24 = .ok (.iconst 1, 1) := by decide +kernel
theorem zd_Mo_bytes_25 : decode zc_Mo_bytes 25 = .ok (.iload_n 3, 1) := by decide +kernel
theorem zd_Mo_bytes_26 : decode zc_Mo_bytes 26 = .ok (.ishl, 1) := by decide +kernel
theorem zd_Mo_bytes_27 : decode zc_Mo_bytes 27 = .ok (.ior, 1) := by decide +kernel
theorem zd_Mo_bytes_28 : decode zc_Mo_bytes 28 = .ok (.istore_n 2, 1) := by decide +kernel
theorem zd_Mo_bytes_29 : decode zc_Mo_bytes 29 = .ok (.iinc 3 1, 3) := by decide +kernel
theorem zd_Mo_bytes_32 : decode zc_Mo_bytes 32 = .ok (.goto (-28), 3) := by decide +kernel
theorem zd_Mo_bytes_35 : decode zc_Mo_bytes 35 = .ok (.iload_n 2, 1) := by decide +kernel
theorem zd_Mo_bytes_36 : decode zc_Mo_bytes 36 = .ok (.ireturn, 1) := by decide +kernel
theorem zd_Mo_compute_0 : decode zc_Mo_compute 0 = .ok (.aload_n 0, 1) := by decide +kernel
theorem zd_Mo_compute_1 : decode zc_Mo_compute 1 = .ok (.getfield 34, 3) := by decide +kernel
theorem zd_Mo_compute_4 : decode zc_Mo_compute 4 = .ok (.aload_n 0, 1) := by decide +kernel
theorem zd_Mo_compute_5 : decode zc_Mo_compute 5 = .ok (.getfield 16, 3) := by decide +kernel
theorem zd_Mo_compute_8 : decode zc_Mo_compute 8 = .ok (.iload_n 2, 1) := by decide +kernel
theorem zd_Mo_compute_9 : decode zc_Mo_compute 9 = .ok (.iaload, 1) := by decide +kernel
theorem zd_Mo_compute_10 : decode zc_Mo_compute 10 = .ok (.iaload, 1) := by decide +kernel
theorem zd_Mo_compute_11 : decode zc_Mo_compute 11 = .ok (.istore_n 3, 1) := by decide +kernel
theorem zd_Mo_compute_12 : decode zc_Mo_compute 12 = .ok (.aload_n 0, 1) := by decide +kernel
theorem zd_Mo_compute_13 : decode zc_Mo_compute 13 = .ok (.getfield 34, 3) := by decide +kernel
theorem zd_Mo_compute_16 : decode zc_Mo_compute 16 = .ok (.aload_n 0, 1) := by decide +kernel
theorem zd_Mo_compute_17 : decode zc_Mo_compute 17 = .ok (.getfield 19, 3) := by decide +kernel
theorem zd_Mo_compute_20 : decode zc_Mo_compute 20 = .ok (.iload_n 2, 1) := by decide +kernel
theorem zd_Mo_compute_21 : decode zc_Mo_compute 21 = .ok (.iaload, 1) := by decide +kernel
theorem zd_Mo_compute_22 : decode zc_Mo_compute 22 = .ok (.iaload, 1) := by decide +kernel
theorem zd_Mo_compute_23 : decode zc_Mo_compute 23 = .ok (.istore 4, 2) := by decide +kernel
theorem zd_Mo_compute_25 : decode zc_Mo_compute 25 = .ok (.aload_n 0, 1) := by decide +kernel
theorem zd_Mo_compute_26 : decode zc_Mo_compute 26 = .ok (.getfield 37, 3) := by decide +kernel
theorem zd_Mo_compute_29 : decode zc_Mo_compute 29 = .ok (.aload_n 0, 1) := by decide +kernel
theorem zd_Mo_compute_30 : decode zc_Mo_compute 30 = .ok (.getfield 16, 3) := by decide +kernel
theorem zd_Mo_compute_33 : decode zc_Mo_compute 33 = .ok (.iload_n 2, 1) := by decide +kernel
theorem zd_Mo_compute_34 : decode zc_Mo_compute 34 = .ok (.iaload, 1) := by decide +kernel
theorem zd_Mo_compute_35 : decode zc_Mo_compute 35 = .ok (.iaload, 1) := by decide +kernel
theorem zd_Mo_compute_36 : decode zc_Mo_compute 36 = .ok (.istore 5, 2) := by decide +kernel
theorem zd_Mo_compute_38 : decode zc_Mo_compute 38 = .ok (.aload_n 0, 1) := by decide +kernel
theorem zd_Mo_compute_39 : decode zc_Mo_compute 39 = .ok (.getfield 37, 3) := by decide +kernel
theorem zd_Mo_compute_42 : decode zc_Mo_compute 42 = .ok (.aload_n 0, 1) := by decide +kernel
theorem zd_Mo_compute_43 : decode zc_Mo_compute 43 = .ok (.getfield 19, 3) := by decide +kernel
theorem zd_Mo_compute_46 : decode zc_Mo_compute 46 = .ok (.iload_n 2, 1) := by decide +kernel
theorem zd_Mo_compute_47 : decode zc_Mo_compute 47 = .ok (.iaload, 1) := by decide +kernel
theorem zd_Mo_compute_48 : decode zc_Mo_compute 48 = .ok (.iaload, 1) := by decide +kernel
theorem zd_Mo_compute_49 : decode zc_Mo_compute 49 = .ok (.istore 6, 2) := by decide +kernel
theorem zd_Mo_compute_51 : decode zc_Mo_compute 51 = .ok (.iload 5, 2) := by decide +kernel
theorem zd_Mo_compute_53 : decode zc_Mo_compute 53 = .ok (.iload 6, 2) := by decide +kernel
theorem zd_Mo_compute_55 : decode zc_Mo_compute 55 = .ok (.iand, 1) := by decide +kernel
theorem zd_Mo_compute_56 : decode zc_Mo_compute 56 = .ok (.istore 7, 2) := by decide +kernel
theorem zd_Mo_compute_58 : decode zc_Mo_compute 58 = .ok (.iload_n 1, 1) := by decide +kernel
theorem zd_Mo_compute_59 : decode zc_Mo_compute 59 = .ok (.iconst 1, 1) := by decide +kernel
theorem zd_Mo_compute_60 : decode zc_Mo_compute 60 = .ok (.if_icmp .ne 21, 3) := by decide +kernel
theorem zd_Mo_compute_63 : decode zc_Mo_compute 63 = .ok (.aload_n 0, 1) := by decide +kernel
theorem zd_Mo_compute_64 : decode zc_Mo_compute 64 = .ok (.aload_n 0, 1) := by decide +kernel
theorem zd_Mo_compute_65 : decode zc_Mo_compute 65 = .ok (.getfield 13, 3) := by decide +kernel
theorem zd_Mo_compute_68 : decode zc_Mo_compute 68 = .ok (.iload_n 2, 1) := by decide +kernel
theorem zd_Mo_compute_69 : decode zc_Mo_compute 69 = .ok (.iaload, 1) := by decide +kernel
theorem zd_Mo_compute_70 : decode zc_Mo_compute 70 = .ok (.aload_n 0, 1) := by decide +kernel
theorem zd_Mo_compute_71 : decode zc_Mo_compute 71 = .ok (.getfield 22, 3) := by decide +kernel
theorem zd_Mo_compute_74 : decode zc_Mo_compute 74 = .ok (.iload_n 2, 1) := by decide +kernel
theorem zd_Mo_compute_75 : decode zc_Mo_compute 75 = .ok (.iaload, 1) := by decide +kernel
theorem zd_Mo_compute_76 : decode zc_Mo_compute 76 = .ok (.bipush 15, 2) := by decide +kernel
theorem zd_Mo_compute_78 : decode zc_Mo_compute 78 = .ok (.invokevirtual 98, 3) := by decide +kernel
theorem zd_Mo_compute_81 : decode zc_Mo_compute 81 = .ok (.iload_n 1, 1) := by decide +kernel
theorem zd_Mo_compute_82 : decode zc_Mo_compute 82 = .ok (.iconst 2, 1) := by decide +kernel
theorem zd_Mo_compute_83 : decode zc_Mo_compute 83 = .ok (.if_icmp .ne 26, 3) := by decide +kernel
theorem zd_Mo_compute_86 : decode zc_Mo_compute 86 = .ok (.aload_n 0, 1) := by decide +kernel
theorem zd_Mo_compute_87 : decode zc_Mo_compute 87 = .ok (.aload_n 0, 1) := by decide +kernel
theorem zd_Mo_compute_88 : decode zc_Mo_compute 88 = .ok (.getfield 13, 3) := by decide +kernel
theorem zd_Mo_compute_91 : decode zc_Mo_compute 91 = .ok (.iload_n 2, 1) := by decide +kernel
theorem zd_Mo_compute_92 : decode zc_Mo_compute 92 = .ok (.iaload, 1) := by decide +kernel
theorem zd_Mo_compute_93 : decode zc_Mo_compute 93 = .ok (.iload_n 3, 1) := by decide +kernel
theorem zd_Mo_compute_94 : decode zc_Mo_compute 94 = .ok (.aload_n 0, 1) := by decide +kernel
theorem zd_Mo_compute_95 : decode zc_Mo_compute 95 = .ok (.getfield 22, 3) := by decide +kernel
theorem zd_Mo_compute_98 : decode zc_Mo_compute 98 = .ok (.iload_n 2, 1) := by decide +kernel
theorem zd_Mo_compute_99 : decode zc_Mo_compute 99 = .ok (.iaload, 1) := by decide +kernel
theorem zd_Mo_compute_100 : decode zc_Mo_compute 100 = .ok (.iadd, 1) := by decide +kernel
theorem zd_Mo_compute_101 : decode zc_Mo_compute 101 = .ok (.iload 5, 2) := by decide +kernel
theorem zd_Mo_compute_103 : decode zc_Mo_compute 103 = .ok (.invokestatic 105, 3) := by decide +kernel
theorem zd_Mo_compute_106 : decode zc_Mo_compute 106 = .ok (.invokevirtual 98, 3) := by decide +kernel
theorem zd_Mo_compute_109 : decode zc_Mo_compute 109 = .ok (.iload_n 1, 1) := by decide +kernel
theorem zd_Mo_compute_110 : decode zc_Mo_compute 110 = .ok (.iconst 3, 1) := by decide +kernel
theorem zd_Mo_compute_111 : decode zc_Mo_compute 111 = .ok (.if_icmp .ne 22, 3) := by decide +kernel
theorem zd_Mo_compute_114 : decode zc_Mo_compute 114 = .ok (.aload_n 0, 1) := by decide +kernel
theorem zd_Mo_compute_115 : decode zc_Mo_compute 115 = .ok (.aload_n 0, 1) := by decide +kernel
theorem zd_Mo_compute_116 : decode zc_Mo_compute 116 = .ok (.getfield 13, 3) := by decide +kernel
theorem zd_Mo_compute_119 : decode zc_Mo_compute 119 = .ok (.iload_n 2, 1) := by decide +kernel
theorem zd_Mo_compute_120 : decode zc_Mo_compute 120 = .ok (.iaload, 1) := by decide +kernel
theorem zd_Mo_compute_121 : decode zc_Mo_compute 121 = .ok (.iload_n 3, 1) := by decide +kernel
theorem zd_Mo_compute_122 : decode zc_Mo_compute 122 = .ok (.iload 4, 2) := by decide +kernel
theorem zd_Mo_compute_124 : decode zc_Mo_compute 124 = .ok (.iadd, 1) := by decide +kernel
theorem zd_Mo_compute_125 : decode zc_Mo_compute 125 = .ok (.iload 7, 2) := by decide +kernel
theorem zd_Mo_compute_127 : decode zc_Mo_compute 127 = .ok (.invokestatic 105, 3) := by decide +kernel
theorem zd_Mo_compute_130 : decode zc_Mo_compute 130 = .ok (.invokevirtual 98, 3) := by decide +kernel
theorem zd_Mo_compute_133 : decode zc_Mo_compute 133 = .ok (.iload_n 1, 1) := by decide +kernel
theorem zd_Mo_compute_134 : decode zc_Mo_compute 134 = .ok (.iconst 4, 1) := by decide +kernel
theorem zd_Mo_compute_135 : decode zc_Mo_compute 135 = .ok (.if_icmp .ne 22, 3) := by decide +kernel
theorem zd_Mo_compute_138 : decode zc_Mo_compute 138 = .ok (.aload_n 0, 1) := by decide +kernel
theorem zd_Mo_compute_139 : decode zc_Mo_compute 139 = .ok (.aload_n 0, 1) := by decide +kernel
theorem zd_Mo_compute_140 : decode zc_Mo_compute 140 = .ok (.getfield 13, 3) := by decide +kernel
theorem zd_Mo_compute_143 : decode zc_Mo_compute 143 = .ok (.iload_n 2, 1) := by decide +kernel
theorem zd_Mo_compute_144 : decode zc_Mo_compute 144 = .ok (.iaload, 1) := by decide +kernel
theorem zd_Mo_compute_145 : decode zc_Mo_compute 145 = .ok (.iload_n 3, 1) := by decide +kernel
theorem zd_Mo_compute_146 : decode zc_Mo_compute 146 = .ok (.iload 4, 2) := by decide +kernel
theorem zd_Mo_compute_148 : decode zc_Mo_compute 148 = .ok (.isub, 1) := by decide +kernel
theorem zd_Mo_compute_149 : decode zc_Mo_compute 149 = .ok (.iload 7, 2) := by decide +kernel
theorem zd_Mo_compute_151 : decode zc_Mo_compute 151 = .ok (.invokestatic 105, 3) := by decide +kernel
theorem zd_Mo_compute_154 : decode zc_Mo_compute 154 = .ok (.invokevirtual 98, 3) := by decide +kernel
theorem zd_Mo_compute_157 : decode zc_Mo_compute 157 = .ok (.iload_n 1, 1) := by decide +kernel
theorem zd_Mo_compute_158 : decode zc_Mo_compute 158 = .ok (.iconst 5, 1) := by decide +kernel
theorem zd_Mo_compute_159 : decode zc_Mo_compute 159 = .ok (.if_icmp .ne 22, 3) := by decide +kernel
theorem zd_Mo_compute_162 : decode zc_Mo_compute 162 = .ok (.aload_n 0, 1) := by decide +kernel
theorem zd_Mo_compute_163 : decode zc_Mo_compute 163 = .ok (.aload_n 0, 1) := by decide +kernel
theorem zd_Mo_compute_164 : decode zc_Mo_compute 164 = .ok (.getfield 13, 3) := by decide +kernel
theorem zd_Mo_compute_167 : decode zc_Mo_compute 167 = .ok (.iload_n 2, 1) := by decide +kernel
theorem zd_Mo_compute_168 : decode zc_Mo_compute 168 = .ok (.iaload, 1) := by decide +kernel
theorem zd_Mo_compute_169 : decode zc_Mo_compute 169 = .ok (.iload_n 3, 1) := by decide +kernel
theorem zd_Mo_compute_170 : decode zc_Mo_compute 170 = .ok (.iload 4, 2) := by decide +kernel
theorem zd_Mo_compute_172 : decode zc_Mo_compute 172 = .ok (.imul, 1) := by decide +kernel
theorem zd_Mo_compute_173 : decode zc_Mo_compute 173 = .ok (.iload 7, 2) := by decide +kernel
theorem zd_Mo_compute_175 : decode zc_Mo_compute 175 = .ok (.invokestatic 105, 3) := by decide +kernel
theorem zd_Mo_compute_178 : decode zc_Mo_compute 178 = .ok (.invokevirtual 98, 3) := by decide +kernel
theorem zd_Mo_compute_181 : decode zc_Mo_compute 181 = .ok (.iload_n 1, 1) := by decide +kernel
theorem zd_Mo_compute_182 : decode zc_Mo_compute 182 = .ok (.bipush 6, 2) := by decide +kernel
theorem zd_Mo_compute_184 : decode zc_Mo_compute 184 = .ok (.if_icmp .ne 38, 3) := by decide +kernel
theorem zd_Mo_compute_187 : decode zc_Mo_compute 187 = .ok (.aload_n 0, 1) := by decide +kernel
theorem zd_Mo_compute_188 : decode zc_Mo_compute 188 = .ok (.aload_n 0, 1) := by decide +kernel
theorem zd_Mo_compute_189 : decode zc_Mo_compute 189 = .ok (.getfield 13, 3) := by decide +kernel
theorem zd_Mo_compute_192 : decode zc_Mo_compute 192 = .ok (.iload_n 2, 1) := by decide +kernel
theorem zd_Mo_compute_193 : decode zc_Mo_compute 193 = .ok (.iaload, 1) := by decide +kernel
theorem zd_Mo_compute_194 : decode zc_Mo_compute 194 = .ok (.iload_n 3, 1) := by decide +kernel
theorem zd_Mo_compute_195 : decode zc_Mo_compute 195 = .ok (.iload 4, 2) := by decide +kernel
theorem zd_Mo_compute_197 : decode zc_Mo_compute 197 = .ok (.iand, 1) := by decide +kernel
theorem zd_Mo_compute_198 : decode zc_Mo_compute 198 = .ok (.iload 7, 2) := by decide +kernel
theorem zd_Mo_compute_200 : decode zc_Mo_compute 200 = .ok (.iload 5, 2) := by decide +kernel
theorem zd_Mo_compute_202 : decode zc_Mo_compute 202 = .ok (.iload_n 3, 1) := by decide +kernel
theorem zd_Mo_compute_203 : decode zc_Mo_compute 203 = .ok (.iconst 0, 1) := by decide +kernel
theorem zd_Mo_compute_204 : decode zc_Mo_compute 204 = .ok (.invokestatic 108, 3) := by decide +kernel
theorem zd_Mo_compute_207 : decode zc_Mo_compute 207 = .ok (.iand, 1) := by decide +kernel
theorem zd_Mo_compute_208 : decode zc_Mo_compute 208 = .ok (.ior, 1) := by decide +kernel
theorem zd_Mo_compute_209 : decode zc_Mo_compute 209 = .ok (.iload 6, 2) := by decide +kernel
theorem zd_Mo_compute_211 : decode zc_Mo_compute 211 = .ok (.iload 4, 2) := by decide +kernel
theorem zd_Mo_compute_213 : decode zc_Mo_compute 213 = .ok (.iconst 0, 1) := by decide +kernel
theorem zd_Mo_compute_214 : decode zc_Mo_compute 214 = .ok (.invokestatic 108, 3) := by decide +kernel
theorem zd_Mo_compute_217 : decode zc_Mo_compute 217 = .ok (.iand, 1) := by decide +kernel
theorem zd_Mo_compute_218 : decode zc_Mo_compute 218 = .ok (.ior, 1) := by decide +kernel
theorem zd_Mo_compute_219 : decode zc_Mo_compute 219 = .ok (.invokevirtual 98, 3) := by decide +kernel
theorem zd_Mo_compute_222 : decode zc_Mo_compute 222 = .ok (.iload_n 1, 1) := by decide +kernel
theorem zd_Mo_compute_223 : decode zc_Mo_compute 223 = .ok (.bipush 7, 2) := by decide +kernel
theorem zd_Mo_compute_225 : decode zc_Mo_compute 225 = .ok (.if_icmp .ne 42, 3) := by decide +kernel
theorem zd_Mo_compute_228 : decode zc_Mo_compute 228 = .ok (.aload_n 0, 1) := by decide +kernel
theorem zd_Mo_compute_229 : decode zc_Mo_compute 229 = .ok (.aload_n 0, 1) := by decide +kernel
theorem zd_Mo_compute_230 : decode zc_Mo_compute 230 = .ok (.getfield 13, 3) := by decide +kernel
theorem zd_Mo_compute_233 : decode zc_Mo_compute 233 = .ok (.iload_n 2, 1) := by decide +kernel
theorem zd_Mo_compute_234 : decode zc_Mo_compute 234 = .ok (.iaload, 1) := by decide +kernel
theorem zd_Mo_compute_235 : decode zc_Mo_compute 235 = .ok (.iload_n 3, 1) := by decide +kernel
theorem zd_Mo_compute_236 : decode zc_Mo_compute 236 = .ok (.iload 4, 2) := by decide +kernel
theorem zd_Mo_compute_238 : decode zc_Mo_compute 238 = .ok (.ior, 1) := by decide +kernel
theorem zd_Mo_compute_239 : decode zc_Mo_compute 239 = .ok (.iload 7, 2) := by decide +kernel
theorem zd_Mo_compute_241 : decode zc_Mo_compute 241 = .ok (.iload 5, 2) := by decide +kernel
theorem zd_Mo_compute_243 : decode zc_Mo_compute 243 = .ok (.iload_n 3, 1) := by decide +kernel
theorem zd_Mo_compute_244 : decode zc_Mo_compute 244 = .ok (.sipush 255, 3) := by decide +kernel
theorem zd_Mo_compute_247 : decode zc_Mo_compute 247 = .ok (.invokestatic 108, 3) := by decide +kernel
theorem zd_Mo_compute_250 : decode zc_Mo_compute 250 = .ok (.iand, 1) := by decide +kernel
theorem zd_Mo_compute_251 : decode zc_Mo_compute 251 = .ok (.ior, 1) := by decide +kernel
theorem zd_Mo_compute_252 : decode zc_Mo_compute 252 = .ok (.iload 6, 2) := by decide +kernel
theorem zd_Mo_compute_254 : decode zc_Mo_compute 254 = .ok (.iload 4, 2) := by decide +kernel
theorem zd_Mo_compute_256 : decode zc_Mo_compute 256 = .ok (.sipush 255, 3) := by decide +kernel
theorem zd_Mo_compute_259 : decode zc_Mo_compute 259 = .ok (.invokestatic 108, 3) := by decide +kernel
theorem zd_Mo_compute_262 : decode zc_Mo_compute 262 = .ok (.iand, 1) := by decide +kernel
theorem zd_Mo_compute_263 : decode zc_Mo_compute 263 = .ok (.ior, 1) := by decide +kernel
theorem zd_Mo_compute_264 : decode zc_Mo_compute 264 = .ok (.invokevirtual 98, 3) := by decide +kernel
theorem zd_Mo_compute_267 : decode zc_Mo_compute 267 = .ok (.iload_n 1, 1) := by decide +kernel
theorem zd_Mo_compute_268 : decode zc_Mo_compute 268 = .ok (.bipush 8, 2) := by decide +kernel
theorem zd_Mo_compute_270 : decode zc_Mo_compute 270 = .ok (.if_icmp .ne 19, 3) := by decide +kernel
theorem zd_Mo_compute_273 : decode zc_Mo_compute 273 = .ok (.aload_n 0, 1) := by decide +kernel
theorem zd_Mo_compute_274 : decode zc_Mo_compute 274 = .ok (.aload_n 0, 1) := by decide +kernel
theorem zd_Mo_compute_275 : decode zc_Mo_compute 275 = .ok (.getfield 13, 3) := by decide +kernel
theorem zd_Mo_compute_278 : decode zc_Mo_compute 278 = .ok (.iload_n 2, 1) := by decide +kernel
theorem zd_Mo_compute_279 : decode zc_Mo_compute 279 = .ok (.iaload, 1) := by decide +kernel
theorem zd_Mo_compute_280 : decode zc_Mo_compute 280 = .ok (.iload_n 3, 1) := by decide +kernel
theorem zd_Mo_compute_281 : decode zc_Mo_compute 281 = .ok (.iload 4, 2) := by decide +kernel
theorem zd_Mo_compute_283 : decode zc_Mo_compute 283 = .ok (.ixor, 1) := by decide +kernel
theorem zd_Mo_compute_284 : decode zc_Mo_compute 284 = .ok (.iload 7, 2) := by decide +kernel
theorem zd_Mo_compute_286 : decode zc_Mo_compute 286 = .ok (.invokevirtual 98, 3) := by decide +kernel
theorem zd_Mo_compute_289 : decode zc_Mo_compute 289 = .ok (.return_, 1) := by decide +kernel
theorem zd_Mo_closed_0 : decode zc_Mo_closed 0 = .ok (.iconst 0, 1) := by decide +kernel
theorem zd_Mo_closed_1 : decode zc_Mo_closed 1 = .ok (.istore 4, 2) := by decide +kernel
theorem zd_Mo_closed_3 : decode zc_Mo_closed 3 = .ok (.iload 4, 2) := by decide +kernel
theorem zd_Mo_closed_5 : decode zc_Mo_closed 5 = .ok (.iload_n 3, 1) := by decide +kernel
theorem zd_Mo_closed_6 : decode zc_Mo_closed 6 = .ok (.if_icmp .ge 35, 3) := by decide +kernel
theorem zd_Mo_closed_9 : decode zc_Mo_closed 9 = .ok (.aload_n 0, 1) := by decide +kernel
theorem zd_Mo_closed_10 : decode zc_Mo_closed 10 = .ok (.getfield 28, 3) := by decide +kernel
theorem zd_Mo_closed_13 : decode zc_Mo_closed 13 = .ok (.iload_n 2, 1) := by decide +kernel
theorem zd_Mo_closed_14 : decode zc_Mo_closed 14 = .ok (.iload 4, 2) := by decide +kernel
theorem zd_Mo_closed_16 : decode zc_Mo_closed 16 = .ok (.iadd, 1) := by decide +kernel
theorem zd_Mo_closed_17 : decode zc_Mo_closed 17 = .ok (.iaload, 1) := by decide +kernel
theorem zd_Mo_closed_18 : decode zc_Mo_closed 18 = .ok (.iconst 1, 1) := by decide +kernel
theorem zd_Mo_closed_19 : decode zc_Mo_closed 19 = .ok (.if_icmp .ne 6, 3) := by decide +kernel
theorem zd_Mo_closed_22 : decode zc_Mo_closed 22 = .ok (.goto 13, 3) := by decide +kernel
theorem zd_Mo_closed_25 : decode zc_Mo_closed 25 = .ok (.aload_n 0, 1) := by decide +kernel
theorem zd_Mo_closed_26 : decode zc_Mo_closed 26 = .ok (.iload_n 1, 1) := by decide +kernel
theorem zd_Mo_closed_27 : decode zc_Mo_closed 27 = .ok (.iload_n 2, 1) := by decide +kernel
theorem zd_Mo_closed_28 : decode zc_Mo_closed 28 = .ok (.iload 4, 2) := by decide +kernel
theorem zd_Mo_closed_30 : decode zc_Mo_closed 30 = .ok (.iadd, 1) := by decide +kernel
theorem zd_Mo_closed_31 : decode zc_Mo_closed 31 = .ok (.invokevirtual 112, 3) := by decide +kernel
theorem zd_Mo_closed_34 : decode zc_Mo_closed 34 = .ok (.return_, 1) := by decide +kernel
theorem zd_Mo_closed_35 : decode zc_Mo_closed 35 = .ok (.iinc 4 1, 3) := by decide +kernel
theorem zd_Mo_closed_38 : decode zc_Mo_closed 38 = .ok (.goto (-35), 3) := by decide +kernel
theorem zd_Mo_closed_41 : decode zc_Mo_closed 41 = .ok (.return_, 1) := by decide +kernel
theorem zd_Mo_word_0 : decode zc_Mo_word 0 = .ok (.aload_n 0, 1) := by decide +kernel
theorem zd_Mo_word_1 : decode zc_Mo_word 1 = .ok (.getfield 25, 3) := by decide +kernel
theorem zd_Mo_word_4 : decode zc_Mo_word 4 = .ok (.iload_n 1, 1) := by decide +kernel
theorem zd_Mo_word_5 : decode zc_Mo_word 5 = .ok (.iaload, 1) := by decide +kernel
theorem zd_Mo_word_6 : decode zc_Mo_word 6 = .ok (.aload_n 0, 1) := by decide +kernel
theorem zd_Mo_word_7 : decode zc_Mo_word 7 = .ok (.getfield 25, 3) := by decide +kernel
theorem zd_Mo_word_10 : decode zc_Mo_word 10 = .ok (.iload_n 1, 1) := by decide +kernel
theorem zd_Mo_word_11 : decode zc_Mo_word 11 = .ok (.iconst 1, 1) := by decide +kernel
theorem zd_Mo_word_12 : decode zc_Mo_word 12 = .ok (.iadd, 1) := by decide +kernel
theorem zd_Mo_word_13 : decode zc_Mo_word 13 = .ok (.iaload, 1) := by decide +kernel
theorem zd_Mo_word_14 : decode zc_Mo_word 14 = .ok (.bipush 8, 2) := by decide +kernel
theorem zd_Mo_word_16 : decode zc_Mo_word 16 = .ok (.ishl, 1) := by decide +kernel
theorem zd_Mo_word_17 : decode zc_Mo_word 17 = .ok (.ior, 1) := by decide +kernel
theorem zd_Mo_word_18 : decode zc_Mo_word 18 = .ok (.aload_n 0, 1) := by decide +kernel
theorem zd_Mo_word_19 : decode zc_Mo_word 19 = .ok (.getfield 25, 3) := by decide +kernel
theorem zd_Mo_word_22 : decode zc_Mo_word 22 = .ok (.iload_n 1, 1) := by decide +kernel
theorem zd_Mo_word_23 : decode zc_Mo_word 23 = .ok (.iconst 2, 1) := by decide +kernel
theorem zd_Mo_word_24 : decode zc_Mo_word 24 = .ok (.iadd, 1) := by decide +kernel
theorem zd_Mo_word_25 : decode zc_Mo_word 25 = .ok (.iaload, 1) := by decide +kernel
theorem zd_Mo_word_26 : decode zc_Mo_word 26 = .ok (.bipush 16, 2) := by decide +kernel
theorem zd_Mo_word_28 : decode zc_Mo_word 28 = .ok (.ishl, 1) := by decide +kernel
theorem zd_Mo_word_29 : decode zc_Mo_word 29 = .ok (.ior, 1) := by decide +kernel
theorem zd_Mo_word_30 : decode zc_Mo_word 30 = .ok (.aload_n 0, 1) := by decide +kernel
theorem zd_Mo_word_31 : decode zc_Mo_word 31 = .ok (.getfield 25, 3) := by decide +kernel
theorem zd_Mo_word_34 : decode zc_Mo_word 34 = .ok (.iload_n 1, 1) := by decide +kernel
theorem zd_Mo_word_35 : decode zc_Mo_word 35 = .ok (.iconst 3, 1) := by decide +kernel
theorem zd_Mo_word_36 : decode zc_Mo_word 36 = .ok (.iadd, 1) := by decide +kernel
theorem zd_Mo_word_37 : decode zc_Mo_word 37 = .ok (.iaload, 1) := by decide +kernel
theorem zd_Mo_word_38 : decode zc_Mo_word 38 = .ok (.bipush 24, 2) := by decide +kernel
theorem zd_Mo_word_40 : decode zc_Mo_word 40 = .ok (.ishl, 1) := by decide +kernel
theorem zd_Mo_word_41 : decode zc_Mo_word 41 = .ok (.ior, 1) := by decide +kernel
theorem zd_Mo_word_42 : decode zc_Mo_word 42 = .ok (.ireturn, 1) := by decide +kernel
theorem zd_Mo_wordKnown_0 : decode zc_Mo_wordKnown 0 = .ok (.aload_n 0, 1) := by decide +kernel
theorem zd_Mo_wordKnown_1 : decode zc_Mo_wordKnown 1 = .ok (.getfield 31, 3) := by decide +kernel
theorem zd_Mo_wordKnown_4 : decode zc_Mo_wordKnown 4 = .ok (.iload_n 1, 1) := by decide +kernel
theorem zd_Mo_wordKnown_5 : decode zc_Mo_wordKnown 5 = .ok (.iaload, 1) := by decide +kernel
theorem zd_Mo_wordKnown_6 : decode zc_Mo_wordKnown 6 = .ok (.aload_n 0, 1) := by decide +kernel
theorem zd_Mo_wordKnown_7 : decode zc_Mo_wordKnown 7 = .ok (.getfield 31, 3) := by decide +kernel
theorem zd_Mo_wordKnown_10 : decode zc_Mo_wordKnown 10 = .ok (.iload_n 1, 1) := by decide +kernel
theorem zd_Mo_wordKnown_11 : decode zc_Mo_wordKnown 11 = .ok (.iconst 1, 1) := by decide +kernel
theorem zd_Mo_wordKnown_12 : decode zc_Mo_wordKnown 12 = .ok (.iadd, 1) := by decide +kernel
theorem zd_Mo_wordKnown_13 : decode zc_Mo_wordKnown 13 = .ok (.iaload, 1) := by decide +kernel
theorem zd_Mo_wordKnown_14 : decode zc_Mo_wordKnown 14 = .ok (.iconst 1, 1) := by decide +kernel
theorem zd_Mo_wordKnown_15 : decode zc_Mo_wordKnown 15 = .ok (.ishl, 1) := by decide +kernel
theorem zd_Mo_wordKnown_16 : decode zc_Mo_wordKnown 16 = .ok (.ior, 1) := by decide +kernel
theorem zd_Mo_wordKnown_17 : decode zc_Mo_wordKnown 17 = .ok (.aload_n 0, 1) := by decide +kernel
theorem zd_Mo_wordKnown_18 : decode zc_Mo_wordKnown 18 = .ok (.getfield 31, 3) := by decide +kernel
theorem zd_Mo_wordKnown_21 : decode zc_Mo_wordKnown 21 = .ok (.iload_n 1, 1) := by decide +kernel
theorem zd_Mo_wordKnown_22 : decode zc_Mo_wordKnown 22 = .ok (.iconst 2, 1) := by decide +kernel
theorem zd_Mo_wordKnown_23 : decode zc_Mo_wordKnown 23 = .ok (.iadd, 1) := by decide +kernel
theorem zd_Mo_wordKnown_24 : decode zc_Mo_wordKnown 24 = .ok (.iaload, 1) := by decide +kernel
theorem zd_Mo_wordKnown_25 : decode zc_Mo_wordKnown 25 = .ok (.iconst 2, 1) := by decide +kernel
theorem zd_Mo_wordKnown_26 : decode zc_Mo_wordKnown 26 = .ok (.ishl, 1) := by decide +kernel
theorem zd_Mo_wordKnown_27 : decode zc_Mo_wordKnown 27 = .ok (.ior, 1) := by decide +kernel
theorem zd_Mo_wordKnown_28 : decode zc_Mo_wordKnown 28 = .ok (.aload_n 0, 1) := by decide +kernel
theorem zd_Mo_wordKnown_29 : decode zc_Mo_wordKnown 29 = .ok (.getfield 31, 3) := by decide +kernel
theorem zd_Mo_wordKnown_32 : decode zc_Mo_wordKnown 32 = .ok (.iload_n 1, 1) := by decide +kernel
theorem zd_Mo_wordKnown_33 : decode zc_Mo_wordKnown 33 = .ok (.iconst 3, 1) := by decide +kernel
theorem zd_Mo_wordKnown_34 : decode zc_Mo_wordKnown 34 = .ok (.iadd, 1) := by decide +kernel
theorem zd_Mo_wordKnown_35 : decode zc_Mo_wordKnown 35 = .ok (.iaload, 1) := by decide +kernel
theorem zd_Mo_wordKnown_36 : decode zc_Mo_wordKnown 36 = .ok (.iconst 3, 1) := by decide +kernel
theorem zd_Mo_wordKnown_37 : decode zc_Mo_wordKnown 37 = .ok (.ishl, 1) := by decide +kernel
theorem zd_Mo_wordKnown_38 : decode zc_Mo_wordKnown 38 = .ok (.ior, 1) := by decide +kernel
theorem zd_Mo_wordKnown_39 : decode zc_Mo_wordKnown 39 = .ok (.ireturn, 1) := by decide +kernel
theorem zd_Mo_access_0 : decode zc_Mo_access 0 = .ok (.aload_n 0, 1) := by decide +kernel
theorem zd_Mo_access_1 : decode zc_Mo_access 1 = .ok (.getfield 34, 3) := by decide +kernel
theorem zd_Mo_access_4 : decode zc_Mo_access 4 = .ok (.aload_n 0, 1) := by decide +kernel
theorem zd_Mo_access_5 : decode zc_Mo_access 5 = .ok (.getfield 16, 3) := by decide +kernel
theorem zd_Mo_access_8 : decode zc_Mo_access 8 = .ok (.iload_n 2, 1) := by decide +kernel
theorem zd_Mo_access_9 : decode zc_Mo_access 9 = .ok (.iaload, 1) := by decide +kernel
theorem zd_Mo_access_10 : decode zc_Mo_access 10 = .ok (.iaload, 1) := by decide +kernel
theorem zd_Mo_access_11 : decode zc_Mo_access 11 = .ok (.aload_n 0, 1) := by decide +kernel
theorem zd_Mo_access_12 : decode zc_Mo_access 12 = .ok (.getfield 22, 3) := by decide +kernel
theorem zd_Mo_access_15 : decode zc_Mo_access 15 = .ok (.iload_n 2, 1) := by decide +kernel
theorem zd_Mo_access_16 : decode zc_Mo_access 16 = .ok (.iaload, 1) := by decide +kernel
theorem zd_Mo_access_17 : decode zc_Mo_access 17 = .ok (.iadd, 1) := by decide +kernel
theorem zd_Mo_access_18 : decode zc_Mo_access 18 = .ok (.istore_n 3, 1) := by decide +kernel
theorem zd_Mo_access_19 : decode zc_Mo_access 19 = .ok (.iload_n 1, 1) := by decide +kernel
theorem zd_Mo_access_20 : decode zc_Mo_access 20 = .ok (.bipush 9, 2) := by decide +kernel
theorem zd_Mo_access_22 : decode zc_Mo_access 22 = .ok (.if_icmp .eq 9, 3) := by decide +kernel
theorem zd_Mo_access_25 : decode zc_Mo_access 25 = .ok (.iload_n 1, 1) := by decide +kernel
theorem zd_Mo_access_26 : decode zc_Mo_access 26 = .ok (.bipush 11, 2) := by decide +kernel
theorem zd_Mo_access_28 : decode zc_Mo_access 28 = .ok (.if_icmp .ne 7, 3) := by decide +kernel
theorem zd_Mo_access_31 : decode zc_Mo_access 31 = .ok (.iconst 4, 1) := by decide +kernel
theorem zd_Mo_access_32 : decode zc_Mo_access 32 = .ok (.goto 4, 3) := by decide +kernel
theorem zd_Mo_access_35 : decode zc_Mo_access 35 = .ok (.iconst 1, 1) := by decide +kernel
theorem zd_Mo_access_36 : decode zc_Mo_access 36 = .ok (.istore 4, 2) := by decide +kernel
theorem zd_Mo_access_38 : decode zc_Mo_access 38 = .ok (.aload_n 0, 1) := by decide +kernel
theorem zd_Mo_access_39 : decode zc_Mo_access 39 = .ok (.getfield 37, 3) := by decide +kernel
theorem zd_Mo_access_42 : decode zc_Mo_access 42 = .ok (.aload_n 0, 1) := by decide +kernel
theorem zd_Mo_access_43 : decode zc_Mo_access 43 = .ok (.getfield 16, 3) := by decide +kernel
theorem zd_Mo_access_46 : decode zc_Mo_access 46 = .ok (.iload_n 2, 1) := by decide +kernel
theorem zd_Mo_access_47 : decode zc_Mo_access 47 = .ok (.iaload, 1) := by decide +kernel
theorem zd_Mo_access_48 : decode zc_Mo_access 48 = .ok (.iaload, 1) := by decide +kernel
theorem zd_Mo_access_49 : decode zc_Mo_access 49 = .ok (.bipush 15, 2) := by decide +kernel
theorem zd_Mo_access_51 : decode zc_Mo_access 51 = .ok (.if_icmp .eq 9, 3) := by decide +kernel
theorem zd_Mo_access_54 : decode zc_Mo_access 54 = .ok (.aload_n 0, 1) := by decide +kernel
theorem zd_Mo_access_55 : decode zc_Mo_access 55 = .ok (.iconst 4, 1) := by decide +kernel
theorem zd_Mo_access_56 : decode zc_Mo_access 56 = .ok (.iload_n 3, 1) := by decide +kernel
theorem zd_Mo_access_57 : decode zc_Mo_access 57 = .ok (.invokevirtual 112, 3) := by decide +kernel
theorem zd_Mo_access_60 : decode zc_Mo_access 60 = .ok (.iload_n 3, 1) := by decide +kernel
theorem zd_Mo_access_61 : decode zc_Mo_access 61 = .ok (.iconst 0, 1) := by decide +kernel
theorem zd_Mo_access_62 : decode zc_Mo_access 62 = .ok (.sipush 256, 3) := by decide +kernel
theorem zd_Mo_access_65 : decode zc_Mo_access 65 = .ok (.iload 4, 2) := by decide +kernel
theorem zd_Mo_access_67 : decode zc_Mo_access 67 = .ok (.isub, 1) := by decide +kernel
theorem zd_Mo_access_68 : decode zc_Mo_access 68 = .ok (.invokestatic 79, 3) := by decide +kernel
theorem zd_Mo_access_71 : decode zc_Mo_access 71 = .ok (.ifCond .ne 5, 3) := by decide +kernel
theorem zd_Mo_access_74 : decode zc_Mo_access 74 = .ok (.iconst 0, 1) := by decide +kernel
theorem zd_Mo_access_75 : decode zc_Mo_access 75 = .ok (.ireturn, 1) := by decide +kernel
theorem zd_Mo_access_76 : decode zc_Mo_access 76 = .ok (.aload_n 0, 1) := by decide +kernel
theorem zd_Mo_access_77 : decode zc_Mo_access 77 = .ok (.iload_n 1, 1) := by decide +kernel
theorem zd_Mo_access_78 : decode zc_Mo_access 78 = .ok (.bipush 11, 2) := by decide +kernel
theorem zd_Mo_access_80 : decode zc_Mo_access 80 = .ok (.if_icmp .ge 7, 3) := by decide +kernel
theorem zd_Mo_access_83 : decode zc_Mo_access 83 = .ok (.iconst 1, 1) := by decide +kernel
theorem zd_Mo_access_84 : decode zc_Mo_access 84 = .ok (.goto 4, 3) := by decide +kernel
theorem zd_Mo_access_87 : decode zc_Mo_access 87 = .ok (.iconst 2, 1) := by decide +kernel
theorem zd_Mo_access_88 : decode zc_Mo_access 88 = .ok (.iload_n 3, 1) := by decide +kernel
theorem zd_Mo_access_89 : decode zc_Mo_access 89 = .ok (.iload 4, 2) := by decide +kernel
theorem zd_Mo_access_91 : decode zc_Mo_access 91 = .ok (.invokevirtual 116, 3) := by decide +kernel
theorem zd_Mo_access_94 : decode zc_Mo_access 94 = .ok (.iload_n 1, 1) := by decide +kernel
theorem zd_Mo_access_95 : decode zc_Mo_access 95 = .ok (.bipush 9, 2) := by decide +kernel
theorem zd_Mo_access_97 : decode zc_Mo_access 97 = .ok (.if_icmp .ne 23, 3) := by decide +kernel
theorem zd_Mo_access_100 : decode zc_Mo_access 100 = .ok (.aload_n 0, 1) := by decide +kernel
theorem zd_Mo_access_101 : decode zc_Mo_access 101 = .ok (.aload_n 0, 1) := by decide +kernel
theorem zd_Mo_access_102 : decode zc_Mo_access 102 = .ok (.getfield 13, 3) := by decide +kernel
theorem zd_Mo_access_105 : decode zc_Mo_access 105 = .ok (.iload_n 2, 1) := by decide +kernel
theorem zd_Mo_access_106 : decode zc_Mo_access 106 = .ok (.iaload, 1) := by decide +kernel
theorem zd_Mo_access_107 : decode zc_Mo_access 107 = .ok (.aload_n 0, 1) := by decide +kernel
theorem zd_Mo_access_108 : decode zc_Mo_access 108 = .ok (.iload_n 3, 1) := by decide +kernel
theorem zd_Mo_access_109 : decode zc_Mo_access 109 = .ok (.invokevirtual 119, 3) := by decide +kernel
theorem zd_Mo_access_112 : decode zc_Mo_access 112 = .ok (.aload_n 0, 1) := by decide +kernel
theorem zd_Mo_access_113 : decode zc_Mo_access 113 = .ok (.iload_n 3, 1) := by decide +kernel
theorem zd_Mo_access_114 : decode zc_Mo_access 114 = .ok (.invokevirtual 122, 3) := by decide +kernel
theorem zd_Mo_access_117 : decode zc_Mo_access 117 = .ok (.invokevirtual 98, 3) := by decide +kernel
theorem zd_Mo_access_120 : decode zc_Mo_access 120 = .ok (.iload_n 1, 1) := by decide +kernel
theorem zd_Mo_access_121 : decode zc_Mo_access 121 = .ok (.bipush 10, 2) := by decide +kernel
theorem zd_Mo_access_123 : decode zc_Mo_access 123 = .ok (.if_icmp .ne 29, 3) := by decide +kernel
theorem zd_Mo_access_126 : decode zc_Mo_access 126 = .ok (.aload_n 0, 1) := by decide +kernel
theorem zd_Mo_access_127 : decode zc_Mo_access 127 = .ok (.aload_n 0, 1) := by decide +kernel
theorem zd_Mo_access_128 : decode zc_Mo_access 128 = .ok (.getfield 13, 3) := by decide +kernel
theorem zd_Mo_access_131 : decode zc_Mo_access 131 = .ok (.iload_n 2, 1) := by decide +kernel
theorem zd_Mo_access_132 : decode zc_Mo_access 132 = .ok (.iaload, 1) := by decide +kernel
theorem zd_Mo_access_133 : decode zc_Mo_access 133 = .ok (.aload_n 0, 1) := by decide +kernel
theorem zd_Mo_access_134 : decode zc_Mo_access 134 = .ok (.getfield 25, 3) := by decide +kernel
theorem zd_Mo_access_137 : decode zc_Mo_access 137 = .ok (.iload_n 3, 1) := by decide +kernel
theorem zd_Mo_access_138 : decode zc_Mo_access 138 = .ok (.iaload, 1) := by decide +kernel
theorem zd_Mo_access_139 : decode zc_Mo_access 139 = .ok (.i2b, 1) := by decide +kernel
theorem zd_Mo_access_140 : decode zc_Mo_access 140 = .ok (.aload_n 0, 1) := by decide +kernel
theorem zd_Mo_access_141 : decode zc_Mo_access 141 = .ok (.getfield 31, 3) := by decide +kernel
theorem zd_Mo_access_144 : decode zc_Mo_access 144 = .ok (.iload_n 3, 1) := by decide +kernel
theorem zd_Mo_access_145 : decode zc_Mo_access 145 = .ok (.iaload, 1) := by decide +kernel
theorem zd_Mo_access_146 : decode zc_Mo_access 146 = .ok (.bipush 15, 2) := by decide +kernel
theorem zd_Mo_access_148 : decode zc_Mo_access 148 = .ok (.imul, 1) := by decide +kernel
theorem zd_Mo_access_149 : decode zc_Mo_access 149 = .ok (.invokevirtual 98, 3) := by decide +kernel
theorem zd_Mo_access_152 : decode zc_Mo_access 152 = .ok (.iconst 0, 1) := by decide +kernel
theorem zd_Mo_access_153 : decode zc_Mo_access 153 = .ok (.istore 5, 2) := by decide +kernel
theorem zd_Mo_access_155 : decode zc_Mo_access 155 = .ok (.iload 5, 2) := by decide +kernel
theorem zd_Mo_access_157 : decode zc_Mo_access 157 = .ok (.iload 4, 2) := by decide +kernel
theorem zd_Mo_access_159 : decode zc_Mo_access 159 = .ok (.if_icmp .ge 70, 3) := by decide +kernel
theorem zd_Mo_access_162 : decode zc_Mo_access 162 = .ok (.iload_n 1, 1) := by decide +kernel
theorem zd_Mo_access_163 : decode zc_Mo_access 163 = .ok (.bipush 10, 2) := by decide +kernel
theorem zd_Mo_access_165 : decode zc_Mo_access 165 = .ok (.if_icmp .le 64, 3) := by decide +kernel
theorem zd_Mo_access_168 : decode zc_Mo_access 168 = .ok (.aload_n 0, 1) := by decide +kernel
theorem zd_Mo_access_169 : decode zc_Mo_access 169 = .ok (.getfield 25, 3) := by decide +kernel
theorem zd_Mo_access_172 : decode zc_Mo_access 172 = .ok (.iload_n 3, 1) := by decide +kernel
theorem zd_Mo_access_173 : decode zc_Mo_access 173 = .ok (.iload 5, 2) := by decide +kernel
theorem zd_Mo_access_175 : decode zc_Mo_access 175 = .ok (.iadd, 1) := by decide +kernel
theorem zd_Mo_access_176 : decode zc_Mo_access 176 = .ok (.aload_n 0, 1) := by decide +kernel
theorem zd_Mo_access_177 : decode zc_Mo_access 177 = .ok (.getfield 34, 3) := by decide +kernel
theorem zd_Mo_access_180 : decode zc_Mo_access 180 = .ok (.aload_n 0, 1) := by decide +kernel
theorem zd_Mo_access_181 : decode zc_Mo_access 181 = .ok (.getfield 19, 3) := by decide +kernel
theorem zd_Mo_access_184 : decode zc_Mo_access 184 = .ok (.iload_n 2, 1) := by decide +kernel
theorem zd_Mo_access_185 : decode zc_Mo_access 185 = .ok (.iaload, 1) := by decide +kernel
theorem zd_Mo_access_186 : decode zc_Mo_access 186 = .ok (.iaload, 1) := by decide +kernel
theorem zd_Mo_access_187 : decode zc_Mo_access 187 = .ok (.bipush 8, 2) := by decide +kernel
theorem zd_Mo_access_189 : decode zc_Mo_access 189 = .ok (.iload 5, 2) := by decide +kernel
theorem zd_Mo_access_191 : decode zc_Mo_access 191 = .ok (.imul, 1) := by decide +kernel
theorem zd_Mo_access_192 : decode zc_Mo_access 192 = .ok (.ishr, 1) := by decide +kernel
theorem zd_Mo_access_193 : decode zc_Mo_access 193 = .ok (.sipush 255, 3) := by decide +kernel
theorem zd_Mo_access_196 : decode zc_Mo_access 196 = .ok (.iand, 1) := by decide +kernel
theorem zd_Mo_access_197 : decode zc_Mo_access 197 = .ok (.iastore, 1) := by decide +kernel
theorem zd_Mo_access_198 : decode zc_Mo_access 198 = .ok (.aload_n 0, 1) := by decide +kernel
theorem zd_Mo_access_199 : decode zc_Mo_access 199 = .ok (.getfield 31, 3) := by decide +kernel
theorem zd_Mo_access_202 : decode zc_Mo_access 202 = .ok (.iload_n 3, 1) := by decide +kernel
theorem zd_Mo_access_203 : decode zc_Mo_access 203 = .ok (.iload 5, 2) := by decide +kernel
theorem zd_Mo_access_205 : decode zc_Mo_access 205 = .ok (.iadd, 1) := by decide +kernel
theorem zd_Mo_access_206 : decode zc_Mo_access 206 = .ok (.aload_n 0, 1) := by decide +kernel
theorem zd_Mo_access_207 : decode zc_Mo_access 207 = .ok (.getfield 37, 3) := by decide +kernel
theorem zd_Mo_access_210 : decode zc_Mo_access 210 = .ok (.aload_n 0, 1) := by decide +kernel
theorem zd_Mo_access_211 : decode zc_Mo_access 211 = .ok (.getfield 19, 3) := by decide +kernel
theorem zd_Mo_access_214 : decode zc_Mo_access 214 = .ok (.iload_n 2, 1) := by decide +kernel
theorem zd_Mo_access_215 : decode zc_Mo_access 215 = .ok (.iaload, 1) := by decide +kernel
theorem zd_Mo_access_216 : decode zc_Mo_access 216 = .ok (.iaload, 1) := by decide +kernel
theorem zd_Mo_access_217 : decode zc_Mo_access 217 = .ok (.iload 5, 2) := by decide +kernel
theorem zd_Mo_access_219 : decode zc_Mo_access 219 = .ok (.ishr, 1) := by decide +kernel
theorem zd_Mo_access_220 : decode zc_Mo_access 220 = .ok (.iconst 1, 1) := by decide +kernel
theorem zd_Mo_access_221 : decode zc_Mo_access 221 = .ok (.iand, 1) := by decide +kernel
theorem zd_Mo_access_222 : decode zc_Mo_access 222 = .ok (.iastore, 1) := by decide +kernel
theorem zd_Mo_access_223 : decode zc_Mo_access 223 = .ok (.iinc 5 1, 3) := by decide +kernel
theorem zd_Mo_access_226 : decode zc_Mo_access 226 = .ok (.goto (-71), 3) := by decide +kernel
theorem zd_Mo_access_229 : decode zc_Mo_access 229 = .ok (.iconst 1, 1) := by decide +kernel
theorem zd_Mo_access_230 : decode zc_Mo_access 230 = .ok (.ireturn, 1) := by decide +kernel
theorem zd_Mo_room_0 : decode zc_Mo_room 0 = .ok (.iload_n 0, 1) := by decide +kernel
theorem zd_Mo_room_1 : decode zc_Mo_room 1 = .ok (.iconst 3, 1) := by decide +kernel
theorem zd_Mo_room_2 : decode zc_Mo_room 2 = .ok (.iadd, 1) := by decide +kernel
theorem zd_Mo_room_3 : decode zc_Mo_room 3 = .ok (.iconst 4, 1) := by decide +kernel
theorem zd_Mo_room_4 : decode zc_Mo_room 4 = .ok (.idiv, 1) := by decide +kernel
theorem zd_Mo_room_5 : decode zc_Mo_room 5 = .ok (.iconst 4, 1) := by decide +kernel
theorem zd_Mo_room_6 : decode zc_Mo_room 6 = .ok (.imul, 1) := by decide +kernel
theorem zd_Mo_room_7 : decode zc_Mo_room 7 = .ok (.ireturn, 1) := by decide +kernel
theorem zd_Mo_free_0 : decode zc_Mo_free 0 = .ok (.iconst 0, 1) := by decide +kernel
theorem zd_Mo_free_1 : decode zc_Mo_free 1 = .ok (.istore_n 3, 1) := by decide +kernel
theorem zd_Mo_free_2 : decode zc_Mo_free 2 = .ok (.iload_n 3, 1) := by decide +kernel
theorem zd_Mo_free_3 : decode zc_Mo_free 3 = .ok (.aload_n 0, 1) := by decide +kernel
theorem zd_Mo_free_4 : decode zc_Mo_free 4 = .ok (.getfield 125, 3) := by decide +kernel
theorem zd_Mo_free_7 : decode zc_Mo_free 7 = .ok (.if_icmp .ge 54, 3) := by decide +kernel
theorem zd_Mo_free_10 : decode zc_Mo_free 10 = .ok (.iload_n 1, 1) := by decide +kernel
theorem zd_Mo_free_11 : decode zc_Mo_free 11 = .ok (.iconst 4, 1) := by decide +kernel
theorem zd_Mo_free_12 : decode zc_Mo_free 12 = .ok (.isub, 1) := by decide +kernel
theorem zd_Mo_free_13 : decode zc_Mo_free 13 = .ok (.aload_n 0, 1) := by decide +kernel
theorem zd_Mo_free_14 : decode zc_Mo_free 14 = .ok (.getfield 43, 3) := by decide +kernel
theorem zd_Mo_free_17 : decode zc_Mo_free 17 = .ok (.iload_n 3, 1) := by decide +kernel
theorem zd_Mo_free_18 : decode zc_Mo_free 18 = .ok (.iaload, 1) := by decide +kernel
theorem zd_Mo_free_19 : decode zc_Mo_free 19 = .ok (.aload_n 0, 1) := by decide +kernel
theorem zd_Mo_free_20 : decode zc_Mo_free 20 = .ok (.getfield 46, 3) := by decide +kernel
theorem zd_Mo_free_23 : decode zc_Mo_free 23 = .ok (.iload_n 3, 1) := by decide +kernel
theorem zd_Mo_free_24 : decode zc_Mo_free 24 = .ok (.iaload, 1) := by decide +kernel
theorem zd_Mo_free_25 : decode zc_Mo_free 25 = .ok (.invokestatic 128, 3) := by decide +kernel
theorem zd_Mo_free_28 : decode zc_Mo_free 28 = .ok (.iadd, 1) := by decide +kernel
theorem zd_Mo_free_29 : decode zc_Mo_free 29 = .ok (.iconst 4, 1) := by decide +kernel
theorem zd_Mo_free_30 : decode zc_Mo_free 30 = .ok (.iadd, 1) := by decide +kernel
theorem zd_Mo_free_31 : decode zc_Mo_free 31 = .ok (.if_icmp .ge 24, 3) := by decide +kernel
theorem zd_Mo_free_34 : decode zc_Mo_free 34 = .ok (.aload_n 0, 1) := by decide +kernel
theorem zd_Mo_free_35 : decode zc_Mo_free 35 = .ok (.getfield 43, 3) := by decide +kernel
theorem zd_Mo_free_38 : decode zc_Mo_free 38 = .ok (.iload_n 3, 1) := by decide +kernel
theorem zd_Mo_free_39 : decode zc_Mo_free 39 = .ok (.iaload, 1) := by decide +kernel
theorem zd_Mo_free_40 : decode zc_Mo_free 40 = .ok (.iconst 4, 1) := by decide +kernel
theorem zd_Mo_free_41 : decode zc_Mo_free 41 = .ok (.isub, 1) := by decide +kernel
theorem zd_Mo_free_42 : decode zc_Mo_free 42 = .ok (.iload_n 1, 1) := by decide +kernel
theorem zd_Mo_free_43 : decode zc_Mo_free 43 = .ok (.iload_n 2, 1) := by decide +kernel
theorem zd_Mo_free_44 : decode zc_Mo_free 44 = .ok (.invokestatic 128, 3) := by decide +kernel
theorem zd_Mo_free_47 : decode zc_Mo_free 47 = .ok (.iadd, 1) := by decide +kernel
theorem zd_Mo_free_48 : decode zc_Mo_free 48 = .ok (.iconst 4, 1) := by decide +kernel
theorem zd_Mo_free_49 : decode zc_Mo_free 49 = .ok (.iadd, 1) := by decide +kernel
theorem zd_Mo_free_50 : decode zc_Mo_free 50 = .ok (.if_icmp .ge 5, 3) := by decide +kernel
theorem zd_Mo_free_53 : decode zc_Mo_free 53 = .ok (.iconst 0, 1) := by decide +kernel
theorem zd_Mo_free_54 : decode zc_Mo_free 54 = .ok (.ireturn, 1) := by decide +kernel
theorem zd_Mo_free_55 : decode zc_Mo_free 55 = .ok (.iinc 3 1, 3) := by decide +kernel
theorem zd_Mo_free_58 : decode zc_Mo_free 58 = .ok (.goto (-56), 3) := by decide +kernel
theorem zd_Mo_free_61 : decode zc_Mo_free 61 = .ok (.iconst 1, 1) := by decide +kernel
theorem zd_Mo_free_62 : decode zc_Mo_free 62 = .ok (.ireturn, 1) := by decide +kernel
theorem zd_Mo_mark_0 : decode zc_Mo_mark 0 = .ok (.iload_n 1, 1) := by decide +kernel
theorem zd_Mo_mark_1 : decode zc_Mo_mark 1 = .ok (.istore 4, 2) := by decide +kernel
theorem zd_Mo_mark_3 : decode zc_Mo_mark 3 = .ok (.iload 4, 2) := by decide +kernel
theorem zd_Mo_mark_5 : decode zc_Mo_mark 5 = .ok (.iload_n 1, 1) := by decide +kernel
theorem zd_Mo_mark_6 : decode zc_Mo_mark 6 = .ok (.iload_n 2, 1) := by decide +kernel
theorem zd_Mo_mark_7 : decode zc_Mo_mark 7 = .ok (.iadd, 1) := by decide +kernel
theorem zd_Mo_mark_8 : decode zc_Mo_mark 8 = .ok (.if_icmp .ge 25, 3) := by decide +kernel
theorem zd_Mo_mark_11 : decode zc_Mo_mark 11 = .ok (.aload_n 0, 1) := by decide +kernel
theorem zd_Mo_mark_12 : decode zc_Mo_mark 12 = .ok (.getfield 28, 3) := by decide +kernel
theorem zd_Mo_mark_15 : decode zc_Mo_mark 15 = .ok (.iload 4, 2) := by decide +kernel
theorem zd_Mo_mark_17 : decode zc_Mo_mark 17 = .ok (.iload_n 3, 1) := by decide +kernel
theorem zd_Mo_mark_18 : decode zc_Mo_mark 18 = .ok (.iastore, 1) := by decide +kernel
theorem zd_Mo_mark_19 : decode zc_Mo_mark 19 = .ok (.aload_n 0, 1) := by decide +kernel
theorem zd_Mo_mark_20 : decode zc_Mo_mark 20 = .ok (.getfield 31, 3) := by decide +kernel
theorem zd_Mo_mark_23 : decode zc_Mo_mark 23 = .ok (.iload 4, 2) := by decide +kernel
theorem zd_Mo_mark_25 : decode zc_Mo_mark 25 = .ok (.iconst 0, 1) := by decide +kernel
theorem zd_Mo_mark_26 : decode zc_Mo_mark 26 = .ok (.iastore, 1) := by decide +kernel
theorem zd_Mo_mark_27 : decode zc_Mo_mark 27 = .ok (.iinc 4 1, 3) := by decide +kernel
theorem zd_Mo_mark_30 : decode zc_Mo_mark 30 = .ok (.goto (-27), 3) := by decide +kernel
theorem zd_Mo_mark_33 : decode zc_Mo_mark 33 = .ok (.return_, 1) := by decide +kernel
theorem zd_Mo_ask_0 : decode zc_Mo_ask 0 = .ok (.iload_n 1, 1) := by decide +kernel
theorem zd_Mo_ask_1 : decode zc_Mo_ask 1 = .ok (.iconst 1, 1) := by decide +kernel
theorem zd_Mo_ask_2 : decode zc_Mo_ask 2 = .ok (.bipush 48, 2) := by decide +kernel
theorem zd_Mo_ask_4 : decode zc_Mo_ask 4 = .ok (.invokestatic 79, 3) := by decide +kernel
theorem zd_Mo_ask_7 : decode zc_Mo_ask 7 = .ok (.ifCond .eq 12, 3) := by decide +kernel
theorem zd_Mo_ask_10 : decode zc_Mo_ask 10 = .ok (.aload_n 0, 1) := by decide +kernel
theorem zd_Mo_ask_11 : decode zc_Mo_ask 11 = .ok (.getfield 125, 3) := by decide +kernel
theorem zd_Mo_ask_14 : decode zc_Mo_ask 14 = .ok (.bipush 10, 2) := by decide +kernel
theorem zd_Mo_ask_16 : decode zc_Mo_ask 16 = .ok (.if_icmp .ne 5, 3) := by decide +kernel
theorem zd_Mo_ask_19 : decode zc_Mo_ask 19 = .ok (.iconst 0, 1) := by decide +kernel
theorem zd_Mo_ask_20 : decode zc_Mo_ask 20 = .ok (.ireturn, 1) := by decide +kernel
theorem zd_Mo_ask_21 : decode zc_Mo_ask 21 = .ok (.bipush 68, 2) := by decide +kernel
theorem zd_Mo_ask_23 : decode zc_Mo_ask 23 = .ok (.istore_n 2, 1) := by decide +kernel
theorem zd_Mo_ask_24 : decode zc_Mo_ask 24 = .ok (.iload_n 2, 1) := by decide +kernel
theorem zd_Mo_ask_25 : decode zc_Mo_ask 25 = .ok (.iload_n 1, 1) := by decide +kernel
theorem zd_Mo_ask_26 : decode zc_Mo_ask 26 = .ok (.invokestatic 128, 3) := by decide +kernel
theorem zd_Mo_ask_29 : decode zc_Mo_ask 29 = .ok (.iadd, 1) := by decide +kernel
theorem zd_Mo_ask_30 : decode zc_Mo_ask 30 = .ok (.sipush 220, 3) := by decide +kernel
theorem zd_Mo_ask_33 : decode zc_Mo_ask 33 = .ok (.if_icmp .gt 18, 3) := by decide +kernel
theorem zd_Mo_ask_36 : decode zc_Mo_ask 36 = .ok (.aload_n 0, 1) := by decide +kernel
theorem zd_Mo_ask_37 : decode zc_Mo_ask 37 = .ok (.iload_n 2, 1) := by decide +kernel
theorem zd_Mo_ask_38 : decode zc_Mo_ask 38 = .ok (.iload_n 1, 1) := by decide +kernel
theorem zd_Mo_ask_39 : decode zc_Mo_ask 39 = .ok (.invokevirtual 131, 3) := by decide +kernel
theorem zd_Mo_ask_42 : decode zc_Mo_ask 42 = .ok (.ifCond .ne 9, 3) := by decide +kernel
theorem zd_Mo_ask_45 : decode zc_Mo_ask 45 = .ok (.iinc 2 4, 3) := by decide +kernel
theorem zd_Mo_ask_48 : decode zc_Mo_ask 48 = .ok (.goto (-24), 3) := by decide +kernel
theorem zd_Mo_ask_51 : decode zc_Mo_ask 51 = .ok (.iload_n 2, 1) := by decide +kernel
theorem zd_Mo_ask_52 : decode zc_Mo_ask 52 = .ok (.iload_n 1, 1) := by decide +kernel
theorem zd_Mo_ask_53 : decode zc_Mo_ask 53 = .ok (.invokestatic 128, 3) := by decide +kernel
theorem zd_Mo_ask_56 : decode zc_Mo_ask 56 = .ok (.iadd, 1) := by decide +kernel
theorem zd_Mo_ask_57 : decode zc_Mo_ask 57 = .ok (.sipush 220, 3) := by decide +kernel
theorem zd_Mo_ask_60 : decode zc_Mo_ask 60 = .ok (.if_icmp .le 5, 3) := by decide +kernel
theorem zd_Mo_ask_63 : decode zc_Mo_ask 63 = .ok (.iconst 0, 1) := by decide +kernel
theorem zd_Mo_ask_64 : decode zc_Mo_ask 64 = .ok (.ireturn, 1) := by decide +kernel
theorem zd_Mo_ask_65 : decode zc_Mo_ask 65 = .ok (.aload_n 0, 1) := by decide +kernel
theorem zd_Mo_ask_66 : decode zc_Mo_ask 66 = .ok (.dup, 1) := by decide +kernel
theorem zd_Mo_ask_67 : decode zc_Mo_ask 67 = .ok (.getfield 135, 3) := by decide +kernel
theorem zd_Mo_ask_70 : decode zc_Mo_ask 70 = .ok (.iconst 1, 1) := by decide +kernel
theorem zd_Mo_ask_71 : decode zc_Mo_ask 71 = .ok (.iadd, 1) := by decide +kernel
theorem zd_Mo_ask_72 : decode zc_Mo_ask 72 = .ok (.putfield 135, 3) := by decide +kernel
theorem zd_Mo_ask_75 : decode zc_Mo_ask 75 = .ok (.aload_n 0, 1) := by decide +kernel
theorem zd_Mo_ask_76 : decode zc_Mo_ask 76 = .ok (.getfield 40, 3) := by decide +kernel
theorem zd_Mo_ask_79 : decode zc_Mo_ask 79 = .ok (.aload_n 0, 1) := by decide +kernel
theorem zd_Mo_ask_80 : decode zc_Mo_ask 80 = .ok (.getfield 125, 3) := by decide +kernel
theorem zd_Mo_ask_83 : decode zc_Mo_ask 83 = .ok (.aload_n 0, 1) := by decide +kernel
theorem zd_Mo_ask_84 : decode zc_Mo_ask 84 = .ok (.getfield 135, 3) := by decide +kernel
theorem zd_Mo_ask_87 : decode zc_Mo_ask 87 = .ok (.iastore, 1) := by decide +kernel
theorem zd_Mo_ask_88 : decode zc_Mo_ask 88 = .ok (.aload_n 0, 1) := by decide +kernel
theorem zd_Mo_ask_89 : decode zc_Mo_ask 89 = .ok (.getfield 43, 3) := by decide +kernel
theorem zd_Mo_ask_92 : decode zc_Mo_ask 92 = .ok (.aload_n 0, 1) := by decide +kernel
theorem zd_Mo_ask_93 : decode zc_Mo_ask 93 = .ok (.getfield 125, 3) := by decide +kernel
theorem zd_Mo_ask_96 : decode zc_Mo_ask 96 = .ok (.iload_n 2, 1) := by decide +kernel
theorem zd_Mo_ask_97 : decode zc_Mo_ask 97 = .ok (.iastore, 1) := by decide +kernel
theorem zd_Mo_ask_98 : decode zc_Mo_ask 98 = .ok (.aload_n 0, 1) := by decide +kernel
theorem zd_Mo_ask_99 : decode zc_Mo_ask 99 = .ok (.getfield 46, 3) := by decide +kernel
theorem zd_Mo_ask_102 : decode zc_Mo_ask 102 = .ok (.aload_n 0, 1) := by decide +kernel
theorem zd_Mo_ask_103 : decode zc_Mo_ask 103 = .ok (.getfield 125, 3) := by decide +kernel
theorem zd_Mo_ask_106 : decode zc_Mo_ask 106 = .ok (.iload_n 1, 1) := by decide +kernel
theorem zd_Mo_ask_107 : decode zc_Mo_ask 107 = .ok (.iastore, 1) := by decide +kernel
theorem zd_Mo_ask_108 : decode zc_Mo_ask 108 = .ok (.aload_n 0, 1) := by decide +kernel
theorem zd_Mo_ask_109 : decode zc_Mo_ask 109 = .ok (.getfield 49, 3) := by decide +kernel
theorem zd_Mo_ask_112 : decode zc_Mo_ask 112 = .ok (.aload_n 0, 1) := by decide +kernel
theorem zd_Mo_ask_113 : decode zc_Mo_ask 113 = .ok (.getfield 125, 3) := by decide +kernel
theorem zd_Mo_ask_116 : decode zc_Mo_ask 116 = .ok (.iconst 0, 1) := by decide +kernel
theorem zd_Mo_ask_117 : decode zc_Mo_ask 117 = .ok (.iastore, 1) := by decide +kernel
theorem zd_Mo_ask_118 : decode zc_Mo_ask 118 = .ok (.aload_n 0, 1) := by decide +kernel
theorem zd_Mo_ask_119 : decode zc_Mo_ask 119 = .ok (.dup, 1) := by decide +kernel
theorem zd_Mo_ask_120 : decode zc_Mo_ask 120 = .ok (.getfield 125, 3) := by decide +kernel
theorem zd_Mo_ask_123 : decode zc_Mo_ask 123 = .ok (.iconst 1, 1) := by decide +kernel
theorem zd_Mo_ask_124 : decode zc_Mo_ask 124 = .ok (.iadd, 1) := by decide +kernel
theorem zd_Mo_ask_125 : decode zc_Mo_ask 125 = .ok (.putfield 125, 3) := by decide +kernel
theorem zd_Mo_ask_128 : decode zc_Mo_ask 128 = .ok (.aload_n 0, 1) := by decide +kernel
theorem zd_Mo_ask_129 : decode zc_Mo_ask 129 = .ok (.iload_n 2, 1) := by decide +kernel
theorem zd_Mo_ask_130 : decode zc_Mo_ask 130 = .ok (.iload_n 1, 1) := by decide +kernel
theorem zd_Mo_ask_131 : decode zc_Mo_ask 131 = .ok (.iconst 1, 1) := by decide +kernel
theorem zd_Mo_ask_132 : decode zc_Mo_ask 132 = .ok (.invokevirtual 138, 3) := by decide +kernel
theorem zd_Mo_ask_135 : decode zc_Mo_ask 135 = .ok (.iload_n 2, 1) := by decide +kernel
theorem zd_Mo_ask_136 : decode zc_Mo_ask 136 = .ok (.ireturn, 1) := by decide +kernel
theorem zd_Mo_resting_0 : decode zc_Mo_resting 0 = .ok (.iconst 0, 1) := by decide +kernel
theorem zd_Mo_resting_1 : decode zc_Mo_resting 1 = .ok (.istore_n 1, 1) := by decide +kernel
theorem zd_Mo_resting_2 : decode zc_Mo_resting 2 = .ok (.iconst 0, 1) := by decide +kernel
theorem zd_Mo_resting_3 : decode zc_Mo_resting 3 = .ok (.istore_n 2, 1) := by decide +kernel
theorem zd_Mo_resting_4 : decode zc_Mo_resting 4 = .ok (.iload_n 2, 1) := by decide +kernel
theorem zd_Mo_resting_5 : decode zc_Mo_resting 5 = .ok (.aload_n 0, 1) := by decide +kernel
theorem zd_Mo_resting_6 : decode zc_Mo_resting 6 = .ok (.getfield 125, 3) := by decide +kernel
theorem zd_Mo_resting_9 : decode zc_Mo_resting 9 = .ok (.if_icmp .ge 21, 3) := by decide +kernel
theorem zd_Mo_resting_12 : decode zc_Mo_resting 12 = .ok (.aload_n 0, 1) := by decide +kernel
theorem zd_Mo_resting_13 : decode zc_Mo_resting 13 = .ok (.getfield 49, 3) := by decide +kernel
theorem zd_Mo_resting_16 : decode zc_Mo_resting 16 = .ok (.iload_n 2, 1) := by decide +kernel
theorem zd_Mo_resting_17 : decode zc_Mo_resting 17 = .ok (.iaload, 1) := by decide +kernel
theorem zd_Mo_resting_18 : decode zc_Mo_resting 18 = .ok (.ifCond .le 6, 3) := by decide +kernel
theorem zd_Mo_resting_21 : decode zc_Mo_resting 21 = .ok (.iinc 1 1, 3) := by decide +kernel
theorem zd_Mo_resting_24 : decode zc_Mo_resting 24 = .ok (.iinc 2 1, 3) := by decide +kernel
theorem zd_Mo_resting_27 : decode zc_Mo_resting 27 = .ok (.goto (-23), 3) := by decide +kernel
theorem zd_Mo_resting_30 : decode zc_Mo_resting 30 = .ok (.iload_n 1, 1) := by decide +kernel
theorem zd_Mo_resting_31 : decode zc_Mo_resting 31 = .ok (.ireturn, 1) := by decide +kernel
theorem zd_Mo_forget_0 : decode zc_Mo_forget 0 = .ok (.iconst (-1), 1) := by decide +kernel
theorem zd_Mo_forget_1 : decode zc_Mo_forget 1 = .ok (.istore_n 1, 1) := by decide +kernel
theorem zd_Mo_forget_2 : decode zc_Mo_forget 2 = .ok (.iconst 0, 1) := by decide +kernel
theorem zd_Mo_forget_3 : decode zc_Mo_forget 3 = .ok (.istore_n 2, 1) := by decide +kernel
theorem zd_Mo_forget_4 : decode zc_Mo_forget 4 = .ok (.iload_n 2, 1) := by decide +kernel
theorem zd_Mo_forget_5 : decode zc_Mo_forget 5 = .ok (.aload_n 0, 1) := by decide +kernel
theorem zd_Mo_forget_6 : decode zc_Mo_forget 6 = .ok (.getfield 125, 3) := by decide +kernel
theorem zd_Mo_forget_9 : decode zc_Mo_forget 9 = .ok (.if_icmp .ge 39, 3) := by decide +kernel
theorem zd_Mo_forget_12 : decode zc_Mo_forget 12 = .ok (.aload_n 0, 1) := by decide +kernel
theorem zd_Mo_forget_13 : decode zc_Mo_forget 13 = .ok (.getfield 49, 3) := by decide +kernel
theorem zd_Mo_forget_16 : decode zc_Mo_forget 16 = .ok (.iload_n 2, 1) := by decide +kernel
theorem zd_Mo_forget_17 : decode zc_Mo_forget 17 = .ok (.iaload, 1) := by decide +kernel
theorem zd_Mo_forget_18 : decode zc_Mo_forget 18 = .ok (.ifCond .le 24, 3) := by decide +kernel
theorem zd_Mo_forget_21 : decode zc_Mo_forget 21 = .ok (.iload_n 1, 1) := by decide +kernel
theorem zd_Mo_forget_22 : decode zc_Mo_forget 22 = .ok (.ifCond .lt 18, 3) := by decide +kernel
theorem zd_Mo_forget_25 : decode zc_Mo_forget 25 = .ok (.aload_n 0, 1) := by decide +kernel
theorem zd_Mo_forget_26 : decode zc_Mo_forget 26 = .ok (.getfield 49, 3) := by decide +kernel
theorem zd_Mo_forget_29 : decode zc_Mo_forget 29 = .ok (.iload_n 2, 1) := by decide +kernel
theorem zd_Mo_forget_30 : decode zc_Mo_forget 30 = .ok (.iaload, 1) := by decide +kernel
theorem zd_Mo_forget_31 : decode zc_Mo_forget 31 = .ok (.aload_n 0, 1) := by decide +kernel
theorem zd_Mo_forget_32 : decode zc_Mo_forget 32 = .ok (.getfield 49, 3) := by decide +kernel
theorem zd_Mo_forget_35 : decode zc_Mo_forget 35 = .ok (.iload_n 1, 1) := by decide +kernel
theorem zd_Mo_forget_36 : decode zc_Mo_forget 36 = .ok (.iaload, 1) := by decide +kernel
theorem zd_Mo_forget_37 : decode zc_Mo_forget 37 = .ok (.if_icmp .ge 5, 3) := by decide +kernel
theorem zd_Mo_forget_40 : decode zc_Mo_forget 40 = .ok (.iload_n 2, 1) := by decide +kernel
theorem zd_Mo_forget_41 : decode zc_Mo_forget 41 = .ok (.istore_n 1, 1) := by decide +kernel
theorem zd_Mo_forget_42 : decode zc_Mo_forget 42 = .ok (.iinc 2 1, 3) := by decide +kernel
theorem zd_Mo_forget_45 : decode zc_Mo_forget 45 = .ok (.goto (-41), 3) := by decide +kernel
theorem zd_Mo_forget_48 : decode zc_Mo_forget 48 = .ok (.aload_n 0, 1) := by decide +kernel
theorem zd_Mo_forget_49 : decode zc_Mo_forget 49 = .ok (.dup, 1) := by decide +kernel
theorem zd_Mo_forget_50 : decode zc_Mo_forget 50 = .ok (.getfield 125, 3) := by decide +kernel
theorem zd_Mo_forget_53 : decode zc_Mo_forget 53 = .ok (.iconst 1, 1) := by decide +kernel
theorem zd_Mo_forget_54 : decode zc_Mo_forget 54 = .ok (.isub, 1) := by decide +kernel
theorem zd_Mo_forget_55 : decode zc_Mo_forget 55 = .ok (.putfield 125, 3) := by decide +kernel
theorem zd_Mo_forget_58 : decode zc_Mo_forget 58 = .ok (.iload_n 1, 1) := by decide +kernel
theorem zd_Mo_forget_59 : decode zc_Mo_forget 59 = .ok (.istore_n 2, 1) := by decide +kernel
theorem zd_Mo_forget_60 : decode zc_Mo_forget 60 = .ok (.iload_n 2, 1) := by decide +kernel
theorem zd_Mo_forget_61 : decode zc_Mo_forget 61 = .ok (.aload_n 0, 1) := by decide +kernel
theorem zd_Mo_forget_62 : decode zc_Mo_forget 62 = .ok (.getfield 125, 3) := by decide +kernel
theorem zd_Mo_forget_65 : decode zc_Mo_forget 65 = .ok (.if_icmp .ge 65, 3) := by decide +kernel
theorem zd_Mo_forget_68 : decode zc_Mo_forget 68 = .ok (.aload_n 0, 1) := by decide +kernel
theorem zd_Mo_forget_69 : decode zc_Mo_forget 69 = .ok (.getfield 40, 3) := by decide +kernel
theorem zd_Mo_forget_72 : decode zc_Mo_forget 72 = .ok (.iload_n 2, 1) := by decide +kernel
theorem zd_Mo_forget_73 : decode zc_Mo_forget 73 = .ok (.aload_n 0, 1) := by decide +kernel
theorem zd_Mo_forget_74 : decode zc_Mo_forget 74 = .ok (.getfield 40, 3) := by decide +kernel
theorem zd_Mo_forget_77 : decode zc_Mo_forget 77 = .ok (.iload_n 2, 1) := by decide +kernel
theorem zd_Mo_forget_78 : decode zc_Mo_forget 78 = .ok (.iconst 1, 1) := by decide +kernel
theorem zd_Mo_forget_79 : decode zc_Mo_forget 79 = .ok (.iadd, 1) := by decide +kernel
theorem zd_Mo_forget_80 : decode zc_Mo_forget 80 = .ok (.iaload, 1) := by decide +kernel
theorem zd_Mo_forget_81 : decode zc_Mo_forget 81 = .ok (.iastore, 1) := by decide +kernel
theorem zd_Mo_forget_82 : decode zc_Mo_forget 82 = .ok (.aload_n 0, 1) := by decide +kernel
theorem zd_Mo_forget_83 : decode zc_Mo_forget 83 = .ok (.getfield 43, 3) := by decide +kernel
theorem zd_Mo_forget_86 : decode zc_Mo_forget 86 = .ok (.iload_n 2, 1) := by decide +kernel
theorem zd_Mo_forget_87 : decode zc_Mo_forget 87 = .ok (.aload_n 0, 1) := by decide +kernel
theorem zd_Mo_forget_88 : decode zc_Mo_forget 88 = .ok (.getfield 43, 3) := by decide +kernel
theorem zd_Mo_forget_91 : decode zc_Mo_forget 91 = .ok (.iload_n 2, 1) := by decide +kernel
theorem zd_Mo_forget_92 : decode zc_Mo_forget 92 = .ok (.iconst 1, 1) := by decide +kernel
theorem zd_Mo_forget_93 : decode zc_Mo_forget 93 = .ok (.iadd, 1) := by decide +kernel
theorem zd_Mo_forget_94 : decode zc_Mo_forget 94 = .ok (.iaload, 1) := by decide +kernel
theorem zd_Mo_forget_95 : decode zc_Mo_forget 95 = .ok (.iastore, 1) := by decide +kernel
theorem zd_Mo_forget_96 : decode zc_Mo_forget 96 = .ok (.aload_n 0, 1) := by decide +kernel
theorem zd_Mo_forget_97 : decode zc_Mo_forget 97 = .ok (.getfield 46, 3) := by decide +kernel
theorem zd_Mo_forget_100 : decode zc_Mo_forget 100 = .ok (.iload_n 2, 1) := by decide +kernel
theorem zd_Mo_forget_101 : decode zc_Mo_forget 101 = .ok (.aload_n 0, 1) := by decide +kernel
theorem zd_Mo_forget_102 : decode zc_Mo_forget 102 = .ok (.getfield 46, 3) := by decide +kernel
theorem zd_Mo_forget_105 : decode zc_Mo_forget 105 = .ok (.iload_n 2, 1) := by decide +kernel
theorem zd_Mo_forget_106 : decode zc_Mo_forget 106 = .ok (.iconst 1, 1) := by decide +kernel
theorem zd_Mo_forget_107 : decode zc_Mo_forget 107 = .ok (.iadd, 1) := by decide +kernel
theorem zd_Mo_forget_108 : decode zc_Mo_forget 108 = .ok (.iaload, 1) := by decide +kernel
theorem zd_Mo_forget_109 : decode zc_Mo_forget 109 = .ok (.iastore, 1) := by decide +kernel
theorem zd_Mo_forget_110 : decode zc_Mo_forget 110 = .ok (.aload_n 0, 1) := by decide +kernel
theorem zd_Mo_forget_111 : decode zc_Mo_forget 111 = .ok (.getfield 49, 3) := by decide +kernel
theorem zd_Mo_forget_114 : decode zc_Mo_forget 114 = .ok (.iload_n 2, 1) := by decide +kernel
theorem zd_Mo_forget_115 : decode zc_Mo_forget 115 = .ok (.aload_n 0, 1) := by decide +kernel
theorem zd_Mo_forget_116 : decode zc_Mo_forget 116 = .ok (.getfield 49, 3) := by decide +kernel
theorem zd_Mo_forget_119 : decode zc_Mo_forget 119 = .ok (.iload_n 2, 1) := by decide +kernel
theorem zd_Mo_forget_120 : decode zc_Mo_forget 120 = .ok (.iconst 1, 1) := by decide +kernel
theorem zd_Mo_forget_121 : decode zc_Mo_forget 121 = .ok (.iadd, 1) := by decide +kernel
theorem zd_Mo_forget_122 : decode zc_Mo_forget 122 = .ok (.iaload, 1) := by decide +kernel
theorem zd_Mo_forget_123 : decode zc_Mo_forget 123 = .ok (.iastore, 1) := by decide +kernel
theorem zd_Mo_forget_124 : decode zc_Mo_forget 124 = .ok (.iinc 2 1, 3) := by decide +kernel
theorem zd_Mo_forget_127 : decode zc_Mo_forget 127 = .ok (.goto (-67), 3) := by decide +kernel
theorem zd_Mo_forget_130 : decode zc_Mo_forget 130 = .ok (.return_, 1) := by decide +kernel
theorem zd_Mo_give_0 : decode zc_Mo_give 0 = .ok (.iconst 0, 1) := by decide +kernel
theorem zd_Mo_give_1 : decode zc_Mo_give 1 = .ok (.istore_n 2, 1) := by decide +kernel
theorem zd_Mo_give_2 : decode zc_Mo_give 2 = .ok (.iload_n 2, 1) := by decide +kernel
theorem zd_Mo_give_3 : decode zc_Mo_give 3 = .ok (.aload_n 0, 1) := by decide +kernel
theorem zd_Mo_give_4 : decode zc_Mo_give 4 = .ok (.getfield 125, 3) := by decide +kernel
theorem zd_Mo_give_7 : decode zc_Mo_give 7 = .ok (.if_icmp .ge 19, 3) := by decide +kernel
theorem zd_Mo_give_10 : decode zc_Mo_give 10 = .ok (.aload_n 0, 1) := by decide +kernel
theorem zd_Mo_give_11 : decode zc_Mo_give 11 = .ok (.getfield 43, 3) := by decide +kernel
theorem zd_Mo_give_14 : decode zc_Mo_give 14 = .ok (.iload_n 2, 1) := by decide +kernel
theorem zd_Mo_give_15 : decode zc_Mo_give 15 = .ok (.iaload, 1) := by decide +kernel
theorem zd_Mo_give_16 : decode zc_Mo_give 16 = .ok (.iload_n 1, 1) := by decide +kernel
theorem zd_Mo_give_17 : decode zc_Mo_give 17 = .ok (.if_icmp .eq 9, 3) := by decide +kernel
theorem zd_Mo_give_20 : decode zc_Mo_give 20 = .ok (.iinc 2 1, 3) := by decide +kernel
theorem zd_Mo_give_23 : decode zc_Mo_give 23 = .ok (.goto (-21), 3) := by decide +kernel
theorem zd_Mo_give_26 : decode zc_Mo_give 26 = .ok (.iload_n 2, 1) := by decide +kernel
theorem zd_Mo_give_27 : decode zc_Mo_give 27 = .ok (.aload_n 0, 1) := by decide +kernel
theorem zd_Mo_give_28 : decode zc_Mo_give 28 = .ok (.getfield 125, 3) := by decide +kernel
theorem zd_Mo_give_31 : decode zc_Mo_give 31 = .ok (.if_icmp .ne 12, 3) := by decide +kernel
theorem zd_Mo_give_34 : decode zc_Mo_give 34 = .ok (.aload_n 0, 1) := by decide +kernel
theorem zd_Mo_give_35 : decode zc_Mo_give 35 = .ok (.iconst 5, 1) := by decide +kernel
theorem zd_Mo_give_36 : decode zc_Mo_give 36 = .ok (.iload_n 1, 1) := by decide +kernel
theorem zd_Mo_give_37 : decode zc_Mo_give 37 = .ok (.invokevirtual 112, 3) := by decide +kernel
theorem zd_Mo_give_40 : decode zc_Mo_give 40 = .ok (.goto 66, 3) := by decide +kernel
theorem zd_Mo_give_43 : decode zc_Mo_give 43 = .ok (.aload_n 0, 1) := by decide +kernel
theorem zd_Mo_give_44 : decode zc_Mo_give 44 = .ok (.getfield 49, 3) := by decide +kernel
theorem zd_Mo_give_47 : decode zc_Mo_give 47 = .ok (.iload_n 2, 1) := by decide +kernel
theorem zd_Mo_give_48 : decode zc_Mo_give 48 = .ok (.iaload, 1) := by decide +kernel
theorem zd_Mo_give_49 : decode zc_Mo_give 49 = .ok (.ifCond .le 13, 3) := by decide +kernel
theorem zd_Mo_give_52 : decode zc_Mo_give 52 = .ok (.aload_n 0, 1) := by decide +kernel
theorem zd_Mo_give_53 : decode zc_Mo_give 53 = .ok (.bipush 6, 2) := by decide +kernel
theorem zd_Mo_give_55 : decode zc_Mo_give 55 = .ok (.iload_n 1, 1) := by decide +kernel
theorem zd_Mo_give_56 : decode zc_Mo_give 56 = .ok (.invokevirtual 112, 3) := by decide +kernel
theorem zd_Mo_give_59 : decode zc_Mo_give 59 = .ok (.goto 47, 3) := by decide +kernel
theorem zd_Mo_give_62 : decode zc_Mo_give 62 = .ok (.aload_n 0, 1) := by decide +kernel
theorem zd_Mo_give_63 : decode zc_Mo_give 63 = .ok (.dup, 1) := by decide +kernel
theorem zd_Mo_give_64 : decode zc_Mo_give 64 = .ok (.getfield 141, 3) := by decide +kernel
theorem zd_Mo_give_67 : decode zc_Mo_give 67 = .ok (.iconst 1, 1) := by decide +kernel
theorem zd_Mo_give_68 : decode zc_Mo_give 68 = .ok (.iadd, 1) := by decide +kernel
theorem zd_Mo_give_69 : decode zc_Mo_give 69 = .ok (.putfield 141, 3) := by decide +kernel
theorem zd_Mo_give_72 : decode zc_Mo_give 72 = .ok (.aload_n 0, 1) := by decide +kernel
theorem zd_Mo_give_73 : decode zc_Mo_give 73 = .ok (.getfield 49, 3) := by decide +kernel
theorem zd_Mo_give_76 : decode zc_Mo_give 76 = .ok (.iload_n 2, 1) := by decide +kernel
theorem zd_Mo_give_77 : decode zc_Mo_give 77 = .ok (.aload_n 0, 1) := by decide +kernel
theorem zd_Mo_give_78 : decode zc_Mo_give 78 = .ok (.getfield 141, 3) := by decide +kernel
theorem zd_Mo_give_81 : decode zc_Mo_give 81 = .ok (.iastore, 1) := by decide +kernel
theorem zd_Mo_give_82 : decode zc_Mo_give 82 = .ok (.aload_n 0, 1) := by decide +kernel
theorem zd_Mo_give_83 : decode zc_Mo_give 83 = .ok (.iload_n 1, 1) := by decide +kernel
theorem zd_Mo_give_84 : decode zc_Mo_give 84 = .ok (.aload_n 0, 1) := by decide +kernel
theorem zd_Mo_give_85 : decode zc_Mo_give 85 = .ok (.getfield 46, 3) := by decide +kernel
theorem zd_Mo_give_88 : decode zc_Mo_give 88 = .ok (.iload_n 2, 1) := by decide +kernel
theorem zd_Mo_give_89 : decode zc_Mo_give 89 = .ok (.iaload, 1) := by decide +kernel
theorem zd_Mo_give_90 : decode zc_Mo_give 90 = .ok (.iconst 0, 1) := by decide +kernel
theorem zd_Mo_give_91 : decode zc_Mo_give 91 = .ok (.invokevirtual 138, 3) := by decide +kernel
theorem zd_Mo_give_94 : decode zc_Mo_give 94 = .ok (.aload_n 0, 1) := by decide +kernel
theorem zd_Mo_give_95 : decode zc_Mo_give 95 = .ok (.invokevirtual 144, 3) := by decide +kernel
theorem zd_Mo_give_98 : decode zc_Mo_give 98 = .ok (.iconst 3, 1) := by decide +kernel
theorem zd_Mo_give_99 : decode zc_Mo_give 99 = .ok (.if_icmp .le 7, 3) := by decide +kernel
theorem zd_Mo_give_102 : decode zc_Mo_give 102 = .ok (.aload_n 0, 1) := by decide +kernel
theorem zd_Mo_give_103 : decode zc_Mo_give 103 = .ok (.invokevirtual 148, 3) := by decide +kernel
theorem zd_Mo_give_106 : decode zc_Mo_give 106 = .ok (.return_, 1) := by decide +kernel
theorem zd_Mo_perform_0 : decode zc_Mo_perform 0 = .ok (.aload_n 0, 1) := by decide +kernel
theorem zd_Mo_perform_1 : decode zc_Mo_perform 1 = .ok (.getfield 34, 3) := by decide +kernel
theorem zd_Mo_perform_4 : decode zc_Mo_perform 4 = .ok (.aload_n 0, 1) := by decide +kernel
theorem zd_Mo_perform_5 : decode zc_Mo_perform 5 = .ok (.getfield 16, 3) := by decide +kernel
theorem zd_Mo_perform_8 : decode zc_Mo_perform 8 = .ok (.iload_n 2, 1) := by decide +kernel
theorem zd_Mo_perform_9 : decode zc_Mo_perform 9 = .ok (.iaload, 1) := by decide +kernel
theorem zd_Mo_perform_10 : decode zc_Mo_perform 10 = .ok (.iaload, 1) := by decide +kernel
theorem zd_Mo_perform_11 : decode zc_Mo_perform 11 = .ok (.istore_n 3, 1) := by decide +kernel
theorem zd_Mo_perform_12 : decode zc_Mo_perform 12 = .ok (.iload_n 2, 1) := by decide +kernel
theorem zd_Mo_perform_13 : decode zc_Mo_perform 13 = .ok (.iconst 1, 1) := by decide +kernel
theorem zd_Mo_perform_14 : decode zc_Mo_perform 14 = .ok (.iadd, 1) := by decide +kernel
theorem zd_Mo_perform_15 : decode zc_Mo_perform 15 = .ok (.bipush 31, 2) := by decide +kernel
theorem zd_Mo_perform_17 : decode zc_Mo_perform 17 = .ok (.iand, 1) := by decide +kernel
theorem zd_Mo_perform_18 : decode zc_Mo_perform 18 = .ok (.istore 4, 2) := by decide +kernel
theorem zd_Mo_perform_20 : decode zc_Mo_perform 20 = .ok (.aload_n 0, 1) := by decide +kernel
theorem zd_Mo_perform_21 : decode zc_Mo_perform 21 = .ok (.getfield 37, 3) := by decide +kernel
theorem zd_Mo_perform_24 : decode zc_Mo_perform 24 = .ok (.aload_n 0, 1) := by decide +kernel
theorem zd_Mo_perform_25 : decode zc_Mo_perform 25 = .ok (.getfield 16, 3) := by decide +kernel
theorem zd_Mo_perform_28 : decode zc_Mo_perform 28 = .ok (.iload_n 2, 1) := by decide +kernel
theorem zd_Mo_perform_29 : decode zc_Mo_perform 29 = .ok (.iaload, 1) := by decide +kernel
theorem zd_Mo_perform_30 : decode zc_Mo_perform 30 = .ok (.iaload, 1) := by decide +kernel
theorem zd_Mo_perform_31 : decode zc_Mo_perform 31 = .ok (.bipush 15, 2) := by decide +kernel
theorem zd_Mo_perform_33 : decode zc_Mo_perform 33 = .ok (.if_icmp .ne 31, 3) := by decide +kernel
theorem zd_Mo_perform_36 : decode zc_Mo_perform 36 = .ok (.iload_n 1, 1) := by decide +kernel
theorem zd_Mo_perform_37 : decode zc_Mo_perform 37 = .ok (.bipush 13, 2) := by decide +kernel
theorem zd_Mo_perform_39 : decode zc_Mo_perform 39 = .ok (.if_icmp .eq 9, 3) := by decide +kernel
theorem zd_Mo_perform_42 : decode zc_Mo_perform 42 = .ok (.iload_n 1, 1) := by decide +kernel
theorem zd_Mo_perform_43 : decode zc_Mo_perform 43 = .ok (.bipush 14, 2) := by decide +kernel
theorem zd_Mo_perform_45 : decode zc_Mo_perform 45 = .ok (.if_icmp .ne 23, 3) := by decide +kernel
theorem zd_Mo_perform_48 : decode zc_Mo_perform 48 = .ok (.aload_n 0, 1) := by decide +kernel
theorem zd_Mo_perform_49 : decode zc_Mo_perform 49 = .ok (.getfield 37, 3) := by decide +kernel
theorem zd_Mo_perform_52 : decode zc_Mo_perform 52 = .ok (.aload_n 0, 1) := by decide +kernel
theorem zd_Mo_perform_53 : decode zc_Mo_perform 53 = .ok (.getfield 19, 3) := by decide +kernel
theorem zd_Mo_perform_56 : decode zc_Mo_perform 56 = .ok (.iload_n 2, 1) := by decide +kernel
theorem zd_Mo_perform_57 : decode zc_Mo_perform 57 = .ok (.iaload, 1) := by decide +kernel
theorem zd_Mo_perform_58 : decode zc_Mo_perform 58 = .ok (.iaload, 1) := by decide +kernel
theorem zd_Mo_perform_59 : decode zc_Mo_perform 59 = .ok (.bipush 15, 2) := by decide +kernel
theorem zd_Mo_perform_61 : decode zc_Mo_perform 61 = .ok (.if_icmp .eq 7, 3) := by decide +kernel
theorem zd_Mo_perform_64 : decode zc_Mo_perform 64 = .ok (.iconst 1, 1) := by decide +kernel
theorem zd_Mo_perform_65 : decode zc_Mo_perform 65 = .ok (.goto 4, 3) := by decide +kernel
theorem zd_Mo_perform_68 : decode zc_Mo_perform 68 = .ok (.iconst 0, 1) := by decide +kernel
theorem zd_Mo_perform_69 : decode zc_Mo_perform 69 = .ok (.istore 5, 2) := by decide +kernel
theorem zd_Mo_perform_71 : decode zc_Mo_perform 71 = .ok (.iload_n 1, 1) := by decide +kernel
theorem zd_Mo_perform_72 : decode zc_Mo_perform 72 = .ok (.bipush 13, 2) := by decide +kernel
theorem zd_Mo_perform_74 : decode zc_Mo_perform 74 = .ok (.if_icmp .eq 15, 3) := by decide +kernel
theorem zd_Mo_perform_77 : decode zc_Mo_perform 77 = .ok (.iload_n 1, 1) := by decide +kernel
theorem zd_Mo_perform_78 : decode zc_Mo_perform 78 = .ok (.bipush 14, 2) := by decide +kernel
theorem zd_Mo_perform_80 : decode zc_Mo_perform 80 = .ok (.if_icmp .eq 9, 3) := by decide +kernel
theorem zd_Mo_perform_83 : decode zc_Mo_perform 83 = .ok (.iload_n 1, 1) := by decide +kernel
theorem zd_Mo_perform_84 : decode zc_Mo_perform 84 = .ok (.bipush 15, 2) := by decide +kernel
theorem zd_Mo_perform_86 : decode zc_Mo_perform 86 = .ok (.if_icmp .le 14, 3) := by decide +kernel
theorem zd_Mo_perform_89 : decode zc_Mo_perform 89 = .ok (.iload 5, 2) := by decide +kernel
theorem zd_Mo_perform_91 : decode zc_Mo_perform 91 = .ok (.ifCond .eq 9, 3) := by decide +kernel
theorem zd_Mo_perform_94 : decode zc_Mo_perform 94 = .ok (.aload_n 0, 1) := by decide +kernel
theorem zd_Mo_perform_95 : decode zc_Mo_perform 95 = .ok (.iconst 3, 1) := by decide +kernel
theorem zd_Mo_perform_96 : decode zc_Mo_perform 96 = .ok (.iload_n 3, 1) := by decide +kernel
theorem zd_Mo_perform_97 : decode zc_Mo_perform 97 = .ok (.invokevirtual 112, 3) := by decide +kernel
theorem zd_Mo_perform_100 : decode zc_Mo_perform 100 = .ok (.iload_n 1, 1) := by decide +kernel
theorem zd_Mo_perform_101 : decode zc_Mo_perform 101 = .ok (.bipush 13, 2) := by decide +kernel
theorem zd_Mo_perform_103 : decode zc_Mo_perform 103 = .ok (.if_icmp .ne 33, 3) := by decide +kernel
theorem zd_Mo_perform_106 : decode zc_Mo_perform 106 = .ok (.iload_n 3, 1) := by decide +kernel
theorem zd_Mo_perform_107 : decode zc_Mo_perform 107 = .ok (.aload_n 0, 1) := by decide +kernel
theorem zd_Mo_perform_108 : decode zc_Mo_perform 108 = .ok (.getfield 34, 3) := by decide +kernel
theorem zd_Mo_perform_111 : decode zc_Mo_perform 111 = .ok (.aload_n 0, 1) := by decide +kernel
theorem zd_Mo_perform_112 : decode zc_Mo_perform 112 = .ok (.getfield 19, 3) := by decide +kernel
theorem zd_Mo_perform_115 : decode zc_Mo_perform 115 = .ok (.iload_n 2, 1) := by decide +kernel
theorem zd_Mo_perform_116 : decode zc_Mo_perform 116 = .ok (.iaload, 1) := by decide +kernel
theorem zd_Mo_perform_117 : decode zc_Mo_perform 117 = .ok (.iaload, 1) := by decide +kernel
theorem zd_Mo_perform_118 : decode zc_Mo_perform 118 = .ok (.if_icmp .ne 15, 3) := by decide +kernel
theorem zd_Mo_perform_121 : decode zc_Mo_perform 121 = .ok (.aload_n 0, 1) := by decide +kernel
theorem zd_Mo_perform_122 : decode zc_Mo_perform 122 = .ok (.getfield 22, 3) := by decide +kernel
theorem zd_Mo_perform_125 : decode zc_Mo_perform 125 = .ok (.iload_n 2, 1) := by decide +kernel
theorem zd_Mo_perform_126 : decode zc_Mo_perform 126 = .ok (.iaload, 1) := by decide +kernel
theorem zd_Mo_perform_127 : decode zc_Mo_perform 127 = .ok (.bipush 31, 2) := by decide +kernel
theorem zd_Mo_perform_129 : decode zc_Mo_perform 129 = .ok (.iand, 1) := by decide +kernel
theorem zd_Mo_perform_130 : decode zc_Mo_perform 130 = .ok (.goto 5, 3) := by decide +kernel
theorem zd_Mo_perform_133 : decode zc_Mo_perform 133 = .ok (.iload 4, 2) := by decide +kernel
theorem zd_Mo_perform_135 : decode zc_Mo_perform 135 = .ok (.ireturn, 1) := by decide +kernel
theorem zd_Mo_perform_136 : decode zc_Mo_perform 136 = .ok (.iload_n 1, 1) := by decide +kernel
theorem zd_Mo_perform_137 : decode zc_Mo_perform 137 = .ok (.bipush 14, 2) := by decide +kernel
theorem zd_Mo_perform_139 : decode zc_Mo_perform 139 = .ok (.if_icmp .ne 33, 3) := by decide +kernel
theorem zd_Mo_perform_142 : decode zc_Mo_perform 142 = .ok (.iload_n 3, 1) := by decide +kernel
theorem zd_Mo_perform_143 : decode zc_Mo_perform 143 = .ok (.aload_n 0, 1) := by decide +kernel
theorem zd_Mo_perform_144 : decode zc_Mo_perform 144 = .ok (.getfield 34, 3) := by decide +kernel
theorem zd_Mo_perform_147 : decode zc_Mo_perform 147 = .ok (.aload_n 0, 1) := by decide +kernel
theorem zd_Mo_perform_148 : decode zc_Mo_perform 148 = .ok (.getfield 19, 3) := by decide +kernel
theorem zd_Mo_perform_151 : decode zc_Mo_perform 151 = .ok (.iload_n 2, 1) := by decide +kernel
theorem zd_Mo_perform_152 : decode zc_Mo_perform 152 = .ok (.iaload, 1) := by decide +kernel
theorem zd_Mo_perform_153 : decode zc_Mo_perform 153 = .ok (.iaload, 1) := by decide +kernel
theorem zd_Mo_perform_154 : decode zc_Mo_perform 154 = .ok (.if_icmp .ge 15, 3) := by decide +kernel
theorem zd_Mo_perform_157 : decode zc_Mo_perform 157 = .ok (.aload_n 0, 1) := by decide +kernel
theorem zd_Mo_perform_158 : decode zc_Mo_perform 158 = .ok (.getfield 22, 3) := by decide +kernel
theorem zd_Mo_perform_161 : decode zc_Mo_perform 161 = .ok (.iload_n 2, 1) := by decide +kernel
theorem zd_Mo_perform_162 : decode zc_Mo_perform 162 = .ok (.iaload, 1) := by decide +kernel
theorem zd_Mo_perform_163 : decode zc_Mo_perform 163 = .ok (.bipush 31, 2) := by decide +kernel
theorem zd_Mo_perform_165 : decode zc_Mo_perform 165 = .ok (.iand, 1) := by decide +kernel
theorem zd_Mo_perform_166 : decode zc_Mo_perform 166 = .ok (.goto 5, 3) := by decide +kernel
theorem zd_Mo_perform_169 : decode zc_Mo_perform 169 = .ok (.iload 4, 2) := by decide +kernel
theorem zd_Mo_perform_171 : decode zc_Mo_perform 171 = .ok (.ireturn, 1) := by decide +kernel
theorem zd_Mo_perform_172 : decode zc_Mo_perform 172 = .ok (.iload_n 1, 1) := by decide +kernel
theorem zd_Mo_perform_173 : decode zc_Mo_perform 173 = .ok (.bipush 15, 2) := by decide +kernel
theorem zd_Mo_perform_175 : decode zc_Mo_perform 175 = .ok (.if_icmp .ne 17, 3) := by decide +kernel
theorem zd_Mo_perform_178 : decode zc_Mo_perform 178 = .ok (.aload_n 0, 1) := by decide +kernel
theorem zd_Mo_perform_179 : decode zc_Mo_perform 179 = .ok (.aload_n 0, 1) := by decide +kernel
theorem zd_Mo_perform_180 : decode zc_Mo_perform 180 = .ok (.getfield 13, 3) := by decide +kernel
theorem zd_Mo_perform_183 : decode zc_Mo_perform 183 = .ok (.iload_n 2, 1) := by decide +kernel
theorem zd_Mo_perform_184 : decode zc_Mo_perform 184 = .ok (.iaload, 1) := by decide +kernel
theorem zd_Mo_perform_185 : decode zc_Mo_perform 185 = .ok (.iload 4, 2) := by decide +kernel
theorem zd_Mo_perform_187 : decode zc_Mo_perform 187 = .ok (.bipush 15, 2) := by decide +kernel
theorem zd_Mo_perform_189 : decode zc_Mo_perform 189 = .ok (.invokevirtual 98, 3) := by decide +kernel
theorem zd_Mo_perform_192 : decode zc_Mo_perform 192 = .ok (.iload_n 1, 1) := by decide +kernel
theorem zd_Mo_perform_193 : decode zc_Mo_perform 193 = .ok (.bipush 15, 2) := by decide +kernel
theorem zd_Mo_perform_195 : decode zc_Mo_perform 195 = .ok (.if_icmp .ne 13, 3) := by decide +kernel
theorem zd_Mo_perform_198 : decode zc_Mo_perform 198 = .ok (.aload_n 0, 1) := by decide +kernel
theorem zd_Mo_perform_199 : decode zc_Mo_perform 199 = .ok (.getfield 22, 3) := by decide +kernel
theorem zd_Mo_perform_202 : decode zc_Mo_perform 202 = .ok (.iload_n 2, 1) := by decide +kernel
theorem zd_Mo_perform_203 : decode zc_Mo_perform 203 = .ok (.iaload, 1) := by decide +kernel
theorem zd_Mo_perform_204 : decode zc_Mo_perform 204 = .ok (.bipush 31, 2) := by decide +kernel
theorem zd_Mo_perform_206 : decode zc_Mo_perform 206 = .ok (.iand, 1) := by decide +kernel
theorem zd_Mo_perform_207 : decode zc_Mo_perform 207 = .ok (.ireturn, 1) := by decide +kernel
theorem zd_Mo_perform_208 : decode zc_Mo_perform 208 = .ok (.iload_n 1, 1) := by decide +kernel
theorem zd_Mo_perform_209 : decode zc_Mo_perform 209 = .ok (.bipush 16, 2) := by decide +kernel
theorem zd_Mo_perform_211 : decode zc_Mo_perform 211 = .ok (.if_icmp .ne 8, 3) := by decide +kernel
theorem zd_Mo_perform_214 : decode zc_Mo_perform 214 = .ok (.iload_n 3, 1) := by decide +kernel
theorem zd_Mo_perform_215 : decode zc_Mo_perform 215 = .ok (.bipush 31, 2) := by decide +kernel
theorem zd_Mo_perform_217 : decode zc_Mo_perform 217 = .ok (.iand, 1) := by decide +kernel
theorem zd_Mo_perform_218 : decode zc_Mo_perform 218 = .ok (.ireturn, 1) := by decide +kernel
theorem zd_Mo_perform_219 : decode zc_Mo_perform 219 = .ok (.iload_n 1, 1) := by decide +kernel
theorem zd_Mo_perform_220 : decode zc_Mo_perform 220 = .ok (.bipush 17, 2) := by decide +kernel
theorem zd_Mo_perform_222 : decode zc_Mo_perform 222 = .ok (.if_icmp .ne 23, 3) := by decide +kernel
theorem zd_Mo_perform_225 : decode zc_Mo_perform 225 = .ok (.aload_n 0, 1) := by decide +kernel
theorem zd_Mo_perform_226 : decode zc_Mo_perform 226 = .ok (.aload_n 0, 1) := by decide +kernel
theorem zd_Mo_perform_227 : decode zc_Mo_perform 227 = .ok (.getfield 13, 3) := by decide +kernel
theorem zd_Mo_perform_230 : decode zc_Mo_perform 230 = .ok (.iload_n 2, 1) := by decide +kernel
theorem zd_Mo_perform_231 : decode zc_Mo_perform 231 = .ok (.iaload, 1) := by decide +kernel
theorem zd_Mo_perform_232 : decode zc_Mo_perform 232 = .ok (.aload_n 0, 1) := by decide +kernel
theorem zd_Mo_perform_233 : decode zc_Mo_perform 233 = .ok (.iload_n 3, 1) := by decide +kernel
theorem zd_Mo_perform_234 : decode zc_Mo_perform 234 = .ok (.invokevirtual 151, 3) := by decide +kernel
theorem zd_Mo_perform_237 : decode zc_Mo_perform 237 = .ok (.bipush 15, 2) := by decide +kernel
theorem zd_Mo_perform_239 : decode zc_Mo_perform 239 = .ok (.invokevirtual 98, 3) := by decide +kernel
theorem zd_Mo_perform_242 : decode zc_Mo_perform 242 = .ok (.goto 23, 3) := by decide +kernel
theorem zd_Mo_perform_245 : decode zc_Mo_perform 245 = .ok (.iload_n 1, 1) := by decide +kernel
theorem zd_Mo_perform_246 : decode zc_Mo_perform 246 = .ok (.bipush 18, 2) := by decide +kernel
theorem zd_Mo_perform_248 : decode zc_Mo_perform 248 = .ok (.if_icmp .ne 11, 3) := by decide +kernel
theorem zd_Mo_perform_251 : decode zc_Mo_perform 251 = .ok (.aload_n 0, 1) := by decide +kernel
theorem zd_Mo_perform_252 : decode zc_Mo_perform 252 = .ok (.iload_n 3, 1) := by decide +kernel
theorem zd_Mo_perform_253 : decode zc_Mo_perform 253 = .ok (.invokevirtual 154, 3) := by decide +kernel
theorem zd_Mo_perform_256 : decode zc_Mo_perform 256 = .ok (.goto 9, 3) := by decide +kernel
theorem zd_Mo_perform_259 : decode zc_Mo_perform 259 = .ok (.aload_n 0, 1) := by decide +kernel
theorem zd_Mo_perform_260 : decode zc_Mo_perform 260 = .ok (.iload_n 1, 1) := by decide +kernel
theorem zd_Mo_perform_261 : decode zc_Mo_perform 261 = .ok (.iload_n 2, 1) := by decide +kernel
theorem zd_Mo_perform_262 : decode zc_Mo_perform 262 = .ok (.invokevirtual 158, 3) := by decide +kernel
theorem zd_Mo_perform_265 : decode zc_Mo_perform 265 = .ok (.iload 4, 2) := by decide +kernel
theorem zd_Mo_perform_267 : decode zc_Mo_perform 267 = .ok (.ireturn, 1) := by decide +kernel
theorem zd_Mo_run_0 : decode zc_Mo_run 0 = .ok (.aload_n 0, 1) := by decide +kernel
theorem zd_Mo_run_1 : decode zc_Mo_run 1 = .ok (.iload_n 1, 1) := by decide +kernel
theorem zd_Mo_run_2 : decode zc_Mo_run 2 = .ok (.iconst 1, 1) := by decide +kernel
theorem zd_Mo_run_3 : decode zc_Mo_run 3 = .ok (.sipush 200, 3) := by decide +kernel
theorem zd_Mo_run_6 : decode zc_Mo_run 6 = .ok (.invokestatic 79, 3) := by decide +kernel
theorem zd_Mo_run_9 : decode zc_Mo_run 9 = .ok (.invokevirtual 87, 3) := by decide +kernel
theorem zd_Mo_run_12 : decode zc_Mo_run 12 = .ok (.ifCond .eq 5, 3) := by decide +kernel
theorem zd_Mo_run_15 : decode zc_Mo_run 15 = .ok (.iconst 0, 1) := by decide +kernel
theorem zd_Mo_run_16 : decode zc_Mo_run 16 = .ok (.ireturn, 1) := by decide +kernel
theorem zd_Mo_run_17 : decode zc_Mo_run 17 = .ok (.aload_n 0, 1) := by decide +kernel
theorem zd_Mo_run_18 : decode zc_Mo_run 18 = .ok (.getfield 71, 3) := by decide +kernel
theorem zd_Mo_run_21 : decode zc_Mo_run 21 = .ok (.ifCond .eq 10, 3) := by decide +kernel
theorem zd_Mo_run_24 : decode zc_Mo_run 24 = .ok (.aload_n 0, 1) := by decide +kernel
theorem zd_Mo_run_25 : decode zc_Mo_run 25 = .ok (.iconst 2, 1) := by decide +kernel
theorem zd_Mo_run_26 : decode zc_Mo_run 26 = .ok (.putfield 75, 3) := by decide +kernel
theorem zd_Mo_run_29 : decode zc_Mo_run 29 = .ok (.iconst 0, 1) := by decide +kernel
theorem zd_Mo_run_30 : decode zc_Mo_run 30 = .ok (.ireturn, 1) := by decide +kernel
theorem zd_Mo_run_31 : decode zc_Mo_run 31 = .ok (.iconst 0, 1) := by decide +kernel
theorem zd_Mo_run_32 : decode zc_Mo_run 32 = .ok (.istore_n 2, 1) := by decide +kernel
theorem zd_Mo_run_33 : decode zc_Mo_run 33 = .ok (.iconst (-1), 1) := by decide +kernel
theorem zd_Mo_run_34 : decode zc_Mo_run 34 = .ok (.istore_n 3, 1) := by decide +kernel
theorem zd_Mo_run_35 : decode zc_Mo_run 35 = .ok (.iload_n 2, 1) := by decide +kernel
theorem zd_Mo_run_36 : decode zc_Mo_run 36 = .ok (.iload_n 1, 1) := by decide +kernel
theorem zd_Mo_run_37 : decode zc_Mo_run 37 = .ok (.if_icmp .ge 170, 3) := by decide +kernel
theorem zd_Mo_run_40 : decode zc_Mo_run 40 = .ok (.aload_n 0, 1) := by decide +kernel
theorem zd_Mo_run_41 : decode zc_Mo_run 41 = .ok (.getfield 71, 3) := by decide +kernel
theorem zd_Mo_run_44 : decode zc_Mo_run 44 = .ok (.ifCond .ne 163, 3) := by decide +kernel
theorem zd_Mo_run_47 : decode zc_Mo_run 47 = .ok (.aload_n 0, 1) := by decide +kernel
theorem zd_Mo_run_48 : decode zc_Mo_run 48 = .ok (.getfield 95, 3) := by decide +kernel
theorem zd_Mo_run_51 : decode zc_Mo_run 51 = .ok (.istore 4, 2) := by decide +kernel
theorem zd_Mo_run_53 : decode zc_Mo_run 53 = .ok (.aload_n 0, 1) := by decide +kernel
theorem zd_Mo_run_54 : decode zc_Mo_run 54 = .ok (.getfield 7, 3) := by decide +kernel
theorem zd_Mo_run_57 : decode zc_Mo_run 57 = .ok (.iload 4, 2) := by decide +kernel
theorem zd_Mo_run_59 : decode zc_Mo_run 59 = .ok (.iaload, 1) := by decide +kernel
theorem zd_Mo_run_60 : decode zc_Mo_run 60 = .ok (.istore 5, 2) := by decide +kernel
theorem zd_Mo_run_62 : decode zc_Mo_run 62 = .ok (.iload_n 3, 1) := by decide +kernel
theorem zd_Mo_run_63 : decode zc_Mo_run 63 = .ok (.ifCond .ge 38, 3) := by decide +kernel
theorem zd_Mo_run_66 : decode zc_Mo_run 66 = .ok (.aload_n 0, 1) := by decide +kernel
theorem zd_Mo_run_67 : decode zc_Mo_run 67 = .ok (.getfield 67, 3) := by decide +kernel
theorem zd_Mo_run_70 : decode zc_Mo_run 70 = .ok (.iload 4, 2) := by decide +kernel
theorem zd_Mo_run_72 : decode zc_Mo_run 72 = .ok (.baload, 1) := by decide +kernel
theorem zd_Mo_run_73 : decode zc_Mo_run 73 = .ok (.ifCond .ne 13, 3) := by decide +kernel
theorem zd_Mo_run_76 : decode zc_Mo_run 76 = .ok (.aload_n 0, 1) := by decide +kernel
theorem zd_Mo_run_77 : decode zc_Mo_run 77 = .ok (.dup, 1) := by decide +kernel
theorem zd_Mo_run_78 : decode zc_Mo_run 78 = .ok (.getfield 161, 3) := by decide +kernel
theorem zd_Mo_run_81 : decode zc_Mo_run 81 = .ok (.iconst 1, 1) := by decide +kernel
theorem zd_Mo_run_82 : decode zc_Mo_run 82 = .ok (.iadd, 1) := by decide +kernel
theorem zd_Mo_run_83 : decode zc_Mo_run 83 = .ok (.putfield 161, 3) := by decide +kernel
theorem zd_Mo_run_86 : decode zc_Mo_run 86 = .ok (.aload_n 0, 1) := by decide +kernel
theorem zd_Mo_run_87 : decode zc_Mo_run 87 = .ok (.getfield 67, 3) := by decide +kernel
theorem zd_Mo_run_90 : decode zc_Mo_run 90 = .ok (.iload 4, 2) := by decide +kernel
theorem zd_Mo_run_92 : decode zc_Mo_run 92 = .ok (.iconst 1, 1) := by decide +kernel
theorem zd_Mo_run_93 : decode zc_Mo_run 93 = .ok (.bastore, 1) := by decide +kernel
theorem zd_Mo_run_94 : decode zc_Mo_run 94 = .ok (.aload_n 0, 1) := by decide +kernel
theorem zd_Mo_run_95 : decode zc_Mo_run 95 = .ok (.iload 4, 2) := by decide +kernel
theorem zd_Mo_run_97 : decode zc_Mo_run 97 = .ok (.invokevirtual 91, 3) := by decide +kernel
theorem zd_Mo_run_100 : decode zc_Mo_run 100 = .ok (.istore_n 3, 1) := by decide +kernel
theorem zd_Mo_run_101 : decode zc_Mo_run 101 = .ok (.iload 5, 2) := by decide +kernel
theorem zd_Mo_run_103 : decode zc_Mo_run 103 = .ok (.bipush 9, 2) := by decide +kernel
theorem zd_Mo_run_105 : decode zc_Mo_run 105 = .ok (.bipush 12, 2) := by decide +kernel
theorem zd_Mo_run_107 : decode zc_Mo_run 107 = .ok (.invokestatic 79, 3) := by decide +kernel
theorem zd_Mo_run_110 : decode zc_Mo_run 110 = .ok (.ifCond .eq 26, 3) := by decide +kernel
theorem zd_Mo_run_113 : decode zc_Mo_run 113 = .ok (.aload_n 0, 1) := by decide +kernel
theorem zd_Mo_run_114 : decode zc_Mo_run 114 = .ok (.iload 5, 2) := by decide +kernel
theorem zd_Mo_run_116 : decode zc_Mo_run 116 = .ok (.iload 4, 2) := by decide +kernel
theorem zd_Mo_run_118 : decode zc_Mo_run 118 = .ok (.invokevirtual 164, 3) := by decide +kernel
theorem zd_Mo_run_121 : decode zc_Mo_run 121 = .ok (.ifCond .ne 15, 3) := by decide +kernel
theorem zd_Mo_run_124 : decode zc_Mo_run 124 = .ok (.aload_n 0, 1) := by decide +kernel
theorem zd_Mo_run_125 : decode zc_Mo_run 125 = .ok (.iconst 1, 1) := by decide +kernel
theorem zd_Mo_run_126 : decode zc_Mo_run 126 = .ok (.putfield 71, 3) := by decide +kernel
theorem zd_Mo_run_129 : decode zc_Mo_run 129 = .ok (.aload_n 0, 1) := by decide +kernel
theorem zd_Mo_run_130 : decode zc_Mo_run 130 = .ok (.iconst 3, 1) := by decide +kernel
theorem zd_Mo_run_131 : decode zc_Mo_run 131 = .ok (.putfield 75, 3) := by decide +kernel
theorem zd_Mo_run_134 : decode zc_Mo_run 134 = .ok (.iconst 0, 1) := by decide +kernel
theorem zd_Mo_run_135 : decode zc_Mo_run 135 = .ok (.ireturn, 1) := by decide +kernel
theorem zd_Mo_run_136 : decode zc_Mo_run 136 = .ok (.iinc 2 1, 3) := by decide +kernel
theorem zd_Mo_run_139 : decode zc_Mo_run 139 = .ok (.aload_n 0, 1) := by decide +kernel
theorem zd_Mo_run_140 : decode zc_Mo_run 140 = .ok (.dup, 1) := by decide +kernel
theorem zd_Mo_run_141 : decode zc_Mo_run 141 = .ok (.getfield 167, 3) := by decide +kernel
theorem zd_Mo_run_144 : decode zc_Mo_run 144 = .ok (.iconst 1, 1) := by decide +kernel
theorem zd_Mo_run_145 : decode zc_Mo_run 145 = .ok (.iadd, 1) := by decide +kernel
theorem zd_Mo_run_146 : decode zc_Mo_run 146 = .ok (.putfield 167, 3) := by decide +kernel
theorem zd_Mo_run_149 : decode zc_Mo_run 149 = .ok (.iload 4, 2) := by decide +kernel
theorem zd_Mo_run_151 : decode zc_Mo_run 151 = .ok (.iload_n 3, 1) := by decide +kernel
theorem zd_Mo_run_152 : decode zc_Mo_run 152 = .ok (.if_icmp .ne 5, 3) := by decide +kernel
theorem zd_Mo_run_155 : decode zc_Mo_run 155 = .ok (.iconst (-1), 1) := by decide +kernel
theorem zd_Mo_run_156 : decode zc_Mo_run 156 = .ok (.istore_n 3, 1) := by decide +kernel
theorem zd_Mo_run_157 : decode zc_Mo_run 157 = .ok (.iload 5, 2) := by decide +kernel
theorem zd_Mo_run_159 : decode zc_Mo_run 159 = .ok (.ifCond .ne 11, 3) := by decide +kernel
theorem zd_Mo_run_162 : decode zc_Mo_run 162 = .ok (.aload_n 0, 1) := by decide +kernel
theorem zd_Mo_run_163 : decode zc_Mo_run 163 = .ok (.iconst 1, 1) := by decide +kernel
theorem zd_Mo_run_164 : decode zc_Mo_run 164 = .ok (.putfield 71, 3) := by decide +kernel
theorem zd_Mo_run_167 : decode zc_Mo_run 167 = .ok (.goto 37, 3) := by decide +kernel
theorem zd_Mo_run_170 : decode zc_Mo_run 170 = .ok (.aload_n 0, 1) := by decide +kernel
theorem zd_Mo_run_171 : decode zc_Mo_run 171 = .ok (.iload 5, 2) := by decide +kernel
theorem zd_Mo_run_173 : decode zc_Mo_run 173 = .ok (.bipush 9, 2) := by decide +kernel
theorem zd_Mo_run_175 : decode zc_Mo_run 175 = .ok (.bipush 12, 2) := by decide +kernel
theorem zd_Mo_run_177 : decode zc_Mo_run 177 = .ok (.invokestatic 79, 3) := by decide +kernel
theorem zd_Mo_run_180 : decode zc_Mo_run 180 = .ok (.ifCond .eq 13, 3) := by decide +kernel
theorem zd_Mo_run_183 : decode zc_Mo_run 183 = .ok (.iload 4, 2) := by decide +kernel
theorem zd_Mo_run_185 : decode zc_Mo_run 185 = .ok (.iconst 1, 1) := by decide +kernel
theorem zd_Mo_run_186 : decode zc_Mo_run 186 = .ok (.iadd, 1) := by decide +kernel
theorem zd_Mo_run_187 : decode zc_Mo_run 187 = .ok (.bipush 31, 2) := by decide +kernel
theorem zd_Mo_run_189 : decode zc_Mo_run 189 = .ok (.iand, 1) := by decide +kernel
theorem zd_Mo_run_190 : decode zc_Mo_run 190 = .ok (.goto 11, 3) := by decide +kernel
theorem zd_Mo_run_193 : decode zc_Mo_run 193 = .ok (.aload_n 0, 1) := by decide +kernel
theorem zd_Mo_run_194 : decode zc_Mo_run 194 = .ok (.iload 5, 2) := by decide +kernel
theorem zd_Mo_run_196 : decode zc_Mo_run 196 = .ok (.iload 4, 2) := by decide +kernel
theorem zd_Mo_run_198 : decode zc_Mo_run 198 = .ok (.invokevirtual 170, 3) := by decide +kernel
theorem zd_Mo_run_201 : decode zc_Mo_run 201 = .ok (.putfield 95, 3) := by decide +kernel
theorem zd_Mo_run_204 : decode zc_Mo_run 204 = .ok (.goto (-169), 3) := by decide +kernel
theorem zd_Mo_run_207 : decode zc_Mo_run 207 = .ok (.iload_n 2, 1) := by decide +kernel
theorem zd_Mo_run_208 : decode zc_Mo_run 208 = .ok (.ireturn, 1) := by decide +kernel
theorem zd_Mo_leads_0 : decode zc_Mo_leads 0 = .ok (.aload_n 0, 1) := by decide +kernel
theorem zd_Mo_leads_1 : decode zc_Mo_leads 1 = .ok (.getfield 49, 3) := by decide +kernel
theorem zd_Mo_leads_4 : decode zc_Mo_leads 4 = .ok (.iload_n 2, 1) := by decide +kernel
theorem zd_Mo_leads_5 : decode zc_Mo_leads 5 = .ok (.iaload, 1) := by decide +kernel
theorem zd_Mo_leads_6 : decode zc_Mo_leads 6 = .ok (.ifCond .gt 30, 3) := by decide +kernel
theorem zd_Mo_leads_9 : decode zc_Mo_leads 9 = .ok (.iload_n 1, 1) := by decide +kernel
theorem zd_Mo_leads_10 : decode zc_Mo_leads 10 = .ok (.aload_n 0, 1) := by decide +kernel
theorem zd_Mo_leads_11 : decode zc_Mo_leads 11 = .ok (.getfield 43, 3) := by decide +kernel
theorem zd_Mo_leads_14 : decode zc_Mo_leads 14 = .ok (.iload_n 2, 1) := by decide +kernel
theorem zd_Mo_leads_15 : decode zc_Mo_leads 15 = .ok (.iaload, 1) := by decide +kernel
theorem zd_Mo_leads_16 : decode zc_Mo_leads 16 = .ok (.if_icmp .lt 20, 3) := by decide +kernel
theorem zd_Mo_leads_19 : decode zc_Mo_leads 19 = .ok (.iload_n 1, 1) := by decide +kernel
theorem zd_Mo_leads_20 : decode zc_Mo_leads 20 = .ok (.aload_n 0, 1) := by decide +kernel
theorem zd_Mo_leads_21 : decode zc_Mo_leads 21 = .ok (.getfield 43, 3) := by decide +kernel
theorem zd_Mo_leads_24 : decode zc_Mo_leads 24 = .ok (.iload_n 2, 1) := by decide +kernel
theorem zd_Mo_leads_25 : decode zc_Mo_leads 25 = .ok (.iaload, 1) := by decide +kernel
theorem zd_Mo_leads_26 : decode zc_Mo_leads 26 = .ok (.aload_n 0, 1) := by decide +kernel
theorem zd_Mo_leads_27 : decode zc_Mo_leads 27 = .ok (.getfield 46, 3) := by decide +kernel
theorem zd_Mo_leads_30 : decode zc_Mo_leads 30 = .ok (.iload_n 2, 1) := by decide +kernel
theorem zd_Mo_leads_31 : decode zc_Mo_leads 31 = .ok (.iaload, 1) := by decide +kernel
theorem zd_Mo_leads_32 : decode zc_Mo_leads 32 = .ok (.iadd, 1) := by decide +kernel
theorem zd_Mo_leads_33 : decode zc_Mo_leads 33 = .ok (.if_icmp .lt 5, 3) := by decide +kernel
theorem zd_Mo_leads_36 : decode zc_Mo_leads 36 = .ok (.iconst 0, 1) := by decide +kernel
theorem zd_Mo_leads_37 : decode zc_Mo_leads 37 = .ok (.ireturn, 1) := by decide +kernel
theorem zd_Mo_leads_38 : decode zc_Mo_leads 38 = .ok (.iload_n 1, 1) := by decide +kernel
theorem zd_Mo_leads_39 : decode zc_Mo_leads 39 = .ok (.aload_n 0, 1) := by decide +kernel
theorem zd_Mo_leads_40 : decode zc_Mo_leads 40 = .ok (.getfield 43, 3) := by decide +kernel
theorem zd_Mo_leads_43 : decode zc_Mo_leads 43 = .ok (.iload_n 2, 1) := by decide +kernel
theorem zd_Mo_leads_44 : decode zc_Mo_leads 44 = .ok (.iaload, 1) := by decide +kernel
theorem zd_Mo_leads_45 : decode zc_Mo_leads 45 = .ok (.if_icmp .ne 7, 3) := by decide +kernel
theorem zd_Mo_leads_48 : decode zc_Mo_leads 48 = .ok (.iconst 2, 1) := by decide +kernel
theorem zd_Mo_leads_49 : decode zc_Mo_leads 49 = .ok (.goto 4, 3) := by decide +kernel
theorem zd_Mo_leads_52 : decode zc_Mo_leads 52 = .ok (.iconst 1, 1) := by decide +kernel
theorem zd_Mo_leads_53 : decode zc_Mo_leads 53 = .ok (.ireturn, 1) := by decide +kernel
theorem zd_Mo_wordsLead_0 : decode zc_Mo_wordsLead 0 = .ok (.iconst 0, 1) := by decide +kernel
theorem zd_Mo_wordsLead_1 : decode zc_Mo_wordsLead 1 = .ok (.istore 4, 2) := by decide +kernel
theorem zd_Mo_wordsLead_3 : decode zc_Mo_wordsLead 3 = .ok (.iload_n 1, 1) := by decide +kernel
theorem zd_Mo_wordsLead_4 : decode zc_Mo_wordsLead 4 = .ok (.istore 5, 2) := by decide +kernel
theorem zd_Mo_wordsLead_6 : decode zc_Mo_wordsLead 6 = .ok (.iload 5, 2) := by decide +kernel
theorem zd_Mo_wordsLead_8 : decode zc_Mo_wordsLead 8 = .ok (.iconst 3, 1) := by decide +kernel
theorem zd_Mo_wordsLead_9 : decode zc_Mo_wordsLead 9 = .ok (.iadd, 1) := by decide +kernel
theorem zd_Mo_wordsLead_10 : decode zc_Mo_wordsLead 10 = .ok (.iload_n 2, 1) := by decide +kernel
theorem zd_Mo_wordsLead_11 : decode zc_Mo_wordsLead 11 = .ok (.if_icmp .ge 88, 3) := by decide +kernel
theorem zd_Mo_wordsLead_14 : decode zc_Mo_wordsLead 14 = .ok (.aload_n 0, 1) := by decide +kernel
theorem zd_Mo_wordsLead_15 : decode zc_Mo_wordsLead 15 = .ok (.iload 5, 2) := by decide +kernel
theorem zd_Mo_wordsLead_17 : decode zc_Mo_wordsLead 17 = .ok (.invokevirtual 122, 3) := by decide +kernel
theorem zd_Mo_wordsLead_20 : decode zc_Mo_wordsLead 20 = .ok (.bipush 15, 2) := by decide +kernel
theorem zd_Mo_wordsLead_22 : decode zc_Mo_wordsLead 22 = .ok (.if_icmp .ne 71, 3) := by decide +kernel
theorem zd_Mo_wordsLead_25 : decode zc_Mo_wordsLead 25 = .ok (.aload_n 0, 1) := by decide +kernel
theorem zd_Mo_wordsLead_26 : decode zc_Mo_wordsLead 26 = .ok (.getfield 28, 3) := by decide +kernel
theorem zd_Mo_wordsLead_29 : decode zc_Mo_wordsLead 29 = .ok (.iload 5, 2) := by decide +kernel
theorem zd_Mo_wordsLead_31 : decode zc_Mo_wordsLead 31 = .ok (.iaload, 1) := by decide +kernel
theorem zd_Mo_wordsLead_32 : decode zc_Mo_wordsLead 32 = .ok (.aload_n 0, 1) := by decide +kernel
theorem zd_Mo_wordsLead_33 : decode zc_Mo_wordsLead 33 = .ok (.getfield 28, 3) := by decide +kernel
theorem zd_Mo_wordsLead_36 : decode zc_Mo_wordsLead 36 = .ok (.iload 5, 2) := by decide +kernel
theorem zd_Mo_wordsLead_38 : decode zc_Mo_wordsLead 38 = .ok (.iconst 1, 1) := by decide +kernel
theorem zd_Mo_wordsLead_39 : decode zc_Mo_wordsLead 39 = .ok (.iadd, 1) := by decide +kernel
theorem zd_Mo_wordsLead_40 : decode zc_Mo_wordsLead 40 = .ok (.iaload, 1) := by decide +kernel
theorem zd_Mo_wordsLead_41 : decode zc_Mo_wordsLead 41 = .ok (.iadd, 1) := by decide +kernel
theorem zd_Mo_wordsLead_42 : decode zc_Mo_wordsLead 42 = .ok (.aload_n 0, 1) := by decide +kernel
theorem zd_Mo_wordsLead_43 : decode zc_Mo_wordsLead 43 = .ok (.getfield 28, 3) := by decide +kernel
theorem zd_Mo_wordsLead_46 : decode zc_Mo_wordsLead 46 = .ok (.iload 5, 2) := by decide +kernel
theorem zd_Mo_wordsLead_48 : decode zc_Mo_wordsLead 48 = .ok (.iconst 2, 1) := by decide +kernel
theorem zd_Mo_wordsLead_49 : decode zc_Mo_wordsLead 49 = .ok (.iadd, 1) := by decide +kernel
theorem zd_Mo_wordsLead_50 : decode zc_Mo_wordsLead 50 = .ok (.iaload, 1) := by decide +kernel
theorem zd_Mo_wordsLead_51 : decode zc_Mo_wordsLead 51 = .ok (.iadd, 1) := by decide +kernel
theorem zd_Mo_wordsLead_52 : decode zc_Mo_wordsLead 52 = .ok (.aload_n 0, 1) := by decide +kernel
theorem zd_Mo_wordsLead_53 : decode zc_Mo_wordsLead 53 = .ok (.getfield 28, 3) := by decide +kernel
theorem zd_Mo_wordsLead_56 : decode zc_Mo_wordsLead 56 = .ok (.iload 5, 2) := by decide +kernel
theorem zd_Mo_wordsLead_58 : decode zc_Mo_wordsLead 58 = .ok (.iconst 3, 1) := by decide +kernel
theorem zd_Mo_wordsLead_59 : decode zc_Mo_wordsLead 59 = .ok (.iadd, 1) := by decide +kernel
theorem zd_Mo_wordsLead_60 : decode zc_Mo_wordsLead 60 = .ok (.iaload, 1) := by decide +kernel
theorem zd_Mo_wordsLead_61 : decode zc_Mo_wordsLead 61 = .ok (.iadd, 1) := by decide +kernel
theorem zd_Mo_wordsLead_62 : decode zc_Mo_wordsLead 62 = .ok (.iconst 4, 1) := by decide +kernel
theorem zd_Mo_wordsLead_63 : decode zc_Mo_wordsLead 63 = .ok (.if_icmp .eq 6, 3) := by decide +kernel
theorem zd_Mo_wordsLead_66 : decode zc_Mo_wordsLead 66 = .ok (.goto 27, 3) := by decide +kernel
theorem zd_Mo_wordsLead_69 : decode zc_Mo_wordsLead 69 = .ok (.aload_n 0, 1) := by decide +kernel
theorem zd_Mo_wordsLead_70 : decode zc_Mo_wordsLead 70 = .ok (.aload_n 0, 1) := by decide +kernel
theorem zd_Mo_wordsLead_71 : decode zc_Mo_wordsLead 71 = .ok (.iload 5, 2) := by decide +kernel
theorem zd_Mo_wordsLead_73 : decode zc_Mo_wordsLead 73 = .ok (.invokevirtual 119, 3) := by decide +kernel
theorem zd_Mo_wordsLead_76 : decode zc_Mo_wordsLead 76 = .ok (.iload_n 3, 1) := by decide +kernel
theorem zd_Mo_wordsLead_77 : decode zc_Mo_wordsLead 77 = .ok (.invokevirtual 173, 3) := by decide +kernel
theorem zd_Mo_wordsLead_80 : decode zc_Mo_wordsLead 80 = .ok (.istore 6, 2) := by decide +kernel
theorem zd_Mo_wordsLead_82 : decode zc_Mo_wordsLead 82 = .ok (.iload 6, 2) := by decide +kernel
theorem zd_Mo_wordsLead_84 : decode zc_Mo_wordsLead 84 = .ok (.iload 4, 2) := by decide +kernel
theorem zd_Mo_wordsLead_86 : decode zc_Mo_wordsLead 86 = .ok (.if_icmp .le 7, 3) := by decide +kernel
theorem zd_Mo_wordsLead_89 : decode zc_Mo_wordsLead 89 = .ok (.iload 6, 2) := by decide +kernel
theorem zd_Mo_wordsLead_91 : decode zc_Mo_wordsLead 91 = .ok (.istore 4, 2) := by decide +kernel
theorem zd_Mo_wordsLead_93 : decode zc_Mo_wordsLead 93 = .ok (.iinc 5 4, 3) := by decide +kernel
theorem zd_Mo_wordsLead_96 : decode zc_Mo_wordsLead 96 = .ok (.goto (-90), 3) := by decide +kernel
theorem zd_Mo_wordsLead_99 : decode zc_Mo_wordsLead 99 = .ok (.iload 4, 2) := by decide +kernel
theorem zd_Mo_wordsLead_101 : decode zc_Mo_wordsLead 101 = .ok (.ireturn, 1) := by decide +kernel
theorem zd_Mo_rootsLead_0 : decode zc_Mo_rootsLead 0 = .ok (.aload_n 0, 1) := by decide +kernel
theorem zd_Mo_rootsLead_1 : decode zc_Mo_rootsLead 1 = .ok (.iconst 0, 1) := by decide +kernel
theorem zd_Mo_rootsLead_2 : decode zc_Mo_rootsLead 2 = .ok (.bipush 64, 2) := by decide +kernel
theorem zd_Mo_rootsLead_4 : decode zc_Mo_rootsLead 4 = .ok (.iload_n 1, 1) := by decide +kernel
theorem zd_Mo_rootsLead_5 : decode zc_Mo_rootsLead 5 = .ok (.invokevirtual 176, 3) := by decide +kernel
theorem zd_Mo_rootsLead_8 : decode zc_Mo_rootsLead 8 = .ok (.istore_n 2, 1) := by decide +kernel
theorem zd_Mo_rootsLead_9 : decode zc_Mo_rootsLead 9 = .ok (.iconst 1, 1) := by decide +kernel
theorem zd_Mo_rootsLead_10 : decode zc_Mo_rootsLead 10 = .ok (.istore_n 3, 1) := by decide +kernel
theorem zd_Mo_rootsLead_11 : decode zc_Mo_rootsLead 11 = .ok (.iload_n 3, 1) := by decide +kernel
theorem zd_Mo_rootsLead_12 : decode zc_Mo_rootsLead 12 = .ok (.bipush 8, 2) := by decide +kernel
theorem zd_Mo_rootsLead_14 : decode zc_Mo_rootsLead 14 = .ok (.if_icmp .ge 46, 3) := by decide +kernel
theorem zd_Mo_rootsLead_17 : decode zc_Mo_rootsLead 17 = .ok (.aload_n 0, 1) := by decide +kernel
theorem zd_Mo_rootsLead_18 : decode zc_Mo_rootsLead 18 = .ok (.getfield 37, 3) := by decide +kernel
theorem zd_Mo_rootsLead_21 : decode zc_Mo_rootsLead 21 = .ok (.iload_n 3, 1) := by decide +kernel
theorem zd_Mo_rootsLead_22 : decode zc_Mo_rootsLead 22 = .ok (.iaload, 1) := by decide +kernel
theorem zd_Mo_rootsLead_23 : decode zc_Mo_rootsLead 23 = .ok (.bipush 15, 2) := by decide +kernel
theorem zd_Mo_rootsLead_25 : decode zc_Mo_rootsLead 25 = .ok (.if_icmp .ne 17, 3) := by decide +kernel
theorem zd_Mo_rootsLead_28 : decode zc_Mo_rootsLead 28 = .ok (.aload_n 0, 1) := by decide +kernel
theorem zd_Mo_rootsLead_29 : decode zc_Mo_rootsLead 29 = .ok (.aload_n 0, 1) := by decide +kernel
theorem zd_Mo_rootsLead_30 : decode zc_Mo_rootsLead 30 = .ok (.getfield 34, 3) := by decide +kernel
theorem zd_Mo_rootsLead_33 : decode zc_Mo_rootsLead 33 = .ok (.iload_n 3, 1) := by decide +kernel
theorem zd_Mo_rootsLead_34 : decode zc_Mo_rootsLead 34 = .ok (.iaload, 1) := by decide +kernel
theorem zd_Mo_rootsLead_35 : decode zc_Mo_rootsLead 35 = .ok (.iload_n 1, 1) := by decide +kernel
theorem zd_Mo_rootsLead_36 : decode zc_Mo_rootsLead 36 = .ok (.invokevirtual 173, 3) := by decide +kernel
theorem zd_Mo_rootsLead_39 : decode zc_Mo_rootsLead 39 = .ok (.goto 4, 3) := by decide +kernel
theorem zd_Mo_rootsLead_42 : decode zc_Mo_rootsLead 42 = .ok (.iconst 0, 1) := by decide +kernel
theorem zd_Mo_rootsLead_43 : decode zc_Mo_rootsLead 43 = .ok (.istore 4, 2) := by decide +kernel
theorem zd_Mo_rootsLead_45 : decode zc_Mo_rootsLead 45 = .ok (.iload 4, 2) := by decide +kernel
theorem zd_Mo_rootsLead_47 : decode zc_Mo_rootsLead 47 = .ok (.iload_n 2, 1) := by decide +kernel
theorem zd_Mo_rootsLead_48 : decode zc_Mo_rootsLead 48 = .ok (.if_icmp .le 6, 3) := by decide +kernel
theorem zd_Mo_rootsLead_51 : decode zc_Mo_rootsLead 51 = .ok (.iload 4, 2) := by decide +kernel
theorem zd_Mo_rootsLead_53 : decode zc_Mo_rootsLead 53 = .ok (.istore_n 2, 1) := by decide +kernel
theorem zd_Mo_rootsLead_54 : decode zc_Mo_rootsLead 54 = .ok (.iinc 3 1, 3) := by decide +kernel
theorem zd_Mo_rootsLead_57 : decode zc_Mo_rootsLead 57 = .ok (.goto (-46), 3) := by decide +kernel
theorem zd_Mo_rootsLead_60 : decode zc_Mo_rootsLead 60 = .ok (.iload_n 2, 1) := by decide +kernel
theorem zd_Mo_rootsLead_61 : decode zc_Mo_rootsLead 61 = .ok (.ireturn, 1) := by decide +kernel
theorem zd_Mo_blockLeads_0 : decode zc_Mo_blockLeads 0 = .ok (.aload_n 0, 1) := by decide +kernel
theorem zd_Mo_blockLeads_1 : decode zc_Mo_blockLeads 1 = .ok (.aload_n 0, 1) := by decide +kernel
theorem zd_Mo_blockLeads_2 : decode zc_Mo_blockLeads 2 = .ok (.getfield 43, 3) := by decide +kernel
theorem zd_Mo_blockLeads_5 : decode zc_Mo_blockLeads 5 = .ok (.iload_n 1, 1) := by decide +kernel
theorem zd_Mo_blockLeads_6 : decode zc_Mo_blockLeads 6 = .ok (.iaload, 1) := by decide +kernel
theorem zd_Mo_blockLeads_7 : decode zc_Mo_blockLeads 7 = .ok (.aload_n 0, 1) := by decide +kernel
theorem zd_Mo_blockLeads_8 : decode zc_Mo_blockLeads 8 = .ok (.getfield 43, 3) := by decide +kernel
theorem zd_Mo_blockLeads_11 : decode zc_Mo_blockLeads 11 = .ok (.iload_n 1, 1) := by decide +kernel
theorem zd_Mo_blockLeads_12 : decode zc_Mo_blockLeads 12 = .ok (.iaload, 1) := by decide +kernel
theorem zd_Mo_blockLeads_13 : decode zc_Mo_blockLeads 13 = .ok (.aload_n 0, 1) := by decide +kernel
theorem zd_Mo_blockLeads_14 : decode zc_Mo_blockLeads 14 = .ok (.getfield 46, 3) := by decide +kernel
theorem zd_Mo_blockLeads_17 : decode zc_Mo_blockLeads 17 = .ok (.iload_n 1, 1) := by decide +kernel
theorem zd_Mo_blockLeads_18 : decode zc_Mo_blockLeads 18 = .ok (.iaload, 1) := by decide +kernel
theorem zd_Mo_blockLeads_19 : decode zc_Mo_blockLeads 19 = .ok (.iadd, 1) := by decide +kernel
theorem zd_Mo_blockLeads_20 : decode zc_Mo_blockLeads 20 = .ok (.iload_n 2, 1) := by decide +kernel
theorem zd_Mo_blockLeads_21 : decode zc_Mo_blockLeads 21 = .ok (.invokevirtual 176, 3) := by decide +kernel
theorem zd_Mo_blockLeads_24 : decode zc_Mo_blockLeads 24 = .ok (.ireturn, 1) := by decide +kernel
theorem zd_Mo_led_0 : decode zc_Mo_led 0 = .ok (.iconst 0, 1) := by decide +kernel
theorem zd_Mo_led_1 : decode zc_Mo_led 1 = .ok (.istore 4, 2) := by decide +kernel
theorem zd_Mo_led_3 : decode zc_Mo_led 3 = .ok (.iload 4, 2) := by decide +kernel
theorem zd_Mo_led_5 : decode zc_Mo_led 5 = .ok (.aload_n 0, 1) := by decide +kernel
theorem zd_Mo_led_6 : decode zc_Mo_led 6 = .ok (.getfield 125, 3) := by decide +kernel
theorem zd_Mo_led_9 : decode zc_Mo_led 9 = .ok (.if_icmp .ge 43, 3) := by decide +kernel
theorem zd_Mo_led_12 : decode zc_Mo_led 12 = .ok (.aload_n 0, 1) := by decide +kernel
theorem zd_Mo_led_13 : decode zc_Mo_led 13 = .ok (.getfield 49, 3) := by decide +kernel
theorem zd_Mo_led_16 : decode zc_Mo_led 16 = .ok (.iload 4, 2) := by decide +kernel
theorem zd_Mo_led_18 : decode zc_Mo_led 18 = .ok (.iaload, 1) := by decide +kernel
theorem zd_Mo_led_19 : decode zc_Mo_led 19 = .ok (.ifCond .ne 27, 3) := by decide +kernel
theorem zd_Mo_led_22 : decode zc_Mo_led 22 = .ok (.aload_n 0, 1) := by decide +kernel
theorem zd_Mo_led_23 : decode zc_Mo_led 23 = .ok (.getfield 52, 3) := by decide +kernel
theorem zd_Mo_led_26 : decode zc_Mo_led 26 = .ok (.iload 4, 2) := by decide +kernel
theorem zd_Mo_led_28 : decode zc_Mo_led 28 = .ok (.iaload, 1) := by decide +kernel
theorem zd_Mo_led_29 : decode zc_Mo_led 29 = .ok (.iload_n 2, 1) := by decide +kernel
theorem zd_Mo_led_30 : decode zc_Mo_led 30 = .ok (.if_icmp .ne 16, 3) := by decide +kernel
theorem zd_Mo_led_33 : decode zc_Mo_led 33 = .ok (.aload_n 0, 1) := by decide +kernel
theorem zd_Mo_led_34 : decode zc_Mo_led 34 = .ok (.iload 4, 2) := by decide +kernel
theorem zd_Mo_led_36 : decode zc_Mo_led 36 = .ok (.iload_n 1, 1) := by decide +kernel
theorem zd_Mo_led_37 : decode zc_Mo_led 37 = .ok (.invokevirtual 180, 3) := by decide +kernel
theorem zd_Mo_led_40 : decode zc_Mo_led 40 = .ok (.iload_n 3, 1) := by decide +kernel
theorem zd_Mo_led_41 : decode zc_Mo_led 41 = .ok (.if_icmp .lt 5, 3) := by decide +kernel
theorem zd_Mo_led_44 : decode zc_Mo_led 44 = .ok (.iconst 1, 1) := by decide +kernel
theorem zd_Mo_led_45 : decode zc_Mo_led 45 = .ok (.ireturn, 1) := by decide +kernel
theorem zd_Mo_led_46 : decode zc_Mo_led 46 = .ok (.iinc 4 1, 3) := by decide +kernel
theorem zd_Mo_led_49 : decode zc_Mo_led 49 = .ok (.goto (-46), 3) := by decide +kernel
theorem zd_Mo_led_52 : decode zc_Mo_led 52 = .ok (.iconst 0, 1) := by decide +kernel
theorem zd_Mo_led_53 : decode zc_Mo_led 53 = .ok (.ireturn, 1) := by decide +kernel
theorem zd_Mo_drag_0 : decode zc_Mo_drag 0 = .ok (.iconst 1, 1) := by decide +kernel
theorem zd_Mo_drag_1 : decode zc_Mo_drag 1 = .ok (.iload_n 1, 1) := by decide +kernel
theorem zd_Mo_drag_2 : decode zc_Mo_drag 2 = .ok (.ishl, 1) := by decide +kernel
theorem zd_Mo_drag_3 : decode zc_Mo_drag 3 = .ok (.istore_n 2, 1) := by decide +kernel
theorem zd_Mo_drag_4 : decode zc_Mo_drag 4 = .ok (.iconst 1, 1) := by decide +kernel
theorem zd_Mo_drag_5 : decode zc_Mo_drag 5 = .ok (.istore_n 3, 1) := by decide +kernel
theorem zd_Mo_drag_6 : decode zc_Mo_drag 6 = .ok (.iload_n 3, 1) := by decide +kernel
theorem zd_Mo_drag_7 : decode zc_Mo_drag 7 = .ok (.ifCond .eq 144, 3) := by decide +kernel
theorem zd_Mo_drag_10 : decode zc_Mo_drag 10 = .ok (.iconst 0, 1) := by decide +kernel
theorem zd_Mo_drag_11 : decode zc_Mo_drag 11 = .ok (.istore_n 3, 1) := by decide +kernel
theorem zd_Mo_drag_12 : decode zc_Mo_drag 12 = .ok (.iconst 0, 1) := by decide +kernel
theorem zd_Mo_drag_13 : decode zc_Mo_drag 13 = .ok (.istore 4, 2) := by decide +kernel
theorem zd_Mo_drag_15 : decode zc_Mo_drag 15 = .ok (.iload 4, 2) := by decide +kernel
theorem zd_Mo_drag_17 : decode zc_Mo_drag 17 = .ok (.aload_n 0, 1) := by decide +kernel
theorem zd_Mo_drag_18 : decode zc_Mo_drag 18 = .ok (.getfield 125, 3) := by decide +kernel
theorem zd_Mo_drag_21 : decode zc_Mo_drag 21 = .ok (.if_icmp .ge 127, 3) := by decide +kernel
theorem zd_Mo_drag_24 : decode zc_Mo_drag 24 = .ok (.iload_n 2, 1) := by decide +kernel
theorem zd_Mo_drag_25 : decode zc_Mo_drag 25 = .ok (.iload 4, 2) := by decide +kernel
theorem zd_Mo_drag_27 : decode zc_Mo_drag 27 = .ok (.ishr, 1) := by decide +kernel
theorem zd_Mo_drag_28 : decode zc_Mo_drag 28 = .ok (.iconst 1, 1) := by decide +kernel
theorem zd_Mo_drag_29 : decode zc_Mo_drag 29 = .ok (.iand, 1) := by decide +kernel
theorem zd_Mo_drag_30 : decode zc_Mo_drag 30 = .ok (.ifCond .ne 112, 3) := by decide +kernel
theorem zd_Mo_drag_33 : decode zc_Mo_drag 33 = .ok (.aload_n 0, 1) := by decide +kernel
theorem zd_Mo_drag_34 : decode zc_Mo_drag 34 = .ok (.getfield 49, 3) := by decide +kernel
theorem zd_Mo_drag_37 : decode zc_Mo_drag 37 = .ok (.iload 4, 2) := by decide +kernel
theorem zd_Mo_drag_39 : decode zc_Mo_drag 39 = .ok (.iaload, 1) := by decide +kernel
theorem zd_Mo_drag_40 : decode zc_Mo_drag 40 = .ok (.ifCond .gt 102, 3) := by decide +kernel
theorem zd_Mo_drag_43 : decode zc_Mo_drag 43 = .ok (.aload_n 0, 1) := by decide +kernel
theorem zd_Mo_drag_44 : decode zc_Mo_drag 44 = .ok (.getfield 52, 3) := by decide +kernel
theorem zd_Mo_drag_47 : decode zc_Mo_drag 47 = .ok (.iload 4, 2) := by decide +kernel
theorem zd_Mo_drag_49 : decode zc_Mo_drag 49 = .ok (.iaload, 1) := by decide +kernel
theorem zd_Mo_drag_50 : decode zc_Mo_drag 50 = .ok (.ifCond .eq 17, 3) := by decide +kernel
theorem zd_Mo_drag_53 : decode zc_Mo_drag 53 = .ok (.aload_n 0, 1) := by decide +kernel
theorem zd_Mo_drag_54 : decode zc_Mo_drag 54 = .ok (.getfield 52, 3) := by decide +kernel
theorem zd_Mo_drag_57 : decode zc_Mo_drag 57 = .ok (.iload 4, 2) := by decide +kernel
theorem zd_Mo_drag_59 : decode zc_Mo_drag 59 = .ok (.iaload, 1) := by decide +kernel
theorem zd_Mo_drag_60 : decode zc_Mo_drag 60 = .ok (.iconst 3, 1) := by decide +kernel
theorem zd_Mo_drag_61 : decode zc_Mo_drag 61 = .ok (.if_icmp .eq 6, 3) := by decide +kernel
theorem zd_Mo_drag_64 : decode zc_Mo_drag 64 = .ok (.goto 78, 3) := by decide +kernel
theorem zd_Mo_drag_67 : decode zc_Mo_drag 67 = .ok (.iconst 0, 1) := by decide +kernel
theorem zd_Mo_drag_68 : decode zc_Mo_drag 68 = .ok (.istore 5, 2) := by decide +kernel
theorem zd_Mo_drag_70 : decode zc_Mo_drag 70 = .ok (.iconst 0, 1) := by decide +kernel
theorem zd_Mo_drag_71 : decode zc_Mo_drag 71 = .ok (.istore 6, 2) := by decide +kernel
theorem zd_Mo_drag_73 : decode zc_Mo_drag 73 = .ok (.iload 6, 2) := by decide +kernel
theorem zd_Mo_drag_75 : decode zc_Mo_drag 75 = .ok (.aload_n 0, 1) := by decide +kernel
theorem zd_Mo_drag_76 : decode zc_Mo_drag 76 = .ok (.getfield 125, 3) := by decide +kernel
theorem zd_Mo_drag_79 : decode zc_Mo_drag 79 = .ok (.if_icmp .ge 41, 3) := by decide +kernel
theorem zd_Mo_drag_82 : decode zc_Mo_drag 82 = .ok (.iload 5, 2) := by decide +kernel
theorem zd_Mo_drag_84 : decode zc_Mo_drag 84 = .ok (.ifCond .ne 36, 3) := by decide +kernel
theorem zd_Mo_drag_87 : decode zc_Mo_drag 87 = .ok (.iload_n 2, 1) := by decide +kernel
theorem zd_Mo_drag_88 : decode zc_Mo_drag 88 = .ok (.iload 6, 2) := by decide +kernel
theorem zd_Mo_drag_90 : decode zc_Mo_drag 90 = .ok (.ishr, 1) := by decide +kernel
theorem zd_Mo_drag_91 : decode zc_Mo_drag 91 = .ok (.iconst 1, 1) := by decide +kernel
theorem zd_Mo_drag_92 : decode zc_Mo_drag 92 = .ok (.iand, 1) := by decide +kernel
theorem zd_Mo_drag_93 : decode zc_Mo_drag 93 = .ok (.ifCond .eq 18, 3) := by decide +kernel
theorem zd_Mo_drag_96 : decode zc_Mo_drag 96 = .ok (.aload_n 0, 1) := by decide +kernel
theorem zd_Mo_drag_97 : decode zc_Mo_drag 97 = .ok (.iload 6, 2) := by decide +kernel
theorem zd_Mo_drag_99 : decode zc_Mo_drag 99 = .ok (.iload 4, 2) := by decide +kernel
theorem zd_Mo_drag_101 : decode zc_Mo_drag 101 = .ok (.invokevirtual 180, 3) := by decide +kernel
theorem zd_Mo_drag_104 : decode zc_Mo_drag 104 = .ok (.ifCond .le 7, 3) := by decide +kernel
theorem zd_Mo_drag_107 : decode zc_Mo_drag 107 = .ok (.iconst 1, 1) := by decide +kernel
theorem zd_Mo_drag_108 : decode zc_Mo_drag 108 = .ok (.goto 4, 3) := by decide +kernel
theorem zd_Mo_drag_111 : decode zc_Mo_drag 111 = .ok (.iconst 0, 1) := by decide +kernel
theorem zd_Mo_drag_112 : decode zc_Mo_drag 112 = .ok (.istore 5, 2) := by decide +kernel
theorem zd_Mo_drag_114 : decode zc_Mo_drag 114 = .ok (.iinc 6 1, 3) := by decide +kernel
theorem zd_Mo_drag_117 : decode zc_Mo_drag 117 = .ok (.goto (-44), 3) := by decide +kernel
theorem zd_Mo_drag_120 : decode zc_Mo_drag 120 = .ok (.iload 5, 2) := by decide +kernel
theorem zd_Mo_drag_122 : decode zc_Mo_drag 122 = .ok (.ifCond .eq 20, 3) := by decide +kernel
theorem zd_Mo_drag_125 : decode zc_Mo_drag 125 = .ok (.iload_n 2, 1) := by decide +kernel
theorem zd_Mo_drag_126 : decode zc_Mo_drag 126 = .ok (.iconst 1, 1) := by decide +kernel
theorem zd_Mo_drag_127 : decode zc_Mo_drag 127 = .ok (.iload 4, 2) := by decide +kernel
theorem zd_Mo_drag_129 : decode zc_Mo_drag 129 = .ok (.ishl, 1) := by decide +kernel
theorem zd_Mo_drag_130 : decode zc_Mo_drag 130 = .ok (.ior, 1) := by decide +kernel
theorem zd_Mo_drag_131 : decode zc_Mo_drag 131 = .ok (.istore_n 2, 1) := by decide +kernel
theorem zd_Mo_drag_132 : decode zc_Mo_drag 132 = .ok (.aload_n 0, 1) := by decide +kernel
theorem zd_Mo_drag_133 : decode zc_Mo_drag 133 = .ok (.getfield 52, 3) := by decide +kernel
theorem zd_Mo_drag_136 : decode zc_Mo_drag 136 = .ok (.iload 4, 2) := by decide +kernel
theorem zd_Mo_drag_138 : decode zc_Mo_drag 138 = .ok (.iconst 4, 1) := by decide +kernel
theorem zd_Mo_drag_139 : decode zc_Mo_drag 139 = .ok (.iastore, 1) := by decide +kernel
theorem zd_Mo_drag_140 : decode zc_Mo_drag 140 = .ok (.iconst 1, 1) := by decide +kernel
theorem zd_Mo_drag_141 : decode zc_Mo_drag 141 = .ok (.istore_n 3, 1) := by decide +kernel
theorem zd_Mo_drag_142 : decode zc_Mo_drag 142 = .ok (.iinc 4 1, 3) := by decide +kernel
theorem zd_Mo_drag_145 : decode zc_Mo_drag 145 = .ok (.goto (-130), 3) := by decide +kernel
theorem zd_Mo_drag_148 : decode zc_Mo_drag 148 = .ok (.goto (-142), 3) := by decide +kernel
theorem zd_Mo_drag_151 : decode zc_Mo_drag 151 = .ok (.return_, 1) := by decide +kernel
theorem zd_Mo_scan_0 : decode zc_Mo_scan 0 = .ok (.iconst 0, 1) := by decide +kernel
theorem zd_Mo_scan_1 : decode zc_Mo_scan 1 = .ok (.istore_n 1, 1) := by decide +kernel
theorem zd_Mo_scan_2 : decode zc_Mo_scan 2 = .ok (.iload_n 1, 1) := by decide +kernel
theorem zd_Mo_scan_3 : decode zc_Mo_scan 3 = .ok (.aload_n 0, 1) := by decide +kernel
theorem zd_Mo_scan_4 : decode zc_Mo_scan 4 = .ok (.getfield 125, 3) := by decide +kernel
theorem zd_Mo_scan_7 : decode zc_Mo_scan 7 = .ok (.if_icmp .ge 16, 3) := by decide +kernel
theorem zd_Mo_scan_10 : decode zc_Mo_scan 10 = .ok (.aload_n 0, 1) := by decide +kernel
theorem zd_Mo_scan_11 : decode zc_Mo_scan 11 = .ok (.getfield 52, 3) := by decide +kernel
theorem zd_Mo_scan_14 : decode zc_Mo_scan 14 = .ok (.iload_n 1, 1) := by decide +kernel
theorem zd_Mo_scan_15 : decode zc_Mo_scan 15 = .ok (.iconst 0, 1) := by decide +kernel
theorem zd_Mo_scan_16 : decode zc_Mo_scan 16 = .ok (.iastore, 1) := by decide +kernel
theorem zd_Mo_scan_17 : decode zc_Mo_scan 17 = .ok (.iinc 1 1, 3) := by decide +kernel
theorem zd_Mo_scan_20 : decode zc_Mo_scan 20 = .ok (.goto (-18), 3) := by decide +kernel
theorem zd_Mo_scan_23 : decode zc_Mo_scan 23 = .ok (.iconst 0, 1) := by decide +kernel
theorem zd_Mo_scan_24 : decode zc_Mo_scan 24 = .ok (.istore_n 1, 1) := by decide +kernel
theorem zd_Mo_scan_25 : decode zc_Mo_scan 25 = .ok (.iload_n 1, 1) := by decide +kernel
theorem zd_Mo_scan_26 : decode zc_Mo_scan 26 = .ok (.bipush 11, 2) := by decide +kernel
theorem zd_Mo_scan_28 : decode zc_Mo_scan 28 = .ok (.if_icmp .ge 69, 3) := by decide +kernel
theorem zd_Mo_scan_31 : decode zc_Mo_scan 31 = .ok (.iconst 0, 1) := by decide +kernel
theorem zd_Mo_scan_32 : decode zc_Mo_scan 32 = .ok (.istore_n 2, 1) := by decide +kernel
theorem zd_Mo_scan_33 : decode zc_Mo_scan 33 = .ok (.iload_n 2, 1) := by decide +kernel
theorem zd_Mo_scan_34 : decode zc_Mo_scan 34 = .ok (.aload_n 0, 1) := by decide +kernel
theorem zd_Mo_scan_35 : decode zc_Mo_scan 35 = .ok (.getfield 125, 3) := by decide +kernel
theorem zd_Mo_scan_38 : decode zc_Mo_scan 38 = .ok (.if_icmp .ge 53, 3) := by decide +kernel
theorem zd_Mo_scan_41 : decode zc_Mo_scan 41 = .ok (.aload_n 0, 1) := by decide +kernel
theorem zd_Mo_scan_42 : decode zc_Mo_scan 42 = .ok (.getfield 49, 3) := by decide +kernel
theorem zd_Mo_scan_45 : decode zc_Mo_scan 45 = .ok (.iload_n 2, 1) := by decide +kernel
theorem zd_Mo_scan_46 : decode zc_Mo_scan 46 = .ok (.iaload, 1) := by decide +kernel
theorem zd_Mo_scan_47 : decode zc_Mo_scan 47 = .ok (.ifCond .ne 38, 3) := by decide +kernel
theorem zd_Mo_scan_50 : decode zc_Mo_scan 50 = .ok (.aload_n 0, 1) := by decide +kernel
theorem zd_Mo_scan_51 : decode zc_Mo_scan 51 = .ok (.getfield 52, 3) := by decide +kernel
theorem zd_Mo_scan_54 : decode zc_Mo_scan 54 = .ok (.iload_n 2, 1) := by decide +kernel
theorem zd_Mo_scan_55 : decode zc_Mo_scan 55 = .ok (.iaload, 1) := by decide +kernel
theorem zd_Mo_scan_56 : decode zc_Mo_scan 56 = .ok (.ifCond .ne 29, 3) := by decide +kernel
theorem zd_Mo_scan_59 : decode zc_Mo_scan 59 = .ok (.aload_n 0, 1) := by decide +kernel
theorem zd_Mo_scan_60 : decode zc_Mo_scan 60 = .ok (.iload_n 2, 1) := by decide +kernel
theorem zd_Mo_scan_61 : decode zc_Mo_scan 61 = .ok (.invokevirtual 183, 3) := by decide +kernel
theorem zd_Mo_scan_64 : decode zc_Mo_scan 64 = .ok (.iconst 2, 1) := by decide +kernel
theorem zd_Mo_scan_65 : decode zc_Mo_scan 65 = .ok (.if_icmp .eq 13, 3) := by decide +kernel
theorem zd_Mo_scan_68 : decode zc_Mo_scan 68 = .ok (.aload_n 0, 1) := by decide +kernel
theorem zd_Mo_scan_69 : decode zc_Mo_scan 69 = .ok (.iload_n 2, 1) := by decide +kernel
theorem zd_Mo_scan_70 : decode zc_Mo_scan 70 = .ok (.iconst 1, 1) := by decide +kernel
theorem zd_Mo_scan_71 : decode zc_Mo_scan 71 = .ok (.iconst 2, 1) := by decide +kernel
theorem zd_Mo_scan_72 : decode zc_Mo_scan 72 = .ok (.invokevirtual 186, 3) := by decide +kernel
theorem zd_Mo_scan_75 : decode zc_Mo_scan 75 = .ok (.ifCond .eq 10, 3) := by decide +kernel
theorem zd_Mo_scan_78 : decode zc_Mo_scan 78 = .ok (.aload_n 0, 1) := by decide +kernel
theorem zd_Mo_scan_79 : decode zc_Mo_scan 79 = .ok (.getfield 52, 3) := by decide +kernel
theorem zd_Mo_scan_82 : decode zc_Mo_scan 82 = .ok (.iload_n 2, 1) := by decide +kernel
theorem zd_Mo_scan_83 : decode zc_Mo_scan 83 = .ok (.iconst 1, 1) := by decide +kernel
theorem zd_Mo_scan_84 : decode zc_Mo_scan 84 = .ok (.iastore, 1) := by decide +kernel
theorem zd_Mo_scan_85 : decode zc_Mo_scan 85 = .ok (.iinc 2 1, 3) := by decide +kernel
theorem zd_Mo_scan_88 : decode zc_Mo_scan 88 = .ok (.goto (-55), 3) := by decide +kernel
theorem zd_Mo_scan_91 : decode zc_Mo_scan 91 = .ok (.iinc 1 1, 3) := by decide +kernel
theorem zd_Mo_scan_94 : decode zc_Mo_scan 94 = .ok (.goto (-69), 3) := by decide +kernel
theorem zd_Mo_scan_97 : decode zc_Mo_scan 97 = .ok (.iconst 0, 1) := by decide +kernel
theorem zd_Mo_scan_98 : decode zc_Mo_scan 98 = .ok (.istore_n 1, 1) := by decide +kernel
theorem zd_Mo_scan_99 : decode zc_Mo_scan 99 = .ok (.iload_n 1, 1) := by decide +kernel
theorem zd_Mo_scan_100 : decode zc_Mo_scan 100 = .ok (.bipush 11, 2) := by decide +kernel
theorem zd_Mo_scan_102 : decode zc_Mo_scan 102 = .ok (.if_icmp .ge 79, 3) := by decide +kernel
theorem zd_Mo_scan_105 : decode zc_Mo_scan 105 = .ok (.iconst 0, 1) := by decide +kernel
theorem zd_Mo_scan_106 : decode zc_Mo_scan 106 = .ok (.istore_n 2, 1) := by decide +kernel
theorem zd_Mo_scan_107 : decode zc_Mo_scan 107 = .ok (.iload_n 2, 1) := by decide +kernel
theorem zd_Mo_scan_108 : decode zc_Mo_scan 108 = .ok (.aload_n 0, 1) := by decide +kernel
theorem zd_Mo_scan_109 : decode zc_Mo_scan 109 = .ok (.getfield 125, 3) := by decide +kernel
theorem zd_Mo_scan_112 : decode zc_Mo_scan 112 = .ok (.if_icmp .ge 63, 3) := by decide +kernel
theorem zd_Mo_scan_115 : decode zc_Mo_scan 115 = .ok (.aload_n 0, 1) := by decide +kernel
theorem zd_Mo_scan_116 : decode zc_Mo_scan 116 = .ok (.getfield 49, 3) := by decide +kernel
theorem zd_Mo_scan_119 : decode zc_Mo_scan 119 = .ok (.iload_n 2, 1) := by decide +kernel
theorem zd_Mo_scan_120 : decode zc_Mo_scan 120 = .ok (.iaload, 1) := by decide +kernel
theorem zd_Mo_scan_121 : decode zc_Mo_scan 121 = .ok (.ifCond .ne 48, 3) := by decide +kernel
theorem zd_Mo_scan_124 : decode zc_Mo_scan 124 = .ok (.aload_n 0, 1) := by decide +kernel
theorem zd_Mo_scan_125 : decode zc_Mo_scan 125 = .ok (.getfield 52, 3) := by decide +kernel
theorem zd_Mo_scan_128 : decode zc_Mo_scan 128 = .ok (.iload_n 2, 1) := by decide +kernel
theorem zd_Mo_scan_129 : decode zc_Mo_scan 129 = .ok (.iaload, 1) := by decide +kernel
theorem zd_Mo_scan_130 : decode zc_Mo_scan 130 = .ok (.ifCond .ne 39, 3) := by decide +kernel
theorem zd_Mo_scan_133 : decode zc_Mo_scan 133 = .ok (.aload_n 0, 1) := by decide +kernel
theorem zd_Mo_scan_134 : decode zc_Mo_scan 134 = .ok (.iload_n 2, 1) := by decide +kernel
theorem zd_Mo_scan_135 : decode zc_Mo_scan 135 = .ok (.invokevirtual 183, 3) := by decide +kernel
theorem zd_Mo_scan_138 : decode zc_Mo_scan 138 = .ok (.iconst 1, 1) := by decide +kernel
theorem zd_Mo_scan_139 : decode zc_Mo_scan 139 = .ok (.if_icmp .eq 23, 3) := by decide +kernel
theorem zd_Mo_scan_142 : decode zc_Mo_scan 142 = .ok (.aload_n 0, 1) := by decide +kernel
theorem zd_Mo_scan_143 : decode zc_Mo_scan 143 = .ok (.iload_n 2, 1) := by decide +kernel
theorem zd_Mo_scan_144 : decode zc_Mo_scan 144 = .ok (.iconst 1, 1) := by decide +kernel
theorem zd_Mo_scan_145 : decode zc_Mo_scan 145 = .ok (.iconst 1, 1) := by decide +kernel
theorem zd_Mo_scan_146 : decode zc_Mo_scan 146 = .ok (.invokevirtual 186, 3) := by decide +kernel
theorem zd_Mo_scan_149 : decode zc_Mo_scan 149 = .ok (.ifCond .ne 13, 3) := by decide +kernel
theorem zd_Mo_scan_152 : decode zc_Mo_scan 152 = .ok (.aload_n 0, 1) := by decide +kernel
theorem zd_Mo_scan_153 : decode zc_Mo_scan 153 = .ok (.iload_n 2, 1) := by decide +kernel
theorem zd_Mo_scan_154 : decode zc_Mo_scan 154 = .ok (.iconst 2, 1) := by decide +kernel
theorem zd_Mo_scan_155 : decode zc_Mo_scan 155 = .ok (.iconst 1, 1) := by decide +kernel
theorem zd_Mo_scan_156 : decode zc_Mo_scan 156 = .ok (.invokevirtual 186, 3) := by decide +kernel
theorem zd_Mo_scan_159 : decode zc_Mo_scan 159 = .ok (.ifCond .eq 10, 3) := by decide +kernel
theorem zd_Mo_scan_162 : decode zc_Mo_scan 162 = .ok (.aload_n 0, 1) := by decide +kernel
theorem zd_Mo_scan_163 : decode zc_Mo_scan 163 = .ok (.getfield 52, 3) := by decide +kernel
theorem zd_Mo_scan_166 : decode zc_Mo_scan 166 = .ok (.iload_n 2, 1) := by decide +kernel
theorem zd_Mo_scan_167 : decode zc_Mo_scan 167 = .ok (.iconst 2, 1) := by decide +kernel
theorem zd_Mo_scan_168 : decode zc_Mo_scan 168 = .ok (.iastore, 1) := by decide +kernel
theorem zd_Mo_scan_169 : decode zc_Mo_scan 169 = .ok (.iinc 2 1, 3) := by decide +kernel
theorem zd_Mo_scan_172 : decode zc_Mo_scan 172 = .ok (.goto (-65), 3) := by decide +kernel
theorem zd_Mo_scan_175 : decode zc_Mo_scan 175 = .ok (.iinc 1 1, 3) := by decide +kernel
theorem zd_Mo_scan_178 : decode zc_Mo_scan 178 = .ok (.goto (-79), 3) := by decide +kernel
theorem zd_Mo_scan_181 : decode zc_Mo_scan 181 = .ok (.iconst 0, 1) := by decide +kernel
theorem zd_Mo_scan_182 : decode zc_Mo_scan 182 = .ok (.istore_n 1, 1) := by decide +kernel
theorem zd_Mo_scan_183 : decode zc_Mo_scan 183 = .ok (.iload_n 1, 1) := by decide +kernel
theorem zd_Mo_scan_184 : decode zc_Mo_scan 184 = .ok (.aload_n 0, 1) := by decide +kernel
theorem zd_Mo_scan_185 : decode zc_Mo_scan 185 = .ok (.getfield 125, 3) := by decide +kernel
theorem zd_Mo_scan_188 : decode zc_Mo_scan 188 = .ok (.if_icmp .ge 42, 3) := by decide +kernel
theorem zd_Mo_scan_191 : decode zc_Mo_scan 191 = .ok (.aload_n 0, 1) := by decide +kernel
theorem zd_Mo_scan_192 : decode zc_Mo_scan 192 = .ok (.getfield 49, 3) := by decide +kernel
theorem zd_Mo_scan_195 : decode zc_Mo_scan 195 = .ok (.iload_n 1, 1) := by decide +kernel
theorem zd_Mo_scan_196 : decode zc_Mo_scan 196 = .ok (.iaload, 1) := by decide +kernel
theorem zd_Mo_scan_197 : decode zc_Mo_scan 197 = .ok (.ifCond .gt 27, 3) := by decide +kernel
theorem zd_Mo_scan_200 : decode zc_Mo_scan 200 = .ok (.aload_n 0, 1) := by decide +kernel
theorem zd_Mo_scan_201 : decode zc_Mo_scan 201 = .ok (.getfield 52, 3) := by decide +kernel
theorem zd_Mo_scan_204 : decode zc_Mo_scan 204 = .ok (.iload_n 1, 1) := by decide +kernel
theorem zd_Mo_scan_205 : decode zc_Mo_scan 205 = .ok (.iaload, 1) := by decide +kernel
theorem zd_Mo_scan_206 : decode zc_Mo_scan 206 = .ok (.ifCond .eq 6, 3) := by decide +kernel
theorem zd_Mo_scan_209 : decode zc_Mo_scan 209 = .ok (.goto 15, 3) := by decide +kernel
theorem zd_Mo_scan_212 : decode zc_Mo_scan 212 = .ok (.aload_n 0, 1) := by decide +kernel
theorem zd_Mo_scan_213 : decode zc_Mo_scan 213 = .ok (.getfield 52, 3) := by decide +kernel
theorem zd_Mo_scan_216 : decode zc_Mo_scan 216 = .ok (.iload_n 1, 1) := by decide +kernel
theorem zd_Mo_scan_217 : decode zc_Mo_scan 217 = .ok (.iconst 3, 1) := by decide +kernel
theorem zd_Mo_scan_218 : decode zc_Mo_scan 218 = .ok (.iastore, 1) := by decide +kernel
theorem zd_Mo_scan_219 : decode zc_Mo_scan 219 = .ok (.aload_n 0, 1) := by decide +kernel
theorem zd_Mo_scan_220 : decode zc_Mo_scan 220 = .ok (.iload_n 1, 1) := by decide +kernel
theorem zd_Mo_scan_221 : decode zc_Mo_scan 221 = .ok (.invokevirtual 189, 3) := by decide +kernel
theorem zd_Mo_scan_224 : decode zc_Mo_scan 224 = .ok (.iinc 1 1, 3) := by decide +kernel
theorem zd_Mo_scan_227 : decode zc_Mo_scan 227 = .ok (.goto (-44), 3) := by decide +kernel
theorem zd_Mo_scan_230 : decode zc_Mo_scan 230 = .ok (.return_, 1) := by decide +kernel
theorem zd_Mo_register_0 : decode zc_Mo_register 0 = .ok (.aload_n 0, 1) := by decide +kernel
theorem zd_Mo_register_1 : decode zc_Mo_register 1 = .ok (.iload_n 1, 1) := by decide +kernel
theorem zd_Mo_register_2 : decode zc_Mo_register 2 = .ok (.iconst 0, 1) := by decide +kernel
theorem zd_Mo_register_3 : decode zc_Mo_register 3 = .ok (.bipush 7, 2) := by decide +kernel
theorem zd_Mo_register_5 : decode zc_Mo_register 5 = .ok (.invokestatic 79, 3) := by decide +kernel
theorem zd_Mo_register_8 : decode zc_Mo_register 8 = .ok (.ifCond .eq 16, 3) := by decide +kernel
theorem zd_Mo_register_11 : decode zc_Mo_register 11 = .ok (.iload_n 2, 1) := by decide +kernel
theorem zd_Mo_register_12 : decode zc_Mo_register 12 = .ok (.iconst 0, 1) := by decide +kernel
theorem zd_Mo_register_13 : decode zc_Mo_register 13 = .ok (.iconst 1, 1) := by decide +kernel
theorem zd_Mo_register_14 : decode zc_Mo_register 14 = .ok (.invokestatic 79, 3) := by decide +kernel
theorem zd_Mo_register_17 : decode zc_Mo_register 17 = .ok (.ifCond .eq 7, 3) := by decide +kernel
theorem zd_Mo_register_20 : decode zc_Mo_register 20 = .ok (.iconst 1, 1) := by decide +kernel
theorem zd_Mo_register_21 : decode zc_Mo_register 21 = .ok (.goto 4, 3) := by decide +kernel
theorem zd_Mo_register_24 : decode zc_Mo_register 24 = .ok (.iconst 0, 1) := by decide +kernel
theorem zd_Mo_register_25 : decode zc_Mo_register 25 = .ok (.invokevirtual 87, 3) := by decide +kernel
theorem zd_Mo_register_28 : decode zc_Mo_register 28 = .ok (.ifCond .eq 5, 3) := by decide +kernel
theorem zd_Mo_register_31 : decode zc_Mo_register 31 = .ok (.iconst 0, 1) := by decide +kernel
theorem zd_Mo_register_32 : decode zc_Mo_register 32 = .ok (.ireturn, 1) := by decide +kernel
theorem zd_Mo_register_33 : decode zc_Mo_register 33 = .ok (.iload_n 2, 1) := by decide +kernel
theorem zd_Mo_register_34 : decode zc_Mo_register 34 = .ok (.ifCond .ne 12, 3) := by decide +kernel
theorem zd_Mo_register_37 : decode zc_Mo_register 37 = .ok (.aload_n 0, 1) := by decide +kernel
theorem zd_Mo_register_38 : decode zc_Mo_register 38 = .ok (.getfield 34, 3) := by decide +kernel
theorem zd_Mo_register_41 : decode zc_Mo_register 41 = .ok (.iload_n 1, 1) := by decide +kernel
theorem zd_Mo_register_42 : decode zc_Mo_register 42 = .ok (.iaload, 1) := by decide +kernel
theorem zd_Mo_register_43 : decode zc_Mo_register 43 = .ok (.goto 9, 3) := by decide +kernel
theorem zd_Mo_register_46 : decode zc_Mo_register 46 = .ok (.aload_n 0, 1) := by decide +kernel
theorem zd_Mo_register_47 : decode zc_Mo_register 47 = .ok (.getfield 37, 3) := by decide +kernel
theorem zd_Mo_register_50 : decode zc_Mo_register 50 = .ok (.iload_n 1, 1) := by decide +kernel
theorem zd_Mo_register_51 : decode zc_Mo_register 51 = .ok (.iaload, 1) := by decide +kernel
theorem zd_Mo_register_52 : decode zc_Mo_register 52 = .ok (.ireturn, 1) := by decide +kernel
theorem zd_Mo_memory_0 : decode zc_Mo_memory 0 = .ok (.aload_n 0, 1) := by decide +kernel
theorem zd_Mo_memory_1 : decode zc_Mo_memory 1 = .ok (.iload_n 1, 1) := by decide +kernel
theorem zd_Mo_memory_2 : decode zc_Mo_memory 2 = .ok (.iconst 0, 1) := by decide +kernel
theorem zd_Mo_memory_3 : decode zc_Mo_memory 3 = .ok (.sipush 255, 3) := by decide +kernel
theorem zd_Mo_memory_6 : decode zc_Mo_memory 6 = .ok (.invokestatic 79, 3) := by decide +kernel
theorem zd_Mo_memory_9 : decode zc_Mo_memory 9 = .ok (.ifCond .eq 16, 3) := by decide +kernel
theorem zd_Mo_memory_12 : decode zc_Mo_memory 12 = .ok (.iload_n 2, 1) := by decide +kernel
theorem zd_Mo_memory_13 : decode zc_Mo_memory 13 = .ok (.iconst 0, 1) := by decide +kernel
theorem zd_Mo_memory_14 : decode zc_Mo_memory 14 = .ok (.iconst 2, 1) := by decide +kernel
theorem zd_Mo_memory_15 : decode zc_Mo_memory 15 = .ok (.invokestatic 79, 3) := by decide +kernel
theorem zd_Mo_memory_18 : decode zc_Mo_memory 18 = .ok (.ifCond .eq 7, 3) := by decide +kernel
theorem zd_Mo_memory_21 : decode zc_Mo_memory 21 = .ok (.iconst 1, 1) := by decide +kernel
theorem zd_Mo_memory_22 : decode zc_Mo_memory 22 = .ok (.goto 4, 3) := by decide +kernel
theorem zd_Mo_memory_25 : decode zc_Mo_memory 25 = .ok (.iconst 0, 1) := by decide +kernel
theorem zd_Mo_memory_26 : decode zc_Mo_memory 26 = .ok (.invokevirtual 87, 3) := by decide +kernel
theorem zd_Mo_memory_29 : decode zc_Mo_memory 29 = .ok (.ifCond .eq 5, 3) := by decide +kernel
theorem zd_Mo_memory_32 : decode zc_Mo_memory 32 = .ok (.iconst 0, 1) := by decide +kernel
theorem zd_Mo_memory_33 : decode zc_Mo_memory 33 = .ok (.ireturn, 1) := by decide +kernel
theorem zd_Mo_memory_34 : decode zc_Mo_memory 34 = .ok (.iload_n 2, 1) := by decide +kernel
theorem zd_Mo_memory_35 : decode zc_Mo_memory 35 = .ok (.ifCond .ne 12, 3) := by decide +kernel
theorem zd_Mo_memory_38 : decode zc_Mo_memory 38 = .ok (.aload_n 0, 1) := by decide +kernel
theorem zd_Mo_memory_39 : decode zc_Mo_memory 39 = .ok (.getfield 25, 3) := by decide +kernel
theorem zd_Mo_memory_42 : decode zc_Mo_memory 42 = .ok (.iload_n 1, 1) := by decide +kernel
theorem zd_Mo_memory_43 : decode zc_Mo_memory 43 = .ok (.iaload, 1) := by decide +kernel
theorem zd_Mo_memory_44 : decode zc_Mo_memory 44 = .ok (.goto 23, 3) := by decide +kernel
theorem zd_Mo_memory_47 : decode zc_Mo_memory 47 = .ok (.iload_n 2, 1) := by decide +kernel
theorem zd_Mo_memory_48 : decode zc_Mo_memory 48 = .ok (.iconst 1, 1) := by decide +kernel
theorem zd_Mo_memory_49 : decode zc_Mo_memory 49 = .ok (.if_icmp .ne 12, 3) := by decide +kernel
theorem zd_Mo_memory_52 : decode zc_Mo_memory 52 = .ok (.aload_n 0, 1) := by decide +kernel
theorem zd_Mo_memory_53 : decode zc_Mo_memory 53 = .ok (.getfield 28, 3) := by decide +kernel
theorem zd_Mo_memory_56 : decode zc_Mo_memory 56 = .ok (.iload_n 1, 1) := by decide +kernel
theorem zd_Mo_memory_57 : decode zc_Mo_memory 57 = .ok (.iaload, 1) := by decide +kernel
theorem zd_Mo_memory_58 : decode zc_Mo_memory 58 = .ok (.goto 9, 3) := by decide +kernel
theorem zd_Mo_memory_61 : decode zc_Mo_memory 61 = .ok (.aload_n 0, 1) := by decide +kernel
theorem zd_Mo_memory_62 : decode zc_Mo_memory 62 = .ok (.getfield 31, 3) := by decide +kernel
theorem zd_Mo_memory_65 : decode zc_Mo_memory 65 = .ok (.iload_n 1, 1) := by decide +kernel
theorem zd_Mo_memory_66 : decode zc_Mo_memory 66 = .ok (.iaload, 1) := by decide +kernel
theorem zd_Mo_memory_67 : decode zc_Mo_memory 67 = .ok (.ireturn, 1) := by decide +kernel
theorem zd_Mo_poke_0 : decode zc_Mo_poke 0 = .ok (.aload_n 0, 1) := by decide +kernel
theorem zd_Mo_poke_1 : decode zc_Mo_poke 1 = .ok (.iload_n 1, 1) := by decide +kernel
theorem zd_Mo_poke_2 : decode zc_Mo_poke 2 = .ok (.iconst 0, 1) := by decide +kernel
theorem zd_Mo_poke_3 : decode zc_Mo_poke 3 = .ok (.sipush 255, 3) := by decide +kernel
theorem zd_Mo_poke_6 : decode zc_Mo_poke 6 = .ok (.invokestatic 79, 3) := by decide +kernel
theorem zd_Mo_poke_9 : decode zc_Mo_poke 9 = .ok (.ifCond .eq 18, 3) := by decide +kernel
theorem zd_Mo_poke_12 : decode zc_Mo_poke 12 = .ok (.iload_n 2, 1) := by decide +kernel
theorem zd_Mo_poke_13 : decode zc_Mo_poke 13 = .ok (.iconst 0, 1) := by decide +kernel
theorem zd_Mo_poke_14 : decode zc_Mo_poke 14 = .ok (.sipush 255, 3) := by decide +kernel
theorem zd_Mo_poke_17 : decode zc_Mo_poke 17 = .ok (.invokestatic 79, 3) := by decide +kernel
theorem zd_Mo_poke_20 : decode zc_Mo_poke 20 = .ok (.ifCond .eq 7, 3) := by decide +kernel
theorem zd_Mo_poke_23 : decode zc_Mo_poke 23 = .ok (.iconst 1, 1) := by decide +kernel
theorem zd_Mo_poke_24 : decode zc_Mo_poke 24 = .ok (.goto 4, 3) := by decide +kernel
theorem zd_Mo_poke_27 : decode zc_Mo_poke 27 = .ok (.iconst 0, 1) := by decide +kernel
theorem zd_Mo_poke_28 : decode zc_Mo_poke 28 = .ok (.invokevirtual 87, 3) := by decide +kernel
theorem zd_Mo_poke_31 : decode zc_Mo_poke 31 = .ok (.ifCond .eq 4, 3) := by decide +kernel
theorem zd_Mo_poke_34 : decode zc_Mo_poke 34 = .ok (.return_, 1) := by decide +kernel
theorem zd_Mo_poke_35 : decode zc_Mo_poke 35 = .ok (.aload_n 0, 1) := by decide +kernel
theorem zd_Mo_poke_36 : decode zc_Mo_poke 36 = .ok (.getfield 25, 3) := by decide +kernel
theorem zd_Mo_poke_39 : decode zc_Mo_poke 39 = .ok (.iload_n 1, 1) := by decide +kernel
theorem zd_Mo_poke_40 : decode zc_Mo_poke 40 = .ok (.iload_n 2, 1) := by decide +kernel
theorem zd_Mo_poke_41 : decode zc_Mo_poke 41 = .ok (.iastore, 1) := by decide +kernel
theorem zd_Mo_poke_42 : decode zc_Mo_poke 42 = .ok (.aload_n 0, 1) := by decide +kernel
theorem zd_Mo_poke_43 : decode zc_Mo_poke 43 = .ok (.getfield 31, 3) := by decide +kernel
theorem zd_Mo_poke_46 : decode zc_Mo_poke 46 = .ok (.iload_n 1, 1) := by decide +kernel
theorem zd_Mo_poke_47 : decode zc_Mo_poke 47 = .ok (.iconst 1, 1) := by decide +kernel
theorem zd_Mo_poke_48 : decode zc_Mo_poke 48 = .ok (.iastore, 1) := by decide +kernel
theorem zd_Mo_poke_49 : decode zc_Mo_poke 49 = .ok (.return_, 1) := by decide +kernel
theorem zd_Mo_finding_0 : decode zc_Mo_finding 0 = .ok (.aload_n 0, 1) := by decide +kernel
theorem zd_Mo_finding_1 : decode zc_Mo_finding 1 = .ok (.iload_n 2, 1) := by decide +kernel
theorem zd_Mo_finding_2 : decode zc_Mo_finding 2 = .ok (.iconst 0, 1) := by decide +kernel
theorem zd_Mo_finding_3 : decode zc_Mo_finding 3 = .ok (.iconst 3, 1) := by decide +kernel
theorem zd_Mo_finding_4 : decode zc_Mo_finding 4 = .ok (.invokestatic 79, 3) := by decide +kernel
theorem zd_Mo_finding_7 : decode zc_Mo_finding 7 = .ok (.invokevirtual 87, 3) := by decide +kernel
theorem zd_Mo_finding_10 : decode zc_Mo_finding 10 = .ok (.ifCond .eq 5, 3) := by decide +kernel
theorem zd_Mo_finding_13 : decode zc_Mo_finding 13 = .ok (.iconst 0, 1) := by decide +kernel
theorem zd_Mo_finding_14 : decode zc_Mo_finding 14 = .ok (.ireturn, 1) := by decide +kernel
theorem zd_Mo_finding_15 : decode zc_Mo_finding 15 = .ok (.iload_n 1, 1) := by decide +kernel
theorem zd_Mo_finding_16 : decode zc_Mo_finding 16 = .ok (.iconst 0, 1) := by decide +kernel
theorem zd_Mo_finding_17 : decode zc_Mo_finding 17 = .ok (.aload_n 0, 1) := by decide +kernel
theorem zd_Mo_finding_18 : decode zc_Mo_finding 18 = .ok (.getfield 102, 3) := by decide +kernel
theorem zd_Mo_finding_21 : decode zc_Mo_finding 21 = .ok (.iconst 1, 1) := by decide +kernel
theorem zd_Mo_finding_22 : decode zc_Mo_finding 22 = .ok (.isub, 1) := by decide +kernel
theorem zd_Mo_finding_23 : decode zc_Mo_finding 23 = .ok (.invokestatic 79, 3) := by decide +kernel
theorem zd_Mo_finding_26 : decode zc_Mo_finding 26 = .ok (.ifCond .ne 10, 3) := by decide +kernel
theorem zd_Mo_finding_29 : decode zc_Mo_finding 29 = .ok (.aload_n 0, 1) := by decide +kernel
theorem zd_Mo_finding_30 : decode zc_Mo_finding 30 = .ok (.iconst 2, 1) := by decide +kernel
theorem zd_Mo_finding_31 : decode zc_Mo_finding 31 = .ok (.putfield 75, 3) := by decide +kernel
theorem zd_Mo_finding_34 : decode zc_Mo_finding 34 = .ok (.iconst 0, 1) := by decide +kernel
theorem zd_Mo_finding_35 : decode zc_Mo_finding 35 = .ok (.ireturn, 1) := by decide +kernel
theorem zd_Mo_finding_36 : decode zc_Mo_finding 36 = .ok (.iload_n 2, 1) := by decide +kernel
theorem zd_Mo_finding_37 : decode zc_Mo_finding 37 = .ok (.ifCond .ne 12, 3) := by decide +kernel
theorem zd_Mo_finding_40 : decode zc_Mo_finding 40 = .ok (.aload_n 0, 1) := by decide +kernel
theorem zd_Mo_finding_41 : decode zc_Mo_finding 41 = .ok (.getfield 55, 3) := by decide +kernel
theorem zd_Mo_finding_44 : decode zc_Mo_finding 44 = .ok (.iload_n 1, 1) := by decide +kernel
theorem zd_Mo_finding_45 : decode zc_Mo_finding 45 = .ok (.iaload, 1) := by decide +kernel
theorem zd_Mo_finding_46 : decode zc_Mo_finding 46 = .ok (.goto 37, 3) := by decide +kernel
theorem zd_Mo_finding_49 : decode zc_Mo_finding 49 = .ok (.iload_n 2, 1) := by decide +kernel
theorem zd_Mo_finding_50 : decode zc_Mo_finding 50 = .ok (.iconst 1, 1) := by decide +kernel
theorem zd_Mo_finding_51 : decode zc_Mo_finding 51 = .ok (.if_icmp .ne 12, 3) := by decide +kernel
theorem zd_Mo_finding_54 : decode zc_Mo_finding 54 = .ok (.aload_n 0, 1) := by decide +kernel
theorem zd_Mo_finding_55 : decode zc_Mo_finding 55 = .ok (.getfield 58, 3) := by decide +kernel
theorem zd_Mo_finding_58 : decode zc_Mo_finding 58 = .ok (.iload_n 1, 1) := by decide +kernel
theorem zd_Mo_finding_59 : decode zc_Mo_finding 59 = .ok (.iaload, 1) := by decide +kernel
theorem zd_Mo_finding_60 : decode zc_Mo_finding 60 = .ok (.goto 23, 3) := by decide +kernel
theorem zd_Mo_finding_63 : decode zc_Mo_finding 63 = .ok (.iload_n 2, 1) := by decide +kernel
theorem zd_Mo_finding_64 : decode zc_Mo_finding 64 = .ok (.iconst 2, 1) := by decide +kernel
theorem zd_Mo_finding_65 : decode zc_Mo_finding 65 = .ok (.if_icmp .ne 12, 3) := by decide +kernel
theorem zd_Mo_finding_68 : decode zc_Mo_finding 68 = .ok (.aload_n 0, 1) := by decide +kernel
theorem zd_Mo_finding_69 : decode zc_Mo_finding 69 = .ok (.getfield 61, 3) := by decide +kernel
theorem zd_Mo_finding_72 : decode zc_Mo_finding 72 = .ok (.iload_n 1, 1) := by decide +kernel
theorem zd_Mo_finding_73 : decode zc_Mo_finding 73 = .ok (.iaload, 1) := by decide +kernel
theorem zd_Mo_finding_74 : decode zc_Mo_finding 74 = .ok (.goto 9, 3) := by decide +kernel
theorem zd_Mo_finding_77 : decode zc_Mo_finding 77 = .ok (.aload_n 0, 1) := by decide +kernel
theorem zd_Mo_finding_78 : decode zc_Mo_finding 78 = .ok (.getfield 64, 3) := by decide +kernel
theorem zd_Mo_finding_81 : decode zc_Mo_finding 81 = .ok (.iload_n 1, 1) := by decide +kernel
theorem zd_Mo_finding_82 : decode zc_Mo_finding 82 = .ok (.iaload, 1) := by decide +kernel
theorem zd_Mo_finding_83 : decode zc_Mo_finding 83 = .ok (.ireturn, 1) := by decide +kernel
theorem zd_Mo_block_0 : decode zc_Mo_block 0 = .ok (.aload_n 0, 1) := by decide +kernel
theorem zd_Mo_block_1 : decode zc_Mo_block 1 = .ok (.iload_n 2, 1) := by decide +kernel
theorem zd_Mo_block_2 : decode zc_Mo_block 2 = .ok (.iconst 0, 1) := by decide +kernel
theorem zd_Mo_block_3 : decode zc_Mo_block 3 = .ok (.iconst 3, 1) := by decide +kernel
theorem zd_Mo_block_4 : decode zc_Mo_block 4 = .ok (.invokestatic 79, 3) := by decide +kernel
theorem zd_Mo_block_7 : decode zc_Mo_block 7 = .ok (.invokevirtual 87, 3) := by decide +kernel
theorem zd_Mo_block_10 : decode zc_Mo_block 10 = .ok (.ifCond .eq 5, 3) := by decide +kernel
theorem zd_Mo_block_13 : decode zc_Mo_block 13 = .ok (.iconst 0, 1) := by decide +kernel
theorem zd_Mo_block_14 : decode zc_Mo_block 14 = .ok (.ireturn, 1) := by decide +kernel
theorem zd_Mo_block_15 : decode zc_Mo_block 15 = .ok (.iconst 0, 1) := by decide +kernel
theorem zd_Mo_block_16 : decode zc_Mo_block 16 = .ok (.istore_n 3, 1) := by decide +kernel
theorem zd_Mo_block_17 : decode zc_Mo_block 17 = .ok (.iload_n 3, 1) := by decide +kernel
theorem zd_Mo_block_18 : decode zc_Mo_block 18 = .ok (.aload_n 0, 1) := by decide +kernel
theorem zd_Mo_block_19 : decode zc_Mo_block 19 = .ok (.getfield 125, 3) := by decide +kernel
theorem zd_Mo_block_22 : decode zc_Mo_block 22 = .ok (.if_icmp .ge 19, 3) := by decide +kernel
theorem zd_Mo_block_25 : decode zc_Mo_block 25 = .ok (.aload_n 0, 1) := by decide +kernel
theorem zd_Mo_block_26 : decode zc_Mo_block 26 = .ok (.getfield 40, 3) := by decide +kernel
theorem zd_Mo_block_29 : decode zc_Mo_block 29 = .ok (.iload_n 3, 1) := by decide +kernel
theorem zd_Mo_block_30 : decode zc_Mo_block 30 = .ok (.iaload, 1) := by decide +kernel
theorem zd_Mo_block_31 : decode zc_Mo_block 31 = .ok (.iload_n 1, 1) := by decide +kernel
theorem zd_Mo_block_32 : decode zc_Mo_block 32 = .ok (.if_icmp .eq 9, 3) := by decide +kernel
theorem zd_Mo_block_35 : decode zc_Mo_block 35 = .ok (.iinc 3 1, 3) := by decide +kernel
theorem zd_Mo_block_38 : decode zc_Mo_block 38 = .ok (.goto (-21), 3) := by decide +kernel
theorem zd_Mo_block_41 : decode zc_Mo_block 41 = .ok (.iload_n 3, 1) := by decide +kernel
theorem zd_Mo_block_42 : decode zc_Mo_block 42 = .ok (.aload_n 0, 1) := by decide +kernel
theorem zd_Mo_block_43 : decode zc_Mo_block 43 = .ok (.getfield 125, 3) := by decide +kernel
theorem zd_Mo_block_46 : decode zc_Mo_block 46 = .ok (.if_icmp .ne 10, 3) := by decide +kernel
theorem zd_Mo_block_49 : decode zc_Mo_block 49 = .ok (.aload_n 0, 1) := by decide +kernel
theorem zd_Mo_block_50 : decode zc_Mo_block 50 = .ok (.iconst 2, 1) := by decide +kernel
theorem zd_Mo_block_51 : decode zc_Mo_block 51 = .ok (.putfield 75, 3) := by decide +kernel
theorem zd_Mo_block_54 : decode zc_Mo_block 54 = .ok (.iconst 0, 1) := by decide +kernel
theorem zd_Mo_block_55 : decode zc_Mo_block 55 = .ok (.ireturn, 1) := by decide +kernel
theorem zd_Mo_block_56 : decode zc_Mo_block 56 = .ok (.aload_n 0, 1) := by decide +kernel
theorem zd_Mo_block_57 : decode zc_Mo_block 57 = .ok (.invokevirtual 192, 3) := by decide +kernel
theorem zd_Mo_block_60 : decode zc_Mo_block 60 = .ok (.iload_n 2, 1) := by decide +kernel
theorem zd_Mo_block_61 : decode zc_Mo_block 61 = .ok (.ifCond .ne 12, 3) := by decide +kernel
theorem zd_Mo_block_64 : decode zc_Mo_block 64 = .ok (.aload_n 0, 1) := by decide +kernel
theorem zd_Mo_block_65 : decode zc_Mo_block 65 = .ok (.getfield 43, 3) := by decide +kernel
theorem zd_Mo_block_68 : decode zc_Mo_block 68 = .ok (.iload_n 3, 1) := by decide +kernel
theorem zd_Mo_block_69 : decode zc_Mo_block 69 = .ok (.iaload, 1) := by decide +kernel
theorem zd_Mo_block_70 : decode zc_Mo_block 70 = .ok (.goto 45, 3) := by decide +kernel
theorem zd_Mo_block_73 : decode zc_Mo_block 73 = .ok (.iload_n 2, 1) := by decide +kernel
theorem zd_Mo_block_74 : decode zc_Mo_block 74 = .ok (.iconst 1, 1) := by decide +kernel
theorem zd_Mo_block_75 : decode zc_Mo_block 75 = .ok (.if_icmp .ne 12, 3) := by decide +kernel
theorem zd_Mo_block_78 : decode zc_Mo_block 78 = .ok (.aload_n 0, 1) := by decide +kernel
theorem zd_Mo_block_79 : decode zc_Mo_block 79 = .ok (.getfield 46, 3) := by decide +kernel
theorem zd_Mo_block_82 : decode zc_Mo_block 82 = .ok (.iload_n 3, 1) := by decide +kernel
theorem zd_Mo_block_83 : decode zc_Mo_block 83 = .ok (.iaload, 1) := by decide +kernel
theorem zd_Mo_block_84 : decode zc_Mo_block 84 = .ok (.goto 31, 3) := by decide +kernel
theorem zd_Mo_block_87 : decode zc_Mo_block 87 = .ok (.iload_n 2, 1) := by decide +kernel
theorem zd_Mo_block_88 : decode zc_Mo_block 88 = .ok (.iconst 2, 1) := by decide +kernel
theorem zd_Mo_block_89 : decode zc_Mo_block 89 = .ok (.if_icmp .ne 20, 3) := by decide +kernel
theorem zd_Mo_block_92 : decode zc_Mo_block 92 = .ok (.aload_n 0, 1) := by decide +kernel
theorem zd_Mo_block_93 : decode zc_Mo_block 93 = .ok (.getfield 49, 3) := by decide +kernel
theorem zd_Mo_block_96 : decode zc_Mo_block 96 = .ok (.iload_n 3, 1) := by decide +kernel
theorem zd_Mo_block_97 : decode zc_Mo_block 97 = .ok (.iaload, 1) := by decide +kernel
theorem zd_Mo_block_98 : decode zc_Mo_block 98 = .ok (.ifCond .le 7, 3) := by decide +kernel
theorem zd_Mo_block_101 : decode zc_Mo_block 101 = .ok (.iconst 2, 1) := by decide +kernel
theorem zd_Mo_block_102 : decode zc_Mo_block 102 = .ok (.goto 13, 3) := by decide +kernel
theorem zd_Mo_block_105 : decode zc_Mo_block 105 = .ok (.iconst 1, 1) := by decide +kernel
theorem zd_Mo_block_106 : decode zc_Mo_block 106 = .ok (.goto 9, 3) := by decide +kernel
theorem zd_Mo_block_109 : decode zc_Mo_block 109 = .ok (.aload_n 0, 1) := by decide +kernel
theorem zd_Mo_block_110 : decode zc_Mo_block 110 = .ok (.getfield 52, 3) := by decide +kernel
theorem zd_Mo_block_113 : decode zc_Mo_block 113 = .ok (.iload_n 3, 1) := by decide +kernel
theorem zd_Mo_block_114 : decode zc_Mo_block 114 = .ok (.iaload, 1) := by decide +kernel
theorem zd_Mo_block_115 : decode zc_Mo_block 115 = .ok (.ireturn, 1) := by decide +kernel
theorem zd_Mo_leaks_0 : decode zc_Mo_leaks 0 = .ok (.aload_n 0, 1) := by decide +kernel
theorem zd_Mo_leaks_1 : decode zc_Mo_leaks 1 = .ok (.iload_n 1, 1) := by decide +kernel
theorem zd_Mo_leaks_2 : decode zc_Mo_leaks 2 = .ok (.iconst 1, 1) := by decide +kernel
theorem zd_Mo_leaks_3 : decode zc_Mo_leaks 3 = .ok (.iconst 4, 1) := by decide +kernel
theorem zd_Mo_leaks_4 : decode zc_Mo_leaks 4 = .ok (.invokestatic 79, 3) := by decide +kernel
theorem zd_Mo_leaks_7 : decode zc_Mo_leaks 7 = .ok (.invokevirtual 87, 3) := by decide +kernel
theorem zd_Mo_leaks_10 : decode zc_Mo_leaks 10 = .ok (.ifCond .eq 5, 3) := by decide +kernel
theorem zd_Mo_leaks_13 : decode zc_Mo_leaks 13 = .ok (.iconst 0, 1) := by decide +kernel
theorem zd_Mo_leaks_14 : decode zc_Mo_leaks 14 = .ok (.ireturn, 1) := by decide +kernel
theorem zd_Mo_leaks_15 : decode zc_Mo_leaks 15 = .ok (.aload_n 0, 1) := by decide +kernel
theorem zd_Mo_leaks_16 : decode zc_Mo_leaks 16 = .ok (.invokevirtual 192, 3) := by decide +kernel
theorem zd_Mo_leaks_19 : decode zc_Mo_leaks 19 = .ok (.iconst 0, 1) := by decide +kernel
theorem zd_Mo_leaks_20 : decode zc_Mo_leaks 20 = .ok (.istore_n 2, 1) := by decide +kernel
theorem zd_Mo_leaks_21 : decode zc_Mo_leaks 21 = .ok (.iconst 0, 1) := by decide +kernel
theorem zd_Mo_leaks_22 : decode zc_Mo_leaks 22 = .ok (.istore_n 3, 1) := by decide +kernel
theorem zd_Mo_leaks_23 : decode zc_Mo_leaks 23 = .ok (.iload_n 3, 1) := by decide +kernel
theorem zd_Mo_leaks_24 : decode zc_Mo_leaks 24 = .ok (.aload_n 0, 1) := by decide +kernel
theorem zd_Mo_leaks_25 : decode zc_Mo_leaks 25 = .ok (.getfield 125, 3) := by decide +kernel
theorem zd_Mo_leaks_28 : decode zc_Mo_leaks 28 = .ok (.if_icmp .ge 31, 3) := by decide +kernel
theorem zd_Mo_leaks_31 : decode zc_Mo_leaks 31 = .ok (.aload_n 0, 1) := by decide +kernel
theorem zd_Mo_leaks_32 : decode zc_Mo_leaks 32 = .ok (.getfield 49, 3) := by decide +kernel
theorem zd_Mo_leaks_35 : decode zc_Mo_leaks 35 = .ok (.iload_n 3, 1) := by decide +kernel
theorem zd_Mo_leaks_36 : decode zc_Mo_leaks 36 = .ok (.iaload, 1) := by decide +kernel
theorem zd_Mo_leaks_37 : decode zc_Mo_leaks 37 = .ok (.ifCond .ne 16, 3) := by decide +kernel
theorem zd_Mo_leaks_40 : decode zc_Mo_leaks 40 = .ok (.aload_n 0, 1) := by decide +kernel
theorem zd_Mo_leaks_41 : decode zc_Mo_leaks 41 = .ok (.getfield 52, 3) := by decide +kernel
theorem zd_Mo_leaks_44 : decode zc_Mo_leaks 44 = .ok (.iload_n 3, 1) := by decide +kernel
theorem zd_Mo_leaks_45 : decode zc_Mo_leaks 45 = .ok (.iaload, 1) := by decide +kernel
theorem zd_Mo_leaks_46 : decode zc_Mo_leaks 46 = .ok (.iload_n 1, 1) := by decide +kernel
theorem zd_Mo_leaks_47 : decode zc_Mo_leaks 47 = .ok (.if_icmp .ne 6, 3) := by decide +kernel
theorem zd_Mo_leaks_50 : decode zc_Mo_leaks 50 = .ok (.iinc 2 1, 3) := by decide +kernel
theorem zd_Mo_leaks_53 : decode zc_Mo_leaks 53 = .ok (.iinc 3 1, 3) := by decide +kernel
theorem zd_Mo_leaks_56 : decode zc_Mo_leaks 56 = .ok (.goto (-33), 3) := by decide +kernel
theorem zd_Mo_leaks_59 : decode zc_Mo_leaks 59 = .ok (.iload_n 2, 1) := by decide +kernel
theorem zd_Mo_leaks_60 : decode zc_Mo_leaks 60 = .ok (.ireturn, 1) := by decide +kernel
theorem zd_Mo_count_0 : decode zc_Mo_count 0 = .ok (.aload_n 0, 1) := by decide +kernel
theorem zd_Mo_count_1 : decode zc_Mo_count 1 = .ok (.iconst 0, 1) := by decide +kernel
theorem zd_Mo_count_2 : decode zc_Mo_count 2 = .ok (.putfield 75, 3) := by decide +kernel
theorem zd_Mo_count_5 : decode zc_Mo_count 5 = .ok (.iconst 0, 1) := by decide +kernel
theorem zd_Mo_count_6 : decode zc_Mo_count 6 = .ok (.istore_n 2, 1) := by decide +kernel
theorem zd_Mo_count_7 : decode zc_Mo_count 7 = .ok (.iconst 0, 1) := by decide +kernel
theorem zd_Mo_count_8 : decode zc_Mo_count 8 = .ok (.istore_n 3, 1) := by decide +kernel
theorem zd_Mo_count_9 : decode zc_Mo_count 9 = .ok (.iconst 0, 1) := by decide +kernel
theorem zd_Mo_count_10 : decode zc_Mo_count 10 = .ok (.istore 4, 2) := by decide +kernel
theorem zd_Mo_count_12 : decode zc_Mo_count 12 = .ok (.iload 4, 2) := by decide +kernel
theorem zd_Mo_count_14 : decode zc_Mo_count 14 = .ok (.aload_n 0, 1) := by decide +kernel
theorem zd_Mo_count_15 : decode zc_Mo_count 15 = .ok (.getfield 102, 3) := by decide +kernel
theorem zd_Mo_count_18 : decode zc_Mo_count 18 = .ok (.if_icmp .ge 19, 3) := by decide +kernel
theorem zd_Mo_count_21 : decode zc_Mo_count 21 = .ok (.iload_n 2, 1) := by decide +kernel
theorem zd_Mo_count_22 : decode zc_Mo_count 22 = .ok (.aload_n 0, 1) := by decide +kernel
theorem zd_Mo_count_23 : decode zc_Mo_count 23 = .ok (.getfield 64, 3) := by decide +kernel
theorem zd_Mo_count_26 : decode zc_Mo_count 26 = .ok (.iload 4, 2) := by decide +kernel
theorem zd_Mo_count_28 : decode zc_Mo_count 28 = .ok (.iaload, 1) := by decide +kernel
theorem zd_Mo_count_29 : decode zc_Mo_count 29 = .ok (.iadd, 1) := by decide +kernel
theorem zd_Mo_count_30 : decode zc_Mo_count 30 = .ok (.istore_n 2, 1) := by decide +kernel
theorem zd_Mo_count_31 : decode zc_Mo_count 31 = .ok (.iinc 4 1, 3) := by decide +kernel
theorem zd_Mo_count_34 : decode zc_Mo_count 34 = .ok (.goto (-22), 3) := by decide +kernel
theorem zd_Mo_count_37 : decode zc_Mo_count 37 = .ok (.iconst 0, 1) := by decide +kernel
theorem zd_Mo_count_38 : decode zc_Mo_count 38 = .ok (.istore 4, 2) := by decide +kernel
theorem zd_Mo_count_40 : decode zc_Mo_count 40 = .ok (.iload 4, 2) := by decide +kernel
theorem zd_Mo_count_42 : decode zc_Mo_count 42 = .ok (.bipush 32, 2) := by decide +kernel
theorem zd_Mo_count_44 : decode zc_Mo_count 44 = .ok (.if_icmp .ge 22, 3) := by decide +kernel
theorem zd_Mo_count_47 : decode zc_Mo_count 47 = .ok (.aload_n 0, 1) := by decide +kernel
theorem zd_Mo_count_48 : decode zc_Mo_count 48 = .ok (.getfield 67, 3) := by decide +kernel
theorem zd_Mo_count_51 : decode zc_Mo_count 51 = .ok (.iload 4, 2) := by decide +kernel
theorem zd_Mo_count_53 : decode zc_Mo_count 53 = .ok (.baload, 1) := by decide +kernel
theorem zd_Mo_count_54 : decode zc_Mo_count 54 = .ok (.ifCond .eq 6, 3) := by decide +kernel
theorem zd_Mo_count_57 : decode zc_Mo_count 57 = .ok (.iinc 3 1, 3) := by decide +kernel
theorem zd_Mo_count_60 : decode zc_Mo_count 60 = .ok (.iinc 4 1, 3) := by decide +kernel
theorem zd_Mo_count_63 : decode zc_Mo_count 63 = .ok (.goto (-23), 3) := by decide +kernel
theorem zd_Mo_count_66 : decode zc_Mo_count 66 = .ok (.iload_n 1, 1) := by decide +kernel
theorem zd_Mo_count_67 : decode zc_Mo_count 67 = .ok (.tableswitch 110 0 9 #[53, 58, 71, 76, 81, 83, 93, 98, 103, 108], 53) := by decide +kernel
theorem zd_Mo_count_120 : decode zc_Mo_count 120 = .ok (.aload_n 0, 1) := by decide +kernel
theorem zd_Mo_count_121 : decode zc_Mo_count 121 = .ok (.getfield 95, 3) := by decide +kernel
theorem zd_Mo_count_124 : decode zc_Mo_count 124 = .ok (.ireturn, 1) := by decide +kernel
theorem zd_Mo_count_125 : decode zc_Mo_count 125 = .ok (.aload_n 0, 1) := by decide +kernel
theorem zd_Mo_count_126 : decode zc_Mo_count 126 = .ok (.getfield 71, 3) := by decide +kernel
theorem zd_Mo_count_129 : decode zc_Mo_count 129 = .ok (.ifCond .eq 7, 3) := by decide +kernel
theorem zd_Mo_count_132 : decode zc_Mo_count 132 = .ok (.iconst 1, 1) := by decide +kernel
theorem zd_Mo_count_133 : decode zc_Mo_count 133 = .ok (.goto 4, 3) := by decide +kernel
theorem zd_Mo_count_136 : decode zc_Mo_count 136 = .ok (.iconst 0, 1) := by decide +kernel
theorem zd_Mo_count_137 : decode zc_Mo_count 137 = .ok (.ireturn, 1) := by decide +kernel
theorem zd_Mo_count_138 : decode zc_Mo_count 138 = .ok (.aload_n 0, 1) := by decide +kernel
theorem zd_Mo_count_139 : decode zc_Mo_count 139 = .ok (.getfield 167, 3) := by decide +kernel
theorem zd_Mo_count_142 : decode zc_Mo_count 142 = .ok (.ireturn, 1) := by decide +kernel
theorem zd_Mo_count_143 : decode zc_Mo_count 143 = .ok (.aload_n 0, 1) := by decide +kernel
theorem zd_Mo_count_144 : decode zc_Mo_count 144 = .ok (.getfield 102, 3) := by decide +kernel
theorem zd_Mo_count_147 : decode zc_Mo_count 147 = .ok (.ireturn, 1) := by decide +kernel
theorem zd_Mo_count_148 : decode zc_Mo_count 148 = .ok (.iload_n 2, 1) := by decide +kernel
theorem zd_Mo_count_149 : decode zc_Mo_count 149 = .ok (.ireturn, 1) := by decide +kernel
theorem zd_Mo_count_150 : decode zc_Mo_count 150 = .ok (.aload_n 0, 1) := by decide +kernel
theorem zd_Mo_count_151 : decode zc_Mo_count 151 = .ok (.getfield 125, 3) := by decide +kernel
theorem zd_Mo_count_154 : decode zc_Mo_count 154 = .ok (.aload_n 0, 1) := by decide +kernel
theorem zd_Mo_count_155 : decode zc_Mo_count 155 = .ok (.invokevirtual 144, 3) := by decide +kernel
theorem zd_Mo_count_158 : decode zc_Mo_count 158 = .ok (.isub, 1) := by decide +kernel
theorem zd_Mo_count_159 : decode zc_Mo_count 159 = .ok (.ireturn, 1) := by decide +kernel
theorem zd_Mo_count_160 : decode zc_Mo_count 160 = .ok (.aload_n 0, 1) := by decide +kernel
theorem zd_Mo_count_161 : decode zc_Mo_count 161 = .ok (.invokevirtual 144, 3) := by decide +kernel
theorem zd_Mo_count_164 : decode zc_Mo_count 164 = .ok (.ireturn, 1) := by decide +kernel
theorem zd_Mo_count_165 : decode zc_Mo_count 165 = .ok (.aload_n 0, 1) := by decide +kernel
theorem zd_Mo_count_166 : decode zc_Mo_count 166 = .ok (.getfield 135, 3) := by decide +kernel
theorem zd_Mo_count_169 : decode zc_Mo_count 169 = .ok (.ireturn, 1) := by decide +kernel
theorem zd_Mo_count_170 : decode zc_Mo_count 170 = .ok (.aload_n 0, 1) := by decide +kernel
theorem zd_Mo_count_171 : decode zc_Mo_count 171 = .ok (.getfield 161, 3) := by decide +kernel
theorem zd_Mo_count_174 : decode zc_Mo_count 174 = .ok (.ireturn, 1) := by decide +kernel
theorem zd_Mo_count_175 : decode zc_Mo_count 175 = .ok (.iload_n 3, 1) := by decide +kernel
theorem zd_Mo_count_176 : decode zc_Mo_count 176 = .ok (.ireturn, 1) := by decide +kernel
theorem zd_Mo_count_177 : decode zc_Mo_count 177 = .ok (.iconst (-1), 1) := by decide +kernel
theorem zd_Mo_count_178 : decode zc_Mo_count 178 = .ok (.ireturn, 1) := by decide +kernel
