theorem dX10_init_0 : decode cX10_init 0 = .ok (.aload_n 0, 1) := by decide +kernel
theorem dX10_init_1 : decode cX10_init 1 = .ok (.invokespecial 1, 3) := by decide +kernel
theorem dX10_init_4 : decode cX10_init 4 = .ok (.aload_n 0, 1) := by decide +kernel
theorem dX10_init_5 : decode cX10_init 5 = .ok (.new 7, 3) := by decide +kernel
theorem dX10_init_8 : decode cX10_init 8 = .ok (.dup, 1) := by decide +kernel
theorem dX10_init_9 : decode cX10_init 9 = .ok (.invokespecial 9, 3) := by decide +kernel
theorem dX10_init_12 : decode cX10_init 12 = .ok (.putfield 10, 3) := by decide +kernel
theorem dX10_init_15 : decode cX10_init 15 = .ok (.aload_n 0, 1) := by decide +kernel
theorem dX10_init_16 : decode cX10_init 16 = .ok (.new 7, 3) := by decide +kernel
theorem dX10_init_19 : decode cX10_init 19 = .ok (.dup, 1) := by decide +kernel
theorem dX10_init_20 : decode cX10_init 20 = .ok (.invokespecial 9, 3) := by decide +kernel
theorem dX10_init_23 : decode cX10_init 23 = .ok (.putfield 16, 3) := by decide +kernel
theorem dX10_init_26 : decode cX10_init 26 = .ok (.aload_n 0, 1) := by decide +kernel
theorem dX10_init_27 : decode cX10_init 27 = .ok (.new 19, 3) := by decide +kernel
theorem dX10_init_30 : decode cX10_init 30 = .ok (.dup, 1) := by decide +kernel
theorem dX10_init_31 : decode cX10_init 31 = .ok (.invokespecial 21, 3) := by decide +kernel
theorem dX10_init_34 : decode cX10_init 34 = .ok (.putfield 22, 3) := by decide +kernel
theorem dX10_init_37 : decode cX10_init 37 = .ok (.aload_n 0, 1) := by decide +kernel
theorem dX10_init_38 : decode cX10_init 38 = .ok (.new 26, 3) := by decide +kernel
theorem dX10_init_41 : decode cX10_init 41 = .ok (.dup, 1) := by decide +kernel
theorem dX10_init_42 : decode cX10_init 42 = .ok (.invokespecial 28, 3) := by decide +kernel
theorem dX10_init_45 : decode cX10_init 45 = .ok (.putfield 29, 3) := by decide +kernel
theorem dX10_init_48 : decode cX10_init 48 = .ok (.aload_n 0, 1) := by decide +kernel
theorem dX10_init_49 : decode cX10_init 49 = .ok (.new 33, 3) := by decide +kernel
theorem dX10_init_52 : decode cX10_init 52 = .ok (.dup, 1) := by decide +kernel
theorem dX10_init_53 : decode cX10_init 53 = .ok (.invokespecial 35, 3) := by decide +kernel
theorem dX10_init_56 : decode cX10_init 56 = .ok (.putfield 36, 3) := by decide +kernel
theorem dX10_init_59 : decode cX10_init 59 = .ok (.aload_n 0, 1) := by decide +kernel
theorem dX10_init_60 : decode cX10_init 60 = .ok (.new 40, 3) := by decide +kernel
theorem dX10_init_63 : decode cX10_init 63 = .ok (.dup, 1) := by decide +kernel
theorem dX10_init_64 : decode cX10_init 64 = .ok (.invokespecial 42, 3) := by decide +kernel
theorem dX10_init_67 : decode cX10_init 67 = .ok (.putfield 43, 3) := by decide +kernel
theorem dX10_init_70 : decode cX10_init 70 = .ok (.aload_n 0, 1) := by decide +kernel
theorem dX10_init_71 : decode cX10_init 71 = .ok (.new 47, 3) := by decide +kernel
theorem dX10_init_74 : decode cX10_init 74 = .ok (.dup, 1) := by decide +kernel
theorem dX10_init_75 : decode cX10_init 75 = .ok (.invokespecial 49, 3) := by decide +kernel
theorem dX10_init_78 : decode cX10_init 78 = .ok (.putfield 50, 3) := by decide +kernel
theorem dX10_init_81 : decode cX10_init 81 = .ok (.aload_n 0, 1) := by decide +kernel
theorem dX10_init_82 : decode cX10_init 82 = .ok (.new 54, 3) := by decide +kernel
theorem dX10_init_85 : decode cX10_init 85 = .ok (.dup, 1) := by decide +kernel
theorem dX10_init_86 : decode cX10_init 86 = .ok (.invokespecial 56, 3) := by decide +kernel
theorem dX10_init_89 : decode cX10_init 89 = .ok (.putfield 57, 3) := by decide +kernel
theorem dX10_init_92 : decode cX10_init 92 = .ok (.aload_n 0, 1) := by decide +kernel
theorem dX10_init_93 : decode cX10_init 93 = .ok (.iconst 0, 1) := by decide +kernel
theorem dX10_init_94 : decode cX10_init 94 = .ok (.putfield 61, 3) := by decide +kernel
theorem dX10_init_97 : decode cX10_init 97 = .ok (.return_, 1) := by decide +kernel
theorem dX10_status_0 : decode cX10_status 0 = .ok (.aload_n 0, 1) := by decide +kernel
theorem dX10_status_1 : decode cX10_status 1 = .ok (.getfield 61, 3) := by decide +kernel
theorem dX10_status_4 : decode cX10_status 4 = .ok (.ireturn, 1) := by decide +kernel
theorem dX10_feed_0 : decode cX10_feed 0 = .ok (.aload_n 0, 1) := by decide +kernel
theorem dX10_feed_1 : decode cX10_feed 1 = .ok (.getfield 29, 3) := by decide +kernel
theorem dX10_feed_4 : decode cX10_feed 4 = .ok (.bipush 20, 2) := by decide +kernel
theorem dX10_feed_6 : decode cX10_feed 6 = .ok (.invokevirtual 65, 3) := by decide +kernel
theorem dX10_feed_9 : decode cX10_feed 9 = .ok (.ifCond .ne 5, 3) := by decide +kernel
theorem dX10_feed_12 : decode cX10_feed 12 = .ok (.iconst (-1), 1) := by decide +kernel
theorem dX10_feed_13 : decode cX10_feed 13 = .ok (.ireturn, 1) := by decide +kernel
theorem dX10_feed_14 : decode cX10_feed 14 = .ok (.aload_n 0, 1) := by decide +kernel
theorem dX10_feed_15 : decode cX10_feed 15 = .ok (.getfield 29, 3) := by decide +kernel
theorem dX10_feed_18 : decode cX10_feed 18 = .ok (.iload_n 1, 1) := by decide +kernel
theorem dX10_feed_19 : decode cX10_feed 19 = .ok (.invokevirtual 69, 3) := by decide +kernel
theorem dX10_feed_22 : decode cX10_feed 22 = .ok (.aload_n 0, 1) := by decide +kernel
theorem dX10_feed_23 : decode cX10_feed 23 = .ok (.getfield 29, 3) := by decide +kernel
theorem dX10_feed_26 : decode cX10_feed 26 = .ok (.iload_n 2, 1) := by decide +kernel
theorem dX10_feed_27 : decode cX10_feed 27 = .ok (.invokevirtual 69, 3) := by decide +kernel
theorem dX10_feed_30 : decode cX10_feed 30 = .ok (.aload_n 0, 1) := by decide +kernel
theorem dX10_feed_31 : decode cX10_feed 31 = .ok (.getfield 29, 3) := by decide +kernel
theorem dX10_feed_34 : decode cX10_feed 34 = .ok (.iload_n 3, 1) := by decide +kernel
theorem dX10_feed_35 : decode cX10_feed 35 = .ok (.invokevirtual 69, 3) := by decide +kernel
theorem dX10_feed_38 : decode cX10_feed 38 = .ok (.aload_n 0, 1) := by decide +kernel
theorem dX10_feed_39 : decode cX10_feed 39 = .ok (.getfield 29, 3) := by decide +kernel
theorem dX10_feed_42 : decode cX10_feed 42 = .ok (.iload 4, 2) := by decide +kernel
theorem dX10_feed_44 : decode cX10_feed 44 = .ok (.invokevirtual 69, 3) := by decide +kernel
theorem dX10_feed_47 : decode cX10_feed 47 = .ok (.aload_n 0, 1) := by decide +kernel
theorem dX10_feed_48 : decode cX10_feed 48 = .ok (.getfield 29, 3) := by decide +kernel
theorem dX10_feed_51 : decode cX10_feed 51 = .ok (.iload 5, 2) := by decide +kernel
theorem dX10_feed_53 : decode cX10_feed 53 = .ok (.invokevirtual 69, 3) := by decide +kernel
theorem dX10_feed_56 : decode cX10_feed 56 = .ok (.aload_n 0, 1) := by decide +kernel
theorem dX10_feed_57 : decode cX10_feed 57 = .ok (.getfield 29, 3) := by decide +kernel
theorem dX10_feed_60 : decode cX10_feed 60 = .ok (.getfield 73, 3) := by decide +kernel
theorem dX10_feed_63 : decode cX10_feed 63 = .ok (.ireturn, 1) := by decide +kernel
theorem dX10_load_0 : decode cX10_load 0 = .ok (.iload_n 1, 1) := by decide +kernel
theorem dX10_load_1 : decode cX10_load 1 = .ok (.ifCond .lt 14, 3) := by decide +kernel
theorem dX10_load_4 : decode cX10_load 4 = .ok (.iload_n 1, 1) := by decide +kernel
theorem dX10_load_5 : decode cX10_load 5 = .ok (.aload_n 0, 1) := by decide +kernel
theorem dX10_load_6 : decode cX10_load 6 = .ok (.getfield 29, 3) := by decide +kernel
theorem dX10_load_9 : decode cX10_load 9 = .ok (.getfield 73, 3) := by decide +kernel
theorem dX10_load_12 : decode cX10_load 12 = .ok (.if_icmp .le 9, 3) := by decide +kernel
theorem dX10_load_15 : decode cX10_load 15 = .ok (.aload_n 0, 1) := by decide +kernel
theorem dX10_load_16 : decode cX10_load 16 = .ok (.iconst 1, 1) := by decide +kernel
theorem dX10_load_17 : decode cX10_load 17 = .ok (.invokevirtual 76, 3) := by decide +kernel
theorem dX10_load_20 : decode cX10_load 20 = .ok (.ireturn, 1) := by decide +kernel
theorem dX10_load_21 : decode cX10_load 21 = .ok (.aload_n 0, 1) := by decide +kernel
theorem dX10_load_22 : decode cX10_load 22 = .ok (.getfield 29, 3) := by decide +kernel
theorem dX10_load_25 : decode cX10_load 25 = .ok (.aload_n 0, 1) := by decide +kernel
theorem dX10_load_26 : decode cX10_load 26 = .ok (.getfield 16, 3) := by decide +kernel
theorem dX10_load_29 : decode cX10_load 29 = .ok (.iload_n 1, 1) := by decide +kernel
theorem dX10_load_30 : decode cX10_load 30 = .ok (.invokevirtual 80, 3) := by decide +kernel
theorem dX10_load_33 : decode cX10_load 33 = .ok (.istore_n 2, 1) := by decide +kernel
theorem dX10_load_34 : decode cX10_load 34 = .ok (.aload_n 0, 1) := by decide +kernel
theorem dX10_load_35 : decode cX10_load 35 = .ok (.getfield 29, 3) := by decide +kernel
theorem dX10_load_38 : decode cX10_load 38 = .ok (.iconst 0, 1) := by decide +kernel
theorem dX10_load_39 : decode cX10_load 39 = .ok (.putfield 73, 3) := by decide +kernel
theorem dX10_load_42 : decode cX10_load 42 = .ok (.iload_n 2, 1) := by decide +kernel
theorem dX10_load_43 : decode cX10_load 43 = .ok (.ifCond .ne 10, 3) := by decide +kernel
theorem dX10_load_46 : decode cX10_load 46 = .ok (.aload_n 0, 1) := by decide +kernel
theorem dX10_load_47 : decode cX10_load 47 = .ok (.bipush 9, 2) := by decide +kernel
theorem dX10_load_49 : decode cX10_load 49 = .ok (.invokevirtual 76, 3) := by decide +kernel
theorem dX10_load_52 : decode cX10_load 52 = .ok (.ireturn, 1) := by decide +kernel
theorem dX10_load_53 : decode cX10_load 53 = .ok (.aload_n 0, 1) := by decide +kernel
theorem dX10_load_54 : decode cX10_load 54 = .ok (.getfield 10, 3) := by decide +kernel
theorem dX10_load_57 : decode cX10_load 57 = .ok (.aload_n 0, 1) := by decide +kernel
theorem dX10_load_58 : decode cX10_load 58 = .ok (.getfield 16, 3) := by decide +kernel
theorem dX10_load_61 : decode cX10_load 61 = .ok (.invokevirtual 84, 3) := by decide +kernel
theorem dX10_load_64 : decode cX10_load 64 = .ok (.aload_n 0, 1) := by decide +kernel
theorem dX10_load_65 : decode cX10_load 65 = .ok (.getfield 22, 3) := by decide +kernel
theorem dX10_load_68 : decode cX10_load 68 = .ok (.iconst 0, 1) := by decide +kernel
theorem dX10_load_69 : decode cX10_load 69 = .ok (.putfield 88, 3) := by decide +kernel
theorem dX10_load_72 : decode cX10_load 72 = .ok (.aload_n 0, 1) := by decide +kernel
theorem dX10_load_73 : decode cX10_load 73 = .ok (.aload_n 0, 1) := by decide +kernel
theorem dX10_load_74 : decode cX10_load 74 = .ok (.getfield 10, 3) := by decide +kernel
theorem dX10_load_77 : decode cX10_load 77 = .ok (.getfield 91, 3) := by decide +kernel
theorem dX10_load_80 : decode cX10_load 80 = .ok (.invokevirtual 94, 3) := by decide +kernel
theorem dX10_load_83 : decode cX10_load 83 = .ok (.ireturn, 1) := by decide +kernel
theorem dX10_fault_0 : decode cX10_fault 0 = .ok (.iload_n 1, 1) := by decide +kernel
theorem dX10_fault_1 : decode cX10_fault 1 = .ok (.ifCond .ne 11, 3) := by decide +kernel
theorem dX10_fault_4 : decode cX10_fault 4 = .ok (.aload_n 0, 1) := by decide +kernel
theorem dX10_fault_5 : decode cX10_fault 5 = .ok (.getfield 29, 3) := by decide +kernel
theorem dX10_fault_8 : decode cX10_fault 8 = .ok (.getfield 97, 3) := by decide +kernel
theorem dX10_fault_11 : decode cX10_fault 11 = .ok (.ireturn, 1) := by decide +kernel
theorem dX10_fault_12 : decode cX10_fault 12 = .ok (.iload_n 1, 1) := by decide +kernel
theorem dX10_fault_13 : decode cX10_fault 13 = .ok (.iconst 1, 1) := by decide +kernel
theorem dX10_fault_14 : decode cX10_fault 14 = .ok (.if_icmp .ne 13, 3) := by decide +kernel
theorem dX10_fault_17 : decode cX10_fault 17 = .ok (.aload_n 0, 1) := by decide +kernel
theorem dX10_fault_18 : decode cX10_fault 18 = .ok (.getfield 29, 3) := by decide +kernel
theorem dX10_fault_21 : decode cX10_fault 21 = .ok (.getfield 100, 3) := by decide +kernel
theorem dX10_fault_24 : decode cX10_fault 24 = .ok (.goto 4, 3) := by decide +kernel
theorem dX10_fault_27 : decode cX10_fault 27 = .ok (.iconst (-1), 1) := by decide +kernel
theorem dX10_fault_28 : decode cX10_fault 28 = .ok (.ireturn, 1) := by decide +kernel
theorem dX10_many_0 : decode cX10_many 0 = .ok (.iload_n 1, 1) := by decide +kernel
theorem dX10_many_1 : decode cX10_many 1 = .ok (.tableswitch 201 0 9 #[55, 69, 83, 97, 114, 128, 142, 156, 170, 184], 55) := by decide +kernel
theorem dX10_many_56 : decode cX10_many 56 = .ok (.aload_n 0, 1) := by decide +kernel
theorem dX10_many_57 : decode cX10_many 57 = .ok (.aload_n 0, 1) := by decide +kernel
theorem dX10_many_58 : decode cX10_many 58 = .ok (.getfield 10, 3) := by decide +kernel
theorem dX10_many_61 : decode cX10_many 61 = .ok (.getfield 103, 3) := by decide +kernel
theorem dX10_many_64 : decode cX10_many 64 = .ok (.invokevirtual 94, 3) := by decide +kernel
theorem dX10_many_67 : decode cX10_many 67 = .ok (.goto 140, 3) := by decide +kernel
theorem dX10_many_70 : decode cX10_many 70 = .ok (.aload_n 0, 1) := by decide +kernel
theorem dX10_many_71 : decode cX10_many 71 = .ok (.aload_n 0, 1) := by decide +kernel
theorem dX10_many_72 : decode cX10_many 72 = .ok (.getfield 10, 3) := by decide +kernel
theorem dX10_many_75 : decode cX10_many 75 = .ok (.getfield 91, 3) := by decide +kernel
theorem dX10_many_78 : decode cX10_many 78 = .ok (.invokevirtual 94, 3) := by decide +kernel
theorem dX10_many_81 : decode cX10_many 81 = .ok (.goto 126, 3) := by decide +kernel
theorem dX10_many_84 : decode cX10_many 84 = .ok (.aload_n 0, 1) := by decide +kernel
theorem dX10_many_85 : decode cX10_many 85 = .ok (.aload_n 0, 1) := by decide +kernel
theorem dX10_many_86 : decode cX10_many 86 = .ok (.getfield 10, 3) := by decide +kernel
theorem dX10_many_89 : decode cX10_many 89 = .ok (.getfield 106, 3) := by decide +kernel
theorem dX10_many_92 : decode cX10_many 92 = .ok (.invokevirtual 94, 3) := by decide +kernel
theorem dX10_many_95 : decode cX10_many 95 = .ok (.goto 112, 3) := by decide +kernel
theorem dX10_many_98 : decode cX10_many 98 = .ok (.aload_n 0, 1) := by decide +kernel
theorem dX10_many_99 : decode cX10_many 99 = .ok (.aload_n 0, 1) := by decide +kernel
theorem dX10_many_100 : decode cX10_many 100 = .ok (.getfield 10, 3) := by decide +kernel
theorem dX10_many_103 : decode cX10_many 103 = .ok (.getfield 109, 3) := by decide +kernel
theorem dX10_many_106 : decode cX10_many 106 = .ok (.getfield 113, 3) := by decide +kernel
theorem dX10_many_109 : decode cX10_many 109 = .ok (.invokevirtual 94, 3) := by decide +kernel
theorem dX10_many_112 : decode cX10_many 112 = .ok (.goto 95, 3) := by decide +kernel
theorem dX10_many_115 : decode cX10_many 115 = .ok (.aload_n 0, 1) := by decide +kernel
theorem dX10_many_116 : decode cX10_many 116 = .ok (.aload_n 0, 1) := by decide +kernel
theorem dX10_many_117 : decode cX10_many 117 = .ok (.getfield 10, 3) := by decide +kernel
theorem dX10_many_120 : decode cX10_many 120 = .ok (.invokevirtual 116, 3) := by decide +kernel
theorem dX10_many_123 : decode cX10_many 123 = .ok (.invokevirtual 94, 3) := by decide +kernel
theorem dX10_many_126 : decode cX10_many 126 = .ok (.goto 81, 3) := by decide +kernel
theorem dX10_many_129 : decode cX10_many 129 = .ok (.aload_n 0, 1) := by decide +kernel
theorem dX10_many_130 : decode cX10_many 130 = .ok (.aload_n 0, 1) := by decide +kernel
theorem dX10_many_131 : decode cX10_many 131 = .ok (.getfield 10, 3) := by decide +kernel
theorem dX10_many_134 : decode cX10_many 134 = .ok (.invokevirtual 120, 3) := by decide +kernel
theorem dX10_many_137 : decode cX10_many 137 = .ok (.invokevirtual 94, 3) := by decide +kernel
theorem dX10_many_140 : decode cX10_many 140 = .ok (.goto 67, 3) := by decide +kernel
theorem dX10_many_143 : decode cX10_many 143 = .ok (.aload_n 0, 1) := by decide +kernel
theorem dX10_many_144 : decode cX10_many 144 = .ok (.aload_n 0, 1) := by decide +kernel
theorem dX10_many_145 : decode cX10_many 145 = .ok (.getfield 10, 3) := by decide +kernel
theorem dX10_many_148 : decode cX10_many 148 = .ok (.invokevirtual 123, 3) := by decide +kernel
theorem dX10_many_151 : decode cX10_many 151 = .ok (.invokevirtual 94, 3) := by decide +kernel
theorem dX10_many_154 : decode cX10_many 154 = .ok (.goto 53, 3) := by decide +kernel
theorem dX10_many_157 : decode cX10_many 157 = .ok (.aload_n 0, 1) := by decide +kernel
theorem dX10_many_158 : decode cX10_many 158 = .ok (.aload_n 0, 1) := by decide +kernel
theorem dX10_many_159 : decode cX10_many 159 = .ok (.getfield 22, 3) := by decide +kernel
theorem dX10_many_162 : decode cX10_many 162 = .ok (.getfield 88, 3) := by decide +kernel
theorem dX10_many_165 : decode cX10_many 165 = .ok (.invokevirtual 94, 3) := by decide +kernel
theorem dX10_many_168 : decode cX10_many 168 = .ok (.goto 39, 3) := by decide +kernel
theorem dX10_many_171 : decode cX10_many 171 = .ok (.aload_n 0, 1) := by decide +kernel
theorem dX10_many_172 : decode cX10_many 172 = .ok (.aload_n 0, 1) := by decide +kernel
theorem dX10_many_173 : decode cX10_many 173 = .ok (.getfield 10, 3) := by decide +kernel
theorem dX10_many_176 : decode cX10_many 176 = .ok (.getfield 126, 3) := by decide +kernel
theorem dX10_many_179 : decode cX10_many 179 = .ok (.invokevirtual 94, 3) := by decide +kernel
theorem dX10_many_182 : decode cX10_many 182 = .ok (.goto 25, 3) := by decide +kernel
theorem dX10_many_185 : decode cX10_many 185 = .ok (.aload_n 0, 1) := by decide +kernel
theorem dX10_many_186 : decode cX10_many 186 = .ok (.aload_n 0, 1) := by decide +kernel
theorem dX10_many_187 : decode cX10_many 187 = .ok (.getfield 10, 3) := by decide +kernel
theorem dX10_many_190 : decode cX10_many 190 = .ok (.getfield 129, 3) := by decide +kernel
theorem dX10_many_193 : decode cX10_many 193 = .ok (.getfield 113, 3) := by decide +kernel
theorem dX10_many_196 : decode cX10_many 196 = .ok (.invokevirtual 94, 3) := by decide +kernel
theorem dX10_many_199 : decode cX10_many 199 = .ok (.goto 8, 3) := by decide +kernel
theorem dX10_many_202 : decode cX10_many 202 = .ok (.aload_n 0, 1) := by decide +kernel
theorem dX10_many_203 : decode cX10_many 203 = .ok (.iconst 1, 1) := by decide +kernel
theorem dX10_many_204 : decode cX10_many 204 = .ok (.invokevirtual 76, 3) := by decide +kernel
theorem dX10_many_207 : decode cX10_many 207 = .ok (.ireturn, 1) := by decide +kernel
theorem dX10_home_0 : decode cX10_home 0 = .ok (.iload_n 2, 1) := by decide +kernel
theorem dX10_home_1 : decode cX10_home 1 = .ok (.ifCond .lt 9, 3) := by decide +kernel
theorem dX10_home_4 : decode cX10_home 4 = .ok (.iload_n 2, 1) := by decide +kernel
theorem dX10_home_5 : decode cX10_home 5 = .ok (.bipush 7, 2) := by decide +kernel
theorem dX10_home_7 : decode cX10_home 7 = .ok (.if_icmp .le 9, 3) := by decide +kernel
theorem dX10_home_10 : decode cX10_home 10 = .ok (.aload_n 0, 1) := by decide +kernel
theorem dX10_home_11 : decode cX10_home 11 = .ok (.iconst 1, 1) := by decide +kernel
theorem dX10_home_12 : decode cX10_home 12 = .ok (.invokevirtual 76, 3) := by decide +kernel
theorem dX10_home_15 : decode cX10_home 15 = .ok (.ireturn, 1) := by decide +kernel
theorem dX10_home_16 : decode cX10_home 16 = .ok (.aload_n 0, 1) := by decide +kernel
theorem dX10_home_17 : decode cX10_home 17 = .ok (.getfield 10, 3) := by decide +kernel
theorem dX10_home_20 : decode cX10_home 20 = .ok (.iload_n 1, 1) := by decide +kernel
theorem dX10_home_21 : decode cX10_home 21 = .ok (.invokevirtual 132, 3) := by decide +kernel
theorem dX10_home_24 : decode cX10_home 24 = .ok (.astore_n 3, 1) := by decide +kernel
theorem dX10_home_25 : decode cX10_home 25 = .ok (.aload_n 3, 1) := by decide +kernel
theorem dX10_home_26 : decode cX10_home 26 = .ok (.ifnonnull 9, 3) := by decide +kernel
theorem dX10_home_29 : decode cX10_home 29 = .ok (.aload_n 0, 1) := by decide +kernel
theorem dX10_home_30 : decode cX10_home 30 = .ok (.iconst 2, 1) := by decide +kernel
theorem dX10_home_31 : decode cX10_home 31 = .ok (.invokevirtual 76, 3) := by decide +kernel
theorem dX10_home_34 : decode cX10_home 34 = .ok (.ireturn, 1) := by decide +kernel
theorem dX10_home_35 : decode cX10_home 35 = .ok (.iload_n 2, 1) := by decide +kernel
theorem dX10_home_36 : decode cX10_home 36 = .ok (.tableswitch 128 0 6 #[44, 55, 66, 77, 88, 106, 117], 44) := by decide +kernel
theorem dX10_home_80 : decode cX10_home 80 = .ok (.aload_n 0, 1) := by decide +kernel
theorem dX10_home_81 : decode cX10_home 81 = .ok (.aload_n 3, 1) := by decide +kernel
theorem dX10_home_82 : decode cX10_home 82 = .ok (.getfield 136, 3) := by decide +kernel
theorem dX10_home_85 : decode cX10_home 85 = .ok (.invokevirtual 94, 3) := by decide +kernel
theorem dX10_home_88 : decode cX10_home 88 = .ok (.goto 84, 3) := by decide +kernel
theorem dX10_home_91 : decode cX10_home 91 = .ok (.aload_n 0, 1) := by decide +kernel
theorem dX10_home_92 : decode cX10_home 92 = .ok (.aload_n 3, 1) := by decide +kernel
theorem dX10_home_93 : decode cX10_home 93 = .ok (.getfield 141, 3) := by decide +kernel
theorem dX10_home_96 : decode cX10_home 96 = .ok (.invokevirtual 94, 3) := by decide +kernel
theorem dX10_home_99 : decode cX10_home 99 = .ok (.goto 73, 3) := by decide +kernel
theorem dX10_home_102 : decode cX10_home 102 = .ok (.aload_n 0, 1) := by decide +kernel
theorem dX10_home_103 : decode cX10_home 103 = .ok (.aload_n 3, 1) := by decide +kernel
theorem dX10_home_104 : decode cX10_home 104 = .ok (.getfield 144, 3) := by decide +kernel
theorem dX10_home_107 : decode cX10_home 107 = .ok (.invokevirtual 147, 3) := by decide +kernel
theorem dX10_home_110 : decode cX10_home 110 = .ok (.goto 62, 3) := by decide +kernel
theorem dX10_home_113 : decode cX10_home 113 = .ok (.aload_n 0, 1) := by decide +kernel
theorem dX10_home_114 : decode cX10_home 114 = .ok (.aload_n 3, 1) := by decide +kernel
theorem dX10_home_115 : decode cX10_home 115 = .ok (.invokevirtual 150, 3) := by decide +kernel
theorem dX10_home_118 : decode cX10_home 118 = .ok (.invokevirtual 154, 3) := by decide +kernel
theorem dX10_home_121 : decode cX10_home 121 = .ok (.goto 51, 3) := by decide +kernel
theorem dX10_home_124 : decode cX10_home 124 = .ok (.aload_n 0, 1) := by decide +kernel
theorem dX10_home_125 : decode cX10_home 125 = .ok (.aload_n 0, 1) := by decide +kernel
theorem dX10_home_126 : decode cX10_home 126 = .ok (.getfield 10, 3) := by decide +kernel
theorem dX10_home_129 : decode cX10_home 129 = .ok (.aload_n 3, 1) := by decide +kernel
theorem dX10_home_130 : decode cX10_home 130 = .ok (.invokevirtual 158, 3) := by decide +kernel
theorem dX10_home_133 : decode cX10_home 133 = .ok (.invokestatic 162, 3) := by decide +kernel
theorem dX10_home_136 : decode cX10_home 136 = .ok (.invokevirtual 94, 3) := by decide +kernel
theorem dX10_home_139 : decode cX10_home 139 = .ok (.goto 33, 3) := by decide +kernel
theorem dX10_home_142 : decode cX10_home 142 = .ok (.aload_n 0, 1) := by decide +kernel
theorem dX10_home_143 : decode cX10_home 143 = .ok (.aload_n 3, 1) := by decide +kernel
theorem dX10_home_144 : decode cX10_home 144 = .ok (.getfield 167, 3) := by decide +kernel
theorem dX10_home_147 : decode cX10_home 147 = .ok (.invokevirtual 94, 3) := by decide +kernel
theorem dX10_home_150 : decode cX10_home 150 = .ok (.goto 22, 3) := by decide +kernel
theorem dX10_home_153 : decode cX10_home 153 = .ok (.aload_n 0, 1) := by decide +kernel
theorem dX10_home_154 : decode cX10_home 154 = .ok (.aload_n 3, 1) := by decide +kernel
theorem dX10_home_155 : decode cX10_home 155 = .ok (.getfield 169, 3) := by decide +kernel
theorem dX10_home_158 : decode cX10_home 158 = .ok (.invokevirtual 154, 3) := by decide +kernel
theorem dX10_home_161 : decode cX10_home 161 = .ok (.goto 11, 3) := by decide +kernel
theorem dX10_home_164 : decode cX10_home 164 = .ok (.aload_n 0, 1) := by decide +kernel
theorem dX10_home_165 : decode cX10_home 165 = .ok (.aload_n 3, 1) := by decide +kernel
theorem dX10_home_166 : decode cX10_home 166 = .ok (.getfield 173, 3) := by decide +kernel
theorem dX10_home_169 : decode cX10_home 169 = .ok (.invokevirtual 94, 3) := by decide +kernel
theorem dX10_home_172 : decode cX10_home 172 = .ok (.ireturn, 1) := by decide +kernel
theorem dX10_house_0 : decode cX10_house 0 = .ok (.iload_n 2, 1) := by decide +kernel
theorem dX10_house_1 : decode cX10_house 1 = .ok (.ifCond .lt 21, 3) := by decide +kernel
theorem dX10_house_4 : decode cX10_house 4 = .ok (.iload_n 2, 1) := by decide +kernel
theorem dX10_house_5 : decode cX10_house 5 = .ok (.bipush 25, 2) := by decide +kernel
theorem dX10_house_7 : decode cX10_house 7 = .ok (.if_icmp .gt 15, 3) := by decide +kernel
theorem dX10_house_10 : decode cX10_house 10 = .ok (.iload_n 2, 1) := by decide +kernel
theorem dX10_house_11 : decode cX10_house 11 = .ok (.bipush 11, 2) := by decide +kernel
theorem dX10_house_13 : decode cX10_house 13 = .ok (.if_icmp .le 15, 3) := by decide +kernel
theorem dX10_house_16 : decode cX10_house 16 = .ok (.iload_n 2, 1) := by decide +kernel
theorem dX10_house_17 : decode cX10_house 17 = .ok (.bipush 20, 2) := by decide +kernel
theorem dX10_house_19 : decode cX10_house 19 = .ok (.if_icmp .ge 9, 3) := by decide +kernel
theorem dX10_house_22 : decode cX10_house 22 = .ok (.aload_n 0, 1) := by decide +kernel
theorem dX10_house_23 : decode cX10_house 23 = .ok (.iconst 1, 1) := by decide +kernel
theorem dX10_house_24 : decode cX10_house 24 = .ok (.invokevirtual 76, 3) := by decide +kernel
theorem dX10_house_27 : decode cX10_house 27 = .ok (.ireturn, 1) := by decide +kernel
theorem dX10_house_28 : decode cX10_house 28 = .ok (.aload_n 0, 1) := by decide +kernel
theorem dX10_house_29 : decode cX10_house 29 = .ok (.getfield 10, 3) := by decide +kernel
theorem dX10_house_32 : decode cX10_house 32 = .ok (.iload_n 1, 1) := by decide +kernel
theorem dX10_house_33 : decode cX10_house 33 = .ok (.invokevirtual 176, 3) := by decide +kernel
theorem dX10_house_36 : decode cX10_house 36 = .ok (.astore_n 3, 1) := by decide +kernel
theorem dX10_house_37 : decode cX10_house 37 = .ok (.aload_n 3, 1) := by decide +kernel
theorem dX10_house_38 : decode cX10_house 38 = .ok (.ifnonnull 9, 3) := by decide +kernel
theorem dX10_house_41 : decode cX10_house 41 = .ok (.aload_n 0, 1) := by decide +kernel
theorem dX10_house_42 : decode cX10_house 42 = .ok (.iconst 2, 1) := by decide +kernel
theorem dX10_house_43 : decode cX10_house 43 = .ok (.invokevirtual 76, 3) := by decide +kernel
theorem dX10_house_46 : decode cX10_house 46 = .ok (.ireturn, 1) := by decide +kernel
theorem dX10_house_47 : decode cX10_house 47 = .ok (.iload_n 2, 1) := by decide +kernel
theorem dX10_house_48 : decode cX10_house 48 = .ok (.tableswitch 200 0 11 #[64, 75, 90, 101, 112, 123, 134, 145, 156, 167, 178, 189], 64) := by decide +kernel
theorem dX10_house_112 : decode cX10_house 112 = .ok (.aload_n 0, 1) := by decide +kernel
theorem dX10_house_113 : decode cX10_house 113 = .ok (.aload_n 3, 1) := by decide +kernel
theorem dX10_house_114 : decode cX10_house 114 = .ok (.getfield 180, 3) := by decide +kernel
theorem dX10_house_117 : decode cX10_house 117 = .ok (.invokevirtual 94, 3) := by decide +kernel
theorem dX10_house_120 : decode cX10_house 120 = .ok (.goto 140, 3) := by decide +kernel
theorem dX10_house_123 : decode cX10_house 123 = .ok (.aload_n 0, 1) := by decide +kernel
theorem dX10_house_124 : decode cX10_house 124 = .ok (.aload_n 0, 1) := by decide +kernel
theorem dX10_house_125 : decode cX10_house 125 = .ok (.getfield 10, 3) := by decide +kernel
theorem dX10_house_128 : decode cX10_house 128 = .ok (.aload_n 3, 1) := by decide +kernel
theorem dX10_house_129 : decode cX10_house 129 = .ok (.invokevirtual 185, 3) := by decide +kernel
theorem dX10_house_132 : decode cX10_house 132 = .ok (.invokevirtual 94, 3) := by decide +kernel
theorem dX10_house_135 : decode cX10_house 135 = .ok (.goto 125, 3) := by decide +kernel
theorem dX10_house_138 : decode cX10_house 138 = .ok (.aload_n 0, 1) := by decide +kernel
theorem dX10_house_139 : decode cX10_house 139 = .ok (.aload_n 3, 1) := by decide +kernel
theorem dX10_house_140 : decode cX10_house 140 = .ok (.getfield 189, 3) := by decide +kernel
theorem dX10_house_143 : decode cX10_house 143 = .ok (.invokevirtual 94, 3) := by decide +kernel
theorem dX10_house_146 : decode cX10_house 146 = .ok (.goto 114, 3) := by decide +kernel
theorem dX10_house_149 : decode cX10_house 149 = .ok (.aload_n 0, 1) := by decide +kernel
theorem dX10_house_150 : decode cX10_house 150 = .ok (.aload_n 3, 1) := by decide +kernel
theorem dX10_house_151 : decode cX10_house 151 = .ok (.getfield 192, 3) := by decide +kernel
theorem dX10_house_154 : decode cX10_house 154 = .ok (.invokevirtual 94, 3) := by decide +kernel
theorem dX10_house_157 : decode cX10_house 157 = .ok (.goto 103, 3) := by decide +kernel
theorem dX10_house_160 : decode cX10_house 160 = .ok (.aload_n 0, 1) := by decide +kernel
theorem dX10_house_161 : decode cX10_house 161 = .ok (.aload_n 3, 1) := by decide +kernel
theorem dX10_house_162 : decode cX10_house 162 = .ok (.getfield 195, 3) := by decide +kernel
theorem dX10_house_165 : decode cX10_house 165 = .ok (.invokevirtual 94, 3) := by decide +kernel
theorem dX10_house_168 : decode cX10_house 168 = .ok (.goto 92, 3) := by decide +kernel
theorem dX10_house_171 : decode cX10_house 171 = .ok (.aload_n 0, 1) := by decide +kernel
theorem dX10_house_172 : decode cX10_house 172 = .ok (.aload_n 3, 1) := by decide +kernel
theorem dX10_house_173 : decode cX10_house 173 = .ok (.getfield 198, 3) := by decide +kernel
theorem dX10_house_176 : decode cX10_house 176 = .ok (.invokevirtual 147, 3) := by decide +kernel
theorem dX10_house_179 : decode cX10_house 179 = .ok (.goto 81, 3) := by decide +kernel
theorem dX10_house_182 : decode cX10_house 182 = .ok (.aload_n 0, 1) := by decide +kernel
theorem dX10_house_183 : decode cX10_house 183 = .ok (.aload_n 3, 1) := by decide +kernel
theorem dX10_house_184 : decode cX10_house 184 = .ok (.getfield 201, 3) := by decide +kernel
theorem dX10_house_187 : decode cX10_house 187 = .ok (.invokevirtual 94, 3) := by decide +kernel
theorem dX10_house_190 : decode cX10_house 190 = .ok (.goto 70, 3) := by decide +kernel
theorem dX10_house_193 : decode cX10_house 193 = .ok (.aload_n 0, 1) := by decide +kernel
theorem dX10_house_194 : decode cX10_house 194 = .ok (.aload_n 3, 1) := by decide +kernel
theorem dX10_house_195 : decode cX10_house 195 = .ok (.getfield 202, 3) := by decide +kernel
theorem dX10_house_198 : decode cX10_house 198 = .ok (.invokevirtual 94, 3) := by decide +kernel
theorem dX10_house_201 : decode cX10_house 201 = .ok (.goto 59, 3) := by decide +kernel
theorem dX10_house_204 : decode cX10_house 204 = .ok (.aload_n 0, 1) := by decide +kernel
theorem dX10_house_205 : decode cX10_house 205 = .ok (.aload_n 3, 1) := by decide +kernel
theorem dX10_house_206 : decode cX10_house 206 = .ok (.getfield 205, 3) := by decide +kernel
theorem dX10_house_209 : decode cX10_house 209 = .ok (.invokevirtual 154, 3) := by decide +kernel
theorem dX10_house_212 : decode cX10_house 212 = .ok (.goto 48, 3) := by decide +kernel
theorem dX10_house_215 : decode cX10_house 215 = .ok (.aload_n 0, 1) := by decide +kernel
theorem dX10_house_216 : decode cX10_house 216 = .ok (.aload_n 3, 1) := by decide +kernel
theorem dX10_house_217 : decode cX10_house 217 = .ok (.invokevirtual 208, 3) := by decide +kernel
theorem dX10_house_220 : decode cX10_house 220 = .ok (.invokevirtual 94, 3) := by decide +kernel
theorem dX10_house_223 : decode cX10_house 223 = .ok (.goto 37, 3) := by decide +kernel
theorem dX10_house_226 : decode cX10_house 226 = .ok (.aload_n 0, 1) := by decide +kernel
theorem dX10_house_227 : decode cX10_house 227 = .ok (.aload_n 3, 1) := by decide +kernel
theorem dX10_house_228 : decode cX10_house 228 = .ok (.getfield 209, 3) := by decide +kernel
theorem dX10_house_231 : decode cX10_house 231 = .ok (.invokevirtual 94, 3) := by decide +kernel
theorem dX10_house_234 : decode cX10_house 234 = .ok (.goto 26, 3) := by decide +kernel
theorem dX10_house_237 : decode cX10_house 237 = .ok (.aload_n 0, 1) := by decide +kernel
theorem dX10_house_238 : decode cX10_house 238 = .ok (.aload_n 3, 1) := by decide +kernel
theorem dX10_house_239 : decode cX10_house 239 = .ok (.getfield 212, 3) := by decide +kernel
theorem dX10_house_242 : decode cX10_house 242 = .ok (.invokevirtual 94, 3) := by decide +kernel
theorem dX10_house_245 : decode cX10_house 245 = .ok (.goto 15, 3) := by decide +kernel
theorem dX10_house_248 : decode cX10_house 248 = .ok (.aload_n 0, 1) := by decide +kernel
theorem dX10_house_249 : decode cX10_house 249 = .ok (.aload_n 3, 1) := by decide +kernel
theorem dX10_house_250 : decode cX10_house 250 = .ok (.iload_n 2, 1) := by decide +kernel
theorem dX10_house_251 : decode cX10_house 251 = .ok (.bipush 20, 2) := by decide +kernel
theorem dX10_house_253 : decode cX10_house 253 = .ok (.isub, 1) := by decide +kernel
theorem dX10_house_254 : decode cX10_house 254 = .ok (.invokevirtual 215, 3) := by decide +kernel
theorem dX10_house_257 : decode cX10_house 257 = .ok (.invokevirtual 147, 3) := by decide +kernel
theorem dX10_house_260 : decode cX10_house 260 = .ok (.ireturn, 1) := by decide +kernel
theorem dX10_rule_0 : decode cX10_rule 0 = .ok (.iload_n 1, 1) := by decide +kernel
theorem dX10_rule_1 : decode cX10_rule 1 = .ok (.ifCond .lt 9, 3) := by decide +kernel
theorem dX10_rule_4 : decode cX10_rule 4 = .ok (.iload_n 1, 1) := by decide +kernel
theorem dX10_rule_5 : decode cX10_rule 5 = .ok (.bipush 6, 2) := by decide +kernel
theorem dX10_rule_7 : decode cX10_rule 7 = .ok (.if_icmp .lt 9, 3) := by decide +kernel
theorem dX10_rule_10 : decode cX10_rule 10 = .ok (.aload_n 0, 1) := by decide +kernel
theorem dX10_rule_11 : decode cX10_rule 11 = .ok (.iconst 1, 1) := by decide +kernel
theorem dX10_rule_12 : decode cX10_rule 12 = .ok (.invokevirtual 76, 3) := by decide +kernel
theorem dX10_rule_15 : decode cX10_rule 15 = .ok (.ireturn, 1) := by decide +kernel
theorem dX10_rule_16 : decode cX10_rule 16 = .ok (.aload_n 0, 1) := by decide +kernel
theorem dX10_rule_17 : decode cX10_rule 17 = .ok (.aload_n 0, 1) := by decide +kernel
theorem dX10_rule_18 : decode cX10_rule 18 = .ok (.getfield 10, 3) := by decide +kernel
theorem dX10_rule_21 : decode cX10_rule 21 = .ok (.iload_n 1, 1) := by decide +kernel
theorem dX10_rule_22 : decode cX10_rule 22 = .ok (.invokevirtual 218, 3) := by decide +kernel
theorem dX10_rule_25 : decode cX10_rule 25 = .ok (.invokevirtual 94, 3) := by decide +kernel
theorem dX10_rule_28 : decode cX10_rule 28 = .ok (.ireturn, 1) := by decide +kernel
theorem dX10_why_0 : decode cX10_why 0 = .ok (.aload_n 0, 1) := by decide +kernel
theorem dX10_why_1 : decode cX10_why 1 = .ok (.getfield 10, 3) := by decide +kernel
theorem dX10_why_4 : decode cX10_why 4 = .ok (.iload_n 1, 1) := by decide +kernel
theorem dX10_why_5 : decode cX10_why 5 = .ok (.invokevirtual 176, 3) := by decide +kernel
theorem dX10_why_8 : decode cX10_why 8 = .ok (.astore_n 3, 1) := by decide +kernel
theorem dX10_why_9 : decode cX10_why 9 = .ok (.aload_n 0, 1) := by decide +kernel
theorem dX10_why_10 : decode cX10_why 10 = .ok (.getfield 10, 3) := by decide +kernel
theorem dX10_why_13 : decode cX10_why 13 = .ok (.iload_n 2, 1) := by decide +kernel
theorem dX10_why_14 : decode cX10_why 14 = .ok (.invokevirtual 132, 3) := by decide +kernel
theorem dX10_why_17 : decode cX10_why 17 = .ok (.astore 4, 2) := by decide +kernel
theorem dX10_why_19 : decode cX10_why 19 = .ok (.aload_n 3, 1) := by decide +kernel
theorem dX10_why_20 : decode cX10_why 20 = .ok (.ifnull 8, 3) := by decide +kernel
theorem dX10_why_23 : decode cX10_why 23 = .ok (.aload 4, 2) := by decide +kernel
theorem dX10_why_25 : decode cX10_why 25 = .ok (.ifnonnull 9, 3) := by decide +kernel
theorem dX10_why_28 : decode cX10_why 28 = .ok (.aload_n 0, 1) := by decide +kernel
theorem dX10_why_29 : decode cX10_why 29 = .ok (.iconst 2, 1) := by decide +kernel
theorem dX10_why_30 : decode cX10_why 30 = .ok (.invokevirtual 76, 3) := by decide +kernel
theorem dX10_why_33 : decode cX10_why 33 = .ok (.ireturn, 1) := by decide +kernel
theorem dX10_why_34 : decode cX10_why 34 = .ok (.aload_n 0, 1) := by decide +kernel
theorem dX10_why_35 : decode cX10_why 35 = .ok (.aload_n 0, 1) := by decide +kernel
theorem dX10_why_36 : decode cX10_why 36 = .ok (.getfield 10, 3) := by decide +kernel
theorem dX10_why_39 : decode cX10_why 39 = .ok (.aload_n 3, 1) := by decide +kernel
theorem dX10_why_40 : decode cX10_why 40 = .ok (.aload 4, 2) := by decide +kernel
theorem dX10_why_42 : decode cX10_why 42 = .ok (.invokevirtual 221, 3) := by decide +kernel
theorem dX10_why_45 : decode cX10_why 45 = .ok (.invokevirtual 94, 3) := by decide +kernel
theorem dX10_why_48 : decode cX10_why 48 = .ok (.ireturn, 1) := by decide +kernel
theorem dX10_bids_0 : decode cX10_bids 0 = .ok (.aload_n 0, 1) := by decide +kernel
theorem dX10_bids_1 : decode cX10_bids 1 = .ok (.getfield 10, 3) := by decide +kernel
theorem dX10_bids_4 : decode cX10_bids 4 = .ok (.iload_n 1, 1) := by decide +kernel
theorem dX10_bids_5 : decode cX10_bids 5 = .ok (.invokevirtual 176, 3) := by decide +kernel
theorem dX10_bids_8 : decode cX10_bids 8 = .ok (.astore_n 3, 1) := by decide +kernel
theorem dX10_bids_9 : decode cX10_bids 9 = .ok (.aload_n 0, 1) := by decide +kernel
theorem dX10_bids_10 : decode cX10_bids 10 = .ok (.getfield 10, 3) := by decide +kernel
theorem dX10_bids_13 : decode cX10_bids 13 = .ok (.iload_n 2, 1) := by decide +kernel
theorem dX10_bids_14 : decode cX10_bids 14 = .ok (.invokevirtual 132, 3) := by decide +kernel
theorem dX10_bids_17 : decode cX10_bids 17 = .ok (.astore 4, 2) := by decide +kernel
theorem dX10_bids_19 : decode cX10_bids 19 = .ok (.aload_n 3, 1) := by decide +kernel
theorem dX10_bids_20 : decode cX10_bids 20 = .ok (.ifnull 8, 3) := by decide +kernel
theorem dX10_bids_23 : decode cX10_bids 23 = .ok (.aload 4, 2) := by decide +kernel
theorem dX10_bids_25 : decode cX10_bids 25 = .ok (.ifnonnull 9, 3) := by decide +kernel
theorem dX10_bids_28 : decode cX10_bids 28 = .ok (.aload_n 0, 1) := by decide +kernel
theorem dX10_bids_29 : decode cX10_bids 29 = .ok (.iconst 2, 1) := by decide +kernel
theorem dX10_bids_30 : decode cX10_bids 30 = .ok (.invokevirtual 76, 3) := by decide +kernel
theorem dX10_bids_33 : decode cX10_bids 33 = .ok (.ireturn, 1) := by decide +kernel
theorem dX10_bids_34 : decode cX10_bids 34 = .ok (.aload_n 0, 1) := by decide +kernel
theorem dX10_bids_35 : decode cX10_bids 35 = .ok (.aload_n 3, 1) := by decide +kernel
theorem dX10_bids_36 : decode cX10_bids 36 = .ok (.aload 4, 2) := by decide +kernel
theorem dX10_bids_38 : decode cX10_bids 38 = .ok (.invokevirtual 225, 3) := by decide +kernel
theorem dX10_bids_41 : decode cX10_bids 41 = .ok (.invokevirtual 154, 3) := by decide +kernel
theorem dX10_bids_44 : decode cX10_bids 44 = .ok (.ireturn, 1) := by decide +kernel
theorem dX10_order_0 : decode cX10_order 0 = .ok (.iload_n 2, 1) := by decide +kernel
theorem dX10_order_1 : decode cX10_order 1 = .ok (.ifCond .ge 9, 3) := by decide +kernel
theorem dX10_order_4 : decode cX10_order 4 = .ok (.aload_n 0, 1) := by decide +kernel
theorem dX10_order_5 : decode cX10_order 5 = .ok (.iconst 1, 1) := by decide +kernel
theorem dX10_order_6 : decode cX10_order 6 = .ok (.invokevirtual 76, 3) := by decide +kernel
theorem dX10_order_9 : decode cX10_order 9 = .ok (.ireturn, 1) := by decide +kernel
theorem dX10_order_10 : decode cX10_order 10 = .ok (.aload_n 0, 1) := by decide +kernel
theorem dX10_order_11 : decode cX10_order 11 = .ok (.getfield 10, 3) := by decide +kernel
theorem dX10_order_14 : decode cX10_order 14 = .ok (.iload_n 1, 1) := by decide +kernel
theorem dX10_order_15 : decode cX10_order 15 = .ok (.invokevirtual 132, 3) := by decide +kernel
theorem dX10_order_18 : decode cX10_order 18 = .ok (.astore_n 3, 1) := by decide +kernel
theorem dX10_order_19 : decode cX10_order 19 = .ok (.aload_n 3, 1) := by decide +kernel
theorem dX10_order_20 : decode cX10_order 20 = .ok (.ifnonnull 9, 3) := by decide +kernel
theorem dX10_order_23 : decode cX10_order 23 = .ok (.aload_n 0, 1) := by decide +kernel
theorem dX10_order_24 : decode cX10_order 24 = .ok (.iconst 2, 1) := by decide +kernel
theorem dX10_order_25 : decode cX10_order 25 = .ok (.invokevirtual 76, 3) := by decide +kernel
theorem dX10_order_28 : decode cX10_order 28 = .ok (.ireturn, 1) := by decide +kernel
theorem dX10_order_29 : decode cX10_order 29 = .ok (.aload_n 0, 1) := by decide +kernel
theorem dX10_order_30 : decode cX10_order 30 = .ok (.aload_n 0, 1) := by decide +kernel
theorem dX10_order_31 : decode cX10_order 31 = .ok (.getfield 10, 3) := by decide +kernel
theorem dX10_order_34 : decode cX10_order 34 = .ok (.aload_n 0, 1) := by decide +kernel
theorem dX10_order_35 : decode cX10_order 35 = .ok (.getfield 10, 3) := by decide +kernel
theorem dX10_order_38 : decode cX10_order 38 = .ok (.aload_n 3, 1) := by decide +kernel
theorem dX10_order_39 : decode cX10_order 39 = .ok (.invokevirtual 158, 3) := by decide +kernel
theorem dX10_order_42 : decode cX10_order 42 = .ok (.aload_n 3, 1) := by decide +kernel
theorem dX10_order_43 : decode cX10_order 43 = .ok (.iload_n 2, 1) := by decide +kernel
theorem dX10_order_44 : decode cX10_order 44 = .ok (.invokevirtual 229, 3) := by decide +kernel
theorem dX10_order_47 : decode cX10_order 47 = .ok (.invokevirtual 233, 3) := by decide +kernel
theorem dX10_order_50 : decode cX10_order 50 = .ok (.ireturn, 1) := by decide +kernel
theorem dX10_ahead_0 : decode cX10_ahead 0 = .ok (.aload_n 0, 1) := by decide +kernel
theorem dX10_ahead_1 : decode cX10_ahead 1 = .ok (.getfield 10, 3) := by decide +kernel
theorem dX10_ahead_4 : decode cX10_ahead 4 = .ok (.iload_n 1, 1) := by decide +kernel
theorem dX10_ahead_5 : decode cX10_ahead 5 = .ok (.invokevirtual 176, 3) := by decide +kernel
theorem dX10_ahead_8 : decode cX10_ahead 8 = .ok (.astore_n 3, 1) := by decide +kernel
theorem dX10_ahead_9 : decode cX10_ahead 9 = .ok (.aload_n 0, 1) := by decide +kernel
theorem dX10_ahead_10 : decode cX10_ahead 10 = .ok (.getfield 10, 3) := by decide +kernel
theorem dX10_ahead_13 : decode cX10_ahead 13 = .ok (.iload_n 2, 1) := by decide +kernel
theorem dX10_ahead_14 : decode cX10_ahead 14 = .ok (.invokevirtual 132, 3) := by decide +kernel
theorem dX10_ahead_17 : decode cX10_ahead 17 = .ok (.astore 4, 2) := by decide +kernel
theorem dX10_ahead_19 : decode cX10_ahead 19 = .ok (.aload_n 3, 1) := by decide +kernel
theorem dX10_ahead_20 : decode cX10_ahead 20 = .ok (.ifnull 8, 3) := by decide +kernel
theorem dX10_ahead_23 : decode cX10_ahead 23 = .ok (.aload 4, 2) := by decide +kernel
theorem dX10_ahead_25 : decode cX10_ahead 25 = .ok (.ifnonnull 9, 3) := by decide +kernel
theorem dX10_ahead_28 : decode cX10_ahead 28 = .ok (.aload_n 0, 1) := by decide +kernel
theorem dX10_ahead_29 : decode cX10_ahead 29 = .ok (.iconst 2, 1) := by decide +kernel
theorem dX10_ahead_30 : decode cX10_ahead 30 = .ok (.invokevirtual 76, 3) := by decide +kernel
theorem dX10_ahead_33 : decode cX10_ahead 33 = .ok (.ireturn, 1) := by decide +kernel
theorem dX10_ahead_34 : decode cX10_ahead 34 = .ok (.aload_n 3, 1) := by decide +kernel
theorem dX10_ahead_35 : decode cX10_ahead 35 = .ok (.invokevirtual 236, 3) := by decide +kernel
theorem dX10_ahead_38 : decode cX10_ahead 38 = .ok (.ifCond .eq 12, 3) := by decide +kernel
theorem dX10_ahead_41 : decode cX10_ahead 41 = .ok (.aload_n 3, 1) := by decide +kernel
theorem dX10_ahead_42 : decode cX10_ahead 42 = .ok (.aload 4, 2) := by decide +kernel
theorem dX10_ahead_44 : decode cX10_ahead 44 = .ok (.invokevirtual 239, 3) := by decide +kernel
theorem dX10_ahead_47 : decode cX10_ahead 47 = .ok (.ifCond .ne 9, 3) := by decide +kernel
theorem dX10_ahead_50 : decode cX10_ahead 50 = .ok (.aload_n 0, 1) := by decide +kernel
theorem dX10_ahead_51 : decode cX10_ahead 51 = .ok (.iconst 5, 1) := by decide +kernel
theorem dX10_ahead_52 : decode cX10_ahead 52 = .ok (.invokevirtual 76, 3) := by decide +kernel
theorem dX10_ahead_55 : decode cX10_ahead 55 = .ok (.ireturn, 1) := by decide +kernel
theorem dX10_ahead_56 : decode cX10_ahead 56 = .ok (.aload_n 0, 1) := by decide +kernel
theorem dX10_ahead_57 : decode cX10_ahead 57 = .ok (.aload_n 0, 1) := by decide +kernel
theorem dX10_ahead_58 : decode cX10_ahead 58 = .ok (.getfield 10, 3) := by decide +kernel
theorem dX10_ahead_61 : decode cX10_ahead 61 = .ok (.aload_n 3, 1) := by decide +kernel
theorem dX10_ahead_62 : decode cX10_ahead 62 = .ok (.aload 4, 2) := by decide +kernel
theorem dX10_ahead_64 : decode cX10_ahead 64 = .ok (.aload_n 0, 1) := by decide +kernel
theorem dX10_ahead_65 : decode cX10_ahead 65 = .ok (.getfield 10, 3) := by decide +kernel
theorem dX10_ahead_68 : decode cX10_ahead 68 = .ok (.aload_n 3, 1) := by decide +kernel
theorem dX10_ahead_69 : decode cX10_ahead 69 = .ok (.invokevirtual 185, 3) := by decide +kernel
theorem dX10_ahead_72 : decode cX10_ahead 72 = .ok (.aload_n 0, 1) := by decide +kernel
theorem dX10_ahead_73 : decode cX10_ahead 73 = .ok (.getfield 10, 3) := by decide +kernel
theorem dX10_ahead_76 : decode cX10_ahead 76 = .ok (.aload 4, 2) := by decide +kernel
theorem dX10_ahead_78 : decode cX10_ahead 78 = .ok (.invokevirtual 242, 3) := by decide +kernel
theorem dX10_ahead_81 : decode cX10_ahead 81 = .ok (.invokevirtual 245, 3) := by decide +kernel
theorem dX10_ahead_84 : decode cX10_ahead 84 = .ok (.invokevirtual 94, 3) := by decide +kernel
theorem dX10_ahead_87 : decode cX10_ahead 87 = .ok (.ireturn, 1) := by decide +kernel
theorem dX10_turn_0 : decode cX10_turn 0 = .ok (.iload_n 2, 1) := by decide +kernel
theorem dX10_turn_1 : decode cX10_turn 1 = .ok (.ifCond .lt 8, 3) := by decide +kernel
theorem dX10_turn_4 : decode cX10_turn 4 = .ok (.iload_n 2, 1) := by decide +kernel
theorem dX10_turn_5 : decode cX10_turn 5 = .ok (.iconst 1, 1) := by decide +kernel
theorem dX10_turn_6 : decode cX10_turn 6 = .ok (.if_icmp .le 9, 3) := by decide +kernel
theorem dX10_turn_9 : decode cX10_turn 9 = .ok (.aload_n 0, 1) := by decide +kernel
theorem dX10_turn_10 : decode cX10_turn 10 = .ok (.iconst 1, 1) := by decide +kernel
theorem dX10_turn_11 : decode cX10_turn 11 = .ok (.invokevirtual 76, 3) := by decide +kernel
theorem dX10_turn_14 : decode cX10_turn 14 = .ok (.ireturn, 1) := by decide +kernel
theorem dX10_turn_15 : decode cX10_turn 15 = .ok (.aload_n 0, 1) := by decide +kernel
theorem dX10_turn_16 : decode cX10_turn 16 = .ok (.getfield 10, 3) := by decide +kernel
theorem dX10_turn_19 : decode cX10_turn 19 = .ok (.iload_n 1, 1) := by decide +kernel
theorem dX10_turn_20 : decode cX10_turn 20 = .ok (.invokevirtual 132, 3) := by decide +kernel
theorem dX10_turn_23 : decode cX10_turn 23 = .ok (.astore_n 3, 1) := by decide +kernel
theorem dX10_turn_24 : decode cX10_turn 24 = .ok (.aload_n 3, 1) := by decide +kernel
theorem dX10_turn_25 : decode cX10_turn 25 = .ok (.ifnonnull 9, 3) := by decide +kernel
theorem dX10_turn_28 : decode cX10_turn 28 = .ok (.aload_n 0, 1) := by decide +kernel
theorem dX10_turn_29 : decode cX10_turn 29 = .ok (.iconst 2, 1) := by decide +kernel
theorem dX10_turn_30 : decode cX10_turn 30 = .ok (.invokevirtual 76, 3) := by decide +kernel
theorem dX10_turn_33 : decode cX10_turn 33 = .ok (.ireturn, 1) := by decide +kernel
theorem dX10_turn_34 : decode cX10_turn 34 = .ok (.iload_n 2, 1) := by decide +kernel
theorem dX10_turn_35 : decode cX10_turn 35 = .ok (.ifCond .ne 7, 3) := by decide +kernel
theorem dX10_turn_38 : decode cX10_turn 38 = .ok (.iconst 1, 1) := by decide +kernel
theorem dX10_turn_39 : decode cX10_turn 39 = .ok (.goto 4, 3) := by decide +kernel
theorem dX10_turn_42 : decode cX10_turn 42 = .ok (.iconst 2, 1) := by decide +kernel
theorem dX10_turn_43 : decode cX10_turn 43 = .ok (.istore 4, 2) := by decide +kernel
theorem dX10_turn_45 : decode cX10_turn 45 = .ok (.aload_n 0, 1) := by decide +kernel
theorem dX10_turn_46 : decode cX10_turn 46 = .ok (.aload_n 0, 1) := by decide +kernel
theorem dX10_turn_47 : decode cX10_turn 47 = .ok (.getfield 10, 3) := by decide +kernel
theorem dX10_turn_50 : decode cX10_turn 50 = .ok (.aload_n 3, 1) := by decide +kernel
theorem dX10_turn_51 : decode cX10_turn 51 = .ok (.invokevirtual 249, 3) := by decide +kernel
theorem dX10_turn_54 : decode cX10_turn 54 = .ok (.iload 4, 2) := by decide +kernel
theorem dX10_turn_56 : decode cX10_turn 56 = .ok (.iand, 1) := by decide +kernel
theorem dX10_turn_57 : decode cX10_turn 57 = .ok (.ifCond .eq 7, 3) := by decide +kernel
theorem dX10_turn_60 : decode cX10_turn 60 = .ok (.iconst 1, 1) := by decide +kernel
theorem dX10_turn_61 : decode cX10_turn 61 = .ok (.goto 4, 3) := by decide +kernel
theorem dX10_turn_64 : decode cX10_turn 64 = .ok (.iconst 0, 1) := by decide +kernel
theorem dX10_turn_65 : decode cX10_turn 65 = .ok (.invokevirtual 154, 3) := by decide +kernel
theorem dX10_turn_68 : decode cX10_turn 68 = .ok (.ireturn, 1) := by decide +kernel
theorem dX10_let_0 : decode cX10_let 0 = .ok (.iload_n 2, 1) := by decide +kernel
theorem dX10_let_1 : decode cX10_let 1 = .ok (.ifCond .lt 9, 3) := by decide +kernel
theorem dX10_let_4 : decode cX10_let 4 = .ok (.iload_n 2, 1) := by decide +kernel
theorem dX10_let_5 : decode cX10_let 5 = .ok (.bipush 7, 2) := by decide +kernel
theorem dX10_let_7 : decode cX10_let 7 = .ok (.if_icmp .le 9, 3) := by decide +kernel
theorem dX10_let_10 : decode cX10_let 10 = .ok (.aload_n 0, 1) := by decide +kernel
theorem dX10_let_11 : decode cX10_let 11 = .ok (.iconst 1, 1) := by decide +kernel
theorem dX10_let_12 : decode cX10_let 12 = .ok (.invokevirtual 76, 3) := by decide +kernel
theorem dX10_let_15 : decode cX10_let 15 = .ok (.ireturn, 1) := by decide +kernel
theorem dX10_let_16 : decode cX10_let 16 = .ok (.iload_n 1, 1) := by decide +kernel
theorem dX10_let_17 : decode cX10_let 17 = .ok (.ifCond .lt 17, 3) := by decide +kernel
theorem dX10_let_20 : decode cX10_let 20 = .ok (.iload_n 1, 1) := by decide +kernel
theorem dX10_let_21 : decode cX10_let 21 = .ok (.aload_n 0, 1) := by decide +kernel
theorem dX10_let_22 : decode cX10_let 22 = .ok (.getfield 10, 3) := by decide +kernel
theorem dX10_let_25 : decode cX10_let 25 = .ok (.getfield 109, 3) := by decide +kernel
theorem dX10_let_28 : decode cX10_let 28 = .ok (.getfield 113, 3) := by decide +kernel
theorem dX10_let_31 : decode cX10_let 31 = .ok (.if_icmp .lt 9, 3) := by decide +kernel
theorem dX10_let_34 : decode cX10_let 34 = .ok (.aload_n 0, 1) := by decide +kernel
theorem dX10_let_35 : decode cX10_let 35 = .ok (.iconst 2, 1) := by decide +kernel
theorem dX10_let_36 : decode cX10_let 36 = .ok (.invokevirtual 76, 3) := by decide +kernel
theorem dX10_let_39 : decode cX10_let 39 = .ok (.ireturn, 1) := by decide +kernel
theorem dX10_let_40 : decode cX10_let 40 = .ok (.aload_n 0, 1) := by decide +kernel
theorem dX10_let_41 : decode cX10_let 41 = .ok (.aload_n 0, 1) := by decide +kernel
theorem dX10_let_42 : decode cX10_let 42 = .ok (.getfield 10, 3) := by decide +kernel
theorem dX10_let_45 : decode cX10_let 45 = .ok (.getfield 109, 3) := by decide +kernel
theorem dX10_let_48 : decode cX10_let 48 = .ok (.iload_n 1, 1) := by decide +kernel
theorem dX10_let_49 : decode cX10_let 49 = .ok (.iload_n 2, 1) := by decide +kernel
theorem dX10_let_50 : decode cX10_let 50 = .ok (.invokevirtual 252, 3) := by decide +kernel
theorem dX10_let_53 : decode cX10_let 53 = .ok (.invokevirtual 94, 3) := by decide +kernel
theorem dX10_let_56 : decode cX10_let 56 = .ok (.ireturn, 1) := by decide +kernel
theorem dX10_offer_0 : decode cX10_offer 0 = .ok (.iload_n 2, 1) := by decide +kernel
theorem dX10_offer_1 : decode cX10_offer 1 = .ok (.ifCond .lt 8, 3) := by decide +kernel
theorem dX10_offer_4 : decode cX10_offer 4 = .ok (.iload_n 2, 1) := by decide +kernel
theorem dX10_offer_5 : decode cX10_offer 5 = .ok (.iconst 2, 1) := by decide +kernel
theorem dX10_offer_6 : decode cX10_offer 6 = .ok (.if_icmp .le 9, 3) := by decide +kernel
theorem dX10_offer_9 : decode cX10_offer 9 = .ok (.aload_n 0, 1) := by decide +kernel
theorem dX10_offer_10 : decode cX10_offer 10 = .ok (.iconst 1, 1) := by decide +kernel
theorem dX10_offer_11 : decode cX10_offer 11 = .ok (.invokevirtual 76, 3) := by decide +kernel
theorem dX10_offer_14 : decode cX10_offer 14 = .ok (.ireturn, 1) := by decide +kernel
theorem dX10_offer_15 : decode cX10_offer 15 = .ok (.iload_n 1, 1) := by decide +kernel
theorem dX10_offer_16 : decode cX10_offer 16 = .ok (.ifCond .lt 17, 3) := by decide +kernel
theorem dX10_offer_19 : decode cX10_offer 19 = .ok (.iload_n 1, 1) := by decide +kernel
theorem dX10_offer_20 : decode cX10_offer 20 = .ok (.aload_n 0, 1) := by decide +kernel
theorem dX10_offer_21 : decode cX10_offer 21 = .ok (.getfield 10, 3) := by decide +kernel
theorem dX10_offer_24 : decode cX10_offer 24 = .ok (.getfield 129, 3) := by decide +kernel
theorem dX10_offer_27 : decode cX10_offer 27 = .ok (.getfield 113, 3) := by decide +kernel
theorem dX10_offer_30 : decode cX10_offer 30 = .ok (.if_icmp .lt 9, 3) := by decide +kernel
theorem dX10_offer_33 : decode cX10_offer 33 = .ok (.aload_n 0, 1) := by decide +kernel
theorem dX10_offer_34 : decode cX10_offer 34 = .ok (.iconst 2, 1) := by decide +kernel
theorem dX10_offer_35 : decode cX10_offer 35 = .ok (.invokevirtual 76, 3) := by decide +kernel
theorem dX10_offer_38 : decode cX10_offer 38 = .ok (.ireturn, 1) := by decide +kernel
theorem dX10_offer_39 : decode cX10_offer 39 = .ok (.aload_n 0, 1) := by decide +kernel
theorem dX10_offer_40 : decode cX10_offer 40 = .ok (.aload_n 0, 1) := by decide +kernel
theorem dX10_offer_41 : decode cX10_offer 41 = .ok (.getfield 10, 3) := by decide +kernel
theorem dX10_offer_44 : decode cX10_offer 44 = .ok (.getfield 129, 3) := by decide +kernel
theorem dX10_offer_47 : decode cX10_offer 47 = .ok (.iload_n 1, 1) := by decide +kernel
theorem dX10_offer_48 : decode cX10_offer 48 = .ok (.iload_n 2, 1) := by decide +kernel
theorem dX10_offer_49 : decode cX10_offer 49 = .ok (.invokevirtual 252, 3) := by decide +kernel
theorem dX10_offer_52 : decode cX10_offer 52 = .ok (.invokevirtual 94, 3) := by decide +kernel
theorem dX10_offer_55 : decode cX10_offer 55 = .ok (.ireturn, 1) := by decide +kernel
theorem dX10_tally_0 : decode cX10_tally 0 = .ok (.iload_n 1, 1) := by decide +kernel
theorem dX10_tally_1 : decode cX10_tally 1 = .ok (.tableswitch 122 0 4 #[35, 49, 68, 88, 108], 35) := by decide +kernel
theorem dX10_tally_36 : decode cX10_tally 36 = .ok (.aload_n 0, 1) := by decide +kernel
theorem dX10_tally_37 : decode cX10_tally 37 = .ok (.aload_n 0, 1) := by decide +kernel
theorem dX10_tally_38 : decode cX10_tally 38 = .ok (.getfield 10, 3) := by decide +kernel
theorem dX10_tally_41 : decode cX10_tally 41 = .ok (.invokevirtual 256, 3) := by decide +kernel
theorem dX10_tally_44 : decode cX10_tally 44 = .ok (.invokevirtual 94, 3) := by decide +kernel
theorem dX10_tally_47 : decode cX10_tally 47 = .ok (.goto 81, 3) := by decide +kernel
theorem dX10_tally_50 : decode cX10_tally 50 = .ok (.aload_n 0, 1) := by decide +kernel
theorem dX10_tally_51 : decode cX10_tally 51 = .ok (.aload_n 0, 1) := by decide +kernel
theorem dX10_tally_52 : decode cX10_tally 52 = .ok (.getfield 10, 3) := by decide +kernel
theorem dX10_tally_55 : decode cX10_tally 55 = .ok (.getfield 109, 3) := by decide +kernel
theorem dX10_tally_58 : decode cX10_tally 58 = .ok (.iconst 3, 1) := by decide +kernel
theorem dX10_tally_59 : decode cX10_tally 59 = .ok (.iconst 1, 1) := by decide +kernel
theorem dX10_tally_60 : decode cX10_tally 60 = .ok (.invokevirtual 259, 3) := by decide +kernel
theorem dX10_tally_63 : decode cX10_tally 63 = .ok (.invokevirtual 94, 3) := by decide +kernel
theorem dX10_tally_66 : decode cX10_tally 66 = .ok (.goto 62, 3) := by decide +kernel
theorem dX10_tally_69 : decode cX10_tally 69 = .ok (.aload_n 0, 1) := by decide +kernel
theorem dX10_tally_70 : decode cX10_tally 70 = .ok (.aload_n 0, 1) := by decide +kernel
theorem dX10_tally_71 : decode cX10_tally 71 = .ok (.getfield 10, 3) := by decide +kernel
theorem dX10_tally_74 : decode cX10_tally 74 = .ok (.getfield 109, 3) := by decide +kernel
theorem dX10_tally_77 : decode cX10_tally 77 = .ok (.bipush 8, 2) := by decide +kernel
theorem dX10_tally_79 : decode cX10_tally 79 = .ok (.iconst 1, 1) := by decide +kernel
theorem dX10_tally_80 : decode cX10_tally 80 = .ok (.invokevirtual 259, 3) := by decide +kernel
theorem dX10_tally_83 : decode cX10_tally 83 = .ok (.invokevirtual 94, 3) := by decide +kernel
theorem dX10_tally_86 : decode cX10_tally 86 = .ok (.goto 42, 3) := by decide +kernel
theorem dX10_tally_89 : decode cX10_tally 89 = .ok (.aload_n 0, 1) := by decide +kernel
theorem dX10_tally_90 : decode cX10_tally 90 = .ok (.aload_n 0, 1) := by decide +kernel
theorem dX10_tally_91 : decode cX10_tally 91 = .ok (.getfield 10, 3) := by decide +kernel
theorem dX10_tally_94 : decode cX10_tally 94 = .ok (.getfield 109, 3) := by decide +kernel
theorem dX10_tally_97 : decode cX10_tally 97 = .ok (.bipush 9, 2) := by decide +kernel
theorem dX10_tally_99 : decode cX10_tally 99 = .ok (.iconst 1, 1) := by decide +kernel
theorem dX10_tally_100 : decode cX10_tally 100 = .ok (.invokevirtual 259, 3) := by decide +kernel
theorem dX10_tally_103 : decode cX10_tally 103 = .ok (.invokevirtual 94, 3) := by decide +kernel
theorem dX10_tally_106 : decode cX10_tally 106 = .ok (.goto 22, 3) := by decide +kernel
theorem dX10_tally_109 : decode cX10_tally 109 = .ok (.aload_n 0, 1) := by decide +kernel
theorem dX10_tally_110 : decode cX10_tally 110 = .ok (.aload_n 0, 1) := by decide +kernel
theorem dX10_tally_111 : decode cX10_tally 111 = .ok (.getfield 10, 3) := by decide +kernel
theorem dX10_tally_114 : decode cX10_tally 114 = .ok (.invokevirtual 262, 3) := by decide +kernel
theorem dX10_tally_117 : decode cX10_tally 117 = .ok (.invokevirtual 94, 3) := by decide +kernel
theorem dX10_tally_120 : decode cX10_tally 120 = .ok (.goto 8, 3) := by decide +kernel
theorem dX10_tally_123 : decode cX10_tally 123 = .ok (.aload_n 0, 1) := by decide +kernel
theorem dX10_tally_124 : decode cX10_tally 124 = .ok (.iconst 1, 1) := by decide +kernel
theorem dX10_tally_125 : decode cX10_tally 125 = .ok (.invokevirtual 76, 3) := by decide +kernel
theorem dX10_tally_128 : decode cX10_tally 128 = .ok (.ireturn, 1) := by decide +kernel
theorem dX10_lack_0 : decode cX10_lack 0 = .ok (.iload_n 1, 1) := by decide +kernel
theorem dX10_lack_1 : decode cX10_lack 1 = .ok (.iconst 1, 1) := by decide +kernel
theorem dX10_lack_2 : decode cX10_lack 2 = .ok (.if_icmp .lt 8, 3) := by decide +kernel
theorem dX10_lack_5 : decode cX10_lack 5 = .ok (.iload_n 1, 1) := by decide +kernel
theorem dX10_lack_6 : decode cX10_lack 6 = .ok (.iconst 4, 1) := by decide +kernel
theorem dX10_lack_7 : decode cX10_lack 7 = .ok (.if_icmp .le 9, 3) := by decide +kernel
theorem dX10_lack_10 : decode cX10_lack 10 = .ok (.aload_n 0, 1) := by decide +kernel
theorem dX10_lack_11 : decode cX10_lack 11 = .ok (.iconst 1, 1) := by decide +kernel
theorem dX10_lack_12 : decode cX10_lack 12 = .ok (.invokevirtual 76, 3) := by decide +kernel
theorem dX10_lack_15 : decode cX10_lack 15 = .ok (.ireturn, 1) := by decide +kernel
theorem dX10_lack_16 : decode cX10_lack 16 = .ok (.aload_n 0, 1) := by decide +kernel
theorem dX10_lack_17 : decode cX10_lack 17 = .ok (.aload_n 0, 1) := by decide +kernel
theorem dX10_lack_18 : decode cX10_lack 18 = .ok (.getfield 10, 3) := by decide +kernel
theorem dX10_lack_21 : decode cX10_lack 21 = .ok (.iload_n 1, 1) := by decide +kernel
theorem dX10_lack_22 : decode cX10_lack 22 = .ok (.invokevirtual 265, 3) := by decide +kernel
theorem dX10_lack_25 : decode cX10_lack 25 = .ok (.invokevirtual 94, 3) := by decide +kernel
theorem dX10_lack_28 : decode cX10_lack 28 = .ok (.ireturn, 1) := by decide +kernel
theorem dX10_weeks_0 : decode cX10_weeks 0 = .ok (.iload_n 1, 1) := by decide +kernel
theorem dX10_weeks_1 : decode cX10_weeks 1 = .ok (.ifCond .lt 18, 3) := by decide +kernel
theorem dX10_weeks_4 : decode cX10_weeks 4 = .ok (.iload_n 1, 1) := by decide +kernel
theorem dX10_weeks_5 : decode cX10_weeks 5 = .ok (.bipush 30, 2) := by decide +kernel
theorem dX10_weeks_7 : decode cX10_weeks 7 = .ok (.if_icmp .gt 12, 3) := by decide +kernel
theorem dX10_weeks_10 : decode cX10_weeks 10 = .ok (.iload_n 2, 1) := by decide +kernel
theorem dX10_weeks_11 : decode cX10_weeks 11 = .ok (.ifCond .lt 8, 3) := by decide +kernel
theorem dX10_weeks_14 : decode cX10_weeks 14 = .ok (.iload_n 2, 1) := by decide +kernel
theorem dX10_weeks_15 : decode cX10_weeks 15 = .ok (.iconst 5, 1) := by decide +kernel
theorem dX10_weeks_16 : decode cX10_weeks 16 = .ok (.if_icmp .le 9, 3) := by decide +kernel
theorem dX10_weeks_19 : decode cX10_weeks 19 = .ok (.aload_n 0, 1) := by decide +kernel
theorem dX10_weeks_20 : decode cX10_weeks 20 = .ok (.iconst 1, 1) := by decide +kernel
theorem dX10_weeks_21 : decode cX10_weeks 21 = .ok (.invokevirtual 76, 3) := by decide +kernel
theorem dX10_weeks_24 : decode cX10_weeks 24 = .ok (.ireturn, 1) := by decide +kernel
theorem dX10_weeks_25 : decode cX10_weeks 25 = .ok (.aload_n 0, 1) := by decide +kernel
theorem dX10_weeks_26 : decode cX10_weeks 26 = .ok (.getfield 16, 3) := by decide +kernel
theorem dX10_weeks_29 : decode cX10_weeks 29 = .ok (.aload_n 0, 1) := by decide +kernel
theorem dX10_weeks_30 : decode cX10_weeks 30 = .ok (.getfield 10, 3) := by decide +kernel
theorem dX10_weeks_33 : decode cX10_weeks 33 = .ok (.invokevirtual 84, 3) := by decide +kernel
theorem dX10_weeks_36 : decode cX10_weeks 36 = .ok (.aload_n 0, 1) := by decide +kernel
theorem dX10_weeks_37 : decode cX10_weeks 37 = .ok (.getfield 16, 3) := by decide +kernel
theorem dX10_weeks_40 : decode cX10_weeks 40 = .ok (.iload_n 1, 1) := by decide +kernel
theorem dX10_weeks_41 : decode cX10_weeks 41 = .ok (.invokevirtual 268, 3) := by decide +kernel
theorem dX10_weeks_44 : decode cX10_weeks 44 = .ok (.iload_n 2, 1) := by decide +kernel
theorem dX10_weeks_45 : decode cX10_weeks 45 = .ok (.tableswitch 127 0 4 #[35, 63, 85, 99, 113], 35) := by decide +kernel
theorem dX10_weeks_80 : decode cX10_weeks 80 = .ok (.aload_n 0, 1) := by decide +kernel
theorem dX10_weeks_81 : decode cX10_weeks 81 = .ok (.aload_n 0, 1) := by decide +kernel
theorem dX10_weeks_82 : decode cX10_weeks 82 = .ok (.getfield 16, 3) := by decide +kernel
theorem dX10_weeks_85 : decode cX10_weeks 85 = .ok (.getfield 109, 3) := by decide +kernel
theorem dX10_weeks_88 : decode cX10_weeks 88 = .ok (.getfield 113, 3) := by decide +kernel
theorem dX10_weeks_91 : decode cX10_weeks 91 = .ok (.aload_n 0, 1) := by decide +kernel
theorem dX10_weeks_92 : decode cX10_weeks 92 = .ok (.getfield 10, 3) := by decide +kernel
theorem dX10_weeks_95 : decode cX10_weeks 95 = .ok (.getfield 109, 3) := by decide +kernel
theorem dX10_weeks_98 : decode cX10_weeks 98 = .ok (.getfield 113, 3) := by decide +kernel
theorem dX10_weeks_101 : decode cX10_weeks 101 = .ok (.isub, 1) := by decide +kernel
theorem dX10_weeks_102 : decode cX10_weeks 102 = .ok (.invokevirtual 94, 3) := by decide +kernel
theorem dX10_weeks_105 : decode cX10_weeks 105 = .ok (.goto 86, 3) := by decide +kernel
theorem dX10_weeks_108 : decode cX10_weeks 108 = .ok (.aload_n 0, 1) := by decide +kernel
theorem dX10_weeks_109 : decode cX10_weeks 109 = .ok (.aload_n 0, 1) := by decide +kernel
theorem dX10_weeks_110 : decode cX10_weeks 110 = .ok (.getfield 16, 3) := by decide +kernel
theorem dX10_weeks_113 : decode cX10_weeks 113 = .ok (.getfield 126, 3) := by decide +kernel
theorem dX10_weeks_116 : decode cX10_weeks 116 = .ok (.aload_n 0, 1) := by decide +kernel
theorem dX10_weeks_117 : decode cX10_weeks 117 = .ok (.getfield 10, 3) := by decide +kernel
theorem dX10_weeks_120 : decode cX10_weeks 120 = .ok (.getfield 126, 3) := by decide +kernel
theorem dX10_weeks_123 : decode cX10_weeks 123 = .ok (.isub, 1) := by decide +kernel
theorem dX10_weeks_124 : decode cX10_weeks 124 = .ok (.invokevirtual 94, 3) := by decide +kernel
theorem dX10_weeks_127 : decode cX10_weeks 127 = .ok (.goto 64, 3) := by decide +kernel
theorem dX10_weeks_130 : decode cX10_weeks 130 = .ok (.aload_n 0, 1) := by decide +kernel
theorem dX10_weeks_131 : decode cX10_weeks 131 = .ok (.aload_n 0, 1) := by decide +kernel
theorem dX10_weeks_132 : decode cX10_weeks 132 = .ok (.getfield 16, 3) := by decide +kernel
theorem dX10_weeks_135 : decode cX10_weeks 135 = .ok (.invokevirtual 120, 3) := by decide +kernel
theorem dX10_weeks_138 : decode cX10_weeks 138 = .ok (.invokevirtual 94, 3) := by decide +kernel
theorem dX10_weeks_141 : decode cX10_weeks 141 = .ok (.goto 50, 3) := by decide +kernel
theorem dX10_weeks_144 : decode cX10_weeks 144 = .ok (.aload_n 0, 1) := by decide +kernel
theorem dX10_weeks_145 : decode cX10_weeks 145 = .ok (.aload_n 0, 1) := by decide +kernel
theorem dX10_weeks_146 : decode cX10_weeks 146 = .ok (.getfield 16, 3) := by decide +kernel
theorem dX10_weeks_149 : decode cX10_weeks 149 = .ok (.invokevirtual 123, 3) := by decide +kernel
theorem dX10_weeks_152 : decode cX10_weeks 152 = .ok (.invokevirtual 94, 3) := by decide +kernel
theorem dX10_weeks_155 : decode cX10_weeks 155 = .ok (.goto 36, 3) := by decide +kernel
theorem dX10_weeks_158 : decode cX10_weeks 158 = .ok (.aload_n 0, 1) := by decide +kernel
theorem dX10_weeks_159 : decode cX10_weeks 159 = .ok (.aload_n 0, 1) := by decide +kernel
theorem dX10_weeks_160 : decode cX10_weeks 160 = .ok (.getfield 16, 3) := by decide +kernel
theorem dX10_weeks_163 : decode cX10_weeks 163 = .ok (.invokevirtual 256, 3) := by decide +kernel
theorem dX10_weeks_166 : decode cX10_weeks 166 = .ok (.invokevirtual 94, 3) := by decide +kernel
theorem dX10_weeks_169 : decode cX10_weeks 169 = .ok (.goto 22, 3) := by decide +kernel
theorem dX10_weeks_172 : decode cX10_weeks 172 = .ok (.aload_n 0, 1) := by decide +kernel
theorem dX10_weeks_173 : decode cX10_weeks 173 = .ok (.aload_n 0, 1) := by decide +kernel
theorem dX10_weeks_174 : decode cX10_weeks 174 = .ok (.getfield 16, 3) := by decide +kernel
theorem dX10_weeks_177 : decode cX10_weeks 177 = .ok (.invokevirtual 262, 3) := by decide +kernel
theorem dX10_weeks_180 : decode cX10_weeks 180 = .ok (.aload_n 0, 1) := by decide +kernel
theorem dX10_weeks_181 : decode cX10_weeks 181 = .ok (.getfield 10, 3) := by decide +kernel
theorem dX10_weeks_184 : decode cX10_weeks 184 = .ok (.invokevirtual 262, 3) := by decide +kernel
theorem dX10_weeks_187 : decode cX10_weeks 187 = .ok (.isub, 1) := by decide +kernel
theorem dX10_weeks_188 : decode cX10_weeks 188 = .ok (.invokevirtual 94, 3) := by decide +kernel
theorem dX10_weeks_191 : decode cX10_weeks 191 = .ok (.ireturn, 1) := by decide +kernel
theorem dX10_when_0 : decode cX10_when 0 = .ok (.iload_n 2, 1) := by decide +kernel
theorem dX10_when_1 : decode cX10_when 1 = .ok (.iconst 1, 1) := by decide +kernel
theorem dX10_when_2 : decode cX10_when 2 = .ok (.if_icmp .lt 9, 3) := by decide +kernel
theorem dX10_when_5 : decode cX10_when 5 = .ok (.iload_n 2, 1) := by decide +kernel
theorem dX10_when_6 : decode cX10_when 6 = .ok (.bipush 30, 2) := by decide +kernel
theorem dX10_when_8 : decode cX10_when 8 = .ok (.if_icmp .le 9, 3) := by decide +kernel
theorem dX10_when_11 : decode cX10_when 11 = .ok (.aload_n 0, 1) := by decide +kernel
theorem dX10_when_12 : decode cX10_when 12 = .ok (.iconst 1, 1) := by decide +kernel
theorem dX10_when_13 : decode cX10_when 13 = .ok (.invokevirtual 76, 3) := by decide +kernel
theorem dX10_when_16 : decode cX10_when 16 = .ok (.ireturn, 1) := by decide +kernel
theorem dX10_when_17 : decode cX10_when 17 = .ok (.aload_n 0, 1) := by decide +kernel
theorem dX10_when_18 : decode cX10_when 18 = .ok (.getfield 10, 3) := by decide +kernel
theorem dX10_when_21 : decode cX10_when 21 = .ok (.iload_n 1, 1) := by decide +kernel
theorem dX10_when_22 : decode cX10_when 22 = .ok (.invokevirtual 176, 3) := by decide +kernel
theorem dX10_when_25 : decode cX10_when 25 = .ok (.astore 4, 2) := by decide +kernel
theorem dX10_when_27 : decode cX10_when 27 = .ok (.aload 4, 2) := by decide +kernel
theorem dX10_when_29 : decode cX10_when 29 = .ok (.ifnonnull 9, 3) := by decide +kernel
theorem dX10_when_32 : decode cX10_when 32 = .ok (.aload_n 0, 1) := by decide +kernel
theorem dX10_when_33 : decode cX10_when 33 = .ok (.iconst 2, 1) := by decide +kernel
theorem dX10_when_34 : decode cX10_when 34 = .ok (.invokevirtual 76, 3) := by decide +kernel
theorem dX10_when_37 : decode cX10_when 37 = .ok (.ireturn, 1) := by decide +kernel
theorem dX10_when_38 : decode cX10_when 38 = .ok (.aload 4, 2) := by decide +kernel
theorem dX10_when_40 : decode cX10_when 40 = .ok (.getfield 205, 3) := by decide +kernel
theorem dX10_when_43 : decode cX10_when 43 = .ok (.ifCond .eq 9, 3) := by decide +kernel
theorem dX10_when_46 : decode cX10_when 46 = .ok (.aload_n 0, 1) := by decide +kernel
theorem dX10_when_47 : decode cX10_when 47 = .ok (.iconst 4, 1) := by decide +kernel
theorem dX10_when_48 : decode cX10_when 48 = .ok (.invokevirtual 76, 3) := by decide +kernel
theorem dX10_when_51 : decode cX10_when 51 = .ok (.ireturn, 1) := by decide +kernel
theorem dX10_when_52 : decode cX10_when 52 = .ok (.aload_n 0, 1) := by decide +kernel
theorem dX10_when_53 : decode cX10_when 53 = .ok (.getfield 16, 3) := by decide +kernel
theorem dX10_when_56 : decode cX10_when 56 = .ok (.aload_n 0, 1) := by decide +kernel
theorem dX10_when_57 : decode cX10_when 57 = .ok (.getfield 10, 3) := by decide +kernel
theorem dX10_when_60 : decode cX10_when 60 = .ok (.invokevirtual 84, 3) := by decide +kernel
theorem dX10_when_63 : decode cX10_when 63 = .ok (.aload_n 0, 1) := by decide +kernel
theorem dX10_when_64 : decode cX10_when 64 = .ok (.getfield 16, 3) := by decide +kernel
theorem dX10_when_67 : decode cX10_when 67 = .ok (.iload_n 2, 1) := by decide +kernel
theorem dX10_when_68 : decode cX10_when 68 = .ok (.invokevirtual 268, 3) := by decide +kernel
theorem dX10_when_71 : decode cX10_when 71 = .ok (.aload_n 0, 1) := by decide +kernel
theorem dX10_when_72 : decode cX10_when 72 = .ok (.getfield 16, 3) := by decide +kernel
theorem dX10_when_75 : decode cX10_when 75 = .ok (.getfield 109, 3) := by decide +kernel
theorem dX10_when_78 : decode cX10_when 78 = .ok (.iconst 0, 1) := by decide +kernel
theorem dX10_when_79 : decode cX10_when 79 = .ok (.iload_n 1, 1) := by decide +kernel
theorem dX10_when_80 : decode cX10_when 80 = .ok (.invokevirtual 271, 3) := by decide +kernel
theorem dX10_when_83 : decode cX10_when 83 = .ok (.istore 5, 2) := by decide +kernel
theorem dX10_when_85 : decode cX10_when 85 = .ok (.aload_n 0, 1) := by decide +kernel
theorem dX10_when_86 : decode cX10_when 86 = .ok (.aload_n 0, 1) := by decide +kernel
theorem dX10_when_87 : decode cX10_when 87 = .ok (.getfield 16, 3) := by decide +kernel
theorem dX10_when_90 : decode cX10_when 90 = .ok (.getfield 109, 3) := by decide +kernel
theorem dX10_when_93 : decode cX10_when 93 = .ok (.iload 5, 2) := by decide +kernel
theorem dX10_when_95 : decode cX10_when 95 = .ok (.iload_n 3, 1) := by decide +kernel
theorem dX10_when_96 : decode cX10_when 96 = .ok (.ifCond .eq 7, 3) := by decide +kernel
theorem dX10_when_99 : decode cX10_when 99 = .ok (.iconst 1, 1) := by decide +kernel
theorem dX10_when_100 : decode cX10_when 100 = .ok (.goto 4, 3) := by decide +kernel
theorem dX10_when_103 : decode cX10_when 103 = .ok (.iconst 2, 1) := by decide +kernel
theorem dX10_when_104 : decode cX10_when 104 = .ok (.invokevirtual 252, 3) := by decide +kernel
theorem dX10_when_107 : decode cX10_when 107 = .ok (.invokevirtual 147, 3) := by decide +kernel
theorem dX10_when_110 : decode cX10_when 110 = .ok (.ireturn, 1) := by decide +kernel
theorem dX10_tip_0 : decode cX10_tip 0 = .ok (.aload_n 0, 1) := by decide +kernel
theorem dX10_tip_1 : decode cX10_tip 1 = .ok (.getfield 10, 3) := by decide +kernel
theorem dX10_tip_4 : decode cX10_tip 4 = .ok (.iload_n 1, 1) := by decide +kernel
theorem dX10_tip_5 : decode cX10_tip 5 = .ok (.invokevirtual 176, 3) := by decide +kernel
theorem dX10_tip_8 : decode cX10_tip 8 = .ok (.astore_n 2, 1) := by decide +kernel
theorem dX10_tip_9 : decode cX10_tip 9 = .ok (.aload_n 2, 1) := by decide +kernel
theorem dX10_tip_10 : decode cX10_tip 10 = .ok (.ifnonnull 9, 3) := by decide +kernel
theorem dX10_tip_13 : decode cX10_tip 13 = .ok (.aload_n 0, 1) := by decide +kernel
theorem dX10_tip_14 : decode cX10_tip 14 = .ok (.iconst 2, 1) := by decide +kernel
theorem dX10_tip_15 : decode cX10_tip 15 = .ok (.invokevirtual 76, 3) := by decide +kernel
theorem dX10_tip_18 : decode cX10_tip 18 = .ok (.ireturn, 1) := by decide +kernel
theorem dX10_tip_19 : decode cX10_tip 19 = .ok (.aload_n 0, 1) := by decide +kernel
theorem dX10_tip_20 : decode cX10_tip 20 = .ok (.aload_n 0, 1) := by decide +kernel
theorem dX10_tip_21 : decode cX10_tip 21 = .ok (.getfield 10, 3) := by decide +kernel
theorem dX10_tip_24 : decode cX10_tip 24 = .ok (.aload_n 2, 1) := by decide +kernel
theorem dX10_tip_25 : decode cX10_tip 25 = .ok (.invokevirtual 274, 3) := by decide +kernel
theorem dX10_tip_28 : decode cX10_tip 28 = .ok (.invokevirtual 147, 3) := by decide +kernel
theorem dX10_tip_31 : decode cX10_tip 31 = .ok (.ireturn, 1) := by decide +kernel
theorem dX10_would_0 : decode cX10_would 0 = .ok (.aload_n 0, 1) := by decide +kernel
theorem dX10_would_1 : decode cX10_would 1 = .ok (.getfield 10, 3) := by decide +kernel
theorem dX10_would_4 : decode cX10_would 4 = .ok (.iload_n 1, 1) := by decide +kernel
theorem dX10_would_5 : decode cX10_would 5 = .ok (.invokevirtual 176, 3) := by decide +kernel
theorem dX10_would_8 : decode cX10_would 8 = .ok (.astore_n 3, 1) := by decide +kernel
theorem dX10_would_9 : decode cX10_would 9 = .ok (.aload_n 0, 1) := by decide +kernel
theorem dX10_would_10 : decode cX10_would 10 = .ok (.getfield 10, 3) := by decide +kernel
theorem dX10_would_13 : decode cX10_would 13 = .ok (.iload_n 2, 1) := by decide +kernel
theorem dX10_would_14 : decode cX10_would 14 = .ok (.invokevirtual 132, 3) := by decide +kernel
theorem dX10_would_17 : decode cX10_would 17 = .ok (.astore 4, 2) := by decide +kernel
theorem dX10_would_19 : decode cX10_would 19 = .ok (.aload_n 3, 1) := by decide +kernel
theorem dX10_would_20 : decode cX10_would 20 = .ok (.ifnull 8, 3) := by decide +kernel
theorem dX10_would_23 : decode cX10_would 23 = .ok (.aload 4, 2) := by decide +kernel
theorem dX10_would_25 : decode cX10_would 25 = .ok (.ifnonnull 9, 3) := by decide +kernel
theorem dX10_would_28 : decode cX10_would 28 = .ok (.aload_n 0, 1) := by decide +kernel
theorem dX10_would_29 : decode cX10_would 29 = .ok (.iconst 2, 1) := by decide +kernel
theorem dX10_would_30 : decode cX10_would 30 = .ok (.invokevirtual 76, 3) := by decide +kernel
theorem dX10_would_33 : decode cX10_would 33 = .ok (.ireturn, 1) := by decide +kernel
theorem dX10_would_34 : decode cX10_would 34 = .ok (.aload_n 3, 1) := by decide +kernel
theorem dX10_would_35 : decode cX10_would 35 = .ok (.invokevirtual 236, 3) := by decide +kernel
theorem dX10_would_38 : decode cX10_would 38 = .ok (.ifCond .eq 20, 3) := by decide +kernel
theorem dX10_would_41 : decode cX10_would 41 = .ok (.aload 4, 2) := by decide +kernel
theorem dX10_would_43 : decode cX10_would 43 = .ok (.invokevirtual 150, 3) := by decide +kernel
theorem dX10_would_46 : decode cX10_would 46 = .ok (.ifCond .eq 12, 3) := by decide +kernel
theorem dX10_would_49 : decode cX10_would 49 = .ok (.aload_n 3, 1) := by decide +kernel
theorem dX10_would_50 : decode cX10_would 50 = .ok (.aload 4, 2) := by decide +kernel
theorem dX10_would_52 : decode cX10_would 52 = .ok (.invokevirtual 239, 3) := by decide +kernel
theorem dX10_would_55 : decode cX10_would 55 = .ok (.ifCond .ne 9, 3) := by decide +kernel
theorem dX10_would_58 : decode cX10_would 58 = .ok (.aload_n 0, 1) := by decide +kernel
theorem dX10_would_59 : decode cX10_would 59 = .ok (.iconst 5, 1) := by decide +kernel
theorem dX10_would_60 : decode cX10_would 60 = .ok (.invokevirtual 76, 3) := by decide +kernel
theorem dX10_would_63 : decode cX10_would 63 = .ok (.ireturn, 1) := by decide +kernel
theorem dX10_would_64 : decode cX10_would 64 = .ok (.aload_n 0, 1) := by decide +kernel
theorem dX10_would_65 : decode cX10_would 65 = .ok (.getfield 16, 3) := by decide +kernel
theorem dX10_would_68 : decode cX10_would 68 = .ok (.aload_n 0, 1) := by decide +kernel
theorem dX10_would_69 : decode cX10_would 69 = .ok (.getfield 10, 3) := by decide +kernel
theorem dX10_would_72 : decode cX10_would 72 = .ok (.invokevirtual 84, 3) := by decide +kernel
theorem dX10_would_75 : decode cX10_would 75 = .ok (.aload_n 0, 1) := by decide +kernel
theorem dX10_would_76 : decode cX10_would 76 = .ok (.getfield 16, 3) := by decide +kernel
theorem dX10_would_79 : decode cX10_would 79 = .ok (.iload_n 1, 1) := by decide +kernel
theorem dX10_would_80 : decode cX10_would 80 = .ok (.aload 4, 2) := by decide +kernel
theorem dX10_would_82 : decode cX10_would 82 = .ok (.invokevirtual 277, 3) := by decide +kernel
theorem dX10_would_85 : decode cX10_would 85 = .ok (.aload_n 0, 1) := by decide +kernel
theorem dX10_would_86 : decode cX10_would 86 = .ok (.getfield 16, 3) := by decide +kernel
theorem dX10_would_89 : decode cX10_would 89 = .ok (.invokevirtual 281, 3) := by decide +kernel
theorem dX10_would_92 : decode cX10_would 92 = .ok (.pop, 1) := by decide +kernel
theorem dX10_would_93 : decode cX10_would 93 = .ok (.aload_n 0, 1) := by decide +kernel
theorem dX10_would_94 : decode cX10_would 94 = .ok (.getfield 16, 3) := by decide +kernel
theorem dX10_would_97 : decode cX10_would 97 = .ok (.getfield 129, 3) := by decide +kernel
theorem dX10_would_100 : decode cX10_would 100 = .ok (.iconst 0, 1) := by decide +kernel
theorem dX10_would_101 : decode cX10_would 101 = .ok (.iload_n 1, 1) := by decide +kernel
theorem dX10_would_102 : decode cX10_would 102 = .ok (.invokevirtual 271, 3) := by decide +kernel
theorem dX10_would_105 : decode cX10_would 105 = .ok (.istore 5, 2) := by decide +kernel
theorem dX10_would_107 : decode cX10_would 107 = .ok (.iload 5, 2) := by decide +kernel
theorem dX10_would_109 : decode cX10_would 109 = .ok (.iconst (-1), 1) := by decide +kernel
theorem dX10_would_110 : decode cX10_would 110 = .ok (.if_icmp .ne 9, 3) := by decide +kernel
theorem dX10_would_113 : decode cX10_would 113 = .ok (.aload_n 0, 1) := by decide +kernel
theorem dX10_would_114 : decode cX10_would 114 = .ok (.iconst 0, 1) := by decide +kernel
theorem dX10_would_115 : decode cX10_would 115 = .ok (.invokevirtual 94, 3) := by decide +kernel
theorem dX10_would_118 : decode cX10_would 118 = .ok (.ireturn, 1) := by decide +kernel
theorem dX10_would_119 : decode cX10_would 119 = .ok (.aload_n 0, 1) := by decide +kernel
theorem dX10_would_120 : decode cX10_would 120 = .ok (.aload_n 0, 1) := by decide +kernel
theorem dX10_would_121 : decode cX10_would 121 = .ok (.getfield 16, 3) := by decide +kernel
theorem dX10_would_124 : decode cX10_would 124 = .ok (.getfield 129, 3) := by decide +kernel
theorem dX10_would_127 : decode cX10_would 127 = .ok (.iload 5, 2) := by decide +kernel
theorem dX10_would_129 : decode cX10_would 129 = .ok (.iconst 2, 1) := by decide +kernel
theorem dX10_would_130 : decode cX10_would 130 = .ok (.invokevirtual 252, 3) := by decide +kernel
theorem dX10_would_133 : decode cX10_would 133 = .ok (.iconst 1, 1) := by decide +kernel
theorem dX10_would_134 : decode cX10_would 134 = .ok (.if_icmp .ne 7, 3) := by decide +kernel
theorem dX10_would_137 : decode cX10_would 137 = .ok (.iconst 1, 1) := by decide +kernel
theorem dX10_would_138 : decode cX10_would 138 = .ok (.goto 4, 3) := by decide +kernel
theorem dX10_would_141 : decode cX10_would 141 = .ok (.iconst 2, 1) := by decide +kernel
theorem dX10_would_142 : decode cX10_would 142 = .ok (.invokevirtual 94, 3) := by decide +kernel
theorem dX10_would_145 : decode cX10_would 145 = .ok (.ireturn, 1) := by decide +kernel
theorem dX10_top_0 : decode cX10_top 0 = .ok (.aload_n 0, 1) := by decide +kernel
theorem dX10_top_1 : decode cX10_top 1 = .ok (.getfield 10, 3) := by decide +kernel
theorem dX10_top_4 : decode cX10_top 4 = .ok (.iload_n 1, 1) := by decide +kernel
theorem dX10_top_5 : decode cX10_top 5 = .ok (.invokevirtual 132, 3) := by decide +kernel
theorem dX10_top_8 : decode cX10_top 8 = .ok (.astore_n 2, 1) := by decide +kernel
theorem dX10_top_9 : decode cX10_top 9 = .ok (.aload_n 2, 1) := by decide +kernel
theorem dX10_top_10 : decode cX10_top 10 = .ok (.ifnonnull 9, 3) := by decide +kernel
theorem dX10_top_13 : decode cX10_top 13 = .ok (.aload_n 0, 1) := by decide +kernel
theorem dX10_top_14 : decode cX10_top 14 = .ok (.iconst 2, 1) := by decide +kernel
theorem dX10_top_15 : decode cX10_top 15 = .ok (.invokevirtual 76, 3) := by decide +kernel
theorem dX10_top_18 : decode cX10_top 18 = .ok (.ireturn, 1) := by decide +kernel
theorem dX10_top_19 : decode cX10_top 19 = .ok (.aload_n 0, 1) := by decide +kernel
theorem dX10_top_20 : decode cX10_top 20 = .ok (.aload_n 0, 1) := by decide +kernel
theorem dX10_top_21 : decode cX10_top 21 = .ok (.getfield 10, 3) := by decide +kernel
theorem dX10_top_24 : decode cX10_top 24 = .ok (.aload_n 0, 1) := by decide +kernel
theorem dX10_top_25 : decode cX10_top 25 = .ok (.getfield 10, 3) := by decide +kernel
theorem dX10_top_28 : decode cX10_top 28 = .ok (.aload_n 2, 1) := by decide +kernel
theorem dX10_top_29 : decode cX10_top 29 = .ok (.invokevirtual 284, 3) := by decide +kernel
theorem dX10_top_32 : decode cX10_top 32 = .ok (.aload_n 2, 1) := by decide +kernel
theorem dX10_top_33 : decode cX10_top 33 = .ok (.iconst 0, 1) := by decide +kernel
theorem dX10_top_34 : decode cX10_top 34 = .ok (.invokevirtual 229, 3) := by decide +kernel
theorem dX10_top_37 : decode cX10_top 37 = .ok (.invokevirtual 233, 3) := by decide +kernel
theorem dX10_top_40 : decode cX10_top 40 = .ok (.ireturn, 1) := by decide +kernel
theorem dX10_lot_0 : decode cX10_lot 0 = .ok (.iload_n 2, 1) := by decide +kernel
theorem dX10_lot_1 : decode cX10_lot 1 = .ok (.ifCond .lt 10, 3) := by decide +kernel
theorem dX10_lot_4 : decode cX10_lot 4 = .ok (.iload_n 2, 1) := by decide +kernel
theorem dX10_lot_5 : decode cX10_lot 5 = .ok (.ldc_w 287, 3) := by decide +kernel
theorem dX10_lot_8 : decode cX10_lot 8 = .ok (.if_icmp .le 9, 3) := by decide +kernel
theorem dX10_lot_11 : decode cX10_lot 11 = .ok (.aload_n 0, 1) := by decide +kernel
theorem dX10_lot_12 : decode cX10_lot 12 = .ok (.iconst 1, 1) := by decide +kernel
theorem dX10_lot_13 : decode cX10_lot 13 = .ok (.invokevirtual 76, 3) := by decide +kernel
theorem dX10_lot_16 : decode cX10_lot 16 = .ok (.ireturn, 1) := by decide +kernel
theorem dX10_lot_17 : decode cX10_lot 17 = .ok (.aload_n 0, 1) := by decide +kernel
theorem dX10_lot_18 : decode cX10_lot 18 = .ok (.getfield 10, 3) := by decide +kernel
theorem dX10_lot_21 : decode cX10_lot 21 = .ok (.iload_n 1, 1) := by decide +kernel
theorem dX10_lot_22 : decode cX10_lot 22 = .ok (.invokevirtual 132, 3) := by decide +kernel
theorem dX10_lot_25 : decode cX10_lot 25 = .ok (.astore_n 3, 1) := by decide +kernel
theorem dX10_lot_26 : decode cX10_lot 26 = .ok (.aload_n 3, 1) := by decide +kernel
theorem dX10_lot_27 : decode cX10_lot 27 = .ok (.ifnonnull 9, 3) := by decide +kernel
theorem dX10_lot_30 : decode cX10_lot 30 = .ok (.aload_n 0, 1) := by decide +kernel
theorem dX10_lot_31 : decode cX10_lot 31 = .ok (.iconst 2, 1) := by decide +kernel
theorem dX10_lot_32 : decode cX10_lot 32 = .ok (.invokevirtual 76, 3) := by decide +kernel
theorem dX10_lot_35 : decode cX10_lot 35 = .ok (.ireturn, 1) := by decide +kernel
theorem dX10_lot_36 : decode cX10_lot 36 = .ok (.aload_n 0, 1) := by decide +kernel
theorem dX10_lot_37 : decode cX10_lot 37 = .ok (.aload_n 0, 1) := by decide +kernel
theorem dX10_lot_38 : decode cX10_lot 38 = .ok (.getfield 10, 3) := by decide +kernel
theorem dX10_lot_41 : decode cX10_lot 41 = .ok (.aload_n 3, 1) := by decide +kernel
theorem dX10_lot_42 : decode cX10_lot 42 = .ok (.bipush 75, 2) := by decide +kernel
theorem dX10_lot_44 : decode cX10_lot 44 = .ok (.iload_n 2, 1) := by decide +kernel
theorem dX10_lot_45 : decode cX10_lot 45 = .ok (.imul, 1) := by decide +kernel
theorem dX10_lot_46 : decode cX10_lot 46 = .ok (.bipush 74, 2) := by decide +kernel
theorem dX10_lot_48 : decode cX10_lot 48 = .ok (.iadd, 1) := by decide +kernel
theorem dX10_lot_49 : decode cX10_lot 49 = .ok (.ldc_w 288, 3) := by decide +kernel
theorem dX10_lot_52 : decode cX10_lot 52 = .ok (.irem, 1) := by decide +kernel
theorem dX10_lot_53 : decode cX10_lot 53 = .ok (.invokevirtual 289, 3) := by decide +kernel
theorem dX10_lot_56 : decode cX10_lot 56 = .ok (.invokevirtual 233, 3) := by decide +kernel
theorem dX10_lot_59 : decode cX10_lot 59 = .ok (.ireturn, 1) := by decide +kernel
theorem dX10_fits_0 : decode cX10_fits 0 = .ok (.iload_n 2, 1) := by decide +kernel
theorem dX10_fits_1 : decode cX10_fits 1 = .ok (.ifCond .lt 8, 3) := by decide +kernel
theorem dX10_fits_4 : decode cX10_fits 4 = .ok (.iload_n 2, 1) := by decide +kernel
theorem dX10_fits_5 : decode cX10_fits 5 = .ok (.iconst 2, 1) := by decide +kernel
theorem dX10_fits_6 : decode cX10_fits 6 = .ok (.if_icmp .le 9, 3) := by decide +kernel
theorem dX10_fits_9 : decode cX10_fits 9 = .ok (.aload_n 0, 1) := by decide +kernel
theorem dX10_fits_10 : decode cX10_fits 10 = .ok (.iconst 1, 1) := by decide +kernel
theorem dX10_fits_11 : decode cX10_fits 11 = .ok (.invokevirtual 76, 3) := by decide +kernel
theorem dX10_fits_14 : decode cX10_fits 14 = .ok (.ireturn, 1) := by decide +kernel
theorem dX10_fits_15 : decode cX10_fits 15 = .ok (.aload_n 0, 1) := by decide +kernel
theorem dX10_fits_16 : decode cX10_fits 16 = .ok (.getfield 10, 3) := by decide +kernel
theorem dX10_fits_19 : decode cX10_fits 19 = .ok (.iload_n 1, 1) := by decide +kernel
theorem dX10_fits_20 : decode cX10_fits 20 = .ok (.invokevirtual 176, 3) := by decide +kernel
theorem dX10_fits_23 : decode cX10_fits 23 = .ok (.astore_n 3, 1) := by decide +kernel
theorem dX10_fits_24 : decode cX10_fits 24 = .ok (.aload_n 3, 1) := by decide +kernel
theorem dX10_fits_25 : decode cX10_fits 25 = .ok (.ifnonnull 9, 3) := by decide +kernel
theorem dX10_fits_28 : decode cX10_fits 28 = .ok (.aload_n 0, 1) := by decide +kernel
theorem dX10_fits_29 : decode cX10_fits 29 = .ok (.iconst 2, 1) := by decide +kernel
theorem dX10_fits_30 : decode cX10_fits 30 = .ok (.invokevirtual 76, 3) := by decide +kernel
theorem dX10_fits_33 : decode cX10_fits 33 = .ok (.ireturn, 1) := by decide +kernel
theorem dX10_fits_34 : decode cX10_fits 34 = .ok (.aload_n 0, 1) := by decide +kernel
theorem dX10_fits_35 : decode cX10_fits 35 = .ok (.aload_n 0, 1) := by decide +kernel
theorem dX10_fits_36 : decode cX10_fits 36 = .ok (.getfield 10, 3) := by decide +kernel
theorem dX10_fits_39 : decode cX10_fits 39 = .ok (.aload_n 3, 1) := by decide +kernel
theorem dX10_fits_40 : decode cX10_fits 40 = .ok (.iload_n 2, 1) := by decide +kernel
theorem dX10_fits_41 : decode cX10_fits 41 = .ok (.iconst 1, 1) := by decide +kernel
theorem dX10_fits_42 : decode cX10_fits 42 = .ok (.if_icmp .ne 7, 3) := by decide +kernel
theorem dX10_fits_45 : decode cX10_fits 45 = .ok (.iconst 1, 1) := by decide +kernel
theorem dX10_fits_46 : decode cX10_fits 46 = .ok (.goto 4, 3) := by decide +kernel
theorem dX10_fits_49 : decode cX10_fits 49 = .ok (.iconst 0, 1) := by decide +kernel
theorem dX10_fits_50 : decode cX10_fits 50 = .ok (.iload_n 2, 1) := by decide +kernel
theorem dX10_fits_51 : decode cX10_fits 51 = .ok (.iconst 2, 1) := by decide +kernel
theorem dX10_fits_52 : decode cX10_fits 52 = .ok (.if_icmp .ne 7, 3) := by decide +kernel
theorem dX10_fits_55 : decode cX10_fits 55 = .ok (.iconst 1, 1) := by decide +kernel
theorem dX10_fits_56 : decode cX10_fits 56 = .ok (.goto 4, 3) := by decide +kernel
theorem dX10_fits_59 : decode cX10_fits 59 = .ok (.iconst 0, 1) := by decide +kernel
theorem dX10_fits_60 : decode cX10_fits 60 = .ok (.invokevirtual 293, 3) := by decide +kernel
theorem dX10_fits_63 : decode cX10_fits 63 = .ok (.invokevirtual 94, 3) := by decide +kernel
theorem dX10_fits_66 : decode cX10_fits 66 = .ok (.ireturn, 1) := by decide +kernel
theorem dX10_ward_0 : decode cX10_ward 0 = .ok (.aload_n 0, 1) := by decide +kernel
theorem dX10_ward_1 : decode cX10_ward 1 = .ok (.getfield 10, 3) := by decide +kernel
theorem dX10_ward_4 : decode cX10_ward 4 = .ok (.invokevirtual 297, 3) := by decide +kernel
theorem dX10_ward_7 : decode cX10_ward 7 = .ok (.istore_n 2, 1) := by decide +kernel
theorem dX10_ward_8 : decode cX10_ward 8 = .ok (.iload_n 2, 1) := by decide +kernel
theorem dX10_ward_9 : decode cX10_ward 9 = .ok (.iconst (-1), 1) := by decide +kernel
theorem dX10_ward_10 : decode cX10_ward 10 = .ok (.if_icmp .ne 9, 3) := by decide +kernel
theorem dX10_ward_13 : decode cX10_ward 13 = .ok (.aload_n 0, 1) := by decide +kernel
theorem dX10_ward_14 : decode cX10_ward 14 = .ok (.iconst 5, 1) := by decide +kernel
theorem dX10_ward_15 : decode cX10_ward 15 = .ok (.invokevirtual 76, 3) := by decide +kernel
theorem dX10_ward_18 : decode cX10_ward 18 = .ok (.ireturn, 1) := by decide +kernel
theorem dX10_ward_19 : decode cX10_ward 19 = .ok (.aload_n 0, 1) := by decide +kernel
theorem dX10_ward_20 : decode cX10_ward 20 = .ok (.iload_n 1, 1) := by decide +kernel
theorem dX10_ward_21 : decode cX10_ward 21 = .ok (.ifCond .eq 14, 3) := by decide +kernel
theorem dX10_ward_24 : decode cX10_ward 24 = .ok (.aload_n 0, 1) := by decide +kernel
theorem dX10_ward_25 : decode cX10_ward 25 = .ok (.getfield 10, 3) := by decide +kernel
theorem dX10_ward_28 : decode cX10_ward 28 = .ok (.iload_n 2, 1) := by decide +kernel
theorem dX10_ward_29 : decode cX10_ward 29 = .ok (.invokevirtual 300, 3) := by decide +kernel
theorem dX10_ward_32 : decode cX10_ward 32 = .ok (.goto 4, 3) := by decide +kernel
theorem dX10_ward_35 : decode cX10_ward 35 = .ok (.iload_n 2, 1) := by decide +kernel
theorem dX10_ward_36 : decode cX10_ward 36 = .ok (.invokevirtual 94, 3) := by decide +kernel
theorem dX10_ward_39 : decode cX10_ward 39 = .ok (.ireturn, 1) := by decide +kernel
theorem dX10_envy_0 : decode cX10_envy 0 = .ok (.iload_n 1, 1) := by decide +kernel
theorem dX10_envy_1 : decode cX10_envy 1 = .ok (.tableswitch 76 0 2 #[27, 41, 55], 27) := by decide +kernel
theorem dX10_envy_28 : decode cX10_envy 28 = .ok (.aload_n 0, 1) := by decide +kernel
theorem dX10_envy_29 : decode cX10_envy 29 = .ok (.aload_n 0, 1) := by decide +kernel
theorem dX10_envy_30 : decode cX10_envy 30 = .ok (.getfield 10, 3) := by decide +kernel
theorem dX10_envy_33 : decode cX10_envy 33 = .ok (.invokevirtual 303, 3) := by decide +kernel
theorem dX10_envy_36 : decode cX10_envy 36 = .ok (.invokevirtual 94, 3) := by decide +kernel
theorem dX10_envy_39 : decode cX10_envy 39 = .ok (.goto 43, 3) := by decide +kernel
theorem dX10_envy_42 : decode cX10_envy 42 = .ok (.aload_n 0, 1) := by decide +kernel
theorem dX10_envy_43 : decode cX10_envy 43 = .ok (.aload_n 0, 1) := by decide +kernel
theorem dX10_envy_44 : decode cX10_envy 44 = .ok (.getfield 10, 3) := by decide +kernel
theorem dX10_envy_47 : decode cX10_envy 47 = .ok (.invokevirtual 306, 3) := by decide +kernel
theorem dX10_envy_50 : decode cX10_envy 50 = .ok (.invokevirtual 233, 3) := by decide +kernel
theorem dX10_envy_53 : decode cX10_envy 53 = .ok (.goto 29, 3) := by decide +kernel
theorem dX10_envy_56 : decode cX10_envy 56 = .ok (.aload_n 0, 1) := by decide +kernel
theorem dX10_envy_57 : decode cX10_envy 57 = .ok (.aload_n 0, 1) := by decide +kernel
theorem dX10_envy_58 : decode cX10_envy 58 = .ok (.getfield 10, 3) := by decide +kernel
theorem dX10_envy_61 : decode cX10_envy 61 = .ok (.aload_n 0, 1) := by decide +kernel
theorem dX10_envy_62 : decode cX10_envy 62 = .ok (.getfield 10, 3) := by decide +kernel
theorem dX10_envy_65 : decode cX10_envy 65 = .ok (.invokevirtual 306, 3) := by decide +kernel
theorem dX10_envy_68 : decode cX10_envy 68 = .ok (.invokevirtual 310, 3) := by decide +kernel
theorem dX10_envy_71 : decode cX10_envy 71 = .ok (.invokevirtual 233, 3) := by decide +kernel
theorem dX10_envy_74 : decode cX10_envy 74 = .ok (.goto 8, 3) := by decide +kernel
theorem dX10_envy_77 : decode cX10_envy 77 = .ok (.aload_n 0, 1) := by decide +kernel
theorem dX10_envy_78 : decode cX10_envy 78 = .ok (.iconst 1, 1) := by decide +kernel
theorem dX10_envy_79 : decode cX10_envy 79 = .ok (.invokevirtual 76, 3) := by decide +kernel
theorem dX10_envy_82 : decode cX10_envy 82 = .ok (.ireturn, 1) := by decide +kernel
theorem dX10_lever_0 : decode cX10_lever 0 = .ok (.iload_n 1, 1) := by decide +kernel
theorem dX10_lever_1 : decode cX10_lever 1 = .ok (.iconst 1, 1) := by decide +kernel
theorem dX10_lever_2 : decode cX10_lever 2 = .ok (.if_icmp .lt 18, 3) := by decide +kernel
theorem dX10_lever_5 : decode cX10_lever 5 = .ok (.iload_n 1, 1) := by decide +kernel
theorem dX10_lever_6 : decode cX10_lever 6 = .ok (.bipush 30, 2) := by decide +kernel
theorem dX10_lever_8 : decode cX10_lever 8 = .ok (.if_icmp .gt 12, 3) := by decide +kernel
theorem dX10_lever_11 : decode cX10_lever 11 = .ok (.iload_n 2, 1) := by decide +kernel
theorem dX10_lever_12 : decode cX10_lever 12 = .ok (.ifCond .lt 8, 3) := by decide +kernel
theorem dX10_lever_15 : decode cX10_lever 15 = .ok (.iload_n 2, 1) := by decide +kernel
theorem dX10_lever_16 : decode cX10_lever 16 = .ok (.iconst 2, 1) := by decide +kernel
theorem dX10_lever_17 : decode cX10_lever 17 = .ok (.if_icmp .le 9, 3) := by decide +kernel
theorem dX10_lever_20 : decode cX10_lever 20 = .ok (.aload_n 0, 1) := by decide +kernel
theorem dX10_lever_21 : decode cX10_lever 21 = .ok (.iconst 1, 1) := by decide +kernel
theorem dX10_lever_22 : decode cX10_lever 22 = .ok (.invokevirtual 76, 3) := by decide +kernel
theorem dX10_lever_25 : decode cX10_lever 25 = .ok (.ireturn, 1) := by decide +kernel
theorem dX10_lever_26 : decode cX10_lever 26 = .ok (.iconst (-1), 1) := by decide +kernel
theorem dX10_lever_27 : decode cX10_lever 27 = .ok (.istore_n 3, 1) := by decide +kernel
theorem dX10_lever_28 : decode cX10_lever 28 = .ok (.iconst (-1), 1) := by decide +kernel
theorem dX10_lever_29 : decode cX10_lever 29 = .ok (.istore 4, 2) := by decide +kernel
theorem dX10_lever_31 : decode cX10_lever 31 = .ok (.iconst (-1), 1) := by decide +kernel
theorem dX10_lever_32 : decode cX10_lever 32 = .ok (.istore 5, 2) := by decide +kernel
theorem dX10_lever_34 : decode cX10_lever 34 = .ok (.iconst 0, 1) := by decide +kernel
theorem dX10_lever_35 : decode cX10_lever 35 = .ok (.istore 6, 2) := by decide +kernel
theorem dX10_lever_37 : decode cX10_lever 37 = .ok (.iload 6, 2) := by decide +kernel
theorem dX10_lever_39 : decode cX10_lever 39 = .ok (.bipush 6, 2) := by decide +kernel
theorem dX10_lever_41 : decode cX10_lever 41 = .ok (.if_icmp .ge 80, 3) := by decide +kernel
theorem dX10_lever_44 : decode cX10_lever 44 = .ok (.iconst (-1), 1) := by decide +kernel
theorem dX10_lever_45 : decode cX10_lever 45 = .ok (.istore 7, 2) := by decide +kernel
theorem dX10_lever_47 : decode cX10_lever 47 = .ok (.iload 7, 2) := by decide +kernel
theorem dX10_lever_49 : decode cX10_lever 49 = .ok (.iconst 1, 1) := by decide +kernel
theorem dX10_lever_50 : decode cX10_lever 50 = .ok (.if_icmp .gt 65, 3) := by decide +kernel
theorem dX10_lever_53 : decode cX10_lever 53 = .ok (.aload_n 0, 1) := by decide +kernel
theorem dX10_lever_54 : decode cX10_lever 54 = .ok (.getfield 10, 3) := by decide +kernel
theorem dX10_lever_57 : decode cX10_lever 57 = .ok (.iload 6, 2) := by decide +kernel
theorem dX10_lever_59 : decode cX10_lever 59 = .ok (.invokevirtual 218, 3) := by decide +kernel
theorem dX10_lever_62 : decode cX10_lever 62 = .ok (.iload 7, 2) := by decide +kernel
theorem dX10_lever_64 : decode cX10_lever 64 = .ok (.iadd, 1) := by decide +kernel
theorem dX10_lever_65 : decode cX10_lever 65 = .ok (.istore 8, 2) := by decide +kernel
theorem dX10_lever_67 : decode cX10_lever 67 = .ok (.iload 6, 2) := by decide +kernel
theorem dX10_lever_69 : decode cX10_lever 69 = .ok (.iload 8, 2) := by decide +kernel
theorem dX10_lever_71 : decode cX10_lever 71 = .ok (.invokestatic 314, 3) := by decide +kernel
theorem dX10_lever_74 : decode cX10_lever 74 = .ok (.ifCond .eq 15, 3) := by decide +kernel
theorem dX10_lever_77 : decode cX10_lever 77 = .ok (.aload_n 0, 1) := by decide +kernel
theorem dX10_lever_78 : decode cX10_lever 78 = .ok (.iload_n 1, 1) := by decide +kernel
theorem dX10_lever_79 : decode cX10_lever 79 = .ok (.iload 6, 2) := by decide +kernel
theorem dX10_lever_81 : decode cX10_lever 81 = .ok (.iload 8, 2) := by decide +kernel
theorem dX10_lever_83 : decode cX10_lever 83 = .ok (.invokevirtual 318, 3) := by decide +kernel
theorem dX10_lever_86 : decode cX10_lever 86 = .ok (.goto 4, 3) := by decide +kernel
theorem dX10_lever_89 : decode cX10_lever 89 = .ok (.iconst (-1), 1) := by decide +kernel
theorem dX10_lever_90 : decode cX10_lever 90 = .ok (.istore 9, 2) := by decide +kernel
theorem dX10_lever_92 : decode cX10_lever 92 = .ok (.iload 9, 2) := by decide +kernel
theorem dX10_lever_94 : decode cX10_lever 94 = .ok (.iload_n 3, 1) := by decide +kernel
theorem dX10_lever_95 : decode cX10_lever 95 = .ok (.if_icmp .le 14, 3) := by decide +kernel
theorem dX10_lever_98 : decode cX10_lever 98 = .ok (.iload 9, 2) := by decide +kernel
theorem dX10_lever_100 : decode cX10_lever 100 = .ok (.istore_n 3, 1) := by decide +kernel
theorem dX10_lever_101 : decode cX10_lever 101 = .ok (.iload 6, 2) := by decide +kernel
theorem dX10_lever_103 : decode cX10_lever 103 = .ok (.istore 4, 2) := by decide +kernel
theorem dX10_lever_105 : decode cX10_lever 105 = .ok (.iload 8, 2) := by decide +kernel
theorem dX10_lever_107 : decode cX10_lever 107 = .ok (.istore 5, 2) := by decide +kernel
theorem dX10_lever_109 : decode cX10_lever 109 = .ok (.iinc 7 2, 3) := by decide +kernel
theorem dX10_lever_112 : decode cX10_lever 112 = .ok (.goto (-65), 3) := by decide +kernel
theorem dX10_lever_115 : decode cX10_lever 115 = .ok (.iinc 6 1, 3) := by decide +kernel
theorem dX10_lever_118 : decode cX10_lever 118 = .ok (.goto (-81), 3) := by decide +kernel
theorem dX10_lever_121 : decode cX10_lever 121 = .ok (.iload_n 2, 1) := by decide +kernel
theorem dX10_lever_122 : decode cX10_lever 122 = .ok (.ifCond .ne 9, 3) := by decide +kernel
theorem dX10_lever_125 : decode cX10_lever 125 = .ok (.aload_n 0, 1) := by decide +kernel
theorem dX10_lever_126 : decode cX10_lever 126 = .ok (.iload_n 3, 1) := by decide +kernel
theorem dX10_lever_127 : decode cX10_lever 127 = .ok (.invokevirtual 94, 3) := by decide +kernel
theorem dX10_lever_130 : decode cX10_lever 130 = .ok (.ireturn, 1) := by decide +kernel
theorem dX10_lever_131 : decode cX10_lever 131 = .ok (.aload_n 0, 1) := by decide +kernel
theorem dX10_lever_132 : decode cX10_lever 132 = .ok (.iload_n 2, 1) := by decide +kernel
theorem dX10_lever_133 : decode cX10_lever 133 = .ok (.iconst 1, 1) := by decide +kernel
theorem dX10_lever_134 : decode cX10_lever 134 = .ok (.if_icmp .ne 8, 3) := by decide +kernel
theorem dX10_lever_137 : decode cX10_lever 137 = .ok (.iload 4, 2) := by decide +kernel
theorem dX10_lever_139 : decode cX10_lever 139 = .ok (.goto 5, 3) := by decide +kernel
theorem dX10_lever_142 : decode cX10_lever 142 = .ok (.iload 5, 2) := by decide +kernel
theorem dX10_lever_144 : decode cX10_lever 144 = .ok (.invokevirtual 94, 3) := by decide +kernel
theorem dX10_lever_147 : decode cX10_lever 147 = .ok (.ireturn, 1) := by decide +kernel
theorem dX10_queue_0 : decode cX10_queue 0 = .ok (.iload_n 1, 1) := by decide +kernel
theorem dX10_queue_1 : decode cX10_queue 1 = .ok (.ifCond .ge 9, 3) := by decide +kernel
theorem dX10_queue_4 : decode cX10_queue 4 = .ok (.aload_n 0, 1) := by decide +kernel
theorem dX10_queue_5 : decode cX10_queue 5 = .ok (.iconst 1, 1) := by decide +kernel
theorem dX10_queue_6 : decode cX10_queue 6 = .ok (.invokevirtual 76, 3) := by decide +kernel
theorem dX10_queue_9 : decode cX10_queue 9 = .ok (.ireturn, 1) := by decide +kernel
theorem dX10_queue_10 : decode cX10_queue 10 = .ok (.aload_n 0, 1) := by decide +kernel
theorem dX10_queue_11 : decode cX10_queue 11 = .ok (.aload_n 0, 1) := by decide +kernel
theorem dX10_queue_12 : decode cX10_queue 12 = .ok (.getfield 10, 3) := by decide +kernel
theorem dX10_queue_15 : decode cX10_queue 15 = .ok (.aload_n 0, 1) := by decide +kernel
theorem dX10_queue_16 : decode cX10_queue 16 = .ok (.getfield 10, 3) := by decide +kernel
theorem dX10_queue_19 : decode cX10_queue 19 = .ok (.invokevirtual 322, 3) := by decide +kernel
theorem dX10_queue_22 : decode cX10_queue 22 = .ok (.aconst_null, 1) := by decide +kernel
theorem dX10_queue_23 : decode cX10_queue 23 = .ok (.iload_n 1, 1) := by decide +kernel
theorem dX10_queue_24 : decode cX10_queue 24 = .ok (.invokevirtual 229, 3) := by decide +kernel
theorem dX10_queue_27 : decode cX10_queue 27 = .ok (.invokevirtual 233, 3) := by decide +kernel
theorem dX10_queue_30 : decode cX10_queue 30 = .ok (.ireturn, 1) := by decide +kernel
theorem dX10_most_0 : decode cX10_most 0 = .ok (.aload_n 0, 1) := by decide +kernel
theorem dX10_most_1 : decode cX10_most 1 = .ok (.getfield 43, 3) := by decide +kernel
theorem dX10_most_4 : decode cX10_most 4 = .ok (.aload_n 0, 1) := by decide +kernel
theorem dX10_most_5 : decode cX10_most 5 = .ok (.getfield 10, 3) := by decide +kernel
theorem dX10_most_8 : decode cX10_most 8 = .ok (.invokevirtual 325, 3) := by decide +kernel
theorem dX10_most_11 : decode cX10_most 11 = .ok (.aload_n 0, 1) := by decide +kernel
theorem dX10_most_12 : decode cX10_most 12 = .ok (.aload_n 0, 1) := by decide +kernel
theorem dX10_most_13 : decode cX10_most 13 = .ok (.getfield 43, 3) := by decide +kernel
theorem dX10_most_16 : decode cX10_most 16 = .ok (.iconst 0, 1) := by decide +kernel
theorem dX10_most_17 : decode cX10_most 17 = .ok (.iconst 0, 1) := by decide +kernel
theorem dX10_most_18 : decode cX10_most 18 = .ok (.invokevirtual 328, 3) := by decide +kernel
theorem dX10_most_21 : decode cX10_most 21 = .ok (.invokevirtual 94, 3) := by decide +kernel
theorem dX10_most_24 : decode cX10_most 24 = .ok (.ireturn, 1) := by decide +kernel
theorem dX10_gift_0 : decode cX10_gift 0 = .ok (.aload_n 0, 1) := by decide +kernel
theorem dX10_gift_1 : decode cX10_gift 1 = .ok (.getfield 10, 3) := by decide +kernel
theorem dX10_gift_4 : decode cX10_gift 4 = .ok (.iload_n 1, 1) := by decide +kernel
theorem dX10_gift_5 : decode cX10_gift 5 = .ok (.invokevirtual 176, 3) := by decide +kernel
theorem dX10_gift_8 : decode cX10_gift 8 = .ok (.ifnonnull 9, 3) := by decide +kernel
theorem dX10_gift_11 : decode cX10_gift 11 = .ok (.aload_n 0, 1) := by decide +kernel
theorem dX10_gift_12 : decode cX10_gift 12 = .ok (.iconst 2, 1) := by decide +kernel
theorem dX10_gift_13 : decode cX10_gift 13 = .ok (.invokevirtual 76, 3) := by decide +kernel
theorem dX10_gift_16 : decode cX10_gift 16 = .ok (.ireturn, 1) := by decide +kernel
theorem dX10_gift_17 : decode cX10_gift 17 = .ok (.aload_n 0, 1) := by decide +kernel
theorem dX10_gift_18 : decode cX10_gift 18 = .ok (.getfield 43, 3) := by decide +kernel
theorem dX10_gift_21 : decode cX10_gift 21 = .ok (.aload_n 0, 1) := by decide +kernel
theorem dX10_gift_22 : decode cX10_gift 22 = .ok (.getfield 10, 3) := by decide +kernel
theorem dX10_gift_25 : decode cX10_gift 25 = .ok (.invokevirtual 325, 3) := by decide +kernel
theorem dX10_gift_28 : decode cX10_gift 28 = .ok (.aload_n 0, 1) := by decide +kernel
theorem dX10_gift_29 : decode cX10_gift 29 = .ok (.aload_n 0, 1) := by decide +kernel
theorem dX10_gift_30 : decode cX10_gift 30 = .ok (.getfield 43, 3) := by decide +kernel
theorem dX10_gift_33 : decode cX10_gift 33 = .ok (.iload_n 1, 1) := by decide +kernel
theorem dX10_gift_34 : decode cX10_gift 34 = .ok (.invokevirtual 331, 3) := by decide +kernel
theorem dX10_gift_37 : decode cX10_gift 37 = .ok (.invokevirtual 147, 3) := by decide +kernel
theorem dX10_gift_40 : decode cX10_gift 40 = .ok (.ireturn, 1) := by decide +kernel
theorem dX10_trade_0 : decode cX10_trade 0 = .ok (.aload_n 0, 1) := by decide +kernel
theorem dX10_trade_1 : decode cX10_trade 1 = .ok (.getfield 10, 3) := by decide +kernel
theorem dX10_trade_4 : decode cX10_trade 4 = .ok (.iload_n 1, 1) := by decide +kernel
theorem dX10_trade_5 : decode cX10_trade 5 = .ok (.invokevirtual 176, 3) := by decide +kernel
theorem dX10_trade_8 : decode cX10_trade 8 = .ok (.astore_n 2, 1) := by decide +kernel
theorem dX10_trade_9 : decode cX10_trade 9 = .ok (.aload_n 2, 1) := by decide +kernel
theorem dX10_trade_10 : decode cX10_trade 10 = .ok (.ifnonnull 9, 3) := by decide +kernel
theorem dX10_trade_13 : decode cX10_trade 13 = .ok (.aload_n 0, 1) := by decide +kernel
theorem dX10_trade_14 : decode cX10_trade 14 = .ok (.iconst 2, 1) := by decide +kernel
theorem dX10_trade_15 : decode cX10_trade 15 = .ok (.invokevirtual 76, 3) := by decide +kernel
theorem dX10_trade_18 : decode cX10_trade 18 = .ok (.ireturn, 1) := by decide +kernel
theorem dX10_trade_19 : decode cX10_trade 19 = .ok (.aload_n 0, 1) := by decide +kernel
theorem dX10_trade_20 : decode cX10_trade 20 = .ok (.getfield 57, 3) := by decide +kernel
theorem dX10_trade_23 : decode cX10_trade 23 = .ok (.aload_n 0, 1) := by decide +kernel
theorem dX10_trade_24 : decode cX10_trade 24 = .ok (.getfield 10, 3) := by decide +kernel
theorem dX10_trade_27 : decode cX10_trade 27 = .ok (.invokevirtual 334, 3) := by decide +kernel
theorem dX10_trade_30 : decode cX10_trade 30 = .ok (.aload_n 0, 1) := by decide +kernel
theorem dX10_trade_31 : decode cX10_trade 31 = .ok (.aload_n 0, 1) := by decide +kernel
theorem dX10_trade_32 : decode cX10_trade 32 = .ok (.getfield 57, 3) := by decide +kernel
theorem dX10_trade_35 : decode cX10_trade 35 = .ok (.iload_n 1, 1) := by decide +kernel
theorem dX10_trade_36 : decode cX10_trade 36 = .ok (.invokevirtual 337, 3) := by decide +kernel
theorem dX10_trade_39 : decode cX10_trade 39 = .ok (.invokevirtual 147, 3) := by decide +kernel
theorem dX10_trade_42 : decode cX10_trade 42 = .ok (.ireturn, 1) := by decide +kernel
theorem dX10_trades_0 : decode cX10_trades 0 = .ok (.iload_n 1, 1) := by decide +kernel
theorem dX10_trades_1 : decode cX10_trades 1 = .ok (.ifCond .lt 8, 3) := by decide +kernel
theorem dX10_trades_4 : decode cX10_trades 4 = .ok (.iload_n 1, 1) := by decide +kernel
theorem dX10_trades_5 : decode cX10_trades 5 = .ok (.iconst 2, 1) := by decide +kernel
theorem dX10_trades_6 : decode cX10_trades 6 = .ok (.if_icmp .le 9, 3) := by decide +kernel
theorem dX10_trades_9 : decode cX10_trades 9 = .ok (.aload_n 0, 1) := by decide +kernel
theorem dX10_trades_10 : decode cX10_trades 10 = .ok (.iconst 1, 1) := by decide +kernel
theorem dX10_trades_11 : decode cX10_trades 11 = .ok (.invokevirtual 76, 3) := by decide +kernel
theorem dX10_trades_14 : decode cX10_trades 14 = .ok (.ireturn, 1) := by decide +kernel
theorem dX10_trades_15 : decode cX10_trades 15 = .ok (.aload_n 0, 1) := by decide +kernel
theorem dX10_trades_16 : decode cX10_trades 16 = .ok (.getfield 57, 3) := by decide +kernel
theorem dX10_trades_19 : decode cX10_trades 19 = .ok (.aload_n 0, 1) := by decide +kernel
theorem dX10_trades_20 : decode cX10_trades 20 = .ok (.getfield 10, 3) := by decide +kernel
theorem dX10_trades_23 : decode cX10_trades 23 = .ok (.invokevirtual 334, 3) := by decide +kernel
theorem dX10_trades_26 : decode cX10_trades 26 = .ok (.iload_n 1, 1) := by decide +kernel
theorem dX10_trades_27 : decode cX10_trades 27 = .ok (.ifCond .ne 15, 3) := by decide +kernel
theorem dX10_trades_30 : decode cX10_trades 30 = .ok (.aload_n 0, 1) := by decide +kernel
theorem dX10_trades_31 : decode cX10_trades 31 = .ok (.aload_n 0, 1) := by decide +kernel
theorem dX10_trades_32 : decode cX10_trades 32 = .ok (.getfield 57, 3) := by decide +kernel
theorem dX10_trades_35 : decode cX10_trades 35 = .ok (.getfield 340, 3) := by decide +kernel
theorem dX10_trades_38 : decode cX10_trades 38 = .ok (.invokevirtual 94, 3) := by decide +kernel
theorem dX10_trades_41 : decode cX10_trades 41 = .ok (.ireturn, 1) := by decide +kernel
theorem dX10_trades_42 : decode cX10_trades 42 = .ok (.aload_n 0, 1) := by decide +kernel
theorem dX10_trades_43 : decode cX10_trades 43 = .ok (.iload_n 1, 1) := by decide +kernel
theorem dX10_trades_44 : decode cX10_trades 44 = .ok (.iconst 1, 1) := by decide +kernel
theorem dX10_trades_45 : decode cX10_trades 45 = .ok (.if_icmp .ne 13, 3) := by decide +kernel
theorem dX10_trades_48 : decode cX10_trades 48 = .ok (.aload_n 0, 1) := by decide +kernel
theorem dX10_trades_49 : decode cX10_trades 49 = .ok (.getfield 57, 3) := by decide +kernel
theorem dX10_trades_52 : decode cX10_trades 52 = .ok (.getfield 343, 3) := by decide +kernel
theorem dX10_trades_55 : decode cX10_trades 55 = .ok (.goto 10, 3) := by decide +kernel
theorem dX10_trades_58 : decode cX10_trades 58 = .ok (.aload_n 0, 1) := by decide +kernel
theorem dX10_trades_59 : decode cX10_trades 59 = .ok (.getfield 57, 3) := by decide +kernel
theorem dX10_trades_62 : decode cX10_trades 62 = .ok (.getfield 346, 3) := by decide +kernel
theorem dX10_trades_65 : decode cX10_trades 65 = .ok (.invokevirtual 94, 3) := by decide +kernel
theorem dX10_trades_68 : decode cX10_trades 68 = .ok (.ireturn, 1) := by decide +kernel
theorem dX10_longest_0 : decode cX10_longest 0 = .ok (.iload_n 1, 1) := by decide +kernel
theorem dX10_longest_1 : decode cX10_longest 1 = .ok (.iconst (-1), 1) := by decide +kernel
theorem dX10_longest_2 : decode cX10_longest 2 = .ok (.if_icmp .ge 9, 3) := by decide +kernel
theorem dX10_longest_5 : decode cX10_longest 5 = .ok (.aload_n 0, 1) := by decide +kernel
theorem dX10_longest_6 : decode cX10_longest 6 = .ok (.iconst 1, 1) := by decide +kernel
theorem dX10_longest_7 : decode cX10_longest 7 = .ok (.invokevirtual 76, 3) := by decide +kernel
theorem dX10_longest_10 : decode cX10_longest 10 = .ok (.ireturn, 1) := by decide +kernel
theorem dX10_longest_11 : decode cX10_longest 11 = .ok (.aload_n 0, 1) := by decide +kernel
theorem dX10_longest_12 : decode cX10_longest 12 = .ok (.getfield 50, 3) := by decide +kernel
theorem dX10_longest_15 : decode cX10_longest 15 = .ok (.aload_n 0, 1) := by decide +kernel
theorem dX10_longest_16 : decode cX10_longest 16 = .ok (.getfield 10, 3) := by decide +kernel
theorem dX10_longest_19 : decode cX10_longest 19 = .ok (.invokevirtual 349, 3) := by decide +kernel
theorem dX10_longest_22 : decode cX10_longest 22 = .ok (.iload_n 1, 1) := by decide +kernel
theorem dX10_longest_23 : decode cX10_longest 23 = .ok (.iconst (-1), 1) := by decide +kernel
theorem dX10_longest_24 : decode cX10_longest 24 = .ok (.if_icmp .ne 15, 3) := by decide +kernel
theorem dX10_longest_27 : decode cX10_longest 27 = .ok (.aload_n 0, 1) := by decide +kernel
theorem dX10_longest_28 : decode cX10_longest 28 = .ok (.aload_n 0, 1) := by decide +kernel
theorem dX10_longest_29 : decode cX10_longest 29 = .ok (.getfield 50, 3) := by decide +kernel
theorem dX10_longest_32 : decode cX10_longest 32 = .ok (.getfield 350, 3) := by decide +kernel
theorem dX10_longest_35 : decode cX10_longest 35 = .ok (.invokevirtual 94, 3) := by decide +kernel
theorem dX10_longest_38 : decode cX10_longest 38 = .ok (.ireturn, 1) := by decide +kernel
theorem dX10_longest_39 : decode cX10_longest 39 = .ok (.aload_n 0, 1) := by decide +kernel
theorem dX10_longest_40 : decode cX10_longest 40 = .ok (.iload_n 2, 1) := by decide +kernel
theorem dX10_longest_41 : decode cX10_longest 41 = .ok (.ifCond .eq 14, 3) := by decide +kernel
theorem dX10_longest_44 : decode cX10_longest 44 = .ok (.aload_n 0, 1) := by decide +kernel
theorem dX10_longest_45 : decode cX10_longest 45 = .ok (.getfield 50, 3) := by decide +kernel
theorem dX10_longest_48 : decode cX10_longest 48 = .ok (.iload_n 1, 1) := by decide +kernel
theorem dX10_longest_49 : decode cX10_longest 49 = .ok (.invokevirtual 351, 3) := by decide +kernel
theorem dX10_longest_52 : decode cX10_longest 52 = .ok (.goto 11, 3) := by decide +kernel
theorem dX10_longest_55 : decode cX10_longest 55 = .ok (.aload_n 0, 1) := by decide +kernel
theorem dX10_longest_56 : decode cX10_longest 56 = .ok (.getfield 50, 3) := by decide +kernel
theorem dX10_longest_59 : decode cX10_longest 59 = .ok (.iload_n 1, 1) := by decide +kernel
theorem dX10_longest_60 : decode cX10_longest 60 = .ok (.invokevirtual 353, 3) := by decide +kernel
theorem dX10_longest_63 : decode cX10_longest 63 = .ok (.invokevirtual 147, 3) := by decide +kernel
theorem dX10_longest_66 : decode cX10_longest 66 = .ok (.ireturn, 1) := by decide +kernel
theorem dX10_gap_0 : decode cX10_gap 0 = .ok (.aload_n 0, 1) := by decide +kernel
theorem dX10_gap_1 : decode cX10_gap 1 = .ok (.getfield 10, 3) := by decide +kernel
theorem dX10_gap_4 : decode cX10_gap 4 = .ok (.iload_n 1, 1) := by decide +kernel
theorem dX10_gap_5 : decode cX10_gap 5 = .ok (.invokevirtual 176, 3) := by decide +kernel
theorem dX10_gap_8 : decode cX10_gap 8 = .ok (.astore_n 3, 1) := by decide +kernel
theorem dX10_gap_9 : decode cX10_gap 9 = .ok (.aload_n 0, 1) := by decide +kernel
theorem dX10_gap_10 : decode cX10_gap 10 = .ok (.getfield 10, 3) := by decide +kernel
theorem dX10_gap_13 : decode cX10_gap 13 = .ok (.iload_n 2, 1) := by decide +kernel
theorem dX10_gap_14 : decode cX10_gap 14 = .ok (.invokevirtual 132, 3) := by decide +kernel
theorem dX10_gap_17 : decode cX10_gap 17 = .ok (.astore 4, 2) := by decide +kernel
theorem dX10_gap_19 : decode cX10_gap 19 = .ok (.aload_n 3, 1) := by decide +kernel
theorem dX10_gap_20 : decode cX10_gap 20 = .ok (.ifnull 8, 3) := by decide +kernel
theorem dX10_gap_23 : decode cX10_gap 23 = .ok (.aload 4, 2) := by decide +kernel
theorem dX10_gap_25 : decode cX10_gap 25 = .ok (.ifnonnull 9, 3) := by decide +kernel
theorem dX10_gap_28 : decode cX10_gap 28 = .ok (.aload_n 0, 1) := by decide +kernel
theorem dX10_gap_29 : decode cX10_gap 29 = .ok (.iconst 2, 1) := by decide +kernel
theorem dX10_gap_30 : decode cX10_gap 30 = .ok (.invokevirtual 76, 3) := by decide +kernel
theorem dX10_gap_33 : decode cX10_gap 33 = .ok (.ireturn, 1) := by decide +kernel
theorem dX10_gap_34 : decode cX10_gap 34 = .ok (.aload_n 3, 1) := by decide +kernel
theorem dX10_gap_35 : decode cX10_gap 35 = .ok (.invokevirtual 236, 3) := by decide +kernel
theorem dX10_gap_38 : decode cX10_gap 38 = .ok (.ifCond .eq 12, 3) := by decide +kernel
theorem dX10_gap_41 : decode cX10_gap 41 = .ok (.aload_n 3, 1) := by decide +kernel
theorem dX10_gap_42 : decode cX10_gap 42 = .ok (.aload 4, 2) := by decide +kernel
theorem dX10_gap_44 : decode cX10_gap 44 = .ok (.invokevirtual 239, 3) := by decide +kernel
theorem dX10_gap_47 : decode cX10_gap 47 = .ok (.ifCond .ne 9, 3) := by decide +kernel
theorem dX10_gap_50 : decode cX10_gap 50 = .ok (.aload_n 0, 1) := by decide +kernel
theorem dX10_gap_51 : decode cX10_gap 51 = .ok (.iconst 5, 1) := by decide +kernel
theorem dX10_gap_52 : decode cX10_gap 52 = .ok (.invokevirtual 76, 3) := by decide +kernel
theorem dX10_gap_55 : decode cX10_gap 55 = .ok (.ireturn, 1) := by decide +kernel
theorem dX10_gap_56 : decode cX10_gap 56 = .ok (.aload_n 0, 1) := by decide +kernel
theorem dX10_gap_57 : decode cX10_gap 57 = .ok (.aload_n 0, 1) := by decide +kernel
theorem dX10_gap_58 : decode cX10_gap 58 = .ok (.getfield 10, 3) := by decide +kernel
theorem dX10_gap_61 : decode cX10_gap 61 = .ok (.aload_n 3, 1) := by decide +kernel
theorem dX10_gap_62 : decode cX10_gap 62 = .ok (.aload 4, 2) := by decide +kernel
theorem dX10_gap_64 : decode cX10_gap 64 = .ok (.invokevirtual 355, 3) := by decide +kernel
theorem dX10_gap_67 : decode cX10_gap 67 = .ok (.invokevirtual 147, 3) := by decide +kernel
theorem dX10_gap_70 : decode cX10_gap 70 = .ok (.ireturn, 1) := by decide +kernel
theorem dX10_bid_0 : decode cX10_bid 0 = .ok (.aload_n 0, 1) := by decide +kernel
theorem dX10_bid_1 : decode cX10_bid 1 = .ok (.getfield 10, 3) := by decide +kernel
theorem dX10_bid_4 : decode cX10_bid 4 = .ok (.iload_n 1, 1) := by decide +kernel
theorem dX10_bid_5 : decode cX10_bid 5 = .ok (.invokevirtual 176, 3) := by decide +kernel
theorem dX10_bid_8 : decode cX10_bid 8 = .ok (.astore_n 3, 1) := by decide +kernel
theorem dX10_bid_9 : decode cX10_bid 9 = .ok (.aload_n 0, 1) := by decide +kernel
theorem dX10_bid_10 : decode cX10_bid 10 = .ok (.getfield 10, 3) := by decide +kernel
theorem dX10_bid_13 : decode cX10_bid 13 = .ok (.iload_n 2, 1) := by decide +kernel
theorem dX10_bid_14 : decode cX10_bid 14 = .ok (.invokevirtual 132, 3) := by decide +kernel
theorem dX10_bid_17 : decode cX10_bid 17 = .ok (.astore 4, 2) := by decide +kernel
theorem dX10_bid_19 : decode cX10_bid 19 = .ok (.aload_n 3, 1) := by decide +kernel
theorem dX10_bid_20 : decode cX10_bid 20 = .ok (.ifnull 8, 3) := by decide +kernel
theorem dX10_bid_23 : decode cX10_bid 23 = .ok (.aload 4, 2) := by decide +kernel
theorem dX10_bid_25 : decode cX10_bid 25 = .ok (.ifnonnull 9, 3) := by decide +kernel
theorem dX10_bid_28 : decode cX10_bid 28 = .ok (.aload_n 0, 1) := by decide +kernel
theorem dX10_bid_29 : decode cX10_bid 29 = .ok (.iconst 2, 1) := by decide +kernel
theorem dX10_bid_30 : decode cX10_bid 30 = .ok (.invokevirtual 76, 3) := by decide +kernel
theorem dX10_bid_33 : decode cX10_bid 33 = .ok (.ireturn, 1) := by decide +kernel
theorem dX10_bid_34 : decode cX10_bid 34 = .ok (.aload_n 0, 1) := by decide +kernel
theorem dX10_bid_35 : decode cX10_bid 35 = .ok (.getfield 10, 3) := by decide +kernel
theorem dX10_bid_38 : decode cX10_bid 38 = .ok (.aload_n 3, 1) := by decide +kernel
theorem dX10_bid_39 : decode cX10_bid 39 = .ok (.aload 4, 2) := by decide +kernel
theorem dX10_bid_41 : decode cX10_bid 41 = .ok (.invokevirtual 221, 3) := by decide +kernel
theorem dX10_bid_44 : decode cX10_bid 44 = .ok (.ifCond .eq 10, 3) := by decide +kernel
theorem dX10_bid_47 : decode cX10_bid 47 = .ok (.aload_n 0, 1) := by decide +kernel
theorem dX10_bid_48 : decode cX10_bid 48 = .ok (.bipush 7, 2) := by decide +kernel
theorem dX10_bid_50 : decode cX10_bid 50 = .ok (.invokevirtual 76, 3) := by decide +kernel
theorem dX10_bid_53 : decode cX10_bid 53 = .ok (.ireturn, 1) := by decide +kernel
theorem dX10_bid_54 : decode cX10_bid 54 = .ok (.aload_n 0, 1) := by decide +kernel
theorem dX10_bid_55 : decode cX10_bid 55 = .ok (.getfield 22, 3) := by decide +kernel
theorem dX10_bid_58 : decode cX10_bid 58 = .ok (.aload_n 0, 1) := by decide +kernel
theorem dX10_bid_59 : decode cX10_bid 59 = .ok (.getfield 10, 3) := by decide +kernel
theorem dX10_bid_62 : decode cX10_bid 62 = .ok (.invokevirtual 358, 3) := by decide +kernel
theorem dX10_bid_65 : decode cX10_bid 65 = .ok (.aload_n 3, 1) := by decide +kernel
theorem dX10_bid_66 : decode cX10_bid 66 = .ok (.dup, 1) := by decide +kernel
theorem dX10_bid_67 : decode cX10_bid 67 = .ok (.getfield 361, 3) := by decide +kernel
theorem dX10_bid_70 : decode cX10_bid 70 = .ok (.aload 4, 2) := by decide +kernel
theorem dX10_bid_72 : decode cX10_bid 72 = .ok (.getfield 364, 3) := by decide +kernel
theorem dX10_bid_75 : decode cX10_bid 75 = .ok (.ior, 1) := by decide +kernel
theorem dX10_bid_76 : decode cX10_bid 76 = .ok (.putfield 361, 3) := by decide +kernel
theorem dX10_bid_79 : decode cX10_bid 79 = .ok (.aload_n 0, 1) := by decide +kernel
theorem dX10_bid_80 : decode cX10_bid 80 = .ok (.aload_n 3, 1) := by decide +kernel
theorem dX10_bid_81 : decode cX10_bid 81 = .ok (.invokevirtual 208, 3) := by decide +kernel
theorem dX10_bid_84 : decode cX10_bid 84 = .ok (.invokevirtual 94, 3) := by decide +kernel
theorem dX10_bid_87 : decode cX10_bid 87 = .ok (.ireturn, 1) := by decide +kernel
theorem dX10_unbid_0 : decode cX10_unbid 0 = .ok (.aload_n 0, 1) := by decide +kernel
theorem dX10_unbid_1 : decode cX10_unbid 1 = .ok (.getfield 10, 3) := by decide +kernel
theorem dX10_unbid_4 : decode cX10_unbid 4 = .ok (.iload_n 1, 1) := by decide +kernel
theorem dX10_unbid_5 : decode cX10_unbid 5 = .ok (.invokevirtual 176, 3) := by decide +kernel
theorem dX10_unbid_8 : decode cX10_unbid 8 = .ok (.astore_n 3, 1) := by decide +kernel
theorem dX10_unbid_9 : decode cX10_unbid 9 = .ok (.aload_n 0, 1) := by decide +kernel
theorem dX10_unbid_10 : decode cX10_unbid 10 = .ok (.getfield 10, 3) := by decide +kernel
theorem dX10_unbid_13 : decode cX10_unbid 13 = .ok (.iload_n 2, 1) := by decide +kernel
theorem dX10_unbid_14 : decode cX10_unbid 14 = .ok (.invokevirtual 132, 3) := by decide +kernel
theorem dX10_unbid_17 : decode cX10_unbid 17 = .ok (.astore 4, 2) := by decide +kernel
theorem dX10_unbid_19 : decode cX10_unbid 19 = .ok (.aload_n 3, 1) := by decide +kernel
theorem dX10_unbid_20 : decode cX10_unbid 20 = .ok (.ifnull 8, 3) := by decide +kernel
theorem dX10_unbid_23 : decode cX10_unbid 23 = .ok (.aload 4, 2) := by decide +kernel
theorem dX10_unbid_25 : decode cX10_unbid 25 = .ok (.ifnonnull 9, 3) := by decide +kernel
theorem dX10_unbid_28 : decode cX10_unbid 28 = .ok (.aload_n 0, 1) := by decide +kernel
theorem dX10_unbid_29 : decode cX10_unbid 29 = .ok (.iconst 2, 1) := by decide +kernel
theorem dX10_unbid_30 : decode cX10_unbid 30 = .ok (.invokevirtual 76, 3) := by decide +kernel
theorem dX10_unbid_33 : decode cX10_unbid 33 = .ok (.ireturn, 1) := by decide +kernel
theorem dX10_unbid_34 : decode cX10_unbid 34 = .ok (.aload_n 3, 1) := by decide +kernel
theorem dX10_unbid_35 : decode cX10_unbid 35 = .ok (.aload 4, 2) := by decide +kernel
theorem dX10_unbid_37 : decode cX10_unbid 37 = .ok (.invokevirtual 225, 3) := by decide +kernel
theorem dX10_unbid_40 : decode cX10_unbid 40 = .ok (.ifCond .ne 9, 3) := by decide +kernel
theorem dX10_unbid_43 : decode cX10_unbid 43 = .ok (.aload_n 0, 1) := by decide +kernel
theorem dX10_unbid_44 : decode cX10_unbid 44 = .ok (.iconst 5, 1) := by decide +kernel
theorem dX10_unbid_45 : decode cX10_unbid 45 = .ok (.invokevirtual 76, 3) := by decide +kernel
theorem dX10_unbid_48 : decode cX10_unbid 48 = .ok (.ireturn, 1) := by decide +kernel
theorem dX10_unbid_49 : decode cX10_unbid 49 = .ok (.aload_n 0, 1) := by decide +kernel
theorem dX10_unbid_50 : decode cX10_unbid 50 = .ok (.getfield 22, 3) := by decide +kernel
theorem dX10_unbid_53 : decode cX10_unbid 53 = .ok (.aload_n 0, 1) := by decide +kernel
theorem dX10_unbid_54 : decode cX10_unbid 54 = .ok (.getfield 10, 3) := by decide +kernel
theorem dX10_unbid_57 : decode cX10_unbid 57 = .ok (.invokevirtual 358, 3) := by decide +kernel
theorem dX10_unbid_60 : decode cX10_unbid 60 = .ok (.aload_n 3, 1) := by decide +kernel
theorem dX10_unbid_61 : decode cX10_unbid 61 = .ok (.dup, 1) := by decide +kernel
theorem dX10_unbid_62 : decode cX10_unbid 62 = .ok (.getfield 361, 3) := by decide +kernel
theorem dX10_unbid_65 : decode cX10_unbid 65 = .ok (.aload 4, 2) := by decide +kernel
theorem dX10_unbid_67 : decode cX10_unbid 67 = .ok (.getfield 364, 3) := by decide +kernel
theorem dX10_unbid_70 : decode cX10_unbid 70 = .ok (.iconst (-1), 1) := by decide +kernel
theorem dX10_unbid_71 : decode cX10_unbid 71 = .ok (.ixor, 1) := by decide +kernel
theorem dX10_unbid_72 : decode cX10_unbid 72 = .ok (.iand, 1) := by decide +kernel
theorem dX10_unbid_73 : decode cX10_unbid 73 = .ok (.putfield 361, 3) := by decide +kernel
theorem dX10_unbid_76 : decode cX10_unbid 76 = .ok (.aload_n 0, 1) := by decide +kernel
theorem dX10_unbid_77 : decode cX10_unbid 77 = .ok (.aload_n 3, 1) := by decide +kernel
theorem dX10_unbid_78 : decode cX10_unbid 78 = .ok (.invokevirtual 208, 3) := by decide +kernel
theorem dX10_unbid_81 : decode cX10_unbid 81 = .ok (.invokevirtual 94, 3) := by decide +kernel
theorem dX10_unbid_84 : decode cX10_unbid 84 = .ok (.ireturn, 1) := by decide +kernel
theorem dX10_auto_0 : decode cX10_auto 0 = .ok (.aload_n 0, 1) := by decide +kernel
theorem dX10_auto_1 : decode cX10_auto 1 = .ok (.getfield 16, 3) := by decide +kernel
theorem dX10_auto_4 : decode cX10_auto 4 = .ok (.aload_n 0, 1) := by decide +kernel
theorem dX10_auto_5 : decode cX10_auto 5 = .ok (.getfield 10, 3) := by decide +kernel
theorem dX10_auto_8 : decode cX10_auto 8 = .ok (.invokevirtual 84, 3) := by decide +kernel
theorem dX10_auto_11 : decode cX10_auto 11 = .ok (.aload_n 0, 1) := by decide +kernel
theorem dX10_auto_12 : decode cX10_auto 12 = .ok (.getfield 16, 3) := by decide +kernel
theorem dX10_auto_15 : decode cX10_auto 15 = .ok (.invokevirtual 367, 3) := by decide +kernel
theorem dX10_auto_18 : decode cX10_auto 18 = .ok (.istore_n 1, 1) := by decide +kernel
theorem dX10_auto_19 : decode cX10_auto 19 = .ok (.iload_n 1, 1) := by decide +kernel
theorem dX10_auto_20 : decode cX10_auto 20 = .ok (.ifCond .ne 9, 3) := by decide +kernel
theorem dX10_auto_23 : decode cX10_auto 23 = .ok (.aload_n 0, 1) := by decide +kernel
theorem dX10_auto_24 : decode cX10_auto 24 = .ok (.iconst 4, 1) := by decide +kernel
theorem dX10_auto_25 : decode cX10_auto 25 = .ok (.invokevirtual 76, 3) := by decide +kernel
theorem dX10_auto_28 : decode cX10_auto 28 = .ok (.ireturn, 1) := by decide +kernel
theorem dX10_auto_29 : decode cX10_auto 29 = .ok (.aload_n 0, 1) := by decide +kernel
theorem dX10_auto_30 : decode cX10_auto 30 = .ok (.getfield 22, 3) := by decide +kernel
theorem dX10_auto_33 : decode cX10_auto 33 = .ok (.aload_n 0, 1) := by decide +kernel
theorem dX10_auto_34 : decode cX10_auto 34 = .ok (.getfield 10, 3) := by decide +kernel
theorem dX10_auto_37 : decode cX10_auto 37 = .ok (.invokevirtual 358, 3) := by decide +kernel
theorem dX10_auto_40 : decode cX10_auto 40 = .ok (.aload_n 0, 1) := by decide +kernel
theorem dX10_auto_41 : decode cX10_auto 41 = .ok (.getfield 10, 3) := by decide +kernel
theorem dX10_auto_44 : decode cX10_auto 44 = .ok (.aload_n 0, 1) := by decide +kernel
theorem dX10_auto_45 : decode cX10_auto 45 = .ok (.getfield 16, 3) := by decide +kernel
theorem dX10_auto_48 : decode cX10_auto 48 = .ok (.invokevirtual 84, 3) := by decide +kernel
theorem dX10_auto_51 : decode cX10_auto 51 = .ok (.aload_n 0, 1) := by decide +kernel
theorem dX10_auto_52 : decode cX10_auto 52 = .ok (.iload_n 1, 1) := by decide +kernel
theorem dX10_auto_53 : decode cX10_auto 53 = .ok (.invokevirtual 94, 3) := by decide +kernel
theorem dX10_auto_56 : decode cX10_auto 56 = .ok (.ireturn, 1) := by decide +kernel
theorem dX10_week_0 : decode cX10_week 0 = .ok (.aload_n 0, 1) := by decide +kernel
theorem dX10_week_1 : decode cX10_week 1 = .ok (.getfield 10, 3) := by decide +kernel
theorem dX10_week_4 : decode cX10_week 4 = .ok (.getfield 106, 3) := by decide +kernel
theorem dX10_week_7 : decode cX10_week 7 = .ok (.sipush 999, 3) := by decide +kernel
theorem dX10_week_10 : decode cX10_week 10 = .ok (.if_icmp .lt 9, 3) := by decide +kernel
theorem dX10_week_13 : decode cX10_week 13 = .ok (.aload_n 0, 1) := by decide +kernel
theorem dX10_week_14 : decode cX10_week 14 = .ok (.iconst 3, 1) := by decide +kernel
theorem dX10_week_15 : decode cX10_week 15 = .ok (.invokevirtual 76, 3) := by decide +kernel
theorem dX10_week_18 : decode cX10_week 18 = .ok (.ireturn, 1) := by decide +kernel
theorem dX10_week_19 : decode cX10_week 19 = .ok (.aload_n 0, 1) := by decide +kernel
theorem dX10_week_20 : decode cX10_week 20 = .ok (.getfield 22, 3) := by decide +kernel
theorem dX10_week_23 : decode cX10_week 23 = .ok (.aload_n 0, 1) := by decide +kernel
theorem dX10_week_24 : decode cX10_week 24 = .ok (.getfield 10, 3) := by decide +kernel
theorem dX10_week_27 : decode cX10_week 27 = .ok (.invokevirtual 358, 3) := by decide +kernel
theorem dX10_week_30 : decode cX10_week 30 = .ok (.aload_n 0, 1) := by decide +kernel
theorem dX10_week_31 : decode cX10_week 31 = .ok (.aload_n 0, 1) := by decide +kernel
theorem dX10_week_32 : decode cX10_week 32 = .ok (.getfield 10, 3) := by decide +kernel
theorem dX10_week_35 : decode cX10_week 35 = .ok (.invokevirtual 281, 3) := by decide +kernel
theorem dX10_week_38 : decode cX10_week 38 = .ok (.invokevirtual 94, 3) := by decide +kernel
theorem dX10_week_41 : decode cX10_week 41 = .ok (.ireturn, 1) := by decide +kernel
theorem dX10_wish_0 : decode cX10_wish 0 = .ok (.aload_n 0, 1) := by decide +kernel
theorem dX10_wish_1 : decode cX10_wish 1 = .ok (.getfield 10, 3) := by decide +kernel
theorem dX10_wish_4 : decode cX10_wish 4 = .ok (.iload_n 1, 1) := by decide +kernel
theorem dX10_wish_5 : decode cX10_wish 5 = .ok (.invokevirtual 176, 3) := by decide +kernel
theorem dX10_wish_8 : decode cX10_wish 8 = .ok (.astore_n 3, 1) := by decide +kernel
theorem dX10_wish_9 : decode cX10_wish 9 = .ok (.aload_n 0, 1) := by decide +kernel
theorem dX10_wish_10 : decode cX10_wish 10 = .ok (.getfield 10, 3) := by decide +kernel
theorem dX10_wish_13 : decode cX10_wish 13 = .ok (.iload_n 2, 1) := by decide +kernel
theorem dX10_wish_14 : decode cX10_wish 14 = .ok (.invokevirtual 132, 3) := by decide +kernel
theorem dX10_wish_17 : decode cX10_wish 17 = .ok (.astore 4, 2) := by decide +kernel
theorem dX10_wish_19 : decode cX10_wish 19 = .ok (.aload_n 3, 1) := by decide +kernel
theorem dX10_wish_20 : decode cX10_wish 20 = .ok (.ifnull 8, 3) := by decide +kernel
theorem dX10_wish_23 : decode cX10_wish 23 = .ok (.aload 4, 2) := by decide +kernel
theorem dX10_wish_25 : decode cX10_wish 25 = .ok (.ifnonnull 9, 3) := by decide +kernel
theorem dX10_wish_28 : decode cX10_wish 28 = .ok (.aload_n 0, 1) := by decide +kernel
theorem dX10_wish_29 : decode cX10_wish 29 = .ok (.iconst 2, 1) := by decide +kernel
theorem dX10_wish_30 : decode cX10_wish 30 = .ok (.invokevirtual 76, 3) := by decide +kernel
theorem dX10_wish_33 : decode cX10_wish 33 = .ok (.ireturn, 1) := by decide +kernel
theorem dX10_wish_34 : decode cX10_wish 34 = .ok (.aload_n 3, 1) := by decide +kernel
theorem dX10_wish_35 : decode cX10_wish 35 = .ok (.iload_n 2, 1) := by decide +kernel
theorem dX10_wish_36 : decode cX10_wish 36 = .ok (.invokevirtual 370, 3) := by decide +kernel
theorem dX10_wish_39 : decode cX10_wish 39 = .ok (.iconst (-1), 1) := by decide +kernel
theorem dX10_wish_40 : decode cX10_wish 40 = .ok (.if_icmp .eq 9, 3) := by decide +kernel
theorem dX10_wish_43 : decode cX10_wish 43 = .ok (.aload_n 0, 1) := by decide +kernel
theorem dX10_wish_44 : decode cX10_wish 44 = .ok (.iconst 4, 1) := by decide +kernel
theorem dX10_wish_45 : decode cX10_wish 45 = .ok (.invokevirtual 76, 3) := by decide +kernel
theorem dX10_wish_48 : decode cX10_wish 48 = .ok (.ireturn, 1) := by decide +kernel
theorem dX10_wish_49 : decode cX10_wish 49 = .ok (.aload_n 3, 1) := by decide +kernel
theorem dX10_wish_50 : decode cX10_wish 50 = .ok (.getfield 209, 3) := by decide +kernel
theorem dX10_wish_53 : decode cX10_wish 53 = .ok (.bipush 6, 2) := by decide +kernel
theorem dX10_wish_55 : decode cX10_wish 55 = .ok (.if_icmp .lt 9, 3) := by decide +kernel
theorem dX10_wish_58 : decode cX10_wish 58 = .ok (.aload_n 0, 1) := by decide +kernel
theorem dX10_wish_59 : decode cX10_wish 59 = .ok (.iconst 3, 1) := by decide +kernel
theorem dX10_wish_60 : decode cX10_wish 60 = .ok (.invokevirtual 76, 3) := by decide +kernel
theorem dX10_wish_63 : decode cX10_wish 63 = .ok (.ireturn, 1) := by decide +kernel
theorem dX10_wish_64 : decode cX10_wish 64 = .ok (.aload_n 0, 1) := by decide +kernel
theorem dX10_wish_65 : decode cX10_wish 65 = .ok (.getfield 22, 3) := by decide +kernel
theorem dX10_wish_68 : decode cX10_wish 68 = .ok (.aload_n 0, 1) := by decide +kernel
theorem dX10_wish_69 : decode cX10_wish 69 = .ok (.getfield 10, 3) := by decide +kernel
theorem dX10_wish_72 : decode cX10_wish 72 = .ok (.invokevirtual 358, 3) := by decide +kernel
theorem dX10_wish_75 : decode cX10_wish 75 = .ok (.aload_n 3, 1) := by decide +kernel
theorem dX10_wish_76 : decode cX10_wish 76 = .ok (.iload_n 2, 1) := by decide +kernel
theorem dX10_wish_77 : decode cX10_wish 77 = .ok (.invokevirtual 373, 3) := by decide +kernel
theorem dX10_wish_80 : decode cX10_wish 80 = .ok (.aload_n 0, 1) := by decide +kernel
theorem dX10_wish_81 : decode cX10_wish 81 = .ok (.aload_n 3, 1) := by decide +kernel
theorem dX10_wish_82 : decode cX10_wish 82 = .ok (.getfield 209, 3) := by decide +kernel
theorem dX10_wish_85 : decode cX10_wish 85 = .ok (.invokevirtual 94, 3) := by decide +kernel
theorem dX10_wish_88 : decode cX10_wish 88 = .ok (.ireturn, 1) := by decide +kernel
theorem dX10_unwish_0 : decode cX10_unwish 0 = .ok (.aload_n 0, 1) := by decide +kernel
theorem dX10_unwish_1 : decode cX10_unwish 1 = .ok (.getfield 10, 3) := by decide +kernel
theorem dX10_unwish_4 : decode cX10_unwish 4 = .ok (.iload_n 1, 1) := by decide +kernel
theorem dX10_unwish_5 : decode cX10_unwish 5 = .ok (.invokevirtual 176, 3) := by decide +kernel
theorem dX10_unwish_8 : decode cX10_unwish 8 = .ok (.astore_n 3, 1) := by decide +kernel
theorem dX10_unwish_9 : decode cX10_unwish 9 = .ok (.aload_n 0, 1) := by decide +kernel
theorem dX10_unwish_10 : decode cX10_unwish 10 = .ok (.getfield 10, 3) := by decide +kernel
theorem dX10_unwish_13 : decode cX10_unwish 13 = .ok (.iload_n 2, 1) := by decide +kernel
theorem dX10_unwish_14 : decode cX10_unwish 14 = .ok (.invokevirtual 132, 3) := by decide +kernel
theorem dX10_unwish_17 : decode cX10_unwish 17 = .ok (.astore 4, 2) := by decide +kernel
theorem dX10_unwish_19 : decode cX10_unwish 19 = .ok (.aload_n 3, 1) := by decide +kernel
theorem dX10_unwish_20 : decode cX10_unwish 20 = .ok (.ifnull 8, 3) := by decide +kernel
theorem dX10_unwish_23 : decode cX10_unwish 23 = .ok (.aload 4, 2) := by decide +kernel
theorem dX10_unwish_25 : decode cX10_unwish 25 = .ok (.ifnonnull 9, 3) := by decide +kernel
theorem dX10_unwish_28 : decode cX10_unwish 28 = .ok (.aload_n 0, 1) := by decide +kernel
theorem dX10_unwish_29 : decode cX10_unwish 29 = .ok (.iconst 2, 1) := by decide +kernel
theorem dX10_unwish_30 : decode cX10_unwish 30 = .ok (.invokevirtual 76, 3) := by decide +kernel
theorem dX10_unwish_33 : decode cX10_unwish 33 = .ok (.ireturn, 1) := by decide +kernel
theorem dX10_unwish_34 : decode cX10_unwish 34 = .ok (.aload_n 3, 1) := by decide +kernel
theorem dX10_unwish_35 : decode cX10_unwish 35 = .ok (.iload_n 2, 1) := by decide +kernel
theorem dX10_unwish_36 : decode cX10_unwish 36 = .ok (.invokevirtual 370, 3) := by decide +kernel
theorem dX10_unwish_39 : decode cX10_unwish 39 = .ok (.istore 5, 2) := by decide +kernel
theorem dX10_unwish_41 : decode cX10_unwish 41 = .ok (.iload 5, 2) := by decide +kernel
theorem dX10_unwish_43 : decode cX10_unwish 43 = .ok (.iconst (-1), 1) := by decide +kernel
theorem dX10_unwish_44 : decode cX10_unwish 44 = .ok (.if_icmp .ne 9, 3) := by decide +kernel
theorem dX10_unwish_47 : decode cX10_unwish 47 = .ok (.aload_n 0, 1) := by decide +kernel
theorem dX10_unwish_48 : decode cX10_unwish 48 = .ok (.iconst 5, 1) := by decide +kernel
theorem dX10_unwish_49 : decode cX10_unwish 49 = .ok (.invokevirtual 76, 3) := by decide +kernel
theorem dX10_unwish_52 : decode cX10_unwish 52 = .ok (.ireturn, 1) := by decide +kernel
theorem dX10_unwish_53 : decode cX10_unwish 53 = .ok (.aload_n 0, 1) := by decide +kernel
theorem dX10_unwish_54 : decode cX10_unwish 54 = .ok (.getfield 22, 3) := by decide +kernel
theorem dX10_unwish_57 : decode cX10_unwish 57 = .ok (.aload_n 0, 1) := by decide +kernel
theorem dX10_unwish_58 : decode cX10_unwish 58 = .ok (.getfield 10, 3) := by decide +kernel
theorem dX10_unwish_61 : decode cX10_unwish 61 = .ok (.invokevirtual 358, 3) := by decide +kernel
theorem dX10_unwish_64 : decode cX10_unwish 64 = .ok (.aload_n 3, 1) := by decide +kernel
theorem dX10_unwish_65 : decode cX10_unwish 65 = .ok (.iload 5, 2) := by decide +kernel
theorem dX10_unwish_67 : decode cX10_unwish 67 = .ok (.invokevirtual 376, 3) := by decide +kernel
theorem dX10_unwish_70 : decode cX10_unwish 70 = .ok (.aload_n 0, 1) := by decide +kernel
theorem dX10_unwish_71 : decode cX10_unwish 71 = .ok (.aload_n 3, 1) := by decide +kernel
theorem dX10_unwish_72 : decode cX10_unwish 72 = .ok (.getfield 209, 3) := by decide +kernel
theorem dX10_unwish_75 : decode cX10_unwish 75 = .ok (.invokevirtual 94, 3) := by decide +kernel
theorem dX10_unwish_78 : decode cX10_unwish 78 = .ok (.ireturn, 1) := by decide +kernel
theorem dX10_leave_0 : decode cX10_leave 0 = .ok (.aload_n 0, 1) := by decide +kernel
theorem dX10_leave_1 : decode cX10_leave 1 = .ok (.getfield 10, 3) := by decide +kernel
theorem dX10_leave_4 : decode cX10_leave 4 = .ok (.iload_n 1, 1) := by decide +kernel
theorem dX10_leave_5 : decode cX10_leave 5 = .ok (.invokevirtual 176, 3) := by decide +kernel
theorem dX10_leave_8 : decode cX10_leave 8 = .ok (.astore_n 2, 1) := by decide +kernel
theorem dX10_leave_9 : decode cX10_leave 9 = .ok (.aload_n 2, 1) := by decide +kernel
theorem dX10_leave_10 : decode cX10_leave 10 = .ok (.ifnonnull 9, 3) := by decide +kernel
theorem dX10_leave_13 : decode cX10_leave 13 = .ok (.aload_n 0, 1) := by decide +kernel
theorem dX10_leave_14 : decode cX10_leave 14 = .ok (.iconst 2, 1) := by decide +kernel
theorem dX10_leave_15 : decode cX10_leave 15 = .ok (.invokevirtual 76, 3) := by decide +kernel
theorem dX10_leave_18 : decode cX10_leave 18 = .ok (.ireturn, 1) := by decide +kernel
theorem dX10_leave_19 : decode cX10_leave 19 = .ok (.aload_n 2, 1) := by decide +kernel
theorem dX10_leave_20 : decode cX10_leave 20 = .ok (.getfield 205, 3) := by decide +kernel
theorem dX10_leave_23 : decode cX10_leave 23 = .ok (.ifCond .eq 9, 3) := by decide +kernel
theorem dX10_leave_26 : decode cX10_leave 26 = .ok (.aload_n 0, 1) := by decide +kernel
theorem dX10_leave_27 : decode cX10_leave 27 = .ok (.iconst 4, 1) := by decide +kernel
theorem dX10_leave_28 : decode cX10_leave 28 = .ok (.invokevirtual 76, 3) := by decide +kernel
theorem dX10_leave_31 : decode cX10_leave 31 = .ok (.ireturn, 1) := by decide +kernel
theorem dX10_leave_32 : decode cX10_leave 32 = .ok (.aload_n 0, 1) := by decide +kernel
theorem dX10_leave_33 : decode cX10_leave 33 = .ok (.getfield 22, 3) := by decide +kernel
theorem dX10_leave_36 : decode cX10_leave 36 = .ok (.aload_n 0, 1) := by decide +kernel
theorem dX10_leave_37 : decode cX10_leave 37 = .ok (.getfield 10, 3) := by decide +kernel
theorem dX10_leave_40 : decode cX10_leave 40 = .ok (.invokevirtual 358, 3) := by decide +kernel
theorem dX10_leave_43 : decode cX10_leave 43 = .ok (.aload_n 0, 1) := by decide +kernel
theorem dX10_leave_44 : decode cX10_leave 44 = .ok (.getfield 10, 3) := by decide +kernel
theorem dX10_leave_47 : decode cX10_leave 47 = .ok (.aload_n 2, 1) := by decide +kernel
theorem dX10_leave_48 : decode cX10_leave 48 = .ok (.iconst 0, 1) := by decide +kernel
theorem dX10_leave_49 : decode cX10_leave 49 = .ok (.invokevirtual 379, 3) := by decide +kernel
theorem dX10_leave_52 : decode cX10_leave 52 = .ok (.aload_n 2, 1) := by decide +kernel
theorem dX10_leave_53 : decode cX10_leave 53 = .ok (.iconst 0, 1) := by decide +kernel
theorem dX10_leave_54 : decode cX10_leave 54 = .ok (.putfield 361, 3) := by decide +kernel
theorem dX10_leave_57 : decode cX10_leave 57 = .ok (.aload_n 2, 1) := by decide +kernel
theorem dX10_leave_58 : decode cX10_leave 58 = .ok (.iconst 1, 1) := by decide +kernel
theorem dX10_leave_59 : decode cX10_leave 59 = .ok (.putfield 205, 3) := by decide +kernel
theorem dX10_leave_62 : decode cX10_leave 62 = .ok (.aload_n 0, 1) := by decide +kernel
theorem dX10_leave_63 : decode cX10_leave 63 = .ok (.aload_n 0, 1) := by decide +kernel
theorem dX10_leave_64 : decode cX10_leave 64 = .ok (.getfield 10, 3) := by decide +kernel
theorem dX10_leave_67 : decode cX10_leave 67 = .ok (.invokevirtual 123, 3) := by decide +kernel
theorem dX10_leave_70 : decode cX10_leave 70 = .ok (.invokevirtual 94, 3) := by decide +kernel
theorem dX10_leave_73 : decode cX10_leave 73 = .ok (.ireturn, 1) := by decide +kernel
theorem dX10_shut_0 : decode cX10_shut 0 = .ok (.aload_n 0, 1) := by decide +kernel
theorem dX10_shut_1 : decode cX10_shut 1 = .ok (.getfield 10, 3) := by decide +kernel
theorem dX10_shut_4 : decode cX10_shut 4 = .ok (.iload_n 1, 1) := by decide +kernel
theorem dX10_shut_5 : decode cX10_shut 5 = .ok (.invokevirtual 132, 3) := by decide +kernel
theorem dX10_shut_8 : decode cX10_shut 8 = .ok (.astore_n 3, 1) := by decide +kernel
theorem dX10_shut_9 : decode cX10_shut 9 = .ok (.aload_n 3, 1) := by decide +kernel
theorem dX10_shut_10 : decode cX10_shut 10 = .ok (.ifnonnull 9, 3) := by decide +kernel
theorem dX10_shut_13 : decode cX10_shut 13 = .ok (.aload_n 0, 1) := by decide +kernel
theorem dX10_shut_14 : decode cX10_shut 14 = .ok (.iconst 2, 1) := by decide +kernel
theorem dX10_shut_15 : decode cX10_shut 15 = .ok (.invokevirtual 76, 3) := by decide +kernel
theorem dX10_shut_18 : decode cX10_shut 18 = .ok (.ireturn, 1) := by decide +kernel
theorem dX10_shut_19 : decode cX10_shut 19 = .ok (.aload_n 3, 1) := by decide +kernel
theorem dX10_shut_20 : decode cX10_shut 20 = .ok (.getfield 169, 3) := by decide +kernel
theorem dX10_shut_23 : decode cX10_shut 23 = .ok (.iload_n 2, 1) := by decide +kernel
theorem dX10_shut_24 : decode cX10_shut 24 = .ok (.if_icmp .ne 9, 3) := by decide +kernel
theorem dX10_shut_27 : decode cX10_shut 27 = .ok (.aload_n 0, 1) := by decide +kernel
theorem dX10_shut_28 : decode cX10_shut 28 = .ok (.iconst 4, 1) := by decide +kernel
theorem dX10_shut_29 : decode cX10_shut 29 = .ok (.invokevirtual 76, 3) := by decide +kernel
theorem dX10_shut_32 : decode cX10_shut 32 = .ok (.ireturn, 1) := by decide +kernel
theorem dX10_shut_33 : decode cX10_shut 33 = .ok (.aload_n 0, 1) := by decide +kernel
theorem dX10_shut_34 : decode cX10_shut 34 = .ok (.getfield 22, 3) := by decide +kernel
theorem dX10_shut_37 : decode cX10_shut 37 = .ok (.aload_n 0, 1) := by decide +kernel
theorem dX10_shut_38 : decode cX10_shut 38 = .ok (.getfield 10, 3) := by decide +kernel
theorem dX10_shut_41 : decode cX10_shut 41 = .ok (.invokevirtual 358, 3) := by decide +kernel
theorem dX10_shut_44 : decode cX10_shut 44 = .ok (.aload_n 3, 1) := by decide +kernel
theorem dX10_shut_45 : decode cX10_shut 45 = .ok (.iload_n 2, 1) := by decide +kernel
theorem dX10_shut_46 : decode cX10_shut 46 = .ok (.putfield 169, 3) := by decide +kernel
theorem dX10_shut_49 : decode cX10_shut 49 = .ok (.iload_n 2, 1) := by decide +kernel
theorem dX10_shut_50 : decode cX10_shut 50 = .ok (.ifCond .eq 11, 3) := by decide +kernel
theorem dX10_shut_53 : decode cX10_shut 53 = .ok (.aload_n 0, 1) := by decide +kernel
theorem dX10_shut_54 : decode cX10_shut 54 = .ok (.getfield 10, 3) := by decide +kernel
theorem dX10_shut_57 : decode cX10_shut 57 = .ok (.aload_n 3, 1) := by decide +kernel
theorem dX10_shut_58 : decode cX10_shut 58 = .ok (.invokevirtual 383, 3) := by decide +kernel
theorem dX10_shut_61 : decode cX10_shut 61 = .ok (.aload_n 0, 1) := by decide +kernel
theorem dX10_shut_62 : decode cX10_shut 62 = .ok (.aload_n 0, 1) := by decide +kernel
theorem dX10_shut_63 : decode cX10_shut 63 = .ok (.getfield 10, 3) := by decide +kernel
theorem dX10_shut_66 : decode cX10_shut 66 = .ok (.invokevirtual 120, 3) := by decide +kernel
theorem dX10_shut_69 : decode cX10_shut 69 = .ok (.invokevirtual 94, 3) := by decide +kernel
theorem dX10_shut_72 : decode cX10_shut 72 = .ok (.ireturn, 1) := by decide +kernel
theorem dX10_need_0 : decode cX10_need 0 = .ok (.iload_n 2, 1) := by decide +kernel
theorem dX10_need_1 : decode cX10_need 1 = .ok (.iconst 1, 1) := by decide +kernel
theorem dX10_need_2 : decode cX10_need 2 = .ok (.if_icmp .lt 8, 3) := by decide +kernel
theorem dX10_need_5 : decode cX10_need 5 = .ok (.iload_n 2, 1) := by decide +kernel
theorem dX10_need_6 : decode cX10_need 6 = .ok (.iconst 4, 1) := by decide +kernel
theorem dX10_need_7 : decode cX10_need 7 = .ok (.if_icmp .le 9, 3) := by decide +kernel
theorem dX10_need_10 : decode cX10_need 10 = .ok (.aload_n 0, 1) := by decide +kernel
theorem dX10_need_11 : decode cX10_need 11 = .ok (.iconst 1, 1) := by decide +kernel
theorem dX10_need_12 : decode cX10_need 12 = .ok (.invokevirtual 76, 3) := by decide +kernel
theorem dX10_need_15 : decode cX10_need 15 = .ok (.ireturn, 1) := by decide +kernel
theorem dX10_need_16 : decode cX10_need 16 = .ok (.aload_n 0, 1) := by decide +kernel
theorem dX10_need_17 : decode cX10_need 17 = .ok (.getfield 10, 3) := by decide +kernel
theorem dX10_need_20 : decode cX10_need 20 = .ok (.iload_n 1, 1) := by decide +kernel
theorem dX10_need_21 : decode cX10_need 21 = .ok (.invokevirtual 176, 3) := by decide +kernel
theorem dX10_need_24 : decode cX10_need 24 = .ok (.astore_n 3, 1) := by decide +kernel
theorem dX10_need_25 : decode cX10_need 25 = .ok (.aload_n 3, 1) := by decide +kernel
theorem dX10_need_26 : decode cX10_need 26 = .ok (.ifnonnull 9, 3) := by decide +kernel
theorem dX10_need_29 : decode cX10_need 29 = .ok (.aload_n 0, 1) := by decide +kernel
theorem dX10_need_30 : decode cX10_need 30 = .ok (.iconst 2, 1) := by decide +kernel
theorem dX10_need_31 : decode cX10_need 31 = .ok (.invokevirtual 76, 3) := by decide +kernel
theorem dX10_need_34 : decode cX10_need 34 = .ok (.ireturn, 1) := by decide +kernel
theorem dX10_need_35 : decode cX10_need 35 = .ok (.aload_n 3, 1) := by decide +kernel
theorem dX10_need_36 : decode cX10_need 36 = .ok (.getfield 189, 3) := by decide +kernel
theorem dX10_need_39 : decode cX10_need 39 = .ok (.istore 4, 2) := by decide +kernel
theorem dX10_need_41 : decode cX10_need 41 = .ok (.iload 4, 2) := by decide +kernel
theorem dX10_need_43 : decode cX10_need 43 = .ok (.iload_n 2, 1) := by decide +kernel
theorem dX10_need_44 : decode cX10_need 44 = .ok (.if_icmp .ne 9, 3) := by decide +kernel
theorem dX10_need_47 : decode cX10_need 47 = .ok (.aload_n 0, 1) := by decide +kernel
theorem dX10_need_48 : decode cX10_need 48 = .ok (.iconst 4, 1) := by decide +kernel
theorem dX10_need_49 : decode cX10_need 49 = .ok (.invokevirtual 76, 3) := by decide +kernel
theorem dX10_need_52 : decode cX10_need 52 = .ok (.ireturn, 1) := by decide +kernel
theorem dX10_need_53 : decode cX10_need 53 = .ok (.aload_n 0, 1) := by decide +kernel
theorem dX10_need_54 : decode cX10_need 54 = .ok (.getfield 22, 3) := by decide +kernel
theorem dX10_need_57 : decode cX10_need 57 = .ok (.aload_n 0, 1) := by decide +kernel
theorem dX10_need_58 : decode cX10_need 58 = .ok (.getfield 10, 3) := by decide +kernel
theorem dX10_need_61 : decode cX10_need 61 = .ok (.invokevirtual 358, 3) := by decide +kernel
theorem dX10_need_64 : decode cX10_need 64 = .ok (.aload_n 3, 1) := by decide +kernel
theorem dX10_need_65 : decode cX10_need 65 = .ok (.iload_n 2, 1) := by decide +kernel
theorem dX10_need_66 : decode cX10_need 66 = .ok (.putfield 189, 3) := by decide +kernel
theorem dX10_need_69 : decode cX10_need 69 = .ok (.aload_n 3, 1) := by decide +kernel
theorem dX10_need_70 : decode cX10_need 70 = .ok (.dup, 1) := by decide +kernel
theorem dX10_need_71 : decode cX10_need 71 = .ok (.getfield 361, 3) := by decide +kernel
theorem dX10_need_74 : decode cX10_need 74 = .ok (.aload_n 0, 1) := by decide +kernel
theorem dX10_need_75 : decode cX10_need 75 = .ok (.getfield 10, 3) := by decide +kernel
theorem dX10_need_78 : decode cX10_need 78 = .ok (.aload_n 3, 1) := by decide +kernel
theorem dX10_need_79 : decode cX10_need 79 = .ok (.iconst 0, 1) := by decide +kernel
theorem dX10_need_80 : decode cX10_need 80 = .ok (.iconst 0, 1) := by decide +kernel
theorem dX10_need_81 : decode cX10_need 81 = .ok (.invokevirtual 293, 3) := by decide +kernel
theorem dX10_need_84 : decode cX10_need 84 = .ok (.iand, 1) := by decide +kernel
theorem dX10_need_85 : decode cX10_need 85 = .ok (.putfield 361, 3) := by decide +kernel
theorem dX10_need_88 : decode cX10_need 88 = .ok (.aload_n 0, 1) := by decide +kernel
theorem dX10_need_89 : decode cX10_need 89 = .ok (.iload 4, 2) := by decide +kernel
theorem dX10_need_91 : decode cX10_need 91 = .ok (.invokevirtual 94, 3) := by decide +kernel
theorem dX10_need_94 : decode cX10_need 94 = .ok (.ireturn, 1) := by decide +kernel
theorem dX10_rules_0 : decode cX10_rules 0 = .ok (.iload_n 1, 1) := by decide +kernel
theorem dX10_rules_1 : decode cX10_rules 1 = .ok (.iload_n 2, 1) := by decide +kernel
theorem dX10_rules_2 : decode cX10_rules 2 = .ok (.invokestatic 314, 3) := by decide +kernel
theorem dX10_rules_5 : decode cX10_rules 5 = .ok (.ifCond .ne 9, 3) := by decide +kernel
theorem dX10_rules_8 : decode cX10_rules 8 = .ok (.aload_n 0, 1) := by decide +kernel
theorem dX10_rules_9 : decode cX10_rules 9 = .ok (.iconst 1, 1) := by decide +kernel
theorem dX10_rules_10 : decode cX10_rules 10 = .ok (.invokevirtual 76, 3) := by decide +kernel
theorem dX10_rules_13 : decode cX10_rules 13 = .ok (.ireturn, 1) := by decide +kernel
theorem dX10_rules_14 : decode cX10_rules 14 = .ok (.aload_n 0, 1) := by decide +kernel
theorem dX10_rules_15 : decode cX10_rules 15 = .ok (.getfield 10, 3) := by decide +kernel
theorem dX10_rules_18 : decode cX10_rules 18 = .ok (.iload_n 1, 1) := by decide +kernel
theorem dX10_rules_19 : decode cX10_rules 19 = .ok (.invokevirtual 218, 3) := by decide +kernel
theorem dX10_rules_22 : decode cX10_rules 22 = .ok (.istore_n 3, 1) := by decide +kernel
theorem dX10_rules_23 : decode cX10_rules 23 = .ok (.iload_n 3, 1) := by decide +kernel
theorem dX10_rules_24 : decode cX10_rules 24 = .ok (.iload_n 2, 1) := by decide +kernel
theorem dX10_rules_25 : decode cX10_rules 25 = .ok (.if_icmp .ne 9, 3) := by decide +kernel
theorem dX10_rules_28 : decode cX10_rules 28 = .ok (.aload_n 0, 1) := by decide +kernel
theorem dX10_rules_29 : decode cX10_rules 29 = .ok (.iconst 4, 1) := by decide +kernel
theorem dX10_rules_30 : decode cX10_rules 30 = .ok (.invokevirtual 76, 3) := by decide +kernel
theorem dX10_rules_33 : decode cX10_rules 33 = .ok (.ireturn, 1) := by decide +kernel
theorem dX10_rules_34 : decode cX10_rules 34 = .ok (.aload_n 0, 1) := by decide +kernel
theorem dX10_rules_35 : decode cX10_rules 35 = .ok (.getfield 22, 3) := by decide +kernel
theorem dX10_rules_38 : decode cX10_rules 38 = .ok (.aload_n 0, 1) := by decide +kernel
theorem dX10_rules_39 : decode cX10_rules 39 = .ok (.getfield 10, 3) := by decide +kernel
theorem dX10_rules_42 : decode cX10_rules 42 = .ok (.invokevirtual 358, 3) := by decide +kernel
theorem dX10_rules_45 : decode cX10_rules 45 = .ok (.aload_n 0, 1) := by decide +kernel
theorem dX10_rules_46 : decode cX10_rules 46 = .ok (.getfield 10, 3) := by decide +kernel
theorem dX10_rules_49 : decode cX10_rules 49 = .ok (.iload_n 1, 1) := by decide +kernel
theorem dX10_rules_50 : decode cX10_rules 50 = .ok (.iload_n 2, 1) := by decide +kernel
theorem dX10_rules_51 : decode cX10_rules 51 = .ok (.invokevirtual 387, 3) := by decide +kernel
theorem dX10_rules_54 : decode cX10_rules 54 = .ok (.aload_n 0, 1) := by decide +kernel
theorem dX10_rules_55 : decode cX10_rules 55 = .ok (.iload_n 3, 1) := by decide +kernel
theorem dX10_rules_56 : decode cX10_rules 56 = .ok (.invokevirtual 94, 3) := by decide +kernel
theorem dX10_rules_59 : decode cX10_rules 59 = .ok (.ireturn, 1) := by decide +kernel
theorem dX10_undo_0 : decode cX10_undo 0 = .ok (.aload_n 0, 1) := by decide +kernel
theorem dX10_undo_1 : decode cX10_undo 1 = .ok (.getfield 22, 3) := by decide +kernel
theorem dX10_undo_4 : decode cX10_undo 4 = .ok (.getfield 88, 3) := by decide +kernel
theorem dX10_undo_7 : decode cX10_undo 7 = .ok (.ifCond .ne 9, 3) := by decide +kernel
theorem dX10_undo_10 : decode cX10_undo 10 = .ok (.aload_n 0, 1) := by decide +kernel
theorem dX10_undo_11 : decode cX10_undo 11 = .ok (.iconst 5, 1) := by decide +kernel
theorem dX10_undo_12 : decode cX10_undo 12 = .ok (.invokevirtual 76, 3) := by decide +kernel
theorem dX10_undo_15 : decode cX10_undo 15 = .ok (.ireturn, 1) := by decide +kernel
theorem dX10_undo_16 : decode cX10_undo 16 = .ok (.aload_n 0, 1) := by decide +kernel
theorem dX10_undo_17 : decode cX10_undo 17 = .ok (.getfield 22, 3) := by decide +kernel
theorem dX10_undo_20 : decode cX10_undo 20 = .ok (.aload_n 0, 1) := by decide +kernel
theorem dX10_undo_21 : decode cX10_undo 21 = .ok (.getfield 10, 3) := by decide +kernel
theorem dX10_undo_24 : decode cX10_undo 24 = .ok (.invokevirtual 391, 3) := by decide +kernel
theorem dX10_undo_27 : decode cX10_undo 27 = .ok (.aload_n 0, 1) := by decide +kernel
theorem dX10_undo_28 : decode cX10_undo 28 = .ok (.aload_n 0, 1) := by decide +kernel
theorem dX10_undo_29 : decode cX10_undo 29 = .ok (.getfield 22, 3) := by decide +kernel
theorem dX10_undo_32 : decode cX10_undo 32 = .ok (.getfield 88, 3) := by decide +kernel
theorem dX10_undo_35 : decode cX10_undo 35 = .ok (.invokevirtual 94, 3) := by decide +kernel
theorem dX10_undo_38 : decode cX10_undo 38 = .ok (.ireturn, 1) := by decide +kernel
theorem dX10_print_0 : decode cX10_print 0 = .ok (.aload_n 0, 1) := by decide +kernel
theorem dX10_print_1 : decode cX10_print 1 = .ok (.getfield 36, 3) := by decide +kernel
theorem dX10_print_4 : decode cX10_print 4 = .ok (.aload_n 0, 1) := by decide +kernel
theorem dX10_print_5 : decode cX10_print 5 = .ok (.getfield 10, 3) := by decide +kernel
theorem dX10_print_8 : decode cX10_print 8 = .ok (.invokevirtual 394, 3) := by decide +kernel
theorem dX10_print_11 : decode cX10_print 11 = .ok (.aload_n 0, 1) := by decide +kernel
theorem dX10_print_12 : decode cX10_print 12 = .ok (.aload_n 0, 1) := by decide +kernel
theorem dX10_print_13 : decode cX10_print 13 = .ok (.getfield 36, 3) := by decide +kernel
theorem dX10_print_16 : decode cX10_print 16 = .ok (.getfield 397, 3) := by decide +kernel
theorem dX10_print_19 : decode cX10_print 19 = .ok (.invokevirtual 94, 3) := by decide +kernel
theorem dX10_print_22 : decode cX10_print 22 = .ok (.ireturn, 1) := by decide +kernel
theorem dX10_out_0 : decode cX10_out 0 = .ok (.iload_n 1, 1) := by decide +kernel
theorem dX10_out_1 : decode cX10_out 1 = .ok (.ifCond .lt 14, 3) := by decide +kernel
theorem dX10_out_4 : decode cX10_out 4 = .ok (.iload_n 1, 1) := by decide +kernel
theorem dX10_out_5 : decode cX10_out 5 = .ok (.aload_n 0, 1) := by decide +kernel
theorem dX10_out_6 : decode cX10_out 6 = .ok (.getfield 36, 3) := by decide +kernel
theorem dX10_out_9 : decode cX10_out 9 = .ok (.getfield 397, 3) := by decide +kernel
theorem dX10_out_12 : decode cX10_out 12 = .ok (.if_icmp .lt 14, 3) := by decide +kernel
theorem dX10_out_15 : decode cX10_out 15 = .ok (.new 398, 3) := by decide +kernel
theorem dX10_out_18 : decode cX10_out 18 = .ok (.dup, 1) := by decide +kernel
theorem dX10_out_19 : decode cX10_out 19 = .ok (.ldc_w 400, 3) := by decide +kernel
theorem dX10_out_22 : decode cX10_out 22 = .ok (.invokespecial 402, 3) := by decide +kernel
theorem dX10_out_25 : decode cX10_out 25 = .ok (.athrow, 1) := by decide +kernel
theorem dX10_out_26 : decode cX10_out 26 = .ok (.aload_n 0, 1) := by decide +kernel
theorem dX10_out_27 : decode cX10_out 27 = .ok (.getfield 36, 3) := by decide +kernel
theorem dX10_out_30 : decode cX10_out 30 = .ok (.iload_n 1, 1) := by decide +kernel
theorem dX10_out_31 : decode cX10_out 31 = .ok (.invokevirtual 405, 3) := by decide +kernel
theorem dX10_out_34 : decode cX10_out 34 = .ok (.ireturn, 1) := by decide +kernel
theorem dX10_fail_0 : decode cX10_fail 0 = .ok (.aload_n 0, 1) := by decide +kernel
theorem dX10_fail_1 : decode cX10_fail 1 = .ok (.iload_n 1, 1) := by decide +kernel
theorem dX10_fail_2 : decode cX10_fail 2 = .ok (.putfield 61, 3) := by decide +kernel
theorem dX10_fail_5 : decode cX10_fail 5 = .ok (.iconst (-1), 1) := by decide +kernel
theorem dX10_fail_6 : decode cX10_fail 6 = .ok (.ireturn, 1) := by decide +kernel
theorem dX10_answer_0 : decode cX10_answer 0 = .ok (.aload_n 0, 1) := by decide +kernel
theorem dX10_answer_1 : decode cX10_answer 1 = .ok (.iconst 0, 1) := by decide +kernel
theorem dX10_answer_2 : decode cX10_answer 2 = .ok (.putfield 61, 3) := by decide +kernel
theorem dX10_answer_5 : decode cX10_answer 5 = .ok (.iload_n 1, 1) := by decide +kernel
theorem dX10_answer_6 : decode cX10_answer 6 = .ok (.ireturn, 1) := by decide +kernel
theorem dX10_answerFlag_0 : decode cX10_answerFlag 0 = .ok (.aload_n 0, 1) := by decide +kernel
theorem dX10_answerFlag_1 : decode cX10_answerFlag 1 = .ok (.iload_n 1, 1) := by decide +kernel
theorem dX10_answerFlag_2 : decode cX10_answerFlag 2 = .ok (.ifCond .eq 7, 3) := by decide +kernel
theorem dX10_answerFlag_5 : decode cX10_answerFlag 5 = .ok (.iconst 1, 1) := by decide +kernel
theorem dX10_answerFlag_6 : decode cX10_answerFlag 6 = .ok (.goto 4, 3) := by decide +kernel
theorem dX10_answerFlag_9 : decode cX10_answerFlag 9 = .ok (.iconst 0, 1) := by decide +kernel
theorem dX10_answerFlag_10 : decode cX10_answerFlag 10 = .ok (.invokevirtual 94, 3) := by decide +kernel
theorem dX10_answerFlag_13 : decode cX10_answerFlag 13 = .ok (.ireturn, 1) := by decide +kernel
theorem dX10_answerIfAny_0 : decode cX10_answerIfAny 0 = .ok (.iload_n 1, 1) := by decide +kernel
theorem dX10_answerIfAny_1 : decode cX10_answerIfAny 1 = .ok (.iconst (-1), 1) := by decide +kernel
theorem dX10_answerIfAny_2 : decode cX10_answerIfAny 2 = .ok (.if_icmp .ne 11, 3) := by decide +kernel
theorem dX10_answerIfAny_5 : decode cX10_answerIfAny 5 = .ok (.aload_n 0, 1) := by decide +kernel
theorem dX10_answerIfAny_6 : decode cX10_answerIfAny 6 = .ok (.iconst 5, 1) := by decide +kernel
theorem dX10_answerIfAny_7 : decode cX10_answerIfAny 7 = .ok (.invokevirtual 76, 3) := by decide +kernel
theorem dX10_answerIfAny_10 : decode cX10_answerIfAny 10 = .ok (.goto 8, 3) := by decide +kernel
theorem dX10_answerIfAny_13 : decode cX10_answerIfAny 13 = .ok (.aload_n 0, 1) := by decide +kernel
theorem dX10_answerIfAny_14 : decode cX10_answerIfAny 14 = .ok (.iload_n 1, 1) := by decide +kernel
theorem dX10_answerIfAny_15 : decode cX10_answerIfAny 15 = .ok (.invokevirtual 94, 3) := by decide +kernel
theorem dX10_answerIfAny_18 : decode cX10_answerIfAny 18 = .ok (.ireturn, 1) := by decide +kernel
theorem dX10_answerNumber_0 : decode cX10_answerNumber 0 = .ok (.aload_n 1, 1) := by decide +kernel
theorem dX10_answerNumber_1 : decode cX10_answerNumber 1 = .ok (.ifnonnull 11, 3) := by decide +kernel
theorem dX10_answerNumber_4 : decode cX10_answerNumber 4 = .ok (.aload_n 0, 1) := by decide +kernel
theorem dX10_answerNumber_5 : decode cX10_answerNumber 5 = .ok (.iconst 5, 1) := by decide +kernel
theorem dX10_answerNumber_6 : decode cX10_answerNumber 6 = .ok (.invokevirtual 76, 3) := by decide +kernel
theorem dX10_answerNumber_9 : decode cX10_answerNumber 9 = .ok (.goto 11, 3) := by decide +kernel
theorem dX10_answerNumber_12 : decode cX10_answerNumber 12 = .ok (.aload_n 0, 1) := by decide +kernel
theorem dX10_answerNumber_13 : decode cX10_answerNumber 13 = .ok (.aload_n 1, 1) := by decide +kernel
theorem dX10_answerNumber_14 : decode cX10_answerNumber 14 = .ok (.getfield 408, 3) := by decide +kernel
theorem dX10_answerNumber_17 : decode cX10_answerNumber 17 = .ok (.invokevirtual 94, 3) := by decide +kernel
theorem dX10_answerNumber_20 : decode cX10_answerNumber 20 = .ok (.ireturn, 1) := by decide +kernel
theorem dX10_letsAhead_0 : decode cX10_letsAhead 0 = .ok (.aload_n 0, 1) := by decide +kernel
theorem dX10_letsAhead_1 : decode cX10_letsAhead 1 = .ok (.getfield 16, 3) := by decide +kernel
theorem dX10_letsAhead_4 : decode cX10_letsAhead 4 = .ok (.aload_n 0, 1) := by decide +kernel
theorem dX10_letsAhead_5 : decode cX10_letsAhead 5 = .ok (.getfield 10, 3) := by decide +kernel
theorem dX10_letsAhead_8 : decode cX10_letsAhead 8 = .ok (.invokevirtual 84, 3) := by decide +kernel
theorem dX10_letsAhead_11 : decode cX10_letsAhead 11 = .ok (.aload_n 0, 1) := by decide +kernel
theorem dX10_letsAhead_12 : decode cX10_letsAhead 12 = .ok (.getfield 16, 3) := by decide +kernel
theorem dX10_letsAhead_15 : decode cX10_letsAhead 15 = .ok (.iload_n 2, 1) := by decide +kernel
theorem dX10_letsAhead_16 : decode cX10_letsAhead 16 = .ok (.iload_n 3, 1) := by decide +kernel
theorem dX10_letsAhead_17 : decode cX10_letsAhead 17 = .ok (.invokevirtual 387, 3) := by decide +kernel
theorem dX10_letsAhead_20 : decode cX10_letsAhead 20 = .ok (.aload_n 0, 1) := by decide +kernel
theorem dX10_letsAhead_21 : decode cX10_letsAhead 21 = .ok (.getfield 16, 3) := by decide +kernel
theorem dX10_letsAhead_24 : decode cX10_letsAhead 24 = .ok (.iload_n 1, 1) := by decide +kernel
theorem dX10_letsAhead_25 : decode cX10_letsAhead 25 = .ok (.invokevirtual 268, 3) := by decide +kernel
theorem dX10_letsAhead_28 : decode cX10_letsAhead 28 = .ok (.aload_n 0, 1) := by decide +kernel
theorem dX10_letsAhead_29 : decode cX10_letsAhead 29 = .ok (.getfield 16, 3) := by decide +kernel
theorem dX10_letsAhead_32 : decode cX10_letsAhead 32 = .ok (.getfield 109, 3) := by decide +kernel
theorem dX10_letsAhead_35 : decode cX10_letsAhead 35 = .ok (.getfield 113, 3) := by decide +kernel
theorem dX10_letsAhead_38 : decode cX10_letsAhead 38 = .ok (.aload_n 0, 1) := by decide +kernel
theorem dX10_letsAhead_39 : decode cX10_letsAhead 39 = .ok (.getfield 10, 3) := by decide +kernel
theorem dX10_letsAhead_42 : decode cX10_letsAhead 42 = .ok (.getfield 109, 3) := by decide +kernel
theorem dX10_letsAhead_45 : decode cX10_letsAhead 45 = .ok (.getfield 113, 3) := by decide +kernel
theorem dX10_letsAhead_48 : decode cX10_letsAhead 48 = .ok (.isub, 1) := by decide +kernel
theorem dX10_letsAhead_49 : decode cX10_letsAhead 49 = .ok (.ireturn, 1) := by decide +kernel
theorem dX10_canBeTold_0 : decode cX10_canBeTold 0 = .ok (.iload_n 0, 1) := by decide +kernel
theorem dX10_canBeTold_1 : decode cX10_canBeTold 1 = .ok (.ifCond .lt 9, 3) := by decide +kernel
theorem dX10_canBeTold_4 : decode cX10_canBeTold 4 = .ok (.iload_n 0, 1) := by decide +kernel
theorem dX10_canBeTold_5 : decode cX10_canBeTold 5 = .ok (.bipush 6, 2) := by decide +kernel
theorem dX10_canBeTold_7 : decode cX10_canBeTold 7 = .ok (.if_icmp .lt 5, 3) := by decide +kernel
theorem dX10_canBeTold_10 : decode cX10_canBeTold 10 = .ok (.iconst 0, 1) := by decide +kernel
theorem dX10_canBeTold_11 : decode cX10_canBeTold 11 = .ok (.ireturn, 1) := by decide +kernel
theorem dX10_canBeTold_12 : decode cX10_canBeTold 12 = .ok (.iload_n 1, 1) := by decide +kernel
theorem dX10_canBeTold_13 : decode cX10_canBeTold 13 = .ok (.getstatic 411, 3) := by decide +kernel
theorem dX10_canBeTold_16 : decode cX10_canBeTold 16 = .ok (.iload_n 0, 1) := by decide +kernel
theorem dX10_canBeTold_17 : decode cX10_canBeTold 17 = .ok (.iaload, 1) := by decide +kernel
theorem dX10_canBeTold_18 : decode cX10_canBeTold 18 = .ok (.if_icmp .lt 16, 3) := by decide +kernel
theorem dX10_canBeTold_21 : decode cX10_canBeTold 21 = .ok (.iload_n 1, 1) := by decide +kernel
theorem dX10_canBeTold_22 : decode cX10_canBeTold 22 = .ok (.getstatic 415, 3) := by decide +kernel
theorem dX10_canBeTold_25 : decode cX10_canBeTold 25 = .ok (.iload_n 0, 1) := by decide +kernel
theorem dX10_canBeTold_26 : decode cX10_canBeTold 26 = .ok (.iaload, 1) := by decide +kernel
theorem dX10_canBeTold_27 : decode cX10_canBeTold 27 = .ok (.if_icmp .gt 7, 3) := by decide +kernel
theorem dX10_canBeTold_30 : decode cX10_canBeTold 30 = .ok (.iconst 1, 1) := by decide +kernel
theorem dX10_canBeTold_31 : decode cX10_canBeTold 31 = .ok (.goto 4, 3) := by decide +kernel
theorem dX10_canBeTold_34 : decode cX10_canBeTold 34 = .ok (.iconst 0, 1) := by decide +kernel
theorem dX10_canBeTold_35 : decode cX10_canBeTold 35 = .ok (.ireturn, 1) := by decide +kernel
theorem dX10_keyword_0 : decode cX10_keyword 0 = .ok (.iload_n 0, 1) := by decide +kernel
theorem dX10_keyword_1 : decode cX10_keyword 1 = .ok (.tableswitch 115 0 9 #[55, 61, 67, 73, 79, 85, 91, 97, 103, 109], 55) := by decide +kernel
theorem dX10_keyword_56 : decode cX10_keyword 56 = .ok (.ldc_w 418, 3) := by decide +kernel
theorem dX10_keyword_59 : decode cX10_keyword 59 = .ok (.goto 60, 3) := by decide +kernel
theorem dX10_keyword_62 : decode cX10_keyword 62 = .ok (.ldc_w 419, 3) := by decide +kernel
theorem dX10_keyword_65 : decode cX10_keyword 65 = .ok (.goto 54, 3) := by decide +kernel
theorem dX10_keyword_68 : decode cX10_keyword 68 = .ok (.ldc_w 421, 3) := by decide +kernel
theorem dX10_keyword_71 : decode cX10_keyword 71 = .ok (.goto 48, 3) := by decide +kernel
theorem dX10_keyword_74 : decode cX10_keyword 74 = .ok (.ldc_w 423, 3) := by decide +kernel
theorem dX10_keyword_77 : decode cX10_keyword 77 = .ok (.goto 42, 3) := by decide +kernel
theorem dX10_keyword_80 : decode cX10_keyword 80 = .ok (.ldc_w 425, 3) := by decide +kernel
theorem dX10_keyword_83 : decode cX10_keyword 83 = .ok (.goto 36, 3) := by decide +kernel
theorem dX10_keyword_86 : decode cX10_keyword 86 = .ok (.ldc_w 427, 3) := by decide +kernel
theorem dX10_keyword_89 : decode cX10_keyword 89 = .ok (.goto 30, 3) := by decide +kernel
theorem dX10_keyword_92 : decode cX10_keyword 92 = .ok (.ldc_w 429, 3) := by decide +kernel
theorem dX10_keyword_95 : decode cX10_keyword 95 = .ok (.goto 24, 3) := by decide +kernel
theorem dX10_keyword_98 : decode cX10_keyword 98 = .ok (.ldc_w 431, 3) := by decide +kernel
theorem dX10_keyword_101 : decode cX10_keyword 101 = .ok (.goto 18, 3) := by decide +kernel
theorem dX10_keyword_104 : decode cX10_keyword 104 = .ok (.ldc_w 433, 3) := by decide +kernel
theorem dX10_keyword_107 : decode cX10_keyword 107 = .ok (.goto 12, 3) := by decide +kernel
theorem dX10_keyword_110 : decode cX10_keyword 110 = .ok (.ldc_w 435, 3) := by decide +kernel
theorem dX10_keyword_113 : decode cX10_keyword 113 = .ok (.goto 6, 3) := by decide +kernel
theorem dX10_keyword_116 : decode cX10_keyword 116 = .ok (.ldc_w 436, 3) := by decide +kernel
theorem dX10_keyword_119 : decode cX10_keyword 119 = .ok (.areturn, 1) := by decide +kernel
