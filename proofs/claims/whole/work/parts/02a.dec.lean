theorem dX0_init_0 : decode cX0_init 0 = .ok (.aload_n 0, 1) := by decide +kernel
theorem dX0_init_1 : decode cX0_init 1 = .ok (.invokespecial 3, 3) := by decide +kernel
theorem dX0_init_4 : decode cX0_init 4 = .ok (.aload_n 0, 1) := by decide +kernel
theorem dX0_init_5 : decode cX0_init 5 = .ok (.bipush 8, 2) := by decide +kernel
theorem dX0_init_7 : decode cX0_init 7 = .ok (.newarray .int, 2) := by decide +kernel
theorem dX0_init_9 : decode cX0_init 9 = .ok (.putfield 9, 3) := by decide +kernel
theorem dX0_init_12 : decode cX0_init 12 = .ok (.aload_n 0, 1) := by decide +kernel
theorem dX0_init_13 : decode cX0_init 13 = .ok (.bipush 8, 2) := by decide +kernel
theorem dX0_init_15 : decode cX0_init 15 = .ok (.newarray .int, 2) := by decide +kernel
theorem dX0_init_17 : decode cX0_init 17 = .ok (.putfield 15, 3) := by decide +kernel
theorem dX0_init_20 : decode cX0_init 20 = .ok (.aload_n 0, 1) := by decide +kernel
theorem dX0_init_21 : decode cX0_init 21 = .ok (.sipush 2048, 3) := by decide +kernel
theorem dX0_init_24 : decode cX0_init 24 = .ok (.newarray .int, 2) := by decide +kernel
theorem dX0_init_26 : decode cX0_init 26 = .ok (.putfield 18, 3) := by decide +kernel
theorem dX0_init_29 : decode cX0_init 29 = .ok (.aload_n 0, 1) := by decide +kernel
theorem dX0_init_30 : decode cX0_init 30 = .ok (.bipush 8, 2) := by decide +kernel
theorem dX0_init_32 : decode cX0_init 32 = .ok (.newarray .int, 2) := by decide +kernel
theorem dX0_init_34 : decode cX0_init 34 = .ok (.putfield 21, 3) := by decide +kernel
theorem dX0_init_37 : decode cX0_init 37 = .ok (.aload_n 0, 1) := by decide +kernel
theorem dX0_init_38 : decode cX0_init 38 = .ok (.bipush 8, 2) := by decide +kernel
theorem dX0_init_40 : decode cX0_init 40 = .ok (.newarray .int, 2) := by decide +kernel
theorem dX0_init_42 : decode cX0_init 42 = .ok (.putfield 24, 3) := by decide +kernel
theorem dX0_init_45 : decode cX0_init 45 = .ok (.return_, 1) := by decide +kernel
theorem dX0_houseAt_0 : decode cX0_houseAt 0 = .ok (.iload_n 1, 1) := by decide +kernel
theorem dX0_houseAt_1 : decode cX0_houseAt 1 = .ok (.ifCond .lt 17, 3) := by decide +kernel
theorem dX0_houseAt_4 : decode cX0_houseAt 4 = .ok (.iload_n 1, 1) := by decide +kernel
theorem dX0_houseAt_5 : decode cX0_houseAt 5 = .ok (.aload_n 0, 1) := by decide +kernel
theorem dX0_houseAt_6 : decode cX0_houseAt 6 = .ok (.getfield 27, 3) := by decide +kernel
theorem dX0_houseAt_9 : decode cX0_houseAt 9 = .ok (.if_icmp .ge 9, 3) := by decide +kernel
theorem dX0_houseAt_12 : decode cX0_houseAt 12 = .ok (.iload_n 1, 1) := by decide +kernel
theorem dX0_houseAt_13 : decode cX0_houseAt 13 = .ok (.bipush 8, 2) := by decide +kernel
theorem dX0_houseAt_15 : decode cX0_houseAt 15 = .ok (.if_icmp .lt 7, 3) := by decide +kernel
theorem dX0_houseAt_18 : decode cX0_houseAt 18 = .ok (.iconst (-1), 1) := by decide +kernel
theorem dX0_houseAt_19 : decode cX0_houseAt 19 = .ok (.goto 9, 3) := by decide +kernel
theorem dX0_houseAt_22 : decode cX0_houseAt 22 = .ok (.aload_n 0, 1) := by decide +kernel
theorem dX0_houseAt_23 : decode cX0_houseAt 23 = .ok (.getfield 21, 3) := by decide +kernel
theorem dX0_houseAt_26 : decode cX0_houseAt 26 = .ok (.iload_n 1, 1) := by decide +kernel
theorem dX0_houseAt_27 : decode cX0_houseAt 27 = .ok (.iaload, 1) := by decide +kernel
theorem dX0_houseAt_28 : decode cX0_houseAt 28 = .ok (.ireturn, 1) := by decide +kernel
theorem dX0_homeAt_0 : decode cX0_homeAt 0 = .ok (.iload_n 1, 1) := by decide +kernel
theorem dX0_homeAt_1 : decode cX0_homeAt 1 = .ok (.ifCond .lt 17, 3) := by decide +kernel
theorem dX0_homeAt_4 : decode cX0_homeAt 4 = .ok (.iload_n 1, 1) := by decide +kernel
theorem dX0_homeAt_5 : decode cX0_homeAt 5 = .ok (.aload_n 0, 1) := by decide +kernel
theorem dX0_homeAt_6 : decode cX0_homeAt 6 = .ok (.getfield 27, 3) := by decide +kernel
theorem dX0_homeAt_9 : decode cX0_homeAt 9 = .ok (.if_icmp .ge 9, 3) := by decide +kernel
theorem dX0_homeAt_12 : decode cX0_homeAt 12 = .ok (.iload_n 1, 1) := by decide +kernel
theorem dX0_homeAt_13 : decode cX0_homeAt 13 = .ok (.bipush 8, 2) := by decide +kernel
theorem dX0_homeAt_15 : decode cX0_homeAt 15 = .ok (.if_icmp .lt 7, 3) := by decide +kernel
theorem dX0_homeAt_18 : decode cX0_homeAt 18 = .ok (.iconst (-1), 1) := by decide +kernel
theorem dX0_homeAt_19 : decode cX0_homeAt 19 = .ok (.goto 9, 3) := by decide +kernel
theorem dX0_homeAt_22 : decode cX0_homeAt 22 = .ok (.aload_n 0, 1) := by decide +kernel
theorem dX0_homeAt_23 : decode cX0_homeAt 23 = .ok (.getfield 24, 3) := by decide +kernel
theorem dX0_homeAt_26 : decode cX0_homeAt 26 = .ok (.iload_n 1, 1) := by decide +kernel
theorem dX0_homeAt_27 : decode cX0_homeAt 27 = .ok (.iaload, 1) := by decide +kernel
theorem dX0_homeAt_28 : decode cX0_homeAt 28 = .ok (.ireturn, 1) := by decide +kernel
theorem dX0_work_0 : decode cX0_work 0 = .ok (.aload_n 0, 1) := by decide +kernel
theorem dX0_work_1 : decode cX0_work 1 = .ok (.aload_n 1, 1) := by decide +kernel
theorem dX0_work_2 : decode cX0_work 2 = .ok (.invokevirtual 31, 3) := by decide +kernel
theorem dX0_work_5 : decode cX0_work 5 = .ok (.aload_n 0, 1) := by decide +kernel
theorem dX0_work_6 : decode cX0_work 6 = .ok (.invokevirtual 35, 3) := by decide +kernel
theorem dX0_work_9 : decode cX0_work 9 = .ok (.aload_n 0, 1) := by decide +kernel
theorem dX0_work_10 : decode cX0_work 10 = .ok (.iconst 0, 1) := by decide +kernel
theorem dX0_work_11 : decode cX0_work 11 = .ok (.putfield 27, 3) := by decide +kernel
theorem dX0_work_14 : decode cX0_work 14 = .ok (.iconst (-1), 1) := by decide +kernel
theorem dX0_work_15 : decode cX0_work 15 = .ok (.istore_n 2, 1) := by decide +kernel
theorem dX0_work_16 : decode cX0_work 16 = .ok (.iconst 0, 1) := by decide +kernel
theorem dX0_work_17 : decode cX0_work 17 = .ok (.istore_n 3, 1) := by decide +kernel
theorem dX0_work_18 : decode cX0_work 18 = .ok (.iload_n 3, 1) := by decide +kernel
theorem dX0_work_19 : decode cX0_work 19 = .ok (.aload_n 1, 1) := by decide +kernel
theorem dX0_work_20 : decode cX0_work 20 = .ok (.getfield 38, 3) := by decide +kernel
theorem dX0_work_23 : decode cX0_work 23 = .ok (.if_icmp .ge 50, 3) := by decide +kernel
theorem dX0_work_26 : decode cX0_work 26 = .ok (.aload_n 1, 1) := by decide +kernel
theorem dX0_work_27 : decode cX0_work 27 = .ok (.getfield 43, 3) := by decide +kernel
theorem dX0_work_30 : decode cX0_work 30 = .ok (.iload_n 3, 1) := by decide +kernel
theorem dX0_work_31 : decode cX0_work 31 = .ok (.aaload, 1) := by decide +kernel
theorem dX0_work_32 : decode cX0_work 32 = .ok (.invokevirtual 47, 3) := by decide +kernel
theorem dX0_work_35 : decode cX0_work 35 = .ok (.ifCond .eq 12, 3) := by decide +kernel
theorem dX0_work_38 : decode cX0_work 38 = .ok (.aload_n 0, 1) := by decide +kernel
theorem dX0_work_39 : decode cX0_work 39 = .ok (.iload_n 3, 1) := by decide +kernel
theorem dX0_work_40 : decode cX0_work 40 = .ok (.iconst 0, 1) := by decide +kernel
theorem dX0_work_41 : decode cX0_work 41 = .ok (.invokevirtual 53, 3) := by decide +kernel
theorem dX0_work_44 : decode cX0_work 44 = .ok (.goto 4, 3) := by decide +kernel
theorem dX0_work_47 : decode cX0_work 47 = .ok (.iconst 0, 1) := by decide +kernel
theorem dX0_work_48 : decode cX0_work 48 = .ok (.istore 4, 2) := by decide +kernel
theorem dX0_work_50 : decode cX0_work 50 = .ok (.iload 4, 2) := by decide +kernel
theorem dX0_work_52 : decode cX0_work 52 = .ok (.aload_n 0, 1) := by decide +kernel
theorem dX0_work_53 : decode cX0_work 53 = .ok (.getfield 27, 3) := by decide +kernel
theorem dX0_work_56 : decode cX0_work 56 = .ok (.if_icmp .le 11, 3) := by decide +kernel
theorem dX0_work_59 : decode cX0_work 59 = .ok (.aload_n 0, 1) := by decide +kernel
theorem dX0_work_60 : decode cX0_work 60 = .ok (.iload 4, 2) := by decide +kernel
theorem dX0_work_62 : decode cX0_work 62 = .ok (.putfield 27, 3) := by decide +kernel
theorem dX0_work_65 : decode cX0_work 65 = .ok (.iload_n 3, 1) := by decide +kernel
theorem dX0_work_66 : decode cX0_work 66 = .ok (.istore_n 2, 1) := by decide +kernel
theorem dX0_work_67 : decode cX0_work 67 = .ok (.iinc 3 1, 3) := by decide +kernel
theorem dX0_work_70 : decode cX0_work 70 = .ok (.goto (-52), 3) := by decide +kernel
theorem dX0_work_73 : decode cX0_work 73 = .ok (.aload_n 0, 1) := by decide +kernel
theorem dX0_work_74 : decode cX0_work 74 = .ok (.iload_n 2, 1) := by decide +kernel
theorem dX0_work_75 : decode cX0_work 75 = .ok (.invokevirtual 57, 3) := by decide +kernel
theorem dX0_work_78 : decode cX0_work 78 = .ok (.return_, 1) := by decide +kernel
theorem dX0_look_0 : decode cX0_look 0 = .ok (.aload_n 0, 1) := by decide +kernel
theorem dX0_look_1 : decode cX0_look 1 = .ok (.aload_n 1, 1) := by decide +kernel
theorem dX0_look_2 : decode cX0_look 2 = .ok (.getfield 61, 3) := by decide +kernel
theorem dX0_look_5 : decode cX0_look 5 = .ok (.putfield 64, 3) := by decide +kernel
theorem dX0_look_8 : decode cX0_look 8 = .ok (.iconst 0, 1) := by decide +kernel
theorem dX0_look_9 : decode cX0_look 9 = .ok (.istore_n 2, 1) := by decide +kernel
theorem dX0_look_10 : decode cX0_look 10 = .ok (.iload_n 2, 1) := by decide +kernel
theorem dX0_look_11 : decode cX0_look 11 = .ok (.aload_n 0, 1) := by decide +kernel
theorem dX0_look_12 : decode cX0_look 12 = .ok (.getfield 64, 3) := by decide +kernel
theorem dX0_look_15 : decode cX0_look 15 = .ok (.if_icmp .ge 50, 3) := by decide +kernel
theorem dX0_look_18 : decode cX0_look 18 = .ok (.aload_n 1, 1) := by decide +kernel
theorem dX0_look_19 : decode cX0_look 19 = .ok (.getfield 65, 3) := by decide +kernel
theorem dX0_look_22 : decode cX0_look 22 = .ok (.iload_n 2, 1) := by decide +kernel
theorem dX0_look_23 : decode cX0_look 23 = .ok (.aaload, 1) := by decide +kernel
theorem dX0_look_24 : decode cX0_look 24 = .ok (.astore_n 3, 1) := by decide +kernel
theorem dX0_look_25 : decode cX0_look 25 = .ok (.aload_n 0, 1) := by decide +kernel
theorem dX0_look_26 : decode cX0_look 26 = .ok (.getfield 9, 3) := by decide +kernel
theorem dX0_look_29 : decode cX0_look 29 = .ok (.iload_n 2, 1) := by decide +kernel
theorem dX0_look_30 : decode cX0_look 30 = .ok (.aload_n 3, 1) := by decide +kernel
theorem dX0_look_31 : decode cX0_look 31 = .ok (.invokevirtual 69, 3) := by decide +kernel
theorem dX0_look_34 : decode cX0_look 34 = .ok (.ifCond .eq 13, 3) := by decide +kernel
theorem dX0_look_37 : decode cX0_look 37 = .ok (.aload_n 1, 1) := by decide +kernel
theorem dX0_look_38 : decode cX0_look 38 = .ok (.aload_n 3, 1) := by decide +kernel
theorem dX0_look_39 : decode cX0_look 39 = .ok (.iconst 0, 1) := by decide +kernel
theorem dX0_look_40 : decode cX0_look 40 = .ok (.iconst 1, 1) := by decide +kernel
theorem dX0_look_41 : decode cX0_look 41 = .ok (.invokevirtual 74, 3) := by decide +kernel
theorem dX0_look_44 : decode cX0_look 44 = .ok (.goto 4, 3) := by decide +kernel
theorem dX0_look_47 : decode cX0_look 47 = .ok (.iconst 0, 1) := by decide +kernel
theorem dX0_look_48 : decode cX0_look 48 = .ok (.iastore, 1) := by decide +kernel
theorem dX0_look_49 : decode cX0_look 49 = .ok (.aload_n 0, 1) := by decide +kernel
theorem dX0_look_50 : decode cX0_look 50 = .ok (.getfield 15, 3) := by decide +kernel
theorem dX0_look_53 : decode cX0_look 53 = .ok (.iload_n 2, 1) := by decide +kernel
theorem dX0_look_54 : decode cX0_look 54 = .ok (.aload_n 3, 1) := by decide +kernel
theorem dX0_look_55 : decode cX0_look 55 = .ok (.getfield 78, 3) := by decide +kernel
theorem dX0_look_58 : decode cX0_look 58 = .ok (.iastore, 1) := by decide +kernel
theorem dX0_look_59 : decode cX0_look 59 = .ok (.iinc 2 1, 3) := by decide +kernel
theorem dX0_look_62 : decode cX0_look 62 = .ok (.goto (-52), 3) := by decide +kernel
theorem dX0_look_65 : decode cX0_look 65 = .ok (.return_, 1) := by decide +kernel
theorem dX0_fillFollow_0 : decode cX0_fillFollow 0 = .ok (.iconst 1, 1) := by decide +kernel
theorem dX0_fillFollow_1 : decode cX0_fillFollow 1 = .ok (.aload_n 0, 1) := by decide +kernel
theorem dX0_fillFollow_2 : decode cX0_fillFollow 2 = .ok (.getfield 64, 3) := by decide +kernel
theorem dX0_fillFollow_5 : decode cX0_fillFollow 5 = .ok (.ishl, 1) := by decide +kernel
theorem dX0_fillFollow_6 : decode cX0_fillFollow 6 = .ok (.iconst 1, 1) := by decide +kernel
theorem dX0_fillFollow_7 : decode cX0_fillFollow 7 = .ok (.isub, 1) := by decide +kernel
theorem dX0_fillFollow_8 : decode cX0_fillFollow 8 = .ok (.istore_n 1, 1) := by decide +kernel
theorem dX0_fillFollow_9 : decode cX0_fillFollow 9 = .ok (.iload_n 1, 1) := by decide +kernel
theorem dX0_fillFollow_10 : decode cX0_fillFollow 10 = .ok (.ifCond .le 55, 3) := by decide +kernel
theorem dX0_fillFollow_13 : decode cX0_fillFollow 13 = .ok (.iconst 0, 1) := by decide +kernel
theorem dX0_fillFollow_14 : decode cX0_fillFollow 14 = .ok (.istore_n 2, 1) := by decide +kernel
theorem dX0_fillFollow_15 : decode cX0_fillFollow 15 = .ok (.iload_n 2, 1) := by decide +kernel
theorem dX0_fillFollow_16 : decode cX0_fillFollow 16 = .ok (.aload_n 0, 1) := by decide +kernel
theorem dX0_fillFollow_17 : decode cX0_fillFollow 17 = .ok (.getfield 64, 3) := by decide +kernel
theorem dX0_fillFollow_20 : decode cX0_fillFollow 20 = .ok (.if_icmp .ge 39, 3) := by decide +kernel
theorem dX0_fillFollow_23 : decode cX0_fillFollow 23 = .ok (.iload_n 1, 1) := by decide +kernel
theorem dX0_fillFollow_24 : decode cX0_fillFollow 24 = .ok (.iconst 1, 1) := by decide +kernel
theorem dX0_fillFollow_25 : decode cX0_fillFollow 25 = .ok (.iload_n 2, 1) := by decide +kernel
theorem dX0_fillFollow_26 : decode cX0_fillFollow 26 = .ok (.ishl, 1) := by decide +kernel
theorem dX0_fillFollow_27 : decode cX0_fillFollow 27 = .ok (.iand, 1) := by decide +kernel
theorem dX0_fillFollow_28 : decode cX0_fillFollow 28 = .ok (.ifCond .eq 25, 3) := by decide +kernel
theorem dX0_fillFollow_31 : decode cX0_fillFollow 31 = .ok (.aload_n 0, 1) := by decide +kernel
theorem dX0_fillFollow_32 : decode cX0_fillFollow 32 = .ok (.getfield 18, 3) := by decide +kernel
theorem dX0_fillFollow_35 : decode cX0_fillFollow 35 = .ok (.iload_n 1, 1) := by decide +kernel
theorem dX0_fillFollow_36 : decode cX0_fillFollow 36 = .ok (.bipush 8, 2) := by decide +kernel
theorem dX0_fillFollow_38 : decode cX0_fillFollow 38 = .ok (.imul, 1) := by decide +kernel
theorem dX0_fillFollow_39 : decode cX0_fillFollow 39 = .ok (.iload_n 2, 1) := by decide +kernel
theorem dX0_fillFollow_40 : decode cX0_fillFollow 40 = .ok (.iadd, 1) := by decide +kernel
theorem dX0_fillFollow_41 : decode cX0_fillFollow 41 = .ok (.aload_n 0, 1) := by decide +kernel
theorem dX0_fillFollow_42 : decode cX0_fillFollow 42 = .ok (.aload_n 0, 1) := by decide +kernel
theorem dX0_fillFollow_43 : decode cX0_fillFollow 43 = .ok (.getfield 15, 3) := by decide +kernel
theorem dX0_fillFollow_46 : decode cX0_fillFollow 46 = .ok (.iload_n 2, 1) := by decide +kernel
theorem dX0_fillFollow_47 : decode cX0_fillFollow 47 = .ok (.iaload, 1) := by decide +kernel
theorem dX0_fillFollow_48 : decode cX0_fillFollow 48 = .ok (.iload_n 1, 1) := by decide +kernel
theorem dX0_fillFollow_49 : decode cX0_fillFollow 49 = .ok (.invokevirtual 53, 3) := by decide +kernel
theorem dX0_fillFollow_52 : decode cX0_fillFollow 52 = .ok (.iastore, 1) := by decide +kernel
theorem dX0_fillFollow_53 : decode cX0_fillFollow 53 = .ok (.iinc 2 1, 3) := by decide +kernel
theorem dX0_fillFollow_56 : decode cX0_fillFollow 56 = .ok (.goto (-41), 3) := by decide +kernel
theorem dX0_fillFollow_59 : decode cX0_fillFollow 59 = .ok (.iinc 1 (-1), 3) := by decide +kernel
theorem dX0_fillFollow_62 : decode cX0_fillFollow 62 = .ok (.goto (-53), 3) := by decide +kernel
theorem dX0_fillFollow_65 : decode cX0_fillFollow 65 = .ok (.return_, 1) := by decide +kernel
theorem dX0_longestFrom_0 : decode cX0_longestFrom 0 = .ok (.iconst 0, 1) := by decide +kernel
theorem dX0_longestFrom_1 : decode cX0_longestFrom 1 = .ok (.istore_n 3, 1) := by decide +kernel
theorem dX0_longestFrom_2 : decode cX0_longestFrom 2 = .ok (.iconst 0, 1) := by decide +kernel
theorem dX0_longestFrom_3 : decode cX0_longestFrom 3 = .ok (.istore 4, 2) := by decide +kernel
theorem dX0_longestFrom_5 : decode cX0_longestFrom 5 = .ok (.iload 4, 2) := by decide +kernel
theorem dX0_longestFrom_7 : decode cX0_longestFrom 7 = .ok (.aload_n 0, 1) := by decide +kernel
theorem dX0_longestFrom_8 : decode cX0_longestFrom 8 = .ok (.getfield 64, 3) := by decide +kernel
theorem dX0_longestFrom_11 : decode cX0_longestFrom 11 = .ok (.if_icmp .ge 27, 3) := by decide +kernel
theorem dX0_longestFrom_14 : decode cX0_longestFrom 14 = .ok (.iload_n 1, 1) := by decide +kernel
theorem dX0_longestFrom_15 : decode cX0_longestFrom 15 = .ok (.iconst (-1), 1) := by decide +kernel
theorem dX0_longestFrom_16 : decode cX0_longestFrom 16 = .ok (.if_icmp .eq 22, 3) := by decide +kernel
theorem dX0_longestFrom_19 : decode cX0_longestFrom 19 = .ok (.iload_n 3, 1) := by decide +kernel
theorem dX0_longestFrom_20 : decode cX0_longestFrom 20 = .ok (.aload_n 0, 1) := by decide +kernel
theorem dX0_longestFrom_21 : decode cX0_longestFrom 21 = .ok (.iload 4, 2) := by decide +kernel
theorem dX0_longestFrom_23 : decode cX0_longestFrom 23 = .ok (.iload_n 1, 1) := by decide +kernel
theorem dX0_longestFrom_24 : decode cX0_longestFrom 24 = .ok (.iload_n 2, 1) := by decide +kernel
theorem dX0_longestFrom_25 : decode cX0_longestFrom 25 = .ok (.invokevirtual 81, 3) := by decide +kernel
theorem dX0_longestFrom_28 : decode cX0_longestFrom 28 = .ok (.invokestatic 85, 3) := by decide +kernel
theorem dX0_longestFrom_31 : decode cX0_longestFrom 31 = .ok (.istore_n 3, 1) := by decide +kernel
theorem dX0_longestFrom_32 : decode cX0_longestFrom 32 = .ok (.iinc 4 1, 3) := by decide +kernel
theorem dX0_longestFrom_35 : decode cX0_longestFrom 35 = .ok (.goto (-30), 3) := by decide +kernel
theorem dX0_longestFrom_38 : decode cX0_longestFrom 38 = .ok (.iload_n 3, 1) := by decide +kernel
theorem dX0_longestFrom_39 : decode cX0_longestFrom 39 = .ok (.ireturn, 1) := by decide +kernel
theorem dX0_movesBy_0 : decode cX0_movesBy 0 = .ok (.iconst 1, 1) := by decide +kernel
theorem dX0_movesBy_1 : decode cX0_movesBy 1 = .ok (.iload_n 1, 1) := by decide +kernel
theorem dX0_movesBy_2 : decode cX0_movesBy 2 = .ok (.ishl, 1) := by decide +kernel
theorem dX0_movesBy_3 : decode cX0_movesBy 3 = .ok (.istore 4, 2) := by decide +kernel
theorem dX0_movesBy_5 : decode cX0_movesBy 5 = .ok (.iload_n 3, 1) := by decide +kernel
theorem dX0_movesBy_6 : decode cX0_movesBy 6 = .ok (.iload 4, 2) := by decide +kernel
theorem dX0_movesBy_8 : decode cX0_movesBy 8 = .ok (.iand, 1) := by decide +kernel
theorem dX0_movesBy_9 : decode cX0_movesBy 9 = .ok (.ifCond .ne 16, 3) := by decide +kernel
theorem dX0_movesBy_12 : decode cX0_movesBy 12 = .ok (.aload_n 0, 1) := by decide +kernel
theorem dX0_movesBy_13 : decode cX0_movesBy 13 = .ok (.getfield 9, 3) := by decide +kernel
theorem dX0_movesBy_16 : decode cX0_movesBy 16 = .ok (.iload_n 1, 1) := by decide +kernel
theorem dX0_movesBy_17 : decode cX0_movesBy 17 = .ok (.iaload, 1) := by decide +kernel
theorem dX0_movesBy_18 : decode cX0_movesBy 18 = .ok (.iconst 1, 1) := by decide +kernel
theorem dX0_movesBy_19 : decode cX0_movesBy 19 = .ok (.iload_n 2, 1) := by decide +kernel
theorem dX0_movesBy_20 : decode cX0_movesBy 20 = .ok (.ishl, 1) := by decide +kernel
theorem dX0_movesBy_21 : decode cX0_movesBy 21 = .ok (.iand, 1) := by decide +kernel
theorem dX0_movesBy_22 : decode cX0_movesBy 22 = .ok (.ifCond .ne 5, 3) := by decide +kernel
theorem dX0_movesBy_25 : decode cX0_movesBy 25 = .ok (.iconst 0, 1) := by decide +kernel
theorem dX0_movesBy_26 : decode cX0_movesBy 26 = .ok (.ireturn, 1) := by decide +kernel
theorem dX0_movesBy_27 : decode cX0_movesBy 27 = .ok (.iconst 1, 1) := by decide +kernel
theorem dX0_movesBy_28 : decode cX0_movesBy 28 = .ok (.aload_n 0, 1) := by decide +kernel
theorem dX0_movesBy_29 : decode cX0_movesBy 29 = .ok (.getfield 18, 3) := by decide +kernel
theorem dX0_movesBy_32 : decode cX0_movesBy 32 = .ok (.iload_n 3, 1) := by decide +kernel
theorem dX0_movesBy_33 : decode cX0_movesBy 33 = .ok (.iload 4, 2) := by decide +kernel
theorem dX0_movesBy_35 : decode cX0_movesBy 35 = .ok (.ior, 1) := by decide +kernel
theorem dX0_movesBy_36 : decode cX0_movesBy 36 = .ok (.bipush 8, 2) := by decide +kernel
theorem dX0_movesBy_38 : decode cX0_movesBy 38 = .ok (.imul, 1) := by decide +kernel
theorem dX0_movesBy_39 : decode cX0_movesBy 39 = .ok (.iload_n 1, 1) := by decide +kernel
theorem dX0_movesBy_40 : decode cX0_movesBy 40 = .ok (.iadd, 1) := by decide +kernel
theorem dX0_movesBy_41 : decode cX0_movesBy 41 = .ok (.iaload, 1) := by decide +kernel
theorem dX0_movesBy_42 : decode cX0_movesBy 42 = .ok (.iadd, 1) := by decide +kernel
theorem dX0_movesBy_43 : decode cX0_movesBy 43 = .ok (.ireturn, 1) := by decide +kernel
theorem dX0_noteRow_0 : decode cX0_noteRow 0 = .ok (.iload_n 1, 1) := by decide +kernel
theorem dX0_noteRow_1 : decode cX0_noteRow 1 = .ok (.istore_n 2, 1) := by decide +kernel
theorem dX0_noteRow_2 : decode cX0_noteRow 2 = .ok (.iconst 0, 1) := by decide +kernel
theorem dX0_noteRow_3 : decode cX0_noteRow 3 = .ok (.istore_n 3, 1) := by decide +kernel
theorem dX0_noteRow_4 : decode cX0_noteRow 4 = .ok (.iconst 0, 1) := by decide +kernel
theorem dX0_noteRow_5 : decode cX0_noteRow 5 = .ok (.istore 4, 2) := by decide +kernel
theorem dX0_noteRow_7 : decode cX0_noteRow 7 = .ok (.iload 4, 2) := by decide +kernel
theorem dX0_noteRow_9 : decode cX0_noteRow 9 = .ok (.aload_n 0, 1) := by decide +kernel
theorem dX0_noteRow_10 : decode cX0_noteRow 10 = .ok (.getfield 27, 3) := by decide +kernel
theorem dX0_noteRow_13 : decode cX0_noteRow 13 = .ok (.if_icmp .ge 70, 3) := by decide +kernel
theorem dX0_noteRow_16 : decode cX0_noteRow 16 = .ok (.iload 4, 2) := by decide +kernel
theorem dX0_noteRow_18 : decode cX0_noteRow 18 = .ok (.bipush 8, 2) := by decide +kernel
theorem dX0_noteRow_20 : decode cX0_noteRow 20 = .ok (.if_icmp .ge 63, 3) := by decide +kernel
theorem dX0_noteRow_23 : decode cX0_noteRow 23 = .ok (.aload_n 0, 1) := by decide +kernel
theorem dX0_noteRow_24 : decode cX0_noteRow 24 = .ok (.iload_n 2, 1) := by decide +kernel
theorem dX0_noteRow_25 : decode cX0_noteRow 25 = .ok (.iload_n 3, 1) := by decide +kernel
theorem dX0_noteRow_26 : decode cX0_noteRow 26 = .ok (.aload_n 0, 1) := by decide +kernel
theorem dX0_noteRow_27 : decode cX0_noteRow 27 = .ok (.getfield 27, 3) := by decide +kernel
theorem dX0_noteRow_30 : decode cX0_noteRow 30 = .ok (.iload 4, 2) := by decide +kernel
theorem dX0_noteRow_32 : decode cX0_noteRow 32 = .ok (.isub, 1) := by decide +kernel
theorem dX0_noteRow_33 : decode cX0_noteRow 33 = .ok (.invokevirtual 90, 3) := by decide +kernel
theorem dX0_noteRow_36 : decode cX0_noteRow 36 = .ok (.istore 5, 2) := by decide +kernel
theorem dX0_noteRow_38 : decode cX0_noteRow 38 = .ok (.iload 5, 2) := by decide +kernel
theorem dX0_noteRow_40 : decode cX0_noteRow 40 = .ok (.iconst (-1), 1) := by decide +kernel
theorem dX0_noteRow_41 : decode cX0_noteRow 41 = .ok (.if_icmp .ne 4, 3) := by decide +kernel
theorem dX0_noteRow_44 : decode cX0_noteRow 44 = .ok (.return_, 1) := by decide +kernel
theorem dX0_noteRow_45 : decode cX0_noteRow 45 = .ok (.aload_n 0, 1) := by decide +kernel
theorem dX0_noteRow_46 : decode cX0_noteRow 46 = .ok (.getfield 21, 3) := by decide +kernel
theorem dX0_noteRow_49 : decode cX0_noteRow 49 = .ok (.iload 4, 2) := by decide +kernel
theorem dX0_noteRow_51 : decode cX0_noteRow 51 = .ok (.iload 5, 2) := by decide +kernel
theorem dX0_noteRow_53 : decode cX0_noteRow 53 = .ok (.iastore, 1) := by decide +kernel
theorem dX0_noteRow_54 : decode cX0_noteRow 54 = .ok (.aload_n 0, 1) := by decide +kernel
theorem dX0_noteRow_55 : decode cX0_noteRow 55 = .ok (.getfield 24, 3) := by decide +kernel
theorem dX0_noteRow_58 : decode cX0_noteRow 58 = .ok (.iload 4, 2) := by decide +kernel
theorem dX0_noteRow_60 : decode cX0_noteRow 60 = .ok (.iload_n 2, 1) := by decide +kernel
theorem dX0_noteRow_61 : decode cX0_noteRow 61 = .ok (.iastore, 1) := by decide +kernel
theorem dX0_noteRow_62 : decode cX0_noteRow 62 = .ok (.iload_n 3, 1) := by decide +kernel
theorem dX0_noteRow_63 : decode cX0_noteRow 63 = .ok (.iconst 1, 1) := by decide +kernel
theorem dX0_noteRow_64 : decode cX0_noteRow 64 = .ok (.iload 5, 2) := by decide +kernel
theorem dX0_noteRow_66 : decode cX0_noteRow 66 = .ok (.ishl, 1) := by decide +kernel
theorem dX0_noteRow_67 : decode cX0_noteRow 67 = .ok (.ior, 1) := by decide +kernel
theorem dX0_noteRow_68 : decode cX0_noteRow 68 = .ok (.istore_n 3, 1) := by decide +kernel
theorem dX0_noteRow_69 : decode cX0_noteRow 69 = .ok (.aload_n 0, 1) := by decide +kernel
theorem dX0_noteRow_70 : decode cX0_noteRow 70 = .ok (.getfield 15, 3) := by decide +kernel
theorem dX0_noteRow_73 : decode cX0_noteRow 73 = .ok (.iload 5, 2) := by decide +kernel
theorem dX0_noteRow_75 : decode cX0_noteRow 75 = .ok (.iaload, 1) := by decide +kernel
theorem dX0_noteRow_76 : decode cX0_noteRow 76 = .ok (.istore_n 2, 1) := by decide +kernel
theorem dX0_noteRow_77 : decode cX0_noteRow 77 = .ok (.iinc 4 1, 3) := by decide +kernel
theorem dX0_noteRow_80 : decode cX0_noteRow 80 = .ok (.goto (-73), 3) := by decide +kernel
theorem dX0_noteRow_83 : decode cX0_noteRow 83 = .ok (.return_, 1) := by decide +kernel
theorem dX0_moverFor_0 : decode cX0_moverFor 0 = .ok (.iconst 0, 1) := by decide +kernel
theorem dX0_moverFor_1 : decode cX0_moverFor 1 = .ok (.istore 4, 2) := by decide +kernel
theorem dX0_moverFor_3 : decode cX0_moverFor 3 = .ok (.iload 4, 2) := by decide +kernel
theorem dX0_moverFor_5 : decode cX0_moverFor 5 = .ok (.aload_n 0, 1) := by decide +kernel
theorem dX0_moverFor_6 : decode cX0_moverFor 6 = .ok (.getfield 64, 3) := by decide +kernel
theorem dX0_moverFor_9 : decode cX0_moverFor 9 = .ok (.if_icmp .ge 29, 3) := by decide +kernel
theorem dX0_moverFor_12 : decode cX0_moverFor 12 = .ok (.iload_n 1, 1) := by decide +kernel
theorem dX0_moverFor_13 : decode cX0_moverFor 13 = .ok (.iconst (-1), 1) := by decide +kernel
theorem dX0_moverFor_14 : decode cX0_moverFor 14 = .ok (.if_icmp .eq 24, 3) := by decide +kernel
theorem dX0_moverFor_17 : decode cX0_moverFor 17 = .ok (.aload_n 0, 1) := by decide +kernel
theorem dX0_moverFor_18 : decode cX0_moverFor 18 = .ok (.iload 4, 2) := by decide +kernel
theorem dX0_moverFor_20 : decode cX0_moverFor 20 = .ok (.iload_n 1, 1) := by decide +kernel
theorem dX0_moverFor_21 : decode cX0_moverFor 21 = .ok (.iload_n 2, 1) := by decide +kernel
theorem dX0_moverFor_22 : decode cX0_moverFor 22 = .ok (.invokevirtual 81, 3) := by decide +kernel
theorem dX0_moverFor_25 : decode cX0_moverFor 25 = .ok (.iload_n 3, 1) := by decide +kernel
theorem dX0_moverFor_26 : decode cX0_moverFor 26 = .ok (.if_icmp .ne 6, 3) := by decide +kernel
theorem dX0_moverFor_29 : decode cX0_moverFor 29 = .ok (.iload 4, 2) := by decide +kernel
theorem dX0_moverFor_31 : decode cX0_moverFor 31 = .ok (.ireturn, 1) := by decide +kernel
theorem dX0_moverFor_32 : decode cX0_moverFor 32 = .ok (.iinc 4 1, 3) := by decide +kernel
theorem dX0_moverFor_35 : decode cX0_moverFor 35 = .ok (.goto (-32), 3) := by decide +kernel
theorem dX0_moverFor_38 : decode cX0_moverFor 38 = .ok (.iconst (-1), 1) := by decide +kernel
theorem dX0_moverFor_39 : decode cX0_moverFor 39 = .ok (.ireturn, 1) := by decide +kernel
theorem dX1_init_0 : decode cX1_init 0 = .ok (.aload_n 0, 1) := by decide +kernel
theorem dX1_init_1 : decode cX1_init 1 = .ok (.invokespecial 3, 3) := by decide +kernel
theorem dX1_init_4 : decode cX1_init 4 = .ok (.aload_n 0, 1) := by decide +kernel
theorem dX1_init_5 : decode cX1_init 5 = .ok (.bipush 12, 2) := by decide +kernel
theorem dX1_init_7 : decode cX1_init 7 = .ok (.anewarray 9, 3) := by decide +kernel
theorem dX1_init_10 : decode cX1_init 10 = .ok (.putfield 11, 3) := by decide +kernel
theorem dX1_init_13 : decode cX1_init 13 = .ok (.iconst 0, 1) := by decide +kernel
theorem dX1_init_14 : decode cX1_init 14 = .ok (.istore_n 1, 1) := by decide +kernel
theorem dX1_init_15 : decode cX1_init 15 = .ok (.iload_n 1, 1) := by decide +kernel
theorem dX1_init_16 : decode cX1_init 16 = .ok (.bipush 12, 2) := by decide +kernel
theorem dX1_init_18 : decode cX1_init 18 = .ok (.if_icmp .ge 22, 3) := by decide +kernel
theorem dX1_init_21 : decode cX1_init 21 = .ok (.aload_n 0, 1) := by decide +kernel
theorem dX1_init_22 : decode cX1_init 22 = .ok (.getfield 11, 3) := by decide +kernel
theorem dX1_init_25 : decode cX1_init 25 = .ok (.iload_n 1, 1) := by decide +kernel
theorem dX1_init_26 : decode cX1_init 26 = .ok (.new 9, 3) := by decide +kernel
theorem dX1_init_29 : decode cX1_init 29 = .ok (.dup, 1) := by decide +kernel
theorem dX1_init_30 : decode cX1_init 30 = .ok (.invokespecial 17, 3) := by decide +kernel
theorem dX1_init_33 : decode cX1_init 33 = .ok (.aastore, 1) := by decide +kernel
theorem dX1_init_34 : decode cX1_init 34 = .ok (.iinc 1 1, 3) := by decide +kernel
theorem dX1_init_37 : decode cX1_init 37 = .ok (.goto (-22), 3) := by decide +kernel
theorem dX1_init_40 : decode cX1_init 40 = .ok (.aload_n 0, 1) := by decide +kernel
theorem dX1_init_41 : decode cX1_init 41 = .ok (.iconst 0, 1) := by decide +kernel
theorem dX1_init_42 : decode cX1_init 42 = .ok (.putfield 18, 3) := by decide +kernel
theorem dX1_init_45 : decode cX1_init 45 = .ok (.aload_n 0, 1) := by decide +kernel
theorem dX1_init_46 : decode cX1_init 46 = .ok (.iconst 0, 1) := by decide +kernel
theorem dX1_init_47 : decode cX1_init 47 = .ok (.putfield 22, 3) := by decide +kernel
theorem dX1_init_50 : decode cX1_init 50 = .ok (.return_, 1) := by decide +kernel
theorem dX1_keep_0 : decode cX1_keep 0 = .ok (.aload_n 0, 1) := by decide +kernel
theorem dX1_keep_1 : decode cX1_keep 1 = .ok (.getfield 11, 3) := by decide +kernel
theorem dX1_keep_4 : decode cX1_keep 4 = .ok (.aload_n 0, 1) := by decide +kernel
theorem dX1_keep_5 : decode cX1_keep 5 = .ok (.getfield 18, 3) := by decide +kernel
theorem dX1_keep_8 : decode cX1_keep 8 = .ok (.aaload, 1) := by decide +kernel
theorem dX1_keep_9 : decode cX1_keep 9 = .ok (.aload_n 1, 1) := by decide +kernel
theorem dX1_keep_10 : decode cX1_keep 10 = .ok (.invokevirtual 25, 3) := by decide +kernel
theorem dX1_keep_13 : decode cX1_keep 13 = .ok (.aload_n 0, 1) := by decide +kernel
theorem dX1_keep_14 : decode cX1_keep 14 = .ok (.aload_n 0, 1) := by decide +kernel
theorem dX1_keep_15 : decode cX1_keep 15 = .ok (.getfield 18, 3) := by decide +kernel
theorem dX1_keep_18 : decode cX1_keep 18 = .ok (.iconst 1, 1) := by decide +kernel
theorem dX1_keep_19 : decode cX1_keep 19 = .ok (.iadd, 1) := by decide +kernel
theorem dX1_keep_20 : decode cX1_keep 20 = .ok (.bipush 12, 2) := by decide +kernel
theorem dX1_keep_22 : decode cX1_keep 22 = .ok (.if_icmp .ge 12, 3) := by decide +kernel
theorem dX1_keep_25 : decode cX1_keep 25 = .ok (.aload_n 0, 1) := by decide +kernel
theorem dX1_keep_26 : decode cX1_keep 26 = .ok (.getfield 18, 3) := by decide +kernel
theorem dX1_keep_29 : decode cX1_keep 29 = .ok (.iconst 1, 1) := by decide +kernel
theorem dX1_keep_30 : decode cX1_keep 30 = .ok (.iadd, 1) := by decide +kernel
theorem dX1_keep_31 : decode cX1_keep 31 = .ok (.goto 4, 3) := by decide +kernel
theorem dX1_keep_34 : decode cX1_keep 34 = .ok (.iconst 0, 1) := by decide +kernel
theorem dX1_keep_35 : decode cX1_keep 35 = .ok (.putfield 18, 3) := by decide +kernel
theorem dX1_keep_38 : decode cX1_keep 38 = .ok (.aload_n 0, 1) := by decide +kernel
theorem dX1_keep_39 : decode cX1_keep 39 = .ok (.aload_n 0, 1) := by decide +kernel
theorem dX1_keep_40 : decode cX1_keep 40 = .ok (.getfield 22, 3) := by decide +kernel
theorem dX1_keep_43 : decode cX1_keep 43 = .ok (.iconst 1, 1) := by decide +kernel
theorem dX1_keep_44 : decode cX1_keep 44 = .ok (.iadd, 1) := by decide +kernel
theorem dX1_keep_45 : decode cX1_keep 45 = .ok (.bipush 12, 2) := by decide +kernel
theorem dX1_keep_47 : decode cX1_keep 47 = .ok (.invokestatic 29, 3) := by decide +kernel
theorem dX1_keep_50 : decode cX1_keep 50 = .ok (.putfield 22, 3) := by decide +kernel
theorem dX1_keep_53 : decode cX1_keep 53 = .ok (.return_, 1) := by decide +kernel
theorem dX1_goBack_0 : decode cX1_goBack 0 = .ok (.aload_n 0, 1) := by decide +kernel
theorem dX1_goBack_1 : decode cX1_goBack 1 = .ok (.getfield 22, 3) := by decide +kernel
theorem dX1_goBack_4 : decode cX1_goBack 4 = .ok (.ifCond .le 48, 3) := by decide +kernel
theorem dX1_goBack_7 : decode cX1_goBack 7 = .ok (.aload_n 0, 1) := by decide +kernel
theorem dX1_goBack_8 : decode cX1_goBack 8 = .ok (.aload_n 0, 1) := by decide +kernel
theorem dX1_goBack_9 : decode cX1_goBack 9 = .ok (.getfield 18, 3) := by decide +kernel
theorem dX1_goBack_12 : decode cX1_goBack 12 = .ok (.ifCond .le 12, 3) := by decide +kernel
theorem dX1_goBack_15 : decode cX1_goBack 15 = .ok (.aload_n 0, 1) := by decide +kernel
theorem dX1_goBack_16 : decode cX1_goBack 16 = .ok (.getfield 18, 3) := by decide +kernel
theorem dX1_goBack_19 : decode cX1_goBack 19 = .ok (.iconst 1, 1) := by decide +kernel
theorem dX1_goBack_20 : decode cX1_goBack 20 = .ok (.isub, 1) := by decide +kernel
theorem dX1_goBack_21 : decode cX1_goBack 21 = .ok (.goto 5, 3) := by decide +kernel
theorem dX1_goBack_24 : decode cX1_goBack 24 = .ok (.bipush 11, 2) := by decide +kernel
theorem dX1_goBack_26 : decode cX1_goBack 26 = .ok (.putfield 18, 3) := by decide +kernel
theorem dX1_goBack_29 : decode cX1_goBack 29 = .ok (.aload_n 0, 1) := by decide +kernel
theorem dX1_goBack_30 : decode cX1_goBack 30 = .ok (.dup, 1) := by decide +kernel
theorem dX1_goBack_31 : decode cX1_goBack 31 = .ok (.getfield 22, 3) := by decide +kernel
theorem dX1_goBack_34 : decode cX1_goBack 34 = .ok (.iconst 1, 1) := by decide +kernel
theorem dX1_goBack_35 : decode cX1_goBack 35 = .ok (.isub, 1) := by decide +kernel
theorem dX1_goBack_36 : decode cX1_goBack 36 = .ok (.putfield 22, 3) := by decide +kernel
theorem dX1_goBack_39 : decode cX1_goBack 39 = .ok (.aload_n 1, 1) := by decide +kernel
theorem dX1_goBack_40 : decode cX1_goBack 40 = .ok (.aload_n 0, 1) := by decide +kernel
theorem dX1_goBack_41 : decode cX1_goBack 41 = .ok (.getfield 11, 3) := by decide +kernel
theorem dX1_goBack_44 : decode cX1_goBack 44 = .ok (.aload_n 0, 1) := by decide +kernel
theorem dX1_goBack_45 : decode cX1_goBack 45 = .ok (.getfield 18, 3) := by decide +kernel
theorem dX1_goBack_48 : decode cX1_goBack 48 = .ok (.aaload, 1) := by decide +kernel
theorem dX1_goBack_49 : decode cX1_goBack 49 = .ok (.invokevirtual 25, 3) := by decide +kernel
theorem dX1_goBack_52 : decode cX1_goBack 52 = .ok (.return_, 1) := by decide +kernel
theorem dX2_init_0 : decode cX2_init 0 = .ok (.aload_n 0, 1) := by decide +kernel
theorem dX2_init_1 : decode cX2_init 1 = .ok (.invokespecial 3, 3) := by decide +kernel
theorem dX2_init_4 : decode cX2_init 4 = .ok (.aload_n 0, 1) := by decide +kernel
theorem dX2_init_5 : decode cX2_init 5 = .ok (.iload_n 1, 1) := by decide +kernel
theorem dX2_init_6 : decode cX2_init 6 = .ok (.putfield 9, 3) := by decide +kernel
theorem dX2_init_9 : decode cX2_init 9 = .ok (.aload_n 0, 1) := by decide +kernel
theorem dX2_init_10 : decode cX2_init 10 = .ok (.iconst 1, 1) := by decide +kernel
theorem dX2_init_11 : decode cX2_init 11 = .ok (.iload_n 1, 1) := by decide +kernel
theorem dX2_init_12 : decode cX2_init 12 = .ok (.ishl, 1) := by decide +kernel
theorem dX2_init_13 : decode cX2_init 13 = .ok (.putfield 15, 3) := by decide +kernel
theorem dX2_init_16 : decode cX2_init 16 = .ok (.aload_n 0, 1) := by decide +kernel
theorem dX2_init_17 : decode cX2_init 17 = .ok (.iconst (-1), 1) := by decide +kernel
theorem dX2_init_18 : decode cX2_init 18 = .ok (.putfield 18, 3) := by decide +kernel
theorem dX2_init_21 : decode cX2_init 21 = .ok (.return_, 1) := by decide +kernel
theorem dX2_isFree_0 : decode cX2_isFree 0 = .ok (.aload_n 0, 1) := by decide +kernel
theorem dX2_isFree_1 : decode cX2_isFree 1 = .ok (.getfield 18, 3) := by decide +kernel
theorem dX2_isFree_4 : decode cX2_isFree 4 = .ok (.iconst (-1), 1) := by decide +kernel
theorem dX2_isFree_5 : decode cX2_isFree 5 = .ok (.if_icmp .ne 21, 3) := by decide +kernel
theorem dX2_isFree_8 : decode cX2_isFree 8 = .ok (.aload_n 0, 1) := by decide +kernel
theorem dX2_isFree_9 : decode cX2_isFree 9 = .ok (.getfield 21, 3) := by decide +kernel
theorem dX2_isFree_12 : decode cX2_isFree 12 = .ok (.ifCond .ne 14, 3) := by decide +kernel
theorem dX2_isFree_15 : decode cX2_isFree 15 = .ok (.aload_n 0, 1) := by decide +kernel
theorem dX2_isFree_16 : decode cX2_isFree 16 = .ok (.getfield 25, 3) := by decide +kernel
theorem dX2_isFree_19 : decode cX2_isFree 19 = .ok (.ifCond .ne 7, 3) := by decide +kernel
theorem dX2_isFree_22 : decode cX2_isFree 22 = .ok (.iconst 1, 1) := by decide +kernel
theorem dX2_isFree_23 : decode cX2_isFree 23 = .ok (.goto 4, 3) := by decide +kernel
theorem dX2_isFree_26 : decode cX2_isFree 26 = .ok (.iconst 0, 1) := by decide +kernel
theorem dX2_isFree_27 : decode cX2_isFree 27 = .ok (.ireturn, 1) := by decide +kernel
theorem dX2_begin_0 : decode cX2_begin 0 = .ok (.aload_n 0, 1) := by decide +kernel
theorem dX2_begin_1 : decode cX2_begin 1 = .ok (.lload_n 1, 1) := by decide +kernel
theorem dX2_begin_2 : decode cX2_begin 2 = .ok (.putfield 28, 3) := by decide +kernel
theorem dX2_begin_5 : decode cX2_begin 5 = .ok (.aload_n 0, 1) := by decide +kernel
theorem dX2_begin_6 : decode cX2_begin 6 = .ok (.iconst 0, 1) := by decide +kernel
theorem dX2_begin_7 : decode cX2_begin 7 = .ok (.putfield 32, 3) := by decide +kernel
theorem dX2_begin_10 : decode cX2_begin 10 = .ok (.aload_n 0, 1) := by decide +kernel
theorem dX2_begin_11 : decode cX2_begin 11 = .ok (.iconst 0, 1) := by decide +kernel
theorem dX2_begin_12 : decode cX2_begin 12 = .ok (.putfield 35, 3) := by decide +kernel
theorem dX2_begin_15 : decode cX2_begin 15 = .ok (.aload_n 0, 1) := by decide +kernel
theorem dX2_begin_16 : decode cX2_begin 16 = .ok (.iconst (-1), 1) := by decide +kernel
theorem dX2_begin_17 : decode cX2_begin 17 = .ok (.putfield 18, 3) := by decide +kernel
theorem dX2_begin_20 : decode cX2_begin 20 = .ok (.aload_n 0, 1) := by decide +kernel
theorem dX2_begin_21 : decode cX2_begin 21 = .ok (.iconst 0, 1) := by decide +kernel
theorem dX2_begin_22 : decode cX2_begin 22 = .ok (.putfield 21, 3) := by decide +kernel
theorem dX2_begin_25 : decode cX2_begin 25 = .ok (.aload_n 0, 1) := by decide +kernel
theorem dX2_begin_26 : decode cX2_begin 26 = .ok (.iconst 0, 1) := by decide +kernel
theorem dX2_begin_27 : decode cX2_begin 27 = .ok (.putfield 25, 3) := by decide +kernel
theorem dX2_begin_30 : decode cX2_begin 30 = .ok (.aload_n 0, 1) := by decide +kernel
theorem dX2_begin_31 : decode cX2_begin 31 = .ok (.iconst 0, 1) := by decide +kernel
theorem dX2_begin_32 : decode cX2_begin 32 = .ok (.putfield 38, 3) := by decide +kernel
theorem dX2_begin_35 : decode cX2_begin 35 = .ok (.aload_n 0, 1) := by decide +kernel
theorem dX2_begin_36 : decode cX2_begin 36 = .ok (.iconst 0, 1) := by decide +kernel
theorem dX2_begin_37 : decode cX2_begin 37 = .ok (.putfield 41, 3) := by decide +kernel
theorem dX2_begin_40 : decode cX2_begin 40 = .ok (.aload_n 0, 1) := by decide +kernel
theorem dX2_begin_41 : decode cX2_begin 41 = .ok (.iconst 0, 1) := by decide +kernel
theorem dX2_begin_42 : decode cX2_begin 42 = .ok (.putfield 44, 3) := by decide +kernel
theorem dX2_begin_45 : decode cX2_begin 45 = .ok (.return_, 1) := by decide +kernel
theorem dX2_copy_0 : decode cX2_copy 0 = .ok (.aload_n 0, 1) := by decide +kernel
theorem dX2_copy_1 : decode cX2_copy 1 = .ok (.aload_n 1, 1) := by decide +kernel
theorem dX2_copy_2 : decode cX2_copy 2 = .ok (.getfield 28, 3) := by decide +kernel
theorem dX2_copy_5 : decode cX2_copy 5 = .ok (.putfield 28, 3) := by decide +kernel
theorem dX2_copy_8 : decode cX2_copy 8 = .ok (.aload_n 0, 1) := by decide +kernel
theorem dX2_copy_9 : decode cX2_copy 9 = .ok (.aload_n 1, 1) := by decide +kernel
theorem dX2_copy_10 : decode cX2_copy 10 = .ok (.getfield 32, 3) := by decide +kernel
theorem dX2_copy_13 : decode cX2_copy 13 = .ok (.putfield 32, 3) := by decide +kernel
theorem dX2_copy_16 : decode cX2_copy 16 = .ok (.aload_n 0, 1) := by decide +kernel
theorem dX2_copy_17 : decode cX2_copy 17 = .ok (.aload_n 1, 1) := by decide +kernel
theorem dX2_copy_18 : decode cX2_copy 18 = .ok (.getfield 35, 3) := by decide +kernel
theorem dX2_copy_21 : decode cX2_copy 21 = .ok (.putfield 35, 3) := by decide +kernel
theorem dX2_copy_24 : decode cX2_copy 24 = .ok (.aload_n 0, 1) := by decide +kernel
theorem dX2_copy_25 : decode cX2_copy 25 = .ok (.aload_n 1, 1) := by decide +kernel
theorem dX2_copy_26 : decode cX2_copy 26 = .ok (.getfield 18, 3) := by decide +kernel
theorem dX2_copy_29 : decode cX2_copy 29 = .ok (.putfield 18, 3) := by decide +kernel
theorem dX2_copy_32 : decode cX2_copy 32 = .ok (.aload_n 0, 1) := by decide +kernel
theorem dX2_copy_33 : decode cX2_copy 33 = .ok (.aload_n 1, 1) := by decide +kernel
theorem dX2_copy_34 : decode cX2_copy 34 = .ok (.getfield 21, 3) := by decide +kernel
theorem dX2_copy_37 : decode cX2_copy 37 = .ok (.putfield 21, 3) := by decide +kernel
theorem dX2_copy_40 : decode cX2_copy 40 = .ok (.aload_n 0, 1) := by decide +kernel
theorem dX2_copy_41 : decode cX2_copy 41 = .ok (.aload_n 1, 1) := by decide +kernel
theorem dX2_copy_42 : decode cX2_copy 42 = .ok (.getfield 25, 3) := by decide +kernel
theorem dX2_copy_45 : decode cX2_copy 45 = .ok (.putfield 25, 3) := by decide +kernel
theorem dX2_copy_48 : decode cX2_copy 48 = .ok (.aload_n 0, 1) := by decide +kernel
theorem dX2_copy_49 : decode cX2_copy 49 = .ok (.aload_n 1, 1) := by decide +kernel
theorem dX2_copy_50 : decode cX2_copy 50 = .ok (.getfield 38, 3) := by decide +kernel
theorem dX2_copy_53 : decode cX2_copy 53 = .ok (.putfield 38, 3) := by decide +kernel
theorem dX2_copy_56 : decode cX2_copy 56 = .ok (.aload_n 0, 1) := by decide +kernel
theorem dX2_copy_57 : decode cX2_copy 57 = .ok (.aload_n 1, 1) := by decide +kernel
theorem dX2_copy_58 : decode cX2_copy 58 = .ok (.getfield 41, 3) := by decide +kernel
theorem dX2_copy_61 : decode cX2_copy 61 = .ok (.putfield 41, 3) := by decide +kernel
theorem dX2_copy_64 : decode cX2_copy 64 = .ok (.aload_n 0, 1) := by decide +kernel
theorem dX2_copy_65 : decode cX2_copy 65 = .ok (.aload_n 1, 1) := by decide +kernel
theorem dX2_copy_66 : decode cX2_copy 66 = .ok (.getfield 44, 3) := by decide +kernel
theorem dX2_copy_69 : decode cX2_copy 69 = .ok (.putfield 44, 3) := by decide +kernel
theorem dX2_copy_72 : decode cX2_copy 72 = .ok (.return_, 1) := by decide +kernel
theorem dX3_init_0 : decode cX3_init 0 = .ok (.aload_n 0, 1) := by decide +kernel
theorem dX3_init_1 : decode cX3_init 1 = .ok (.invokespecial 3, 3) := by decide +kernel
theorem dX3_init_4 : decode cX3_init 4 = .ok (.aload_n 0, 1) := by decide +kernel
theorem dX3_init_5 : decode cX3_init 5 = .ok (.iload_n 1, 1) := by decide +kernel
theorem dX3_init_6 : decode cX3_init 6 = .ok (.putfield 9, 3) := by decide +kernel
theorem dX3_init_9 : decode cX3_init 9 = .ok (.aload_n 0, 1) := by decide +kernel
theorem dX3_init_10 : decode cX3_init 10 = .ok (.iconst 1, 1) := by decide +kernel
theorem dX3_init_11 : decode cX3_init 11 = .ok (.iload_n 1, 1) := by decide +kernel
theorem dX3_init_12 : decode cX3_init 12 = .ok (.ishl, 1) := by decide +kernel
theorem dX3_init_13 : decode cX3_init 13 = .ok (.putfield 15, 3) := by decide +kernel
theorem dX3_init_16 : decode cX3_init 16 = .ok (.aload_n 0, 1) := by decide +kernel
theorem dX3_init_17 : decode cX3_init 17 = .ok (.bipush 6, 2) := by decide +kernel
theorem dX3_init_19 : decode cX3_init 19 = .ok (.newarray .int, 2) := by decide +kernel
theorem dX3_init_21 : decode cX3_init 21 = .ok (.putfield 18, 3) := by decide +kernel
theorem dX3_init_24 : decode cX3_init 24 = .ok (.aload_n 0, 1) := by decide +kernel
theorem dX3_init_25 : decode cX3_init 25 = .ok (.iconst (-1), 1) := by decide +kernel
theorem dX3_init_26 : decode cX3_init 26 = .ok (.putfield 22, 3) := by decide +kernel
theorem dX3_init_29 : decode cX3_init 29 = .ok (.return_, 1) := by decide +kernel
theorem dX3_isAble_0 : decode cX3_isAble 0 = .ok (.aload_n 0, 1) := by decide +kernel
theorem dX3_isAble_1 : decode cX3_isAble 1 = .ok (.getfield 25, 3) := by decide +kernel
theorem dX3_isAble_4 : decode cX3_isAble 4 = .ok (.ifCond .ne 14, 3) := by decide +kernel
theorem dX3_isAble_7 : decode cX3_isAble 7 = .ok (.aload_n 0, 1) := by decide +kernel
theorem dX3_isAble_8 : decode cX3_isAble 8 = .ok (.getfield 29, 3) := by decide +kernel
theorem dX3_isAble_11 : decode cX3_isAble 11 = .ok (.ifCond .ne 7, 3) := by decide +kernel
theorem dX3_isAble_14 : decode cX3_isAble 14 = .ok (.iconst 1, 1) := by decide +kernel
theorem dX3_isAble_15 : decode cX3_isAble 15 = .ok (.goto 4, 3) := by decide +kernel
theorem dX3_isAble_18 : decode cX3_isAble 18 = .ok (.iconst 0, 1) := by decide +kernel
theorem dX3_isAble_19 : decode cX3_isAble 19 = .ok (.ireturn, 1) := by decide +kernel
theorem dX3_suits_0 : decode cX3_suits 0 = .ok (.aload_n 1, 1) := by decide +kernel
theorem dX3_suits_1 : decode cX3_suits 1 = .ok (.getfield 32, 3) := by decide +kernel
theorem dX3_suits_4 : decode cX3_suits 4 = .ok (.aload_n 0, 1) := by decide +kernel
theorem dX3_suits_5 : decode cX3_suits 5 = .ok (.getfield 37, 3) := by decide +kernel
theorem dX3_suits_8 : decode cX3_suits 8 = .ok (.if_icmp .eq 16, 3) := by decide +kernel
theorem dX3_suits_11 : decode cX3_suits 11 = .ok (.aload_n 1, 1) := by decide +kernel
theorem dX3_suits_12 : decode cX3_suits 12 = .ok (.getfield 32, 3) := by decide +kernel
theorem dX3_suits_15 : decode cX3_suits 15 = .ok (.aload_n 0, 1) := by decide +kernel
theorem dX3_suits_16 : decode cX3_suits 16 = .ok (.getfield 37, 3) := by decide +kernel
theorem dX3_suits_19 : decode cX3_suits 19 = .ok (.iconst 1, 1) := by decide +kernel
theorem dX3_suits_20 : decode cX3_suits 20 = .ok (.iadd, 1) := by decide +kernel
theorem dX3_suits_21 : decode cX3_suits 21 = .ok (.if_icmp .ne 7, 3) := by decide +kernel
theorem dX3_suits_24 : decode cX3_suits 24 = .ok (.iconst 1, 1) := by decide +kernel
theorem dX3_suits_25 : decode cX3_suits 25 = .ok (.goto 4, 3) := by decide +kernel
theorem dX3_suits_28 : decode cX3_suits 28 = .ok (.iconst 0, 1) := by decide +kernel
theorem dX3_suits_29 : decode cX3_suits 29 = .ok (.ireturn, 1) := by decide +kernel
theorem dX3_countBids_0 : decode cX3_countBids 0 = .ok (.aload_n 0, 1) := by decide +kernel
theorem dX3_countBids_1 : decode cX3_countBids 1 = .ok (.getfield 40, 3) := by decide +kernel
theorem dX3_countBids_4 : decode cX3_countBids 4 = .ok (.invokestatic 43, 3) := by decide +kernel
theorem dX3_countBids_7 : decode cX3_countBids 7 = .ok (.ireturn, 1) := by decide +kernel
theorem dX3_bidsFor_0 : decode cX3_bidsFor 0 = .ok (.aload_n 0, 1) := by decide +kernel
theorem dX3_bidsFor_1 : decode cX3_bidsFor 1 = .ok (.getfield 40, 3) := by decide +kernel
theorem dX3_bidsFor_4 : decode cX3_bidsFor 4 = .ok (.aload_n 1, 1) := by decide +kernel
theorem dX3_bidsFor_5 : decode cX3_bidsFor 5 = .ok (.getfield 49, 3) := by decide +kernel
theorem dX3_bidsFor_8 : decode cX3_bidsFor 8 = .ok (.iand, 1) := by decide +kernel
theorem dX3_bidsFor_9 : decode cX3_bidsFor 9 = .ok (.ifCond .eq 7, 3) := by decide +kernel
theorem dX3_bidsFor_12 : decode cX3_bidsFor 12 = .ok (.iconst 1, 1) := by decide +kernel
theorem dX3_bidsFor_13 : decode cX3_bidsFor 13 = .ok (.goto 4, 3) := by decide +kernel
theorem dX3_bidsFor_16 : decode cX3_bidsFor 16 = .ok (.iconst 0, 1) := by decide +kernel
theorem dX3_bidsFor_17 : decode cX3_bidsFor 17 = .ok (.ireturn, 1) := by decide +kernel
theorem dX3_wishAt_0 : decode cX3_wishAt 0 = .ok (.iload_n 1, 1) := by decide +kernel
theorem dX3_wishAt_1 : decode cX3_wishAt 1 = .ok (.ifCond .lt 17, 3) := by decide +kernel
theorem dX3_wishAt_4 : decode cX3_wishAt 4 = .ok (.iload_n 1, 1) := by decide +kernel
theorem dX3_wishAt_5 : decode cX3_wishAt 5 = .ok (.aload_n 0, 1) := by decide +kernel
theorem dX3_wishAt_6 : decode cX3_wishAt 6 = .ok (.getfield 50, 3) := by decide +kernel
theorem dX3_wishAt_9 : decode cX3_wishAt 9 = .ok (.if_icmp .ge 9, 3) := by decide +kernel
theorem dX3_wishAt_12 : decode cX3_wishAt 12 = .ok (.iload_n 1, 1) := by decide +kernel
theorem dX3_wishAt_13 : decode cX3_wishAt 13 = .ok (.bipush 6, 2) := by decide +kernel
theorem dX3_wishAt_15 : decode cX3_wishAt 15 = .ok (.if_icmp .lt 7, 3) := by decide +kernel
theorem dX3_wishAt_18 : decode cX3_wishAt 18 = .ok (.iconst (-1), 1) := by decide +kernel
theorem dX3_wishAt_19 : decode cX3_wishAt 19 = .ok (.goto 9, 3) := by decide +kernel
theorem dX3_wishAt_22 : decode cX3_wishAt 22 = .ok (.aload_n 0, 1) := by decide +kernel
theorem dX3_wishAt_23 : decode cX3_wishAt 23 = .ok (.getfield 18, 3) := by decide +kernel
theorem dX3_wishAt_26 : decode cX3_wishAt 26 = .ok (.iload_n 1, 1) := by decide +kernel
theorem dX3_wishAt_27 : decode cX3_wishAt 27 = .ok (.iaload, 1) := by decide +kernel
theorem dX3_wishAt_28 : decode cX3_wishAt 28 = .ok (.ireturn, 1) := by decide +kernel
theorem dX3_rankOfWish_0 : decode cX3_rankOfWish 0 = .ok (.iconst 0, 1) := by decide +kernel
theorem dX3_rankOfWish_1 : decode cX3_rankOfWish 1 = .ok (.istore_n 2, 1) := by decide +kernel
theorem dX3_rankOfWish_2 : decode cX3_rankOfWish 2 = .ok (.iload_n 2, 1) := by decide +kernel
theorem dX3_rankOfWish_3 : decode cX3_rankOfWish 3 = .ok (.aload_n 0, 1) := by decide +kernel
theorem dX3_rankOfWish_4 : decode cX3_rankOfWish 4 = .ok (.getfield 50, 3) := by decide +kernel
theorem dX3_rankOfWish_7 : decode cX3_rankOfWish 7 = .ok (.if_icmp .ge 27, 3) := by decide +kernel
theorem dX3_rankOfWish_10 : decode cX3_rankOfWish 10 = .ok (.iload_n 2, 1) := by decide +kernel
theorem dX3_rankOfWish_11 : decode cX3_rankOfWish 11 = .ok (.bipush 6, 2) := by decide +kernel
theorem dX3_rankOfWish_13 : decode cX3_rankOfWish 13 = .ok (.if_icmp .ge 21, 3) := by decide +kernel
theorem dX3_rankOfWish_16 : decode cX3_rankOfWish 16 = .ok (.aload_n 0, 1) := by decide +kernel
theorem dX3_rankOfWish_17 : decode cX3_rankOfWish 17 = .ok (.getfield 18, 3) := by decide +kernel
theorem dX3_rankOfWish_20 : decode cX3_rankOfWish 20 = .ok (.iload_n 2, 1) := by decide +kernel
theorem dX3_rankOfWish_21 : decode cX3_rankOfWish 21 = .ok (.iaload, 1) := by decide +kernel
theorem dX3_rankOfWish_22 : decode cX3_rankOfWish 22 = .ok (.iload_n 1, 1) := by decide +kernel
theorem dX3_rankOfWish_23 : decode cX3_rankOfWish 23 = .ok (.if_icmp .ne 5, 3) := by decide +kernel
theorem dX3_rankOfWish_26 : decode cX3_rankOfWish 26 = .ok (.iload_n 2, 1) := by decide +kernel
theorem dX3_rankOfWish_27 : decode cX3_rankOfWish 27 = .ok (.ireturn, 1) := by decide +kernel
theorem dX3_rankOfWish_28 : decode cX3_rankOfWish 28 = .ok (.iinc 2 1, 3) := by decide +kernel
theorem dX3_rankOfWish_31 : decode cX3_rankOfWish 31 = .ok (.goto (-29), 3) := by decide +kernel
theorem dX3_rankOfWish_34 : decode cX3_rankOfWish 34 = .ok (.iconst (-1), 1) := by decide +kernel
theorem dX3_rankOfWish_35 : decode cX3_rankOfWish 35 = .ok (.ireturn, 1) := by decide +kernel
theorem dX3_addWish_0 : decode cX3_addWish 0 = .ok (.aload_n 0, 1) := by decide +kernel
theorem dX3_addWish_1 : decode cX3_addWish 1 = .ok (.getfield 50, 3) := by decide +kernel
theorem dX3_addWish_4 : decode cX3_addWish 4 = .ok (.bipush 6, 2) := by decide +kernel
theorem dX3_addWish_6 : decode cX3_addWish 6 = .ok (.if_icmp .ge 23, 3) := by decide +kernel
theorem dX3_addWish_9 : decode cX3_addWish 9 = .ok (.aload_n 0, 1) := by decide +kernel
theorem dX3_addWish_10 : decode cX3_addWish 10 = .ok (.getfield 18, 3) := by decide +kernel
theorem dX3_addWish_13 : decode cX3_addWish 13 = .ok (.aload_n 0, 1) := by decide +kernel
theorem dX3_addWish_14 : decode cX3_addWish 14 = .ok (.getfield 50, 3) := by decide +kernel
theorem dX3_addWish_17 : decode cX3_addWish 17 = .ok (.iload_n 1, 1) := by decide +kernel
theorem dX3_addWish_18 : decode cX3_addWish 18 = .ok (.iastore, 1) := by decide +kernel
theorem dX3_addWish_19 : decode cX3_addWish 19 = .ok (.aload_n 0, 1) := by decide +kernel
theorem dX3_addWish_20 : decode cX3_addWish 20 = .ok (.dup, 1) := by decide +kernel
theorem dX3_addWish_21 : decode cX3_addWish 21 = .ok (.getfield 50, 3) := by decide +kernel
theorem dX3_addWish_24 : decode cX3_addWish 24 = .ok (.iconst 1, 1) := by decide +kernel
theorem dX3_addWish_25 : decode cX3_addWish 25 = .ok (.iadd, 1) := by decide +kernel
theorem dX3_addWish_26 : decode cX3_addWish 26 = .ok (.putfield 50, 3) := by decide +kernel
theorem dX3_addWish_29 : decode cX3_addWish 29 = .ok (.return_, 1) := by decide +kernel
theorem dX3_dropWish_0 : decode cX3_dropWish 0 = .ok (.iload_n 1, 1) := by decide +kernel
theorem dX3_dropWish_1 : decode cX3_dropWish 1 = .ok (.ifCond .lt 11, 3) := by decide +kernel
theorem dX3_dropWish_4 : decode cX3_dropWish 4 = .ok (.iload_n 1, 1) := by decide +kernel
theorem dX3_dropWish_5 : decode cX3_dropWish 5 = .ok (.aload_n 0, 1) := by decide +kernel
theorem dX3_dropWish_6 : decode cX3_dropWish 6 = .ok (.getfield 50, 3) := by decide +kernel
theorem dX3_dropWish_9 : decode cX3_dropWish 9 = .ok (.if_icmp .lt 4, 3) := by decide +kernel
theorem dX3_dropWish_12 : decode cX3_dropWish 12 = .ok (.return_, 1) := by decide +kernel
theorem dX3_dropWish_13 : decode cX3_dropWish 13 = .ok (.iload_n 1, 1) := by decide +kernel
theorem dX3_dropWish_14 : decode cX3_dropWish 14 = .ok (.istore_n 2, 1) := by decide +kernel
theorem dX3_dropWish_15 : decode cX3_dropWish 15 = .ok (.iload_n 2, 1) := by decide +kernel
theorem dX3_dropWish_16 : decode cX3_dropWish 16 = .ok (.iconst 1, 1) := by decide +kernel
theorem dX3_dropWish_17 : decode cX3_dropWish 17 = .ok (.iadd, 1) := by decide +kernel
theorem dX3_dropWish_18 : decode cX3_dropWish 18 = .ok (.aload_n 0, 1) := by decide +kernel
theorem dX3_dropWish_19 : decode cX3_dropWish 19 = .ok (.getfield 50, 3) := by decide +kernel
theorem dX3_dropWish_22 : decode cX3_dropWish 22 = .ok (.if_icmp .ge 31, 3) := by decide +kernel
theorem dX3_dropWish_25 : decode cX3_dropWish 25 = .ok (.iload_n 2, 1) := by decide +kernel
theorem dX3_dropWish_26 : decode cX3_dropWish 26 = .ok (.iconst 1, 1) := by decide +kernel
theorem dX3_dropWish_27 : decode cX3_dropWish 27 = .ok (.iadd, 1) := by decide +kernel
theorem dX3_dropWish_28 : decode cX3_dropWish 28 = .ok (.bipush 6, 2) := by decide +kernel
theorem dX3_dropWish_30 : decode cX3_dropWish 30 = .ok (.if_icmp .ge 23, 3) := by decide +kernel
theorem dX3_dropWish_33 : decode cX3_dropWish 33 = .ok (.aload_n 0, 1) := by decide +kernel
theorem dX3_dropWish_34 : decode cX3_dropWish 34 = .ok (.getfield 18, 3) := by decide +kernel
theorem dX3_dropWish_37 : decode cX3_dropWish 37 = .ok (.iload_n 2, 1) := by decide +kernel
theorem dX3_dropWish_38 : decode cX3_dropWish 38 = .ok (.aload_n 0, 1) := by decide +kernel
theorem dX3_dropWish_39 : decode cX3_dropWish 39 = .ok (.getfield 18, 3) := by decide +kernel
theorem dX3_dropWish_42 : decode cX3_dropWish 42 = .ok (.iload_n 2, 1) := by decide +kernel
theorem dX3_dropWish_43 : decode cX3_dropWish 43 = .ok (.iconst 1, 1) := by decide +kernel
theorem dX3_dropWish_44 : decode cX3_dropWish 44 = .ok (.iadd, 1) := by decide +kernel
theorem dX3_dropWish_45 : decode cX3_dropWish 45 = .ok (.iaload, 1) := by decide +kernel
theorem dX3_dropWish_46 : decode cX3_dropWish 46 = .ok (.iastore, 1) := by decide +kernel
theorem dX3_dropWish_47 : decode cX3_dropWish 47 = .ok (.iinc 2 1, 3) := by decide +kernel
theorem dX3_dropWish_50 : decode cX3_dropWish 50 = .ok (.goto (-35), 3) := by decide +kernel
theorem dX3_dropWish_53 : decode cX3_dropWish 53 = .ok (.aload_n 0, 1) := by decide +kernel
theorem dX3_dropWish_54 : decode cX3_dropWish 54 = .ok (.dup, 1) := by decide +kernel
theorem dX3_dropWish_55 : decode cX3_dropWish 55 = .ok (.getfield 50, 3) := by decide +kernel
theorem dX3_dropWish_58 : decode cX3_dropWish 58 = .ok (.iconst 1, 1) := by decide +kernel
theorem dX3_dropWish_59 : decode cX3_dropWish 59 = .ok (.isub, 1) := by decide +kernel
theorem dX3_dropWish_60 : decode cX3_dropWish 60 = .ok (.putfield 50, 3) := by decide +kernel
theorem dX3_dropWish_63 : decode cX3_dropWish 63 = .ok (.return_, 1) := by decide +kernel
theorem dX3_wouldTake_0 : decode cX3_wouldTake 0 = .ok (.aload_n 0, 1) := by decide +kernel
theorem dX3_wouldTake_1 : decode cX3_wouldTake 1 = .ok (.getfield 50, 3) := by decide +kernel
theorem dX3_wouldTake_4 : decode cX3_wouldTake 4 = .ok (.ifCond .eq 15, 3) := by decide +kernel
theorem dX3_wouldTake_7 : decode cX3_wouldTake 7 = .ok (.aload_n 0, 1) := by decide +kernel
theorem dX3_wouldTake_8 : decode cX3_wouldTake 8 = .ok (.aload_n 1, 1) := by decide +kernel
theorem dX3_wouldTake_9 : decode cX3_wouldTake 9 = .ok (.getfield 53, 3) := by decide +kernel
theorem dX3_wouldTake_12 : decode cX3_wouldTake 12 = .ok (.invokevirtual 54, 3) := by decide +kernel
theorem dX3_wouldTake_15 : decode cX3_wouldTake 15 = .ok (.iconst (-1), 1) := by decide +kernel
theorem dX3_wouldTake_16 : decode cX3_wouldTake 16 = .ok (.if_icmp .eq 7, 3) := by decide +kernel
theorem dX3_wouldTake_19 : decode cX3_wouldTake 19 = .ok (.iconst 1, 1) := by decide +kernel
theorem dX3_wouldTake_20 : decode cX3_wouldTake 20 = .ok (.goto 4, 3) := by decide +kernel
theorem dX3_wouldTake_23 : decode cX3_wouldTake 23 = .ok (.iconst 0, 1) := by decide +kernel
theorem dX3_wouldTake_24 : decode cX3_wouldTake 24 = .ok (.ireturn, 1) := by decide +kernel
theorem dX3_couldBeGiven_0 : decode cX3_couldBeGiven 0 = .ok (.aload_n 0, 1) := by decide +kernel
theorem dX3_couldBeGiven_1 : decode cX3_couldBeGiven 1 = .ok (.invokevirtual 57, 3) := by decide +kernel
theorem dX3_couldBeGiven_4 : decode cX3_couldBeGiven 4 = .ok (.ifCond .eq 23, 3) := by decide +kernel
theorem dX3_couldBeGiven_7 : decode cX3_couldBeGiven 7 = .ok (.aload_n 0, 1) := by decide +kernel
theorem dX3_couldBeGiven_8 : decode cX3_couldBeGiven 8 = .ok (.aload_n 1, 1) := by decide +kernel
theorem dX3_couldBeGiven_9 : decode cX3_couldBeGiven 9 = .ok (.invokevirtual 61, 3) := by decide +kernel
theorem dX3_couldBeGiven_12 : decode cX3_couldBeGiven 12 = .ok (.ifCond .eq 15, 3) := by decide +kernel
theorem dX3_couldBeGiven_15 : decode cX3_couldBeGiven 15 = .ok (.aload_n 0, 1) := by decide +kernel
theorem dX3_couldBeGiven_16 : decode cX3_couldBeGiven 16 = .ok (.aload_n 1, 1) := by decide +kernel
theorem dX3_couldBeGiven_17 : decode cX3_couldBeGiven 17 = .ok (.invokevirtual 65, 3) := by decide +kernel
theorem dX3_couldBeGiven_20 : decode cX3_couldBeGiven 20 = .ok (.ifCond .eq 7, 3) := by decide +kernel
theorem dX3_couldBeGiven_23 : decode cX3_couldBeGiven 23 = .ok (.iconst 1, 1) := by decide +kernel
theorem dX3_couldBeGiven_24 : decode cX3_couldBeGiven 24 = .ok (.goto 4, 3) := by decide +kernel
theorem dX3_couldBeGiven_27 : decode cX3_couldBeGiven 27 = .ok (.iconst 0, 1) := by decide +kernel
theorem dX3_couldBeGiven_28 : decode cX3_couldBeGiven 28 = .ok (.ireturn, 1) := by decide +kernel
theorem dX3_wouldRather_0 : decode cX3_wouldRather 0 = .ok (.aload_n 0, 1) := by decide +kernel
theorem dX3_wouldRather_1 : decode cX3_wouldRather 1 = .ok (.aload_n 1, 1) := by decide +kernel
theorem dX3_wouldRather_2 : decode cX3_wouldRather 2 = .ok (.getfield 53, 3) := by decide +kernel
theorem dX3_wouldRather_5 : decode cX3_wouldRather 5 = .ok (.invokevirtual 54, 3) := by decide +kernel
theorem dX3_wouldRather_8 : decode cX3_wouldRather 8 = .ok (.istore_n 2, 1) := by decide +kernel
theorem dX3_wouldRather_9 : decode cX3_wouldRather 9 = .ok (.aload_n 0, 1) := by decide +kernel
theorem dX3_wouldRather_10 : decode cX3_wouldRather 10 = .ok (.getfield 22, 3) := by decide +kernel
theorem dX3_wouldRather_13 : decode cX3_wouldRather 13 = .ok (.iconst (-1), 1) := by decide +kernel
theorem dX3_wouldRather_14 : decode cX3_wouldRather 14 = .ok (.if_icmp .eq 16, 3) := by decide +kernel
theorem dX3_wouldRather_17 : decode cX3_wouldRather 17 = .ok (.iload_n 2, 1) := by decide +kernel
theorem dX3_wouldRather_18 : decode cX3_wouldRather 18 = .ok (.iconst (-1), 1) := by decide +kernel
theorem dX3_wouldRather_19 : decode cX3_wouldRather 19 = .ok (.if_icmp .eq 11, 3) := by decide +kernel
theorem dX3_wouldRather_22 : decode cX3_wouldRather 22 = .ok (.aload_n 0, 1) := by decide +kernel
theorem dX3_wouldRather_23 : decode cX3_wouldRather 23 = .ok (.aload_n 1, 1) := by decide +kernel
theorem dX3_wouldRather_24 : decode cX3_wouldRather 24 = .ok (.invokevirtual 61, 3) := by decide +kernel
theorem dX3_wouldRather_27 : decode cX3_wouldRather 27 = .ok (.ifCond .ne 5, 3) := by decide +kernel
theorem dX3_wouldRather_30 : decode cX3_wouldRather 30 = .ok (.iconst 0, 1) := by decide +kernel
theorem dX3_wouldRather_31 : decode cX3_wouldRather 31 = .ok (.ireturn, 1) := by decide +kernel
theorem dX3_wouldRather_32 : decode cX3_wouldRather 32 = .ok (.aload_n 0, 1) := by decide +kernel
theorem dX3_wouldRather_33 : decode cX3_wouldRather 33 = .ok (.aload_n 0, 1) := by decide +kernel
theorem dX3_wouldRather_34 : decode cX3_wouldRather 34 = .ok (.getfield 22, 3) := by decide +kernel
theorem dX3_wouldRather_37 : decode cX3_wouldRather 37 = .ok (.invokevirtual 54, 3) := by decide +kernel
theorem dX3_wouldRather_40 : decode cX3_wouldRather 40 = .ok (.istore_n 3, 1) := by decide +kernel
theorem dX3_wouldRather_41 : decode cX3_wouldRather 41 = .ok (.iload_n 3, 1) := by decide +kernel
theorem dX3_wouldRather_42 : decode cX3_wouldRather 42 = .ok (.iconst (-1), 1) := by decide +kernel
theorem dX3_wouldRather_43 : decode cX3_wouldRather 43 = .ok (.if_icmp .eq 8, 3) := by decide +kernel
theorem dX3_wouldRather_46 : decode cX3_wouldRather 46 = .ok (.iload_n 3, 1) := by decide +kernel
theorem dX3_wouldRather_47 : decode cX3_wouldRather 47 = .ok (.iload_n 2, 1) := by decide +kernel
theorem dX3_wouldRather_48 : decode cX3_wouldRather 48 = .ok (.if_icmp .le 7, 3) := by decide +kernel
theorem dX3_wouldRather_51 : decode cX3_wouldRather 51 = .ok (.iconst 1, 1) := by decide +kernel
theorem dX3_wouldRather_52 : decode cX3_wouldRather 52 = .ok (.goto 4, 3) := by decide +kernel
theorem dX3_wouldRather_55 : decode cX3_wouldRather 55 = .ok (.iconst 0, 1) := by decide +kernel
theorem dX3_wouldRather_56 : decode cX3_wouldRather 56 = .ok (.ireturn, 1) := by decide +kernel
theorem dX3_begin_0 : decode cX3_begin 0 = .ok (.aload_n 0, 1) := by decide +kernel
theorem dX3_begin_1 : decode cX3_begin 1 = .ok (.lload_n 1, 1) := by decide +kernel
theorem dX3_begin_2 : decode cX3_begin 2 = .ok (.putfield 68, 3) := by decide +kernel
theorem dX3_begin_5 : decode cX3_begin 5 = .ok (.aload_n 0, 1) := by decide +kernel
theorem dX3_begin_6 : decode cX3_begin 6 = .ok (.iconst 0, 1) := by decide +kernel
theorem dX3_begin_7 : decode cX3_begin 7 = .ok (.putfield 50, 3) := by decide +kernel
theorem dX3_begin_10 : decode cX3_begin 10 = .ok (.aload_n 0, 1) := by decide +kernel
theorem dX3_begin_11 : decode cX3_begin 11 = .ok (.iconst 0, 1) := by decide +kernel
theorem dX3_begin_12 : decode cX3_begin 12 = .ok (.putfield 72, 3) := by decide +kernel
theorem dX3_begin_15 : decode cX3_begin 15 = .ok (.aload_n 0, 1) := by decide +kernel
theorem dX3_begin_16 : decode cX3_begin 16 = .ok (.iconst 0, 1) := by decide +kernel
theorem dX3_begin_17 : decode cX3_begin 17 = .ok (.putfield 37, 3) := by decide +kernel
theorem dX3_begin_20 : decode cX3_begin 20 = .ok (.aload_n 0, 1) := by decide +kernel
theorem dX3_begin_21 : decode cX3_begin 21 = .ok (.iconst 0, 1) := by decide +kernel
theorem dX3_begin_22 : decode cX3_begin 22 = .ok (.putfield 75, 3) := by decide +kernel
theorem dX3_begin_25 : decode cX3_begin 25 = .ok (.aload_n 0, 1) := by decide +kernel
theorem dX3_begin_26 : decode cX3_begin 26 = .ok (.iconst 0, 1) := by decide +kernel
theorem dX3_begin_27 : decode cX3_begin 27 = .ok (.putfield 78, 3) := by decide +kernel
theorem dX3_begin_30 : decode cX3_begin 30 = .ok (.aload_n 0, 1) := by decide +kernel
theorem dX3_begin_31 : decode cX3_begin 31 = .ok (.iconst (-1), 1) := by decide +kernel
theorem dX3_begin_32 : decode cX3_begin 32 = .ok (.putfield 22, 3) := by decide +kernel
theorem dX3_begin_35 : decode cX3_begin 35 = .ok (.aload_n 0, 1) := by decide +kernel
theorem dX3_begin_36 : decode cX3_begin 36 = .ok (.iconst 0, 1) := by decide +kernel
theorem dX3_begin_37 : decode cX3_begin 37 = .ok (.putfield 81, 3) := by decide +kernel
theorem dX3_begin_40 : decode cX3_begin 40 = .ok (.aload_n 0, 1) := by decide +kernel
theorem dX3_begin_41 : decode cX3_begin 41 = .ok (.iconst 0, 1) := by decide +kernel
theorem dX3_begin_42 : decode cX3_begin 42 = .ok (.putfield 29, 3) := by decide +kernel
theorem dX3_begin_45 : decode cX3_begin 45 = .ok (.aload_n 0, 1) := by decide +kernel
theorem dX3_begin_46 : decode cX3_begin 46 = .ok (.iconst 0, 1) := by decide +kernel
theorem dX3_begin_47 : decode cX3_begin 47 = .ok (.putfield 25, 3) := by decide +kernel
theorem dX3_begin_50 : decode cX3_begin 50 = .ok (.aload_n 0, 1) := by decide +kernel
theorem dX3_begin_51 : decode cX3_begin 51 = .ok (.iconst 0, 1) := by decide +kernel
theorem dX3_begin_52 : decode cX3_begin 52 = .ok (.putfield 40, 3) := by decide +kernel
theorem dX3_begin_55 : decode cX3_begin 55 = .ok (.aload_n 0, 1) := by decide +kernel
theorem dX3_begin_56 : decode cX3_begin 56 = .ok (.iconst 0, 1) := by decide +kernel
theorem dX3_begin_57 : decode cX3_begin 57 = .ok (.putfield 84, 3) := by decide +kernel
theorem dX3_begin_60 : decode cX3_begin 60 = .ok (.return_, 1) := by decide +kernel
theorem dX3_copy_0 : decode cX3_copy 0 = .ok (.aload_n 1, 1) := by decide +kernel
theorem dX3_copy_1 : decode cX3_copy 1 = .ok (.getfield 18, 3) := by decide +kernel
theorem dX3_copy_4 : decode cX3_copy 4 = .ok (.iconst 0, 1) := by decide +kernel
theorem dX3_copy_5 : decode cX3_copy 5 = .ok (.aload_n 0, 1) := by decide +kernel
theorem dX3_copy_6 : decode cX3_copy 6 = .ok (.getfield 18, 3) := by decide +kernel
theorem dX3_copy_9 : decode cX3_copy 9 = .ok (.iconst 0, 1) := by decide +kernel
theorem dX3_copy_10 : decode cX3_copy 10 = .ok (.bipush 6, 2) := by decide +kernel
theorem dX3_copy_12 : decode cX3_copy 12 = .ok (.invokestatic 87, 3) := by decide +kernel
theorem dX3_copy_15 : decode cX3_copy 15 = .ok (.aload_n 0, 1) := by decide +kernel
theorem dX3_copy_16 : decode cX3_copy 16 = .ok (.aload_n 1, 1) := by decide +kernel
theorem dX3_copy_17 : decode cX3_copy 17 = .ok (.getfield 50, 3) := by decide +kernel
theorem dX3_copy_20 : decode cX3_copy 20 = .ok (.putfield 50, 3) := by decide +kernel
theorem dX3_copy_23 : decode cX3_copy 23 = .ok (.aload_n 0, 1) := by decide +kernel
theorem dX3_copy_24 : decode cX3_copy 24 = .ok (.aload_n 1, 1) := by decide +kernel
theorem dX3_copy_25 : decode cX3_copy 25 = .ok (.getfield 68, 3) := by decide +kernel
theorem dX3_copy_28 : decode cX3_copy 28 = .ok (.putfield 68, 3) := by decide +kernel
theorem dX3_copy_31 : decode cX3_copy 31 = .ok (.aload_n 0, 1) := by decide +kernel
theorem dX3_copy_32 : decode cX3_copy 32 = .ok (.aload_n 1, 1) := by decide +kernel
theorem dX3_copy_33 : decode cX3_copy 33 = .ok (.getfield 72, 3) := by decide +kernel
theorem dX3_copy_36 : decode cX3_copy 36 = .ok (.putfield 72, 3) := by decide +kernel
theorem dX3_copy_39 : decode cX3_copy 39 = .ok (.aload_n 0, 1) := by decide +kernel
theorem dX3_copy_40 : decode cX3_copy 40 = .ok (.aload_n 1, 1) := by decide +kernel
theorem dX3_copy_41 : decode cX3_copy 41 = .ok (.getfield 37, 3) := by decide +kernel
theorem dX3_copy_44 : decode cX3_copy 44 = .ok (.putfield 37, 3) := by decide +kernel
theorem dX3_copy_47 : decode cX3_copy 47 = .ok (.aload_n 0, 1) := by decide +kernel
theorem dX3_copy_48 : decode cX3_copy 48 = .ok (.aload_n 1, 1) := by decide +kernel
theorem dX3_copy_49 : decode cX3_copy 49 = .ok (.getfield 75, 3) := by decide +kernel
theorem dX3_copy_52 : decode cX3_copy 52 = .ok (.putfield 75, 3) := by decide +kernel
theorem dX3_copy_55 : decode cX3_copy 55 = .ok (.aload_n 0, 1) := by decide +kernel
theorem dX3_copy_56 : decode cX3_copy 56 = .ok (.aload_n 1, 1) := by decide +kernel
theorem dX3_copy_57 : decode cX3_copy 57 = .ok (.getfield 78, 3) := by decide +kernel
theorem dX3_copy_60 : decode cX3_copy 60 = .ok (.putfield 78, 3) := by decide +kernel
theorem dX3_copy_63 : decode cX3_copy 63 = .ok (.aload_n 0, 1) := by decide +kernel
theorem dX3_copy_64 : decode cX3_copy 64 = .ok (.aload_n 1, 1) := by decide +kernel
theorem dX3_copy_65 : decode cX3_copy 65 = .ok (.getfield 22, 3) := by decide +kernel
theorem dX3_copy_68 : decode cX3_copy 68 = .ok (.putfield 22, 3) := by decide +kernel
theorem dX3_copy_71 : decode cX3_copy 71 = .ok (.aload_n 0, 1) := by decide +kernel
theorem dX3_copy_72 : decode cX3_copy 72 = .ok (.aload_n 1, 1) := by decide +kernel
theorem dX3_copy_73 : decode cX3_copy 73 = .ok (.getfield 81, 3) := by decide +kernel
theorem dX3_copy_76 : decode cX3_copy 76 = .ok (.putfield 81, 3) := by decide +kernel
theorem dX3_copy_79 : decode cX3_copy 79 = .ok (.aload_n 0, 1) := by decide +kernel
theorem dX3_copy_80 : decode cX3_copy 80 = .ok (.aload_n 1, 1) := by decide +kernel
theorem dX3_copy_81 : decode cX3_copy 81 = .ok (.getfield 29, 3) := by decide +kernel
theorem dX3_copy_84 : decode cX3_copy 84 = .ok (.putfield 29, 3) := by decide +kernel
theorem dX3_copy_87 : decode cX3_copy 87 = .ok (.aload_n 0, 1) := by decide +kernel
theorem dX3_copy_88 : decode cX3_copy 88 = .ok (.aload_n 1, 1) := by decide +kernel
theorem dX3_copy_89 : decode cX3_copy 89 = .ok (.getfield 25, 3) := by decide +kernel
theorem dX3_copy_92 : decode cX3_copy 92 = .ok (.putfield 25, 3) := by decide +kernel
theorem dX3_copy_95 : decode cX3_copy 95 = .ok (.aload_n 0, 1) := by decide +kernel
theorem dX3_copy_96 : decode cX3_copy 96 = .ok (.aload_n 1, 1) := by decide +kernel
theorem dX3_copy_97 : decode cX3_copy 97 = .ok (.getfield 40, 3) := by decide +kernel
theorem dX3_copy_100 : decode cX3_copy 100 = .ok (.putfield 40, 3) := by decide +kernel
theorem dX3_copy_103 : decode cX3_copy 103 = .ok (.aload_n 0, 1) := by decide +kernel
theorem dX3_copy_104 : decode cX3_copy 104 = .ok (.aload_n 1, 1) := by decide +kernel
theorem dX3_copy_105 : decode cX3_copy 105 = .ok (.getfield 84, 3) := by decide +kernel
theorem dX3_copy_108 : decode cX3_copy 108 = .ok (.putfield 84, 3) := by decide +kernel
theorem dX3_copy_111 : decode cX3_copy 111 = .ok (.return_, 1) := by decide +kernel
theorem dX4_init_0 : decode cX4_init 0 = .ok (.aload_n 0, 1) := by decide +kernel
theorem dX4_init_1 : decode cX4_init 1 = .ok (.invokespecial 3, 3) := by decide +kernel
theorem dX4_init_4 : decode cX4_init 4 = .ok (.aload_n 0, 1) := by decide +kernel
theorem dX4_init_5 : decode cX4_init 5 = .ok (.bipush 8, 2) := by decide +kernel
theorem dX4_init_7 : decode cX4_init 7 = .ok (.newarray .int, 2) := by decide +kernel
theorem dX4_init_9 : decode cX4_init 9 = .ok (.putfield 9, 3) := by decide +kernel
theorem dX4_init_12 : decode cX4_init 12 = .ok (.aload_n 0, 1) := by decide +kernel
theorem dX4_init_13 : decode cX4_init 13 = .ok (.bipush 10, 2) := by decide +kernel
theorem dX4_init_15 : decode cX4_init 15 = .ok (.newarray .int, 2) := by decide +kernel
theorem dX4_init_17 : decode cX4_init 17 = .ok (.putfield 15, 3) := by decide +kernel
theorem dX4_init_20 : decode cX4_init 20 = .ok (.return_, 1) := by decide +kernel
theorem dX4_look_0 : decode cX4_look 0 = .ok (.aload_n 0, 1) := by decide +kernel
theorem dX4_look_1 : decode cX4_look 1 = .ok (.aload_n 1, 1) := by decide +kernel
theorem dX4_look_2 : decode cX4_look 2 = .ok (.getfield 18, 3) := by decide +kernel
theorem dX4_look_5 : decode cX4_look 5 = .ok (.putfield 24, 3) := by decide +kernel
theorem dX4_look_8 : decode cX4_look 8 = .ok (.iconst 0, 1) := by decide +kernel
theorem dX4_look_9 : decode cX4_look 9 = .ok (.istore_n 2, 1) := by decide +kernel
theorem dX4_look_10 : decode cX4_look 10 = .ok (.iload_n 2, 1) := by decide +kernel
theorem dX4_look_11 : decode cX4_look 11 = .ok (.aload_n 0, 1) := by decide +kernel
theorem dX4_look_12 : decode cX4_look 12 = .ok (.getfield 24, 3) := by decide +kernel
theorem dX4_look_15 : decode cX4_look 15 = .ok (.if_icmp .ge 40, 3) := by decide +kernel
theorem dX4_look_18 : decode cX4_look 18 = .ok (.aload_n 1, 1) := by decide +kernel
theorem dX4_look_19 : decode cX4_look 19 = .ok (.getfield 25, 3) := by decide +kernel
theorem dX4_look_22 : decode cX4_look 22 = .ok (.iload_n 2, 1) := by decide +kernel
theorem dX4_look_23 : decode cX4_look 23 = .ok (.aaload, 1) := by decide +kernel
theorem dX4_look_24 : decode cX4_look 24 = .ok (.astore_n 3, 1) := by decide +kernel
theorem dX4_look_25 : decode cX4_look 25 = .ok (.aload_n 0, 1) := by decide +kernel
theorem dX4_look_26 : decode cX4_look 26 = .ok (.getfield 9, 3) := by decide +kernel
theorem dX4_look_29 : decode cX4_look 29 = .ok (.iload_n 2, 1) := by decide +kernel
theorem dX4_look_30 : decode cX4_look 30 = .ok (.aload_n 3, 1) := by decide +kernel
theorem dX4_look_31 : decode cX4_look 31 = .ok (.invokevirtual 29, 3) := by decide +kernel
theorem dX4_look_34 : decode cX4_look 34 = .ok (.ifCond .eq 13, 3) := by decide +kernel
theorem dX4_look_37 : decode cX4_look 37 = .ok (.aload_n 1, 1) := by decide +kernel
theorem dX4_look_38 : decode cX4_look 38 = .ok (.aload_n 3, 1) := by decide +kernel
theorem dX4_look_39 : decode cX4_look 39 = .ok (.iconst 1, 1) := by decide +kernel
theorem dX4_look_40 : decode cX4_look 40 = .ok (.iconst 1, 1) := by decide +kernel
theorem dX4_look_41 : decode cX4_look 41 = .ok (.invokevirtual 35, 3) := by decide +kernel
theorem dX4_look_44 : decode cX4_look 44 = .ok (.goto 4, 3) := by decide +kernel
theorem dX4_look_47 : decode cX4_look 47 = .ok (.iconst 0, 1) := by decide +kernel
theorem dX4_look_48 : decode cX4_look 48 = .ok (.iastore, 1) := by decide +kernel
theorem dX4_look_49 : decode cX4_look 49 = .ok (.iinc 2 1, 3) := by decide +kernel
theorem dX4_look_52 : decode cX4_look 52 = .ok (.goto (-42), 3) := by decide +kernel
theorem dX4_look_55 : decode cX4_look 55 = .ok (.return_, 1) := by decide +kernel
theorem dX4_largest_0 : decode cX4_largest 0 = .ok (.iconst 0, 1) := by decide +kernel
theorem dX4_largest_1 : decode cX4_largest 1 = .ok (.istore_n 3, 1) := by decide +kernel
theorem dX4_largest_2 : decode cX4_largest 2 = .ok (.iload_n 3, 1) := by decide +kernel
theorem dX4_largest_3 : decode cX4_largest 3 = .ok (.bipush 10, 2) := by decide +kernel
theorem dX4_largest_5 : decode cX4_largest 5 = .ok (.if_icmp .ge 16, 3) := by decide +kernel
theorem dX4_largest_8 : decode cX4_largest 8 = .ok (.aload_n 0, 1) := by decide +kernel
theorem dX4_largest_9 : decode cX4_largest 9 = .ok (.getfield 15, 3) := by decide +kernel
theorem dX4_largest_12 : decode cX4_largest 12 = .ok (.iload_n 3, 1) := by decide +kernel
theorem dX4_largest_13 : decode cX4_largest 13 = .ok (.iconst (-1), 1) := by decide +kernel
theorem dX4_largest_14 : decode cX4_largest 14 = .ok (.iastore, 1) := by decide +kernel
theorem dX4_largest_15 : decode cX4_largest 15 = .ok (.iinc 3 1, 3) := by decide +kernel
theorem dX4_largest_18 : decode cX4_largest 18 = .ok (.goto (-16), 3) := by decide +kernel
theorem dX4_largest_21 : decode cX4_largest 21 = .ok (.iconst 0, 1) := by decide +kernel
theorem dX4_largest_22 : decode cX4_largest 22 = .ok (.istore_n 3, 1) := by decide +kernel
theorem dX4_largest_23 : decode cX4_largest 23 = .ok (.iload_n 1, 1) := by decide +kernel
theorem dX4_largest_24 : decode cX4_largest 24 = .ok (.istore 4, 2) := by decide +kernel
theorem dX4_largest_26 : decode cX4_largest 26 = .ok (.iload 4, 2) := by decide +kernel
theorem dX4_largest_28 : decode cX4_largest 28 = .ok (.aload_n 0, 1) := by decide +kernel
theorem dX4_largest_29 : decode cX4_largest 29 = .ok (.getfield 24, 3) := by decide +kernel
theorem dX4_largest_32 : decode cX4_largest 32 = .ok (.if_icmp .ge 29, 3) := by decide +kernel
theorem dX4_largest_35 : decode cX4_largest 35 = .ok (.aload_n 0, 1) := by decide +kernel
theorem dX4_largest_36 : decode cX4_largest 36 = .ok (.iload_n 2, 1) := by decide +kernel
theorem dX4_largest_37 : decode cX4_largest 37 = .ok (.iconst (-1), 1) := by decide +kernel
theorem dX4_largest_38 : decode cX4_largest 38 = .ok (.ixor, 1) := by decide +kernel
theorem dX4_largest_39 : decode cX4_largest 39 = .ok (.putfield 39, 3) := by decide +kernel
theorem dX4_largest_42 : decode cX4_largest 42 = .ok (.aload_n 0, 1) := by decide +kernel
theorem dX4_largest_43 : decode cX4_largest 43 = .ok (.iload 4, 2) := by decide +kernel
theorem dX4_largest_45 : decode cX4_largest 45 = .ok (.iconst 0, 1) := by decide +kernel
theorem dX4_largest_46 : decode cX4_largest 46 = .ok (.invokestatic 42, 3) := by decide +kernel
theorem dX4_largest_49 : decode cX4_largest 49 = .ok (.ifCond .eq 6, 3) := by decide +kernel
theorem dX4_largest_52 : decode cX4_largest 52 = .ok (.iinc 3 1, 3) := by decide +kernel
theorem dX4_largest_55 : decode cX4_largest 55 = .ok (.iinc 4 1, 3) := by decide +kernel
theorem dX4_largest_58 : decode cX4_largest 58 = .ok (.goto (-32), 3) := by decide +kernel
theorem dX4_largest_61 : decode cX4_largest 61 = .ok (.iload_n 3, 1) := by decide +kernel
theorem dX4_largest_62 : decode cX4_largest 62 = .ok (.ireturn, 1) := by decide +kernel
theorem dX4_place_0 : decode cX4_place 0 = .ok (.iload_n 1, 1) := by decide +kernel
theorem dX4_place_1 : decode cX4_place 1 = .ok (.ifCond .lt 17, 3) := by decide +kernel
theorem dX4_place_4 : decode cX4_place 4 = .ok (.iload_n 1, 1) := by decide +kernel
theorem dX4_place_5 : decode cX4_place 5 = .ok (.aload_n 0, 1) := by decide +kernel
theorem dX4_place_6 : decode cX4_place 6 = .ok (.getfield 24, 3) := by decide +kernel
theorem dX4_place_9 : decode cX4_place 9 = .ok (.if_icmp .ge 9, 3) := by decide +kernel
theorem dX4_place_12 : decode cX4_place 12 = .ok (.iload_n 2, 1) := by decide +kernel
theorem dX4_place_13 : decode cX4_place 13 = .ok (.bipush 10, 2) := by decide +kernel
theorem dX4_place_15 : decode cX4_place 15 = .ok (.if_icmp .le 5, 3) := by decide +kernel
theorem dX4_place_18 : decode cX4_place 18 = .ok (.iconst 0, 1) := by decide +kernel
theorem dX4_place_19 : decode cX4_place 19 = .ok (.ireturn, 1) := by decide +kernel
theorem dX4_place_20 : decode cX4_place 20 = .ok (.iconst 0, 1) := by decide +kernel
theorem dX4_place_21 : decode cX4_place 21 = .ok (.istore_n 3, 1) := by decide +kernel
theorem dX4_place_22 : decode cX4_place 22 = .ok (.iload_n 3, 1) := by decide +kernel
theorem dX4_place_23 : decode cX4_place 23 = .ok (.bipush 10, 2) := by decide +kernel
theorem dX4_place_25 : decode cX4_place 25 = .ok (.if_icmp .ge 82, 3) := by decide +kernel
theorem dX4_place_28 : decode cX4_place 28 = .ok (.iconst 1, 1) := by decide +kernel
theorem dX4_place_29 : decode cX4_place 29 = .ok (.iload_n 3, 1) := by decide +kernel
theorem dX4_place_30 : decode cX4_place 30 = .ok (.ishl, 1) := by decide +kernel
theorem dX4_place_31 : decode cX4_place 31 = .ok (.istore 4, 2) := by decide +kernel
theorem dX4_place_33 : decode cX4_place 33 = .ok (.aload_n 0, 1) := by decide +kernel
theorem dX4_place_34 : decode cX4_place 34 = .ok (.getfield 9, 3) := by decide +kernel
theorem dX4_place_37 : decode cX4_place 37 = .ok (.iload_n 1, 1) := by decide +kernel
theorem dX4_place_38 : decode cX4_place 38 = .ok (.iaload, 1) := by decide +kernel
theorem dX4_place_39 : decode cX4_place 39 = .ok (.aload_n 0, 1) := by decide +kernel
theorem dX4_place_40 : decode cX4_place 40 = .ok (.getfield 39, 3) := by decide +kernel
theorem dX4_place_43 : decode cX4_place 43 = .ok (.iand, 1) := by decide +kernel
theorem dX4_place_44 : decode cX4_place 44 = .ok (.iload 4, 2) := by decide +kernel
theorem dX4_place_46 : decode cX4_place 46 = .ok (.iand, 1) := by decide +kernel
theorem dX4_place_47 : decode cX4_place 47 = .ok (.ifCond .ne 6, 3) := by decide +kernel
theorem dX4_place_50 : decode cX4_place 50 = .ok (.goto 51, 3) := by decide +kernel
theorem dX4_place_53 : decode cX4_place 53 = .ok (.aload_n 0, 1) := by decide +kernel
theorem dX4_place_54 : decode cX4_place 54 = .ok (.dup, 1) := by decide +kernel
theorem dX4_place_55 : decode cX4_place 55 = .ok (.getfield 39, 3) := by decide +kernel
theorem dX4_place_58 : decode cX4_place 58 = .ok (.iload 4, 2) := by decide +kernel
theorem dX4_place_60 : decode cX4_place 60 = .ok (.iconst (-1), 1) := by decide +kernel
theorem dX4_place_61 : decode cX4_place 61 = .ok (.ixor, 1) := by decide +kernel
theorem dX4_place_62 : decode cX4_place 62 = .ok (.iand, 1) := by decide +kernel
theorem dX4_place_63 : decode cX4_place 63 = .ok (.putfield 39, 3) := by decide +kernel
theorem dX4_place_66 : decode cX4_place 66 = .ok (.aload_n 0, 1) := by decide +kernel
theorem dX4_place_67 : decode cX4_place 67 = .ok (.getfield 15, 3) := by decide +kernel
theorem dX4_place_70 : decode cX4_place 70 = .ok (.iload_n 3, 1) := by decide +kernel
theorem dX4_place_71 : decode cX4_place 71 = .ok (.iaload, 1) := by decide +kernel
theorem dX4_place_72 : decode cX4_place 72 = .ok (.iconst (-1), 1) := by decide +kernel
theorem dX4_place_73 : decode cX4_place 73 = .ok (.if_icmp .eq 19, 3) := by decide +kernel
theorem dX4_place_76 : decode cX4_place 76 = .ok (.aload_n 0, 1) := by decide +kernel
theorem dX4_place_77 : decode cX4_place 77 = .ok (.aload_n 0, 1) := by decide +kernel
theorem dX4_place_78 : decode cX4_place 78 = .ok (.getfield 15, 3) := by decide +kernel
theorem dX4_place_81 : decode cX4_place 81 = .ok (.iload_n 3, 1) := by decide +kernel
theorem dX4_place_82 : decode cX4_place 82 = .ok (.iaload, 1) := by decide +kernel
theorem dX4_place_83 : decode cX4_place 83 = .ok (.iload_n 2, 1) := by decide +kernel
theorem dX4_place_84 : decode cX4_place 84 = .ok (.iconst 1, 1) := by decide +kernel
theorem dX4_place_85 : decode cX4_place 85 = .ok (.iadd, 1) := by decide +kernel
theorem dX4_place_86 : decode cX4_place 86 = .ok (.invokestatic 42, 3) := by decide +kernel
theorem dX4_place_89 : decode cX4_place 89 = .ok (.ifCond .eq 12, 3) := by decide +kernel
theorem dX4_place_92 : decode cX4_place 92 = .ok (.aload_n 0, 1) := by decide +kernel
theorem dX4_place_93 : decode cX4_place 93 = .ok (.getfield 15, 3) := by decide +kernel
theorem dX4_place_96 : decode cX4_place 96 = .ok (.iload_n 3, 1) := by decide +kernel
theorem dX4_place_97 : decode cX4_place 97 = .ok (.iload_n 1, 1) := by decide +kernel
theorem dX4_place_98 : decode cX4_place 98 = .ok (.iastore, 1) := by decide +kernel
theorem dX4_place_99 : decode cX4_place 99 = .ok (.iconst 1, 1) := by decide +kernel
theorem dX4_place_100 : decode cX4_place 100 = .ok (.ireturn, 1) := by decide +kernel
theorem dX4_place_101 : decode cX4_place 101 = .ok (.iinc 3 1, 3) := by decide +kernel
theorem dX4_place_104 : decode cX4_place 104 = .ok (.goto (-82), 3) := by decide +kernel
theorem dX4_place_107 : decode cX4_place 107 = .ok (.iconst 0, 1) := by decide +kernel
theorem dX4_place_108 : decode cX4_place 108 = .ok (.ireturn, 1) := by decide +kernel
theorem dX4_giftOf_0 : decode cX4_giftOf 0 = .ok (.iconst 0, 1) := by decide +kernel
theorem dX4_giftOf_1 : decode cX4_giftOf 1 = .ok (.istore_n 2, 1) := by decide +kernel
theorem dX4_giftOf_2 : decode cX4_giftOf 2 = .ok (.iconst (-1), 1) := by decide +kernel
theorem dX4_giftOf_3 : decode cX4_giftOf 3 = .ok (.istore_n 3, 1) := by decide +kernel
theorem dX4_giftOf_4 : decode cX4_giftOf 4 = .ok (.aload_n 0, 1) := by decide +kernel
theorem dX4_giftOf_5 : decode cX4_giftOf 5 = .ok (.iconst 0, 1) := by decide +kernel
theorem dX4_giftOf_6 : decode cX4_giftOf 6 = .ok (.iconst 0, 1) := by decide +kernel
theorem dX4_giftOf_7 : decode cX4_giftOf 7 = .ok (.invokevirtual 46, 3) := by decide +kernel
theorem dX4_giftOf_10 : decode cX4_giftOf 10 = .ok (.istore 4, 2) := by decide +kernel
theorem dX4_giftOf_12 : decode cX4_giftOf 12 = .ok (.iconst 0, 1) := by decide +kernel
theorem dX4_giftOf_13 : decode cX4_giftOf 13 = .ok (.istore 5, 2) := by decide +kernel
theorem dX4_giftOf_15 : decode cX4_giftOf 15 = .ok (.iload 5, 2) := by decide +kernel
theorem dX4_giftOf_17 : decode cX4_giftOf 17 = .ok (.aload_n 0, 1) := by decide +kernel
theorem dX4_giftOf_18 : decode cX4_giftOf 18 = .ok (.getfield 24, 3) := by decide +kernel
theorem dX4_giftOf_21 : decode cX4_giftOf 21 = .ok (.if_icmp .ge 39, 3) := by decide +kernel
theorem dX4_giftOf_24 : decode cX4_giftOf 24 = .ok (.iload 5, 2) := by decide +kernel
theorem dX4_giftOf_26 : decode cX4_giftOf 26 = .ok (.iload_n 1, 1) := by decide +kernel
theorem dX4_giftOf_27 : decode cX4_giftOf 27 = .ok (.if_icmp .gt 33, 3) := by decide +kernel
theorem dX4_giftOf_30 : decode cX4_giftOf 30 = .ok (.aload_n 0, 1) := by decide +kernel
theorem dX4_giftOf_31 : decode cX4_giftOf 31 = .ok (.iload 5, 2) := by decide +kernel
theorem dX4_giftOf_33 : decode cX4_giftOf 33 = .ok (.iload_n 2, 1) := by decide +kernel
theorem dX4_giftOf_34 : decode cX4_giftOf 34 = .ok (.iload 4, 2) := by decide +kernel
theorem dX4_giftOf_36 : decode cX4_giftOf 36 = .ok (.invokevirtual 50, 3) := by decide +kernel
theorem dX4_giftOf_39 : decode cX4_giftOf 39 = .ok (.istore_n 3, 1) := by decide +kernel
theorem dX4_giftOf_40 : decode cX4_giftOf 40 = .ok (.iload_n 3, 1) := by decide +kernel
theorem dX4_giftOf_41 : decode cX4_giftOf 41 = .ok (.iconst (-1), 1) := by decide +kernel
theorem dX4_giftOf_42 : decode cX4_giftOf 42 = .ok (.if_icmp .eq 12, 3) := by decide +kernel
theorem dX4_giftOf_45 : decode cX4_giftOf 45 = .ok (.iload_n 2, 1) := by decide +kernel
theorem dX4_giftOf_46 : decode cX4_giftOf 46 = .ok (.iconst 1, 1) := by decide +kernel
theorem dX4_giftOf_47 : decode cX4_giftOf 47 = .ok (.iload_n 3, 1) := by decide +kernel
theorem dX4_giftOf_48 : decode cX4_giftOf 48 = .ok (.ishl, 1) := by decide +kernel
theorem dX4_giftOf_49 : decode cX4_giftOf 49 = .ok (.ior, 1) := by decide +kernel
theorem dX4_giftOf_50 : decode cX4_giftOf 50 = .ok (.istore_n 2, 1) := by decide +kernel
theorem dX4_giftOf_51 : decode cX4_giftOf 51 = .ok (.iinc 4 (-1), 3) := by decide +kernel
theorem dX4_giftOf_54 : decode cX4_giftOf 54 = .ok (.iinc 5 1, 3) := by decide +kernel
theorem dX4_giftOf_57 : decode cX4_giftOf 57 = .ok (.goto (-42), 3) := by decide +kernel
theorem dX4_giftOf_60 : decode cX4_giftOf 60 = .ok (.iload_n 3, 1) := by decide +kernel
theorem dX4_giftOf_61 : decode cX4_giftOf 61 = .ok (.ireturn, 1) := by decide +kernel
theorem dX4_leastGift_0 : decode cX4_leastGift 0 = .ok (.iconst 0, 1) := by decide +kernel
theorem dX4_leastGift_1 : decode cX4_leastGift 1 = .ok (.istore 4, 2) := by decide +kernel
theorem dX4_leastGift_3 : decode cX4_leastGift 3 = .ok (.iload 4, 2) := by decide +kernel
theorem dX4_leastGift_5 : decode cX4_leastGift 5 = .ok (.bipush 10, 2) := by decide +kernel
theorem dX4_leastGift_7 : decode cX4_leastGift 7 = .ok (.if_icmp .ge 73, 3) := by decide +kernel
theorem dX4_leastGift_10 : decode cX4_leastGift 10 = .ok (.iconst 1, 1) := by decide +kernel
theorem dX4_leastGift_11 : decode cX4_leastGift 11 = .ok (.iload 4, 2) := by decide +kernel
theorem dX4_leastGift_13 : decode cX4_leastGift 13 = .ok (.ishl, 1) := by decide +kernel
theorem dX4_leastGift_14 : decode cX4_leastGift 14 = .ok (.istore 5, 2) := by decide +kernel
theorem dX4_leastGift_16 : decode cX4_leastGift 16 = .ok (.iload_n 1, 1) := by decide +kernel
theorem dX4_leastGift_17 : decode cX4_leastGift 17 = .ok (.ifCond .lt 29, 3) := by decide +kernel
theorem dX4_leastGift_20 : decode cX4_leastGift 20 = .ok (.iload_n 1, 1) := by decide +kernel
theorem dX4_leastGift_21 : decode cX4_leastGift 21 = .ok (.bipush 8, 2) := by decide +kernel
theorem dX4_leastGift_23 : decode cX4_leastGift 23 = .ok (.if_icmp .ge 23, 3) := by decide +kernel
theorem dX4_leastGift_26 : decode cX4_leastGift 26 = .ok (.aload_n 0, 1) := by decide +kernel
theorem dX4_leastGift_27 : decode cX4_leastGift 27 = .ok (.getfield 9, 3) := by decide +kernel
theorem dX4_leastGift_30 : decode cX4_leastGift 30 = .ok (.iload_n 1, 1) := by decide +kernel
theorem dX4_leastGift_31 : decode cX4_leastGift 31 = .ok (.iaload, 1) := by decide +kernel
theorem dX4_leastGift_32 : decode cX4_leastGift 32 = .ok (.iload_n 2, 1) := by decide +kernel
theorem dX4_leastGift_33 : decode cX4_leastGift 33 = .ok (.iconst (-1), 1) := by decide +kernel
theorem dX4_leastGift_34 : decode cX4_leastGift 34 = .ok (.ixor, 1) := by decide +kernel
theorem dX4_leastGift_35 : decode cX4_leastGift 35 = .ok (.iand, 1) := by decide +kernel
theorem dX4_leastGift_36 : decode cX4_leastGift 36 = .ok (.iload 5, 2) := by decide +kernel
theorem dX4_leastGift_38 : decode cX4_leastGift 38 = .ok (.iand, 1) := by decide +kernel
theorem dX4_leastGift_39 : decode cX4_leastGift 39 = .ok (.ifCond .eq 7, 3) := by decide +kernel
theorem dX4_leastGift_42 : decode cX4_leastGift 42 = .ok (.iconst 1, 1) := by decide +kernel
theorem dX4_leastGift_43 : decode cX4_leastGift 43 = .ok (.goto 4, 3) := by decide +kernel
theorem dX4_leastGift_46 : decode cX4_leastGift 46 = .ok (.iconst 0, 1) := by decide +kernel
theorem dX4_leastGift_47 : decode cX4_leastGift 47 = .ok (.istore 6, 2) := by decide +kernel
theorem dX4_leastGift_49 : decode cX4_leastGift 49 = .ok (.iload 6, 2) := by decide +kernel
theorem dX4_leastGift_51 : decode cX4_leastGift 51 = .ok (.ifCond .eq 23, 3) := by decide +kernel
theorem dX4_leastGift_54 : decode cX4_leastGift 54 = .ok (.aload_n 0, 1) := by decide +kernel
theorem dX4_leastGift_55 : decode cX4_leastGift 55 = .ok (.iload_n 1, 1) := by decide +kernel
theorem dX4_leastGift_56 : decode cX4_leastGift 56 = .ok (.iconst 1, 1) := by decide +kernel
theorem dX4_leastGift_57 : decode cX4_leastGift 57 = .ok (.iadd, 1) := by decide +kernel
theorem dX4_leastGift_58 : decode cX4_leastGift 58 = .ok (.iload_n 2, 1) := by decide +kernel
theorem dX4_leastGift_59 : decode cX4_leastGift 59 = .ok (.iload 5, 2) := by decide +kernel
theorem dX4_leastGift_61 : decode cX4_leastGift 61 = .ok (.ior, 1) := by decide +kernel
theorem dX4_leastGift_62 : decode cX4_leastGift 62 = .ok (.invokevirtual 46, 3) := by decide +kernel
theorem dX4_leastGift_65 : decode cX4_leastGift 65 = .ok (.iconst 1, 1) := by decide +kernel
theorem dX4_leastGift_66 : decode cX4_leastGift 66 = .ok (.iadd, 1) := by decide +kernel
theorem dX4_leastGift_67 : decode cX4_leastGift 67 = .ok (.iload_n 3, 1) := by decide +kernel
theorem dX4_leastGift_68 : decode cX4_leastGift 68 = .ok (.if_icmp .ne 6, 3) := by decide +kernel
theorem dX4_leastGift_71 : decode cX4_leastGift 71 = .ok (.iload 4, 2) := by decide +kernel
theorem dX4_leastGift_73 : decode cX4_leastGift 73 = .ok (.ireturn, 1) := by decide +kernel
theorem dX4_leastGift_74 : decode cX4_leastGift 74 = .ok (.iinc 4 1, 3) := by decide +kernel
theorem dX4_leastGift_77 : decode cX4_leastGift 77 = .ok (.goto (-74), 3) := by decide +kernel
theorem dX4_leastGift_80 : decode cX4_leastGift 80 = .ok (.iconst (-1), 1) := by decide +kernel
theorem dX4_leastGift_81 : decode cX4_leastGift 81 = .ok (.ireturn, 1) := by decide +kernel
theorem dX5_init_0 : decode cX5_init 0 = .ok (.aload_n 0, 1) := by decide +kernel
theorem dX5_init_1 : decode cX5_init 1 = .ok (.invokespecial 3, 3) := by decide +kernel
theorem dX5_init_4 : decode cX5_init 4 = .ok (.aload_n 0, 1) := by decide +kernel
theorem dX5_init_5 : decode cX5_init 5 = .ok (.sipush 1024, 3) := by decide +kernel
theorem dX5_init_8 : decode cX5_init 8 = .ok (.newarray .int, 2) := by decide +kernel
theorem dX5_init_10 : decode cX5_init 10 = .ok (.putfield 9, 3) := by decide +kernel
theorem dX5_init_13 : decode cX5_init 13 = .ok (.aload_n 0, 1) := by decide +kernel
theorem dX5_init_14 : decode cX5_init 14 = .ok (.iconst 0, 1) := by decide +kernel
theorem dX5_init_15 : decode cX5_init 15 = .ok (.putfield 15, 3) := by decide +kernel
theorem dX5_init_18 : decode cX5_init 18 = .ok (.return_, 1) := by decide +kernel
theorem dX5_byteAt_0 : decode cX5_byteAt 0 = .ok (.iload_n 1, 1) := by decide +kernel
theorem dX5_byteAt_1 : decode cX5_byteAt 1 = .ok (.ifCond .lt 18, 3) := by decide +kernel
theorem dX5_byteAt_4 : decode cX5_byteAt 4 = .ok (.iload_n 1, 1) := by decide +kernel
theorem dX5_byteAt_5 : decode cX5_byteAt 5 = .ok (.aload_n 0, 1) := by decide +kernel
theorem dX5_byteAt_6 : decode cX5_byteAt 6 = .ok (.getfield 15, 3) := by decide +kernel
theorem dX5_byteAt_9 : decode cX5_byteAt 9 = .ok (.if_icmp .ge 10, 3) := by decide +kernel
theorem dX5_byteAt_12 : decode cX5_byteAt 12 = .ok (.iload_n 1, 1) := by decide +kernel
theorem dX5_byteAt_13 : decode cX5_byteAt 13 = .ok (.sipush 1024, 3) := by decide +kernel
theorem dX5_byteAt_16 : decode cX5_byteAt 16 = .ok (.if_icmp .lt 7, 3) := by decide +kernel
theorem dX5_byteAt_19 : decode cX5_byteAt 19 = .ok (.iconst (-1), 1) := by decide +kernel
theorem dX5_byteAt_20 : decode cX5_byteAt 20 = .ok (.goto 9, 3) := by decide +kernel
theorem dX5_byteAt_23 : decode cX5_byteAt 23 = .ok (.aload_n 0, 1) := by decide +kernel
theorem dX5_byteAt_24 : decode cX5_byteAt 24 = .ok (.getfield 9, 3) := by decide +kernel
theorem dX5_byteAt_27 : decode cX5_byteAt 27 = .ok (.iload_n 1, 1) := by decide +kernel
theorem dX5_byteAt_28 : decode cX5_byteAt 28 = .ok (.iaload, 1) := by decide +kernel
theorem dX5_byteAt_29 : decode cX5_byteAt 29 = .ok (.ireturn, 1) := by decide +kernel
theorem dX5_write_0 : decode cX5_write 0 = .ok (.aload_n 0, 1) := by decide +kernel
theorem dX5_write_1 : decode cX5_write 1 = .ok (.iconst 0, 1) := by decide +kernel
theorem dX5_write_2 : decode cX5_write 2 = .ok (.putfield 15, 3) := by decide +kernel
theorem dX5_write_5 : decode cX5_write 5 = .ok (.iconst 0, 1) := by decide +kernel
theorem dX5_write_6 : decode cX5_write 6 = .ok (.istore_n 2, 1) := by decide +kernel
theorem dX5_write_7 : decode cX5_write 7 = .ok (.iload_n 2, 1) := by decide +kernel
theorem dX5_write_8 : decode cX5_write 8 = .ok (.bipush 6, 2) := by decide +kernel
theorem dX5_write_10 : decode cX5_write 10 = .ok (.if_icmp .ge 46, 3) := by decide +kernel
theorem dX5_write_13 : decode cX5_write 13 = .ok (.aload_n 0, 1) := by decide +kernel
theorem dX5_write_14 : decode cX5_write 14 = .ok (.ldc 19, 2) := by decide +kernel
theorem dX5_write_16 : decode cX5_write 16 = .ok (.invokevirtual 21, 3) := by decide +kernel
theorem dX5_write_19 : decode cX5_write 19 = .ok (.aload_n 0, 1) := by decide +kernel
theorem dX5_write_20 : decode cX5_write 20 = .ok (.bipush 32, 2) := by decide +kernel
theorem dX5_write_22 : decode cX5_write 22 = .ok (.invokevirtual 25, 3) := by decide +kernel
theorem dX5_write_25 : decode cX5_write 25 = .ok (.aload_n 0, 1) := by decide +kernel
theorem dX5_write_26 : decode cX5_write 26 = .ok (.iconst 4, 1) := by decide +kernel
theorem dX5_write_27 : decode cX5_write 27 = .ok (.iload_n 2, 1) := by decide +kernel
theorem dX5_write_28 : decode cX5_write 28 = .ok (.iadd, 1) := by decide +kernel
theorem dX5_write_29 : decode cX5_write 29 = .ok (.invokestatic 31, 3) := by decide +kernel
theorem dX5_write_32 : decode cX5_write 32 = .ok (.invokevirtual 21, 3) := by decide +kernel
theorem dX5_write_35 : decode cX5_write 35 = .ok (.aload_n 0, 1) := by decide +kernel
theorem dX5_write_36 : decode cX5_write 36 = .ok (.aload_n 1, 1) := by decide +kernel
theorem dX5_write_37 : decode cX5_write 37 = .ok (.iload_n 2, 1) := by decide +kernel
theorem dX5_write_38 : decode cX5_write 38 = .ok (.invokevirtual 35, 3) := by decide +kernel
theorem dX5_write_41 : decode cX5_write 41 = .ok (.invokevirtual 41, 3) := by decide +kernel
theorem dX5_write_44 : decode cX5_write 44 = .ok (.aload_n 0, 1) := by decide +kernel
theorem dX5_write_45 : decode cX5_write 45 = .ok (.bipush 59, 2) := by decide +kernel
theorem dX5_write_47 : decode cX5_write 47 = .ok (.invokevirtual 25, 3) := by decide +kernel
theorem dX5_write_50 : decode cX5_write 50 = .ok (.iinc 2 1, 3) := by decide +kernel
theorem dX5_write_53 : decode cX5_write 53 = .ok (.goto (-46), 3) := by decide +kernel
theorem dX5_write_56 : decode cX5_write 56 = .ok (.iconst 0, 1) := by decide +kernel
theorem dX5_write_57 : decode cX5_write 57 = .ok (.istore_n 2, 1) := by decide +kernel
theorem dX5_write_58 : decode cX5_write 58 = .ok (.iload_n 2, 1) := by decide +kernel
theorem dX5_write_59 : decode cX5_write 59 = .ok (.aload_n 1, 1) := by decide +kernel
theorem dX5_write_60 : decode cX5_write 60 = .ok (.getfield 44, 3) := by decide +kernel
theorem dX5_write_63 : decode cX5_write 63 = .ok (.if_icmp .ge 32, 3) := by decide +kernel
theorem dX5_write_66 : decode cX5_write 66 = .ok (.aload_n 1, 1) := by decide +kernel
theorem dX5_write_67 : decode cX5_write 67 = .ok (.aload_n 1, 1) := by decide +kernel
theorem dX5_write_68 : decode cX5_write 68 = .ok (.getfield 47, 3) := by decide +kernel
theorem dX5_write_71 : decode cX5_write 71 = .ok (.iload_n 2, 1) := by decide +kernel
theorem dX5_write_72 : decode cX5_write 72 = .ok (.aaload, 1) := by decide +kernel
theorem dX5_write_73 : decode cX5_write 73 = .ok (.invokestatic 51, 3) := by decide +kernel
theorem dX5_write_76 : decode cX5_write 76 = .ok (.ifCond .eq 13, 3) := by decide +kernel
theorem dX5_write_79 : decode cX5_write 79 = .ok (.aload_n 0, 1) := by decide +kernel
theorem dX5_write_80 : decode cX5_write 80 = .ok (.aload_n 1, 1) := by decide +kernel
theorem dX5_write_81 : decode cX5_write 81 = .ok (.getfield 47, 3) := by decide +kernel
theorem dX5_write_84 : decode cX5_write 84 = .ok (.iload_n 2, 1) := by decide +kernel
theorem dX5_write_85 : decode cX5_write 85 = .ok (.aaload, 1) := by decide +kernel
theorem dX5_write_86 : decode cX5_write 86 = .ok (.invokevirtual 55, 3) := by decide +kernel
theorem dX5_write_89 : decode cX5_write 89 = .ok (.iinc 2 1, 3) := by decide +kernel
theorem dX5_write_92 : decode cX5_write 92 = .ok (.goto (-34), 3) := by decide +kernel
theorem dX5_write_95 : decode cX5_write 95 = .ok (.iconst 0, 1) := by decide +kernel
theorem dX5_write_96 : decode cX5_write 96 = .ok (.istore_n 2, 1) := by decide +kernel
theorem dX5_write_97 : decode cX5_write 97 = .ok (.iload_n 2, 1) := by decide +kernel
theorem dX5_write_98 : decode cX5_write 98 = .ok (.aload_n 1, 1) := by decide +kernel
theorem dX5_write_99 : decode cX5_write 99 = .ok (.getfield 59, 3) := by decide +kernel
theorem dX5_write_102 : decode cX5_write 102 = .ok (.if_icmp .ge 32, 3) := by decide +kernel
theorem dX5_write_105 : decode cX5_write 105 = .ok (.aload_n 1, 1) := by decide +kernel
theorem dX5_write_106 : decode cX5_write 106 = .ok (.getfield 62, 3) := by decide +kernel
theorem dX5_write_109 : decode cX5_write 109 = .ok (.iload_n 2, 1) := by decide +kernel
theorem dX5_write_110 : decode cX5_write 110 = .ok (.aaload, 1) := by decide +kernel
theorem dX5_write_111 : decode cX5_write 111 = .ok (.getfield 66, 3) := by decide +kernel
theorem dX5_write_114 : decode cX5_write 114 = .ok (.ifCond .ne 14, 3) := by decide +kernel
theorem dX5_write_117 : decode cX5_write 117 = .ok (.aload_n 0, 1) := by decide +kernel
theorem dX5_write_118 : decode cX5_write 118 = .ok (.aload_n 1, 1) := by decide +kernel
theorem dX5_write_119 : decode cX5_write 119 = .ok (.aload_n 1, 1) := by decide +kernel
theorem dX5_write_120 : decode cX5_write 120 = .ok (.getfield 62, 3) := by decide +kernel
theorem dX5_write_123 : decode cX5_write 123 = .ok (.iload_n 2, 1) := by decide +kernel
theorem dX5_write_124 : decode cX5_write 124 = .ok (.aaload, 1) := by decide +kernel
theorem dX5_write_125 : decode cX5_write 125 = .ok (.invokevirtual 72, 3) := by decide +kernel
theorem dX5_write_128 : decode cX5_write 128 = .ok (.iinc 2 1, 3) := by decide +kernel
theorem dX5_write_131 : decode cX5_write 131 = .ok (.goto (-34), 3) := by decide +kernel
theorem dX5_write_134 : decode cX5_write 134 = .ok (.return_, 1) := by decide +kernel
theorem dX5_writeHome_0 : decode cX5_writeHome 0 = .ok (.aload_n 0, 1) := by decide +kernel
theorem dX5_writeHome_1 : decode cX5_writeHome 1 = .ok (.ldc 76, 2) := by decide +kernel
theorem dX5_writeHome_3 : decode cX5_writeHome 3 = .ok (.invokevirtual 21, 3) := by decide +kernel
theorem dX5_writeHome_6 : decode cX5_writeHome 6 = .ok (.aload_n 0, 1) := by decide +kernel
theorem dX5_writeHome_7 : decode cX5_writeHome 7 = .ok (.aload_n 1, 1) := by decide +kernel
theorem dX5_writeHome_8 : decode cX5_writeHome 8 = .ok (.getfield 78, 3) := by decide +kernel
theorem dX5_writeHome_11 : decode cX5_writeHome 11 = .ok (.invokevirtual 84, 3) := by decide +kernel
theorem dX5_writeHome_14 : decode cX5_writeHome 14 = .ok (.aload_n 0, 1) := by decide +kernel
theorem dX5_writeHome_15 : decode cX5_writeHome 15 = .ok (.aload_n 1, 1) := by decide +kernel
theorem dX5_writeHome_16 : decode cX5_writeHome 16 = .ok (.getfield 88, 3) := by decide +kernel
theorem dX5_writeHome_19 : decode cX5_writeHome 19 = .ok (.invokevirtual 41, 3) := by decide +kernel
theorem dX5_writeHome_22 : decode cX5_writeHome 22 = .ok (.aload_n 0, 1) := by decide +kernel
theorem dX5_writeHome_23 : decode cX5_writeHome 23 = .ok (.aload_n 1, 1) := by decide +kernel
theorem dX5_writeHome_24 : decode cX5_writeHome 24 = .ok (.getfield 91, 3) := by decide +kernel
theorem dX5_writeHome_27 : decode cX5_writeHome 27 = .ok (.invokevirtual 41, 3) := by decide +kernel
theorem dX5_writeHome_30 : decode cX5_writeHome 30 = .ok (.aload_n 0, 1) := by decide +kernel
theorem dX5_writeHome_31 : decode cX5_writeHome 31 = .ok (.bipush 59, 2) := by decide +kernel
theorem dX5_writeHome_33 : decode cX5_writeHome 33 = .ok (.invokevirtual 25, 3) := by decide +kernel
theorem dX5_writeHome_36 : decode cX5_writeHome 36 = .ok (.return_, 1) := by decide +kernel
theorem dX5_writeHouse_0 : decode cX5_writeHouse 0 = .ok (.aload_n 0, 1) := by decide +kernel
theorem dX5_writeHouse_1 : decode cX5_writeHouse 1 = .ok (.ldc 94, 2) := by decide +kernel
theorem dX5_writeHouse_3 : decode cX5_writeHouse 3 = .ok (.invokevirtual 21, 3) := by decide +kernel
theorem dX5_writeHouse_6 : decode cX5_writeHouse 6 = .ok (.aload_n 0, 1) := by decide +kernel
theorem dX5_writeHouse_7 : decode cX5_writeHouse 7 = .ok (.aload_n 2, 1) := by decide +kernel
theorem dX5_writeHouse_8 : decode cX5_writeHouse 8 = .ok (.getfield 96, 3) := by decide +kernel
theorem dX5_writeHouse_11 : decode cX5_writeHouse 11 = .ok (.invokevirtual 84, 3) := by decide +kernel
theorem dX5_writeHouse_14 : decode cX5_writeHouse 14 = .ok (.aload_n 0, 1) := by decide +kernel
theorem dX5_writeHouse_15 : decode cX5_writeHouse 15 = .ok (.aload_n 2, 1) := by decide +kernel
theorem dX5_writeHouse_16 : decode cX5_writeHouse 16 = .ok (.getfield 97, 3) := by decide +kernel
theorem dX5_writeHouse_19 : decode cX5_writeHouse 19 = .ok (.invokevirtual 41, 3) := by decide +kernel
theorem dX5_writeHouse_22 : decode cX5_writeHouse 22 = .ok (.aload_n 0, 1) := by decide +kernel
theorem dX5_writeHouse_23 : decode cX5_writeHouse 23 = .ok (.aload_n 2, 1) := by decide +kernel
theorem dX5_writeHouse_24 : decode cX5_writeHouse 24 = .ok (.getfield 100, 3) := by decide +kernel
theorem dX5_writeHouse_27 : decode cX5_writeHouse 27 = .ok (.invokevirtual 41, 3) := by decide +kernel
theorem dX5_writeHouse_30 : decode cX5_writeHouse 30 = .ok (.aload_n 0, 1) := by decide +kernel
theorem dX5_writeHouse_31 : decode cX5_writeHouse 31 = .ok (.aload_n 2, 1) := by decide +kernel
theorem dX5_writeHouse_32 : decode cX5_writeHouse 32 = .ok (.getfield 103, 3) := by decide +kernel
theorem dX5_writeHouse_35 : decode cX5_writeHouse 35 = .ok (.invokevirtual 41, 3) := by decide +kernel
theorem dX5_writeHouse_38 : decode cX5_writeHouse 38 = .ok (.aload_n 0, 1) := by decide +kernel
theorem dX5_writeHouse_39 : decode cX5_writeHouse 39 = .ok (.aload_n 2, 1) := by decide +kernel
theorem dX5_writeHouse_40 : decode cX5_writeHouse 40 = .ok (.getfield 106, 3) := by decide +kernel
theorem dX5_writeHouse_43 : decode cX5_writeHouse 43 = .ok (.invokevirtual 41, 3) := by decide +kernel
theorem dX5_writeHouse_46 : decode cX5_writeHouse 46 = .ok (.aload_n 1, 1) := by decide +kernel
theorem dX5_writeHouse_47 : decode cX5_writeHouse 47 = .ok (.aload_n 2, 1) := by decide +kernel
theorem dX5_writeHouse_48 : decode cX5_writeHouse 48 = .ok (.getfield 109, 3) := by decide +kernel
theorem dX5_writeHouse_51 : decode cX5_writeHouse 51 = .ok (.invokevirtual 111, 3) := by decide +kernel
theorem dX5_writeHouse_54 : decode cX5_writeHouse 54 = .ok (.astore_n 3, 1) := by decide +kernel
theorem dX5_writeHouse_55 : decode cX5_writeHouse 55 = .ok (.aload_n 3, 1) := by decide +kernel
theorem dX5_writeHouse_56 : decode cX5_writeHouse 56 = .ok (.ifnull 31, 3) := by decide +kernel
theorem dX5_writeHouse_59 : decode cX5_writeHouse 59 = .ok (.aload_n 1, 1) := by decide +kernel
theorem dX5_writeHouse_60 : decode cX5_writeHouse 60 = .ok (.aload_n 3, 1) := by decide +kernel
theorem dX5_writeHouse_61 : decode cX5_writeHouse 61 = .ok (.invokestatic 51, 3) := by decide +kernel
theorem dX5_writeHouse_64 : decode cX5_writeHouse 64 = .ok (.ifCond .eq 23, 3) := by decide +kernel
theorem dX5_writeHouse_67 : decode cX5_writeHouse 67 = .ok (.aload_n 0, 1) := by decide +kernel
theorem dX5_writeHouse_68 : decode cX5_writeHouse 68 = .ok (.bipush 32, 2) := by decide +kernel
theorem dX5_writeHouse_70 : decode cX5_writeHouse 70 = .ok (.invokevirtual 25, 3) := by decide +kernel
theorem dX5_writeHouse_73 : decode cX5_writeHouse 73 = .ok (.aload_n 0, 1) := by decide +kernel
theorem dX5_writeHouse_74 : decode cX5_writeHouse 74 = .ok (.ldc 115, 2) := by decide +kernel
theorem dX5_writeHouse_76 : decode cX5_writeHouse 76 = .ok (.invokevirtual 21, 3) := by decide +kernel
theorem dX5_writeHouse_79 : decode cX5_writeHouse 79 = .ok (.aload_n 0, 1) := by decide +kernel
theorem dX5_writeHouse_80 : decode cX5_writeHouse 80 = .ok (.aload_n 3, 1) := by decide +kernel
theorem dX5_writeHouse_81 : decode cX5_writeHouse 81 = .ok (.getfield 78, 3) := by decide +kernel
theorem dX5_writeHouse_84 : decode cX5_writeHouse 84 = .ok (.invokevirtual 84, 3) := by decide +kernel
theorem dX5_writeHouse_87 : decode cX5_writeHouse 87 = .ok (.iconst 0, 1) := by decide +kernel
theorem dX5_writeHouse_88 : decode cX5_writeHouse 88 = .ok (.istore 4, 2) := by decide +kernel
theorem dX5_writeHouse_90 : decode cX5_writeHouse 90 = .ok (.iload 4, 2) := by decide +kernel
theorem dX5_writeHouse_92 : decode cX5_writeHouse 92 = .ok (.aload_n 2, 1) := by decide +kernel
theorem dX5_writeHouse_93 : decode cX5_writeHouse 93 = .ok (.getfield 117, 3) := by decide +kernel
theorem dX5_writeHouse_96 : decode cX5_writeHouse 96 = .ok (.if_icmp .ge 44, 3) := by decide +kernel
theorem dX5_writeHouse_99 : decode cX5_writeHouse 99 = .ok (.aload_n 1, 1) := by decide +kernel
theorem dX5_writeHouse_100 : decode cX5_writeHouse 100 = .ok (.aload_n 2, 1) := by decide +kernel
theorem dX5_writeHouse_101 : decode cX5_writeHouse 101 = .ok (.iload 4, 2) := by decide +kernel
theorem dX5_writeHouse_103 : decode cX5_writeHouse 103 = .ok (.invokevirtual 120, 3) := by decide +kernel
theorem dX5_writeHouse_106 : decode cX5_writeHouse 106 = .ok (.invokevirtual 111, 3) := by decide +kernel
theorem dX5_writeHouse_109 : decode cX5_writeHouse 109 = .ok (.astore 5, 2) := by decide +kernel
theorem dX5_writeHouse_111 : decode cX5_writeHouse 111 = .ok (.aload 5, 2) := by decide +kernel
theorem dX5_writeHouse_113 : decode cX5_writeHouse 113 = .ok (.ifnull 21, 3) := by decide +kernel
theorem dX5_writeHouse_116 : decode cX5_writeHouse 116 = .ok (.aload_n 1, 1) := by decide +kernel
theorem dX5_writeHouse_117 : decode cX5_writeHouse 117 = .ok (.aload 5, 2) := by decide +kernel
theorem dX5_writeHouse_119 : decode cX5_writeHouse 119 = .ok (.invokestatic 51, 3) := by decide +kernel
theorem dX5_writeHouse_122 : decode cX5_writeHouse 122 = .ok (.ifCond .eq 12, 3) := by decide +kernel
theorem dX5_writeHouse_125 : decode cX5_writeHouse 125 = .ok (.aload_n 0, 1) := by decide +kernel
theorem dX5_writeHouse_126 : decode cX5_writeHouse 126 = .ok (.aload 5, 2) := by decide +kernel
theorem dX5_writeHouse_128 : decode cX5_writeHouse 128 = .ok (.getfield 78, 3) := by decide +kernel
theorem dX5_writeHouse_131 : decode cX5_writeHouse 131 = .ok (.invokevirtual 84, 3) := by decide +kernel
theorem dX5_writeHouse_134 : decode cX5_writeHouse 134 = .ok (.iinc 4 1, 3) := by decide +kernel
theorem dX5_writeHouse_137 : decode cX5_writeHouse 137 = .ok (.goto (-47), 3) := by decide +kernel
theorem dX5_writeHouse_140 : decode cX5_writeHouse 140 = .ok (.aload_n 0, 1) := by decide +kernel
theorem dX5_writeHouse_141 : decode cX5_writeHouse 141 = .ok (.bipush 59, 2) := by decide +kernel
theorem dX5_writeHouse_143 : decode cX5_writeHouse 143 = .ok (.invokevirtual 25, 3) := by decide +kernel
theorem dX5_writeHouse_146 : decode cX5_writeHouse 146 = .ok (.return_, 1) := by decide +kernel
theorem dX5_isTold_0 : decode cX5_isTold 0 = .ok (.aload_n 0, 1) := by decide +kernel
theorem dX5_isTold_1 : decode cX5_isTold 1 = .ok (.aload_n 1, 1) := by decide +kernel
theorem dX5_isTold_2 : decode cX5_isTold 2 = .ok (.getfield 123, 3) := by decide +kernel
theorem dX5_isTold_5 : decode cX5_isTold 5 = .ok (.invokevirtual 126, 3) := by decide +kernel
theorem dX5_isTold_8 : decode cX5_isTold 8 = .ok (.astore_n 2, 1) := by decide +kernel
theorem dX5_isTold_9 : decode cX5_isTold 9 = .ok (.aload_n 1, 1) := by decide +kernel
theorem dX5_isTold_10 : decode cX5_isTold 10 = .ok (.getfield 130, 3) := by decide +kernel
theorem dX5_isTold_13 : decode cX5_isTold 13 = .ok (.ifCond .ne 18, 3) := by decide +kernel
theorem dX5_isTold_16 : decode cX5_isTold 16 = .ok (.aload_n 2, 1) := by decide +kernel
theorem dX5_isTold_17 : decode cX5_isTold 17 = .ok (.ifnull 10, 3) := by decide +kernel
theorem dX5_isTold_20 : decode cX5_isTold 20 = .ok (.aload_n 2, 1) := by decide +kernel
theorem dX5_isTold_21 : decode cX5_isTold 21 = .ok (.getfield 66, 3) := by decide +kernel
theorem dX5_isTold_24 : decode cX5_isTold 24 = .ok (.ifCond .ne 7, 3) := by decide +kernel
theorem dX5_isTold_27 : decode cX5_isTold 27 = .ok (.iconst 1, 1) := by decide +kernel
theorem dX5_isTold_28 : decode cX5_isTold 28 = .ok (.goto 4, 3) := by decide +kernel
theorem dX5_isTold_31 : decode cX5_isTold 31 = .ok (.iconst 0, 1) := by decide +kernel
theorem dX5_isTold_32 : decode cX5_isTold 32 = .ok (.ireturn, 1) := by decide +kernel
theorem dX5_put_0 : decode cX5_put 0 = .ok (.aload_n 0, 1) := by decide +kernel
theorem dX5_put_1 : decode cX5_put 1 = .ok (.getfield 15, 3) := by decide +kernel
theorem dX5_put_4 : decode cX5_put 4 = .ok (.sipush 1024, 3) := by decide +kernel
theorem dX5_put_7 : decode cX5_put 7 = .ok (.if_icmp .ge 23, 3) := by decide +kernel
theorem dX5_put_10 : decode cX5_put 10 = .ok (.aload_n 0, 1) := by decide +kernel
theorem dX5_put_11 : decode cX5_put 11 = .ok (.getfield 9, 3) := by decide +kernel
theorem dX5_put_14 : decode cX5_put 14 = .ok (.aload_n 0, 1) := by decide +kernel
theorem dX5_put_15 : decode cX5_put 15 = .ok (.getfield 15, 3) := by decide +kernel
theorem dX5_put_18 : decode cX5_put 18 = .ok (.iload_n 1, 1) := by decide +kernel
theorem dX5_put_19 : decode cX5_put 19 = .ok (.iastore, 1) := by decide +kernel
theorem dX5_put_20 : decode cX5_put 20 = .ok (.aload_n 0, 1) := by decide +kernel
theorem dX5_put_21 : decode cX5_put 21 = .ok (.dup, 1) := by decide +kernel
theorem dX5_put_22 : decode cX5_put 22 = .ok (.getfield 15, 3) := by decide +kernel
theorem dX5_put_25 : decode cX5_put 25 = .ok (.iconst 1, 1) := by decide +kernel
theorem dX5_put_26 : decode cX5_put 26 = .ok (.iadd, 1) := by decide +kernel
theorem dX5_put_27 : decode cX5_put 27 = .ok (.putfield 15, 3) := by decide +kernel
theorem dX5_put_30 : decode cX5_put 30 = .ok (.return_, 1) := by decide +kernel
theorem dX5_putText_0 : decode cX5_putText 0 = .ok (.iconst 0, 1) := by decide +kernel
theorem dX5_putText_1 : decode cX5_putText 1 = .ok (.istore_n 2, 1) := by decide +kernel
theorem dX5_putText_2 : decode cX5_putText 2 = .ok (.iload_n 2, 1) := by decide +kernel
theorem dX5_putText_3 : decode cX5_putText 3 = .ok (.aload_n 1, 1) := by decide +kernel
theorem dX5_putText_4 : decode cX5_putText 4 = .ok (.invokevirtual 133, 3) := by decide +kernel
theorem dX5_putText_7 : decode cX5_putText 7 = .ok (.if_icmp .ge 18, 3) := by decide +kernel
theorem dX5_putText_10 : decode cX5_putText 10 = .ok (.aload_n 0, 1) := by decide +kernel
theorem dX5_putText_11 : decode cX5_putText 11 = .ok (.aload_n 1, 1) := by decide +kernel
theorem dX5_putText_12 : decode cX5_putText 12 = .ok (.iload_n 2, 1) := by decide +kernel
theorem dX5_putText_13 : decode cX5_putText 13 = .ok (.invokevirtual 138, 3) := by decide +kernel
theorem dX5_putText_16 : decode cX5_putText 16 = .ok (.invokevirtual 25, 3) := by decide +kernel
theorem dX5_putText_19 : decode cX5_putText 19 = .ok (.iinc 2 1, 3) := by decide +kernel
theorem dX5_putText_22 : decode cX5_putText 22 = .ok (.goto (-20), 3) := by decide +kernel
theorem dX5_putText_25 : decode cX5_putText 25 = .ok (.return_, 1) := by decide +kernel
theorem dX5_putName_0 : decode cX5_putName 0 = .ok (.aload_n 0, 1) := by decide +kernel
theorem dX5_putName_1 : decode cX5_putName 1 = .ok (.bipush 32, 2) := by decide +kernel
theorem dX5_putName_3 : decode cX5_putName 3 = .ok (.invokevirtual 25, 3) := by decide +kernel
theorem dX5_putName_6 : decode cX5_putName 6 = .ok (.bipush 35, 2) := by decide +kernel
theorem dX5_putName_8 : decode cX5_putName 8 = .ok (.istore_n 3, 1) := by decide +kernel
theorem dX5_putName_9 : decode cX5_putName 9 = .ok (.iload_n 3, 1) := by decide +kernel
theorem dX5_putName_10 : decode cX5_putName 10 = .ok (.ifCond .lt 34, 3) := by decide +kernel
theorem dX5_putName_13 : decode cX5_putName 13 = .ok (.lload_n 1, 1) := by decide +kernel
theorem dX5_putName_14 : decode cX5_putName 14 = .ok (.iload_n 3, 1) := by decide +kernel
theorem dX5_putName_15 : decode cX5_putName 15 = .ok (.lshr, 1) := by decide +kernel
theorem dX5_putName_16 : decode cX5_putName 16 = .ok (.l2i, 1) := by decide +kernel
theorem dX5_putName_17 : decode cX5_putName 17 = .ok (.bipush 31, 2) := by decide +kernel
theorem dX5_putName_19 : decode cX5_putName 19 = .ok (.iand, 1) := by decide +kernel
theorem dX5_putName_20 : decode cX5_putName 20 = .ok (.istore 4, 2) := by decide +kernel
theorem dX5_putName_22 : decode cX5_putName 22 = .ok (.iload 4, 2) := by decide +kernel
theorem dX5_putName_24 : decode cX5_putName 24 = .ok (.ifCond .eq 14, 3) := by decide +kernel
theorem dX5_putName_27 : decode cX5_putName 27 = .ok (.aload_n 0, 1) := by decide +kernel
theorem dX5_putName_28 : decode cX5_putName 28 = .ok (.bipush 97, 2) := by decide +kernel
theorem dX5_putName_30 : decode cX5_putName 30 = .ok (.iload 4, 2) := by decide +kernel
theorem dX5_putName_32 : decode cX5_putName 32 = .ok (.iadd, 1) := by decide +kernel
theorem dX5_putName_33 : decode cX5_putName 33 = .ok (.iconst 1, 1) := by decide +kernel
theorem dX5_putName_34 : decode cX5_putName 34 = .ok (.isub, 1) := by decide +kernel
theorem dX5_putName_35 : decode cX5_putName 35 = .ok (.invokevirtual 25, 3) := by decide +kernel
theorem dX5_putName_38 : decode cX5_putName 38 = .ok (.iinc 3 (-5), 3) := by decide +kernel
theorem dX5_putName_41 : decode cX5_putName 41 = .ok (.goto (-32), 3) := by decide +kernel
theorem dX5_putName_44 : decode cX5_putName 44 = .ok (.return_, 1) := by decide +kernel
theorem dX5_putNumber_0 : decode cX5_putNumber 0 = .ok (.aload_n 0, 1) := by decide +kernel
theorem dX5_putNumber_1 : decode cX5_putNumber 1 = .ok (.bipush 32, 2) := by decide +kernel
theorem dX5_putNumber_3 : decode cX5_putNumber 3 = .ok (.invokevirtual 25, 3) := by decide +kernel
theorem dX5_putNumber_6 : decode cX5_putNumber 6 = .ok (.iload_n 1, 1) := by decide +kernel
theorem dX5_putNumber_7 : decode cX5_putNumber 7 = .ok (.bipush 100, 2) := by decide +kernel
theorem dX5_putNumber_9 : decode cX5_putNumber 9 = .ok (.if_icmp .lt 17, 3) := by decide +kernel
theorem dX5_putNumber_12 : decode cX5_putNumber 12 = .ok (.aload_n 0, 1) := by decide +kernel
theorem dX5_putNumber_13 : decode cX5_putNumber 13 = .ok (.bipush 48, 2) := by decide +kernel
theorem dX5_putNumber_15 : decode cX5_putNumber 15 = .ok (.iload_n 1, 1) := by decide +kernel
theorem dX5_putNumber_16 : decode cX5_putNumber 16 = .ok (.bipush 100, 2) := by decide +kernel
theorem dX5_putNumber_18 : decode cX5_putNumber 18 = .ok (.idiv, 1) := by decide +kernel
theorem dX5_putNumber_19 : decode cX5_putNumber 19 = .ok (.bipush 10, 2) := by decide +kernel
theorem dX5_putNumber_21 : decode cX5_putNumber 21 = .ok (.irem, 1) := by decide +kernel
theorem dX5_putNumber_22 : decode cX5_putNumber 22 = .ok (.iadd, 1) := by decide +kernel
theorem dX5_putNumber_23 : decode cX5_putNumber 23 = .ok (.invokevirtual 25, 3) := by decide +kernel
theorem dX5_putNumber_26 : decode cX5_putNumber 26 = .ok (.iload_n 1, 1) := by decide +kernel
theorem dX5_putNumber_27 : decode cX5_putNumber 27 = .ok (.bipush 10, 2) := by decide +kernel
theorem dX5_putNumber_29 : decode cX5_putNumber 29 = .ok (.if_icmp .lt 17, 3) := by decide +kernel
theorem dX5_putNumber_32 : decode cX5_putNumber 32 = .ok (.aload_n 0, 1) := by decide +kernel
theorem dX5_putNumber_33 : decode cX5_putNumber 33 = .ok (.bipush 48, 2) := by decide +kernel
theorem dX5_putNumber_35 : decode cX5_putNumber 35 = .ok (.iload_n 1, 1) := by decide +kernel
theorem dX5_putNumber_36 : decode cX5_putNumber 36 = .ok (.bipush 10, 2) := by decide +kernel
theorem dX5_putNumber_38 : decode cX5_putNumber 38 = .ok (.idiv, 1) := by decide +kernel
theorem dX5_putNumber_39 : decode cX5_putNumber 39 = .ok (.bipush 10, 2) := by decide +kernel
theorem dX5_putNumber_41 : decode cX5_putNumber 41 = .ok (.irem, 1) := by decide +kernel
theorem dX5_putNumber_42 : decode cX5_putNumber 42 = .ok (.iadd, 1) := by decide +kernel
theorem dX5_putNumber_43 : decode cX5_putNumber 43 = .ok (.invokevirtual 25, 3) := by decide +kernel
theorem dX5_putNumber_46 : decode cX5_putNumber 46 = .ok (.aload_n 0, 1) := by decide +kernel
theorem dX5_putNumber_47 : decode cX5_putNumber 47 = .ok (.bipush 48, 2) := by decide +kernel
theorem dX5_putNumber_49 : decode cX5_putNumber 49 = .ok (.iload_n 1, 1) := by decide +kernel
theorem dX5_putNumber_50 : decode cX5_putNumber 50 = .ok (.bipush 10, 2) := by decide +kernel
theorem dX5_putNumber_52 : decode cX5_putNumber 52 = .ok (.irem, 1) := by decide +kernel
theorem dX5_putNumber_53 : decode cX5_putNumber 53 = .ok (.iadd, 1) := by decide +kernel
theorem dX5_putNumber_54 : decode cX5_putNumber 54 = .ok (.invokevirtual 25, 3) := by decide +kernel
theorem dX5_putNumber_57 : decode cX5_putNumber 57 = .ok (.return_, 1) := by decide +kernel
theorem dX6_init_0 : decode cX6_init 0 = .ok (.aload_n 0, 1) := by decide +kernel
theorem dX6_init_1 : decode cX6_init 1 = .ok (.invokespecial 3, 3) := by decide +kernel
theorem dX6_init_4 : decode cX6_init 4 = .ok (.aload_n 0, 1) := by decide +kernel
theorem dX6_init_5 : decode cX6_init 5 = .ok (.sipush 900, 3) := by decide +kernel
theorem dX6_init_8 : decode cX6_init 8 = .ok (.newarray .int, 2) := by decide +kernel
theorem dX6_init_10 : decode cX6_init 10 = .ok (.putfield 9, 3) := by decide +kernel
theorem dX6_init_13 : decode cX6_init 13 = .ok (.aload_n 0, 1) := by decide +kernel
theorem dX6_init_14 : decode cX6_init 14 = .ok (.bipush 10, 2) := by decide +kernel
theorem dX6_init_16 : decode cX6_init 16 = .ok (.newarray .long, 2) := by decide +kernel
theorem dX6_init_18 : decode cX6_init 18 = .ok (.putfield 15, 3) := by decide +kernel
theorem dX6_init_21 : decode cX6_init 21 = .ok (.iconst 0, 1) := by decide +kernel
theorem dX6_init_22 : decode cX6_init 22 = .ok (.istore_n 1, 1) := by decide +kernel
theorem dX6_init_23 : decode cX6_init 23 = .ok (.iload_n 1, 1) := by decide +kernel
theorem dX6_init_24 : decode cX6_init 24 = .ok (.bipush 10, 2) := by decide +kernel
theorem dX6_init_26 : decode cX6_init 26 = .ok (.if_icmp .ge 52, 3) := by decide +kernel
theorem dX6_init_29 : decode cX6_init 29 = .ok (.iload_n 1, 1) := by decide +kernel
theorem dX6_init_30 : decode cX6_init 30 = .ok (.invokestatic 19, 3) := by decide +kernel
theorem dX6_init_33 : decode cX6_init 33 = .ok (.astore_n 2, 1) := by decide +kernel
theorem dX6_init_34 : decode cX6_init 34 = .ok (.lconst 0, 1) := by decide +kernel
theorem dX6_init_35 : decode cX6_init 35 = .ok (.lstore_n 3, 1) := by decide +kernel
theorem dX6_init_36 : decode cX6_init 36 = .ok (.iconst 0, 1) := by decide +kernel
theorem dX6_init_37 : decode cX6_init 37 = .ok (.istore 5, 2) := by decide +kernel
theorem dX6_init_39 : decode cX6_init 39 = .ok (.iload 5, 2) := by decide +kernel
theorem dX6_init_41 : decode cX6_init 41 = .ok (.aload_n 2, 1) := by decide +kernel
theorem dX6_init_42 : decode cX6_init 42 = .ok (.invokevirtual 23, 3) := by decide +kernel
theorem dX6_init_45 : decode cX6_init 45 = .ok (.if_icmp .ge 20, 3) := by decide +kernel
theorem dX6_init_48 : decode cX6_init 48 = .ok (.lload_n 3, 1) := by decide +kernel
theorem dX6_init_49 : decode cX6_init 49 = .ok (.aload_n 2, 1) := by decide +kernel
theorem dX6_init_50 : decode cX6_init 50 = .ok (.iload 5, 2) := by decide +kernel
theorem dX6_init_52 : decode cX6_init 52 = .ok (.invokevirtual 29, 3) := by decide +kernel
theorem dX6_init_55 : decode cX6_init 55 = .ok (.invokestatic 33, 3) := by decide +kernel
theorem dX6_init_58 : decode cX6_init 58 = .ok (.lstore_n 3, 1) := by decide +kernel
theorem dX6_init_59 : decode cX6_init 59 = .ok (.iinc 5 1, 3) := by decide +kernel
theorem dX6_init_62 : decode cX6_init 62 = .ok (.goto (-23), 3) := by decide +kernel
theorem dX6_init_65 : decode cX6_init 65 = .ok (.aload_n 0, 1) := by decide +kernel
theorem dX6_init_66 : decode cX6_init 66 = .ok (.getfield 15, 3) := by decide +kernel
theorem dX6_init_69 : decode cX6_init 69 = .ok (.iload_n 1, 1) := by decide +kernel
theorem dX6_init_70 : decode cX6_init 70 = .ok (.lload_n 3, 1) := by decide +kernel
theorem dX6_init_71 : decode cX6_init 71 = .ok (.lastore, 1) := by decide +kernel
theorem dX6_init_72 : decode cX6_init 72 = .ok (.iinc 1 1, 3) := by decide +kernel
theorem dX6_init_75 : decode cX6_init 75 = .ok (.goto (-52), 3) := by decide +kernel
theorem dX6_init_78 : decode cX6_init 78 = .ok (.aload_n 0, 1) := by decide +kernel
theorem dX6_init_79 : decode cX6_init 79 = .ok (.iconst (-1), 1) := by decide +kernel
theorem dX6_init_80 : decode cX6_init 80 = .ok (.putfield 37, 3) := by decide +kernel
theorem dX6_init_83 : decode cX6_init 83 = .ok (.aload_n 0, 1) := by decide +kernel
theorem dX6_init_84 : decode cX6_init 84 = .ok (.iconst (-1), 1) := by decide +kernel
theorem dX6_init_85 : decode cX6_init 85 = .ok (.putfield 41, 3) := by decide +kernel
theorem dX6_init_88 : decode cX6_init 88 = .ok (.return_, 1) := by decide +kernel
theorem dX6_packLetter_0 : decode cX6_packLetter 0 = .ok (.lload_n 0, 1) := by decide +kernel
theorem dX6_packLetter_1 : decode cX6_packLetter 1 = .ok (.ldc2_w 44, 3) := by decide +kernel
theorem dX6_packLetter_4 : decode cX6_packLetter 4 = .ok (.lmul, 1) := by decide +kernel
theorem dX6_packLetter_5 : decode cX6_packLetter 5 = .ok (.iload_n 2, 1) := by decide +kernel
theorem dX6_packLetter_6 : decode cX6_packLetter 6 = .ok (.bipush 97, 2) := by decide +kernel
theorem dX6_packLetter_8 : decode cX6_packLetter 8 = .ok (.isub, 1) := by decide +kernel
theorem dX6_packLetter_9 : decode cX6_packLetter 9 = .ok (.iconst 1, 1) := by decide +kernel
theorem dX6_packLetter_10 : decode cX6_packLetter 10 = .ok (.iadd, 1) := by decide +kernel
theorem dX6_packLetter_11 : decode cX6_packLetter 11 = .ok (.i2l, 1) := by decide +kernel
theorem dX6_packLetter_12 : decode cX6_packLetter 12 = .ok (.ladd, 1) := by decide +kernel
theorem dX6_packLetter_13 : decode cX6_packLetter 13 = .ok (.lreturn, 1) := by decide +kernel
theorem dX6_hasRoom_0 : decode cX6_hasRoom 0 = .ok (.aload_n 0, 1) := by decide +kernel
theorem dX6_hasRoom_1 : decode cX6_hasRoom 1 = .ok (.getfield 46, 3) := by decide +kernel
theorem dX6_hasRoom_4 : decode cX6_hasRoom 4 = .ok (.iload_n 1, 1) := by decide +kernel
theorem dX6_hasRoom_5 : decode cX6_hasRoom 5 = .ok (.iadd, 1) := by decide +kernel
theorem dX6_hasRoom_6 : decode cX6_hasRoom 6 = .ok (.sipush 900, 3) := by decide +kernel
theorem dX6_hasRoom_9 : decode cX6_hasRoom 9 = .ok (.if_icmp .gt 7, 3) := by decide +kernel
theorem dX6_hasRoom_12 : decode cX6_hasRoom 12 = .ok (.iconst 1, 1) := by decide +kernel
theorem dX6_hasRoom_13 : decode cX6_hasRoom 13 = .ok (.goto 4, 3) := by decide +kernel
theorem dX6_hasRoom_16 : decode cX6_hasRoom 16 = .ok (.iconst 0, 1) := by decide +kernel
theorem dX6_hasRoom_17 : decode cX6_hasRoom 17 = .ok (.ireturn, 1) := by decide +kernel
theorem dX6_append_0 : decode cX6_append 0 = .ok (.bipush 24, 2) := by decide +kernel
theorem dX6_append_2 : decode cX6_append 2 = .ok (.istore_n 2, 1) := by decide +kernel
theorem dX6_append_3 : decode cX6_append 3 = .ok (.iload_n 2, 1) := by decide +kernel
theorem dX6_append_4 : decode cX6_append 4 = .ok (.ifCond .lt 45, 3) := by decide +kernel
theorem dX6_append_7 : decode cX6_append 7 = .ok (.aload_n 0, 1) := by decide +kernel
theorem dX6_append_8 : decode cX6_append 8 = .ok (.getfield 46, 3) := by decide +kernel
theorem dX6_append_11 : decode cX6_append 11 = .ok (.sipush 900, 3) := by decide +kernel
theorem dX6_append_14 : decode cX6_append 14 = .ok (.if_icmp .ge 35, 3) := by decide +kernel
theorem dX6_append_17 : decode cX6_append 17 = .ok (.aload_n 0, 1) := by decide +kernel
theorem dX6_append_18 : decode cX6_append 18 = .ok (.getfield 9, 3) := by decide +kernel
theorem dX6_append_21 : decode cX6_append 21 = .ok (.aload_n 0, 1) := by decide +kernel
theorem dX6_append_22 : decode cX6_append 22 = .ok (.getfield 46, 3) := by decide +kernel
theorem dX6_append_25 : decode cX6_append 25 = .ok (.iload_n 1, 1) := by decide +kernel
theorem dX6_append_26 : decode cX6_append 26 = .ok (.iload_n 2, 1) := by decide +kernel
theorem dX6_append_27 : decode cX6_append 27 = .ok (.iushr, 1) := by decide +kernel
theorem dX6_append_28 : decode cX6_append 28 = .ok (.sipush 255, 3) := by decide +kernel
theorem dX6_append_31 : decode cX6_append 31 = .ok (.iand, 1) := by decide +kernel
theorem dX6_append_32 : decode cX6_append 32 = .ok (.iastore, 1) := by decide +kernel
theorem dX6_append_33 : decode cX6_append 33 = .ok (.aload_n 0, 1) := by decide +kernel
theorem dX6_append_34 : decode cX6_append 34 = .ok (.dup, 1) := by decide +kernel
theorem dX6_append_35 : decode cX6_append 35 = .ok (.getfield 46, 3) := by decide +kernel
theorem dX6_append_38 : decode cX6_append 38 = .ok (.iconst 1, 1) := by decide +kernel
theorem dX6_append_39 : decode cX6_append 39 = .ok (.iadd, 1) := by decide +kernel
theorem dX6_append_40 : decode cX6_append 40 = .ok (.putfield 46, 3) := by decide +kernel
theorem dX6_append_43 : decode cX6_append 43 = .ok (.iinc 2 (-8), 3) := by decide +kernel
theorem dX6_append_46 : decode cX6_append 46 = .ok (.goto (-43), 3) := by decide +kernel
theorem dX6_append_49 : decode cX6_append 49 = .ok (.return_, 1) := by decide +kernel
theorem dX6_readText_0 : decode cX6_readText 0 = .ok (.aload_n 1, 1) := by decide +kernel
theorem dX6_readText_1 : decode cX6_readText 1 = .ok (.invokevirtual 48, 3) := by decide +kernel
theorem dX6_readText_4 : decode cX6_readText 4 = .ok (.aload_n 0, 1) := by decide +kernel
theorem dX6_readText_5 : decode cX6_readText 5 = .ok (.iload_n 2, 1) := by decide +kernel
theorem dX6_readText_6 : decode cX6_readText 6 = .ok (.putfield 53, 3) := by decide +kernel
theorem dX6_readText_9 : decode cX6_readText 9 = .ok (.aload_n 0, 1) := by decide +kernel
theorem dX6_readText_10 : decode cX6_readText 10 = .ok (.iconst 0, 1) := by decide +kernel
theorem dX6_readText_11 : decode cX6_readText 11 = .ok (.putfield 56, 3) := by decide +kernel
theorem dX6_readText_14 : decode cX6_readText 14 = .ok (.aload_n 0, 1) := by decide +kernel
theorem dX6_readText_15 : decode cX6_readText 15 = .ok (.iconst 0, 1) := by decide +kernel
theorem dX6_readText_16 : decode cX6_readText 16 = .ok (.putfield 37, 3) := by decide +kernel
theorem dX6_readText_19 : decode cX6_readText 19 = .ok (.aload_n 0, 1) := by decide +kernel
theorem dX6_readText_20 : decode cX6_readText 20 = .ok (.iconst (-1), 1) := by decide +kernel
theorem dX6_readText_21 : decode cX6_readText 21 = .ok (.putfield 41, 3) := by decide +kernel
theorem dX6_readText_24 : decode cX6_readText 24 = .ok (.aload_n 0, 1) := by decide +kernel
theorem dX6_readText_25 : decode cX6_readText 25 = .ok (.invokevirtual 59, 3) := by decide +kernel
theorem dX6_readText_28 : decode cX6_readText 28 = .ok (.iconst 0, 1) := by decide +kernel
theorem dX6_readText_29 : decode cX6_readText 29 = .ok (.istore_n 3, 1) := by decide +kernel
theorem dX6_readText_30 : decode cX6_readText 30 = .ok (.iload_n 3, 1) := by decide +kernel
theorem dX6_readText_31 : decode cX6_readText 31 = .ok (.sipush 900, 3) := by decide +kernel
theorem dX6_readText_34 : decode cX6_readText 34 = .ok (.if_icmp .gt 33, 3) := by decide +kernel
theorem dX6_readText_37 : decode cX6_readText 37 = .ok (.aload_n 0, 1) := by decide +kernel
theorem dX6_readText_38 : decode cX6_readText 38 = .ok (.getfield 62, 3) := by decide +kernel
theorem dX6_readText_41 : decode cX6_readText 41 = .ok (.ifCond .eq 26, 3) := by decide +kernel
theorem dX6_readText_44 : decode cX6_readText 44 = .ok (.aload_n 0, 1) := by decide +kernel
theorem dX6_readText_45 : decode cX6_readText 45 = .ok (.aload_n 1, 1) := by decide +kernel
theorem dX6_readText_46 : decode cX6_readText 46 = .ok (.invokevirtual 65, 3) := by decide +kernel
theorem dX6_readText_49 : decode cX6_readText 49 = .ok (.ifCond .eq 10, 3) := by decide +kernel
theorem dX6_readText_52 : decode cX6_readText 52 = .ok (.aload_n 0, 1) := by decide +kernel
theorem dX6_readText_53 : decode cX6_readText 53 = .ok (.invokevirtual 69, 3) := by decide +kernel
theorem dX6_readText_56 : decode cX6_readText 56 = .ok (.ifCond .ne 5, 3) := by decide +kernel
theorem dX6_readText_59 : decode cX6_readText 59 = .ok (.iconst 0, 1) := by decide +kernel
theorem dX6_readText_60 : decode cX6_readText 60 = .ok (.ireturn, 1) := by decide +kernel
theorem dX6_readText_61 : decode cX6_readText 61 = .ok (.iinc 3 1, 3) := by decide +kernel
theorem dX6_readText_64 : decode cX6_readText 64 = .ok (.goto (-34), 3) := by decide +kernel
theorem dX6_readText_67 : decode cX6_readText 67 = .ok (.iconst 1, 1) := by decide +kernel
theorem dX6_readText_68 : decode cX6_readText 68 = .ok (.ireturn, 1) := by decide +kernel
theorem dX6_readLine_0 : decode cX6_readLine 0 = .ok (.aload_n 0, 1) := by decide +kernel
theorem dX6_readLine_1 : decode cX6_readLine 1 = .ok (.getfield 62, 3) := by decide +kernel
theorem dX6_readLine_4 : decode cX6_readLine 4 = .ok (.iconst 1, 1) := by decide +kernel
theorem dX6_readLine_5 : decode cX6_readLine 5 = .ok (.if_icmp .eq 8, 3) := by decide +kernel
theorem dX6_readLine_8 : decode cX6_readLine 8 = .ok (.aload_n 0, 1) := by decide +kernel
theorem dX6_readLine_9 : decode cX6_readLine 9 = .ok (.invokevirtual 73, 3) := by decide +kernel
theorem dX6_readLine_12 : decode cX6_readLine 12 = .ok (.ireturn, 1) := by decide +kernel
theorem dX6_readLine_13 : decode cX6_readLine 13 = .ok (.aload_n 0, 1) := by decide +kernel
theorem dX6_readLine_14 : decode cX6_readLine 14 = .ok (.getfield 76, 3) := by decide +kernel
theorem dX6_readLine_17 : decode cX6_readLine 17 = .ok (.tableswitch 51 0 2 #[27, 35, 43], 27) := by decide +kernel
theorem dX6_readLine_44 : decode cX6_readLine 44 = .ok (.aload_n 0, 1) := by decide +kernel
theorem dX6_readLine_45 : decode cX6_readLine 45 = .ok (.aload_n 1, 1) := by decide +kernel
theorem dX6_readLine_46 : decode cX6_readLine 46 = .ok (.invokevirtual 78, 3) := by decide +kernel
theorem dX6_readLine_49 : decode cX6_readLine 49 = .ok (.goto 23, 3) := by decide +kernel
theorem dX6_readLine_52 : decode cX6_readLine 52 = .ok (.aload_n 0, 1) := by decide +kernel
theorem dX6_readLine_53 : decode cX6_readLine 53 = .ok (.aload_n 1, 1) := by decide +kernel
theorem dX6_readLine_54 : decode cX6_readLine 54 = .ok (.invokevirtual 81, 3) := by decide +kernel
theorem dX6_readLine_57 : decode cX6_readLine 57 = .ok (.goto 15, 3) := by decide +kernel
theorem dX6_readLine_60 : decode cX6_readLine 60 = .ok (.aload_n 0, 1) := by decide +kernel
theorem dX6_readLine_61 : decode cX6_readLine 61 = .ok (.aload_n 1, 1) := by decide +kernel
theorem dX6_readLine_62 : decode cX6_readLine 62 = .ok (.invokevirtual 84, 3) := by decide +kernel
theorem dX6_readLine_65 : decode cX6_readLine 65 = .ok (.goto 7, 3) := by decide +kernel
theorem dX6_readLine_68 : decode cX6_readLine 68 = .ok (.aload_n 0, 1) := by decide +kernel
theorem dX6_readLine_69 : decode cX6_readLine 69 = .ok (.invokevirtual 73, 3) := by decide +kernel
theorem dX6_readLine_72 : decode cX6_readLine 72 = .ok (.ireturn, 1) := by decide +kernel
theorem dX6_readHome_0 : decode cX6_readHome 0 = .ok (.aload_n 1, 1) := by decide +kernel
theorem dX6_readHome_1 : decode cX6_readHome 1 = .ok (.getfield 87, 3) := by decide +kernel
theorem dX6_readHome_4 : decode cX6_readHome 4 = .ok (.bipush 10, 2) := by decide +kernel
theorem dX6_readHome_6 : decode cX6_readHome 6 = .ok (.if_icmp .lt 9, 3) := by decide +kernel
theorem dX6_readHome_9 : decode cX6_readHome 9 = .ok (.aload_n 0, 1) := by decide +kernel
theorem dX6_readHome_10 : decode cX6_readHome 10 = .ok (.iconst 5, 1) := by decide +kernel
theorem dX6_readHome_11 : decode cX6_readHome 11 = .ok (.invokevirtual 90, 3) := by decide +kernel
theorem dX6_readHome_14 : decode cX6_readHome 14 = .ok (.ireturn, 1) := by decide +kernel
theorem dX6_readHome_15 : decode cX6_readHome 15 = .ok (.aload_n 0, 1) := by decide +kernel
theorem dX6_readHome_16 : decode cX6_readHome 16 = .ok (.invokevirtual 59, 3) := by decide +kernel
theorem dX6_readHome_19 : decode cX6_readHome 19 = .ok (.aload_n 0, 1) := by decide +kernel
theorem dX6_readHome_20 : decode cX6_readHome 20 = .ok (.aload_n 1, 1) := by decide +kernel
theorem dX6_readHome_21 : decode cX6_readHome 21 = .ok (.invokevirtual 94, 3) := by decide +kernel
theorem dX6_readHome_24 : decode cX6_readHome 24 = .ok (.ifCond .ne 5, 3) := by decide +kernel
theorem dX6_readHome_27 : decode cX6_readHome 27 = .ok (.iconst 0, 1) := by decide +kernel
theorem dX6_readHome_28 : decode cX6_readHome 28 = .ok (.ireturn, 1) := by decide +kernel
theorem dX6_readHome_29 : decode cX6_readHome 29 = .ok (.aload_n 1, 1) := by decide +kernel
theorem dX6_readHome_30 : decode cX6_readHome 30 = .ok (.aload_n 0, 1) := by decide +kernel
theorem dX6_readHome_31 : decode cX6_readHome 31 = .ok (.getfield 97, 3) := by decide +kernel
theorem dX6_readHome_34 : decode cX6_readHome 34 = .ok (.invokevirtual 101, 3) := by decide +kernel
theorem dX6_readHome_37 : decode cX6_readHome 37 = .ok (.astore_n 2, 1) := by decide +kernel
theorem dX6_readHome_38 : decode cX6_readHome 38 = .ok (.aload_n 2, 1) := by decide +kernel
theorem dX6_readHome_39 : decode cX6_readHome 39 = .ok (.ifnonnull 9, 3) := by decide +kernel
theorem dX6_readHome_42 : decode cX6_readHome 42 = .ok (.aload_n 0, 1) := by decide +kernel
theorem dX6_readHome_43 : decode cX6_readHome 43 = .ok (.iconst 5, 1) := by decide +kernel
theorem dX6_readHome_44 : decode cX6_readHome 44 = .ok (.invokevirtual 90, 3) := by decide +kernel
theorem dX6_readHome_47 : decode cX6_readHome 47 = .ok (.ireturn, 1) := by decide +kernel
theorem dX6_readHome_48 : decode cX6_readHome 48 = .ok (.aload_n 0, 1) := by decide +kernel
theorem dX6_readHome_49 : decode cX6_readHome 49 = .ok (.invokevirtual 59, 3) := by decide +kernel
theorem dX6_readHome_52 : decode cX6_readHome 52 = .ok (.aload_n 0, 1) := by decide +kernel
theorem dX6_readHome_53 : decode cX6_readHome 53 = .ok (.iconst 1, 1) := by decide +kernel
theorem dX6_readHome_54 : decode cX6_readHome 54 = .ok (.iconst 4, 1) := by decide +kernel
theorem dX6_readHome_55 : decode cX6_readHome 55 = .ok (.invokevirtual 105, 3) := by decide +kernel
theorem dX6_readHome_58 : decode cX6_readHome 58 = .ok (.ifCond .ne 5, 3) := by decide +kernel
theorem dX6_readHome_61 : decode cX6_readHome 61 = .ok (.iconst 0, 1) := by decide +kernel
theorem dX6_readHome_62 : decode cX6_readHome 62 = .ok (.ireturn, 1) := by decide +kernel
theorem dX6_readHome_63 : decode cX6_readHome 63 = .ok (.aload_n 2, 1) := by decide +kernel
theorem dX6_readHome_64 : decode cX6_readHome 64 = .ok (.aload_n 0, 1) := by decide +kernel
theorem dX6_readHome_65 : decode cX6_readHome 65 = .ok (.getfield 109, 3) := by decide +kernel
theorem dX6_readHome_68 : decode cX6_readHome 68 = .ok (.putfield 112, 3) := by decide +kernel
theorem dX6_readHome_71 : decode cX6_readHome 71 = .ok (.aload_n 0, 1) := by decide +kernel
theorem dX6_readHome_72 : decode cX6_readHome 72 = .ok (.invokevirtual 59, 3) := by decide +kernel
theorem dX6_readHome_75 : decode cX6_readHome 75 = .ok (.aload_n 0, 1) := by decide +kernel
theorem dX6_readHome_76 : decode cX6_readHome 76 = .ok (.iconst 0, 1) := by decide +kernel
theorem dX6_readHome_77 : decode cX6_readHome 77 = .ok (.bipush 7, 2) := by decide +kernel
theorem dX6_readHome_79 : decode cX6_readHome 79 = .ok (.invokevirtual 105, 3) := by decide +kernel
theorem dX6_readHome_82 : decode cX6_readHome 82 = .ok (.ifCond .ne 5, 3) := by decide +kernel
theorem dX6_readHome_85 : decode cX6_readHome 85 = .ok (.iconst 0, 1) := by decide +kernel
theorem dX6_readHome_86 : decode cX6_readHome 86 = .ok (.ireturn, 1) := by decide +kernel
theorem dX6_readHome_87 : decode cX6_readHome 87 = .ok (.aload_n 2, 1) := by decide +kernel
theorem dX6_readHome_88 : decode cX6_readHome 88 = .ok (.aload_n 0, 1) := by decide +kernel
theorem dX6_readHome_89 : decode cX6_readHome 89 = .ok (.getfield 109, 3) := by decide +kernel
theorem dX6_readHome_92 : decode cX6_readHome 92 = .ok (.putfield 117, 3) := by decide +kernel
theorem dX6_readHome_95 : decode cX6_readHome 95 = .ok (.aload_n 0, 1) := by decide +kernel
theorem dX6_readHome_96 : decode cX6_readHome 96 = .ok (.invokevirtual 59, 3) := by decide +kernel
theorem dX6_readHome_99 : decode cX6_readHome 99 = .ok (.iconst 1, 1) := by decide +kernel
theorem dX6_readHome_100 : decode cX6_readHome 100 = .ok (.ireturn, 1) := by decide +kernel
theorem dX6_readHouse_0 : decode cX6_readHouse 0 = .ok (.aload_n 1, 1) := by decide +kernel
theorem dX6_readHouse_1 : decode cX6_readHouse 1 = .ok (.getfield 120, 3) := by decide +kernel
theorem dX6_readHouse_4 : decode cX6_readHouse 4 = .ok (.bipush 8, 2) := by decide +kernel
theorem dX6_readHouse_6 : decode cX6_readHouse 6 = .ok (.if_icmp .lt 9, 3) := by decide +kernel
theorem dX6_readHouse_9 : decode cX6_readHouse 9 = .ok (.aload_n 0, 1) := by decide +kernel
theorem dX6_readHouse_10 : decode cX6_readHouse 10 = .ok (.iconst 5, 1) := by decide +kernel
theorem dX6_readHouse_11 : decode cX6_readHouse 11 = .ok (.invokevirtual 90, 3) := by decide +kernel
theorem dX6_readHouse_14 : decode cX6_readHouse 14 = .ok (.ireturn, 1) := by decide +kernel
theorem dX6_readHouse_15 : decode cX6_readHouse 15 = .ok (.aload_n 0, 1) := by decide +kernel
theorem dX6_readHouse_16 : decode cX6_readHouse 16 = .ok (.invokevirtual 59, 3) := by decide +kernel
theorem dX6_readHouse_19 : decode cX6_readHouse 19 = .ok (.aload_n 0, 1) := by decide +kernel
theorem dX6_readHouse_20 : decode cX6_readHouse 20 = .ok (.aload_n 1, 1) := by decide +kernel
theorem dX6_readHouse_21 : decode cX6_readHouse 21 = .ok (.invokevirtual 94, 3) := by decide +kernel
theorem dX6_readHouse_24 : decode cX6_readHouse 24 = .ok (.ifCond .ne 5, 3) := by decide +kernel
theorem dX6_readHouse_27 : decode cX6_readHouse 27 = .ok (.iconst 0, 1) := by decide +kernel
theorem dX6_readHouse_28 : decode cX6_readHouse 28 = .ok (.ireturn, 1) := by decide +kernel
theorem dX6_readHouse_29 : decode cX6_readHouse 29 = .ok (.aload_n 1, 1) := by decide +kernel
theorem dX6_readHouse_30 : decode cX6_readHouse 30 = .ok (.aload_n 0, 1) := by decide +kernel
theorem dX6_readHouse_31 : decode cX6_readHouse 31 = .ok (.getfield 97, 3) := by decide +kernel
theorem dX6_readHouse_34 : decode cX6_readHouse 34 = .ok (.invokevirtual 123, 3) := by decide +kernel
theorem dX6_readHouse_37 : decode cX6_readHouse 37 = .ok (.astore_n 2, 1) := by decide +kernel
theorem dX6_readHouse_38 : decode cX6_readHouse 38 = .ok (.aload_n 2, 1) := by decide +kernel
theorem dX6_readHouse_39 : decode cX6_readHouse 39 = .ok (.ifnonnull 9, 3) := by decide +kernel
theorem dX6_readHouse_42 : decode cX6_readHouse 42 = .ok (.aload_n 0, 1) := by decide +kernel
theorem dX6_readHouse_43 : decode cX6_readHouse 43 = .ok (.iconst 5, 1) := by decide +kernel
theorem dX6_readHouse_44 : decode cX6_readHouse 44 = .ok (.invokevirtual 90, 3) := by decide +kernel
theorem dX6_readHouse_47 : decode cX6_readHouse 47 = .ok (.ireturn, 1) := by decide +kernel
theorem dX6_readHouse_48 : decode cX6_readHouse 48 = .ok (.aload_n 0, 1) := by decide +kernel
theorem dX6_readHouse_49 : decode cX6_readHouse 49 = .ok (.invokevirtual 59, 3) := by decide +kernel
theorem dX6_readHouse_52 : decode cX6_readHouse 52 = .ok (.aload_n 0, 1) := by decide +kernel
theorem dX6_readHouse_53 : decode cX6_readHouse 53 = .ok (.aload_n 2, 1) := by decide +kernel
theorem dX6_readHouse_54 : decode cX6_readHouse 54 = .ok (.invokevirtual 127, 3) := by decide +kernel
theorem dX6_readHouse_57 : decode cX6_readHouse 57 = .ok (.ifCond .eq 25, 3) := by decide +kernel
theorem dX6_readHouse_60 : decode cX6_readHouse 60 = .ok (.aload_n 0, 1) := by decide +kernel
theorem dX6_readHouse_61 : decode cX6_readHouse 61 = .ok (.aload_n 1, 1) := by decide +kernel
theorem dX6_readHouse_62 : decode cX6_readHouse 62 = .ok (.aload_n 2, 1) := by decide +kernel
theorem dX6_readHouse_63 : decode cX6_readHouse 63 = .ok (.invokevirtual 131, 3) := by decide +kernel
theorem dX6_readHouse_66 : decode cX6_readHouse 66 = .ok (.ifCond .eq 16, 3) := by decide +kernel
theorem dX6_readHouse_69 : decode cX6_readHouse 69 = .ok (.aload_n 0, 1) := by decide +kernel
theorem dX6_readHouse_70 : decode cX6_readHouse 70 = .ok (.aload_n 1, 1) := by decide +kernel
theorem dX6_readHouse_71 : decode cX6_readHouse 71 = .ok (.aload_n 2, 1) := by decide +kernel
theorem dX6_readHouse_72 : decode cX6_readHouse 72 = .ok (.invokevirtual 135, 3) := by decide +kernel
theorem dX6_readHouse_75 : decode cX6_readHouse 75 = .ok (.ifCond .eq 7, 3) := by decide +kernel
theorem dX6_readHouse_78 : decode cX6_readHouse 78 = .ok (.iconst 1, 1) := by decide +kernel
theorem dX6_readHouse_79 : decode cX6_readHouse 79 = .ok (.goto 4, 3) := by decide +kernel
theorem dX6_readHouse_82 : decode cX6_readHouse 82 = .ok (.iconst 0, 1) := by decide +kernel
theorem dX6_readHouse_83 : decode cX6_readHouse 83 = .ok (.ireturn, 1) := by decide +kernel
theorem dX6_readNumbers_0 : decode cX6_readNumbers 0 = .ok (.aload_n 0, 1) := by decide +kernel
theorem dX6_readNumbers_1 : decode cX6_readNumbers 1 = .ok (.iconst 1, 1) := by decide +kernel
theorem dX6_readNumbers_2 : decode cX6_readNumbers 2 = .ok (.iconst 4, 1) := by decide +kernel
theorem dX6_readNumbers_3 : decode cX6_readNumbers 3 = .ok (.invokevirtual 105, 3) := by decide +kernel
theorem dX6_readNumbers_6 : decode cX6_readNumbers 6 = .ok (.ifCond .ne 5, 3) := by decide +kernel
theorem dX6_readNumbers_9 : decode cX6_readNumbers 9 = .ok (.iconst 0, 1) := by decide +kernel
theorem dX6_readNumbers_10 : decode cX6_readNumbers 10 = .ok (.ireturn, 1) := by decide +kernel
theorem dX6_readNumbers_11 : decode cX6_readNumbers 11 = .ok (.aload_n 1, 1) := by decide +kernel
theorem dX6_readNumbers_12 : decode cX6_readNumbers 12 = .ok (.aload_n 0, 1) := by decide +kernel
theorem dX6_readNumbers_13 : decode cX6_readNumbers 13 = .ok (.getfield 109, 3) := by decide +kernel
theorem dX6_readNumbers_16 : decode cX6_readNumbers 16 = .ok (.putfield 138, 3) := by decide +kernel
theorem dX6_readNumbers_19 : decode cX6_readNumbers 19 = .ok (.aload_n 0, 1) := by decide +kernel
theorem dX6_readNumbers_20 : decode cX6_readNumbers 20 = .ok (.invokevirtual 59, 3) := by decide +kernel
theorem dX6_readNumbers_23 : decode cX6_readNumbers 23 = .ok (.aload_n 0, 1) := by decide +kernel
theorem dX6_readNumbers_24 : decode cX6_readNumbers 24 = .ok (.iconst 1, 1) := by decide +kernel
theorem dX6_readNumbers_25 : decode cX6_readNumbers 25 = .ok (.iconst 4, 1) := by decide +kernel
theorem dX6_readNumbers_26 : decode cX6_readNumbers 26 = .ok (.invokevirtual 105, 3) := by decide +kernel
theorem dX6_readNumbers_29 : decode cX6_readNumbers 29 = .ok (.ifCond .ne 5, 3) := by decide +kernel
theorem dX6_readNumbers_32 : decode cX6_readNumbers 32 = .ok (.iconst 0, 1) := by decide +kernel
theorem dX6_readNumbers_33 : decode cX6_readNumbers 33 = .ok (.ireturn, 1) := by decide +kernel
theorem dX6_readNumbers_34 : decode cX6_readNumbers 34 = .ok (.aload_n 1, 1) := by decide +kernel
theorem dX6_readNumbers_35 : decode cX6_readNumbers 35 = .ok (.aload_n 0, 1) := by decide +kernel
theorem dX6_readNumbers_36 : decode cX6_readNumbers 36 = .ok (.getfield 109, 3) := by decide +kernel
theorem dX6_readNumbers_39 : decode cX6_readNumbers 39 = .ok (.putfield 143, 3) := by decide +kernel
theorem dX6_readNumbers_42 : decode cX6_readNumbers 42 = .ok (.aload_n 0, 1) := by decide +kernel
theorem dX6_readNumbers_43 : decode cX6_readNumbers 43 = .ok (.invokevirtual 59, 3) := by decide +kernel
theorem dX6_readNumbers_46 : decode cX6_readNumbers 46 = .ok (.aload_n 0, 1) := by decide +kernel
theorem dX6_readNumbers_47 : decode cX6_readNumbers 47 = .ok (.iconst 0, 1) := by decide +kernel
theorem dX6_readNumbers_48 : decode cX6_readNumbers 48 = .ok (.bipush 7, 2) := by decide +kernel
theorem dX6_readNumbers_50 : decode cX6_readNumbers 50 = .ok (.invokevirtual 105, 3) := by decide +kernel
theorem dX6_readNumbers_53 : decode cX6_readNumbers 53 = .ok (.ifCond .ne 5, 3) := by decide +kernel
theorem dX6_readNumbers_56 : decode cX6_readNumbers 56 = .ok (.iconst 0, 1) := by decide +kernel
theorem dX6_readNumbers_57 : decode cX6_readNumbers 57 = .ok (.ireturn, 1) := by decide +kernel
theorem dX6_readNumbers_58 : decode cX6_readNumbers 58 = .ok (.aload_n 1, 1) := by decide +kernel
theorem dX6_readNumbers_59 : decode cX6_readNumbers 59 = .ok (.aload_n 0, 1) := by decide +kernel
theorem dX6_readNumbers_60 : decode cX6_readNumbers 60 = .ok (.getfield 109, 3) := by decide +kernel
theorem dX6_readNumbers_63 : decode cX6_readNumbers 63 = .ok (.putfield 146, 3) := by decide +kernel
theorem dX6_readNumbers_66 : decode cX6_readNumbers 66 = .ok (.aload_n 0, 1) := by decide +kernel
theorem dX6_readNumbers_67 : decode cX6_readNumbers 67 = .ok (.invokevirtual 59, 3) := by decide +kernel
theorem dX6_readNumbers_70 : decode cX6_readNumbers 70 = .ok (.aload_n 0, 1) := by decide +kernel
theorem dX6_readNumbers_71 : decode cX6_readNumbers 71 = .ok (.iconst 0, 1) := by decide +kernel
theorem dX6_readNumbers_72 : decode cX6_readNumbers 72 = .ok (.sipush 999, 3) := by decide +kernel
theorem dX6_readNumbers_75 : decode cX6_readNumbers 75 = .ok (.invokevirtual 105, 3) := by decide +kernel
theorem dX6_readNumbers_78 : decode cX6_readNumbers 78 = .ok (.ifCond .ne 5, 3) := by decide +kernel
theorem dX6_readNumbers_81 : decode cX6_readNumbers 81 = .ok (.iconst 0, 1) := by decide +kernel
theorem dX6_readNumbers_82 : decode cX6_readNumbers 82 = .ok (.ireturn, 1) := by decide +kernel
theorem dX6_readNumbers_83 : decode cX6_readNumbers 83 = .ok (.aload_n 1, 1) := by decide +kernel
theorem dX6_readNumbers_84 : decode cX6_readNumbers 84 = .ok (.aload_n 0, 1) := by decide +kernel
theorem dX6_readNumbers_85 : decode cX6_readNumbers 85 = .ok (.getfield 109, 3) := by decide +kernel
theorem dX6_readNumbers_88 : decode cX6_readNumbers 88 = .ok (.putfield 149, 3) := by decide +kernel
theorem dX6_readNumbers_91 : decode cX6_readNumbers 91 = .ok (.aload_n 0, 1) := by decide +kernel
theorem dX6_readNumbers_92 : decode cX6_readNumbers 92 = .ok (.invokevirtual 59, 3) := by decide +kernel
theorem dX6_readNumbers_95 : decode cX6_readNumbers 95 = .ok (.iconst 1, 1) := by decide +kernel
theorem dX6_readNumbers_96 : decode cX6_readNumbers 96 = .ok (.ireturn, 1) := by decide +kernel
theorem dX6_readWhere_0 : decode cX6_readWhere 0 = .ok (.aload_n 0, 1) := by decide +kernel
theorem dX6_readWhere_1 : decode cX6_readWhere 1 = .ok (.getfield 62, 3) := by decide +kernel
theorem dX6_readWhere_4 : decode cX6_readWhere 4 = .ok (.iconst 1, 1) := by decide +kernel
theorem dX6_readWhere_5 : decode cX6_readWhere 5 = .ok (.if_icmp .ne 11, 3) := by decide +kernel
theorem dX6_readWhere_8 : decode cX6_readWhere 8 = .ok (.aload_n 0, 1) := by decide +kernel
theorem dX6_readWhere_9 : decode cX6_readWhere 9 = .ok (.getfield 76, 3) := by decide +kernel
theorem dX6_readWhere_12 : decode cX6_readWhere 12 = .ok (.iconst 3, 1) := by decide +kernel
theorem dX6_readWhere_13 : decode cX6_readWhere 13 = .ok (.if_icmp .eq 5, 3) := by decide +kernel
theorem dX6_readWhere_16 : decode cX6_readWhere 16 = .ok (.iconst 1, 1) := by decide +kernel
theorem dX6_readWhere_17 : decode cX6_readWhere 17 = .ok (.ireturn, 1) := by decide +kernel
theorem dX6_readWhere_18 : decode cX6_readWhere 18 = .ok (.aload_n 0, 1) := by decide +kernel
theorem dX6_readWhere_19 : decode cX6_readWhere 19 = .ok (.invokevirtual 59, 3) := by decide +kernel
theorem dX6_readWhere_22 : decode cX6_readWhere 22 = .ok (.aload_n 0, 1) := by decide +kernel
theorem dX6_readWhere_23 : decode cX6_readWhere 23 = .ok (.invokevirtual 152, 3) := by decide +kernel
theorem dX6_readWhere_26 : decode cX6_readWhere 26 = .ok (.ifCond .ne 8, 3) := by decide +kernel
theorem dX6_readWhere_29 : decode cX6_readWhere 29 = .ok (.aload_n 0, 1) := by decide +kernel
theorem dX6_readWhere_30 : decode cX6_readWhere 30 = .ok (.invokevirtual 73, 3) := by decide +kernel
theorem dX6_readWhere_33 : decode cX6_readWhere 33 = .ok (.ireturn, 1) := by decide +kernel
theorem dX6_readWhere_34 : decode cX6_readWhere 34 = .ok (.aload_n 1, 1) := by decide +kernel
theorem dX6_readWhere_35 : decode cX6_readWhere 35 = .ok (.aload_n 0, 1) := by decide +kernel
theorem dX6_readWhere_36 : decode cX6_readWhere 36 = .ok (.getfield 97, 3) := by decide +kernel
theorem dX6_readWhere_39 : decode cX6_readWhere 39 = .ok (.invokevirtual 155, 3) := by decide +kernel
theorem dX6_readWhere_42 : decode cX6_readWhere 42 = .ok (.astore_n 3, 1) := by decide +kernel
theorem dX6_readWhere_43 : decode cX6_readWhere 43 = .ok (.aload_n 3, 1) := by decide +kernel
theorem dX6_readWhere_44 : decode cX6_readWhere 44 = .ok (.ifnull 11, 3) := by decide +kernel
theorem dX6_readWhere_47 : decode cX6_readWhere 47 = .ok (.aload_n 3, 1) := by decide +kernel
theorem dX6_readWhere_48 : decode cX6_readWhere 48 = .ok (.getfield 158, 3) := by decide +kernel
theorem dX6_readWhere_51 : decode cX6_readWhere 51 = .ok (.iconst (-1), 1) := by decide +kernel
theorem dX6_readWhere_52 : decode cX6_readWhere 52 = .ok (.if_icmp .eq 9, 3) := by decide +kernel
theorem dX6_readWhere_55 : decode cX6_readWhere 55 = .ok (.aload_n 0, 1) := by decide +kernel
theorem dX6_readWhere_56 : decode cX6_readWhere 56 = .ok (.iconst 4, 1) := by decide +kernel
theorem dX6_readWhere_57 : decode cX6_readWhere 57 = .ok (.invokevirtual 90, 3) := by decide +kernel
theorem dX6_readWhere_60 : decode cX6_readWhere 60 = .ok (.ireturn, 1) := by decide +kernel
theorem dX6_readWhere_61 : decode cX6_readWhere 61 = .ok (.aload_n 3, 1) := by decide +kernel
theorem dX6_readWhere_62 : decode cX6_readWhere 62 = .ok (.aload_n 2, 1) := by decide +kernel
theorem dX6_readWhere_63 : decode cX6_readWhere 63 = .ok (.getfield 161, 3) := by decide +kernel
theorem dX6_readWhere_66 : decode cX6_readWhere 66 = .ok (.putfield 158, 3) := by decide +kernel
theorem dX6_readWhere_69 : decode cX6_readWhere 69 = .ok (.aload_n 2, 1) := by decide +kernel
theorem dX6_readWhere_70 : decode cX6_readWhere 70 = .ok (.aload_n 3, 1) := by decide +kernel
theorem dX6_readWhere_71 : decode cX6_readWhere 71 = .ok (.getfield 162, 3) := by decide +kernel
theorem dX6_readWhere_74 : decode cX6_readWhere 74 = .ok (.putfield 163, 3) := by decide +kernel
theorem dX6_readWhere_77 : decode cX6_readWhere 77 = .ok (.aload_n 0, 1) := by decide +kernel
theorem dX6_readWhere_78 : decode cX6_readWhere 78 = .ok (.invokevirtual 59, 3) := by decide +kernel
theorem dX6_readWhere_81 : decode cX6_readWhere 81 = .ok (.iconst 1, 1) := by decide +kernel
theorem dX6_readWhere_82 : decode cX6_readWhere 82 = .ok (.ireturn, 1) := by decide +kernel
theorem dX6_readWishes_0 : decode cX6_readWishes 0 = .ok (.iconst 0, 1) := by decide +kernel
theorem dX6_readWishes_1 : decode cX6_readWishes 1 = .ok (.istore_n 3, 1) := by decide +kernel
theorem dX6_readWishes_2 : decode cX6_readWishes 2 = .ok (.iload_n 3, 1) := by decide +kernel
theorem dX6_readWishes_3 : decode cX6_readWishes 3 = .ok (.bipush 6, 2) := by decide +kernel
theorem dX6_readWishes_5 : decode cX6_readWishes 5 = .ok (.if_icmp .gt 78, 3) := by decide +kernel
theorem dX6_readWishes_8 : decode cX6_readWishes 8 = .ok (.aload_n 0, 1) := by decide +kernel
theorem dX6_readWishes_9 : decode cX6_readWishes 9 = .ok (.invokevirtual 152, 3) := by decide +kernel
theorem dX6_readWishes_12 : decode cX6_readWishes 12 = .ok (.ifCond .eq 71, 3) := by decide +kernel
theorem dX6_readWishes_15 : decode cX6_readWishes 15 = .ok (.aload_n 1, 1) := by decide +kernel
theorem dX6_readWishes_16 : decode cX6_readWishes 16 = .ok (.aload_n 0, 1) := by decide +kernel
theorem dX6_readWishes_17 : decode cX6_readWishes 17 = .ok (.getfield 97, 3) := by decide +kernel
theorem dX6_readWishes_20 : decode cX6_readWishes 20 = .ok (.invokevirtual 155, 3) := by decide +kernel
theorem dX6_readWishes_23 : decode cX6_readWishes 23 = .ok (.astore 4, 2) := by decide +kernel
theorem dX6_readWishes_25 : decode cX6_readWishes 25 = .ok (.aload 4, 2) := by decide +kernel
theorem dX6_readWishes_27 : decode cX6_readWishes 27 = .ok (.ifnull 16, 3) := by decide +kernel
theorem dX6_readWishes_30 : decode cX6_readWishes 30 = .ok (.aload_n 2, 1) := by decide +kernel
theorem dX6_readWishes_31 : decode cX6_readWishes 31 = .ok (.aload 4, 2) := by decide +kernel
theorem dX6_readWishes_33 : decode cX6_readWishes 33 = .ok (.getfield 162, 3) := by decide +kernel
theorem dX6_readWishes_36 : decode cX6_readWishes 36 = .ok (.invokevirtual 166, 3) := by decide +kernel
theorem dX6_readWishes_39 : decode cX6_readWishes 39 = .ok (.iconst (-1), 1) := by decide +kernel
theorem dX6_readWishes_40 : decode cX6_readWishes 40 = .ok (.if_icmp .eq 9, 3) := by decide +kernel
theorem dX6_readWishes_43 : decode cX6_readWishes 43 = .ok (.aload_n 0, 1) := by decide +kernel
theorem dX6_readWishes_44 : decode cX6_readWishes 44 = .ok (.iconst 4, 1) := by decide +kernel
theorem dX6_readWishes_45 : decode cX6_readWishes 45 = .ok (.invokevirtual 90, 3) := by decide +kernel
theorem dX6_readWishes_48 : decode cX6_readWishes 48 = .ok (.ireturn, 1) := by decide +kernel
theorem dX6_readWishes_49 : decode cX6_readWishes 49 = .ok (.aload_n 2, 1) := by decide +kernel
theorem dX6_readWishes_50 : decode cX6_readWishes 50 = .ok (.getfield 170, 3) := by decide +kernel
theorem dX6_readWishes_53 : decode cX6_readWishes 53 = .ok (.bipush 6, 2) := by decide +kernel
theorem dX6_readWishes_55 : decode cX6_readWishes 55 = .ok (.if_icmp .lt 9, 3) := by decide +kernel
theorem dX6_readWishes_58 : decode cX6_readWishes 58 = .ok (.aload_n 0, 1) := by decide +kernel
theorem dX6_readWishes_59 : decode cX6_readWishes 59 = .ok (.iconst 5, 1) := by decide +kernel
theorem dX6_readWishes_60 : decode cX6_readWishes 60 = .ok (.invokevirtual 90, 3) := by decide +kernel
theorem dX6_readWishes_63 : decode cX6_readWishes 63 = .ok (.ireturn, 1) := by decide +kernel
theorem dX6_readWishes_64 : decode cX6_readWishes 64 = .ok (.aload_n 2, 1) := by decide +kernel
theorem dX6_readWishes_65 : decode cX6_readWishes 65 = .ok (.aload 4, 2) := by decide +kernel
theorem dX6_readWishes_67 : decode cX6_readWishes 67 = .ok (.getfield 162, 3) := by decide +kernel
theorem dX6_readWishes_70 : decode cX6_readWishes 70 = .ok (.invokevirtual 173, 3) := by decide +kernel
theorem dX6_readWishes_73 : decode cX6_readWishes 73 = .ok (.aload_n 0, 1) := by decide +kernel
theorem dX6_readWishes_74 : decode cX6_readWishes 74 = .ok (.invokevirtual 59, 3) := by decide +kernel
theorem dX6_readWishes_77 : decode cX6_readWishes 77 = .ok (.iinc 3 1, 3) := by decide +kernel
theorem dX6_readWishes_80 : decode cX6_readWishes 80 = .ok (.goto (-78), 3) := by decide +kernel
theorem dX6_readWishes_83 : decode cX6_readWishes 83 = .ok (.iconst 1, 1) := by decide +kernel
theorem dX6_readWishes_84 : decode cX6_readWishes 84 = .ok (.ireturn, 1) := by decide +kernel
theorem dX6_readRule_0 : decode cX6_readRule 0 = .ok (.aload_n 0, 1) := by decide +kernel
theorem dX6_readRule_1 : decode cX6_readRule 1 = .ok (.invokevirtual 59, 3) := by decide +kernel
theorem dX6_readRule_4 : decode cX6_readRule 4 = .ok (.aload_n 0, 1) := by decide +kernel
theorem dX6_readRule_5 : decode cX6_readRule 5 = .ok (.getfield 62, 3) := by decide +kernel
theorem dX6_readRule_8 : decode cX6_readRule 8 = .ok (.iconst 1, 1) := by decide +kernel
theorem dX6_readRule_9 : decode cX6_readRule 9 = .ok (.if_icmp .ne 11, 3) := by decide +kernel
theorem dX6_readRule_12 : decode cX6_readRule 12 = .ok (.aload_n 0, 1) := by decide +kernel
theorem dX6_readRule_13 : decode cX6_readRule 13 = .ok (.getfield 76, 3) := by decide +kernel
theorem dX6_readRule_16 : decode cX6_readRule 16 = .ok (.iconst 4, 1) := by decide +kernel
theorem dX6_readRule_17 : decode cX6_readRule 17 = .ok (.if_icmp .ge 8, 3) := by decide +kernel
theorem dX6_readRule_20 : decode cX6_readRule 20 = .ok (.aload_n 0, 1) := by decide +kernel
theorem dX6_readRule_21 : decode cX6_readRule 21 = .ok (.invokevirtual 73, 3) := by decide +kernel
theorem dX6_readRule_24 : decode cX6_readRule 24 = .ok (.ireturn, 1) := by decide +kernel
theorem dX6_readRule_25 : decode cX6_readRule 25 = .ok (.aload_n 0, 1) := by decide +kernel
theorem dX6_readRule_26 : decode cX6_readRule 26 = .ok (.getfield 76, 3) := by decide +kernel
theorem dX6_readRule_29 : decode cX6_readRule 29 = .ok (.iconst 4, 1) := by decide +kernel
theorem dX6_readRule_30 : decode cX6_readRule 30 = .ok (.isub, 1) := by decide +kernel
theorem dX6_readRule_31 : decode cX6_readRule 31 = .ok (.istore_n 2, 1) := by decide +kernel
theorem dX6_readRule_32 : decode cX6_readRule 32 = .ok (.aload_n 0, 1) := by decide +kernel
theorem dX6_readRule_33 : decode cX6_readRule 33 = .ok (.invokevirtual 59, 3) := by decide +kernel
theorem dX6_readRule_36 : decode cX6_readRule 36 = .ok (.aload_n 0, 1) := by decide +kernel
theorem dX6_readRule_37 : decode cX6_readRule 37 = .ok (.getfield 62, 3) := by decide +kernel
theorem dX6_readRule_40 : decode cX6_readRule 40 = .ok (.iconst 2, 1) := by decide +kernel
theorem dX6_readRule_41 : decode cX6_readRule 41 = .ok (.if_icmp .eq 8, 3) := by decide +kernel
theorem dX6_readRule_44 : decode cX6_readRule 44 = .ok (.aload_n 0, 1) := by decide +kernel
theorem dX6_readRule_45 : decode cX6_readRule 45 = .ok (.invokevirtual 73, 3) := by decide +kernel
theorem dX6_readRule_48 : decode cX6_readRule 48 = .ok (.ireturn, 1) := by decide +kernel
theorem dX6_readRule_49 : decode cX6_readRule 49 = .ok (.iload_n 2, 1) := by decide +kernel
theorem dX6_readRule_50 : decode cX6_readRule 50 = .ok (.aload_n 0, 1) := by decide +kernel
theorem dX6_readRule_51 : decode cX6_readRule 51 = .ok (.getfield 109, 3) := by decide +kernel
theorem dX6_readRule_54 : decode cX6_readRule 54 = .ok (.invokestatic 177, 3) := by decide +kernel
theorem dX6_readRule_57 : decode cX6_readRule 57 = .ok (.ifCond .ne 9, 3) := by decide +kernel
theorem dX6_readRule_60 : decode cX6_readRule 60 = .ok (.aload_n 0, 1) := by decide +kernel
theorem dX6_readRule_61 : decode cX6_readRule 61 = .ok (.iconst 3, 1) := by decide +kernel
theorem dX6_readRule_62 : decode cX6_readRule 62 = .ok (.invokevirtual 90, 3) := by decide +kernel
theorem dX6_readRule_65 : decode cX6_readRule 65 = .ok (.ireturn, 1) := by decide +kernel
theorem dX6_readRule_66 : decode cX6_readRule 66 = .ok (.aload_n 1, 1) := by decide +kernel
theorem dX6_readRule_67 : decode cX6_readRule 67 = .ok (.iload_n 2, 1) := by decide +kernel
theorem dX6_readRule_68 : decode cX6_readRule 68 = .ok (.aload_n 0, 1) := by decide +kernel
theorem dX6_readRule_69 : decode cX6_readRule 69 = .ok (.getfield 109, 3) := by decide +kernel
theorem dX6_readRule_72 : decode cX6_readRule 72 = .ok (.invokevirtual 180, 3) := by decide +kernel
theorem dX6_readRule_75 : decode cX6_readRule 75 = .ok (.aload_n 0, 1) := by decide +kernel
theorem dX6_readRule_76 : decode cX6_readRule 76 = .ok (.invokevirtual 59, 3) := by decide +kernel
theorem dX6_readRule_79 : decode cX6_readRule 79 = .ok (.iconst 1, 1) := by decide +kernel
theorem dX6_readRule_80 : decode cX6_readRule 80 = .ok (.ireturn, 1) := by decide +kernel
theorem dX6_readSign_0 : decode cX6_readSign 0 = .ok (.aload_n 0, 1) := by decide +kernel
theorem dX6_readSign_1 : decode cX6_readSign 1 = .ok (.getfield 62, 3) := by decide +kernel
theorem dX6_readSign_4 : decode cX6_readSign 4 = .ok (.iconst 3, 1) := by decide +kernel
theorem dX6_readSign_5 : decode cX6_readSign 5 = .ok (.if_icmp .eq 8, 3) := by decide +kernel
theorem dX6_readSign_8 : decode cX6_readSign 8 = .ok (.aload_n 0, 1) := by decide +kernel
theorem dX6_readSign_9 : decode cX6_readSign 9 = .ok (.invokevirtual 73, 3) := by decide +kernel
theorem dX6_readSign_12 : decode cX6_readSign 12 = .ok (.ireturn, 1) := by decide +kernel
theorem dX6_readSign_13 : decode cX6_readSign 13 = .ok (.aload_n 0, 1) := by decide +kernel
theorem dX6_readSign_14 : decode cX6_readSign 14 = .ok (.invokevirtual 59, 3) := by decide +kernel
theorem dX6_readSign_17 : decode cX6_readSign 17 = .ok (.iconst 1, 1) := by decide +kernel
theorem dX6_readSign_18 : decode cX6_readSign 18 = .ok (.ireturn, 1) := by decide +kernel
theorem dX6_isName_0 : decode cX6_isName 0 = .ok (.aload_n 0, 1) := by decide +kernel
theorem dX6_isName_1 : decode cX6_isName 1 = .ok (.getfield 62, 3) := by decide +kernel
theorem dX6_isName_4 : decode cX6_isName 4 = .ok (.iconst 1, 1) := by decide +kernel
theorem dX6_isName_5 : decode cX6_isName 5 = .ok (.if_icmp .ne 15, 3) := by decide +kernel
theorem dX6_isName_8 : decode cX6_isName 8 = .ok (.aload_n 0, 1) := by decide +kernel
theorem dX6_isName_9 : decode cX6_isName 9 = .ok (.getfield 76, 3) := by decide +kernel
theorem dX6_isName_12 : decode cX6_isName 12 = .ok (.iconst (-1), 1) := by decide +kernel
theorem dX6_isName_13 : decode cX6_isName 13 = .ok (.if_icmp .ne 7, 3) := by decide +kernel
theorem dX6_isName_16 : decode cX6_isName 16 = .ok (.iconst 1, 1) := by decide +kernel
theorem dX6_isName_17 : decode cX6_isName 17 = .ok (.goto 4, 3) := by decide +kernel
theorem dX6_isName_20 : decode cX6_isName 20 = .ok (.iconst 0, 1) := by decide +kernel
theorem dX6_isName_21 : decode cX6_isName 21 = .ok (.ireturn, 1) := by decide +kernel
theorem dX6_isNewName_0 : decode cX6_isNewName 0 = .ok (.aload_n 0, 1) := by decide +kernel
theorem dX6_isNewName_1 : decode cX6_isNewName 1 = .ok (.invokevirtual 152, 3) := by decide +kernel
theorem dX6_isNewName_4 : decode cX6_isNewName 4 = .ok (.ifCond .ne 8, 3) := by decide +kernel
theorem dX6_isNewName_7 : decode cX6_isNewName 7 = .ok (.aload_n 0, 1) := by decide +kernel
theorem dX6_isNewName_8 : decode cX6_isNewName 8 = .ok (.invokevirtual 73, 3) := by decide +kernel
theorem dX6_isNewName_11 : decode cX6_isNewName 11 = .ok (.ireturn, 1) := by decide +kernel
theorem dX6_isNewName_12 : decode cX6_isNewName 12 = .ok (.aload_n 1, 1) := by decide +kernel
theorem dX6_isNewName_13 : decode cX6_isNewName 13 = .ok (.aload_n 0, 1) := by decide +kernel
theorem dX6_isNewName_14 : decode cX6_isNewName 14 = .ok (.getfield 97, 3) := by decide +kernel
theorem dX6_isNewName_17 : decode cX6_isNewName 17 = .ok (.invokevirtual 184, 3) := by decide +kernel
theorem dX6_isNewName_20 : decode cX6_isNewName 20 = .ok (.ifCond .eq 11, 3) := by decide +kernel
theorem dX6_isNewName_23 : decode cX6_isNewName 23 = .ok (.aload_n 0, 1) := by decide +kernel
theorem dX6_isNewName_24 : decode cX6_isNewName 24 = .ok (.iconst 4, 1) := by decide +kernel
theorem dX6_isNewName_25 : decode cX6_isNewName 25 = .ok (.invokevirtual 90, 3) := by decide +kernel
theorem dX6_isNewName_28 : decode cX6_isNewName 28 = .ok (.goto 4, 3) := by decide +kernel
theorem dX6_isNewName_31 : decode cX6_isNewName 31 = .ok (.iconst 1, 1) := by decide +kernel
theorem dX6_isNewName_32 : decode cX6_isNewName 32 = .ok (.ireturn, 1) := by decide +kernel
theorem dX6_isNumber_0 : decode cX6_isNumber 0 = .ok (.aload_n 0, 1) := by decide +kernel
theorem dX6_isNumber_1 : decode cX6_isNumber 1 = .ok (.getfield 62, 3) := by decide +kernel
theorem dX6_isNumber_4 : decode cX6_isNumber 4 = .ok (.iconst 2, 1) := by decide +kernel
theorem dX6_isNumber_5 : decode cX6_isNumber 5 = .ok (.if_icmp .eq 8, 3) := by decide +kernel
theorem dX6_isNumber_8 : decode cX6_isNumber 8 = .ok (.aload_n 0, 1) := by decide +kernel
theorem dX6_isNumber_9 : decode cX6_isNumber 9 = .ok (.invokevirtual 73, 3) := by decide +kernel
theorem dX6_isNumber_12 : decode cX6_isNumber 12 = .ok (.ireturn, 1) := by decide +kernel
theorem dX6_isNumber_13 : decode cX6_isNumber 13 = .ok (.aload_n 0, 1) := by decide +kernel
theorem dX6_isNumber_14 : decode cX6_isNumber 14 = .ok (.getfield 109, 3) := by decide +kernel
theorem dX6_isNumber_17 : decode cX6_isNumber 17 = .ok (.iload_n 1, 1) := by decide +kernel
theorem dX6_isNumber_18 : decode cX6_isNumber 18 = .ok (.if_icmp .lt 11, 3) := by decide +kernel
theorem dX6_isNumber_21 : decode cX6_isNumber 21 = .ok (.aload_n 0, 1) := by decide +kernel
theorem dX6_isNumber_22 : decode cX6_isNumber 22 = .ok (.getfield 109, 3) := by decide +kernel
theorem dX6_isNumber_25 : decode cX6_isNumber 25 = .ok (.iload_n 2, 1) := by decide +kernel
theorem dX6_isNumber_26 : decode cX6_isNumber 26 = .ok (.if_icmp .le 11, 3) := by decide +kernel
theorem dX6_isNumber_29 : decode cX6_isNumber 29 = .ok (.aload_n 0, 1) := by decide +kernel
theorem dX6_isNumber_30 : decode cX6_isNumber 30 = .ok (.iconst 3, 1) := by decide +kernel
theorem dX6_isNumber_31 : decode cX6_isNumber 31 = .ok (.invokevirtual 90, 3) := by decide +kernel
theorem dX6_isNumber_34 : decode cX6_isNumber 34 = .ok (.goto 4, 3) := by decide +kernel
theorem dX6_isNumber_37 : decode cX6_isNumber 37 = .ok (.iconst 1, 1) := by decide +kernel
theorem dX6_isNumber_38 : decode cX6_isNumber 38 = .ok (.ireturn, 1) := by decide +kernel
theorem dX6_misplaced_0 : decode cX6_misplaced 0 = .ok (.aload_n 0, 1) := by decide +kernel
theorem dX6_misplaced_1 : decode cX6_misplaced 1 = .ok (.aload_n 0, 1) := by decide +kernel
theorem dX6_misplaced_2 : decode cX6_misplaced 2 = .ok (.getfield 62, 3) := by decide +kernel
theorem dX6_misplaced_5 : decode cX6_misplaced 5 = .ok (.iconst 4, 1) := by decide +kernel
theorem dX6_misplaced_6 : decode cX6_misplaced 6 = .ok (.if_icmp .ne 7, 3) := by decide +kernel
theorem dX6_misplaced_9 : decode cX6_misplaced 9 = .ok (.iconst 1, 1) := by decide +kernel
theorem dX6_misplaced_10 : decode cX6_misplaced 10 = .ok (.goto 4, 3) := by decide +kernel
theorem dX6_misplaced_13 : decode cX6_misplaced 13 = .ok (.iconst 2, 1) := by decide +kernel
theorem dX6_misplaced_14 : decode cX6_misplaced 14 = .ok (.invokevirtual 90, 3) := by decide +kernel
theorem dX6_misplaced_17 : decode cX6_misplaced 17 = .ok (.ireturn, 1) := by decide +kernel
theorem dX6_wrong_0 : decode cX6_wrong 0 = .ok (.aload_n 0, 1) := by decide +kernel
theorem dX6_wrong_1 : decode cX6_wrong 1 = .ok (.iload_n 1, 1) := by decide +kernel
theorem dX6_wrong_2 : decode cX6_wrong 2 = .ok (.putfield 37, 3) := by decide +kernel
theorem dX6_wrong_5 : decode cX6_wrong 5 = .ok (.aload_n 0, 1) := by decide +kernel
theorem dX6_wrong_6 : decode cX6_wrong 6 = .ok (.aload_n 0, 1) := by decide +kernel
theorem dX6_wrong_7 : decode cX6_wrong 7 = .ok (.getfield 188, 3) := by decide +kernel
theorem dX6_wrong_10 : decode cX6_wrong 10 = .ok (.putfield 41, 3) := by decide +kernel
theorem dX6_wrong_13 : decode cX6_wrong 13 = .ok (.iconst 0, 1) := by decide +kernel
theorem dX6_wrong_14 : decode cX6_wrong 14 = .ok (.ireturn, 1) := by decide +kernel
theorem dX6_byteAt_0 : decode cX6_byteAt 0 = .ok (.iload_n 1, 1) := by decide +kernel
theorem dX6_byteAt_1 : decode cX6_byteAt 1 = .ok (.ifCond .lt 18, 3) := by decide +kernel
theorem dX6_byteAt_4 : decode cX6_byteAt 4 = .ok (.iload_n 1, 1) := by decide +kernel
theorem dX6_byteAt_5 : decode cX6_byteAt 5 = .ok (.aload_n 0, 1) := by decide +kernel
theorem dX6_byteAt_6 : decode cX6_byteAt 6 = .ok (.getfield 53, 3) := by decide +kernel
theorem dX6_byteAt_9 : decode cX6_byteAt 9 = .ok (.if_icmp .ge 10, 3) := by decide +kernel
theorem dX6_byteAt_12 : decode cX6_byteAt 12 = .ok (.iload_n 1, 1) := by decide +kernel
theorem dX6_byteAt_13 : decode cX6_byteAt 13 = .ok (.sipush 900, 3) := by decide +kernel
theorem dX6_byteAt_16 : decode cX6_byteAt 16 = .ok (.if_icmp .lt 7, 3) := by decide +kernel
theorem dX6_byteAt_19 : decode cX6_byteAt 19 = .ok (.iconst (-1), 1) := by decide +kernel
theorem dX6_byteAt_20 : decode cX6_byteAt 20 = .ok (.goto 9, 3) := by decide +kernel
theorem dX6_byteAt_23 : decode cX6_byteAt 23 = .ok (.aload_n 0, 1) := by decide +kernel
theorem dX6_byteAt_24 : decode cX6_byteAt 24 = .ok (.getfield 9, 3) := by decide +kernel
theorem dX6_byteAt_27 : decode cX6_byteAt 27 = .ok (.iload_n 1, 1) := by decide +kernel
theorem dX6_byteAt_28 : decode cX6_byteAt 28 = .ok (.iaload, 1) := by decide +kernel
theorem dX6_byteAt_29 : decode cX6_byteAt 29 = .ok (.ireturn, 1) := by decide +kernel
theorem dX6_isLetter_0 : decode cX6_isLetter 0 = .ok (.iload_n 0, 1) := by decide +kernel
theorem dX6_isLetter_1 : decode cX6_isLetter 1 = .ok (.bipush 97, 2) := by decide +kernel
theorem dX6_isLetter_3 : decode cX6_isLetter 3 = .ok (.if_icmp .lt 13, 3) := by decide +kernel
theorem dX6_isLetter_6 : decode cX6_isLetter 6 = .ok (.iload_n 0, 1) := by decide +kernel
theorem dX6_isLetter_7 : decode cX6_isLetter 7 = .ok (.bipush 122, 2) := by decide +kernel
theorem dX6_isLetter_9 : decode cX6_isLetter 9 = .ok (.if_icmp .gt 7, 3) := by decide +kernel
theorem dX6_isLetter_12 : decode cX6_isLetter 12 = .ok (.iconst 1, 1) := by decide +kernel
theorem dX6_isLetter_13 : decode cX6_isLetter 13 = .ok (.goto 4, 3) := by decide +kernel
theorem dX6_isLetter_16 : decode cX6_isLetter 16 = .ok (.iconst 0, 1) := by decide +kernel
theorem dX6_isLetter_17 : decode cX6_isLetter 17 = .ok (.ireturn, 1) := by decide +kernel
theorem dX6_isDigit_0 : decode cX6_isDigit 0 = .ok (.iload_n 0, 1) := by decide +kernel
theorem dX6_isDigit_1 : decode cX6_isDigit 1 = .ok (.bipush 48, 2) := by decide +kernel
theorem dX6_isDigit_3 : decode cX6_isDigit 3 = .ok (.if_icmp .lt 13, 3) := by decide +kernel
theorem dX6_isDigit_6 : decode cX6_isDigit 6 = .ok (.iload_n 0, 1) := by decide +kernel
theorem dX6_isDigit_7 : decode cX6_isDigit 7 = .ok (.bipush 57, 2) := by decide +kernel
theorem dX6_isDigit_9 : decode cX6_isDigit 9 = .ok (.if_icmp .gt 7, 3) := by decide +kernel
theorem dX6_isDigit_12 : decode cX6_isDigit 12 = .ok (.iconst 1, 1) := by decide +kernel
theorem dX6_isDigit_13 : decode cX6_isDigit 13 = .ok (.goto 4, 3) := by decide +kernel
theorem dX6_isDigit_16 : decode cX6_isDigit 16 = .ok (.iconst 0, 1) := by decide +kernel
theorem dX6_isDigit_17 : decode cX6_isDigit 17 = .ok (.ireturn, 1) := by decide +kernel
theorem dX6_next_0 : decode cX6_next 0 = .ok (.aload_n 0, 1) := by decide +kernel
theorem dX6_next_1 : decode cX6_next 1 = .ok (.getfield 56, 3) := by decide +kernel
theorem dX6_next_4 : decode cX6_next 4 = .ok (.aload_n 0, 1) := by decide +kernel
theorem dX6_next_5 : decode cX6_next 5 = .ok (.getfield 53, 3) := by decide +kernel
theorem dX6_next_8 : decode cX6_next 8 = .ok (.if_icmp .ge 42, 3) := by decide +kernel
theorem dX6_next_11 : decode cX6_next 11 = .ok (.aload_n 0, 1) := by decide +kernel
theorem dX6_next_12 : decode cX6_next 12 = .ok (.aload_n 0, 1) := by decide +kernel
theorem dX6_next_13 : decode cX6_next 13 = .ok (.getfield 56, 3) := by decide +kernel
theorem dX6_next_16 : decode cX6_next 16 = .ok (.invokevirtual 191, 3) := by decide +kernel
theorem dX6_next_19 : decode cX6_next 19 = .ok (.bipush 10, 2) := by decide +kernel
theorem dX6_next_21 : decode cX6_next 21 = .ok (.if_icmp .eq 16, 3) := by decide +kernel
theorem dX6_next_24 : decode cX6_next 24 = .ok (.aload_n 0, 1) := by decide +kernel
theorem dX6_next_25 : decode cX6_next 25 = .ok (.aload_n 0, 1) := by decide +kernel
theorem dX6_next_26 : decode cX6_next 26 = .ok (.getfield 56, 3) := by decide +kernel
theorem dX6_next_29 : decode cX6_next 29 = .ok (.invokevirtual 191, 3) := by decide +kernel
theorem dX6_next_32 : decode cX6_next 32 = .ok (.bipush 32, 2) := by decide +kernel
theorem dX6_next_34 : decode cX6_next 34 = .ok (.if_icmp .ne 16, 3) := by decide +kernel
theorem dX6_next_37 : decode cX6_next 37 = .ok (.aload_n 0, 1) := by decide +kernel
theorem dX6_next_38 : decode cX6_next 38 = .ok (.dup, 1) := by decide +kernel
theorem dX6_next_39 : decode cX6_next 39 = .ok (.getfield 56, 3) := by decide +kernel
theorem dX6_next_42 : decode cX6_next 42 = .ok (.iconst 1, 1) := by decide +kernel
theorem dX6_next_43 : decode cX6_next 43 = .ok (.iadd, 1) := by decide +kernel
theorem dX6_next_44 : decode cX6_next 44 = .ok (.putfield 56, 3) := by decide +kernel
theorem dX6_next_47 : decode cX6_next 47 = .ok (.goto (-47), 3) := by decide +kernel
theorem dX6_next_50 : decode cX6_next 50 = .ok (.aload_n 0, 1) := by decide +kernel
theorem dX6_next_51 : decode cX6_next 51 = .ok (.aload_n 0, 1) := by decide +kernel
theorem dX6_next_52 : decode cX6_next 52 = .ok (.getfield 56, 3) := by decide +kernel
theorem dX6_next_55 : decode cX6_next 55 = .ok (.putfield 188, 3) := by decide +kernel
theorem dX6_next_58 : decode cX6_next 58 = .ok (.aload_n 0, 1) := by decide +kernel
theorem dX6_next_59 : decode cX6_next 59 = .ok (.aload_n 0, 1) := by decide +kernel
theorem dX6_next_60 : decode cX6_next 60 = .ok (.getfield 56, 3) := by decide +kernel
theorem dX6_next_63 : decode cX6_next 63 = .ok (.invokevirtual 191, 3) := by decide +kernel
theorem dX6_next_66 : decode cX6_next 66 = .ok (.istore_n 1, 1) := by decide +kernel
theorem dX6_next_67 : decode cX6_next 67 = .ok (.iload_n 1, 1) := by decide +kernel
theorem dX6_next_68 : decode cX6_next 68 = .ok (.iconst (-1), 1) := by decide +kernel
theorem dX6_next_69 : decode cX6_next 69 = .ok (.if_icmp .ne 11, 3) := by decide +kernel
theorem dX6_next_72 : decode cX6_next 72 = .ok (.aload_n 0, 1) := by decide +kernel
theorem dX6_next_73 : decode cX6_next 73 = .ok (.iconst 0, 1) := by decide +kernel
theorem dX6_next_74 : decode cX6_next 74 = .ok (.putfield 62, 3) := by decide +kernel
theorem dX6_next_77 : decode cX6_next 77 = .ok (.goto 56, 3) := by decide +kernel
theorem dX6_next_80 : decode cX6_next 80 = .ok (.iload_n 1, 1) := by decide +kernel
theorem dX6_next_81 : decode cX6_next 81 = .ok (.invokestatic 194, 3) := by decide +kernel
theorem dX6_next_84 : decode cX6_next 84 = .ok (.ifCond .eq 10, 3) := by decide +kernel
theorem dX6_next_87 : decode cX6_next 87 = .ok (.aload_n 0, 1) := by decide +kernel
theorem dX6_next_88 : decode cX6_next 88 = .ok (.invokevirtual 197, 3) := by decide +kernel
theorem dX6_next_91 : decode cX6_next 91 = .ok (.goto 42, 3) := by decide +kernel
theorem dX6_next_94 : decode cX6_next 94 = .ok (.iload_n 1, 1) := by decide +kernel
theorem dX6_next_95 : decode cX6_next 95 = .ok (.invokestatic 200, 3) := by decide +kernel
theorem dX6_next_98 : decode cX6_next 98 = .ok (.ifCond .eq 10, 3) := by decide +kernel
theorem dX6_next_101 : decode cX6_next 101 = .ok (.aload_n 0, 1) := by decide +kernel
theorem dX6_next_102 : decode cX6_next 102 = .ok (.invokevirtual 203, 3) := by decide +kernel
theorem dX6_next_105 : decode cX6_next 105 = .ok (.goto 28, 3) := by decide +kernel
theorem dX6_next_108 : decode cX6_next 108 = .ok (.aload_n 0, 1) := by decide +kernel
theorem dX6_next_109 : decode cX6_next 109 = .ok (.iload_n 1, 1) := by decide +kernel
theorem dX6_next_110 : decode cX6_next 110 = .ok (.bipush 59, 2) := by decide +kernel
theorem dX6_next_112 : decode cX6_next 112 = .ok (.if_icmp .ne 7, 3) := by decide +kernel
theorem dX6_next_115 : decode cX6_next 115 = .ok (.iconst 3, 1) := by decide +kernel
theorem dX6_next_116 : decode cX6_next 116 = .ok (.goto 4, 3) := by decide +kernel
theorem dX6_next_119 : decode cX6_next 119 = .ok (.iconst 4, 1) := by decide +kernel
theorem dX6_next_120 : decode cX6_next 120 = .ok (.putfield 62, 3) := by decide +kernel
theorem dX6_next_123 : decode cX6_next 123 = .ok (.aload_n 0, 1) := by decide +kernel
theorem dX6_next_124 : decode cX6_next 124 = .ok (.dup, 1) := by decide +kernel
theorem dX6_next_125 : decode cX6_next 125 = .ok (.getfield 56, 3) := by decide +kernel
theorem dX6_next_128 : decode cX6_next 128 = .ok (.iconst 1, 1) := by decide +kernel
theorem dX6_next_129 : decode cX6_next 129 = .ok (.iadd, 1) := by decide +kernel
theorem dX6_next_130 : decode cX6_next 130 = .ok (.putfield 56, 3) := by decide +kernel
theorem dX6_next_133 : decode cX6_next 133 = .ok (.return_, 1) := by decide +kernel
theorem dX6_nextWord_0 : decode cX6_nextWord 0 = .ok (.aload_n 0, 1) := by decide +kernel
theorem dX6_nextWord_1 : decode cX6_nextWord 1 = .ok (.lconst 0, 1) := by decide +kernel
theorem dX6_nextWord_2 : decode cX6_nextWord 2 = .ok (.putfield 97, 3) := by decide +kernel
theorem dX6_nextWord_5 : decode cX6_nextWord 5 = .ok (.aload_n 0, 1) := by decide +kernel
theorem dX6_nextWord_6 : decode cX6_nextWord 6 = .ok (.getfield 56, 3) := by decide +kernel
theorem dX6_nextWord_9 : decode cX6_nextWord 9 = .ok (.aload_n 0, 1) := by decide +kernel
theorem dX6_nextWord_10 : decode cX6_nextWord 10 = .ok (.getfield 53, 3) := by decide +kernel
theorem dX6_nextWord_13 : decode cX6_nextWord 13 = .ok (.if_icmp .ge 49, 3) := by decide +kernel
theorem dX6_nextWord_16 : decode cX6_nextWord 16 = .ok (.aload_n 0, 1) := by decide +kernel
theorem dX6_nextWord_17 : decode cX6_nextWord 17 = .ok (.aload_n 0, 1) := by decide +kernel
theorem dX6_nextWord_18 : decode cX6_nextWord 18 = .ok (.getfield 56, 3) := by decide +kernel
theorem dX6_nextWord_21 : decode cX6_nextWord 21 = .ok (.invokevirtual 191, 3) := by decide +kernel
theorem dX6_nextWord_24 : decode cX6_nextWord 24 = .ok (.invokestatic 194, 3) := by decide +kernel
theorem dX6_nextWord_27 : decode cX6_nextWord 27 = .ok (.ifCond .eq 35, 3) := by decide +kernel
theorem dX6_nextWord_30 : decode cX6_nextWord 30 = .ok (.aload_n 0, 1) := by decide +kernel
theorem dX6_nextWord_31 : decode cX6_nextWord 31 = .ok (.aload_n 0, 1) := by decide +kernel
theorem dX6_nextWord_32 : decode cX6_nextWord 32 = .ok (.getfield 97, 3) := by decide +kernel
theorem dX6_nextWord_35 : decode cX6_nextWord 35 = .ok (.aload_n 0, 1) := by decide +kernel
theorem dX6_nextWord_36 : decode cX6_nextWord 36 = .ok (.aload_n 0, 1) := by decide +kernel
theorem dX6_nextWord_37 : decode cX6_nextWord 37 = .ok (.getfield 56, 3) := by decide +kernel
theorem dX6_nextWord_40 : decode cX6_nextWord 40 = .ok (.invokevirtual 191, 3) := by decide +kernel
theorem dX6_nextWord_43 : decode cX6_nextWord 43 = .ok (.invokestatic 33, 3) := by decide +kernel
theorem dX6_nextWord_46 : decode cX6_nextWord 46 = .ok (.putfield 97, 3) := by decide +kernel
theorem dX6_nextWord_49 : decode cX6_nextWord 49 = .ok (.aload_n 0, 1) := by decide +kernel
theorem dX6_nextWord_50 : decode cX6_nextWord 50 = .ok (.dup, 1) := by decide +kernel
theorem dX6_nextWord_51 : decode cX6_nextWord 51 = .ok (.getfield 56, 3) := by decide +kernel
theorem dX6_nextWord_54 : decode cX6_nextWord 54 = .ok (.iconst 1, 1) := by decide +kernel
theorem dX6_nextWord_55 : decode cX6_nextWord 55 = .ok (.iadd, 1) := by decide +kernel
theorem dX6_nextWord_56 : decode cX6_nextWord 56 = .ok (.putfield 56, 3) := by decide +kernel
theorem dX6_nextWord_59 : decode cX6_nextWord 59 = .ok (.goto (-54), 3) := by decide +kernel
theorem dX6_nextWord_62 : decode cX6_nextWord 62 = .ok (.aload_n 0, 1) := by decide +kernel
theorem dX6_nextWord_63 : decode cX6_nextWord 63 = .ok (.aload_n 0, 1) := by decide +kernel
theorem dX6_nextWord_64 : decode cX6_nextWord 64 = .ok (.getfield 56, 3) := by decide +kernel
theorem dX6_nextWord_67 : decode cX6_nextWord 67 = .ok (.aload_n 0, 1) := by decide +kernel
theorem dX6_nextWord_68 : decode cX6_nextWord 68 = .ok (.getfield 188, 3) := by decide +kernel
theorem dX6_nextWord_71 : decode cX6_nextWord 71 = .ok (.isub, 1) := by decide +kernel
theorem dX6_nextWord_72 : decode cX6_nextWord 72 = .ok (.bipush 8, 2) := by decide +kernel
theorem dX6_nextWord_74 : decode cX6_nextWord 74 = .ok (.if_icmp .gt 7, 3) := by decide +kernel
theorem dX6_nextWord_77 : decode cX6_nextWord 77 = .ok (.iconst 1, 1) := by decide +kernel
theorem dX6_nextWord_78 : decode cX6_nextWord 78 = .ok (.goto 4, 3) := by decide +kernel
theorem dX6_nextWord_81 : decode cX6_nextWord 81 = .ok (.iconst 4, 1) := by decide +kernel
theorem dX6_nextWord_82 : decode cX6_nextWord 82 = .ok (.putfield 62, 3) := by decide +kernel
theorem dX6_nextWord_85 : decode cX6_nextWord 85 = .ok (.aload_n 0, 1) := by decide +kernel
theorem dX6_nextWord_86 : decode cX6_nextWord 86 = .ok (.iconst (-1), 1) := by decide +kernel
theorem dX6_nextWord_87 : decode cX6_nextWord 87 = .ok (.putfield 76, 3) := by decide +kernel
theorem dX6_nextWord_90 : decode cX6_nextWord 90 = .ok (.iconst 0, 1) := by decide +kernel
theorem dX6_nextWord_91 : decode cX6_nextWord 91 = .ok (.istore_n 1, 1) := by decide +kernel
theorem dX6_nextWord_92 : decode cX6_nextWord 92 = .ok (.iload_n 1, 1) := by decide +kernel
theorem dX6_nextWord_93 : decode cX6_nextWord 93 = .ok (.bipush 10, 2) := by decide +kernel
theorem dX6_nextWord_95 : decode cX6_nextWord 95 = .ok (.if_icmp .ge 28, 3) := by decide +kernel
theorem dX6_nextWord_98 : decode cX6_nextWord 98 = .ok (.aload_n 0, 1) := by decide +kernel
theorem dX6_nextWord_99 : decode cX6_nextWord 99 = .ok (.getfield 15, 3) := by decide +kernel
theorem dX6_nextWord_102 : decode cX6_nextWord 102 = .ok (.iload_n 1, 1) := by decide +kernel
theorem dX6_nextWord_103 : decode cX6_nextWord 103 = .ok (.laload, 1) := by decide +kernel
theorem dX6_nextWord_104 : decode cX6_nextWord 104 = .ok (.aload_n 0, 1) := by decide +kernel
theorem dX6_nextWord_105 : decode cX6_nextWord 105 = .ok (.getfield 97, 3) := by decide +kernel
theorem dX6_nextWord_108 : decode cX6_nextWord 108 = .ok (.lcmp, 1) := by decide +kernel
theorem dX6_nextWord_109 : decode cX6_nextWord 109 = .ok (.ifCond .ne 8, 3) := by decide +kernel
theorem dX6_nextWord_112 : decode cX6_nextWord 112 = .ok (.aload_n 0, 1) := by decide +kernel
theorem dX6_nextWord_113 : decode cX6_nextWord 113 = .ok (.iload_n 1, 1) := by decide +kernel
theorem dX6_nextWord_114 : decode cX6_nextWord 114 = .ok (.putfield 76, 3) := by decide +kernel
theorem dX6_nextWord_117 : decode cX6_nextWord 117 = .ok (.iinc 1 1, 3) := by decide +kernel
theorem dX6_nextWord_120 : decode cX6_nextWord 120 = .ok (.goto (-28), 3) := by decide +kernel
theorem dX6_nextWord_123 : decode cX6_nextWord 123 = .ok (.return_, 1) := by decide +kernel
theorem dX6_nextNumber_0 : decode cX6_nextNumber 0 = .ok (.aload_n 0, 1) := by decide +kernel
theorem dX6_nextNumber_1 : decode cX6_nextNumber 1 = .ok (.iconst 0, 1) := by decide +kernel
theorem dX6_nextNumber_2 : decode cX6_nextNumber 2 = .ok (.putfield 109, 3) := by decide +kernel
theorem dX6_nextNumber_5 : decode cX6_nextNumber 5 = .ok (.aload_n 0, 1) := by decide +kernel
theorem dX6_nextNumber_6 : decode cX6_nextNumber 6 = .ok (.getfield 56, 3) := by decide +kernel
theorem dX6_nextNumber_9 : decode cX6_nextNumber 9 = .ok (.aload_n 0, 1) := by decide +kernel
theorem dX6_nextNumber_10 : decode cX6_nextNumber 10 = .ok (.getfield 53, 3) := by decide +kernel
theorem dX6_nextNumber_13 : decode cX6_nextNumber 13 = .ok (.if_icmp .ge 53, 3) := by decide +kernel
theorem dX6_nextNumber_16 : decode cX6_nextNumber 16 = .ok (.aload_n 0, 1) := by decide +kernel
theorem dX6_nextNumber_17 : decode cX6_nextNumber 17 = .ok (.aload_n 0, 1) := by decide +kernel
theorem dX6_nextNumber_18 : decode cX6_nextNumber 18 = .ok (.getfield 56, 3) := by decide +kernel
theorem dX6_nextNumber_21 : decode cX6_nextNumber 21 = .ok (.invokevirtual 191, 3) := by decide +kernel
theorem dX6_nextNumber_24 : decode cX6_nextNumber 24 = .ok (.invokestatic 200, 3) := by decide +kernel
theorem dX6_nextNumber_27 : decode cX6_nextNumber 27 = .ok (.ifCond .eq 39, 3) := by decide +kernel
theorem dX6_nextNumber_30 : decode cX6_nextNumber 30 = .ok (.aload_n 0, 1) := by decide +kernel
theorem dX6_nextNumber_31 : decode cX6_nextNumber 31 = .ok (.aload_n 0, 1) := by decide +kernel
theorem dX6_nextNumber_32 : decode cX6_nextNumber 32 = .ok (.getfield 109, 3) := by decide +kernel
theorem dX6_nextNumber_35 : decode cX6_nextNumber 35 = .ok (.bipush 10, 2) := by decide +kernel
theorem dX6_nextNumber_37 : decode cX6_nextNumber 37 = .ok (.imul, 1) := by decide +kernel
theorem dX6_nextNumber_38 : decode cX6_nextNumber 38 = .ok (.aload_n 0, 1) := by decide +kernel
theorem dX6_nextNumber_39 : decode cX6_nextNumber 39 = .ok (.aload_n 0, 1) := by decide +kernel
theorem dX6_nextNumber_40 : decode cX6_nextNumber 40 = .ok (.getfield 56, 3) := by decide +kernel
theorem dX6_nextNumber_43 : decode cX6_nextNumber 43 = .ok (.invokevirtual 191, 3) := by decide +kernel
theorem dX6_nextNumber_46 : decode cX6_nextNumber 46 = .ok (.bipush 48, 2) := by decide +kernel
theorem dX6_nextNumber_48 : decode cX6_nextNumber 48 = .ok (.isub, 1) := by decide +kernel
theorem dX6_nextNumber_49 : decode cX6_nextNumber 49 = .ok (.iadd, 1) := by decide +kernel
theorem dX6_nextNumber_50 : decode cX6_nextNumber 50 = .ok (.putfield 109, 3) := by decide +kernel
theorem dX6_nextNumber_53 : decode cX6_nextNumber 53 = .ok (.aload_n 0, 1) := by decide +kernel
theorem dX6_nextNumber_54 : decode cX6_nextNumber 54 = .ok (.dup, 1) := by decide +kernel
theorem dX6_nextNumber_55 : decode cX6_nextNumber 55 = .ok (.getfield 56, 3) := by decide +kernel
theorem dX6_nextNumber_58 : decode cX6_nextNumber 58 = .ok (.iconst 1, 1) := by decide +kernel
theorem dX6_nextNumber_59 : decode cX6_nextNumber 59 = .ok (.iadd, 1) := by decide +kernel
theorem dX6_nextNumber_60 : decode cX6_nextNumber 60 = .ok (.putfield 56, 3) := by decide +kernel
theorem dX6_nextNumber_63 : decode cX6_nextNumber 63 = .ok (.goto (-58), 3) := by decide +kernel
theorem dX6_nextNumber_66 : decode cX6_nextNumber 66 = .ok (.aload_n 0, 1) := by decide +kernel
theorem dX6_nextNumber_67 : decode cX6_nextNumber 67 = .ok (.aload_n 0, 1) := by decide +kernel
theorem dX6_nextNumber_68 : decode cX6_nextNumber 68 = .ok (.getfield 56, 3) := by decide +kernel
theorem dX6_nextNumber_71 : decode cX6_nextNumber 71 = .ok (.aload_n 0, 1) := by decide +kernel
theorem dX6_nextNumber_72 : decode cX6_nextNumber 72 = .ok (.getfield 188, 3) := by decide +kernel
theorem dX6_nextNumber_75 : decode cX6_nextNumber 75 = .ok (.isub, 1) := by decide +kernel
theorem dX6_nextNumber_76 : decode cX6_nextNumber 76 = .ok (.iconst 3, 1) := by decide +kernel
theorem dX6_nextNumber_77 : decode cX6_nextNumber 77 = .ok (.if_icmp .gt 7, 3) := by decide +kernel
theorem dX6_nextNumber_80 : decode cX6_nextNumber 80 = .ok (.iconst 2, 1) := by decide +kernel
theorem dX6_nextNumber_81 : decode cX6_nextNumber 81 = .ok (.goto 4, 3) := by decide +kernel
theorem dX6_nextNumber_84 : decode cX6_nextNumber 84 = .ok (.iconst 4, 1) := by decide +kernel
theorem dX6_nextNumber_85 : decode cX6_nextNumber 85 = .ok (.putfield 62, 3) := by decide +kernel
theorem dX6_nextNumber_88 : decode cX6_nextNumber 88 = .ok (.return_, 1) := by decide +kernel
theorem dX8_init_0 : decode cX8_init 0 = .ok (.aload_n 0, 1) := by decide +kernel
theorem dX8_init_1 : decode cX8_init 1 = .ok (.invokespecial 3, 3) := by decide +kernel
theorem dX8_init_4 : decode cX8_init 4 = .ok (.aload_n 0, 1) := by decide +kernel
theorem dX8_init_5 : decode cX8_init 5 = .ok (.iload_n 2, 1) := by decide +kernel
theorem dX8_init_6 : decode cX8_init 6 = .ok (.putfield 9, 3) := by decide +kernel
theorem dX8_init_9 : decode cX8_init 9 = .ok (.aload_n 0, 1) := by decide +kernel
theorem dX8_init_10 : decode cX8_init 10 = .ok (.iload_n 1, 1) := by decide +kernel
theorem dX8_init_11 : decode cX8_init 11 = .ok (.iload_n 2, 1) := by decide +kernel
theorem dX8_init_12 : decode cX8_init 12 = .ok (.imul, 1) := by decide +kernel
theorem dX8_init_13 : decode cX8_init 13 = .ok (.newarray .int, 2) := by decide +kernel
theorem dX8_init_15 : decode cX8_init 15 = .ok (.putfield 15, 3) := by decide +kernel
theorem dX8_init_18 : decode cX8_init 18 = .ok (.aload_n 0, 1) := by decide +kernel
theorem dX8_init_19 : decode cX8_init 19 = .ok (.iconst 0, 1) := by decide +kernel
theorem dX8_init_20 : decode cX8_init 20 = .ok (.putfield 19, 3) := by decide +kernel
theorem dX8_init_23 : decode cX8_init 23 = .ok (.return_, 1) := by decide +kernel
theorem dX8_at_0 : decode cX8_at 0 = .ok (.iload_n 1, 1) := by decide +kernel
theorem dX8_at_1 : decode cX8_at 1 = .ok (.ifCond .lt 23, 3) := by decide +kernel
theorem dX8_at_4 : decode cX8_at 4 = .ok (.iload_n 1, 1) := by decide +kernel
theorem dX8_at_5 : decode cX8_at 5 = .ok (.aload_n 0, 1) := by decide +kernel
theorem dX8_at_6 : decode cX8_at 6 = .ok (.getfield 19, 3) := by decide +kernel
theorem dX8_at_9 : decode cX8_at 9 = .ok (.if_icmp .ge 15, 3) := by decide +kernel
theorem dX8_at_12 : decode cX8_at 12 = .ok (.iload_n 2, 1) := by decide +kernel
theorem dX8_at_13 : decode cX8_at 13 = .ok (.ifCond .lt 11, 3) := by decide +kernel
theorem dX8_at_16 : decode cX8_at 16 = .ok (.iload_n 2, 1) := by decide +kernel
theorem dX8_at_17 : decode cX8_at 17 = .ok (.aload_n 0, 1) := by decide +kernel
theorem dX8_at_18 : decode cX8_at 18 = .ok (.getfield 9, 3) := by decide +kernel
theorem dX8_at_21 : decode cX8_at 21 = .ok (.if_icmp .lt 5, 3) := by decide +kernel
theorem dX8_at_24 : decode cX8_at 24 = .ok (.iconst (-1), 1) := by decide +kernel
theorem dX8_at_25 : decode cX8_at 25 = .ok (.ireturn, 1) := by decide +kernel
theorem dX8_at_26 : decode cX8_at 26 = .ok (.aload_n 0, 1) := by decide +kernel
theorem dX8_at_27 : decode cX8_at 27 = .ok (.getfield 15, 3) := by decide +kernel
theorem dX8_at_30 : decode cX8_at 30 = .ok (.iload_n 1, 1) := by decide +kernel
theorem dX8_at_31 : decode cX8_at 31 = .ok (.aload_n 0, 1) := by decide +kernel
theorem dX8_at_32 : decode cX8_at 32 = .ok (.getfield 9, 3) := by decide +kernel
theorem dX8_at_35 : decode cX8_at 35 = .ok (.imul, 1) := by decide +kernel
theorem dX8_at_36 : decode cX8_at 36 = .ok (.iload_n 2, 1) := by decide +kernel
theorem dX8_at_37 : decode cX8_at 37 = .ok (.iadd, 1) := by decide +kernel
theorem dX8_at_38 : decode cX8_at 38 = .ok (.iaload, 1) := by decide +kernel
theorem dX8_at_39 : decode cX8_at 39 = .ok (.ireturn, 1) := by decide +kernel
theorem dX8_addRow_0 : decode cX8_addRow 0 = .ok (.aload_n 0, 1) := by decide +kernel
theorem dX8_addRow_1 : decode cX8_addRow 1 = .ok (.getfield 19, 3) := by decide +kernel
theorem dX8_addRow_4 : decode cX8_addRow 4 = .ok (.iconst 1, 1) := by decide +kernel
theorem dX8_addRow_5 : decode cX8_addRow 5 = .ok (.iadd, 1) := by decide +kernel
theorem dX8_addRow_6 : decode cX8_addRow 6 = .ok (.aload_n 0, 1) := by decide +kernel
theorem dX8_addRow_7 : decode cX8_addRow 7 = .ok (.getfield 9, 3) := by decide +kernel
theorem dX8_addRow_10 : decode cX8_addRow 10 = .ok (.imul, 1) := by decide +kernel
theorem dX8_addRow_11 : decode cX8_addRow 11 = .ok (.aload_n 0, 1) := by decide +kernel
theorem dX8_addRow_12 : decode cX8_addRow 12 = .ok (.getfield 15, 3) := by decide +kernel
theorem dX8_addRow_15 : decode cX8_addRow 15 = .ok (.arraylength, 1) := by decide +kernel
theorem dX8_addRow_16 : decode cX8_addRow 16 = .ok (.if_icmp .le 5, 3) := by decide +kernel
theorem dX8_addRow_19 : decode cX8_addRow 19 = .ok (.iconst (-1), 1) := by decide +kernel
theorem dX8_addRow_20 : decode cX8_addRow 20 = .ok (.ireturn, 1) := by decide +kernel
theorem dX8_addRow_21 : decode cX8_addRow 21 = .ok (.aload_n 0, 1) := by decide +kernel
theorem dX8_addRow_22 : decode cX8_addRow 22 = .ok (.dup, 1) := by decide +kernel
theorem dX8_addRow_23 : decode cX8_addRow 23 = .ok (.getfield 19, 3) := by decide +kernel
theorem dX8_addRow_26 : decode cX8_addRow 26 = .ok (.iconst 1, 1) := by decide +kernel
theorem dX8_addRow_27 : decode cX8_addRow 27 = .ok (.iadd, 1) := by decide +kernel
theorem dX8_addRow_28 : decode cX8_addRow 28 = .ok (.putfield 19, 3) := by decide +kernel
theorem dX8_addRow_31 : decode cX8_addRow 31 = .ok (.aload_n 0, 1) := by decide +kernel
theorem dX8_addRow_32 : decode cX8_addRow 32 = .ok (.getfield 19, 3) := by decide +kernel
theorem dX8_addRow_35 : decode cX8_addRow 35 = .ok (.iconst 1, 1) := by decide +kernel
theorem dX8_addRow_36 : decode cX8_addRow 36 = .ok (.isub, 1) := by decide +kernel
theorem dX8_addRow_37 : decode cX8_addRow 37 = .ok (.ireturn, 1) := by decide +kernel
theorem dX8_set_0 : decode cX8_set 0 = .ok (.iload_n 1, 1) := by decide +kernel
theorem dX8_set_1 : decode cX8_set 1 = .ok (.ifCond .lt 37, 3) := by decide +kernel
theorem dX8_set_4 : decode cX8_set 4 = .ok (.iload_n 1, 1) := by decide +kernel
theorem dX8_set_5 : decode cX8_set 5 = .ok (.aload_n 0, 1) := by decide +kernel
theorem dX8_set_6 : decode cX8_set 6 = .ok (.getfield 19, 3) := by decide +kernel
theorem dX8_set_9 : decode cX8_set 9 = .ok (.if_icmp .ge 29, 3) := by decide +kernel
theorem dX8_set_12 : decode cX8_set 12 = .ok (.iload_n 2, 1) := by decide +kernel
theorem dX8_set_13 : decode cX8_set 13 = .ok (.ifCond .lt 25, 3) := by decide +kernel
theorem dX8_set_16 : decode cX8_set 16 = .ok (.iload_n 2, 1) := by decide +kernel
theorem dX8_set_17 : decode cX8_set 17 = .ok (.aload_n 0, 1) := by decide +kernel
theorem dX8_set_18 : decode cX8_set 18 = .ok (.getfield 9, 3) := by decide +kernel
theorem dX8_set_21 : decode cX8_set 21 = .ok (.if_icmp .ge 17, 3) := by decide +kernel
theorem dX8_set_24 : decode cX8_set 24 = .ok (.aload_n 0, 1) := by decide +kernel
theorem dX8_set_25 : decode cX8_set 25 = .ok (.getfield 15, 3) := by decide +kernel
theorem dX8_set_28 : decode cX8_set 28 = .ok (.iload_n 1, 1) := by decide +kernel
theorem dX8_set_29 : decode cX8_set 29 = .ok (.aload_n 0, 1) := by decide +kernel
theorem dX8_set_30 : decode cX8_set 30 = .ok (.getfield 9, 3) := by decide +kernel
theorem dX8_set_33 : decode cX8_set 33 = .ok (.imul, 1) := by decide +kernel
theorem dX8_set_34 : decode cX8_set 34 = .ok (.iload_n 2, 1) := by decide +kernel
theorem dX8_set_35 : decode cX8_set 35 = .ok (.iadd, 1) := by decide +kernel
theorem dX8_set_36 : decode cX8_set 36 = .ok (.iload_n 3, 1) := by decide +kernel
theorem dX8_set_37 : decode cX8_set 37 = .ok (.iastore, 1) := by decide +kernel
theorem dX8_set_38 : decode cX8_set 38 = .ok (.return_, 1) := by decide +kernel
theorem dX8_countWith_0 : decode cX8_countWith 0 = .ok (.iconst 0, 1) := by decide +kernel
theorem dX8_countWith_1 : decode cX8_countWith 1 = .ok (.istore_n 3, 1) := by decide +kernel
theorem dX8_countWith_2 : decode cX8_countWith 2 = .ok (.iconst 0, 1) := by decide +kernel
theorem dX8_countWith_3 : decode cX8_countWith 3 = .ok (.istore 4, 2) := by decide +kernel
theorem dX8_countWith_5 : decode cX8_countWith 5 = .ok (.iload 4, 2) := by decide +kernel
theorem dX8_countWith_7 : decode cX8_countWith 7 = .ok (.aload_n 0, 1) := by decide +kernel
theorem dX8_countWith_8 : decode cX8_countWith 8 = .ok (.getfield 19, 3) := by decide +kernel
theorem dX8_countWith_11 : decode cX8_countWith 11 = .ok (.if_icmp .ge 23, 3) := by decide +kernel
theorem dX8_countWith_14 : decode cX8_countWith 14 = .ok (.aload_n 0, 1) := by decide +kernel
theorem dX8_countWith_15 : decode cX8_countWith 15 = .ok (.iload 4, 2) := by decide +kernel
theorem dX8_countWith_17 : decode cX8_countWith 17 = .ok (.iload_n 1, 1) := by decide +kernel
theorem dX8_countWith_18 : decode cX8_countWith 18 = .ok (.invokevirtual 22, 3) := by decide +kernel
theorem dX8_countWith_21 : decode cX8_countWith 21 = .ok (.iload_n 2, 1) := by decide +kernel
theorem dX8_countWith_22 : decode cX8_countWith 22 = .ok (.if_icmp .ne 6, 3) := by decide +kernel
theorem dX8_countWith_25 : decode cX8_countWith 25 = .ok (.iinc 3 1, 3) := by decide +kernel
theorem dX8_countWith_28 : decode cX8_countWith 28 = .ok (.iinc 4 1, 3) := by decide +kernel
theorem dX8_countWith_31 : decode cX8_countWith 31 = .ok (.goto (-26), 3) := by decide +kernel
theorem dX8_countWith_34 : decode cX8_countWith 34 = .ok (.iload_n 3, 1) := by decide +kernel
theorem dX8_countWith_35 : decode cX8_countWith 35 = .ok (.ireturn, 1) := by decide +kernel
theorem dX8_find_0 : decode cX8_find 0 = .ok (.iconst 0, 1) := by decide +kernel
theorem dX8_find_1 : decode cX8_find 1 = .ok (.istore_n 3, 1) := by decide +kernel
theorem dX8_find_2 : decode cX8_find 2 = .ok (.iload_n 3, 1) := by decide +kernel
theorem dX8_find_3 : decode cX8_find 3 = .ok (.aload_n 0, 1) := by decide +kernel
theorem dX8_find_4 : decode cX8_find 4 = .ok (.getfield 19, 3) := by decide +kernel
theorem dX8_find_7 : decode cX8_find 7 = .ok (.if_icmp .ge 21, 3) := by decide +kernel
theorem dX8_find_10 : decode cX8_find 10 = .ok (.aload_n 0, 1) := by decide +kernel
theorem dX8_find_11 : decode cX8_find 11 = .ok (.iload_n 3, 1) := by decide +kernel
theorem dX8_find_12 : decode cX8_find 12 = .ok (.iload_n 1, 1) := by decide +kernel
theorem dX8_find_13 : decode cX8_find 13 = .ok (.invokevirtual 22, 3) := by decide +kernel
theorem dX8_find_16 : decode cX8_find 16 = .ok (.iload_n 2, 1) := by decide +kernel
theorem dX8_find_17 : decode cX8_find 17 = .ok (.if_icmp .ne 5, 3) := by decide +kernel
theorem dX8_find_20 : decode cX8_find 20 = .ok (.iload_n 3, 1) := by decide +kernel
theorem dX8_find_21 : decode cX8_find 21 = .ok (.ireturn, 1) := by decide +kernel
theorem dX8_find_22 : decode cX8_find 22 = .ok (.iinc 3 1, 3) := by decide +kernel
theorem dX8_find_25 : decode cX8_find 25 = .ok (.goto (-23), 3) := by decide +kernel
theorem dX8_find_28 : decode cX8_find 28 = .ok (.iconst (-1), 1) := by decide +kernel
theorem dX8_find_29 : decode cX8_find 29 = .ok (.ireturn, 1) := by decide +kernel
theorem dX8_copy_0 : decode cX8_copy 0 = .ok (.aload_n 0, 1) := by decide +kernel
theorem dX8_copy_1 : decode cX8_copy 1 = .ok (.getfield 15, 3) := by decide +kernel
theorem dX8_copy_4 : decode cX8_copy 4 = .ok (.arraylength, 1) := by decide +kernel
theorem dX8_copy_5 : decode cX8_copy 5 = .ok (.aload_n 1, 1) := by decide +kernel
theorem dX8_copy_6 : decode cX8_copy 6 = .ok (.getfield 19, 3) := by decide +kernel
theorem dX8_copy_9 : decode cX8_copy 9 = .ok (.aload_n 1, 1) := by decide +kernel
theorem dX8_copy_10 : decode cX8_copy 10 = .ok (.getfield 9, 3) := by decide +kernel
theorem dX8_copy_13 : decode cX8_copy 13 = .ok (.imul, 1) := by decide +kernel
theorem dX8_copy_14 : decode cX8_copy 14 = .ok (.invokestatic 26, 3) := by decide +kernel
theorem dX8_copy_17 : decode cX8_copy 17 = .ok (.istore_n 2, 1) := by decide +kernel
theorem dX8_copy_18 : decode cX8_copy 18 = .ok (.aload_n 1, 1) := by decide +kernel
theorem dX8_copy_19 : decode cX8_copy 19 = .ok (.getfield 15, 3) := by decide +kernel
theorem dX8_copy_22 : decode cX8_copy 22 = .ok (.iconst 0, 1) := by decide +kernel
theorem dX8_copy_23 : decode cX8_copy 23 = .ok (.aload_n 0, 1) := by decide +kernel
theorem dX8_copy_24 : decode cX8_copy 24 = .ok (.getfield 15, 3) := by decide +kernel
theorem dX8_copy_27 : decode cX8_copy 27 = .ok (.iconst 0, 1) := by decide +kernel
theorem dX8_copy_28 : decode cX8_copy 28 = .ok (.iload_n 2, 1) := by decide +kernel
theorem dX8_copy_29 : decode cX8_copy 29 = .ok (.invokestatic 31, 3) := by decide +kernel
theorem dX8_copy_32 : decode cX8_copy 32 = .ok (.aload_n 0, 1) := by decide +kernel
theorem dX8_copy_33 : decode cX8_copy 33 = .ok (.aload_n 1, 1) := by decide +kernel
theorem dX8_copy_34 : decode cX8_copy 34 = .ok (.getfield 19, 3) := by decide +kernel
theorem dX8_copy_37 : decode cX8_copy 37 = .ok (.putfield 19, 3) := by decide +kernel
theorem dX8_copy_40 : decode cX8_copy 40 = .ok (.return_, 1) := by decide +kernel
theorem dX9_init_0 : decode cX9_init 0 = .ok (.aload_n 0, 1) := by decide +kernel
theorem dX9_init_1 : decode cX9_init 1 = .ok (.invokespecial 3, 3) := by decide +kernel
theorem dX9_init_4 : decode cX9_init 4 = .ok (.aload_n 0, 1) := by decide +kernel
theorem dX9_init_5 : decode cX9_init 5 = .ok (.bipush 8, 2) := by decide +kernel
theorem dX9_init_7 : decode cX9_init 7 = .ok (.newarray .int, 2) := by decide +kernel
theorem dX9_init_9 : decode cX9_init 9 = .ok (.putfield 9, 3) := by decide +kernel
theorem dX9_init_12 : decode cX9_init 12 = .ok (.aload_n 0, 1) := by decide +kernel
theorem dX9_init_13 : decode cX9_init 13 = .ok (.bipush 8, 2) := by decide +kernel
theorem dX9_init_15 : decode cX9_init 15 = .ok (.newarray .int, 2) := by decide +kernel
theorem dX9_init_17 : decode cX9_init 17 = .ok (.putfield 15, 3) := by decide +kernel
theorem dX9_init_20 : decode cX9_init 20 = .ok (.return_, 1) := by decide +kernel
theorem dX9_gotBy_0 : decode cX9_gotBy 0 = .ok (.iload_n 1, 1) := by decide +kernel
theorem dX9_gotBy_1 : decode cX9_gotBy 1 = .ok (.ifCond .lt 9, 3) := by decide +kernel
theorem dX9_gotBy_4 : decode cX9_gotBy 4 = .ok (.iload_n 1, 1) := by decide +kernel
theorem dX9_gotBy_5 : decode cX9_gotBy 5 = .ok (.bipush 8, 2) := by decide +kernel
theorem dX9_gotBy_7 : decode cX9_gotBy 7 = .ok (.if_icmp .lt 7, 3) := by decide +kernel
theorem dX9_gotBy_10 : decode cX9_gotBy 10 = .ok (.iconst (-1), 1) := by decide +kernel
theorem dX9_gotBy_11 : decode cX9_gotBy 11 = .ok (.goto 9, 3) := by decide +kernel
theorem dX9_gotBy_14 : decode cX9_gotBy 14 = .ok (.aload_n 0, 1) := by decide +kernel
theorem dX9_gotBy_15 : decode cX9_gotBy 15 = .ok (.getfield 15, 3) := by decide +kernel
theorem dX9_gotBy_18 : decode cX9_gotBy 18 = .ok (.iload_n 1, 1) := by decide +kernel
theorem dX9_gotBy_19 : decode cX9_gotBy 19 = .ok (.iaload, 1) := by decide +kernel
theorem dX9_gotBy_20 : decode cX9_gotBy 20 = .ok (.ireturn, 1) := by decide +kernel
theorem dX9_work_0 : decode cX9_work 0 = .ok (.aload_n 0, 1) := by decide +kernel
theorem dX9_work_1 : decode cX9_work 1 = .ok (.iconst 0, 1) := by decide +kernel
theorem dX9_work_2 : decode cX9_work 2 = .ok (.putfield 18, 3) := by decide +kernel
theorem dX9_work_5 : decode cX9_work 5 = .ok (.aload_n 0, 1) := by decide +kernel
theorem dX9_work_6 : decode cX9_work 6 = .ok (.iconst 0, 1) := by decide +kernel
theorem dX9_work_7 : decode cX9_work 7 = .ok (.putfield 22, 3) := by decide +kernel
theorem dX9_work_10 : decode cX9_work 10 = .ok (.aload_n 0, 1) := by decide +kernel
theorem dX9_work_11 : decode cX9_work 11 = .ok (.iconst 0, 1) := by decide +kernel
theorem dX9_work_12 : decode cX9_work 12 = .ok (.putfield 25, 3) := by decide +kernel
theorem dX9_work_15 : decode cX9_work 15 = .ok (.aload_n 0, 1) := by decide +kernel
theorem dX9_work_16 : decode cX9_work 16 = .ok (.iconst 0, 1) := by decide +kernel
theorem dX9_work_17 : decode cX9_work 17 = .ok (.putfield 28, 3) := by decide +kernel
theorem dX9_work_20 : decode cX9_work 20 = .ok (.iconst 0, 1) := by decide +kernel
theorem dX9_work_21 : decode cX9_work 21 = .ok (.istore_n 2, 1) := by decide +kernel
theorem dX9_work_22 : decode cX9_work 22 = .ok (.iload_n 2, 1) := by decide +kernel
theorem dX9_work_23 : decode cX9_work 23 = .ok (.bipush 8, 2) := by decide +kernel
theorem dX9_work_25 : decode cX9_work 25 = .ok (.if_icmp .ge 16, 3) := by decide +kernel
theorem dX9_work_28 : decode cX9_work 28 = .ok (.aload_n 0, 1) := by decide +kernel
theorem dX9_work_29 : decode cX9_work 29 = .ok (.getfield 15, 3) := by decide +kernel
theorem dX9_work_32 : decode cX9_work 32 = .ok (.iload_n 2, 1) := by decide +kernel
theorem dX9_work_33 : decode cX9_work 33 = .ok (.iconst (-1), 1) := by decide +kernel
theorem dX9_work_34 : decode cX9_work 34 = .ok (.iastore, 1) := by decide +kernel
theorem dX9_work_35 : decode cX9_work 35 = .ok (.iinc 2 1, 3) := by decide +kernel
theorem dX9_work_38 : decode cX9_work 38 = .ok (.goto (-16), 3) := by decide +kernel
theorem dX9_work_41 : decode cX9_work 41 = .ok (.iconst 0, 1) := by decide +kernel
theorem dX9_work_42 : decode cX9_work 42 = .ok (.istore_n 2, 1) := by decide +kernel
theorem dX9_work_43 : decode cX9_work 43 = .ok (.iload_n 2, 1) := by decide +kernel
theorem dX9_work_44 : decode cX9_work 44 = .ok (.aload_n 1, 1) := by decide +kernel
theorem dX9_work_45 : decode cX9_work 45 = .ok (.getfield 31, 3) := by decide +kernel
theorem dX9_work_48 : decode cX9_work 48 = .ok (.if_icmp .ge 34, 3) := by decide +kernel
theorem dX9_work_51 : decode cX9_work 51 = .ok (.aload_n 1, 1) := by decide +kernel
theorem dX9_work_52 : decode cX9_work 52 = .ok (.getfield 36, 3) := by decide +kernel
theorem dX9_work_55 : decode cX9_work 55 = .ok (.iload_n 2, 1) := by decide +kernel
theorem dX9_work_56 : decode cX9_work 56 = .ok (.aaload, 1) := by decide +kernel
theorem dX9_work_57 : decode cX9_work 57 = .ok (.getfield 40, 3) := by decide +kernel
theorem dX9_work_60 : decode cX9_work 60 = .ok (.iconst (-1), 1) := by decide +kernel
theorem dX9_work_61 : decode cX9_work 61 = .ok (.if_icmp .eq 15, 3) := by decide +kernel
theorem dX9_work_64 : decode cX9_work 64 = .ok (.aload_n 0, 1) := by decide +kernel
theorem dX9_work_65 : decode cX9_work 65 = .ok (.dup, 1) := by decide +kernel
theorem dX9_work_66 : decode cX9_work 66 = .ok (.getfield 18, 3) := by decide +kernel
theorem dX9_work_69 : decode cX9_work 69 = .ok (.iconst 1, 1) := by decide +kernel
theorem dX9_work_70 : decode cX9_work 70 = .ok (.iload_n 2, 1) := by decide +kernel
theorem dX9_work_71 : decode cX9_work 71 = .ok (.ishl, 1) := by decide +kernel
theorem dX9_work_72 : decode cX9_work 72 = .ok (.ior, 1) := by decide +kernel
theorem dX9_work_73 : decode cX9_work 73 = .ok (.putfield 18, 3) := by decide +kernel
theorem dX9_work_76 : decode cX9_work 76 = .ok (.iinc 2 1, 3) := by decide +kernel
theorem dX9_work_79 : decode cX9_work 79 = .ok (.goto (-36), 3) := by decide +kernel
theorem dX9_work_82 : decode cX9_work 82 = .ok (.iconst 0, 1) := by decide +kernel
theorem dX9_work_83 : decode cX9_work 83 = .ok (.istore_n 2, 1) := by decide +kernel
theorem dX9_work_84 : decode cX9_work 84 = .ok (.iload_n 2, 1) := by decide +kernel
theorem dX9_work_85 : decode cX9_work 85 = .ok (.bipush 8, 2) := by decide +kernel
theorem dX9_work_87 : decode cX9_work 87 = .ok (.if_icmp .ge 30, 3) := by decide +kernel
theorem dX9_work_90 : decode cX9_work 90 = .ok (.aload_n 0, 1) := by decide +kernel
theorem dX9_work_91 : decode cX9_work 91 = .ok (.getfield 18, 3) := by decide +kernel
theorem dX9_work_94 : decode cX9_work 94 = .ok (.ifCond .eq 23, 3) := by decide +kernel
theorem dX9_work_97 : decode cX9_work 97 = .ok (.aload_n 0, 1) := by decide +kernel
theorem dX9_work_98 : decode cX9_work 98 = .ok (.aload_n 1, 1) := by decide +kernel
theorem dX9_work_99 : decode cX9_work 99 = .ok (.invokevirtual 45, 3) := by decide +kernel
theorem dX9_work_102 : decode cX9_work 102 = .ok (.aload_n 0, 1) := by decide +kernel
theorem dX9_work_103 : decode cX9_work 103 = .ok (.aload_n 1, 1) := by decide +kernel
theorem dX9_work_104 : decode cX9_work 104 = .ok (.aload_n 0, 1) := by decide +kernel
theorem dX9_work_105 : decode cX9_work 105 = .ok (.invokevirtual 49, 3) := by decide +kernel
theorem dX9_work_108 : decode cX9_work 108 = .ok (.invokevirtual 53, 3) := by decide +kernel
theorem dX9_work_111 : decode cX9_work 111 = .ok (.iinc 2 1, 3) := by decide +kernel
theorem dX9_work_114 : decode cX9_work 114 = .ok (.goto (-30), 3) := by decide +kernel
theorem dX9_work_117 : decode cX9_work 117 = .ok (.return_, 1) := by decide +kernel
theorem dX9_isIn_0 : decode cX9_isIn 0 = .ok (.iload_n 1, 1) := by decide +kernel
theorem dX9_isIn_1 : decode cX9_isIn 1 = .ok (.ifCond .lt 24, 3) := by decide +kernel
theorem dX9_isIn_4 : decode cX9_isIn 4 = .ok (.iload_n 1, 1) := by decide +kernel
theorem dX9_isIn_5 : decode cX9_isIn 5 = .ok (.bipush 8, 2) := by decide +kernel
theorem dX9_isIn_7 : decode cX9_isIn 7 = .ok (.if_icmp .ge 18, 3) := by decide +kernel
theorem dX9_isIn_10 : decode cX9_isIn 10 = .ok (.aload_n 0, 1) := by decide +kernel
theorem dX9_isIn_11 : decode cX9_isIn 11 = .ok (.getfield 18, 3) := by decide +kernel
theorem dX9_isIn_14 : decode cX9_isIn 14 = .ok (.iconst 1, 1) := by decide +kernel
theorem dX9_isIn_15 : decode cX9_isIn 15 = .ok (.iload_n 1, 1) := by decide +kernel
theorem dX9_isIn_16 : decode cX9_isIn 16 = .ok (.ishl, 1) := by decide +kernel
theorem dX9_isIn_17 : decode cX9_isIn 17 = .ok (.iand, 1) := by decide +kernel
theorem dX9_isIn_18 : decode cX9_isIn 18 = .ok (.ifCond .eq 7, 3) := by decide +kernel
theorem dX9_isIn_21 : decode cX9_isIn 21 = .ok (.iconst 1, 1) := by decide +kernel
theorem dX9_isIn_22 : decode cX9_isIn 22 = .ok (.goto 4, 3) := by decide +kernel
theorem dX9_isIn_25 : decode cX9_isIn 25 = .ok (.iconst 0, 1) := by decide +kernel
theorem dX9_isIn_26 : decode cX9_isIn 26 = .ok (.ireturn, 1) := by decide +kernel
theorem dX9_lookOf_0 : decode cX9_lookOf 0 = .ok (.iload_n 1, 1) := by decide +kernel
theorem dX9_lookOf_1 : decode cX9_lookOf 1 = .ok (.ifCond .lt 9, 3) := by decide +kernel
theorem dX9_lookOf_4 : decode cX9_lookOf 4 = .ok (.iload_n 1, 1) := by decide +kernel
theorem dX9_lookOf_5 : decode cX9_lookOf 5 = .ok (.bipush 8, 2) := by decide +kernel
theorem dX9_lookOf_7 : decode cX9_lookOf 7 = .ok (.if_icmp .lt 7, 3) := by decide +kernel
theorem dX9_lookOf_10 : decode cX9_lookOf 10 = .ok (.iconst (-1), 1) := by decide +kernel
theorem dX9_lookOf_11 : decode cX9_lookOf 11 = .ok (.goto 9, 3) := by decide +kernel
theorem dX9_lookOf_14 : decode cX9_lookOf 14 = .ok (.aload_n 0, 1) := by decide +kernel
theorem dX9_lookOf_15 : decode cX9_lookOf 15 = .ok (.getfield 9, 3) := by decide +kernel
theorem dX9_lookOf_18 : decode cX9_lookOf 18 = .ok (.iload_n 1, 1) := by decide +kernel
theorem dX9_lookOf_19 : decode cX9_lookOf 19 = .ok (.iaload, 1) := by decide +kernel
theorem dX9_lookOf_20 : decode cX9_lookOf 20 = .ok (.ireturn, 1) := by decide +kernel
theorem dX9_lookRound_0 : decode cX9_lookRound 0 = .ok (.iconst 0, 1) := by decide +kernel
theorem dX9_lookRound_1 : decode cX9_lookRound 1 = .ok (.istore_n 2, 1) := by decide +kernel
theorem dX9_lookRound_2 : decode cX9_lookRound 2 = .ok (.iload_n 2, 1) := by decide +kernel
theorem dX9_lookRound_3 : decode cX9_lookRound 3 = .ok (.aload_n 1, 1) := by decide +kernel
theorem dX9_lookRound_4 : decode cX9_lookRound 4 = .ok (.getfield 31, 3) := by decide +kernel
theorem dX9_lookRound_7 : decode cX9_lookRound 7 = .ok (.if_icmp .ge 34, 3) := by decide +kernel
theorem dX9_lookRound_10 : decode cX9_lookRound 10 = .ok (.aload_n 0, 1) := by decide +kernel
theorem dX9_lookRound_11 : decode cX9_lookRound 11 = .ok (.iload_n 2, 1) := by decide +kernel
theorem dX9_lookRound_12 : decode cX9_lookRound 12 = .ok (.invokevirtual 57, 3) := by decide +kernel
theorem dX9_lookRound_15 : decode cX9_lookRound 15 = .ok (.ifCond .eq 20, 3) := by decide +kernel
theorem dX9_lookRound_18 : decode cX9_lookRound 18 = .ok (.aload_n 0, 1) := by decide +kernel
theorem dX9_lookRound_19 : decode cX9_lookRound 19 = .ok (.getfield 9, 3) := by decide +kernel
theorem dX9_lookRound_22 : decode cX9_lookRound 22 = .ok (.iload_n 2, 1) := by decide +kernel
theorem dX9_lookRound_23 : decode cX9_lookRound 23 = .ok (.aload_n 0, 1) := by decide +kernel
theorem dX9_lookRound_24 : decode cX9_lookRound 24 = .ok (.aload_n 1, 1) := by decide +kernel
theorem dX9_lookRound_25 : decode cX9_lookRound 25 = .ok (.aload_n 1, 1) := by decide +kernel
theorem dX9_lookRound_26 : decode cX9_lookRound 26 = .ok (.getfield 36, 3) := by decide +kernel
theorem dX9_lookRound_29 : decode cX9_lookRound 29 = .ok (.iload_n 2, 1) := by decide +kernel
theorem dX9_lookRound_30 : decode cX9_lookRound 30 = .ok (.aaload, 1) := by decide +kernel
theorem dX9_lookRound_31 : decode cX9_lookRound 31 = .ok (.invokevirtual 61, 3) := by decide +kernel
theorem dX9_lookRound_34 : decode cX9_lookRound 34 = .ok (.iastore, 1) := by decide +kernel
theorem dX9_lookRound_35 : decode cX9_lookRound 35 = .ok (.iinc 2 1, 3) := by decide +kernel
theorem dX9_lookRound_38 : decode cX9_lookRound 38 = .ok (.goto (-36), 3) := by decide +kernel
theorem dX9_lookRound_41 : decode cX9_lookRound 41 = .ok (.return_, 1) := by decide +kernel
theorem dX9_lookOfOne_0 : decode cX9_lookOfOne 0 = .ok (.iconst 0, 1) := by decide +kernel
theorem dX9_lookOfOne_1 : decode cX9_lookOfOne 1 = .ok (.istore_n 3, 1) := by decide +kernel
theorem dX9_lookOfOne_2 : decode cX9_lookOfOne 2 = .ok (.iload_n 3, 1) := by decide +kernel
theorem dX9_lookOfOne_3 : decode cX9_lookOfOne 3 = .ok (.aload_n 2, 1) := by decide +kernel
theorem dX9_lookOfOne_4 : decode cX9_lookOfOne 4 = .ok (.getfield 65, 3) := by decide +kernel
theorem dX9_lookOfOne_7 : decode cX9_lookOfOne 7 = .ok (.if_icmp .ge 52, 3) := by decide +kernel
theorem dX9_lookOfOne_10 : decode cX9_lookOfOne 10 = .ok (.aload_n 1, 1) := by decide +kernel
theorem dX9_lookOfOne_11 : decode cX9_lookOfOne 11 = .ok (.aload_n 2, 1) := by decide +kernel
theorem dX9_lookOfOne_12 : decode cX9_lookOfOne 12 = .ok (.iload_n 3, 1) := by decide +kernel
theorem dX9_lookOfOne_13 : decode cX9_lookOfOne 13 = .ok (.invokevirtual 68, 3) := by decide +kernel
theorem dX9_lookOfOne_16 : decode cX9_lookOfOne 16 = .ok (.invokevirtual 72, 3) := by decide +kernel
theorem dX9_lookOfOne_19 : decode cX9_lookOfOne 19 = .ok (.astore 4, 2) := by decide +kernel
theorem dX9_lookOfOne_21 : decode cX9_lookOfOne 21 = .ok (.aload 4, 2) := by decide +kernel
theorem dX9_lookOfOne_23 : decode cX9_lookOfOne 23 = .ok (.ifnull 30, 3) := by decide +kernel
theorem dX9_lookOfOne_26 : decode cX9_lookOfOne 26 = .ok (.aload_n 2, 1) := by decide +kernel
theorem dX9_lookOfOne_27 : decode cX9_lookOfOne 27 = .ok (.aload 4, 2) := by decide +kernel
theorem dX9_lookOfOne_29 : decode cX9_lookOfOne 29 = .ok (.invokevirtual 76, 3) := by decide +kernel
theorem dX9_lookOfOne_32 : decode cX9_lookOfOne 32 = .ok (.ifCond .eq 21, 3) := by decide +kernel
theorem dX9_lookOfOne_35 : decode cX9_lookOfOne 35 = .ok (.aload_n 0, 1) := by decide +kernel
theorem dX9_lookOfOne_36 : decode cX9_lookOfOne 36 = .ok (.aload 4, 2) := by decide +kernel
theorem dX9_lookOfOne_38 : decode cX9_lookOfOne 38 = .ok (.getfield 80, 3) := by decide +kernel
theorem dX9_lookOfOne_41 : decode cX9_lookOfOne 41 = .ok (.invokevirtual 57, 3) := by decide +kernel
theorem dX9_lookOfOne_44 : decode cX9_lookOfOne 44 = .ok (.ifCond .eq 9, 3) := by decide +kernel
theorem dX9_lookOfOne_47 : decode cX9_lookOfOne 47 = .ok (.aload 4, 2) := by decide +kernel
theorem dX9_lookOfOne_49 : decode cX9_lookOfOne 49 = .ok (.getfield 80, 3) := by decide +kernel
theorem dX9_lookOfOne_52 : decode cX9_lookOfOne 52 = .ok (.ireturn, 1) := by decide +kernel
theorem dX9_lookOfOne_53 : decode cX9_lookOfOne 53 = .ok (.iinc 3 1, 3) := by decide +kernel
theorem dX9_lookOfOne_56 : decode cX9_lookOfOne 56 = .ok (.goto (-54), 3) := by decide +kernel
theorem dX9_lookOfOne_59 : decode cX9_lookOfOne 59 = .ok (.aload_n 2, 1) := by decide +kernel
theorem dX9_lookOfOne_60 : decode cX9_lookOfOne 60 = .ok (.getfield 85, 3) := by decide +kernel
theorem dX9_lookOfOne_63 : decode cX9_lookOfOne 63 = .ok (.ireturn, 1) := by decide +kernel
theorem dX9_someoneInCircle_0 : decode cX9_someoneInCircle 0 = .ok (.aload_n 0, 1) := by decide +kernel
theorem dX9_someoneInCircle_1 : decode cX9_someoneInCircle 1 = .ok (.getfield 18, 3) := by decide +kernel
theorem dX9_someoneInCircle_4 : decode cX9_someoneInCircle 4 = .ok (.invokestatic 88, 3) := by decide +kernel
theorem dX9_someoneInCircle_7 : decode cX9_someoneInCircle 7 = .ok (.istore_n 1, 1) := by decide +kernel
theorem dX9_someoneInCircle_8 : decode cX9_someoneInCircle 8 = .ok (.iconst 0, 1) := by decide +kernel
theorem dX9_someoneInCircle_9 : decode cX9_someoneInCircle 9 = .ok (.istore_n 2, 1) := by decide +kernel
theorem dX9_someoneInCircle_10 : decode cX9_someoneInCircle 10 = .ok (.iload_n 2, 1) := by decide +kernel
theorem dX9_someoneInCircle_11 : decode cX9_someoneInCircle 11 = .ok (.bipush 8, 2) := by decide +kernel
theorem dX9_someoneInCircle_13 : decode cX9_someoneInCircle 13 = .ok (.if_icmp .ge 15, 3) := by decide +kernel
theorem dX9_someoneInCircle_16 : decode cX9_someoneInCircle 16 = .ok (.aload_n 0, 1) := by decide +kernel
theorem dX9_someoneInCircle_17 : decode cX9_someoneInCircle 17 = .ok (.iload_n 1, 1) := by decide +kernel
theorem dX9_someoneInCircle_18 : decode cX9_someoneInCircle 18 = .ok (.invokevirtual 93, 3) := by decide +kernel
theorem dX9_someoneInCircle_21 : decode cX9_someoneInCircle 21 = .ok (.istore_n 1, 1) := by decide +kernel
theorem dX9_someoneInCircle_22 : decode cX9_someoneInCircle 22 = .ok (.iinc 2 1, 3) := by decide +kernel
theorem dX9_someoneInCircle_25 : decode cX9_someoneInCircle 25 = .ok (.goto (-15), 3) := by decide +kernel
theorem dX9_someoneInCircle_28 : decode cX9_someoneInCircle 28 = .ok (.iload_n 1, 1) := by decide +kernel
theorem dX9_someoneInCircle_29 : decode cX9_someoneInCircle 29 = .ok (.ireturn, 1) := by decide +kernel
theorem dX9_tradeCircle_0 : decode cX9_tradeCircle 0 = .ok (.iconst 0, 1) := by decide +kernel
theorem dX9_tradeCircle_1 : decode cX9_tradeCircle 1 = .ok (.istore_n 3, 1) := by decide +kernel
theorem dX9_tradeCircle_2 : decode cX9_tradeCircle 2 = .ok (.iload_n 2, 1) := by decide +kernel
theorem dX9_tradeCircle_3 : decode cX9_tradeCircle 3 = .ok (.istore 4, 2) := by decide +kernel
theorem dX9_tradeCircle_5 : decode cX9_tradeCircle 5 = .ok (.iconst 0, 1) := by decide +kernel
theorem dX9_tradeCircle_6 : decode cX9_tradeCircle 6 = .ok (.istore 5, 2) := by decide +kernel
theorem dX9_tradeCircle_8 : decode cX9_tradeCircle 8 = .ok (.iload 5, 2) := by decide +kernel
theorem dX9_tradeCircle_10 : decode cX9_tradeCircle 10 = .ok (.bipush 8, 2) := by decide +kernel
theorem dX9_tradeCircle_12 : decode cX9_tradeCircle 12 = .ok (.if_icmp .ge 73, 3) := by decide +kernel
theorem dX9_tradeCircle_15 : decode cX9_tradeCircle 15 = .ok (.aload_n 0, 1) := by decide +kernel
theorem dX9_tradeCircle_16 : decode cX9_tradeCircle 16 = .ok (.iload 4, 2) := by decide +kernel
theorem dX9_tradeCircle_18 : decode cX9_tradeCircle 18 = .ok (.invokevirtual 57, 3) := by decide +kernel
theorem dX9_tradeCircle_21 : decode cX9_tradeCircle 21 = .ok (.ifCond .eq 64, 3) := by decide +kernel
theorem dX9_tradeCircle_24 : decode cX9_tradeCircle 24 = .ok (.aload_n 1, 1) := by decide +kernel
theorem dX9_tradeCircle_25 : decode cX9_tradeCircle 25 = .ok (.aload_n 0, 1) := by decide +kernel
theorem dX9_tradeCircle_26 : decode cX9_tradeCircle 26 = .ok (.iload 4, 2) := by decide +kernel
theorem dX9_tradeCircle_28 : decode cX9_tradeCircle 28 = .ok (.invokevirtual 93, 3) := by decide +kernel
theorem dX9_tradeCircle_31 : decode cX9_tradeCircle 31 = .ok (.invokevirtual 96, 3) := by decide +kernel
theorem dX9_tradeCircle_34 : decode cX9_tradeCircle 34 = .ok (.astore 6, 2) := by decide +kernel
theorem dX9_tradeCircle_36 : decode cX9_tradeCircle 36 = .ok (.aload 6, 2) := by decide +kernel
theorem dX9_tradeCircle_38 : decode cX9_tradeCircle 38 = .ok (.ifnonnull 4, 3) := by decide +kernel
theorem dX9_tradeCircle_41 : decode cX9_tradeCircle 41 = .ok (.return_, 1) := by decide +kernel
theorem dX9_tradeCircle_42 : decode cX9_tradeCircle 42 = .ok (.aload_n 0, 1) := by decide +kernel
theorem dX9_tradeCircle_43 : decode cX9_tradeCircle 43 = .ok (.getfield 15, 3) := by decide +kernel
theorem dX9_tradeCircle_46 : decode cX9_tradeCircle 46 = .ok (.iload 4, 2) := by decide +kernel
theorem dX9_tradeCircle_48 : decode cX9_tradeCircle 48 = .ok (.aload 6, 2) := by decide +kernel
theorem dX9_tradeCircle_50 : decode cX9_tradeCircle 50 = .ok (.getfield 40, 3) := by decide +kernel
theorem dX9_tradeCircle_53 : decode cX9_tradeCircle 53 = .ok (.iastore, 1) := by decide +kernel
theorem dX9_tradeCircle_54 : decode cX9_tradeCircle 54 = .ok (.aload_n 0, 1) := by decide +kernel
theorem dX9_tradeCircle_55 : decode cX9_tradeCircle 55 = .ok (.dup, 1) := by decide +kernel
theorem dX9_tradeCircle_56 : decode cX9_tradeCircle 56 = .ok (.getfield 18, 3) := by decide +kernel
theorem dX9_tradeCircle_59 : decode cX9_tradeCircle 59 = .ok (.iconst 1, 1) := by decide +kernel
theorem dX9_tradeCircle_60 : decode cX9_tradeCircle 60 = .ok (.iload 4, 2) := by decide +kernel
theorem dX9_tradeCircle_62 : decode cX9_tradeCircle 62 = .ok (.ishl, 1) := by decide +kernel
theorem dX9_tradeCircle_63 : decode cX9_tradeCircle 63 = .ok (.iconst (-1), 1) := by decide +kernel
theorem dX9_tradeCircle_64 : decode cX9_tradeCircle 64 = .ok (.ixor, 1) := by decide +kernel
theorem dX9_tradeCircle_65 : decode cX9_tradeCircle 65 = .ok (.iand, 1) := by decide +kernel
theorem dX9_tradeCircle_66 : decode cX9_tradeCircle 66 = .ok (.putfield 18, 3) := by decide +kernel
theorem dX9_tradeCircle_69 : decode cX9_tradeCircle 69 = .ok (.iinc 3 1, 3) := by decide +kernel
theorem dX9_tradeCircle_72 : decode cX9_tradeCircle 72 = .ok (.aload 6, 2) := by decide +kernel
theorem dX9_tradeCircle_74 : decode cX9_tradeCircle 74 = .ok (.getfield 85, 3) := by decide +kernel
theorem dX9_tradeCircle_77 : decode cX9_tradeCircle 77 = .ok (.istore 4, 2) := by decide +kernel
theorem dX9_tradeCircle_79 : decode cX9_tradeCircle 79 = .ok (.iinc 5 1, 3) := by decide +kernel
theorem dX9_tradeCircle_82 : decode cX9_tradeCircle 82 = .ok (.goto (-74), 3) := by decide +kernel
theorem dX9_tradeCircle_85 : decode cX9_tradeCircle 85 = .ok (.aload_n 0, 1) := by decide +kernel
theorem dX9_tradeCircle_86 : decode cX9_tradeCircle 86 = .ok (.aload_n 0, 1) := by decide +kernel
theorem dX9_tradeCircle_87 : decode cX9_tradeCircle 87 = .ok (.getfield 28, 3) := by decide +kernel
theorem dX9_tradeCircle_90 : decode cX9_tradeCircle 90 = .ok (.iload_n 3, 1) := by decide +kernel
theorem dX9_tradeCircle_91 : decode cX9_tradeCircle 91 = .ok (.invokestatic 100, 3) := by decide +kernel
theorem dX9_tradeCircle_94 : decode cX9_tradeCircle 94 = .ok (.putfield 28, 3) := by decide +kernel
theorem dX9_tradeCircle_97 : decode cX9_tradeCircle 97 = .ok (.iload_n 3, 1) := by decide +kernel
theorem dX9_tradeCircle_98 : decode cX9_tradeCircle 98 = .ok (.iconst 1, 1) := by decide +kernel
theorem dX9_tradeCircle_99 : decode cX9_tradeCircle 99 = .ok (.if_icmp .le 23, 3) := by decide +kernel
theorem dX9_tradeCircle_102 : decode cX9_tradeCircle 102 = .ok (.aload_n 0, 1) := by decide +kernel
theorem dX9_tradeCircle_103 : decode cX9_tradeCircle 103 = .ok (.dup, 1) := by decide +kernel
theorem dX9_tradeCircle_104 : decode cX9_tradeCircle 104 = .ok (.getfield 25, 3) := by decide +kernel
theorem dX9_tradeCircle_107 : decode cX9_tradeCircle 107 = .ok (.iconst 1, 1) := by decide +kernel
theorem dX9_tradeCircle_108 : decode cX9_tradeCircle 108 = .ok (.iadd, 1) := by decide +kernel
theorem dX9_tradeCircle_109 : decode cX9_tradeCircle 109 = .ok (.putfield 25, 3) := by decide +kernel
theorem dX9_tradeCircle_112 : decode cX9_tradeCircle 112 = .ok (.aload_n 0, 1) := by decide +kernel
theorem dX9_tradeCircle_113 : decode cX9_tradeCircle 113 = .ok (.dup, 1) := by decide +kernel
theorem dX9_tradeCircle_114 : decode cX9_tradeCircle 114 = .ok (.getfield 22, 3) := by decide +kernel
theorem dX9_tradeCircle_117 : decode cX9_tradeCircle 117 = .ok (.iload_n 3, 1) := by decide +kernel
theorem dX9_tradeCircle_118 : decode cX9_tradeCircle 118 = .ok (.iadd, 1) := by decide +kernel
theorem dX9_tradeCircle_119 : decode cX9_tradeCircle 119 = .ok (.putfield 22, 3) := by decide +kernel
theorem dX9_tradeCircle_122 : decode cX9_tradeCircle 122 = .ok (.return_, 1) := by decide +kernel
